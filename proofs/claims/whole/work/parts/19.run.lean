/-! CALLS AND RETURNS; the run. A method: its name, bytes, locals, what it returns, its instructions with their links. -/
/-- what a run leaves: its answer, the heap; what it asked: cells, slots, frames, words of locals -/
abbrev rm_R : Type := Option Value × rm_H × Nat × Nat × Nat × Nat
def rm_fnd : List (Nat × Instr × Nat × List Nat) → Nat → Option (Instr × Nat × List Nat)
  | [], _ => none
  | q :: r, pc => if q.1 = pc then some q.2 else rm_fnd r pc
def rm_rt (ret : Option FieldType) (x : Int32) : Bool := match ret with
  | some .int => true
  | some .boolean => decide (x = 0) || decide (x = 1)
  | some .byte => decide (x.toInt8.toInt32 = x)
  | some .char => decide (x.toUInt32.toUInt16.toUInt32.toInt32 = x)
  | _ => false
def rm_ret (ret : Option FieldType) (ins : Instr) (len : Nat) (st : List Value) : Option (Option Value) := match ins with
  | .return_ => if len = 1 then (match ret, st with
    | none, [] => some none
    | _, _ => none) else none
  | .ireturn => if len = 1 then (match st with
    | [.int x] => if rm_rt ret x = true then some (some (.int x)) else none
    | _ => none) else none
  | .lreturn => if len = 1 then (match ret, st with
    | some .long, [.long x] => some (some (.long x))
    | _, _ => none) else none
  | .areturn => if len = 1 then (match ret, st with
    | some (.object _), [.ref x] => some (some (.ref x))
    | some (.object _), [.null] => some (some .null)
    | some (.array _), [.ref x] => some (some (.ref x))
    | some (.array _), [.null] => some (some .null)
    | _, _ => none) else none
  | _ => none
def rm_cis (n0 : Nat) (O : Nat → Option rm_E) (h : rm_H) (b : Nat) (cis : List Nat) : Bool := match rm_look n0 O h b with
  | some (.inr (ci, _)) => cis.contains ci
  | _ => false
/-- a call: which method, its arguments (what it is called on first), what is left on the stack. Kinds: 0 static, 1 a nest mate's static, 2 a constructor, 4 of the superclass, 5 virtual, 6 inherited, 7 by an interface, 8 overriding, 9 of a class above, seen there alone -/
def rm_call (P : List rm_M) (n0 : Nat) (O : Nat → Option rm_E) (ins : Instr) (len : Nat) (lk : List Nat) (st : List Value) (h : rm_H) : Option (rm_M × List Value × List Value) := match lk with
  | mi :: kind :: n :: cis => (match P[mi]? with
    | some M => if n ≤ st.length then (match ins with
      | .invokestatic _ => if len = 3 ∧ (kind = 0 ∨ kind = 1) then some (M, (st.take n).reverse, st.drop n) else none
      | .invokespecial _ => (match st.drop n with
        | .ref b :: rest => if len = 3 ∧ (kind = 2 ∨ (kind = 4 ∧ rm_cis n0 O h b cis = true)) then some (M, .ref b :: (st.take n).reverse, rest) else none
        | _ => none)
      | .invokevirtual _ => (match st.drop n with
        | .ref b :: rest => if len = 3 ∧ (kind = 5 ∨ kind = 6 ∨ kind = 8 ∨ kind = 9) ∧ rm_cis n0 O h b cis = true then some (M, .ref b :: (st.take n).reverse, rest) else none
        | _ => none)
      | .invokeinterface _ _ => (match st.drop n with
        | .ref b :: rest => if len = 5 ∧ kind = 7 ∧ rm_cis n0 O h b cis = true then some (M, .ref b :: (st.take n).reverse, rest) else none
        | _ => none)
      | _ => none) else none
    | none => none)
  | _ => none
def rm_ok8 (M : rm_M) (As rest : List Value) : Bool := decide ((lg_sl As).length ≤ M.2.2.1) && decide ((rest.map fun v => v.category).sum ≤ 8)
def rm_s (g : Nat → Bool) (n0 : Nat) (O : Nat → Option rm_E) (Z : Nat → Value) (TY : List FieldType) (FT : Nat → Nat → FieldType) (DV : Nat → List Value) (CA : Nat → Nat → Bool) (nL : Nat) (ins : Instr) (len : Nat) (lk : List Nat) (pc : Nat) (lv : rm_L) (st : List Value) (h : rm_H) : Option (Nat × rm_L × List Value × rm_H × Nat × Nat) :=
  match rm_sA g nL ins len pc lv st with
  | some r => some (r.1, r.2.1, r.2.2, h, 0, 0)
  | none => match rm_sB n0 O Z TY ins len lk pc lv st h with
    | some r => some (r.1, r.2.1, r.2.2, h, 0, 0)
    | none => rm_sC n0 O TY FT DV CA ins len lk pc lv st h
/-- n bytes from a place on are bytes -/
def rm_fa (f : Nat → Int32) (sp n : Nat) : Bool := (List.range n).all (fun i => fits .byte (.int (f (sp + i))))
/-- Object's constructor, and arraycopy within one type of numbers: links [0] and [1] -/
def rm_sD (n0 : Nat) (O : Nat → Option rm_E) (TY : List FieldType) (ins : Instr) (len : Nat) (lk : List Nat) (st : List Value) (h : rm_H) : Option (List Value × rm_H) := match ins with
  | .invokespecial _ => (match lk, st with
    | [0], .ref _ :: r => if len = 3 ∧ (r.map fun v => v.category).sum ≤ 8 then some (r, h) else none
    | _, _ => none)
  | .invokestatic _ => (match lk, st with
    | [1], .int n :: .int dp :: .ref a :: .int sp :: .ref a0 :: r => if len = 3 ∧ (r.map fun v => v.category).sum ≤ 8 ∧ n0 ≤ a ∧ ¬ sp < 0 ∧ ¬ dp < 0 ∧ ¬ n < 0 then (match h[a - n0]?, h[a0 - n0]? with
      | some (.inl (t, m, .inl f)), some (.inl (t2, m2, .inl f2)) => if n0 ≤ a0 ∧ t = t2 ∧ (TY[t]? = some .int ∨ (TY[t]? = some .byte ∧ rm_fa f2 sp.toNatClampNeg n.toNatClampNeg = true)) ∧ sp.toNatClampNeg + n.toNatClampNeg ≤ m2 ∧ dp.toNatClampNeg + n.toNatClampNeg ≤ m then some (r, h.set (a - n0) (.inl (t, m, .inl (va_cpy f2 f sp.toNatClampNeg dp.toNatClampNeg n.toNatClampNeg)))) else none
      | _, _ => none) else none
    | _, _ => none)
  | .checkcast _ => (match lk, st with
    | [77], .ref a :: r => if len = 3 ∧ n0 ≤ a then (match h[a - n0]? with
      | some (.inl (t, _, .inl _)) => if TY[t]? = some .byte then some (.ref a :: r, h) else none
      | _ => none) else none
    | _, _ => none)
  | _ => none
/-- an array of bytes, its clone -/
def rm_clN : MethodName := ⟨"[B", "clone", "()Ljava/lang/Object;"⟩
def rm_clO : MethodName := ⟨"java/lang/Object", "clone", "()Ljava/lang/Object;"⟩
/-- Arrays.copyOf of objects -/
def rm_cpN : MethodName := ⟨"java/util/Arrays", "copyOf", "([Ljava/lang/Object;I)[Ljava/lang/Object;"⟩
/-- the first k elements may stand in an array of component type t -/
def rm_el (n0 : Nat) (O : Nat → Option rm_E) (CA : Nat → Nat → Bool) (h : rm_H) (t : Nat) (f : Nat → Option Nat) (k : Nat) : Bool := (List.range k).all (fun i => match f i with
  | none => true
  | some b => match rm_look n0 O h b with
    | some (.inr (ci, _)) => CA ci t
    | _ => false)
def rm_cpA (t n m : Nat) (f : Nat → Option Nat) : rm_E := .inl (t, n, .inr (.inr (.inr (.inr (va_cpy f (fun _ => none) 0 0 m)))))
/-- a longer copy of an array of objects: links [2, t]; a clone of an array of bytes: [3] (and its cast: [77]) -/
def rm_sE (n0 : Nat) (O : Nat → Option rm_E) (TY : List FieldType) (CA : Nat → Nat → Bool) (ins : Instr) (len : Nat) (lk : List Nat) (st : List Value) (h : rm_H) : Option (List Value × rm_H × Nat) := match ins with
  | .invokestatic _ => (match lk, st with
    | [2, t], .int n :: .ref a :: r => if len = 3 ∧ (r.map fun v => v.category).sum ≤ 8 ∧ n0 ≤ a ∧ ¬ n < 0 ∧ n.toNatClampNeg * 4 ≤ 536870912 ∧ TY[t]? = some (.object "java/lang/Object") then (match h[a - n0]? with
      | some (.inl (t2, m, .inr (.inr (.inr (.inr f))))) => if t2 = t ∧ m ≤ n.toNatClampNeg ∧ rm_el n0 O CA h t f m = true then some (.ref (n0 + h.length) :: r, h ++ [rm_cpA t n.toNatClampNeg m f], n.toNatClampNeg) else none
      | _ => none) else none
    | _, _ => none)
  | .invokevirtual _ => (match lk, st with
    | [3], .ref a :: r => if len = 3 ∧ (r.map fun v => v.category).sum ≤ 8 ∧ n0 ≤ a then (match h[a - n0]? with
      | some (.inl (t, m, .inl f)) => if TY[t]? = some .byte ∧ rm_fa f 0 m = true then some (.ref (n0 + h.length) :: r, h ++ [.inl (t, m, .inl f)], m) else none
      | _ => none) else none
    | _, _ => none)
  | _ => none
def rm_run (P : List rm_M) (g : Nat → Bool) (n0 : Nat) (O : Nat → Option rm_E) (Z : Nat → Value) (TY : List FieldType) (FT : Nat → Nat → FieldType) (DV : Nat → List Value) (CA : Nat → Nat → Bool) : Nat → rm_M → Nat → rm_L → List Value → rm_H → Option rm_R
  | 0, _, _, _, _, _ => none
  | f + 1, M, pc, lv, st, h => match rm_fnd M.2.2.2.2 pc with
    | none => none
    | some i => match rm_ret M.2.2.2.1 i.1 i.2.1 st with
      | some v => some (v, h, 0, 0, 0, 0)
      | none => match rm_call P n0 O i.1 i.2.1 i.2.2 st h with
        | some k => if rm_ok8 k.1 k.2.1 k.2.2 = true then (match rm_run P g n0 O Z TY FT DV CA f k.1 0 (lv_args 0 k.2.1) [] h with
          | none => none
          | some a => match rm_run P g n0 O Z TY FT DV CA f M (pc + i.2.1) lv (a.1.toList ++ k.2.2) a.2.1 with
            | none => none
            | some b => some (b.1, b.2.1, a.2.2.1 + b.2.2.1, a.2.2.2.1 + b.2.2.2.1, max (a.2.2.2.2.1 + 1) b.2.2.2.2.1, max (8 + (k.1.2.2.1 + 11) + a.2.2.2.2.2) b.2.2.2.2.2)) else none
        | none => match rm_sD n0 O TY i.1 i.2.1 i.2.2 st h with
          | some k => (match rm_run P g n0 O Z TY FT DV CA f M (pc + 3) lv k.1 k.2 with
            | none => none
            | some b => some (b.1, b.2.1, b.2.2.1, b.2.2.2.1, max 1 b.2.2.2.2.1, max 100 b.2.2.2.2.2))
          | none => match rm_s g n0 O Z TY FT DV CA M.2.2.1 i.1 i.2.1 i.2.2 pc lv st h with
            | none => (match rm_sE n0 O TY CA i.1 i.2.1 i.2.2 st h with
              | none => none
              | some k => match rm_run P g n0 O Z TY FT DV CA f M (pc + 3) lv k.1 k.2.1 with
                | none => none
                | some b => some (b.1, b.2.1, 1 + b.2.2.1, k.2.2 + b.2.2.2.1, max 3 b.2.2.2.2.1, max 100 b.2.2.2.2.2))
            | some k => match rm_run P g n0 O Z TY FT DV CA f M k.1 k.2.1 k.2.2.1 k.2.2.2.1 with
              | none => none
              | some b => some (b.1, b.2.1, k.2.2.2.2.1 + b.2.2.1, k.2.2.2.2.2 + b.2.2.2.1, b.2.2.2.2.1, b.2.2.2.2.2)
/-- what the tables say of a method's call -/
def rm_cd (y : MethodName) (n : Nat) : Prop := y.cls ≠ "java/lang/invoke/MethodHandle" ∧ y.cls ≠ "java/lang/invoke/VarHandle" ∧ (parseMethodDescriptor y.desc).map (fun d => d.parameters.length) = some n
def rm_k0 (Tg : List Cond) (own : String) (idx : Nat) (y : MethodName) (n : Nat) : Prop := rm_cd y n ∧ Cond.methodLink own idx y ∈ Tg ∧ Cond.static y ∈ Tg ∧ Cond.initialized y.cls ∈ Tg
def rm_k1 (Tg Tb : List Cond) (own : String) (idx : Nat) (y : MethodName) (n : Nat) : Prop := rm_cd y n ∧ (∃ host, Cond.methodLinkNest own idx y host ∈ Tb) ∧ Cond.static y ∈ Tg ∧ Cond.initialized y.cls ∈ Tg
def rm_k2 (Tg : List Cond) (own : String) (idx : Nat) (y : MethodName) (n : Nat) : Prop := rm_cd y n ∧ y.name = "<init>" ∧ Cond.methodLink own idx y ∈ Tg ∧ Cond.instanceMethod y ∈ Tg ∧ Cond.initialized y.cls ∈ Tg
def rm_k4 (Tg : List Cond) (cl : List vw_C) (own : String) (idx : Nat) (y : MethodName) (n ci : Nat) : Prop := (∃ r : vw_C, cl[ci]? = some r) ∧ rm_cd y n ∧ y.name ≠ "<init>" ∧ Cond.methodLink own idx y ∈ Tg ∧ Cond.sameMethod y.cls y.cls y.name y.desc ∈ Tg ∧ Cond.superclass own y.cls ∈ Tg ∧ Cond.instanceMethod y ∈ Tg ∧ Cond.initialized y.cls ∈ Tg
def rm_k5 (Tg : List Cond) (cl : List vw_C) (own : String) (idx : Nat) (y : MethodName) (n ci : Nat) : Prop := ∃ r : vw_C, cl[ci]? = some r ∧ y.cls = r.1 ∧ rm_cd y n ∧ Cond.methodLink own idx y ∈ Tg ∧ Cond.instanceMethod y ∈ Tg ∧ Cond.selects r.1 y y ∈ Tg ∧ Cond.initialized r.1 ∈ Tg
def rm_k6 (Tg : List Cond) (cl : List vw_C) (own : String) (idx : Nat) (y : MethodName) (n ci : Nat) : Prop := ∃ (r : vw_C) (x : MethodName), cl[ci]? = some r ∧ y = ⟨y.cls, x.name, x.desc⟩ ∧ rm_cd y n ∧ Cond.methodLink own idx x ∈ Tg ∧ Cond.sameMethod x.cls y.cls x.name x.desc ∈ Tg ∧ Cond.selects r.1 x y ∈ Tg ∧ Cond.instanceMethod y ∈ Tg ∧ Cond.initialized y.cls ∈ Tg
def rm_k7 (Tg Tb : List Cond) (cl : List vw_C) (own : String) (idx : Nat) (y : MethodName) (n ci : Nat) : Prop := ∃ (r : vw_C) (x : MethodName), cl[ci]? = some r ∧ rm_cd x n ∧ Cond.methodLink own idx x ∈ Tg ∧ Cond.selects r.1 x y ∈ Tg ∧ Cond.instanceMethod y ∈ Tg ∧ Cond.initialized y.cls ∈ Tg ∧ Cond.declares x ∈ Tb ∧ Cond.interfaceMethod x.cls x.cls x.name x.desc ∈ Tb ∧ Cond.publicMethod y ∈ Tb ∧ Cond.unhidden r.1 x.name x.desc ∈ Tb ∧ Cond.castable r.1 x.cls ∈ Tb
def rm_k8 (Tg : List Cond) (cl : List vw_C) (own : String) (idx : Nat) (y : MethodName) (n ci : Nat) : Prop := ∃ (r : vw_C) (x x0 y0 : MethodName) (b0 : ByteArray) (m0 : Nat) (r0 : Option FieldType), cl[ci]? = some r ∧ rm_cd x n ∧ Cond.methodLink own idx x ∈ Tg ∧ Cond.instanceMethod x ∈ Tg ∧ Cond.code x b0 m0 r0 ∈ Tg ∧ Cond.selects r.1 x y ∈ Tg ∧ Cond.selects r.1 x0 y0 ∈ Tg ∧ y0.cls = x.cls ∧ Cond.instanceMethod y ∈ Tg ∧ Cond.initialized y.cls ∈ Tg
def rm_k9 (Tg Tb : List Cond) (cl : List vw_C) (own : String) (idx : Nat) (y : MethodName) (n ci : Nat) : Prop := ∃ (r : vw_C) (x0 y0 : MethodName), cl[ci]? = some r ∧ rm_cd y n ∧ Cond.methodLink own idx y ∈ Tg ∧ Cond.instanceMethod y ∈ Tg ∧ Cond.privateMethod y ∈ Tb ∧ Cond.selects r.1 x0 y0 ∈ Tg ∧ y0.cls = y.cls ∧ Cond.initialized y.cls ∈ Tg
def rm_lkI (Tg Tb : List Cond) (cl : List vw_C) (P : List rm_M) (own : String) (ins : Instr) (lk : List Nat) : Prop := ∀ (mi kind n : Nat) (cis : List Nat) (M : rm_M), lk = mi :: kind :: n :: cis → P[mi]? = some M → match ins with
  | .invokestatic idx => (kind = 0 → rm_k0 Tg own idx M.1 n) ∧ (kind = 1 → rm_k1 Tg Tb own idx M.1 n)
  | .invokespecial idx => (kind = 2 → rm_k2 Tg own idx M.1 n ∧ M.2.2.2.1 = none) ∧ (kind = 4 → ∀ ci ∈ cis, rm_k4 Tg cl own idx M.1 n ci)
  | .invokevirtual idx => (kind = 5 → ∀ ci ∈ cis, rm_k5 Tg cl own idx M.1 n ci) ∧ (kind = 6 → ∀ ci ∈ cis, rm_k6 Tg cl own idx M.1 n ci) ∧ (kind = 8 → ∀ ci ∈ cis, rm_k8 Tg cl own idx M.1 n ci) ∧ (kind = 9 → ∀ ci ∈ cis, rm_k9 Tg Tb cl own idx M.1 n ci)
  | .invokeinterface idx _ => kind = 7 → ∀ ci ∈ cis, rm_k7 Tg Tb cl own idx M.1 n ci
  | _ => True
/-- what the tables say of Object's constructor and of arraycopy -/
def rm_lkD (Tg Tb : List Cond) (own : String) (ins : Instr) (lk : List Nat) : Prop := match ins with
  | .invokespecial idx => lk = [0] → Cond.methodLink own idx objectInit ∈ Tg ∧ Cond.instanceMethod objectInit ∈ Tg ∧ Cond.code objectInit ⟨#[0xb1]⟩ 1 none ∈ Tg
  | .invokestatic idx => (lk = [1] → Cond.methodLink own idx arraycopyName ∈ Tg ∧ Cond.native arraycopyName ∈ Tg ∧ Cond.static arraycopyName ∈ Tg ∧ Cond.initialized "java/lang/System" ∈ Tg) ∧ ∀ t : Nat, lk = [2, t] → rm_k0 Tg own idx rm_cpN 2 ∧ Cond.code rm_cpN prog_29_method_119_code 2 (some (.array (.object "java/lang/Object"))) ∈ Tg
  | .checkcast idx => lk = [77] → Cond.classLink own idx "[B" ∈ Tg
  | .invokevirtual idx => lk = [3] → Cond.methodLink own idx rm_clN ∈ Tg ∧ Cond.sameMethod "[B" "java/lang/Object" "clone" "()Ljava/lang/Object;" ∈ Tg ∧ Cond.native rm_clO ∈ Tg ∧ Cond.instanceMethod rm_clO ∈ Tg ∧ Cond.selects "[B" rm_clN rm_clO ∈ Tg ∧ Cond.castable "[B" "java/lang/Cloneable" ∈ Tb
  | _ => True
/-- a method's rows are as its bytes and the tables say -/
def rm_Mrw (Tg Tb : List Cond) (cl : List vw_C) (TY : List FieldType) (DV : Nat → List Value) (strs : List (String × Nat × String × Nat)) (stats : List (String × String × String × Nat)) (P : List rm_M) (M : rm_M) : Prop :=
  ∀ (pc : Nat) (i : Instr × Nat × List Nat), rm_fnd M.2.2.2.2 pc = some i → decode M.2.1 pc = .ok (i.1, i.2.1) ∧ rm_lkB (Tg ++ Tb) cl strs stats M.1.cls i.1 i.2.2 ∧ rm_lkC2 (Tg ++ Tb) cl TY DV M.1.cls M.1.name i.1 i.2.2 ∧ rm_lkI Tg Tb cl P M.1.cls i.1 i.2.2 ∧ rm_lkD Tg Tb M.1.cls i.1 i.2.2
/-- and it may be called -/
def rm_Mok (Tg Tb : List Cond) (cl : List vw_C) (TY : List FieldType) (DV : Nat → List Value) (strs : List (String × Nat × String × Nat)) (stats : List (String × String × String × Nat)) (P : List rm_M) (M : rm_M) : Prop :=
  Cond.code M.1 M.2.1 M.2.2.1 M.2.2.2.1 ∈ Tg ∧ plainFor M.1 = true ∧ rm_Mrw Tg Tb cl TY DV strs stats P M
/-- what Arrays.copyOf of objects does: its contract, to be proved of the real machine -/
def rm_CP (Tg Tb : List Cond) (cl : List vw_C) (TY : List FieldType) (CA : Nat → Nat → Bool) (strs : List (String × Nat × String × Nat)) (stats : List (String × String × String × Nat)) : Prop :=
  ∀ (l : Launch) (D : va_G) (cA : Nat → ClassId) (ρ : Nat → Nat) (b0 n0 : Nat) (O : Nat → Option rm_E) (Z : Nat → Value) (H0 : Heap) (hp : rm_H) (a t m : Nat) (n : Int32) (f : Nat → Option Nat), (∀ k : Nat, ρ (n0 + k) = b0 + k) → n0 ≤ a → ¬ n < 0 → n.toNatClampNeg * 4 ≤ 536870912 → hp[a - n0]? = some (.inl (t, m, .inr (.inr (.inr (.inr f))))) → TY[t]? = some (.object "java/lang/Object") → m ≤ n.toNatClampNeg → rm_el n0 O CA hp t f m = true →
    Met l rm_cpN (Cond.code rm_cpN prog_29_method_119_code 2 (some (.array (.object "java/lang/Object"))) :: Tg) { frames := 2, cells := 1, slots := n.toNatClampNeg, locals := 79 } (rm_Pc D cl cA TY ρ b0 n0 O Z H0 strs stats Tb [.ref a, .int n] hp) (rm_Qc D cl cA ρ b0 H0 (some (.ref (n0 + hp.length))) (hp ++ [rm_cpA t n.toNatClampNeg m f])) 1 n.toNatClampNeg (fun q => b0 ≤ q)
