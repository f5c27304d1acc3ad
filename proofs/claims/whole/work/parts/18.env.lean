/-! WHAT HOLDS AT EVERY METHOD'S ENTRY: the classes, the old cells, the texts, the statics, and those words of the tables that a contract doesn't carry by itself. -/
def rm_bw (w : Cond) : Bool := match w with
  | .castable _ _ => true
  | .declares _ => true
  | .publicMethod _ => true
  | .privateMethod _ => true
  | .unhidden _ _ _ => true
  | .interfaceMethod r o _ _ => r == o && r != "java/lang/invoke/MethodHandle" && r != "java/lang/invoke/VarHandle"
  | .methodLinkNest _ _ _ _ => true
  | .fieldLinkNest _ _ _ _ _ _ => true
  | .arrayOver (.object _) => true
  | _ => false
theorem rm_bw_any {w : Cond} (hw : rm_bw w = true) {A A' : Array Value} {U : State} (h : w.before A U = true) : w.before A' U = true := by
  unfold rm_bw at hw
  split at hw
  · exact va_any rfl h
  · exact va_any rfl h
  · exact va_any rfl h
  · exact va_any rfl h
  · exact va_any rfl h
  · exact va_any rfl h
  · exact va_any rfl h
  · exact va_any rfl h
  · exact h
  · cases hw
theorem rm_bw_warm {w : Cond} (hw : rm_bw w = true) {s U : State} (hW : s.WarmedH U.vm) (h : w.before #[] s = true) : w.before #[] U = true := by
  unfold rm_bw at hw
  split at hw
  · exact va_tabs rfl (rfl : (s.setVm U.vm).vm = U.vm) (Cond.faceAtom_setVm hW.alike _ rfl h)
  · exact va_tabs rfl (rfl : (s.setVm U.vm).vm = U.vm) (Cond.faceAtom_setVm hW.alike _ rfl h)
  · exact va_tabs rfl (rfl : (s.setVm U.vm).vm = U.vm) (Cond.faceAtom_setVm hW.alike _ rfl h)
  · exact va_tabs rfl (rfl : (s.setVm U.vm).vm = U.vm) (Cond.faceAtom_setVm hW.alike _ rfl h)
  · exact va_tabs rfl (rfl : (s.setVm U.vm).vm = U.vm) (Cond.faceAtom_setVm hW.alike _ rfl h)
  · exact va_tabs rfl (rfl : (s.setVm U.vm).vm = U.vm) (Cond.faceAtom_setVm hW.alike _ hw h)
  · exact va_Nw.warmM hW h
  · exact va_Nw.warmF hW h
  · exact va_AO.moved hW.alike h
  · cases hw
theorem rm_bw_same {w : Cond} (hw : rm_bw w = true) {s U : State} (hv : s.vm = U.vm) (h : w.before #[] s = true) : w.before #[] U = true := by
  unfold rm_bw at hw
  split at hw
  · exact va_tabs rfl hv h
  · exact va_tabs rfl hv h
  · exact va_tabs rfl hv h
  · exact va_tabs rfl hv h
  · exact va_tabs rfl hv h
  · exact va_tabs rfl hv h
  · exact va_tabs rfl hv h
  · exact va_tabs rfl hv h
  · exact va_AO.moved (by rw [hv]; exact Vm.Alike.refl _) h
  · cases hw
def rm_Env (D : va_G) (cl : List vw_C) (cA : Nat → ClassId) (TY : List FieldType) (ρ : Nat → Nat) (b0 n0 : Nat) (O : Nat → Option rm_E) (Z : Nat → Value) (H0 : Heap) (strs : List (String × Nat × String × Nat)) (stats : List (String × String × String × Nat)) (Tb : List Cond) (U : State) : Prop :=
  va_K D cl (rm_ty cA TY) U ∧ rm_Ob U cl TY ρ b0 n0 O H0 ∧ (∀ (w : String) (i : Nat) (tx : String) (a : Nat), (w, i, tx, a) ∈ strs → vk_R w i tx (ρ a) U) ∧ (∀ (C n d : String) (z : Nat), (C, n, d, z) ∈ stats → va_Z C n d (rm_v ρ (Z z)) (fun q => b0 ≤ q) U H0) ∧ (∀ w ∈ Tb, w.before #[] U = true) ∧ ∃ mi : Nat, va_Mi "[Ljava/lang/Object;" mi U
section RM_E
variable {D : va_G} {cl : List vw_C} {cA : Nat → ClassId} {TY : List FieldType} {ρ : Nat → Nat} {b0 n0 : Nat} {O : Nat → Option rm_E} {Z : Nat → Value} {H0 : Heap} {strs : List (String × Nat × String × Nat)} {stats : List (String × String × String × Nat)} {Tb : List Cond}
theorem rm_Env.warm {s U : State} (hTb : ∀ w ∈ Tb, rm_bw w = true) (hW : s.WarmedH U.vm) (h : rm_Env D cl cA TY ρ b0 n0 O Z H0 strs stats Tb s) : rm_Env D cl cA TY ρ b0 n0 O Z H0 strs stats Tb U :=
  ⟨va_K.moved hW.alike h.1, h.2.1.moved hW.alike, fun w i tx a hm => (h.2.2.1 w i tx a hm).warm hW, fun C n d z hm => (h.2.2.2.1 C n d z hm).moved hW.alike, fun w hw => rm_bw_warm (hTb w hw) hW (h.2.2.2.2.1 w hw), h.2.2.2.2.2.imp (fun _ q => q.moved hW.alike)⟩
theorem rm_Env.same {s U : State} (hTb : ∀ w ∈ Tb, rm_bw w = true) (hv : U.vm = s.vm) (h : rm_Env D cl cA TY ρ b0 n0 O Z H0 strs stats Tb s) : rm_Env D cl cA TY ρ b0 n0 O Z H0 strs stats Tb U :=
  have ha : s.vm.Alike U.vm := by rw [hv]; exact Vm.Alike.refl _
  ⟨va_K.moved ha h.1, h.2.1.moved ha, fun w i tx a hm => (h.2.2.1 w i tx a hm).same hv, fun C n d z hm => (h.2.2.2.1 C n d z hm).moved ha, fun w hw => rm_bw_same (hTb w hw) hv.symm (h.2.2.2.2.1 w hw), h.2.2.2.2.2.imp (fun _ q => q.moved ha)⟩
/-- the start and the end of a method, in the machine of the mind -/
def rm_Pc (D : va_G) (cl : List vw_C) (cA : Nat → ClassId) (TY : List FieldType) (ρ : Nat → Nat) (b0 n0 : Nat) (O : Nat → Option rm_E) (Z : Nat → Value) (H0 : Heap) (strs : List (String × Nat × String × Nat)) (stats : List (String × String × String × Nat)) (Tb : List Cond) (As : List Value) (h : rm_H) : Array Value → State → Prop := fun a U => a = (As.map (rm_v ρ)).toArray ∧ rm_G D cl cA ρ b0 H0 h U.heap [] ∧ rm_Env D cl cA TY ρ b0 n0 O Z H0 strs stats Tb U
def rm_Qc (D : va_G) (cl : List vw_C) (cA : Nat → ClassId) (ρ : Nat → Nat) (b0 : Nat) (H0 : Heap) (v : Option Value) (h : rm_H) : Array Value → State → Outcome → State → Prop := fun _ _ o t => o = .returned (v.map (rm_v ρ)) ∧ rm_G D cl cA ρ b0 H0 h t.heap []
theorem rm_blind (hTb : ∀ w ∈ Tb, rm_bw w = true) {As : List Value} {h : rm_H} : FrameBlind (rm_Pc D cl cA TY ρ b0 n0 O Z H0 strs stats Tb As h) := fun a U g mk q => ⟨q.1, q.2.1, rm_Env.same (s := U) (U := U.calling g mk a) hTb rfl q.2.2⟩
theorem rm_G.forget {h : rm_H} {H : Heap} {locs : List Loc} (hG : rm_G D cl cA ρ b0 H0 h H locs) : rm_G D cl cA ρ b0 H0 h H [] := ⟨hG.1, hG.2.1, hG.2.2.1, fun q hq => by cases hq⟩
theorem rm_G.locs {h : rm_H} {H : Heap} {locs : List Loc} (hG : rm_G D cl cA ρ b0 H0 h H []) (hl : ∀ q ∈ locs, b0 ≤ q.base) : rm_G D cl cA ρ b0 H0 h H locs := ⟨hG.1, hG.2.1, hG.2.2.1, hl⟩
end RM_E
theorem rm_lv_args (ρ : Nat → Nat) : ∀ (As : List Value) (k : Nat), rm_lv ρ (lv_args k As) = lv_args k (As.map (rm_v ρ))
  | [], k => rfl
  | v :: r, k => by
    have ih := rm_lv_args ρ r
    simp only [lv_args, List.map_cons, rm_lv] at ih ⊢
    rw [ih, rm_v_cat]
theorem rm_sl_cons (v : Value) (r : List Value) : (lg_sl (v :: r)).length = (if v.category = 2 then 2 else 1) + (lg_sl r).length := by
  unfold lg_sl
  rw [List.flatMap_cons, List.length_append]
  split <;> rfl
theorem rm_sl_len (ρ : Nat → Nat) : ∀ (As : List Value), (lg_sl (As.map (rm_v ρ))).length = (lg_sl As).length
  | [] => rfl
  | v :: r => by
    rw [List.map_cons, rm_sl_cons, rm_sl_cons, rm_sl_len ρ r, rm_v_cat]
