/-! THE WORLD of the machine of the mind: its cells and where they lie. -/
def rm_a (ρ : Nat → Nat) (x : vp_A) : vp_A := (x.1, match x.2 with
  | .inl f => .inl f
  | .inr (.inl f) => .inr (.inl f)
  | .inr (.inr (.inl f)) => .inr (.inr (.inl f))
  | .inr (.inr (.inr (.inl f))) => .inr (.inr (.inr (.inl f)))
  | .inr (.inr (.inr (.inr f))) => .inr (.inr (.inr (.inr (fun k => (f k).map ρ)))))
/-- a cell with real addresses -/
def rm_c (ρ : Nat → Nat) (x : rm_E) : rm_E := match x with
  | .inl a => .inl (a.1, rm_a ρ a.2)
  | .inr o => .inr (o.1, o.2.map (rm_v ρ))
/-- a cell with its array class -/
def rm_w (cA : Nat → ClassId) (x : rm_E) : va_E := match x with
  | .inl a => .inl (cA a.1, a.2)
  | .inr o => .inr o
def rm_x (x : vp_A) (j : Nat) : Value := match x.2 with
  | .inl f => .int (f j)
  | .inr (.inl f) => .long (f j)
  | .inr (.inr (.inl f)) => .float (f j)
  | .inr (.inr (.inr (.inl f))) => .double (f j)
  | .inr (.inr (.inr (.inr f))) => va_rf (f j)
theorem rm_cell (cA : ClassId) (x : vp_A) : vp_cell cA x = arrV cA x.1 (rm_x x) := by
  obtain ⟨n, f⟩ := x
  rcases f with f | f | f | f | f <;> rfl
theorem rm_rf_c (ρ : Nat → Nat) (r : Option Nat) : va_rf (r.map ρ) = rm_v ρ (va_rf r) := by cases r <;> rfl
theorem rm_x_c (ρ : Nat → Nat) (x : vp_A) (j : Nat) : rm_x (rm_a ρ x) j = rm_v ρ (rm_x x j) := by
  obtain ⟨n, f⟩ := x
  rcases f with f | f | f | f | f
  · rfl
  · rfl
  · rfl
  · rfl
  · exact rm_rf_c ρ (f j)
def rm_look (n0 : Nat) (O : Nat → Option rm_E) (h : rm_H) (a : Nat) : Option rm_E := if a < n0 then O a else h[a - n0]?
/-- an array that can be read -/
def rm_RA (U : State) (H : Heap) (q : Nat) (ty : FieldType) (n : Nat) (f : Nat → Value) : Prop := ∃ cell : Cell, H[q]? = some cell ∧ U.isArrayOf cell ty ∧ cell.vm ≠ .unknown ∧ n ≤ cell.slots.size ∧ cell.slots.size.toInt32 = Int32.ofNat n ∧ ∀ j : Nat, j < n → cell.slots[j]? = some (f j)
/-- an object that can be read -/
def rm_RO (U : State) (H : Heap) (q : Nat) (C : String) (T : u_T) (N : Nat) (fs : List Value) : Prop := ∃ cell : Cell, H[q]? = some cell ∧ cell.vm.isStatics = false ∧ cell.vm ≠ .unknown ∧ U.vm.findClass C = some cell.cls ∧ ∀ (k : Nat) (v : Value), k < N → fs[k]? = some v → ∃ (cf : ClassId) (kf : Class) (fi : Nat) (f : Field), U.fieldFound? (T k).1 (T k).2.1 (T k).2.2.1 = some (cf, kf, fi, f) ∧ f.isStatic = false ∧ cell.slots[f.slot]? = some v
def rm_rd (U : State) (cl : List vw_C) (TY : List FieldType) (H : Heap) (q : Nat) (x : rm_E) : Prop := match x with
  | .inl a => ∀ ty : FieldType, TY[a.1]? = some ty → rm_RA U H q ty a.2.1 (rm_x a.2)
  | .inr o => ∀ r : vw_C, cl[o.1]? = some r → rm_RO U H q r.1 r.2.1 r.2.2 o.2
theorem rm_rd.kept {U : State} {cl : List vw_C} {TY : List FieldType} {H H1 : Heap} {q : Nat} {x : rm_E} (h : rm_rd U cl TY H q x) (hq : H1[q]? = H[q]?) : rm_rd U cl TY H1 q x := by
  cases x with
  | inl a =>
    intro ty hty
    obtain ⟨cell, h1, h2⟩ := h ty hty
    exact ⟨cell, hq.trans h1, h2⟩
  | inr o =>
    intro r hr
    obtain ⟨cell, h1, h2⟩ := h r hr
    exact ⟨cell, hq.trans h1, h2⟩
theorem rm_rd.moved {u U : State} {cl : List vw_C} {TY : List FieldType} {H : Heap} {q : Nat} {x : rm_E} (hvm : u.vm.Alike U.vm) (h : rm_rd u cl TY H q x) : rm_rd U cl TY H q x := by
  cases x with
  | inl a =>
    intro ty hty
    obtain ⟨cell, h1, h2, h3⟩ := h ty hty
    exact ⟨cell, h1, State.isArrayOf_alike hvm h2, h3⟩
  | inr o =>
    intro r hr
    obtain ⟨cell, h1, h2, h3, h4, h5⟩ := h r hr
    refine ⟨cell, h1, h2, h3, by rw [hvm.findClass]; exact h4, fun k v hk hv => ?_⟩
    obtain ⟨cf, kf, fi, f, g1, g2⟩ := h5 k v hk hv
    obtain ⟨k', hi', -⟩ := State.fieldFound?_setVm hvm g1
    exact ⟨cf, k', fi, f, hi', g2⟩
def rm_ty (cA : Nat → ClassId) (TY : List FieldType) : List (ClassId × FieldType) := TY.mapIdx (fun t ty => (cA t, ty))
theorem rm_ty_at {cA : Nat → ClassId} {TY : List FieldType} {t : Nat} {ty : FieldType} (h : TY[t]? = some ty) : (rm_ty cA TY)[t]? = some (cA t, ty) := by
  simp [rm_ty, List.getElem?_mapIdx, h]
/-- the classes' fields are as the tables say -/
def rm_Cl (Ts : List Cond) (cl : List vw_C) : Prop := ∀ (ci : Nat) (r : vw_C), cl[ci]? = some r → ∀ w ∈ u_ws r.1 r.2.1 r.2.2, w ∈ Ts
theorem rm_rd_made {Ts : List Cond} {args : Array Value} {s : State} {D : va_G} {cl : List vw_C} {cA : Nat → ClassId} {TY : List FieldType} {H : Heap} {q : Nat} {x : rm_E} (hts : ∀ w ∈ Ts, w.before args s = true) (hcl : rm_Cl Ts cl) (hK : va_K D cl (rm_ty cA TY) s) (h : va_at D cl (q, rm_w cA x) H) : rm_rd s cl TY H q x := by
  cases x with
  | inl a =>
    intro ty hty
    have hA := (hK.2 a.1 (cA a.1, ty) (rm_ty_at hty)).1
    have h1 : H[q]? = some (vp_cell (cA a.1) a.2) := h
    rw [rm_cell] at h1
    exact ⟨_, h1, hA _ _, (fun z => by cases z), Nat.le_of_eq (arrV_size _ _ _).symm, (by rw [arrV_size]), fun j hj => arrV_read _ _ hj⟩
  | inr o =>
    intro r hr
    obtain ⟨r', h1, cell, q1, q2, q3, q4⟩ := h
    have h2 : r' = r := Option.some.inj (h1.symm.trans hr)
    subst h2
    obtain ⟨hS, hfc, kC, hkC, hkind⟩ := hK.1 o.1 _ hr
    refine ⟨cell, q1, (by rw [q3]; rfl), (by rw [q3]; exact (fun z => by cases z)), (by rw [q2]; exact hfc), fun k v hk hv => ?_⟩
    obtain ⟨cf, kf, fi, f, hi, hsl⟩ := hS k hk
    exact ⟨cf, kf, fi, f, hi, (u_facts hfc hkC (u_lays hts (hcl _ _ hr) hk) hi).1, by rw [hsl, q4 k hk]; simp [vp_V, hv]⟩
/-- the heap holds the made cells from b0 on, in their order; what is old is unchanged; only made cells were written -/
def rm_G (D : va_G) (cl : List vw_C) (cA : Nat → ClassId) (ρ : Nat → Nat) (b0 : Nat) (H0 : Heap) (h : rm_H) (H : Heap) (locs : List Loc) : Prop :=
  H.size = b0 + h.length ∧ (∀ (k : Nat) (x : rm_E), h[k]? = some x → va_at D cl (b0 + k, rm_w cA (rm_c ρ x)) H) ∧ (∀ q : Nat, q < b0 → H[q]? = H0[q]?) ∧ ∀ q ∈ locs, b0 ≤ q.base
/-- what the old cells hold -/
def rm_Ob (s : State) (cl : List vw_C) (TY : List FieldType) (ρ : Nat → Nat) (b0 n0 : Nat) (O : Nat → Option rm_E) (H0 : Heap) : Prop := ∀ (a : Nat) (x : rm_E), a < n0 → O a = some x → ρ a < b0 ∧ rm_rd s cl TY H0 (ρ a) (rm_c ρ x)
theorem rm_Ob.moved {u U : State} {cl : List vw_C} {TY : List FieldType} {ρ : Nat → Nat} {b0 n0 : Nat} {O : Nat → Option rm_E} {H0 : Heap} (hvm : u.vm.Alike U.vm) (h : rm_Ob u cl TY ρ b0 n0 O H0) : rm_Ob U cl TY ρ b0 n0 O H0 := fun a x ha hx => ⟨(h a x ha hx).1, (h a x ha hx).2.moved hvm⟩
theorem rm_rd_look {Ts : List Cond} {args : Array Value} {s : State} {D : va_G} {cl : List vw_C} {cA : Nat → ClassId} {TY : List FieldType} {ρ : Nat → Nat} {b0 n0 : Nat} {O : Nat → Option rm_E} {H0 H : Heap} {locs : List Loc} {h : rm_H}
    (hts : ∀ w ∈ Ts, w.before args s = true) (hcl : rm_Cl Ts cl) (hK : va_K D cl (rm_ty cA TY) s) (hO : rm_Ob s cl TY ρ b0 n0 O H0) (hρ : ∀ k : Nat, ρ (n0 + k) = b0 + k) (hG : rm_G D cl cA ρ b0 H0 h H locs) {a : Nat} {x : rm_E} (hx : rm_look n0 O h a = some x) : rm_rd s cl TY H (ρ a) (rm_c ρ x) := by
  unfold rm_look at hx
  split at hx
  · rename_i ha
    obtain ⟨h1, h2⟩ := hO a x ha hx
    exact h2.kept (hG.2.2.1 _ h1)
  · rename_i ha
    have h1 := hG.2.1 _ x hx
    rw [← hρ, Nat.add_sub_of_le (Nat.not_lt.mp ha)] at h1
    exact rm_rd_made hts hcl hK h1
