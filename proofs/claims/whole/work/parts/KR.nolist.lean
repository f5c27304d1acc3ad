/-! KR a -/
/-! NO CALL BUT BUILD MAKES AN ArrayList OR CHANGES ONE. -/
def nF5 (h h' : rm_H) : Prop := h.length ≤ h'.length ∧ ∀ l fs, hc h' l = some (.inr (5, fs)) → hc h l = some (.inr (5, fs))
def oK5 (h : rm_H) (X : Option dR) : Prop := ∀ r h', X = some (r, h') → nF5 h h'
def f5m (m : Nat) : Bool := [5, 6, 9, 10, 11, 12, 13, 14, 15, 16, 17, 18, 19, 20, 21, 22, 23, 24, 25, 26, 27, 28, 29, 30, 31, 32, 33, 34, 35, 36, 37, 38, 39, 40, 41, 42, 57, 60, 61, 63, 64, 65, 66, 101, 146, 147, 148, 159, 176, 189, 194, 216, 217, 222, 223, 224, 225, 226, 227, 228, 229, 230, 231, 232, 233, 234, 235, 236, 237, 238, 239, 240, 241, 242, 243, 244, 245, 246, 247, 248, 249, 250, 251, 252, 253, 254, 255, 256, 257, 258, 259, 260, 261, 262, 263, 264, 265, 266, 270, 271, 272, 273, 274, 275, 276, 277, 278, 279, 280, 281].contains m
def fE5 (D : dD) : Prop := ∀ m, f5m m = true → ∀ As h r h', D m As h = some (r, h') → nF5 h h'
section N5S
variable {Hz h : rm_H} {D : dD} {L : Nat} {xs : Nat → Int32} {α : Type}
theorem nF5_r (h : rm_H) : nF5 h h := ⟨Nat.le_refl _, fun _ _ e => e⟩
theorem nF5_t {a b c : rm_H} (x : nF5 a b) (y : nF5 b c) : nF5 a c := ⟨Nat.le_trans x.1 y.1, fun l fs e => x.2 l fs (y.2 l fs e)⟩
theorem nF5_set {a : Nat} {c0 c : rm_E} (h0 : h[a - 21]? = some c0) (n0 : ∀ fs, c0 ≠ .inr (5, fs)) (n1 : ∀ fs, c ≠ .inr (5, fs)) : nF5 h (h.set (a - 21) c) := by
  refine ⟨by rw [List.length_set]; exact Nat.le_refl _, fun l fs e => ?_⟩
  have hl := hc_ge e
  have e := hc_at e
  refine hc_of hl ?_
  by_cases q : a - 21 = l - 21
  · rw [← q] at e
    have lt := (List.getElem?_eq_some_iff.mp h0).1
    rw [List.getElem?_set_self (by exact lt)] at e
    exact absurd (Option.some.inj e) (n1 fs)
  · rw [List.getElem?_set_ne q] at e
    exact e
theorem nF5_app {c : rm_E} (n1 : ∀ fs, c ≠ .inr (5, fs)) : nF5 h (h ++ [c]) := by
  refine ⟨by rw [List.length_append]; omega, fun l fs e => ?_⟩
  have hl := hc_ge e
  have e := hc_at e
  refine hc_of hl ?_
  by_cases q : l - 21 < h.length
  · rw [List.getElem?_append_left q] at e
    exact e
  · rw [List.getElem?_append_right (by omega)] at e
    cases k : l - 21 - h.length with
    | zero => rw [k] at e; exact absurd (Option.some.inj e) (n1 fs)
    | succ j => rw [k] at e; cases e
theorem o5_none : oK5 Hz none := fun r s' e => by cases e
theorem o5_dr {t : Option FieldType} {x : Int32} (z : nF5 Hz h) : oK5 Hz (drI t x h) := fun r s' e => by
  unfold drI at e
  split at e
  · cases e; exact z
  · cases e
theorem o5_so {r : Option Value} (z : nF5 Hz h) : oK5 Hz (some (r, h)) := fun r s' e => by cases e; exact z
theorem o5_if {c : Prop} [Decidable c] {A B : Option dR} (a : oK5 Hz A) (b : oK5 Hz B) : oK5 Hz (if c then A else B) := by
  split
  · exact a
  · exact b
theorem o5_rd {f : Option α} {g : α → Option dR} (a : ∀ x, oK5 Hz (g x)) : oK5 Hz (f.bind g) := by
  cases f with
  | none => exact o5_none
  | some x => exact a x
theorem o5_bi {f : Option α} {g : α → Option dR} (a : ∀ x, f = some x → oK5 Hz (g x)) : oK5 Hz (f.bind g) := by
  cases f with
  | none => exact o5_none
  | some x => exact a x rfl
theorem o5_pF {k : Nat} {cis : List Nat} {o : Option Nat} {v : Value} {g : rm_H → Option dR} (hcn : cis.contains 5 = false) (z : nF5 Hz h) (a : ∀ h1, nF5 Hz h1 → oK5 Hz (g h1)) : oK5 Hz ((dpF h k cis o v).bind g) := o5_bi fun h1 e => a h1 (nF5_t z (by
  unfold dpF at e
  split at e
  · cases e
  · split at e
    · split at e
      · rename_i ci fs hx
        split at e
        · rename_i hc2
          cases e
          have ne : ci ≠ 5 := fun z => by rw [z, hcn] at hc2; exact absurd hc2.1 (by decide)
          exact nF5_set hx (fun fs z => by cases z; exact ne rfl) (fun fs z => by cases z; exact ne rfl)
        · cases e
      · cases e
    · cases e))
theorem o5_sI {o : Option Nat} {i x : Int32} {g : rm_H → Option dR} (z : nF5 Hz h) (a : ∀ h1, nF5 Hz h1 → oK5 Hz (g h1)) : oK5 Hz ((dsI h o i x).bind g) := o5_bi fun h1 e => a h1 (nF5_t z (by
  unfold dsI at e
  split at e
  · cases e
  · split at e
    · split at e
      · rename_i hx
        split at e
        · cases e
          exact nF5_set hx (fun fs z => by cases z) (fun fs z => by cases z)
        · cases e
      · cases e
    · cases e))
theorem o5_sB {o : Option Nat} {i x : Int32} {g : rm_H → Option dR} (z : nF5 Hz h) (a : ∀ h1, nF5 Hz h1 → oK5 Hz (g h1)) : oK5 Hz ((dsB h o i x).bind g) := o5_bi fun h1 e => a h1 (nF5_t z (by
  unfold dsB at e
  split at e
  · cases e
  · split at e
    · split at e
      · rename_i hx
        split at e
        · cases e
          exact nF5_set hx (fun fs z => by cases z) (fun fs z => by cases z)
        · split at e
          · cases e
            exact nF5_set hx (fun fs z => by cases z) (fun fs z => by cases z)
          · cases e
      · cases e
    · cases e))
theorem o5_sR {o p : Option Nat} {i : Int32} {g : rm_H → Option dR} (z : nF5 Hz h) (a : ∀ h1, nF5 Hz h1 → oK5 Hz (g h1)) : oK5 Hz ((dsR L xs h o i p).bind g) := o5_bi fun h1 e => a h1 (nF5_t z (by
  unfold dsR at e
  split at e
  · split at e
    · split at e
      · rename_i hx _
        split at e
        · cases e
          exact nF5_set hx (fun fs z => by cases z) (fun fs z => by cases z)
        · cases e
      · cases e
    · cases e
  · cases e))
theorem o5_nI {t : Nat} {n : Int32} {g : rm_H → Option dR} (z : nF5 Hz h) (a : ∀ h1, nF5 Hz h1 → oK5 Hz (g h1)) : oK5 Hz ((dnI t n h).bind g) := o5_bi fun h1 e => a h1 (nF5_t z (by
  unfold dnI at e
  split at e
  · cases e
    exact nF5_app (fun fs z => by cases z)
  · cases e))
theorem o5_cp {o0 o : Option Nat} {sp dp n : Int32} {g : rm_H → Option dR} (z : nF5 Hz h) (a : ∀ h1, nF5 Hz h1 → oK5 Hz (g h1)) : oK5 Hz ((dcpy h o0 sp o dp n).bind g) := o5_bi fun h1 e => a h1 (nF5_t z (by
  unfold dcpy at e
  split at e
  · split at e
    · split at e
      · rename_i hx _
        split at e
        · cases e
          exact nF5_set hx (fun fs z => by cases z) (fun fs z => by cases z)
        · cases e
      · cases e
    · cases e
  · cases e))
theorem o5_cl {o : Option Nat} {g : rm_H → Option dR} (z : nF5 Hz h) (a : ∀ h1, nF5 Hz h1 → oK5 Hz (g h1)) : oK5 Hz ((dclo h o).bind g) := o5_bi fun h1 e => a h1 (nF5_t z (by
  unfold dclo at e
  split at e
  · split at e
    · split at e
      · split at e
        · cases e
          exact nF5_app (fun fs z => by cases z)
        · cases e
      · cases e
    · cases e
  · cases e))
theorem o5_ap {ci : Nat} {fs0 : List Value} {g : rm_H → Option dR} (hcn : (ci == 5) = false) (z : nF5 Hz h) (a : ∀ h1, nF5 Hz h1 → oK5 Hz (g h1)) : oK5 Hz ((some (h ++ [.inr (ci, fs0)])).bind g) := o5_bi fun h1 e => a h1 (nF5_t z (by
  cases e
  exact nF5_app (fun fs z => by cases z; exact absurd hcn (by decide))))
theorem o5_cV (hE : fE5 D) {m : Nat} {cis : List Nat} {o : Option Nat} {As : List Value} {r : Option Value} {h1 : rm_H} (hm : f5m m = true) (e : dcV L xs D m cis o As h = some (r, h1)) : nF5 h h1 := by
  unfold dcV at e
  split at e
  · cases e
  · split at e
    · exact hE m hm _ h r h1 e
    · cases e
theorem o5_cN (hE : fE5 D) {m : Nat} {o : Option Nat} {As : List Value} {r : Option Value} {h1 : rm_H} (hm : f5m m = true) (e : dcN D m o As h = some (r, h1)) : nF5 h h1 := by
  unfold dcN at e
  split at e
  · cases e
  · exact hE m hm _ h r h1 e
theorem o5_vI (hE : fE5 D) {m : Nat} {cis : List Nat} {o : Option Nat} {As : List Value} {g : Int32 × rm_H → Option dR} (hm : f5m m = true) (z : nF5 Hz h) (a : ∀ x : Int32 × rm_H, nF5 Hz x.2 → oK5 Hz (g x)) : oK5 Hz (((dcV L xs D m cis o As h).bind dxI).bind g) := o5_bi fun x e => a x (nF5_t z (by
  cases e1 : dcV L xs D m cis o As h with
  | none => rw [e1] at e; cases e
  | some y =>
    obtain ⟨r, h1⟩ := y
    rw [e1] at e
    have k : nF5 h h1 := o5_cV hE hm e1
    have e : dxI (r, h1) = some x := e
    unfold dxI at e
    split at e
    · cases e; exact k
    · cases e))
theorem o5_vV (hE : fE5 D) {m : Nat} {cis : List Nat} {o : Option Nat} {As : List Value} {g : rm_H → Option dR} (hm : f5m m = true) (z : nF5 Hz h) (a : ∀ x : rm_H, nF5 Hz x → oK5 Hz (g x)) : oK5 Hz (((dcV L xs D m cis o As h).bind dxV).bind g) := o5_bi fun x e => a x (nF5_t z (by
  cases e1 : dcV L xs D m cis o As h with
  | none => rw [e1] at e; cases e
  | some y =>
    obtain ⟨r, h1⟩ := y
    rw [e1] at e
    have k : nF5 h h1 := o5_cV hE hm e1
    have e : dxV (r, h1) = some x := e
    unfold dxV at e
    split at e
    · cases e; exact k
    · cases e))
theorem o5_vR (hE : fE5 D) {m : Nat} {cis : List Nat} {o : Option Nat} {As : List Value} {g : Option Nat × rm_H → Option dR} (hm : f5m m = true) (z : nF5 Hz h) (a : ∀ x : Option Nat × rm_H, nF5 Hz x.2 → oK5 Hz (g x)) : oK5 Hz (((dcV L xs D m cis o As h).bind dxR).bind g) := o5_bi fun x e => a x (nF5_t z (by
  cases e1 : dcV L xs D m cis o As h with
  | none => rw [e1] at e; cases e
  | some y =>
    obtain ⟨r, h1⟩ := y
    rw [e1] at e
    have k : nF5 h h1 := o5_cV hE hm e1
    have e : dxR (r, h1) = some x := e
    unfold dxR at e
    split at e
    · rename_i v hv
      obtain ⟨o', e1', e2'⟩ := Option.map_eq_some_iff.mp e
      rw [← e2']
      exact k
    · cases e))
theorem o5_dI (hE : fE5 D) {m : Nat} {As : List Value} {g : Int32 × rm_H → Option dR} (hm : f5m m = true) (z : nF5 Hz h) (a : ∀ x : Int32 × rm_H, nF5 Hz x.2 → oK5 Hz (g x)) : oK5 Hz (((D m As h).bind dxI).bind g) := o5_bi fun x e => a x (nF5_t z (by
  cases e1 : D m As h with
  | none => rw [e1] at e; cases e
  | some y =>
    obtain ⟨r, h1⟩ := y
    rw [e1] at e
    have k : nF5 h h1 := hE m hm As h r h1 e1
    have e : dxI (r, h1) = some x := e
    unfold dxI at e
    split at e
    · cases e; exact k
    · cases e))
theorem o5_dV (hE : fE5 D) {m : Nat} {As : List Value} {g : rm_H → Option dR} (hm : f5m m = true) (z : nF5 Hz h) (a : ∀ x : rm_H, nF5 Hz x → oK5 Hz (g x)) : oK5 Hz (((D m As h).bind dxV).bind g) := o5_bi fun x e => a x (nF5_t z (by
  cases e1 : D m As h with
  | none => rw [e1] at e; cases e
  | some y =>
    obtain ⟨r, h1⟩ := y
    rw [e1] at e
    have k : nF5 h h1 := hE m hm As h r h1 e1
    have e : dxV (r, h1) = some x := e
    unfold dxV at e
    split at e
    · cases e; exact k
    · cases e))
theorem o5_dR (hE : fE5 D) {m : Nat} {As : List Value} {g : Option Nat × rm_H → Option dR} (hm : f5m m = true) (z : nF5 Hz h) (a : ∀ x : Option Nat × rm_H, nF5 Hz x.2 → oK5 Hz (g x)) : oK5 Hz (((D m As h).bind dxR).bind g) := o5_bi fun x e => a x (nF5_t z (by
  cases e1 : D m As h with
  | none => rw [e1] at e; cases e
  | some y =>
    obtain ⟨r, h1⟩ := y
    rw [e1] at e
    have k : nF5 h h1 := hE m hm As h r h1 e1
    have e : dxR (r, h1) = some x := e
    unfold dxR at e
    split at e
    · rename_i v hv
      obtain ⟨o', e1', e2'⟩ := Option.map_eq_some_iff.mp e
      rw [← e2']
      exact k
    · cases e))
theorem o5_nV (hE : fE5 D) {m : Nat} {o : Option Nat} {As : List Value} {g : rm_H → Option dR} (hm : f5m m = true) (z : nF5 Hz h) (a : ∀ x : rm_H, nF5 Hz x → oK5 Hz (g x)) : oK5 Hz (((dcN D m o As h).bind dxV).bind g) := o5_bi fun x e => a x (nF5_t z (by
  cases e1 : dcN D m o As h with
  | none => rw [e1] at e; cases e
  | some y =>
    obtain ⟨r, h1⟩ := y
    rw [e1] at e
    have k : nF5 h h1 := o5_cN hE hm e1
    have e : dxV (r, h1) = some x := e
    unfold dxV at e
    split at e
    · cases e; exact k
    · cases e))
end N5S
