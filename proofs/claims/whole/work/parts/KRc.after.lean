/-! WHAT BUILD DOES BEHIND THE PARSER MAKES NO ArrayList AND CHANGES NONE. -/
def f8m (m : Nat) : Bool := [15, 16, 17, 18, 19, 20, 21, 22, 35, 37, 38, 39, 40, 41, 42, 101, 144, 145, 146, 147, 148, 149, 150, 151, 152, 153, 154, 155, 156, 157, 158, 159, 160, 161, 162, 163, 164, 165, 166, 167, 168, 169, 170, 171, 172, 173, 174, 175, 176, 177, 178, 179, 180, 181, 182, 183, 184, 185, 186, 187, 188, 189, 190, 191, 192, 193, 194, 195, 196, 197, 198, 199, 200, 201, 202, 203, 204, 205, 206, 207, 208, 209, 210, 211, 212, 213, 214, 215, 216, 217].contains m
def fE8 (D : dD) : Prop := ∀ m, f8m m = true → ∀ As h r h', D m As h = some (r, h') → nF5 h h'
section N8S
variable {Hz h : rm_H} {D : dD} {L : Nat} {xs : Nat → Int32} {α : Type}
theorem o8_cV (hE : fE8 D) {m : Nat} {cis : List Nat} {o : Option Nat} {As : List Value} {r : Option Value} {h1 : rm_H} (hm : f8m m = true) (e : dcV L xs D m cis o As h = some (r, h1)) : nF5 h h1 := by
  unfold dcV at e
  split at e
  · cases e
  · split at e
    · exact hE m hm _ h r h1 e
    · cases e
theorem o8_cN (hE : fE8 D) {m : Nat} {o : Option Nat} {As : List Value} {r : Option Value} {h1 : rm_H} (hm : f8m m = true) (e : dcN D m o As h = some (r, h1)) : nF5 h h1 := by
  unfold dcN at e
  split at e
  · cases e
  · exact hE m hm _ h r h1 e
theorem o8_nR {t : Nat} {n : Int32} {g : rm_H → Option dR} (z : nF5 Hz h) (a : ∀ h1, nF5 Hz h1 → oK5 Hz (g h1)) : oK5 Hz ((dnR t n h).bind g) := o5_bi fun h1 e => a h1 (nF5_t z (by
  unfold dnR at e
  split at e
  · cases e
    exact nF5_app (fun fs z => by cases z)
  · cases e))
theorem o8_vI (hE : fE8 D) {m : Nat} {cis : List Nat} {o : Option Nat} {As : List Value} {g : Int32 × rm_H → Option dR} (hm : f8m m = true) (z : nF5 Hz h) (a : ∀ x : Int32 × rm_H, nF5 Hz x.2 → oK5 Hz (g x)) : oK5 Hz (((dcV L xs D m cis o As h).bind dxI).bind g) := o5_bi fun x e => a x (nF5_t z (by
  cases e1 : dcV L xs D m cis o As h with
  | none => rw [e1] at e; cases e
  | some y =>
    obtain ⟨r, h1⟩ := y
    rw [e1] at e
    have k : nF5 h h1 := o8_cV hE hm e1
    have e : dxI (r, h1) = some x := e
    unfold dxI at e
    split at e
    · cases e; exact k
    · cases e))
theorem o8_vV (hE : fE8 D) {m : Nat} {cis : List Nat} {o : Option Nat} {As : List Value} {g : rm_H → Option dR} (hm : f8m m = true) (z : nF5 Hz h) (a : ∀ x : rm_H, nF5 Hz x → oK5 Hz (g x)) : oK5 Hz (((dcV L xs D m cis o As h).bind dxV).bind g) := o5_bi fun x e => a x (nF5_t z (by
  cases e1 : dcV L xs D m cis o As h with
  | none => rw [e1] at e; cases e
  | some y =>
    obtain ⟨r, h1⟩ := y
    rw [e1] at e
    have k : nF5 h h1 := o8_cV hE hm e1
    have e : dxV (r, h1) = some x := e
    unfold dxV at e
    split at e
    · cases e; exact k
    · cases e))
theorem o8_vR (hE : fE8 D) {m : Nat} {cis : List Nat} {o : Option Nat} {As : List Value} {g : Option Nat × rm_H → Option dR} (hm : f8m m = true) (z : nF5 Hz h) (a : ∀ x : Option Nat × rm_H, nF5 Hz x.2 → oK5 Hz (g x)) : oK5 Hz (((dcV L xs D m cis o As h).bind dxR).bind g) := o5_bi fun x e => a x (nF5_t z (by
  cases e1 : dcV L xs D m cis o As h with
  | none => rw [e1] at e; cases e
  | some y =>
    obtain ⟨r, h1⟩ := y
    rw [e1] at e
    have k : nF5 h h1 := o8_cV hE hm e1
    have e : dxR (r, h1) = some x := e
    unfold dxR at e
    split at e
    · rename_i v hv
      obtain ⟨o', e1', e2'⟩ := Option.map_eq_some_iff.mp e
      rw [← e2']
      exact k
    · cases e))
theorem o8_dI (hE : fE8 D) {m : Nat} {As : List Value} {g : Int32 × rm_H → Option dR} (hm : f8m m = true) (z : nF5 Hz h) (a : ∀ x : Int32 × rm_H, nF5 Hz x.2 → oK5 Hz (g x)) : oK5 Hz (((D m As h).bind dxI).bind g) := o5_bi fun x e => a x (nF5_t z (by
  cases e1 : D m As h with
  | none => rw [e1] at e; cases e
  | some y =>
    obtain ⟨r, h1⟩ := y
    rw [e1] at e
    have k : nF5 h h1 := hE m hm As h r h1 e1
    have e : dxI (r, h1) = some x := e
    unfold dxI at e
    split at e
    · cases e; exact k
    · cases e))
theorem o8_dV (hE : fE8 D) {m : Nat} {As : List Value} {g : rm_H → Option dR} (hm : f8m m = true) (z : nF5 Hz h) (a : ∀ x : rm_H, nF5 Hz x → oK5 Hz (g x)) : oK5 Hz (((D m As h).bind dxV).bind g) := o5_bi fun x e => a x (nF5_t z (by
  cases e1 : D m As h with
  | none => rw [e1] at e; cases e
  | some y =>
    obtain ⟨r, h1⟩ := y
    rw [e1] at e
    have k : nF5 h h1 := hE m hm As h r h1 e1
    have e : dxV (r, h1) = some x := e
    unfold dxV at e
    split at e
    · cases e; exact k
    · cases e))
theorem o8_dR (hE : fE8 D) {m : Nat} {As : List Value} {g : Option Nat × rm_H → Option dR} (hm : f8m m = true) (z : nF5 Hz h) (a : ∀ x : Option Nat × rm_H, nF5 Hz x.2 → oK5 Hz (g x)) : oK5 Hz (((D m As h).bind dxR).bind g) := o5_bi fun x e => a x (nF5_t z (by
  cases e1 : D m As h with
  | none => rw [e1] at e; cases e
  | some y =>
    obtain ⟨r, h1⟩ := y
    rw [e1] at e
    have k : nF5 h h1 := hE m hm As h r h1 e1
    have e : dxR (r, h1) = some x := e
    unfold dxR at e
    split at e
    · rename_i v hv
      obtain ⟨o', e1', e2'⟩ := Option.map_eq_some_iff.mp e
      rw [← e2']
      exact k
    · cases e))
theorem o8_nV (hE : fE8 D) {m : Nat} {o : Option Nat} {As : List Value} {g : rm_H → Option dR} (hm : f8m m = true) (z : nF5 Hz h) (a : ∀ x : rm_H, nF5 Hz x → oK5 Hz (g x)) : oK5 Hz (((dcN D m o As h).bind dxV).bind g) := o5_bi fun x e => a x (nF5_t z (by
  cases e1 : dcN D m o As h with
  | none => rw [e1] at e; cases e
  | some y =>
    obtain ⟨r, h1⟩ := y
    rw [e1] at e
    have k : nF5 h h1 := o8_cN hE hm e1
    have e : dxV (r, h1) = some x := e
    unfold dxV at e
    split at e
    · cases e; exact k
    · cases e))
end N8S
