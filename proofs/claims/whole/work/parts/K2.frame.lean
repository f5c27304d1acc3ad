/-! WHAT THE REFERENCE'S RUN LEAVES ALONE. -/
def zFs (s s' : rS) : Prop := (∀ p, p ≤ 74 ∨ 88 ≤ p → s'.1 p = s.1 p) ∧ ∀ p, p ≤ 86 ∨ 111 ≤ p → s'.2.1 p = s.2.1 p ∧ s'.2.2 p = s.2.2 p
def oKs (s : rS) (X : Option rA) : Prop := ∀ r s', X = some (r, s') → zFs s s'
def fMs (m : Nat) : Bool := [328, 373, 374, 375, 376, 377, 378, 379, 380, 381, 382, 383, 384, 385, 386, 387, 388, 389, 390, 391, 392, 393, 394, 395, 396, 397, 398, 399, 400, 401].contains m
def fEs (E : rE) : Prop := ∀ m, fMs m = true → ∀ As s r s', E m As s = some (r, s') → zFs s s'
section ZFS
theorem zFs_refl (s : rS) : zFs s s := ⟨fun _ _ => rfl, fun _ _ => ⟨rfl, rfl⟩⟩
theorem zFs_trans {a b c : rS} (x : zFs a b) (y : zFs b c) : zFs a c := ⟨fun p h => (y.1 p h).trans (x.1 p h), fun p h => ⟨((y.2 p h).1).trans (x.2 p h).1, ((y.2 p h).2).trans (x.2 p h).2⟩⟩
variable {Sz s : rS} {E : rE} {α : Type}
theorem oKs_none : oKs Sz none := fun r s' e => by cases e
theorem oKs_rI {t : Option FieldType} {x : Int32} (z : zFs Sz s) : oKs Sz (rrI t x s) := fun r s' e => by
  unfold rrI at e
  split at e
  · cases e; exact z
  · cases e
theorem oKs_so {r : Option Value} (z : zFs Sz s) : oKs Sz (some (r, s)) := fun r s' e => by cases e; exact z
theorem oKs_if {c : Prop} [Decidable c] {A B : Option rA} (a : oKs Sz A) (b : oKs Sz B) : oKs Sz (if c then A else B) := by
  split
  · exact a
  · exact b
theorem oKs_rd {f : Option α} {g : α → Option rA} (a : ∀ x, oKs Sz (g x)) : oKs Sz (f.bind g) := by
  cases f with
  | none => exact oKs_none
  | some x => exact a x
theorem oKs_bi {f : Option α} {g : α → Option rA} (a : ∀ x, f = some x → oKs Sz (g x)) : oKs Sz (f.bind g) := by
  cases f with
  | none => exact oKs_none
  | some x => exact a x rfl
theorem oKs_pI {p : Nat} {v : Int32} {g : rS → Option rA} (hp : (decide (74 < p) && decide (p < 88)) = true) (z : zFs Sz s) (a : ∀ s1, zFs Sz s1 → oKs Sz (g s1)) : oKs Sz ((rs_pI s p v).bind g) := oKs_bi fun s1 e => a s1 (zFs_trans z (by
  simp only [Bool.and_eq_true, decide_eq_true_eq] at hp
  unfold rs_pI at e
  split at e
  · cases e
    exact ⟨fun q h => upd_ne' (by omega), fun _ _ => ⟨rfl, rfl⟩⟩
  · cases e))
theorem zFs_A {p i : Nat} {v : Int32} (hp : (decide (86 < p) && decide (p < 111)) = true) : zFs s (rs_wA s p i v) := by
  simp only [Bool.and_eq_true, decide_eq_true_eq] at hp
  exact ⟨fun _ _ => rfl, fun q h => ⟨if_neg (by omega), rfl⟩⟩
theorem oKs_sI {p : Nat} {i v : Int32} {g : rS → Option rA} (hp : (decide (86 < p) && decide (p < 111)) = true) (z : zFs Sz s) (a : ∀ s1, zFs Sz s1 → oKs Sz (g s1)) : oKs Sz ((rs_sI s p i v).bind g) := oKs_bi fun s1 e => a s1 (zFs_trans z (by
  unfold rs_sI at e
  split at e
  · cases e; exact zFs_A hp
  · cases e))
theorem oKs_sB {p : Nat} {i v : Int32} {g : rS → Option rA} (hp : (decide (86 < p) && decide (p < 111)) = true) (z : zFs Sz s) (a : ∀ s1, zFs Sz s1 → oKs Sz (g s1)) : oKs Sz ((rs_sB s p i v).bind g) := oKs_bi fun s1 e => a s1 (zFs_trans z (by
  unfold rs_sB at e
  split at e
  · cases e; exact zFs_A hp
  · cases e))
theorem oKs_sJ {p : Nat} {i : Int32} {v : Int64} {g : rS → Option rA} (hp : (decide (86 < p) && decide (p < 111)) = true) (z : zFs Sz s) (a : ∀ s1, zFs Sz s1 → oKs Sz (g s1)) : oKs Sz ((rs_sJ s p i v).bind g) := oKs_bi fun s1 e => a s1 (zFs_trans z (by
  simp only [Bool.and_eq_true, decide_eq_true_eq] at hp
  unfold rs_sJ at e
  split at e
  · cases e
    exact ⟨fun _ _ => rfl, fun q h => ⟨rfl, if_neg (by omega)⟩⟩
  · cases e))
theorem oKs_cI (hE : fEs E) {m : Nat} {As : List Value} {g : Int32 × rS → Option rA} (hm : fMs m = true) (z : zFs Sz s) (a : ∀ x : Int32 × rS, zFs Sz x.2 → oKs Sz (g x)) : oKs Sz (((E m As s).bind rxI).bind g) := oKs_bi fun x e => a x (zFs_trans z (by
  cases e1 : E m As s with
  | none => rw [e1] at e; cases e
  | some y =>
    obtain ⟨r, s1⟩ := y
    have k := hE m hm As s r s1 e1
    rw [e1] at e
    have e : rxI (r, s1) = some x := e
    unfold rxI at e
    split at e
    · cases e; exact k
    · cases e))
theorem oKs_cJ (hE : fEs E) {m : Nat} {As : List Value} {g : Int64 × rS → Option rA} (hm : fMs m = true) (z : zFs Sz s) (a : ∀ x : Int64 × rS, zFs Sz x.2 → oKs Sz (g x)) : oKs Sz (((E m As s).bind rxJ).bind g) := oKs_bi fun x e => a x (zFs_trans z (by
  cases e1 : E m As s with
  | none => rw [e1] at e; cases e
  | some y =>
    obtain ⟨r, s1⟩ := y
    have k := hE m hm As s r s1 e1
    rw [e1] at e
    have e : rxJ (r, s1) = some x := e
    unfold rxJ at e
    split at e
    · cases e; exact k
    · cases e))
theorem oKs_cV (hE : fEs E) {m : Nat} {As : List Value} {g : rS → Option rA} (hm : fMs m = true) (z : zFs Sz s) (a : ∀ x : rS, zFs Sz x → oKs Sz (g x)) : oKs Sz (((E m As s).bind rxV).bind g) := oKs_bi fun x e => a x (zFs_trans z (by
  cases e1 : E m As s with
  | none => rw [e1] at e; cases e
  | some y =>
    obtain ⟨r, s1⟩ := y
    have k := hE m hm As s r s1 e1
    rw [e1] at e
    have e : rxV (r, s1) = some x := e
    unfold rxV at e
    split at e
    · cases e; exact k
    · cases e))
end ZFS
section ZFB
variable {E : rE} {w : Nat} {Sz : rS}
theorem zf_328_2 (hE : fEs E) : ∀ (n : Nat) (b0 : Int64) (b1 : Int32) (s : rS), zFs Sz s → oKs Sz (s328_2 E w n b0 b1 s)
  | 0, _, _, _, _ => fun r s' e => by
    have e : (none : Option rA) = some (r, s') := e
    cases e
  | n + 1, b0, b1, s, z => by
    have ih := zf_328_2 hE n
    unfold s328_2
    repeat' (first
      | with_reducible exact oKs_rI (by assumption)
      | with_reducible exact oKs_so (by assumption)
      | exact oKs_none
      | with_reducible exact ih _ _ _ (by assumption)
      | with_reducible refine oKs_if ?_ ?_
      | (with_reducible refine oKs_pI (by decide) (by assumption) (fun _ _ => ?_))
      | (with_reducible refine oKs_sI (by decide) (by assumption) (fun _ _ => ?_))
      | (with_reducible refine oKs_sB (by decide) (by assumption) (fun _ _ => ?_))
      | (with_reducible refine oKs_sJ (by decide) (by assumption) (fun _ _ => ?_))
      | (with_reducible refine oKs_cI hE (by decide) (by assumption) (fun _ _ => ?_))
      | (with_reducible refine oKs_cJ hE (by decide) (by assumption) (fun _ _ => ?_))
      | (with_reducible refine oKs_cV hE (by decide) (by assumption) (fun _ _ => ?_))
      | (with_reducible refine oKs_rd (fun _ => ?_)))
theorem zf_328_0 (hE : fEs E) (j1 : Int64) (s : rS) (z : zFs Sz s) : oKs Sz (s328_0 E w j1 s) := by
  unfold s328_0
  repeat' (first
    | with_reducible exact oKs_rI (by assumption)
    | with_reducible exact oKs_so (by assumption)
    | exact oKs_none
    | with_reducible exact zf_328_2 hE _ _ _ _ (by assumption)
    | with_reducible refine oKs_if ?_ ?_
    | (with_reducible refine oKs_pI (by decide) (by assumption) (fun _ _ => ?_))
    | (with_reducible refine oKs_sI (by decide) (by assumption) (fun _ _ => ?_))
    | (with_reducible refine oKs_sB (by decide) (by assumption) (fun _ _ => ?_))
    | (with_reducible refine oKs_sJ (by decide) (by assumption) (fun _ _ => ?_))
    | (with_reducible refine oKs_cI hE (by decide) (by assumption) (fun _ _ => ?_))
    | (with_reducible refine oKs_cJ hE (by decide) (by assumption) (fun _ _ => ?_))
    | (with_reducible refine oKs_cV hE (by decide) (by assumption) (fun _ _ => ?_))
    | (with_reducible refine oKs_rd (fun _ => ?_)))
theorem zf_373_0 (hE : fEs E) (i1 : Int32) (s : rS) (z : zFs Sz s) : oKs Sz (s373_0 E w i1 s) := by
  unfold s373_0
  repeat' (first
    | with_reducible exact oKs_rI (by assumption)
    | with_reducible exact oKs_so (by assumption)
    | exact oKs_none
    | with_reducible refine oKs_if ?_ ?_
    | (with_reducible refine oKs_pI (by decide) (by assumption) (fun _ _ => ?_))
    | (with_reducible refine oKs_sI (by decide) (by assumption) (fun _ _ => ?_))
    | (with_reducible refine oKs_sB (by decide) (by assumption) (fun _ _ => ?_))
    | (with_reducible refine oKs_sJ (by decide) (by assumption) (fun _ _ => ?_))
    | (with_reducible refine oKs_cI hE (by decide) (by assumption) (fun _ _ => ?_))
    | (with_reducible refine oKs_cJ hE (by decide) (by assumption) (fun _ _ => ?_))
    | (with_reducible refine oKs_cV hE (by decide) (by assumption) (fun _ _ => ?_))
    | (with_reducible refine oKs_rd (fun _ => ?_)))
theorem zf_374_124 (hE : fEs E) : ∀ (n : Nat) (b0 : Int32) (b1 : Int32) (s : rS), zFs Sz s → oKs Sz (s374_124 E w n b0 b1 s)
  | 0, _, _, _, _ => fun r s' e => by
    have e : (none : Option rA) = some (r, s') := e
    cases e
  | n + 1, b0, b1, s, z => by
    have ih := zf_374_124 hE n
    unfold s374_124
    repeat' (first
      | with_reducible exact oKs_rI (by assumption)
      | with_reducible exact oKs_so (by assumption)
      | exact oKs_none
      | with_reducible exact ih _ _ _ (by assumption)
      | with_reducible refine oKs_if ?_ ?_
      | (with_reducible refine oKs_pI (by decide) (by assumption) (fun _ _ => ?_))
      | (with_reducible refine oKs_sI (by decide) (by assumption) (fun _ _ => ?_))
      | (with_reducible refine oKs_sB (by decide) (by assumption) (fun _ _ => ?_))
      | (with_reducible refine oKs_sJ (by decide) (by assumption) (fun _ _ => ?_))
      | (with_reducible refine oKs_cI hE (by decide) (by assumption) (fun _ _ => ?_))
      | (with_reducible refine oKs_cJ hE (by decide) (by assumption) (fun _ _ => ?_))
      | (with_reducible refine oKs_cV hE (by decide) (by assumption) (fun _ _ => ?_))
      | (with_reducible refine oKs_rd (fun _ => ?_)))
theorem zf_374_75 (hE : fEs E) : ∀ (n : Nat) (b0 : Int32) (b1 : Int32) (b2 : Int32) (s : rS), zFs Sz s → oKs Sz (s374_75 E w n b0 b1 b2 s)
  | 0, _, _, _, _, _ => fun r s' e => by
    have e : (none : Option rA) = some (r, s') := e
    cases e
  | n + 1, b0, b1, b2, s, z => by
    have ih := zf_374_75 hE n
    unfold s374_75
    repeat' (first
      | with_reducible exact oKs_rI (by assumption)
      | with_reducible exact oKs_so (by assumption)
      | exact oKs_none
      | with_reducible exact zf_374_124 hE _ _ _ _ (by assumption)
      | with_reducible exact ih _ _ _ _ (by assumption)
      | with_reducible refine oKs_if ?_ ?_
      | (with_reducible refine oKs_pI (by decide) (by assumption) (fun _ _ => ?_))
      | (with_reducible refine oKs_sI (by decide) (by assumption) (fun _ _ => ?_))
      | (with_reducible refine oKs_sB (by decide) (by assumption) (fun _ _ => ?_))
      | (with_reducible refine oKs_sJ (by decide) (by assumption) (fun _ _ => ?_))
      | (with_reducible refine oKs_cI hE (by decide) (by assumption) (fun _ _ => ?_))
      | (with_reducible refine oKs_cJ hE (by decide) (by assumption) (fun _ _ => ?_))
      | (with_reducible refine oKs_cV hE (by decide) (by assumption) (fun _ _ => ?_))
      | (with_reducible refine oKs_rd (fun _ => ?_)))
theorem zf_374_0 (hE : fEs E) (i1 : Int32) (s : rS) (z : zFs Sz s) : oKs Sz (s374_0 E w i1 s) := by
  unfold s374_0
  repeat' (first
    | with_reducible exact oKs_rI (by assumption)
    | with_reducible exact oKs_so (by assumption)
    | exact oKs_none
    | with_reducible exact zf_374_75 hE _ _ _ _ _ (by assumption)
    | with_reducible refine oKs_if ?_ ?_
    | (with_reducible refine oKs_pI (by decide) (by assumption) (fun _ _ => ?_))
    | (with_reducible refine oKs_sI (by decide) (by assumption) (fun _ _ => ?_))
    | (with_reducible refine oKs_sB (by decide) (by assumption) (fun _ _ => ?_))
    | (with_reducible refine oKs_sJ (by decide) (by assumption) (fun _ _ => ?_))
    | (with_reducible refine oKs_cI hE (by decide) (by assumption) (fun _ _ => ?_))
    | (with_reducible refine oKs_cJ hE (by decide) (by assumption) (fun _ _ => ?_))
    | (with_reducible refine oKs_cV hE (by decide) (by assumption) (fun _ _ => ?_))
    | (with_reducible refine oKs_rd (fun _ => ?_)))
theorem zf_375_13 (hE : fEs E) (s0 : Int64) (s : rS) (z : zFs Sz s) : oKs Sz (s375_13 E w s0 s) := by
  unfold s375_13
  repeat' (first
    | with_reducible exact oKs_rI (by assumption)
    | with_reducible exact oKs_so (by assumption)
    | exact oKs_none
    | with_reducible refine oKs_if ?_ ?_
    | (with_reducible refine oKs_pI (by decide) (by assumption) (fun _ _ => ?_))
    | (with_reducible refine oKs_sI (by decide) (by assumption) (fun _ _ => ?_))
    | (with_reducible refine oKs_sB (by decide) (by assumption) (fun _ _ => ?_))
    | (with_reducible refine oKs_sJ (by decide) (by assumption) (fun _ _ => ?_))
    | (with_reducible refine oKs_cI hE (by decide) (by assumption) (fun _ _ => ?_))
    | (with_reducible refine oKs_cJ hE (by decide) (by assumption) (fun _ _ => ?_))
    | (with_reducible refine oKs_cV hE (by decide) (by assumption) (fun _ _ => ?_))
    | (with_reducible refine oKs_rd (fun _ => ?_)))
theorem zf_375_0 (hE : fEs E) (i0 : Int32) (s : rS) (z : zFs Sz s) : oKs Sz (s375_0 E w i0 s) := by
  unfold s375_0
  repeat' (first
    | with_reducible exact oKs_rI (by assumption)
    | with_reducible exact oKs_so (by assumption)
    | exact oKs_none
    | with_reducible exact zf_375_13 hE _ _ (by assumption)
    | with_reducible refine oKs_if ?_ ?_
    | (with_reducible refine oKs_pI (by decide) (by assumption) (fun _ _ => ?_))
    | (with_reducible refine oKs_sI (by decide) (by assumption) (fun _ _ => ?_))
    | (with_reducible refine oKs_sB (by decide) (by assumption) (fun _ _ => ?_))
    | (with_reducible refine oKs_sJ (by decide) (by assumption) (fun _ _ => ?_))
    | (with_reducible refine oKs_cI hE (by decide) (by assumption) (fun _ _ => ?_))
    | (with_reducible refine oKs_cJ hE (by decide) (by assumption) (fun _ _ => ?_))
    | (with_reducible refine oKs_cV hE (by decide) (by assumption) (fun _ _ => ?_))
    | (with_reducible refine oKs_rd (fun _ => ?_)))
theorem zf_376_0 (hE : fEs E) (i0 : Int32) (i1 : Int32) (s : rS) (z : zFs Sz s) : oKs Sz (s376_0 E w i0 i1 s) := by
  unfold s376_0
  repeat' (first
    | with_reducible exact oKs_rI (by assumption)
    | with_reducible exact oKs_so (by assumption)
    | exact oKs_none
    | with_reducible refine oKs_if ?_ ?_
    | (with_reducible refine oKs_pI (by decide) (by assumption) (fun _ _ => ?_))
    | (with_reducible refine oKs_sI (by decide) (by assumption) (fun _ _ => ?_))
    | (with_reducible refine oKs_sB (by decide) (by assumption) (fun _ _ => ?_))
    | (with_reducible refine oKs_sJ (by decide) (by assumption) (fun _ _ => ?_))
    | (with_reducible refine oKs_cI hE (by decide) (by assumption) (fun _ _ => ?_))
    | (with_reducible refine oKs_cJ hE (by decide) (by assumption) (fun _ _ => ?_))
    | (with_reducible refine oKs_cV hE (by decide) (by assumption) (fun _ _ => ?_))
    | (with_reducible refine oKs_rd (fun _ => ?_)))
theorem zf_377_215 (hE : fEs E) {K196 : Int32 → Int32 → Int32 → Int32 → Int32 → rS → Option rA} (hK196 : ∀ (a0 : Int32) (a1 : Int32) (a2 : Int32) (a3 : Int32) (a4 : Int32) (s : rS), zFs Sz s → oKs Sz (K196 a0 a1 a2 a3 a4 s)) : ∀ (n : Nat) (b0 : Int32) (b1 : Int32) (b2 : Int32) (b3 : Int32) (b4 : Int32) (b5 : Int32) (b6 : Int32) (s : rS), zFs Sz s → oKs Sz (s377_215 E w K196 n b0 b1 b2 b3 b4 b5 b6 s)
  | 0, _, _, _, _, _, _, _, _, _ => fun r s' e => by
    have e : (none : Option rA) = some (r, s') := e
    cases e
  | n + 1, b0, b1, b2, b3, b4, b5, b6, s, z => by
    have ih := zf_377_215 hE hK196 n
    unfold s377_215
    repeat' (first
      | with_reducible exact oKs_rI (by assumption)
      | with_reducible exact oKs_so (by assumption)
      | exact oKs_none
      | with_reducible exact ih _ _ _ _ _ _ _ _ (by assumption)
      | with_reducible exact hK196 _ _ _ _ _ _ (by assumption)
      | with_reducible refine oKs_if ?_ ?_
      | (with_reducible refine oKs_pI (by decide) (by assumption) (fun _ _ => ?_))
      | (with_reducible refine oKs_sI (by decide) (by assumption) (fun _ _ => ?_))
      | (with_reducible refine oKs_sB (by decide) (by assumption) (fun _ _ => ?_))
      | (with_reducible refine oKs_sJ (by decide) (by assumption) (fun _ _ => ?_))
      | (with_reducible refine oKs_cI hE (by decide) (by assumption) (fun _ _ => ?_))
      | (with_reducible refine oKs_cJ hE (by decide) (by assumption) (fun _ _ => ?_))
      | (with_reducible refine oKs_cV hE (by decide) (by assumption) (fun _ _ => ?_))
      | (with_reducible refine oKs_rd (fun _ => ?_)))
theorem zf_377_196 (hE : fEs E) : ∀ (n : Nat) (b0 : Int32) (b1 : Int32) (b2 : Int32) (b3 : Int32) (b4 : Int32) (s : rS), zFs Sz s → oKs Sz (s377_196 E w n b0 b1 b2 b3 b4 s)
  | 0, _, _, _, _, _, _, _ => fun r s' e => by
    have e : (none : Option rA) = some (r, s') := e
    cases e
  | n + 1, b0, b1, b2, b3, b4, s, z => by
    have ih := zf_377_196 hE n
    unfold s377_196
    repeat' (first
      | with_reducible exact oKs_rI (by assumption)
      | with_reducible exact oKs_so (by assumption)
      | exact oKs_none
      | with_reducible exact zf_377_215 hE ih _ _ _ _ _ _ _ _ _ (by assumption)
      | with_reducible exact ih _ _ _ _ _ _ (by assumption)
      | with_reducible refine oKs_if ?_ ?_
      | (with_reducible refine oKs_pI (by decide) (by assumption) (fun _ _ => ?_))
      | (with_reducible refine oKs_sI (by decide) (by assumption) (fun _ _ => ?_))
      | (with_reducible refine oKs_sB (by decide) (by assumption) (fun _ _ => ?_))
      | (with_reducible refine oKs_sJ (by decide) (by assumption) (fun _ _ => ?_))
      | (with_reducible refine oKs_cI hE (by decide) (by assumption) (fun _ _ => ?_))
      | (with_reducible refine oKs_cJ hE (by decide) (by assumption) (fun _ _ => ?_))
      | (with_reducible refine oKs_cV hE (by decide) (by assumption) (fun _ _ => ?_))
      | (with_reducible refine oKs_rd (fun _ => ?_)))
theorem zf_377_135 (hE : fEs E) : ∀ (n : Nat) (b0 : Int32) (b1 : Int32) (b2 : Int32) (b3 : Int32) (b4 : Int32) (b5 : Int32) (b6 : Int32) (s : rS), zFs Sz s → oKs Sz (s377_135 E w n b0 b1 b2 b3 b4 b5 b6 s)
  | 0, _, _, _, _, _, _, _, _, _ => fun r s' e => by
    have e : (none : Option rA) = some (r, s') := e
    cases e
  | n + 1, b0, b1, b2, b3, b4, b5, b6, s, z => by
    have ih := zf_377_135 hE n
    unfold s377_135
    repeat' (first
      | with_reducible exact oKs_rI (by assumption)
      | with_reducible exact oKs_so (by assumption)
      | exact oKs_none
      | with_reducible exact zf_377_196 hE _ _ _ _ _ _ _ (by assumption)
      | with_reducible exact ih _ _ _ _ _ _ _ _ (by assumption)
      | with_reducible refine oKs_if ?_ ?_
      | (with_reducible refine oKs_pI (by decide) (by assumption) (fun _ _ => ?_))
      | (with_reducible refine oKs_sI (by decide) (by assumption) (fun _ _ => ?_))
      | (with_reducible refine oKs_sB (by decide) (by assumption) (fun _ _ => ?_))
      | (with_reducible refine oKs_sJ (by decide) (by assumption) (fun _ _ => ?_))
      | (with_reducible refine oKs_cI hE (by decide) (by assumption) (fun _ _ => ?_))
      | (with_reducible refine oKs_cJ hE (by decide) (by assumption) (fun _ _ => ?_))
      | (with_reducible refine oKs_cV hE (by decide) (by assumption) (fun _ _ => ?_))
      | (with_reducible refine oKs_rd (fun _ => ?_)))
theorem zf_377_87 (hE : fEs E) : ∀ (n : Nat) (b0 : Int32) (b1 : Int32) (b2 : Int32) (b3 : Int32) (b4 : Int32) (b5 : Int32) (s : rS), zFs Sz s → oKs Sz (s377_87 E w n b0 b1 b2 b3 b4 b5 s)
  | 0, _, _, _, _, _, _, _, _ => fun r s' e => by
    have e : (none : Option rA) = some (r, s') := e
    cases e
  | n + 1, b0, b1, b2, b3, b4, b5, s, z => by
    have ih := zf_377_87 hE n
    unfold s377_87
    repeat' (first
      | with_reducible exact oKs_rI (by assumption)
      | with_reducible exact oKs_so (by assumption)
      | exact oKs_none
      | with_reducible exact zf_377_135 hE _ _ _ _ _ _ _ _ _ (by assumption)
      | with_reducible exact ih _ _ _ _ _ _ _ (by assumption)
      | with_reducible refine oKs_if ?_ ?_
      | (with_reducible refine oKs_pI (by decide) (by assumption) (fun _ _ => ?_))
      | (with_reducible refine oKs_sI (by decide) (by assumption) (fun _ _ => ?_))
      | (with_reducible refine oKs_sB (by decide) (by assumption) (fun _ _ => ?_))
      | (with_reducible refine oKs_sJ (by decide) (by assumption) (fun _ _ => ?_))
      | (with_reducible refine oKs_cI hE (by decide) (by assumption) (fun _ _ => ?_))
      | (with_reducible refine oKs_cJ hE (by decide) (by assumption) (fun _ _ => ?_))
      | (with_reducible refine oKs_cV hE (by decide) (by assumption) (fun _ _ => ?_))
      | (with_reducible refine oKs_rd (fun _ => ?_)))
theorem zf_377_6 (hE : fEs E) : ∀ (n : Nat) (b0 : Int32) (b1 : Int32) (b2 : Int32) (b3 : Int32) (b4 : Int32) (s : rS), zFs Sz s → oKs Sz (s377_6 E w n b0 b1 b2 b3 b4 s)
  | 0, _, _, _, _, _, _, _ => fun r s' e => by
    have e : (none : Option rA) = some (r, s') := e
    cases e
  | n + 1, b0, b1, b2, b3, b4, s, z => by
    have ih := zf_377_6 hE n
    unfold s377_6
    repeat' (first
      | with_reducible exact oKs_rI (by assumption)
      | with_reducible exact oKs_so (by assumption)
      | exact oKs_none
      | with_reducible exact zf_377_87 hE _ _ _ _ _ _ _ _ (by assumption)
      | with_reducible exact ih _ _ _ _ _ _ (by assumption)
      | with_reducible refine oKs_if ?_ ?_
      | (with_reducible refine oKs_pI (by decide) (by assumption) (fun _ _ => ?_))
      | (with_reducible refine oKs_sI (by decide) (by assumption) (fun _ _ => ?_))
      | (with_reducible refine oKs_sB (by decide) (by assumption) (fun _ _ => ?_))
      | (with_reducible refine oKs_sJ (by decide) (by assumption) (fun _ _ => ?_))
      | (with_reducible refine oKs_cI hE (by decide) (by assumption) (fun _ _ => ?_))
      | (with_reducible refine oKs_cJ hE (by decide) (by assumption) (fun _ _ => ?_))
      | (with_reducible refine oKs_cV hE (by decide) (by assumption) (fun _ _ => ?_))
      | (with_reducible refine oKs_rd (fun _ => ?_)))
theorem zf_377_0 (hE : fEs E) (i1 : Int32) (i2 : Int32) (i3 : Int32) (i4 : Int32) (s : rS) (z : zFs Sz s) : oKs Sz (s377_0 E w i1 i2 i3 i4 s) := by
  unfold s377_0
  repeat' (first
    | with_reducible exact oKs_rI (by assumption)
    | with_reducible exact oKs_so (by assumption)
    | exact oKs_none
    | with_reducible exact zf_377_6 hE _ _ _ _ _ _ _ (by assumption)
    | with_reducible refine oKs_if ?_ ?_
    | (with_reducible refine oKs_pI (by decide) (by assumption) (fun _ _ => ?_))
    | (with_reducible refine oKs_sI (by decide) (by assumption) (fun _ _ => ?_))
    | (with_reducible refine oKs_sB (by decide) (by assumption) (fun _ _ => ?_))
    | (with_reducible refine oKs_sJ (by decide) (by assumption) (fun _ _ => ?_))
    | (with_reducible refine oKs_cI hE (by decide) (by assumption) (fun _ _ => ?_))
    | (with_reducible refine oKs_cJ hE (by decide) (by assumption) (fun _ _ => ?_))
    | (with_reducible refine oKs_cV hE (by decide) (by assumption) (fun _ _ => ?_))
    | (with_reducible refine oKs_rd (fun _ => ?_)))
theorem zf_378_20 (hE : fEs E) (i4 : Int32) (s : rS) (z : zFs Sz s) : oKs Sz (s378_20 E w i4 s) := by
  unfold s378_20
  repeat' (first
    | with_reducible exact oKs_rI (by assumption)
    | with_reducible exact oKs_so (by assumption)
    | exact oKs_none
    | with_reducible refine oKs_if ?_ ?_
    | (with_reducible refine oKs_pI (by decide) (by assumption) (fun _ _ => ?_))
    | (with_reducible refine oKs_sI (by decide) (by assumption) (fun _ _ => ?_))
    | (with_reducible refine oKs_sB (by decide) (by assumption) (fun _ _ => ?_))
    | (with_reducible refine oKs_sJ (by decide) (by assumption) (fun _ _ => ?_))
    | (with_reducible refine oKs_cI hE (by decide) (by assumption) (fun _ _ => ?_))
    | (with_reducible refine oKs_cJ hE (by decide) (by assumption) (fun _ _ => ?_))
    | (with_reducible refine oKs_cV hE (by decide) (by assumption) (fun _ _ => ?_))
    | (with_reducible refine oKs_rd (fun _ => ?_)))
theorem zf_378_0 (hE : fEs E) (i1 : Int32) (j2 : Int64) (i4 : Int32) (s : rS) (z : zFs Sz s) : oKs Sz (s378_0 E w i1 j2 i4 s) := by
  unfold s378_0
  repeat' (first
    | with_reducible exact oKs_rI (by assumption)
    | with_reducible exact oKs_so (by assumption)
    | exact oKs_none
    | with_reducible exact zf_378_20 hE _ _ (by assumption)
    | with_reducible refine oKs_if ?_ ?_
    | (with_reducible refine oKs_pI (by decide) (by assumption) (fun _ _ => ?_))
    | (with_reducible refine oKs_sI (by decide) (by assumption) (fun _ _ => ?_))
    | (with_reducible refine oKs_sB (by decide) (by assumption) (fun _ _ => ?_))
    | (with_reducible refine oKs_sJ (by decide) (by assumption) (fun _ _ => ?_))
    | (with_reducible refine oKs_cI hE (by decide) (by assumption) (fun _ _ => ?_))
    | (with_reducible refine oKs_cJ hE (by decide) (by assumption) (fun _ _ => ?_))
    | (with_reducible refine oKs_cV hE (by decide) (by assumption) (fun _ _ => ?_))
    | (with_reducible refine oKs_rd (fun _ => ?_)))
theorem zf_379_0 (hE : fEs E) (j0 : Int64) (s : rS) (z : zFs Sz s) : oKs Sz (s379_0 E w j0 s) := by
  unfold s379_0
  repeat' (first
    | with_reducible exact oKs_rI (by assumption)
    | with_reducible exact oKs_so (by assumption)
    | exact oKs_none
    | with_reducible refine oKs_if ?_ ?_
    | (with_reducible refine oKs_pI (by decide) (by assumption) (fun _ _ => ?_))
    | (with_reducible refine oKs_sI (by decide) (by assumption) (fun _ _ => ?_))
    | (with_reducible refine oKs_sB (by decide) (by assumption) (fun _ _ => ?_))
    | (with_reducible refine oKs_sJ (by decide) (by assumption) (fun _ _ => ?_))
    | (with_reducible refine oKs_cI hE (by decide) (by assumption) (fun _ _ => ?_))
    | (with_reducible refine oKs_cJ hE (by decide) (by assumption) (fun _ _ => ?_))
    | (with_reducible refine oKs_cV hE (by decide) (by assumption) (fun _ _ => ?_))
    | (with_reducible refine oKs_rd (fun _ => ?_)))
theorem zf_380_20 (hE : fEs E) (s : rS) (z : zFs Sz s) : oKs Sz (s380_20 E w s) := by
  unfold s380_20
  repeat' (first
    | with_reducible exact oKs_rI (by assumption)
    | with_reducible exact oKs_so (by assumption)
    | exact oKs_none
    | with_reducible refine oKs_if ?_ ?_
    | (with_reducible refine oKs_pI (by decide) (by assumption) (fun _ _ => ?_))
    | (with_reducible refine oKs_sI (by decide) (by assumption) (fun _ _ => ?_))
    | (with_reducible refine oKs_sB (by decide) (by assumption) (fun _ _ => ?_))
    | (with_reducible refine oKs_sJ (by decide) (by assumption) (fun _ _ => ?_))
    | (with_reducible refine oKs_cI hE (by decide) (by assumption) (fun _ _ => ?_))
    | (with_reducible refine oKs_cJ hE (by decide) (by assumption) (fun _ _ => ?_))
    | (with_reducible refine oKs_cV hE (by decide) (by assumption) (fun _ _ => ?_))
    | (with_reducible refine oKs_rd (fun _ => ?_)))
theorem zf_380_48 (hE : fEs E) (i3 : Int32) (s : rS) (z : zFs Sz s) : oKs Sz (s380_48 E w i3 s) := by
  unfold s380_48
  repeat' (first
    | with_reducible exact oKs_rI (by assumption)
    | with_reducible exact oKs_so (by assumption)
    | exact oKs_none
    | with_reducible refine oKs_if ?_ ?_
    | (with_reducible refine oKs_pI (by decide) (by assumption) (fun _ _ => ?_))
    | (with_reducible refine oKs_sI (by decide) (by assumption) (fun _ _ => ?_))
    | (with_reducible refine oKs_sB (by decide) (by assumption) (fun _ _ => ?_))
    | (with_reducible refine oKs_sJ (by decide) (by assumption) (fun _ _ => ?_))
    | (with_reducible refine oKs_cI hE (by decide) (by assumption) (fun _ _ => ?_))
    | (with_reducible refine oKs_cJ hE (by decide) (by assumption) (fun _ _ => ?_))
    | (with_reducible refine oKs_cV hE (by decide) (by assumption) (fun _ _ => ?_))
    | (with_reducible refine oKs_rd (fun _ => ?_)))
theorem zf_380_24 (hE : fEs E) : ∀ (n : Nat) (b0 : Int32) (b1 : Int32) (b2 : Int32) (s : rS), zFs Sz s → oKs Sz (s380_24 E w n b0 b1 b2 s)
  | 0, _, _, _, _, _ => fun r s' e => by
    have e : (none : Option rA) = some (r, s') := e
    cases e
  | n + 1, b0, b1, b2, s, z => by
    have ih := zf_380_24 hE n
    unfold s380_24
    repeat' (first
      | with_reducible exact oKs_rI (by assumption)
      | with_reducible exact oKs_so (by assumption)
      | exact oKs_none
      | with_reducible exact zf_380_48 hE _ _ (by assumption)
      | with_reducible exact ih _ _ _ _ (by assumption)
      | with_reducible refine oKs_if ?_ ?_
      | (with_reducible refine oKs_pI (by decide) (by assumption) (fun _ _ => ?_))
      | (with_reducible refine oKs_sI (by decide) (by assumption) (fun _ _ => ?_))
      | (with_reducible refine oKs_sB (by decide) (by assumption) (fun _ _ => ?_))
      | (with_reducible refine oKs_sJ (by decide) (by assumption) (fun _ _ => ?_))
      | (with_reducible refine oKs_cI hE (by decide) (by assumption) (fun _ _ => ?_))
      | (with_reducible refine oKs_cJ hE (by decide) (by assumption) (fun _ _ => ?_))
      | (with_reducible refine oKs_cV hE (by decide) (by assumption) (fun _ _ => ?_))
      | (with_reducible refine oKs_rd (fun _ => ?_)))
theorem zf_380_0 (hE : fEs E) (i1 : Int32) (i2 : Int32) (s : rS) (z : zFs Sz s) : oKs Sz (s380_0 E w i1 i2 s) := by
  unfold s380_0
  repeat' (first
    | with_reducible exact oKs_rI (by assumption)
    | with_reducible exact oKs_so (by assumption)
    | exact oKs_none
    | with_reducible exact zf_380_20 hE _ (by assumption)
    | with_reducible exact zf_380_24 hE _ _ _ _ _ (by assumption)
    | with_reducible refine oKs_if ?_ ?_
    | (with_reducible refine oKs_pI (by decide) (by assumption) (fun _ _ => ?_))
    | (with_reducible refine oKs_sI (by decide) (by assumption) (fun _ _ => ?_))
    | (with_reducible refine oKs_sB (by decide) (by assumption) (fun _ _ => ?_))
    | (with_reducible refine oKs_sJ (by decide) (by assumption) (fun _ _ => ?_))
    | (with_reducible refine oKs_cI hE (by decide) (by assumption) (fun _ _ => ?_))
    | (with_reducible refine oKs_cJ hE (by decide) (by assumption) (fun _ _ => ?_))
    | (with_reducible refine oKs_cV hE (by decide) (by assumption) (fun _ _ => ?_))
    | (with_reducible refine oKs_rd (fun _ => ?_)))
theorem zf_381_24 (hE : fEs E) (s0 : Int32) (s : rS) (z : zFs Sz s) : oKs Sz (s381_24 E w s0 s) := by
  unfold s381_24
  repeat' (first
    | with_reducible exact oKs_rI (by assumption)
    | with_reducible exact oKs_so (by assumption)
    | exact oKs_none
    | with_reducible refine oKs_if ?_ ?_
    | (with_reducible refine oKs_pI (by decide) (by assumption) (fun _ _ => ?_))
    | (with_reducible refine oKs_sI (by decide) (by assumption) (fun _ _ => ?_))
    | (with_reducible refine oKs_sB (by decide) (by assumption) (fun _ _ => ?_))
    | (with_reducible refine oKs_sJ (by decide) (by assumption) (fun _ _ => ?_))
    | (with_reducible refine oKs_cI hE (by decide) (by assumption) (fun _ _ => ?_))
    | (with_reducible refine oKs_cJ hE (by decide) (by assumption) (fun _ _ => ?_))
    | (with_reducible refine oKs_cV hE (by decide) (by assumption) (fun _ _ => ?_))
    | (with_reducible refine oKs_rd (fun _ => ?_)))
theorem zf_381_23 (hE : fEs E) (s : rS) (z : zFs Sz s) : oKs Sz (s381_23 E w s) := by
  unfold s381_23
  repeat' (first
    | with_reducible exact oKs_rI (by assumption)
    | with_reducible exact oKs_so (by assumption)
    | exact oKs_none
    | with_reducible exact zf_381_24 hE _ _ (by assumption)
    | with_reducible refine oKs_if ?_ ?_
    | (with_reducible refine oKs_pI (by decide) (by assumption) (fun _ _ => ?_))
    | (with_reducible refine oKs_sI (by decide) (by assumption) (fun _ _ => ?_))
    | (with_reducible refine oKs_sB (by decide) (by assumption) (fun _ _ => ?_))
    | (with_reducible refine oKs_sJ (by decide) (by assumption) (fun _ _ => ?_))
    | (with_reducible refine oKs_cI hE (by decide) (by assumption) (fun _ _ => ?_))
    | (with_reducible refine oKs_cJ hE (by decide) (by assumption) (fun _ _ => ?_))
    | (with_reducible refine oKs_cV hE (by decide) (by assumption) (fun _ _ => ?_))
    | (with_reducible refine oKs_rd (fun _ => ?_)))
theorem zf_381_0 (hE : fEs E) (i1 : Int32) (s : rS) (z : zFs Sz s) : oKs Sz (s381_0 E w i1 s) := by
  unfold s381_0
  repeat' (first
    | with_reducible exact oKs_rI (by assumption)
    | with_reducible exact oKs_so (by assumption)
    | exact oKs_none
    | with_reducible exact zf_381_23 hE _ (by assumption)
    | with_reducible exact zf_381_24 hE _ _ (by assumption)
    | with_reducible refine oKs_if ?_ ?_
    | (with_reducible refine oKs_pI (by decide) (by assumption) (fun _ _ => ?_))
    | (with_reducible refine oKs_sI (by decide) (by assumption) (fun _ _ => ?_))
    | (with_reducible refine oKs_sB (by decide) (by assumption) (fun _ _ => ?_))
    | (with_reducible refine oKs_sJ (by decide) (by assumption) (fun _ _ => ?_))
    | (with_reducible refine oKs_cI hE (by decide) (by assumption) (fun _ _ => ?_))
    | (with_reducible refine oKs_cJ hE (by decide) (by assumption) (fun _ _ => ?_))
    | (with_reducible refine oKs_cV hE (by decide) (by assumption) (fun _ _ => ?_))
    | (with_reducible refine oKs_rd (fun _ => ?_)))
theorem zf_382_23 (hE : fEs E) (s0 : Int32) (s : rS) (z : zFs Sz s) : oKs Sz (s382_23 E w s0 s) := by
  unfold s382_23
  repeat' (first
    | with_reducible exact oKs_rI (by assumption)
    | with_reducible exact oKs_so (by assumption)
    | exact oKs_none
    | with_reducible refine oKs_if ?_ ?_
    | (with_reducible refine oKs_pI (by decide) (by assumption) (fun _ _ => ?_))
    | (with_reducible refine oKs_sI (by decide) (by assumption) (fun _ _ => ?_))
    | (with_reducible refine oKs_sB (by decide) (by assumption) (fun _ _ => ?_))
    | (with_reducible refine oKs_sJ (by decide) (by assumption) (fun _ _ => ?_))
    | (with_reducible refine oKs_cI hE (by decide) (by assumption) (fun _ _ => ?_))
    | (with_reducible refine oKs_cJ hE (by decide) (by assumption) (fun _ _ => ?_))
    | (with_reducible refine oKs_cV hE (by decide) (by assumption) (fun _ _ => ?_))
    | (with_reducible refine oKs_rd (fun _ => ?_)))
theorem zf_382_18 (hE : fEs E) (s : rS) (z : zFs Sz s) : oKs Sz (s382_18 E w s) := by
  unfold s382_18
  repeat' (first
    | with_reducible exact oKs_rI (by assumption)
    | with_reducible exact oKs_so (by assumption)
    | exact oKs_none
    | with_reducible exact zf_382_23 hE _ _ (by assumption)
    | with_reducible refine oKs_if ?_ ?_
    | (with_reducible refine oKs_pI (by decide) (by assumption) (fun _ _ => ?_))
    | (with_reducible refine oKs_sI (by decide) (by assumption) (fun _ _ => ?_))
    | (with_reducible refine oKs_sB (by decide) (by assumption) (fun _ _ => ?_))
    | (with_reducible refine oKs_sJ (by decide) (by assumption) (fun _ _ => ?_))
    | (with_reducible refine oKs_cI hE (by decide) (by assumption) (fun _ _ => ?_))
    | (with_reducible refine oKs_cJ hE (by decide) (by assumption) (fun _ _ => ?_))
    | (with_reducible refine oKs_cV hE (by decide) (by assumption) (fun _ _ => ?_))
    | (with_reducible refine oKs_rd (fun _ => ?_)))
theorem zf_382_0 (hE : fEs E) (i1 : Int32) (s : rS) (z : zFs Sz s) : oKs Sz (s382_0 E w i1 s) := by
  unfold s382_0
  repeat' (first
    | with_reducible exact oKs_rI (by assumption)
    | with_reducible exact oKs_so (by assumption)
    | exact oKs_none
    | with_reducible exact zf_382_18 hE _ (by assumption)
    | with_reducible exact zf_382_23 hE _ _ (by assumption)
    | with_reducible refine oKs_if ?_ ?_
    | (with_reducible refine oKs_pI (by decide) (by assumption) (fun _ _ => ?_))
    | (with_reducible refine oKs_sI (by decide) (by assumption) (fun _ _ => ?_))
    | (with_reducible refine oKs_sB (by decide) (by assumption) (fun _ _ => ?_))
    | (with_reducible refine oKs_sJ (by decide) (by assumption) (fun _ _ => ?_))
    | (with_reducible refine oKs_cI hE (by decide) (by assumption) (fun _ _ => ?_))
    | (with_reducible refine oKs_cJ hE (by decide) (by assumption) (fun _ _ => ?_))
    | (with_reducible refine oKs_cV hE (by decide) (by assumption) (fun _ _ => ?_))
    | (with_reducible refine oKs_rd (fun _ => ?_)))
theorem zf_383_0 (hE : fEs E) (i1 : Int32) (s : rS) (z : zFs Sz s) : oKs Sz (s383_0 E w i1 s) := by
  unfold s383_0
  repeat' (first
    | with_reducible exact oKs_rI (by assumption)
    | with_reducible exact oKs_so (by assumption)
    | exact oKs_none
    | with_reducible refine oKs_if ?_ ?_
    | (with_reducible refine oKs_pI (by decide) (by assumption) (fun _ _ => ?_))
    | (with_reducible refine oKs_sI (by decide) (by assumption) (fun _ _ => ?_))
    | (with_reducible refine oKs_sB (by decide) (by assumption) (fun _ _ => ?_))
    | (with_reducible refine oKs_sJ (by decide) (by assumption) (fun _ _ => ?_))
    | (with_reducible refine oKs_cI hE (by decide) (by assumption) (fun _ _ => ?_))
    | (with_reducible refine oKs_cJ hE (by decide) (by assumption) (fun _ _ => ?_))
    | (with_reducible refine oKs_cV hE (by decide) (by assumption) (fun _ _ => ?_))
    | (with_reducible refine oKs_rd (fun _ => ?_)))
theorem zf_384_161 (hE : fEs E) {K71 : Int32 → Int32 → Int32 → rS → Option rA} (hK71 : ∀ (a0 : Int32) (a1 : Int32) (a2 : Int32) (s : rS), zFs Sz s → oKs Sz (K71 a0 a1 a2 s)) (i1 : Int32) (i2 : Int32) (i3 : Int32) (s : rS) (z : zFs Sz s) : oKs Sz (s384_161 E w K71 i1 i2 i3 s) := by
  unfold s384_161
  repeat' (first
    | with_reducible exact oKs_rI (by assumption)
    | with_reducible exact oKs_so (by assumption)
    | exact oKs_none
    | with_reducible exact hK71 _ _ _ _ (by assumption)
    | with_reducible refine oKs_if ?_ ?_
    | (with_reducible refine oKs_pI (by decide) (by assumption) (fun _ _ => ?_))
    | (with_reducible refine oKs_sI (by decide) (by assumption) (fun _ _ => ?_))
    | (with_reducible refine oKs_sB (by decide) (by assumption) (fun _ _ => ?_))
    | (with_reducible refine oKs_sJ (by decide) (by assumption) (fun _ _ => ?_))
    | (with_reducible refine oKs_cI hE (by decide) (by assumption) (fun _ _ => ?_))
    | (with_reducible refine oKs_cJ hE (by decide) (by assumption) (fun _ _ => ?_))
    | (with_reducible refine oKs_cV hE (by decide) (by assumption) (fun _ _ => ?_))
    | (with_reducible refine oKs_rd (fun _ => ?_)))
theorem zf_384_100 (hE : fEs E) {K71 : Int32 → Int32 → Int32 → rS → Option rA} (hK71 : ∀ (a0 : Int32) (a1 : Int32) (a2 : Int32) (s : rS), zFs Sz s → oKs Sz (K71 a0 a1 a2 s)) : ∀ (n : Nat) (b0 : Int32) (b1 : Int32) (b2 : Int32) (b3 : Int32) (s : rS), zFs Sz s → oKs Sz (s384_100 E w K71 n b0 b1 b2 b3 s)
  | 0, _, _, _, _, _, _ => fun r s' e => by
    have e : (none : Option rA) = some (r, s') := e
    cases e
  | n + 1, b0, b1, b2, b3, s, z => by
    have ih := zf_384_100 hE hK71 n
    unfold s384_100
    repeat' (first
      | with_reducible exact oKs_rI (by assumption)
      | with_reducible exact oKs_so (by assumption)
      | exact oKs_none
      | with_reducible exact zf_384_161 hE hK71 _ _ _ _ (by assumption)
      | with_reducible exact ih _ _ _ _ _ (by assumption)
      | with_reducible exact hK71 _ _ _ _ (by assumption)
      | with_reducible refine oKs_if ?_ ?_
      | (with_reducible refine oKs_pI (by decide) (by assumption) (fun _ _ => ?_))
      | (with_reducible refine oKs_sI (by decide) (by assumption) (fun _ _ => ?_))
      | (with_reducible refine oKs_sB (by decide) (by assumption) (fun _ _ => ?_))
      | (with_reducible refine oKs_sJ (by decide) (by assumption) (fun _ _ => ?_))
      | (with_reducible refine oKs_cI hE (by decide) (by assumption) (fun _ _ => ?_))
      | (with_reducible refine oKs_cJ hE (by decide) (by assumption) (fun _ _ => ?_))
      | (with_reducible refine oKs_cV hE (by decide) (by assumption) (fun _ _ => ?_))
      | (with_reducible refine oKs_rd (fun _ => ?_)))
theorem zf_384_188 (hE : fEs E) : ∀ (n : Nat) (b0 : Int32) (b1 : Int32) (b2 : Int32) (b3 : Int32) (s : rS), zFs Sz s → oKs Sz (s384_188 E w n b0 b1 b2 b3 s)
  | 0, _, _, _, _, _, _ => fun r s' e => by
    have e : (none : Option rA) = some (r, s') := e
    cases e
  | n + 1, b0, b1, b2, b3, s, z => by
    have ih := zf_384_188 hE n
    unfold s384_188
    repeat' (first
      | with_reducible exact oKs_rI (by assumption)
      | with_reducible exact oKs_so (by assumption)
      | exact oKs_none
      | with_reducible exact ih _ _ _ _ _ (by assumption)
      | with_reducible refine oKs_if ?_ ?_
      | (with_reducible refine oKs_pI (by decide) (by assumption) (fun _ _ => ?_))
      | (with_reducible refine oKs_sI (by decide) (by assumption) (fun _ _ => ?_))
      | (with_reducible refine oKs_sB (by decide) (by assumption) (fun _ _ => ?_))
      | (with_reducible refine oKs_sJ (by decide) (by assumption) (fun _ _ => ?_))
      | (with_reducible refine oKs_cI hE (by decide) (by assumption) (fun _ _ => ?_))
      | (with_reducible refine oKs_cJ hE (by decide) (by assumption) (fun _ _ => ?_))
      | (with_reducible refine oKs_cV hE (by decide) (by assumption) (fun _ _ => ?_))
      | (with_reducible refine oKs_rd (fun _ => ?_)))
theorem zf_384_71 (hE : fEs E) : ∀ (n : Nat) (b0 : Int32) (b1 : Int32) (b2 : Int32) (s : rS), zFs Sz s → oKs Sz (s384_71 E w n b0 b1 b2 s)
  | 0, _, _, _, _, _ => fun r s' e => by
    have e : (none : Option rA) = some (r, s') := e
    cases e
  | n + 1, b0, b1, b2, s, z => by
    have ih := zf_384_71 hE n
    unfold s384_71
    repeat' (first
      | with_reducible exact oKs_rI (by assumption)
      | with_reducible exact oKs_so (by assumption)
      | exact oKs_none
      | with_reducible exact zf_384_100 hE ih _ _ _ _ _ _ (by assumption)
      | with_reducible exact zf_384_161 hE ih _ _ _ _ (by assumption)
      | with_reducible exact zf_384_188 hE _ _ _ _ _ _ (by assumption)
      | with_reducible exact ih _ _ _ _ (by assumption)
      | with_reducible refine oKs_if ?_ ?_
      | (with_reducible refine oKs_pI (by decide) (by assumption) (fun _ _ => ?_))
      | (with_reducible refine oKs_sI (by decide) (by assumption) (fun _ _ => ?_))
      | (with_reducible refine oKs_sB (by decide) (by assumption) (fun _ _ => ?_))
      | (with_reducible refine oKs_sJ (by decide) (by assumption) (fun _ _ => ?_))
      | (with_reducible refine oKs_cI hE (by decide) (by assumption) (fun _ _ => ?_))
      | (with_reducible refine oKs_cJ hE (by decide) (by assumption) (fun _ _ => ?_))
      | (with_reducible refine oKs_cV hE (by decide) (by assumption) (fun _ _ => ?_))
      | (with_reducible refine oKs_rd (fun _ => ?_)))
theorem zf_384_22 (hE : fEs E) : ∀ (n : Nat) (b0 : Int32) (b1 : Int32) (b2 : Int32) (s : rS), zFs Sz s → oKs Sz (s384_22 E w n b0 b1 b2 s)
  | 0, _, _, _, _, _ => fun r s' e => by
    have e : (none : Option rA) = some (r, s') := e
    cases e
  | n + 1, b0, b1, b2, s, z => by
    have ih := zf_384_22 hE n
    unfold s384_22
    repeat' (first
      | with_reducible exact oKs_rI (by assumption)
      | with_reducible exact oKs_so (by assumption)
      | exact oKs_none
      | with_reducible exact zf_384_71 hE _ _ _ _ _ (by assumption)
      | with_reducible exact ih _ _ _ _ (by assumption)
      | with_reducible refine oKs_if ?_ ?_
      | (with_reducible refine oKs_pI (by decide) (by assumption) (fun _ _ => ?_))
      | (with_reducible refine oKs_sI (by decide) (by assumption) (fun _ _ => ?_))
      | (with_reducible refine oKs_sB (by decide) (by assumption) (fun _ _ => ?_))
      | (with_reducible refine oKs_sJ (by decide) (by assumption) (fun _ _ => ?_))
      | (with_reducible refine oKs_cI hE (by decide) (by assumption) (fun _ _ => ?_))
      | (with_reducible refine oKs_cJ hE (by decide) (by assumption) (fun _ _ => ?_))
      | (with_reducible refine oKs_cV hE (by decide) (by assumption) (fun _ _ => ?_))
      | (with_reducible refine oKs_rd (fun _ => ?_)))
theorem zf_384_0 (hE : fEs E) (i1 : Int32) (s : rS) (z : zFs Sz s) : oKs Sz (s384_0 E w i1 s) := by
  unfold s384_0
  repeat' (first
    | with_reducible exact oKs_rI (by assumption)
    | with_reducible exact oKs_so (by assumption)
    | exact oKs_none
    | with_reducible exact zf_384_22 hE _ _ _ _ _ (by assumption)
    | with_reducible refine oKs_if ?_ ?_
    | (with_reducible refine oKs_pI (by decide) (by assumption) (fun _ _ => ?_))
    | (with_reducible refine oKs_sI (by decide) (by assumption) (fun _ _ => ?_))
    | (with_reducible refine oKs_sB (by decide) (by assumption) (fun _ _ => ?_))
    | (with_reducible refine oKs_sJ (by decide) (by assumption) (fun _ _ => ?_))
    | (with_reducible refine oKs_cI hE (by decide) (by assumption) (fun _ _ => ?_))
    | (with_reducible refine oKs_cJ hE (by decide) (by assumption) (fun _ _ => ?_))
    | (with_reducible refine oKs_cV hE (by decide) (by assumption) (fun _ _ => ?_))
    | (with_reducible refine oKs_rd (fun _ => ?_)))
theorem zf_385_89 (hE : fEs E) (s0 : Int32) (s1 : Int32) (s : rS) (z : zFs Sz s) : oKs Sz (s385_89 E w s0 s1 s) := by
  unfold s385_89
  repeat' (first
    | with_reducible exact oKs_rI (by assumption)
    | with_reducible exact oKs_so (by assumption)
    | exact oKs_none
    | with_reducible refine oKs_if ?_ ?_
    | (with_reducible refine oKs_pI (by decide) (by assumption) (fun _ _ => ?_))
    | (with_reducible refine oKs_sI (by decide) (by assumption) (fun _ _ => ?_))
    | (with_reducible refine oKs_sB (by decide) (by assumption) (fun _ _ => ?_))
    | (with_reducible refine oKs_sJ (by decide) (by assumption) (fun _ _ => ?_))
    | (with_reducible refine oKs_cI hE (by decide) (by assumption) (fun _ _ => ?_))
    | (with_reducible refine oKs_cJ hE (by decide) (by assumption) (fun _ _ => ?_))
    | (with_reducible refine oKs_cV hE (by decide) (by assumption) (fun _ _ => ?_))
    | (with_reducible refine oKs_rd (fun _ => ?_)))
theorem zf_385_0 (hE : fEs E) (i1 : Int32) (i2 : Int32) (j3 : Int64) (s : rS) (z : zFs Sz s) : oKs Sz (s385_0 E w i1 i2 j3 s) := by
  unfold s385_0
  repeat' (first
    | with_reducible exact oKs_rI (by assumption)
    | with_reducible exact oKs_so (by assumption)
    | exact oKs_none
    | with_reducible exact zf_385_89 hE _ _ _ (by assumption)
    | with_reducible refine oKs_if ?_ ?_
    | (with_reducible refine oKs_pI (by decide) (by assumption) (fun _ _ => ?_))
    | (with_reducible refine oKs_sI (by decide) (by assumption) (fun _ _ => ?_))
    | (with_reducible refine oKs_sB (by decide) (by assumption) (fun _ _ => ?_))
    | (with_reducible refine oKs_sJ (by decide) (by assumption) (fun _ _ => ?_))
    | (with_reducible refine oKs_cI hE (by decide) (by assumption) (fun _ _ => ?_))
    | (with_reducible refine oKs_cJ hE (by decide) (by assumption) (fun _ _ => ?_))
    | (with_reducible refine oKs_cV hE (by decide) (by assumption) (fun _ _ => ?_))
    | (with_reducible refine oKs_rd (fun _ => ?_)))
theorem zf_386_36 (hE : fEs E) {K4 : Int32 → Int32 → rS → Option rA} (hK4 : ∀ (a0 : Int32) (a1 : Int32) (s : rS), zFs Sz s → oKs Sz (K4 a0 a1 s)) (i3 : Int32) (s0 : Int32) (s : rS) (z : zFs Sz s) : oKs Sz (s386_36 E w K4 i3 s0 s) := by
  unfold s386_36
  repeat' (first
    | with_reducible exact oKs_rI (by assumption)
    | with_reducible exact oKs_so (by assumption)
    | exact oKs_none
    | with_reducible exact hK4 _ _ _ (by assumption)
    | with_reducible refine oKs_if ?_ ?_
    | (with_reducible refine oKs_pI (by decide) (by assumption) (fun _ _ => ?_))
    | (with_reducible refine oKs_sI (by decide) (by assumption) (fun _ _ => ?_))
    | (with_reducible refine oKs_sB (by decide) (by assumption) (fun _ _ => ?_))
    | (with_reducible refine oKs_sJ (by decide) (by assumption) (fun _ _ => ?_))
    | (with_reducible refine oKs_cI hE (by decide) (by assumption) (fun _ _ => ?_))
    | (with_reducible refine oKs_cJ hE (by decide) (by assumption) (fun _ _ => ?_))
    | (with_reducible refine oKs_cV hE (by decide) (by assumption) (fun _ _ => ?_))
    | (with_reducible refine oKs_rd (fun _ => ?_)))
theorem zf_386_25 (hE : fEs E) {K4 : Int32 → Int32 → rS → Option rA} (hK4 : ∀ (a0 : Int32) (a1 : Int32) (s : rS), zFs Sz s → oKs Sz (K4 a0 a1 s)) (i2 : Int32) (i4 : Int32) (s0 : Int32) (s : rS) (z : zFs Sz s) : oKs Sz (s386_25 E w K4 i2 i4 s0 s) := by
  unfold s386_25
  repeat' (first
    | with_reducible exact oKs_rI (by assumption)
    | with_reducible exact oKs_so (by assumption)
    | exact oKs_none
    | with_reducible exact zf_386_36 hE hK4 _ _ _ (by assumption)
    | with_reducible exact hK4 _ _ _ (by assumption)
    | with_reducible refine oKs_if ?_ ?_
    | (with_reducible refine oKs_pI (by decide) (by assumption) (fun _ _ => ?_))
    | (with_reducible refine oKs_sI (by decide) (by assumption) (fun _ _ => ?_))
    | (with_reducible refine oKs_sB (by decide) (by assumption) (fun _ _ => ?_))
    | (with_reducible refine oKs_sJ (by decide) (by assumption) (fun _ _ => ?_))
    | (with_reducible refine oKs_cI hE (by decide) (by assumption) (fun _ _ => ?_))
    | (with_reducible refine oKs_cJ hE (by decide) (by assumption) (fun _ _ => ?_))
    | (with_reducible refine oKs_cV hE (by decide) (by assumption) (fun _ _ => ?_))
    | (with_reducible refine oKs_rd (fun _ => ?_)))
theorem zf_386_4 (hE : fEs E) : ∀ (n : Nat) (b0 : Int32) (b1 : Int32) (s : rS), zFs Sz s → oKs Sz (s386_4 E w n b0 b1 s)
  | 0, _, _, _, _ => fun r s' e => by
    have e : (none : Option rA) = some (r, s') := e
    cases e
  | n + 1, b0, b1, s, z => by
    have ih := zf_386_4 hE n
    unfold s386_4
    repeat' (first
      | with_reducible exact oKs_rI (by assumption)
      | with_reducible exact oKs_so (by assumption)
      | exact oKs_none
      | with_reducible exact zf_386_25 hE ih _ _ _ _ (by assumption)
      | with_reducible exact ih _ _ _ (by assumption)
      | with_reducible refine oKs_if ?_ ?_
      | (with_reducible refine oKs_pI (by decide) (by assumption) (fun _ _ => ?_))
      | (with_reducible refine oKs_sI (by decide) (by assumption) (fun _ _ => ?_))
      | (with_reducible refine oKs_sB (by decide) (by assumption) (fun _ _ => ?_))
      | (with_reducible refine oKs_sJ (by decide) (by assumption) (fun _ _ => ?_))
      | (with_reducible refine oKs_cI hE (by decide) (by assumption) (fun _ _ => ?_))
      | (with_reducible refine oKs_cJ hE (by decide) (by assumption) (fun _ _ => ?_))
      | (with_reducible refine oKs_cV hE (by decide) (by assumption) (fun _ _ => ?_))
      | (with_reducible refine oKs_rd (fun _ => ?_)))
theorem zf_386_0 (hE : fEs E) (i1 : Int32) (s : rS) (z : zFs Sz s) : oKs Sz (s386_0 E w i1 s) := by
  unfold s386_0
  repeat' (first
    | with_reducible exact oKs_rI (by assumption)
    | with_reducible exact oKs_so (by assumption)
    | exact oKs_none
    | with_reducible exact zf_386_4 hE _ _ _ _ (by assumption)
    | with_reducible refine oKs_if ?_ ?_
    | (with_reducible refine oKs_pI (by decide) (by assumption) (fun _ _ => ?_))
    | (with_reducible refine oKs_sI (by decide) (by assumption) (fun _ _ => ?_))
    | (with_reducible refine oKs_sB (by decide) (by assumption) (fun _ _ => ?_))
    | (with_reducible refine oKs_sJ (by decide) (by assumption) (fun _ _ => ?_))
    | (with_reducible refine oKs_cI hE (by decide) (by assumption) (fun _ _ => ?_))
    | (with_reducible refine oKs_cJ hE (by decide) (by assumption) (fun _ _ => ?_))
    | (with_reducible refine oKs_cV hE (by decide) (by assumption) (fun _ _ => ?_))
    | (with_reducible refine oKs_rd (fun _ => ?_)))
theorem zf_387_99 (hE : fEs E) (s0 : Int32) (s : rS) (z : zFs Sz s) : oKs Sz (s387_99 E w s0 s) := by
  unfold s387_99
  repeat' (first
    | with_reducible exact oKs_rI (by assumption)
    | with_reducible exact oKs_so (by assumption)
    | exact oKs_none
    | with_reducible refine oKs_if ?_ ?_
    | (with_reducible refine oKs_pI (by decide) (by assumption) (fun _ _ => ?_))
    | (with_reducible refine oKs_sI (by decide) (by assumption) (fun _ _ => ?_))
    | (with_reducible refine oKs_sB (by decide) (by assumption) (fun _ _ => ?_))
    | (with_reducible refine oKs_sJ (by decide) (by assumption) (fun _ _ => ?_))
    | (with_reducible refine oKs_cI hE (by decide) (by assumption) (fun _ _ => ?_))
    | (with_reducible refine oKs_cJ hE (by decide) (by assumption) (fun _ _ => ?_))
    | (with_reducible refine oKs_cV hE (by decide) (by assumption) (fun _ _ => ?_))
    | (with_reducible refine oKs_rd (fun _ => ?_)))
theorem zf_387_0 (hE : fEs E) (i1 : Int32) (s : rS) (z : zFs Sz s) : oKs Sz (s387_0 E w i1 s) := by
  unfold s387_0
  repeat' (first
    | with_reducible exact oKs_rI (by assumption)
    | with_reducible exact oKs_so (by assumption)
    | exact oKs_none
    | with_reducible exact zf_387_99 hE _ _ (by assumption)
    | with_reducible refine oKs_if ?_ ?_
    | (with_reducible refine oKs_pI (by decide) (by assumption) (fun _ _ => ?_))
    | (with_reducible refine oKs_sI (by decide) (by assumption) (fun _ _ => ?_))
    | (with_reducible refine oKs_sB (by decide) (by assumption) (fun _ _ => ?_))
    | (with_reducible refine oKs_sJ (by decide) (by assumption) (fun _ _ => ?_))
    | (with_reducible refine oKs_cI hE (by decide) (by assumption) (fun _ _ => ?_))
    | (with_reducible refine oKs_cJ hE (by decide) (by assumption) (fun _ _ => ?_))
    | (with_reducible refine oKs_cV hE (by decide) (by assumption) (fun _ _ => ?_))
    | (with_reducible refine oKs_rd (fun _ => ?_)))
theorem zf_388_697 (hE : fEs E) (i2 : Int32) (i4 : Int32) (s : rS) (z : zFs Sz s) : oKs Sz (s388_697 E w i2 i4 s) := by
  unfold s388_697
  repeat' (first
    | with_reducible exact oKs_rI (by assumption)
    | with_reducible exact oKs_so (by assumption)
    | exact oKs_none
    | with_reducible refine oKs_if ?_ ?_
    | (with_reducible refine oKs_pI (by decide) (by assumption) (fun _ _ => ?_))
    | (with_reducible refine oKs_sI (by decide) (by assumption) (fun _ _ => ?_))
    | (with_reducible refine oKs_sB (by decide) (by assumption) (fun _ _ => ?_))
    | (with_reducible refine oKs_sJ (by decide) (by assumption) (fun _ _ => ?_))
    | (with_reducible refine oKs_cI hE (by decide) (by assumption) (fun _ _ => ?_))
    | (with_reducible refine oKs_cJ hE (by decide) (by assumption) (fun _ _ => ?_))
    | (with_reducible refine oKs_cV hE (by decide) (by assumption) (fun _ _ => ?_))
    | (with_reducible refine oKs_rd (fun _ => ?_)))
theorem zf_388_231 (hE : fEs E) (i2 : Int32) (i4 : Int32) (s0 : Int32) (s1 : Int32) (s2 : Int32) (s : rS) (z : zFs Sz s) : oKs Sz (s388_231 E w i2 i4 s0 s1 s2 s) := by
  unfold s388_231
  repeat' (first
    | with_reducible exact oKs_rI (by assumption)
    | with_reducible exact oKs_so (by assumption)
    | exact oKs_none
    | with_reducible exact zf_388_697 hE _ _ _ (by assumption)
    | with_reducible refine oKs_if ?_ ?_
    | (with_reducible refine oKs_pI (by decide) (by assumption) (fun _ _ => ?_))
    | (with_reducible refine oKs_sI (by decide) (by assumption) (fun _ _ => ?_))
    | (with_reducible refine oKs_sB (by decide) (by assumption) (fun _ _ => ?_))
    | (with_reducible refine oKs_sJ (by decide) (by assumption) (fun _ _ => ?_))
    | (with_reducible refine oKs_cI hE (by decide) (by assumption) (fun _ _ => ?_))
    | (with_reducible refine oKs_cJ hE (by decide) (by assumption) (fun _ _ => ?_))
    | (with_reducible refine oKs_cV hE (by decide) (by assumption) (fun _ _ => ?_))
    | (with_reducible refine oKs_rd (fun _ => ?_)))
theorem zf_388_383 (hE : fEs E) (i2 : Int32) (i4 : Int32) (s0 : Int32) (s1 : Int32) (s2 : Int32) (s : rS) (z : zFs Sz s) : oKs Sz (s388_383 E w i2 i4 s0 s1 s2 s) := by
  unfold s388_383
  repeat' (first
    | with_reducible exact oKs_rI (by assumption)
    | with_reducible exact oKs_so (by assumption)
    | exact oKs_none
    | with_reducible exact zf_388_697 hE _ _ _ (by assumption)
    | with_reducible refine oKs_if ?_ ?_
    | (with_reducible refine oKs_pI (by decide) (by assumption) (fun _ _ => ?_))
    | (with_reducible refine oKs_sI (by decide) (by assumption) (fun _ _ => ?_))
    | (with_reducible refine oKs_sB (by decide) (by assumption) (fun _ _ => ?_))
    | (with_reducible refine oKs_sJ (by decide) (by assumption) (fun _ _ => ?_))
    | (with_reducible refine oKs_cI hE (by decide) (by assumption) (fun _ _ => ?_))
    | (with_reducible refine oKs_cJ hE (by decide) (by assumption) (fun _ _ => ?_))
    | (with_reducible refine oKs_cV hE (by decide) (by assumption) (fun _ _ => ?_))
    | (with_reducible refine oKs_rd (fun _ => ?_)))
theorem zf_388_487 (hE : fEs E) (i2 : Int32) (i4 : Int32) (s : rS) (z : zFs Sz s) : oKs Sz (s388_487 E w i2 i4 s) := by
  unfold s388_487
  repeat' (first
    | with_reducible exact oKs_rI (by assumption)
    | with_reducible exact oKs_so (by assumption)
    | exact oKs_none
    | with_reducible exact zf_388_697 hE _ _ _ (by assumption)
    | with_reducible refine oKs_if ?_ ?_
    | (with_reducible refine oKs_pI (by decide) (by assumption) (fun _ _ => ?_))
    | (with_reducible refine oKs_sI (by decide) (by assumption) (fun _ _ => ?_))
    | (with_reducible refine oKs_sB (by decide) (by assumption) (fun _ _ => ?_))
    | (with_reducible refine oKs_sJ (by decide) (by assumption) (fun _ _ => ?_))
    | (with_reducible refine oKs_cI hE (by decide) (by assumption) (fun _ _ => ?_))
    | (with_reducible refine oKs_cJ hE (by decide) (by assumption) (fun _ _ => ?_))
    | (with_reducible refine oKs_cV hE (by decide) (by assumption) (fun _ _ => ?_))
    | (with_reducible refine oKs_rd (fun _ => ?_)))
theorem zf_388_556 (hE : fEs E) (s0 : Int32) (s2 : Int32) (s : rS) (z : zFs Sz s) : oKs Sz (s388_556 E w s0 s2 s) := by
  unfold s388_556
  repeat' (first
    | with_reducible exact oKs_rI (by assumption)
    | with_reducible exact oKs_so (by assumption)
    | exact oKs_none
    | with_reducible refine oKs_if ?_ ?_
    | (with_reducible refine oKs_pI (by decide) (by assumption) (fun _ _ => ?_))
    | (with_reducible refine oKs_sI (by decide) (by assumption) (fun _ _ => ?_))
    | (with_reducible refine oKs_sB (by decide) (by assumption) (fun _ _ => ?_))
    | (with_reducible refine oKs_sJ (by decide) (by assumption) (fun _ _ => ?_))
    | (with_reducible refine oKs_cI hE (by decide) (by assumption) (fun _ _ => ?_))
    | (with_reducible refine oKs_cJ hE (by decide) (by assumption) (fun _ _ => ?_))
    | (with_reducible refine oKs_cV hE (by decide) (by assumption) (fun _ _ => ?_))
    | (with_reducible refine oKs_rd (fun _ => ?_)))
theorem zf_388_530 (hE : fEs E) (i2 : Int32) (i3 : Int32) (i5 : Int32) (s : rS) (z : zFs Sz s) : oKs Sz (s388_530 E w i2 i3 i5 s) := by
  unfold s388_530
  repeat' (first
    | with_reducible exact oKs_rI (by assumption)
    | with_reducible exact oKs_so (by assumption)
    | exact oKs_none
    | with_reducible exact zf_388_556 hE _ _ _ (by assumption)
    | with_reducible refine oKs_if ?_ ?_
    | (with_reducible refine oKs_pI (by decide) (by assumption) (fun _ _ => ?_))
    | (with_reducible refine oKs_sI (by decide) (by assumption) (fun _ _ => ?_))
    | (with_reducible refine oKs_sB (by decide) (by assumption) (fun _ _ => ?_))
    | (with_reducible refine oKs_sJ (by decide) (by assumption) (fun _ _ => ?_))
    | (with_reducible refine oKs_cI hE (by decide) (by assumption) (fun _ _ => ?_))
    | (with_reducible refine oKs_cJ hE (by decide) (by assumption) (fun _ _ => ?_))
    | (with_reducible refine oKs_cV hE (by decide) (by assumption) (fun _ _ => ?_))
    | (with_reducible refine oKs_rd (fun _ => ?_)))
theorem zf_388_514 (hE : fEs E) (i2 : Int32) (i3 : Int32) (i4 : Int32) (s0 : Int32) (s : rS) (z : zFs Sz s) : oKs Sz (s388_514 E w i2 i3 i4 s0 s) := by
  unfold s388_514
  repeat' (first
    | with_reducible exact oKs_rI (by assumption)
    | with_reducible exact oKs_so (by assumption)
    | exact oKs_none
    | with_reducible exact zf_388_530 hE _ _ _ _ (by assumption)
    | with_reducible exact zf_388_697 hE _ _ _ (by assumption)
    | with_reducible refine oKs_if ?_ ?_
    | (with_reducible refine oKs_pI (by decide) (by assumption) (fun _ _ => ?_))
    | (with_reducible refine oKs_sI (by decide) (by assumption) (fun _ _ => ?_))
    | (with_reducible refine oKs_sB (by decide) (by assumption) (fun _ _ => ?_))
    | (with_reducible refine oKs_sJ (by decide) (by assumption) (fun _ _ => ?_))
    | (with_reducible refine oKs_cI hE (by decide) (by assumption) (fun _ _ => ?_))
    | (with_reducible refine oKs_cJ hE (by decide) (by assumption) (fun _ _ => ?_))
    | (with_reducible refine oKs_cV hE (by decide) (by assumption) (fun _ _ => ?_))
    | (with_reducible refine oKs_rd (fun _ => ?_)))
theorem zf_388_638 (hE : fEs E) (s : rS) (z : zFs Sz s) : oKs Sz (s388_638 E w s) := by
  unfold s388_638
  repeat' (first
    | with_reducible exact oKs_rI (by assumption)
    | with_reducible exact oKs_so (by assumption)
    | exact oKs_none
    | with_reducible refine oKs_if ?_ ?_
    | (with_reducible refine oKs_pI (by decide) (by assumption) (fun _ _ => ?_))
    | (with_reducible refine oKs_sI (by decide) (by assumption) (fun _ _ => ?_))
    | (with_reducible refine oKs_sB (by decide) (by assumption) (fun _ _ => ?_))
    | (with_reducible refine oKs_sJ (by decide) (by assumption) (fun _ _ => ?_))
    | (with_reducible refine oKs_cI hE (by decide) (by assumption) (fun _ _ => ?_))
    | (with_reducible refine oKs_cJ hE (by decide) (by assumption) (fun _ _ => ?_))
    | (with_reducible refine oKs_cV hE (by decide) (by assumption) (fun _ _ => ?_))
    | (with_reducible refine oKs_rd (fun _ => ?_)))
theorem zf_388_688 (hE : fEs E) (s : rS) (z : zFs Sz s) : oKs Sz (s388_688 E w s) := by
  unfold s388_688
  repeat' (first
    | with_reducible exact oKs_rI (by assumption)
    | with_reducible exact oKs_so (by assumption)
    | exact oKs_none
    | with_reducible refine oKs_if ?_ ?_
    | (with_reducible refine oKs_pI (by decide) (by assumption) (fun _ _ => ?_))
    | (with_reducible refine oKs_sI (by decide) (by assumption) (fun _ _ => ?_))
    | (with_reducible refine oKs_sB (by decide) (by assumption) (fun _ _ => ?_))
    | (with_reducible refine oKs_sJ (by decide) (by assumption) (fun _ _ => ?_))
    | (with_reducible refine oKs_cI hE (by decide) (by assumption) (fun _ _ => ?_))
    | (with_reducible refine oKs_cJ hE (by decide) (by assumption) (fun _ _ => ?_))
    | (with_reducible refine oKs_cV hE (by decide) (by assumption) (fun _ _ => ?_))
    | (with_reducible refine oKs_rd (fun _ => ?_)))
theorem zf_388_685 (hE : fEs E) (s0 : Int64) (s1 : Int32) (s : rS) (z : zFs Sz s) : oKs Sz (s388_685 E w s0 s1 s) := by
  unfold s388_685
  repeat' (first
    | with_reducible exact oKs_rI (by assumption)
    | with_reducible exact oKs_so (by assumption)
    | exact oKs_none
    | with_reducible exact zf_388_688 hE _ (by assumption)
    | with_reducible refine oKs_if ?_ ?_
    | (with_reducible refine oKs_pI (by decide) (by assumption) (fun _ _ => ?_))
    | (with_reducible refine oKs_sI (by decide) (by assumption) (fun _ _ => ?_))
    | (with_reducible refine oKs_sB (by decide) (by assumption) (fun _ _ => ?_))
    | (with_reducible refine oKs_sJ (by decide) (by assumption) (fun _ _ => ?_))
    | (with_reducible refine oKs_cI hE (by decide) (by assumption) (fun _ _ => ?_))
    | (with_reducible refine oKs_cJ hE (by decide) (by assumption) (fun _ _ => ?_))
    | (with_reducible refine oKs_cV hE (by decide) (by assumption) (fun _ _ => ?_))
    | (with_reducible refine oKs_rd (fun _ => ?_)))
theorem zf_388_0 (hE : fEs E) (i1 : Int32) (i2 : Int32) (i3 : Int32) (s : rS) (z : zFs Sz s) : oKs Sz (s388_0 E w i1 i2 i3 s) := by
  unfold s388_0
  repeat' (first
    | with_reducible exact oKs_rI (by assumption)
    | with_reducible exact oKs_so (by assumption)
    | exact oKs_none
    | with_reducible exact zf_388_231 hE _ _ _ _ _ _ (by assumption)
    | with_reducible exact zf_388_383 hE _ _ _ _ _ _ (by assumption)
    | with_reducible exact zf_388_487 hE _ _ _ (by assumption)
    | with_reducible exact zf_388_514 hE _ _ _ _ _ (by assumption)
    | with_reducible exact zf_388_638 hE _ (by assumption)
    | with_reducible exact zf_388_685 hE _ _ _ (by assumption)
    | with_reducible exact zf_388_688 hE _ (by assumption)
    | with_reducible exact zf_388_697 hE _ _ _ (by assumption)
    | with_reducible refine oKs_if ?_ ?_
    | (with_reducible refine oKs_pI (by decide) (by assumption) (fun _ _ => ?_))
    | (with_reducible refine oKs_sI (by decide) (by assumption) (fun _ _ => ?_))
    | (with_reducible refine oKs_sB (by decide) (by assumption) (fun _ _ => ?_))
    | (with_reducible refine oKs_sJ (by decide) (by assumption) (fun _ _ => ?_))
    | (with_reducible refine oKs_cI hE (by decide) (by assumption) (fun _ _ => ?_))
    | (with_reducible refine oKs_cJ hE (by decide) (by assumption) (fun _ _ => ?_))
    | (with_reducible refine oKs_cV hE (by decide) (by assumption) (fun _ _ => ?_))
    | (with_reducible refine oKs_rd (fun _ => ?_)))
theorem zf_389_0 (hE : fEs E) (i1 : Int32) (j2 : Int64) (s : rS) (z : zFs Sz s) : oKs Sz (s389_0 E w i1 j2 s) := by
  unfold s389_0
  repeat' (first
    | with_reducible exact oKs_rI (by assumption)
    | with_reducible exact oKs_so (by assumption)
    | exact oKs_none
    | with_reducible refine oKs_if ?_ ?_
    | (with_reducible refine oKs_pI (by decide) (by assumption) (fun _ _ => ?_))
    | (with_reducible refine oKs_sI (by decide) (by assumption) (fun _ _ => ?_))
    | (with_reducible refine oKs_sB (by decide) (by assumption) (fun _ _ => ?_))
    | (with_reducible refine oKs_sJ (by decide) (by assumption) (fun _ _ => ?_))
    | (with_reducible refine oKs_cI hE (by decide) (by assumption) (fun _ _ => ?_))
    | (with_reducible refine oKs_cJ hE (by decide) (by assumption) (fun _ _ => ?_))
    | (with_reducible refine oKs_cV hE (by decide) (by assumption) (fun _ _ => ?_))
    | (with_reducible refine oKs_rd (fun _ => ?_)))
theorem zf_390_0 (hE : fEs E) (i1 : Int32) (s : rS) (z : zFs Sz s) : oKs Sz (s390_0 E w i1 s) := by
  unfold s390_0
  repeat' (first
    | with_reducible exact oKs_rI (by assumption)
    | with_reducible exact oKs_so (by assumption)
    | exact oKs_none
    | with_reducible refine oKs_if ?_ ?_
    | (with_reducible refine oKs_pI (by decide) (by assumption) (fun _ _ => ?_))
    | (with_reducible refine oKs_sI (by decide) (by assumption) (fun _ _ => ?_))
    | (with_reducible refine oKs_sB (by decide) (by assumption) (fun _ _ => ?_))
    | (with_reducible refine oKs_sJ (by decide) (by assumption) (fun _ _ => ?_))
    | (with_reducible refine oKs_cI hE (by decide) (by assumption) (fun _ _ => ?_))
    | (with_reducible refine oKs_cJ hE (by decide) (by assumption) (fun _ _ => ?_))
    | (with_reducible refine oKs_cV hE (by decide) (by assumption) (fun _ _ => ?_))
    | (with_reducible refine oKs_rd (fun _ => ?_)))
theorem zf_391_44 (hE : fEs E) (s0 : Int64) (s : rS) (z : zFs Sz s) : oKs Sz (s391_44 E w s0 s) := by
  unfold s391_44
  repeat' (first
    | with_reducible exact oKs_rI (by assumption)
    | with_reducible exact oKs_so (by assumption)
    | exact oKs_none
    | with_reducible refine oKs_if ?_ ?_
    | (with_reducible refine oKs_pI (by decide) (by assumption) (fun _ _ => ?_))
    | (with_reducible refine oKs_sI (by decide) (by assumption) (fun _ _ => ?_))
    | (with_reducible refine oKs_sB (by decide) (by assumption) (fun _ _ => ?_))
    | (with_reducible refine oKs_sJ (by decide) (by assumption) (fun _ _ => ?_))
    | (with_reducible refine oKs_cI hE (by decide) (by assumption) (fun _ _ => ?_))
    | (with_reducible refine oKs_cJ hE (by decide) (by assumption) (fun _ _ => ?_))
    | (with_reducible refine oKs_cV hE (by decide) (by assumption) (fun _ _ => ?_))
    | (with_reducible refine oKs_rd (fun _ => ?_)))
theorem zf_391_0 (hE : fEs E) (i1 : Int32) (j2 : Int64) (i4 : Int32) (s : rS) (z : zFs Sz s) : oKs Sz (s391_0 E w i1 j2 i4 s) := by
  unfold s391_0
  repeat' (first
    | with_reducible exact oKs_rI (by assumption)
    | with_reducible exact oKs_so (by assumption)
    | exact oKs_none
    | with_reducible exact zf_391_44 hE _ _ (by assumption)
    | with_reducible refine oKs_if ?_ ?_
    | (with_reducible refine oKs_pI (by decide) (by assumption) (fun _ _ => ?_))
    | (with_reducible refine oKs_sI (by decide) (by assumption) (fun _ _ => ?_))
    | (with_reducible refine oKs_sB (by decide) (by assumption) (fun _ _ => ?_))
    | (with_reducible refine oKs_sJ (by decide) (by assumption) (fun _ _ => ?_))
    | (with_reducible refine oKs_cI hE (by decide) (by assumption) (fun _ _ => ?_))
    | (with_reducible refine oKs_cJ hE (by decide) (by assumption) (fun _ _ => ?_))
    | (with_reducible refine oKs_cV hE (by decide) (by assumption) (fun _ _ => ?_))
    | (with_reducible refine oKs_rd (fun _ => ?_)))
theorem zf_392_0 (hE : fEs E) (i1 : Int32) (i2 : Int32) (i3 : Int32) (s : rS) (z : zFs Sz s) : oKs Sz (s392_0 E w i1 i2 i3 s) := by
  unfold s392_0
  repeat' (first
    | with_reducible exact oKs_rI (by assumption)
    | with_reducible exact oKs_so (by assumption)
    | exact oKs_none
    | with_reducible refine oKs_if ?_ ?_
    | (with_reducible refine oKs_pI (by decide) (by assumption) (fun _ _ => ?_))
    | (with_reducible refine oKs_sI (by decide) (by assumption) (fun _ _ => ?_))
    | (with_reducible refine oKs_sB (by decide) (by assumption) (fun _ _ => ?_))
    | (with_reducible refine oKs_sJ (by decide) (by assumption) (fun _ _ => ?_))
    | (with_reducible refine oKs_cI hE (by decide) (by assumption) (fun _ _ => ?_))
    | (with_reducible refine oKs_cJ hE (by decide) (by assumption) (fun _ _ => ?_))
    | (with_reducible refine oKs_cV hE (by decide) (by assumption) (fun _ _ => ?_))
    | (with_reducible refine oKs_rd (fun _ => ?_)))
theorem zf_393_159 (hE : fEs E) (s0 : Int32) (s : rS) (z : zFs Sz s) : oKs Sz (s393_159 E w s0 s) := by
  unfold s393_159
  repeat' (first
    | with_reducible exact oKs_rI (by assumption)
    | with_reducible exact oKs_so (by assumption)
    | exact oKs_none
    | with_reducible refine oKs_if ?_ ?_
    | (with_reducible refine oKs_pI (by decide) (by assumption) (fun _ _ => ?_))
    | (with_reducible refine oKs_sI (by decide) (by assumption) (fun _ _ => ?_))
    | (with_reducible refine oKs_sB (by decide) (by assumption) (fun _ _ => ?_))
    | (with_reducible refine oKs_sJ (by decide) (by assumption) (fun _ _ => ?_))
    | (with_reducible refine oKs_cI hE (by decide) (by assumption) (fun _ _ => ?_))
    | (with_reducible refine oKs_cJ hE (by decide) (by assumption) (fun _ _ => ?_))
    | (with_reducible refine oKs_cV hE (by decide) (by assumption) (fun _ _ => ?_))
    | (with_reducible refine oKs_rd (fun _ => ?_)))
theorem zf_393_125 (hE : fEs E) (i2 : Int32) (i3 : Int32) (s0 : Int32) (s : rS) (z : zFs Sz s) : oKs Sz (s393_125 E w i2 i3 s0 s) := by
  unfold s393_125
  repeat' (first
    | with_reducible exact oKs_rI (by assumption)
    | with_reducible exact oKs_so (by assumption)
    | exact oKs_none
    | with_reducible exact zf_393_159 hE _ _ (by assumption)
    | with_reducible refine oKs_if ?_ ?_
    | (with_reducible refine oKs_pI (by decide) (by assumption) (fun _ _ => ?_))
    | (with_reducible refine oKs_sI (by decide) (by assumption) (fun _ _ => ?_))
    | (with_reducible refine oKs_sB (by decide) (by assumption) (fun _ _ => ?_))
    | (with_reducible refine oKs_sJ (by decide) (by assumption) (fun _ _ => ?_))
    | (with_reducible refine oKs_cI hE (by decide) (by assumption) (fun _ _ => ?_))
    | (with_reducible refine oKs_cJ hE (by decide) (by assumption) (fun _ _ => ?_))
    | (with_reducible refine oKs_cV hE (by decide) (by assumption) (fun _ _ => ?_))
    | (with_reducible refine oKs_rd (fun _ => ?_)))
theorem zf_393_124 (hE : fEs E) (i2 : Int32) (i3 : Int32) (s : rS) (z : zFs Sz s) : oKs Sz (s393_124 E w i2 i3 s) := by
  unfold s393_124
  repeat' (first
    | with_reducible exact oKs_rI (by assumption)
    | with_reducible exact oKs_so (by assumption)
    | exact oKs_none
    | with_reducible exact zf_393_125 hE _ _ _ _ (by assumption)
    | with_reducible refine oKs_if ?_ ?_
    | (with_reducible refine oKs_pI (by decide) (by assumption) (fun _ _ => ?_))
    | (with_reducible refine oKs_sI (by decide) (by assumption) (fun _ _ => ?_))
    | (with_reducible refine oKs_sB (by decide) (by assumption) (fun _ _ => ?_))
    | (with_reducible refine oKs_sJ (by decide) (by assumption) (fun _ _ => ?_))
    | (with_reducible refine oKs_cI hE (by decide) (by assumption) (fun _ _ => ?_))
    | (with_reducible refine oKs_cJ hE (by decide) (by assumption) (fun _ _ => ?_))
    | (with_reducible refine oKs_cV hE (by decide) (by assumption) (fun _ _ => ?_))
    | (with_reducible refine oKs_rd (fun _ => ?_)))
theorem zf_393_160 (hE : fEs E) {K2 : Int32 → rS → Option rA} (hK2 : ∀ (a0 : Int32) (s : rS), zFs Sz s → oKs Sz (K2 a0 s)) (i2 : Int32) (s : rS) (z : zFs Sz s) : oKs Sz (s393_160 E w K2 i2 s) := by
  unfold s393_160
  repeat' (first
    | with_reducible exact oKs_rI (by assumption)
    | with_reducible exact oKs_so (by assumption)
    | exact oKs_none
    | with_reducible exact hK2 _ _ (by assumption)
    | with_reducible refine oKs_if ?_ ?_
    | (with_reducible refine oKs_pI (by decide) (by assumption) (fun _ _ => ?_))
    | (with_reducible refine oKs_sI (by decide) (by assumption) (fun _ _ => ?_))
    | (with_reducible refine oKs_sB (by decide) (by assumption) (fun _ _ => ?_))
    | (with_reducible refine oKs_sJ (by decide) (by assumption) (fun _ _ => ?_))
    | (with_reducible refine oKs_cI hE (by decide) (by assumption) (fun _ _ => ?_))
    | (with_reducible refine oKs_cJ hE (by decide) (by assumption) (fun _ _ => ?_))
    | (with_reducible refine oKs_cV hE (by decide) (by assumption) (fun _ _ => ?_))
    | (with_reducible refine oKs_rd (fun _ => ?_)))
theorem zf_393_2 (hE : fEs E) : ∀ (n : Nat) (b0 : Int32) (s : rS), zFs Sz s → oKs Sz (s393_2 E w n b0 s)
  | 0, _, _, _ => fun r s' e => by
    have e : (none : Option rA) = some (r, s') := e
    cases e
  | n + 1, b0, s, z => by
    have ih := zf_393_2 hE n
    unfold s393_2
    repeat' (first
      | with_reducible exact oKs_rI (by assumption)
      | with_reducible exact oKs_so (by assumption)
      | exact oKs_none
      | with_reducible exact zf_393_124 hE _ _ _ (by assumption)
      | with_reducible exact zf_393_125 hE _ _ _ _ (by assumption)
      | with_reducible exact zf_393_160 hE ih _ _ (by assumption)
      | with_reducible exact ih _ _ (by assumption)
      | with_reducible refine oKs_if ?_ ?_
      | (with_reducible refine oKs_pI (by decide) (by assumption) (fun _ _ => ?_))
      | (with_reducible refine oKs_sI (by decide) (by assumption) (fun _ _ => ?_))
      | (with_reducible refine oKs_sB (by decide) (by assumption) (fun _ _ => ?_))
      | (with_reducible refine oKs_sJ (by decide) (by assumption) (fun _ _ => ?_))
      | (with_reducible refine oKs_cI hE (by decide) (by assumption) (fun _ _ => ?_))
      | (with_reducible refine oKs_cJ hE (by decide) (by assumption) (fun _ _ => ?_))
      | (with_reducible refine oKs_cV hE (by decide) (by assumption) (fun _ _ => ?_))
      | (with_reducible refine oKs_rd (fun _ => ?_)))
theorem zf_393_0 (hE : fEs E) (i1 : Int32) (s : rS) (z : zFs Sz s) : oKs Sz (s393_0 E w i1 s) := by
  unfold s393_0
  repeat' (first
    | with_reducible exact oKs_rI (by assumption)
    | with_reducible exact oKs_so (by assumption)
    | exact oKs_none
    | with_reducible exact zf_393_2 hE _ _ _ (by assumption)
    | with_reducible refine oKs_if ?_ ?_
    | (with_reducible refine oKs_pI (by decide) (by assumption) (fun _ _ => ?_))
    | (with_reducible refine oKs_sI (by decide) (by assumption) (fun _ _ => ?_))
    | (with_reducible refine oKs_sB (by decide) (by assumption) (fun _ _ => ?_))
    | (with_reducible refine oKs_sJ (by decide) (by assumption) (fun _ _ => ?_))
    | (with_reducible refine oKs_cI hE (by decide) (by assumption) (fun _ _ => ?_))
    | (with_reducible refine oKs_cJ hE (by decide) (by assumption) (fun _ _ => ?_))
    | (with_reducible refine oKs_cV hE (by decide) (by assumption) (fun _ _ => ?_))
    | (with_reducible refine oKs_rd (fun _ => ?_)))
theorem zf_394_44 (hE : fEs E) (s0 : Int32) (s : rS) (z : zFs Sz s) : oKs Sz (s394_44 E w s0 s) := by
  unfold s394_44
  repeat' (first
    | with_reducible exact oKs_rI (by assumption)
    | with_reducible exact oKs_so (by assumption)
    | exact oKs_none
    | with_reducible refine oKs_if ?_ ?_
    | (with_reducible refine oKs_pI (by decide) (by assumption) (fun _ _ => ?_))
    | (with_reducible refine oKs_sI (by decide) (by assumption) (fun _ _ => ?_))
    | (with_reducible refine oKs_sB (by decide) (by assumption) (fun _ _ => ?_))
    | (with_reducible refine oKs_sJ (by decide) (by assumption) (fun _ _ => ?_))
    | (with_reducible refine oKs_cI hE (by decide) (by assumption) (fun _ _ => ?_))
    | (with_reducible refine oKs_cJ hE (by decide) (by assumption) (fun _ _ => ?_))
    | (with_reducible refine oKs_cV hE (by decide) (by assumption) (fun _ _ => ?_))
    | (with_reducible refine oKs_rd (fun _ => ?_)))
theorem zf_394_43 (hE : fEs E) (s : rS) (z : zFs Sz s) : oKs Sz (s394_43 E w s) := by
  unfold s394_43
  repeat' (first
    | with_reducible exact oKs_rI (by assumption)
    | with_reducible exact oKs_so (by assumption)
    | exact oKs_none
    | with_reducible exact zf_394_44 hE _ _ (by assumption)
    | with_reducible refine oKs_if ?_ ?_
    | (with_reducible refine oKs_pI (by decide) (by assumption) (fun _ _ => ?_))
    | (with_reducible refine oKs_sI (by decide) (by assumption) (fun _ _ => ?_))
    | (with_reducible refine oKs_sB (by decide) (by assumption) (fun _ _ => ?_))
    | (with_reducible refine oKs_sJ (by decide) (by assumption) (fun _ _ => ?_))
    | (with_reducible refine oKs_cI hE (by decide) (by assumption) (fun _ _ => ?_))
    | (with_reducible refine oKs_cJ hE (by decide) (by assumption) (fun _ _ => ?_))
    | (with_reducible refine oKs_cV hE (by decide) (by assumption) (fun _ _ => ?_))
    | (with_reducible refine oKs_rd (fun _ => ?_)))
theorem zf_394_29 (hE : fEs E) (i1 : Int32) (i2 : Int32) (s : rS) (z : zFs Sz s) : oKs Sz (s394_29 E w i1 i2 s) := by
  unfold s394_29
  repeat' (first
    | with_reducible exact oKs_rI (by assumption)
    | with_reducible exact oKs_so (by assumption)
    | exact oKs_none
    | with_reducible exact zf_394_43 hE _ (by assumption)
    | with_reducible exact zf_394_44 hE _ _ (by assumption)
    | with_reducible refine oKs_if ?_ ?_
    | (with_reducible refine oKs_pI (by decide) (by assumption) (fun _ _ => ?_))
    | (with_reducible refine oKs_sI (by decide) (by assumption) (fun _ _ => ?_))
    | (with_reducible refine oKs_sB (by decide) (by assumption) (fun _ _ => ?_))
    | (with_reducible refine oKs_sJ (by decide) (by assumption) (fun _ _ => ?_))
    | (with_reducible refine oKs_cI hE (by decide) (by assumption) (fun _ _ => ?_))
    | (with_reducible refine oKs_cJ hE (by decide) (by assumption) (fun _ _ => ?_))
    | (with_reducible refine oKs_cV hE (by decide) (by assumption) (fun _ _ => ?_))
    | (with_reducible refine oKs_rd (fun _ => ?_)))
theorem zf_394_0 (hE : fEs E) (i1 : Int32) (s : rS) (z : zFs Sz s) : oKs Sz (s394_0 E w i1 s) := by
  unfold s394_0
  repeat' (first
    | with_reducible exact oKs_rI (by assumption)
    | with_reducible exact oKs_so (by assumption)
    | exact oKs_none
    | with_reducible exact zf_394_29 hE _ _ _ (by assumption)
    | with_reducible exact zf_394_43 hE _ (by assumption)
    | with_reducible refine oKs_if ?_ ?_
    | (with_reducible refine oKs_pI (by decide) (by assumption) (fun _ _ => ?_))
    | (with_reducible refine oKs_sI (by decide) (by assumption) (fun _ _ => ?_))
    | (with_reducible refine oKs_sB (by decide) (by assumption) (fun _ _ => ?_))
    | (with_reducible refine oKs_sJ (by decide) (by assumption) (fun _ _ => ?_))
    | (with_reducible refine oKs_cI hE (by decide) (by assumption) (fun _ _ => ?_))
    | (with_reducible refine oKs_cJ hE (by decide) (by assumption) (fun _ _ => ?_))
    | (with_reducible refine oKs_cV hE (by decide) (by assumption) (fun _ _ => ?_))
    | (with_reducible refine oKs_rd (fun _ => ?_)))
theorem zf_395_33 (hE : fEs E) (s0 : Int32) (s : rS) (z : zFs Sz s) : oKs Sz (s395_33 E w s0 s) := by
  unfold s395_33
  repeat' (first
    | with_reducible exact oKs_rI (by assumption)
    | with_reducible exact oKs_so (by assumption)
    | exact oKs_none
    | with_reducible refine oKs_if ?_ ?_
    | (with_reducible refine oKs_pI (by decide) (by assumption) (fun _ _ => ?_))
    | (with_reducible refine oKs_sI (by decide) (by assumption) (fun _ _ => ?_))
    | (with_reducible refine oKs_sB (by decide) (by assumption) (fun _ _ => ?_))
    | (with_reducible refine oKs_sJ (by decide) (by assumption) (fun _ _ => ?_))
    | (with_reducible refine oKs_cI hE (by decide) (by assumption) (fun _ _ => ?_))
    | (with_reducible refine oKs_cJ hE (by decide) (by assumption) (fun _ _ => ?_))
    | (with_reducible refine oKs_cV hE (by decide) (by assumption) (fun _ _ => ?_))
    | (with_reducible refine oKs_rd (fun _ => ?_)))
theorem zf_395_87 (hE : fEs E) (s0 : Int32) (s : rS) (z : zFs Sz s) : oKs Sz (s395_87 E w s0 s) := by
  unfold s395_87
  repeat' (first
    | with_reducible exact oKs_rI (by assumption)
    | with_reducible exact oKs_so (by assumption)
    | exact oKs_none
    | with_reducible refine oKs_if ?_ ?_
    | (with_reducible refine oKs_pI (by decide) (by assumption) (fun _ _ => ?_))
    | (with_reducible refine oKs_sI (by decide) (by assumption) (fun _ _ => ?_))
    | (with_reducible refine oKs_sB (by decide) (by assumption) (fun _ _ => ?_))
    | (with_reducible refine oKs_sJ (by decide) (by assumption) (fun _ _ => ?_))
    | (with_reducible refine oKs_cI hE (by decide) (by assumption) (fun _ _ => ?_))
    | (with_reducible refine oKs_cJ hE (by decide) (by assumption) (fun _ _ => ?_))
    | (with_reducible refine oKs_cV hE (by decide) (by assumption) (fun _ _ => ?_))
    | (with_reducible refine oKs_rd (fun _ => ?_)))
theorem zf_395_86 (hE : fEs E) (s : rS) (z : zFs Sz s) : oKs Sz (s395_86 E w s) := by
  unfold s395_86
  repeat' (first
    | with_reducible exact oKs_rI (by assumption)
    | with_reducible exact oKs_so (by assumption)
    | exact oKs_none
    | with_reducible exact zf_395_87 hE _ _ (by assumption)
    | with_reducible refine oKs_if ?_ ?_
    | (with_reducible refine oKs_pI (by decide) (by assumption) (fun _ _ => ?_))
    | (with_reducible refine oKs_sI (by decide) (by assumption) (fun _ _ => ?_))
    | (with_reducible refine oKs_sB (by decide) (by assumption) (fun _ _ => ?_))
    | (with_reducible refine oKs_sJ (by decide) (by assumption) (fun _ _ => ?_))
    | (with_reducible refine oKs_cI hE (by decide) (by assumption) (fun _ _ => ?_))
    | (with_reducible refine oKs_cJ hE (by decide) (by assumption) (fun _ _ => ?_))
    | (with_reducible refine oKs_cV hE (by decide) (by assumption) (fun _ _ => ?_))
    | (with_reducible refine oKs_rd (fun _ => ?_)))
theorem zf_395_46 (hE : fEs E) (i1 : Int32) (i2 : Int32) (s : rS) (z : zFs Sz s) : oKs Sz (s395_46 E w i1 i2 s) := by
  unfold s395_46
  repeat' (first
    | with_reducible exact oKs_rI (by assumption)
    | with_reducible exact oKs_so (by assumption)
    | exact oKs_none
    | with_reducible exact zf_395_86 hE _ (by assumption)
    | with_reducible exact zf_395_87 hE _ _ (by assumption)
    | with_reducible refine oKs_if ?_ ?_
    | (with_reducible refine oKs_pI (by decide) (by assumption) (fun _ _ => ?_))
    | (with_reducible refine oKs_sI (by decide) (by assumption) (fun _ _ => ?_))
    | (with_reducible refine oKs_sB (by decide) (by assumption) (fun _ _ => ?_))
    | (with_reducible refine oKs_sJ (by decide) (by assumption) (fun _ _ => ?_))
    | (with_reducible refine oKs_cI hE (by decide) (by assumption) (fun _ _ => ?_))
    | (with_reducible refine oKs_cJ hE (by decide) (by assumption) (fun _ _ => ?_))
    | (with_reducible refine oKs_cV hE (by decide) (by assumption) (fun _ _ => ?_))
    | (with_reducible refine oKs_rd (fun _ => ?_)))
theorem zf_395_154 (hE : fEs E) (s0 : Int32) (s : rS) (z : zFs Sz s) : oKs Sz (s395_154 E w s0 s) := by
  unfold s395_154
  repeat' (first
    | with_reducible exact oKs_rI (by assumption)
    | with_reducible exact oKs_so (by assumption)
    | exact oKs_none
    | with_reducible refine oKs_if ?_ ?_
    | (with_reducible refine oKs_pI (by decide) (by assumption) (fun _ _ => ?_))
    | (with_reducible refine oKs_sI (by decide) (by assumption) (fun _ _ => ?_))
    | (with_reducible refine oKs_sB (by decide) (by assumption) (fun _ _ => ?_))
    | (with_reducible refine oKs_sJ (by decide) (by assumption) (fun _ _ => ?_))
    | (with_reducible refine oKs_cI hE (by decide) (by assumption) (fun _ _ => ?_))
    | (with_reducible refine oKs_cJ hE (by decide) (by assumption) (fun _ _ => ?_))
    | (with_reducible refine oKs_cV hE (by decide) (by assumption) (fun _ _ => ?_))
    | (with_reducible refine oKs_rd (fun _ => ?_)))
theorem zf_395_108 (hE : fEs E) (i1 : Int32) (i2 : Int32) (i3 : Int32) (s : rS) (z : zFs Sz s) : oKs Sz (s395_108 E w i1 i2 i3 s) := by
  unfold s395_108
  repeat' (first
    | with_reducible exact oKs_rI (by assumption)
    | with_reducible exact oKs_so (by assumption)
    | exact oKs_none
    | with_reducible exact zf_395_154 hE _ _ (by assumption)
    | with_reducible refine oKs_if ?_ ?_
    | (with_reducible refine oKs_pI (by decide) (by assumption) (fun _ _ => ?_))
    | (with_reducible refine oKs_sI (by decide) (by assumption) (fun _ _ => ?_))
    | (with_reducible refine oKs_sB (by decide) (by assumption) (fun _ _ => ?_))
    | (with_reducible refine oKs_sJ (by decide) (by assumption) (fun _ _ => ?_))
    | (with_reducible refine oKs_cI hE (by decide) (by assumption) (fun _ _ => ?_))
    | (with_reducible refine oKs_cJ hE (by decide) (by assumption) (fun _ _ => ?_))
    | (with_reducible refine oKs_cV hE (by decide) (by assumption) (fun _ _ => ?_))
    | (with_reducible refine oKs_rd (fun _ => ?_)))
theorem zf_395_0 (hE : fEs E) (i1 : Int32) (i2 : Int32) (s : rS) (z : zFs Sz s) : oKs Sz (s395_0 E w i1 i2 s) := by
  unfold s395_0
  repeat' (first
    | with_reducible exact oKs_rI (by assumption)
    | with_reducible exact oKs_so (by assumption)
    | exact oKs_none
    | with_reducible exact zf_395_108 hE _ _ _ _ (by assumption)
    | with_reducible exact zf_395_33 hE _ _ (by assumption)
    | with_reducible exact zf_395_46 hE _ _ _ (by assumption)
    | with_reducible refine oKs_if ?_ ?_
    | (with_reducible refine oKs_pI (by decide) (by assumption) (fun _ _ => ?_))
    | (with_reducible refine oKs_sI (by decide) (by assumption) (fun _ _ => ?_))
    | (with_reducible refine oKs_sB (by decide) (by assumption) (fun _ _ => ?_))
    | (with_reducible refine oKs_sJ (by decide) (by assumption) (fun _ _ => ?_))
    | (with_reducible refine oKs_cI hE (by decide) (by assumption) (fun _ _ => ?_))
    | (with_reducible refine oKs_cJ hE (by decide) (by assumption) (fun _ _ => ?_))
    | (with_reducible refine oKs_cV hE (by decide) (by assumption) (fun _ _ => ?_))
    | (with_reducible refine oKs_rd (fun _ => ?_)))
theorem zf_396_39 (hE : fEs E) : ∀ (n : Nat) (b0 : Int32) (b1 : Int32) (b2 : Int64) (b3 : Int32) (b4 : Int32) (s : rS), zFs Sz s → oKs Sz (s396_39 E w n b0 b1 b2 b3 b4 s)
  | 0, _, _, _, _, _, _, _ => fun r s' e => by
    have e : (none : Option rA) = some (r, s') := e
    cases e
  | n + 1, b0, b1, b2, b3, b4, s, z => by
    have ih := zf_396_39 hE n
    unfold s396_39
    repeat' (first
      | with_reducible exact oKs_rI (by assumption)
      | with_reducible exact oKs_so (by assumption)
      | exact oKs_none
      | with_reducible exact ih _ _ _ _ _ _ (by assumption)
      | with_reducible refine oKs_if ?_ ?_
      | (with_reducible refine oKs_pI (by decide) (by assumption) (fun _ _ => ?_))
      | (with_reducible refine oKs_sI (by decide) (by assumption) (fun _ _ => ?_))
      | (with_reducible refine oKs_sB (by decide) (by assumption) (fun _ _ => ?_))
      | (with_reducible refine oKs_sJ (by decide) (by assumption) (fun _ _ => ?_))
      | (with_reducible refine oKs_cI hE (by decide) (by assumption) (fun _ _ => ?_))
      | (with_reducible refine oKs_cJ hE (by decide) (by assumption) (fun _ _ => ?_))
      | (with_reducible refine oKs_cV hE (by decide) (by assumption) (fun _ _ => ?_))
      | (with_reducible refine oKs_rd (fun _ => ?_)))
theorem zf_396_0 (hE : fEs E) (i1 : Int32) (i2 : Int32) (j3 : Int64) (s : rS) (z : zFs Sz s) : oKs Sz (s396_0 E w i1 i2 j3 s) := by
  unfold s396_0
  repeat' (first
    | with_reducible exact oKs_rI (by assumption)
    | with_reducible exact oKs_so (by assumption)
    | exact oKs_none
    | with_reducible exact zf_396_39 hE _ _ _ _ _ _ _ (by assumption)
    | with_reducible refine oKs_if ?_ ?_
    | (with_reducible refine oKs_pI (by decide) (by assumption) (fun _ _ => ?_))
    | (with_reducible refine oKs_sI (by decide) (by assumption) (fun _ _ => ?_))
    | (with_reducible refine oKs_sB (by decide) (by assumption) (fun _ _ => ?_))
    | (with_reducible refine oKs_sJ (by decide) (by assumption) (fun _ _ => ?_))
    | (with_reducible refine oKs_cI hE (by decide) (by assumption) (fun _ _ => ?_))
    | (with_reducible refine oKs_cJ hE (by decide) (by assumption) (fun _ _ => ?_))
    | (with_reducible refine oKs_cV hE (by decide) (by assumption) (fun _ _ => ?_))
    | (with_reducible refine oKs_rd (fun _ => ?_)))
theorem zf_397_0 (hE : fEs E) (i1 : Int32) (i2 : Int32) (i3 : Int32) (s : rS) (z : zFs Sz s) : oKs Sz (s397_0 E w i1 i2 i3 s) := by
  unfold s397_0
  repeat' (first
    | with_reducible exact oKs_rI (by assumption)
    | with_reducible exact oKs_so (by assumption)
    | exact oKs_none
    | with_reducible refine oKs_if ?_ ?_
    | (with_reducible refine oKs_pI (by decide) (by assumption) (fun _ _ => ?_))
    | (with_reducible refine oKs_sI (by decide) (by assumption) (fun _ _ => ?_))
    | (with_reducible refine oKs_sB (by decide) (by assumption) (fun _ _ => ?_))
    | (with_reducible refine oKs_sJ (by decide) (by assumption) (fun _ _ => ?_))
    | (with_reducible refine oKs_cI hE (by decide) (by assumption) (fun _ _ => ?_))
    | (with_reducible refine oKs_cJ hE (by decide) (by assumption) (fun _ _ => ?_))
    | (with_reducible refine oKs_cV hE (by decide) (by assumption) (fun _ _ => ?_))
    | (with_reducible refine oKs_rd (fun _ => ?_)))
theorem zf_398_51 (hE : fEs E) : ∀ (n : Nat) (b0 : Int32) (b1 : Int32) (b2 : Int32) (s : rS), zFs Sz s → oKs Sz (s398_51 E w n b0 b1 b2 s)
  | 0, _, _, _, _, _ => fun r s' e => by
    have e : (none : Option rA) = some (r, s') := e
    cases e
  | n + 1, b0, b1, b2, s, z => by
    have ih := zf_398_51 hE n
    unfold s398_51
    repeat' (first
      | with_reducible exact oKs_rI (by assumption)
      | with_reducible exact oKs_so (by assumption)
      | exact oKs_none
      | with_reducible exact ih _ _ _ _ (by assumption)
      | with_reducible refine oKs_if ?_ ?_
      | (with_reducible refine oKs_pI (by decide) (by assumption) (fun _ _ => ?_))
      | (with_reducible refine oKs_sI (by decide) (by assumption) (fun _ _ => ?_))
      | (with_reducible refine oKs_sB (by decide) (by assumption) (fun _ _ => ?_))
      | (with_reducible refine oKs_sJ (by decide) (by assumption) (fun _ _ => ?_))
      | (with_reducible refine oKs_cI hE (by decide) (by assumption) (fun _ _ => ?_))
      | (with_reducible refine oKs_cJ hE (by decide) (by assumption) (fun _ _ => ?_))
      | (with_reducible refine oKs_cV hE (by decide) (by assumption) (fun _ _ => ?_))
      | (with_reducible refine oKs_rd (fun _ => ?_)))
theorem zf_398_0 (hE : fEs E) (i1 : Int32) (i2 : Int32) (s : rS) (z : zFs Sz s) : oKs Sz (s398_0 E w i1 i2 s) := by
  unfold s398_0
  repeat' (first
    | with_reducible exact oKs_rI (by assumption)
    | with_reducible exact oKs_so (by assumption)
    | exact oKs_none
    | with_reducible exact zf_398_51 hE _ _ _ _ _ (by assumption)
    | with_reducible refine oKs_if ?_ ?_
    | (with_reducible refine oKs_pI (by decide) (by assumption) (fun _ _ => ?_))
    | (with_reducible refine oKs_sI (by decide) (by assumption) (fun _ _ => ?_))
    | (with_reducible refine oKs_sB (by decide) (by assumption) (fun _ _ => ?_))
    | (with_reducible refine oKs_sJ (by decide) (by assumption) (fun _ _ => ?_))
    | (with_reducible refine oKs_cI hE (by decide) (by assumption) (fun _ _ => ?_))
    | (with_reducible refine oKs_cJ hE (by decide) (by assumption) (fun _ _ => ?_))
    | (with_reducible refine oKs_cV hE (by decide) (by assumption) (fun _ _ => ?_))
    | (with_reducible refine oKs_rd (fun _ => ?_)))
theorem zf_399_0 (hE : fEs E) (i1 : Int32) (i2 : Int32) (i3 : Int32) (s : rS) (z : zFs Sz s) : oKs Sz (s399_0 E w i1 i2 i3 s) := by
  unfold s399_0
  repeat' (first
    | with_reducible exact oKs_rI (by assumption)
    | with_reducible exact oKs_so (by assumption)
    | exact oKs_none
    | with_reducible refine oKs_if ?_ ?_
    | (with_reducible refine oKs_pI (by decide) (by assumption) (fun _ _ => ?_))
    | (with_reducible refine oKs_sI (by decide) (by assumption) (fun _ _ => ?_))
    | (with_reducible refine oKs_sB (by decide) (by assumption) (fun _ _ => ?_))
    | (with_reducible refine oKs_sJ (by decide) (by assumption) (fun _ _ => ?_))
    | (with_reducible refine oKs_cI hE (by decide) (by assumption) (fun _ _ => ?_))
    | (with_reducible refine oKs_cJ hE (by decide) (by assumption) (fun _ _ => ?_))
    | (with_reducible refine oKs_cV hE (by decide) (by assumption) (fun _ _ => ?_))
    | (with_reducible refine oKs_rd (fun _ => ?_)))
theorem zf_400_196 (hE : fEs E) (i2 : Int32) (i3 : Int32) (s : rS) (z : zFs Sz s) : oKs Sz (s400_196 E w i2 i3 s) := by
  unfold s400_196
  repeat' (first
    | with_reducible exact oKs_rI (by assumption)
    | with_reducible exact oKs_so (by assumption)
    | exact oKs_none
    | with_reducible refine oKs_if ?_ ?_
    | (with_reducible refine oKs_pI (by decide) (by assumption) (fun _ _ => ?_))
    | (with_reducible refine oKs_sI (by decide) (by assumption) (fun _ _ => ?_))
    | (with_reducible refine oKs_sB (by decide) (by assumption) (fun _ _ => ?_))
    | (with_reducible refine oKs_sJ (by decide) (by assumption) (fun _ _ => ?_))
    | (with_reducible refine oKs_cI hE (by decide) (by assumption) (fun _ _ => ?_))
    | (with_reducible refine oKs_cJ hE (by decide) (by assumption) (fun _ _ => ?_))
    | (with_reducible refine oKs_cV hE (by decide) (by assumption) (fun _ _ => ?_))
    | (with_reducible refine oKs_rd (fun _ => ?_)))
theorem zf_400_184 (hE : fEs E) (i1 : Int32) (i2 : Int32) (i3 : Int32) (i5 : Int32) (j6 : Int64) (s : rS) (z : zFs Sz s) : oKs Sz (s400_184 E w i1 i2 i3 i5 j6 s) := by
  unfold s400_184
  repeat' (first
    | with_reducible exact oKs_rI (by assumption)
    | with_reducible exact oKs_so (by assumption)
    | exact oKs_none
    | with_reducible exact zf_400_196 hE _ _ _ (by assumption)
    | with_reducible refine oKs_if ?_ ?_
    | (with_reducible refine oKs_pI (by decide) (by assumption) (fun _ _ => ?_))
    | (with_reducible refine oKs_sI (by decide) (by assumption) (fun _ _ => ?_))
    | (with_reducible refine oKs_sB (by decide) (by assumption) (fun _ _ => ?_))
    | (with_reducible refine oKs_sJ (by decide) (by assumption) (fun _ _ => ?_))
    | (with_reducible refine oKs_cI hE (by decide) (by assumption) (fun _ _ => ?_))
    | (with_reducible refine oKs_cJ hE (by decide) (by assumption) (fun _ _ => ?_))
    | (with_reducible refine oKs_cV hE (by decide) (by assumption) (fun _ _ => ?_))
    | (with_reducible refine oKs_rd (fun _ => ?_)))
theorem zf_400_24 (hE : fEs E) (i1 : Int32) (i2 : Int32) (i3 : Int32) (i4 : Int32) (s0 : Int32) (s : rS) (z : zFs Sz s) : oKs Sz (s400_24 E w i1 i2 i3 i4 s0 s) := by
  unfold s400_24
  repeat' (first
    | with_reducible exact oKs_rI (by assumption)
    | with_reducible exact oKs_so (by assumption)
    | exact oKs_none
    | with_reducible exact zf_400_184 hE _ _ _ _ _ _ (by assumption)
    | with_reducible refine oKs_if ?_ ?_
    | (with_reducible refine oKs_pI (by decide) (by assumption) (fun _ _ => ?_))
    | (with_reducible refine oKs_sI (by decide) (by assumption) (fun _ _ => ?_))
    | (with_reducible refine oKs_sB (by decide) (by assumption) (fun _ _ => ?_))
    | (with_reducible refine oKs_sJ (by decide) (by assumption) (fun _ _ => ?_))
    | (with_reducible refine oKs_cI hE (by decide) (by assumption) (fun _ _ => ?_))
    | (with_reducible refine oKs_cJ hE (by decide) (by assumption) (fun _ _ => ?_))
    | (with_reducible refine oKs_cV hE (by decide) (by assumption) (fun _ _ => ?_))
    | (with_reducible refine oKs_rd (fun _ => ?_)))
theorem zf_400_0 (hE : fEs E) (i1 : Int32) (i2 : Int32) (i3 : Int32) (s : rS) (z : zFs Sz s) : oKs Sz (s400_0 E w i1 i2 i3 s) := by
  unfold s400_0
  repeat' (first
    | with_reducible exact oKs_rI (by assumption)
    | with_reducible exact oKs_so (by assumption)
    | exact oKs_none
    | with_reducible exact zf_400_24 hE _ _ _ _ _ _ (by assumption)
    | with_reducible refine oKs_if ?_ ?_
    | (with_reducible refine oKs_pI (by decide) (by assumption) (fun _ _ => ?_))
    | (with_reducible refine oKs_sI (by decide) (by assumption) (fun _ _ => ?_))
    | (with_reducible refine oKs_sB (by decide) (by assumption) (fun _ _ => ?_))
    | (with_reducible refine oKs_sJ (by decide) (by assumption) (fun _ _ => ?_))
    | (with_reducible refine oKs_cI hE (by decide) (by assumption) (fun _ _ => ?_))
    | (with_reducible refine oKs_cJ hE (by decide) (by assumption) (fun _ _ => ?_))
    | (with_reducible refine oKs_cV hE (by decide) (by assumption) (fun _ _ => ?_))
    | (with_reducible refine oKs_rd (fun _ => ?_)))
theorem zf_401_27 (hE : fEs E) (s0 : Int32) (s : rS) (z : zFs Sz s) : oKs Sz (s401_27 E w s0 s) := by
  unfold s401_27
  repeat' (first
    | with_reducible exact oKs_rI (by assumption)
    | with_reducible exact oKs_so (by assumption)
    | exact oKs_none
    | with_reducible refine oKs_if ?_ ?_
    | (with_reducible refine oKs_pI (by decide) (by assumption) (fun _ _ => ?_))
    | (with_reducible refine oKs_sI (by decide) (by assumption) (fun _ _ => ?_))
    | (with_reducible refine oKs_sB (by decide) (by assumption) (fun _ _ => ?_))
    | (with_reducible refine oKs_sJ (by decide) (by assumption) (fun _ _ => ?_))
    | (with_reducible refine oKs_cI hE (by decide) (by assumption) (fun _ _ => ?_))
    | (with_reducible refine oKs_cJ hE (by decide) (by assumption) (fun _ _ => ?_))
    | (with_reducible refine oKs_cV hE (by decide) (by assumption) (fun _ _ => ?_))
    | (with_reducible refine oKs_rd (fun _ => ?_)))
theorem zf_401_0 (hE : fEs E) (i1 : Int32) (s : rS) (z : zFs Sz s) : oKs Sz (s401_0 E w i1 s) := by
  unfold s401_0
  repeat' (first
    | with_reducible exact oKs_rI (by assumption)
    | with_reducible exact oKs_so (by assumption)
    | exact oKs_none
    | with_reducible exact zf_401_27 hE _ _ (by assumption)
    | with_reducible refine oKs_if ?_ ?_
    | (with_reducible refine oKs_pI (by decide) (by assumption) (fun _ _ => ?_))
    | (with_reducible refine oKs_sI (by decide) (by assumption) (fun _ _ => ?_))
    | (with_reducible refine oKs_sB (by decide) (by assumption) (fun _ _ => ?_))
    | (with_reducible refine oKs_sJ (by decide) (by assumption) (fun _ _ => ?_))
    | (with_reducible refine oKs_cI hE (by decide) (by assumption) (fun _ _ => ?_))
    | (with_reducible refine oKs_cJ hE (by decide) (by assumption) (fun _ _ => ?_))
    | (with_reducible refine oKs_cV hE (by decide) (by assumption) (fun _ _ => ?_))
    | (with_reducible refine oKs_rd (fun _ => ?_)))
theorem zg_328 (hE : fEs E) (As : List Value) (s : rS) (z : zFs Sz s) : oKs Sz (g328 E w As s) := by
  unfold g328
  split
  · exact zf_328_0 hE _ _ z
  · exact oKs_none
theorem zg_373 (hE : fEs E) (As : List Value) (s : rS) (z : zFs Sz s) : oKs Sz (g373 E w As s) := by
  unfold g373
  split
  · exact zf_373_0 hE _ _ z
  · exact oKs_none
theorem zg_374 (hE : fEs E) (As : List Value) (s : rS) (z : zFs Sz s) : oKs Sz (g374 E w As s) := by
  unfold g374
  split
  · exact zf_374_0 hE _ _ z
  · exact oKs_none
theorem zg_375 (hE : fEs E) (As : List Value) (s : rS) (z : zFs Sz s) : oKs Sz (g375 E w As s) := by
  unfold g375
  split
  · exact zf_375_0 hE _ _ z
  · exact oKs_none
theorem zg_376 (hE : fEs E) (As : List Value) (s : rS) (z : zFs Sz s) : oKs Sz (g376 E w As s) := by
  unfold g376
  split
  · exact zf_376_0 hE _ _ _ z
  · exact oKs_none
theorem zg_377 (hE : fEs E) (As : List Value) (s : rS) (z : zFs Sz s) : oKs Sz (g377 E w As s) := by
  unfold g377
  split
  · exact zf_377_0 hE _ _ _ _ _ z
  · exact oKs_none
theorem zg_378 (hE : fEs E) (As : List Value) (s : rS) (z : zFs Sz s) : oKs Sz (g378 E w As s) := by
  unfold g378
  split
  · exact zf_378_0 hE _ _ _ _ z
  · exact oKs_none
theorem zg_379 (hE : fEs E) (As : List Value) (s : rS) (z : zFs Sz s) : oKs Sz (g379 E w As s) := by
  unfold g379
  split
  · exact zf_379_0 hE _ _ z
  · exact oKs_none
theorem zg_380 (hE : fEs E) (As : List Value) (s : rS) (z : zFs Sz s) : oKs Sz (g380 E w As s) := by
  unfold g380
  split
  · exact zf_380_0 hE _ _ _ z
  · exact oKs_none
theorem zg_381 (hE : fEs E) (As : List Value) (s : rS) (z : zFs Sz s) : oKs Sz (g381 E w As s) := by
  unfold g381
  split
  · exact zf_381_0 hE _ _ z
  · exact oKs_none
theorem zg_382 (hE : fEs E) (As : List Value) (s : rS) (z : zFs Sz s) : oKs Sz (g382 E w As s) := by
  unfold g382
  split
  · exact zf_382_0 hE _ _ z
  · exact oKs_none
theorem zg_383 (hE : fEs E) (As : List Value) (s : rS) (z : zFs Sz s) : oKs Sz (g383 E w As s) := by
  unfold g383
  split
  · exact zf_383_0 hE _ _ z
  · exact oKs_none
theorem zg_384 (hE : fEs E) (As : List Value) (s : rS) (z : zFs Sz s) : oKs Sz (g384 E w As s) := by
  unfold g384
  split
  · exact zf_384_0 hE _ _ z
  · exact oKs_none
theorem zg_385 (hE : fEs E) (As : List Value) (s : rS) (z : zFs Sz s) : oKs Sz (g385 E w As s) := by
  unfold g385
  split
  · exact zf_385_0 hE _ _ _ _ z
  · exact oKs_none
theorem zg_386 (hE : fEs E) (As : List Value) (s : rS) (z : zFs Sz s) : oKs Sz (g386 E w As s) := by
  unfold g386
  split
  · exact zf_386_0 hE _ _ z
  · exact oKs_none
theorem zg_387 (hE : fEs E) (As : List Value) (s : rS) (z : zFs Sz s) : oKs Sz (g387 E w As s) := by
  unfold g387
  split
  · exact zf_387_0 hE _ _ z
  · exact oKs_none
theorem zg_388 (hE : fEs E) (As : List Value) (s : rS) (z : zFs Sz s) : oKs Sz (g388 E w As s) := by
  unfold g388
  split
  · exact zf_388_0 hE _ _ _ _ z
  · exact oKs_none
theorem zg_389 (hE : fEs E) (As : List Value) (s : rS) (z : zFs Sz s) : oKs Sz (g389 E w As s) := by
  unfold g389
  split
  · exact zf_389_0 hE _ _ _ z
  · exact oKs_none
theorem zg_390 (hE : fEs E) (As : List Value) (s : rS) (z : zFs Sz s) : oKs Sz (g390 E w As s) := by
  unfold g390
  split
  · exact zf_390_0 hE _ _ z
  · exact oKs_none
theorem zg_391 (hE : fEs E) (As : List Value) (s : rS) (z : zFs Sz s) : oKs Sz (g391 E w As s) := by
  unfold g391
  split
  · exact zf_391_0 hE _ _ _ _ z
  · exact oKs_none
theorem zg_392 (hE : fEs E) (As : List Value) (s : rS) (z : zFs Sz s) : oKs Sz (g392 E w As s) := by
  unfold g392
  split
  · exact zf_392_0 hE _ _ _ _ z
  · exact oKs_none
theorem zg_393 (hE : fEs E) (As : List Value) (s : rS) (z : zFs Sz s) : oKs Sz (g393 E w As s) := by
  unfold g393
  split
  · exact zf_393_0 hE _ _ z
  · exact oKs_none
theorem zg_394 (hE : fEs E) (As : List Value) (s : rS) (z : zFs Sz s) : oKs Sz (g394 E w As s) := by
  unfold g394
  split
  · exact zf_394_0 hE _ _ z
  · exact oKs_none
theorem zg_395 (hE : fEs E) (As : List Value) (s : rS) (z : zFs Sz s) : oKs Sz (g395 E w As s) := by
  unfold g395
  split
  · exact zf_395_0 hE _ _ _ z
  · exact oKs_none
theorem zg_396 (hE : fEs E) (As : List Value) (s : rS) (z : zFs Sz s) : oKs Sz (g396 E w As s) := by
  unfold g396
  split
  · exact zf_396_0 hE _ _ _ _ z
  · exact oKs_none
theorem zg_397 (hE : fEs E) (As : List Value) (s : rS) (z : zFs Sz s) : oKs Sz (g397 E w As s) := by
  unfold g397
  split
  · exact zf_397_0 hE _ _ _ _ z
  · exact oKs_none
theorem zg_398 (hE : fEs E) (As : List Value) (s : rS) (z : zFs Sz s) : oKs Sz (g398 E w As s) := by
  unfold g398
  split
  · exact zf_398_0 hE _ _ _ z
  · exact oKs_none
theorem zg_399 (hE : fEs E) (As : List Value) (s : rS) (z : zFs Sz s) : oKs Sz (g399 E w As s) := by
  unfold g399
  split
  · exact zf_399_0 hE _ _ _ _ z
  · exact oKs_none
theorem zg_400 (hE : fEs E) (As : List Value) (s : rS) (z : zFs Sz s) : oKs Sz (g400 E w As s) := by
  unfold g400
  split
  · exact zf_400_0 hE _ _ _ _ z
  · exact oKs_none
theorem zg_401 (hE : fEs E) (As : List Value) (s : rS) (z : zFs Sz s) : oKs Sz (g401 E w As s) := by
  unfold g401
  split
  · exact zf_401_0 hE _ _ z
  · exact oKs_none
theorem fEs_all (w : Nat) : ∀ k, fEs (rM w k)
  | 0 => fun m _ As s r s' e => by
    have e : (none : Option rA) = some (r, s') := e
    cases e
  | k + 1 => fun m hm As s r s' e => by
    have ih := fEs_all w k
    have hm' : m = 328 ∨ m = 373 ∨ m = 374 ∨ m = 375 ∨ m = 376 ∨ m = 377 ∨ m = 378 ∨ m = 379 ∨ m = 380 ∨ m = 381 ∨ m = 382 ∨ m = 383 ∨ m = 384 ∨ m = 385 ∨ m = 386 ∨ m = 387 ∨ m = 388 ∨ m = 389 ∨ m = 390 ∨ m = 391 ∨ m = 392 ∨ m = 393 ∨ m = 394 ∨ m = 395 ∨ m = 396 ∨ m = 397 ∨ m = 398 ∨ m = 399 ∨ m = 400 ∨ m = 401 := by
      unfold fMs at hm
      simpa using hm
    rcases hm' with rfl | rfl | rfl | rfl | rfl | rfl | rfl | rfl | rfl | rfl | rfl | rfl | rfl | rfl | rfl | rfl | rfl | rfl | rfl | rfl | rfl | rfl | rfl | rfl | rfl | rfl | rfl | rfl | rfl | rfl
    · rw [y328] at e; exact zg_328 ih As s (zFs_refl s) r s' e
    · rw [y373] at e; exact zg_373 ih As s (zFs_refl s) r s' e
    · rw [y374] at e; exact zg_374 ih As s (zFs_refl s) r s' e
    · rw [y375] at e; exact zg_375 ih As s (zFs_refl s) r s' e
    · rw [y376] at e; exact zg_376 ih As s (zFs_refl s) r s' e
    · rw [y377] at e; exact zg_377 ih As s (zFs_refl s) r s' e
    · rw [y378] at e; exact zg_378 ih As s (zFs_refl s) r s' e
    · rw [y379] at e; exact zg_379 ih As s (zFs_refl s) r s' e
    · rw [y380] at e; exact zg_380 ih As s (zFs_refl s) r s' e
    · rw [y381] at e; exact zg_381 ih As s (zFs_refl s) r s' e
    · rw [y382] at e; exact zg_382 ih As s (zFs_refl s) r s' e
    · rw [y383] at e; exact zg_383 ih As s (zFs_refl s) r s' e
    · rw [y384] at e; exact zg_384 ih As s (zFs_refl s) r s' e
    · rw [y385] at e; exact zg_385 ih As s (zFs_refl s) r s' e
    · rw [y386] at e; exact zg_386 ih As s (zFs_refl s) r s' e
    · rw [y387] at e; exact zg_387 ih As s (zFs_refl s) r s' e
    · rw [y388] at e; exact zg_388 ih As s (zFs_refl s) r s' e
    · rw [y389] at e; exact zg_389 ih As s (zFs_refl s) r s' e
    · rw [y390] at e; exact zg_390 ih As s (zFs_refl s) r s' e
    · rw [y391] at e; exact zg_391 ih As s (zFs_refl s) r s' e
    · rw [y392] at e; exact zg_392 ih As s (zFs_refl s) r s' e
    · rw [y393] at e; exact zg_393 ih As s (zFs_refl s) r s' e
    · rw [y394] at e; exact zg_394 ih As s (zFs_refl s) r s' e
    · rw [y395] at e; exact zg_395 ih As s (zFs_refl s) r s' e
    · rw [y396] at e; exact zg_396 ih As s (zFs_refl s) r s' e
    · rw [y397] at e; exact zg_397 ih As s (zFs_refl s) r s' e
    · rw [y398] at e; exact zg_398 ih As s (zFs_refl s) r s' e
    · rw [y399] at e; exact zg_399 ih As s (zFs_refl s) r s' e
    · rw [y400] at e; exact zg_400 ih As s (zFs_refl s) r s' e
    · rw [y401] at e; exact zg_401 ih As s (zFs_refl s) r s' e
end ZFB
