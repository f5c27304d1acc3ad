/-! THE REFERENCE'S CHECKER LEAVES THE SLOTS OF VARS ALONE. -/
def vFs (s s' : rS) : Prop := s'.2.1 44 = s.2.1 44 ∧ ∀ n, s.2.1 44 n = 20 → s'.2.1 53 n = s.2.1 53 n
def oKv (s : rS) (X : Option rA) : Prop := ∀ r s', X = some (r, s') → vFs s s'
def fMv (m : Nat) : Bool := [290, 291, 292, 293, 305, 331, 332, 333, 334, 335, 336, 337, 338, 339, 340, 341, 342, 343, 344, 345, 346, 347, 349, 350, 351, 353, 354, 355, 356, 357, 358, 359, 360, 361, 364, 365, 367, 368, 369].contains m
def fSv (m : Nat) : Bool := [348, 352, 362, 363, 366].contains m
def fEv (E : rE) : Prop := (∀ m, fMv m = true → ∀ As s r s', E m As s = some (r, s') → vFs s s') ∧ ∀ m, fSv m = true → ∀ (i1 : Int32) (As : List Value) s r s', s.2.1 44 i1.toNatClampNeg ≠ 20 → E m (.ref 36 :: .int i1 :: As) s = some (r, s') → vFs s s'
section VFS
theorem vFs_refl (s : rS) : vFs s s := ⟨rfl, fun _ _ => rfl⟩
theorem vFs_trans {a b c : rS} (x : vFs a b) (y : vFs b c) : vFs a c := ⟨y.1.trans x.1, fun n h => (y.2 n (by rw [x.1]; exact h)).trans (x.2 n h)⟩
variable {Sz s : rS} {E : rE} {α : Type}
theorem nv_a {a x y : Int32} (h : a = x) (c : x = y) (d : y ≠ 20) : a ≠ 20 := by rw [h, c]; exact d
theorem nv_b {a x y : Int32} (h : a = x) (c : mx_f2 .eq x y = true) (d : y ≠ 20) : a ≠ 20 := by rw [f2_eqd] at c; exact nv_a h (of_decide_eq_true c) d
theorem nv_c {a x y : Int32} (h : a = x) (c : ¬ mx_f2 .ne x y = true) (d : y ≠ 20) : a ≠ 20 := by
  refine nv_a h (Decidable.byContradiction (fun q => c ?_)) d
  rw [f2_ne]
  exact decide_eq_true q
theorem oKv_none : oKv Sz none := fun r s' e => by cases e
theorem oKv_rI {t : Option FieldType} {x : Int32} (z : vFs Sz s) : oKv Sz (rrI t x s) := fun r s' e => by
  unfold rrI at e
  split at e
  · cases e; exact z
  · cases e
theorem oKv_so {r : Option Value} (z : vFs Sz s) : oKv Sz (some (r, s)) := fun r s' e => by cases e; exact z
theorem oKv_if {c : Prop} [Decidable c] {A B : Option rA} (a : c → oKv Sz A) (b : ¬ c → oKv Sz B) : oKv Sz (if c then A else B) := by
  by_cases h : c
  · rw [if_pos h]; exact a h
  · rw [if_neg h]; exact b h
theorem oKv_rd {f : Option α} {g : α → Option rA} (a : ∀ x, oKv Sz (g x)) : oKv Sz (f.bind g) := by
  cases f with
  | none => exact oKv_none
  | some x => exact a x
theorem oKv_bi {f : Option α} {g : α → Option rA} (a : ∀ x, f = some x → oKv Sz (g x)) : oKv Sz (f.bind g) := by
  cases f with
  | none => exact oKv_none
  | some x => exact a x rfl
theorem oKv_44 {i : Int32} {g : Int32 → Option rA} (z : vFs Sz s) (a : ∀ x, Sz.2.1 44 i.toNatClampNeg = x → oKv Sz (g x)) : oKv Sz ((rs_aI s 44 i).bind g) := oKv_bi fun x e => a x (by
  unfold rs_aI at e
  split at e
  · cases e; rw [z.1]
  · cases e)
theorem oKv_pI {p : Nat} {v : Int32} {g : rS → Option rA} (z : vFs Sz s) (a : ∀ s1, vFs Sz s1 → oKv Sz (g s1)) : oKv Sz ((rs_pI s p v).bind g) := oKv_bi fun s1 e => a s1 (vFs_trans z (by
  unfold rs_pI at e
  split at e
  · cases e
    exact ⟨rfl, fun _ _ => rfl⟩
  · cases e))
theorem vFs_A {p i : Nat} {v : Int32} (hp : (p != 44 && p != 53) = true) : vFs s (rs_wA s p i v) := by
  simp only [Bool.and_eq_true, bne_iff_ne, ne_eq] at hp
  exact ⟨if_neg (fun z => hp.1 z.symm), fun n _ => by rw [wA_get, if_neg (fun z => hp.2 z.1.symm)]⟩
theorem oKv_sI {p : Nat} {i v : Int32} {g : rS → Option rA} (hp : (p != 44 && p != 53) = true) (z : vFs Sz s) (a : ∀ s1, vFs Sz s1 → oKv Sz (g s1)) : oKv Sz ((rs_sI s p i v).bind g) := oKv_bi fun s1 e => a s1 (vFs_trans z (by
  unfold rs_sI at e
  split at e
  · cases e; exact vFs_A hp
  · cases e))
theorem oKv_sB {p : Nat} {i v : Int32} {g : rS → Option rA} (hp : (p != 44 && p != 53) = true) (z : vFs Sz s) (a : ∀ s1, vFs Sz s1 → oKv Sz (g s1)) : oKv Sz ((rs_sB s p i v).bind g) := oKv_bi fun s1 e => a s1 (vFs_trans z (by
  unfold rs_sB at e
  split at e
  · cases e; exact vFs_A hp
  · cases e))
theorem oKv_sJ {p : Nat} {i : Int32} {v : Int64} {g : rS → Option rA} (z : vFs Sz s) (a : ∀ s1, vFs Sz s1 → oKv Sz (g s1)) : oKv Sz ((rs_sJ s p i v).bind g) := oKv_bi fun s1 e => a s1 (vFs_trans z (by
  unfold rs_sJ at e
  split at e
  · cases e
    exact ⟨rfl, fun _ _ => rfl⟩
  · cases e))
theorem oKv_53 {i v : Int32} {g : rS → Option rA} (hk : Sz.2.1 44 i.toNatClampNeg ≠ 20) (z : vFs Sz s) (a : ∀ s1, vFs Sz s1 → oKv Sz (g s1)) : oKv Sz ((rs_sI s 53 i v).bind g) := oKv_bi fun s1 e => a s1 (vFs_trans z (by
  unfold rs_sI at e
  split at e
  · cases e
    refine ⟨wA_ne _ _ _ (by decide), fun n hn => ?_⟩
    rw [wA_get, if_neg]
    rintro ⟨_, q⟩
    rw [z.1, q] at hn
    exact hk hn
  · cases e))
theorem oKv_cI (hE : fEv E) {m : Nat} {As : List Value} {g : Int32 × rS → Option rA} (hm : fMv m = true) (z : vFs Sz s) (a : ∀ x : Int32 × rS, vFs Sz x.2 → oKv Sz (g x)) : oKv Sz (((E m As s).bind rxI).bind g) := oKv_bi fun x e => a x (vFs_trans z (by
  cases e1 : E m As s with
  | none => rw [e1] at e; cases e
  | some y =>
    obtain ⟨r, s1⟩ := y
    have k := hE.1 m hm As s r s1 e1
    rw [e1] at e
    have e : rxI (r, s1) = some x := e
    unfold rxI at e
    split at e
    · cases e; exact k
    · cases e))
theorem oKv_cS (hE : fEv E) {m : Nat} {i1 : Int32} {As : List Value} {g : Int32 × rS → Option rA} (hm : fSv m = true) (hk : Sz.2.1 44 i1.toNatClampNeg ≠ 20) (z : vFs Sz s) (a : ∀ x : Int32 × rS, vFs Sz x.2 → oKv Sz (g x)) : oKv Sz (((E m (.ref 36 :: .int i1 :: As) s).bind rxI).bind g) := oKv_bi fun x e => a x (vFs_trans z (by
  cases e1 : E m (.ref 36 :: .int i1 :: As) s with
  | none => rw [e1] at e; cases e
  | some y =>
    obtain ⟨r, s1⟩ := y
    have k := hE.2 m hm i1 As s r s1 (by rw [z.1]; exact hk) e1
    rw [e1] at e
    have e : rxI (r, s1) = some x := e
    unfold rxI at e
    split at e
    · cases e; exact k
    · cases e))
theorem oKv_cJ (hE : fEv E) {m : Nat} {As : List Value} {g : Int64 × rS → Option rA} (hm : fMv m = true) (z : vFs Sz s) (a : ∀ x : Int64 × rS, vFs Sz x.2 → oKv Sz (g x)) : oKv Sz (((E m As s).bind rxJ).bind g) := oKv_bi fun x e => a x (vFs_trans z (by
  cases e1 : E m As s with
  | none => rw [e1] at e; cases e
  | some y =>
    obtain ⟨r, s1⟩ := y
    have k := hE.1 m hm As s r s1 e1
    rw [e1] at e
    have e : rxJ (r, s1) = some x := e
    unfold rxJ at e
    split at e
    · cases e; exact k
    · cases e))
theorem oKv_cV (hE : fEv E) {m : Nat} {As : List Value} {g : rS → Option rA} (hm : fMv m = true) (z : vFs Sz s) (a : ∀ x : rS, vFs Sz x → oKv Sz (g x)) : oKv Sz (((E m As s).bind rxV).bind g) := oKv_bi fun x e => a x (vFs_trans z (by
  cases e1 : E m As s with
  | none => rw [e1] at e; cases e
  | some y =>
    obtain ⟨r, s1⟩ := y
    have k := hE.1 m hm As s r s1 e1
    rw [e1] at e
    have e : rxV (r, s1) = some x := e
    unfold rxV at e
    split at e
    · cases e; exact k
    · cases e))
end VFS
section VFB
variable {E : rE} {w : Nat} {Sz : rS}
theorem zv_290_43 (hE : fEv E) (s0 : Int32) (s : rS) (z : vFs Sz s) : oKv Sz (s290_43 E w s0 s) := by
  unfold s290_43
  repeat' (first
    | with_reducible exact oKv_rI (by assumption)
    | with_reducible exact oKv_so (by assumption)
    | exact oKv_none
    | with_reducible refine oKv_if (fun _ => ?_) (fun _ => ?_)
    | (with_reducible refine oKv_pI (by assumption) (fun _ _ => ?_))
    | (with_reducible refine oKv_sI (by decide) (by assumption) (fun _ _ => ?_))
    | (with_reducible refine oKv_sB (by decide) (by assumption) (fun _ _ => ?_))
    | (with_reducible refine oKv_sJ (by assumption) (fun _ _ => ?_))
    | (with_reducible refine oKv_53 (by (first | assumption | exact nv_a (by assumption) (by assumption) (by decide) | exact nv_b (by assumption) (by assumption) (by decide) | exact nv_c (by assumption) (by assumption) (by decide))) (by assumption) (fun _ _ => ?_))
    | (with_reducible refine oKv_cI hE (by decide) (by assumption) (fun _ _ => ?_))
    | (with_reducible refine oKv_cJ hE (by decide) (by assumption) (fun _ _ => ?_))
    | (with_reducible refine oKv_cV hE (by decide) (by assumption) (fun _ _ => ?_))
    | (with_reducible refine oKv_cS hE (by decide) (by (first | assumption | exact nv_a (by assumption) (by assumption) (by decide) | exact nv_b (by assumption) (by assumption) (by decide) | exact nv_c (by assumption) (by assumption) (by decide))) (by assumption) (fun _ _ => ?_))
    | (with_reducible refine oKv_44 (by assumption) (fun _ _ => ?_))
    | (with_reducible refine oKv_rd (fun _ => ?_)))
theorem zv_290_59 (hE : fEv E) (s0 : Int32) (s : rS) (z : vFs Sz s) : oKv Sz (s290_59 E w s0 s) := by
  unfold s290_59
  repeat' (first
    | with_reducible exact oKv_rI (by assumption)
    | with_reducible exact oKv_so (by assumption)
    | exact oKv_none
    | with_reducible refine oKv_if (fun _ => ?_) (fun _ => ?_)
    | (with_reducible refine oKv_pI (by assumption) (fun _ _ => ?_))
    | (with_reducible refine oKv_sI (by decide) (by assumption) (fun _ _ => ?_))
    | (with_reducible refine oKv_sB (by decide) (by assumption) (fun _ _ => ?_))
    | (with_reducible refine oKv_sJ (by assumption) (fun _ _ => ?_))
    | (with_reducible refine oKv_53 (by (first | assumption | exact nv_a (by assumption) (by assumption) (by decide) | exact nv_b (by assumption) (by assumption) (by decide) | exact nv_c (by assumption) (by assumption) (by decide))) (by assumption) (fun _ _ => ?_))
    | (with_reducible refine oKv_cI hE (by decide) (by assumption) (fun _ _ => ?_))
    | (with_reducible refine oKv_cJ hE (by decide) (by assumption) (fun _ _ => ?_))
    | (with_reducible refine oKv_cV hE (by decide) (by assumption) (fun _ _ => ?_))
    | (with_reducible refine oKv_cS hE (by decide) (by (first | assumption | exact nv_a (by assumption) (by assumption) (by decide) | exact nv_b (by assumption) (by assumption) (by decide) | exact nv_c (by assumption) (by assumption) (by decide))) (by assumption) (fun _ _ => ?_))
    | (with_reducible refine oKv_44 (by assumption) (fun _ _ => ?_))
    | (with_reducible refine oKv_rd (fun _ => ?_)))
theorem zv_290_54 (hE : fEv E) (s : rS) (z : vFs Sz s) : oKv Sz (s290_54 E w s) := by
  unfold s290_54
  repeat' (first
    | with_reducible exact oKv_rI (by assumption)
    | with_reducible exact oKv_so (by assumption)
    | exact oKv_none
    | with_reducible exact zv_290_59 hE _ _ (by assumption)
    | with_reducible refine oKv_if (fun _ => ?_) (fun _ => ?_)
    | (with_reducible refine oKv_pI (by assumption) (fun _ _ => ?_))
    | (with_reducible refine oKv_sI (by decide) (by assumption) (fun _ _ => ?_))
    | (with_reducible refine oKv_sB (by decide) (by assumption) (fun _ _ => ?_))
    | (with_reducible refine oKv_sJ (by assumption) (fun _ _ => ?_))
    | (with_reducible refine oKv_53 (by (first | assumption | exact nv_a (by assumption) (by assumption) (by decide) | exact nv_b (by assumption) (by assumption) (by decide) | exact nv_c (by assumption) (by assumption) (by decide))) (by assumption) (fun _ _ => ?_))
    | (with_reducible refine oKv_cI hE (by decide) (by assumption) (fun _ _ => ?_))
    | (with_reducible refine oKv_cJ hE (by decide) (by assumption) (fun _ _ => ?_))
    | (with_reducible refine oKv_cV hE (by decide) (by assumption) (fun _ _ => ?_))
    | (with_reducible refine oKv_cS hE (by decide) (by (first | assumption | exact nv_a (by assumption) (by assumption) (by decide) | exact nv_b (by assumption) (by assumption) (by decide) | exact nv_c (by assumption) (by assumption) (by decide))) (by assumption) (fun _ _ => ?_))
    | (with_reducible refine oKv_44 (by assumption) (fun _ _ => ?_))
    | (with_reducible refine oKv_rd (fun _ => ?_)))
theorem zv_290_75 (hE : fEv E) (s0 : Int32) (s : rS) (z : vFs Sz s) : oKv Sz (s290_75 E w s0 s) := by
  unfold s290_75
  repeat' (first
    | with_reducible exact oKv_rI (by assumption)
    | with_reducible exact oKv_so (by assumption)
    | exact oKv_none
    | with_reducible refine oKv_if (fun _ => ?_) (fun _ => ?_)
    | (with_reducible refine oKv_pI (by assumption) (fun _ _ => ?_))
    | (with_reducible refine oKv_sI (by decide) (by assumption) (fun _ _ => ?_))
    | (with_reducible refine oKv_sB (by decide) (by assumption) (fun _ _ => ?_))
    | (with_reducible refine oKv_sJ (by assumption) (fun _ _ => ?_))
    | (with_reducible refine oKv_53 (by (first | assumption | exact nv_a (by assumption) (by assumption) (by decide) | exact nv_b (by assumption) (by assumption) (by decide) | exact nv_c (by assumption) (by assumption) (by decide))) (by assumption) (fun _ _ => ?_))
    | (with_reducible refine oKv_cI hE (by decide) (by assumption) (fun _ _ => ?_))
    | (with_reducible refine oKv_cJ hE (by decide) (by assumption) (fun _ _ => ?_))
    | (with_reducible refine oKv_cV hE (by decide) (by assumption) (fun _ _ => ?_))
    | (with_reducible refine oKv_cS hE (by decide) (by (first | assumption | exact nv_a (by assumption) (by assumption) (by decide) | exact nv_b (by assumption) (by assumption) (by decide) | exact nv_c (by assumption) (by assumption) (by decide))) (by assumption) (fun _ _ => ?_))
    | (with_reducible refine oKv_44 (by assumption) (fun _ _ => ?_))
    | (with_reducible refine oKv_rd (fun _ => ?_)))
theorem zv_290_70 (hE : fEv E) (s : rS) (z : vFs Sz s) : oKv Sz (s290_70 E w s) := by
  unfold s290_70
  repeat' (first
    | with_reducible exact oKv_rI (by assumption)
    | with_reducible exact oKv_so (by assumption)
    | exact oKv_none
    | with_reducible exact zv_290_75 hE _ _ (by assumption)
    | with_reducible refine oKv_if (fun _ => ?_) (fun _ => ?_)
    | (with_reducible refine oKv_pI (by assumption) (fun _ _ => ?_))
    | (with_reducible refine oKv_sI (by decide) (by assumption) (fun _ _ => ?_))
    | (with_reducible refine oKv_sB (by decide) (by assumption) (fun _ _ => ?_))
    | (with_reducible refine oKv_sJ (by assumption) (fun _ _ => ?_))
    | (with_reducible refine oKv_53 (by (first | assumption | exact nv_a (by assumption) (by assumption) (by decide) | exact nv_b (by assumption) (by assumption) (by decide) | exact nv_c (by assumption) (by assumption) (by decide))) (by assumption) (fun _ _ => ?_))
    | (with_reducible refine oKv_cI hE (by decide) (by assumption) (fun _ _ => ?_))
    | (with_reducible refine oKv_cJ hE (by decide) (by assumption) (fun _ _ => ?_))
    | (with_reducible refine oKv_cV hE (by decide) (by assumption) (fun _ _ => ?_))
    | (with_reducible refine oKv_cS hE (by decide) (by (first | assumption | exact nv_a (by assumption) (by assumption) (by decide) | exact nv_b (by assumption) (by assumption) (by decide) | exact nv_c (by assumption) (by assumption) (by decide))) (by assumption) (fun _ _ => ?_))
    | (with_reducible refine oKv_44 (by assumption) (fun _ _ => ?_))
    | (with_reducible refine oKv_rd (fun _ => ?_)))
theorem zv_290_86 (hE : fEv E) (s0 : Int32) (s : rS) (z : vFs Sz s) : oKv Sz (s290_86 E w s0 s) := by
  unfold s290_86
  repeat' (first
    | with_reducible exact oKv_rI (by assumption)
    | with_reducible exact oKv_so (by assumption)
    | exact oKv_none
    | with_reducible refine oKv_if (fun _ => ?_) (fun _ => ?_)
    | (with_reducible refine oKv_pI (by assumption) (fun _ _ => ?_))
    | (with_reducible refine oKv_sI (by decide) (by assumption) (fun _ _ => ?_))
    | (with_reducible refine oKv_sB (by decide) (by assumption) (fun _ _ => ?_))
    | (with_reducible refine oKv_sJ (by assumption) (fun _ _ => ?_))
    | (with_reducible refine oKv_53 (by (first | assumption | exact nv_a (by assumption) (by assumption) (by decide) | exact nv_b (by assumption) (by assumption) (by decide) | exact nv_c (by assumption) (by assumption) (by decide))) (by assumption) (fun _ _ => ?_))
    | (with_reducible refine oKv_cI hE (by decide) (by assumption) (fun _ _ => ?_))
    | (with_reducible refine oKv_cJ hE (by decide) (by assumption) (fun _ _ => ?_))
    | (with_reducible refine oKv_cV hE (by decide) (by assumption) (fun _ _ => ?_))
    | (with_reducible refine oKv_cS hE (by decide) (by (first | assumption | exact nv_a (by assumption) (by assumption) (by decide) | exact nv_b (by assumption) (by assumption) (by decide) | exact nv_c (by assumption) (by assumption) (by decide))) (by assumption) (fun _ _ => ?_))
    | (with_reducible refine oKv_44 (by assumption) (fun _ _ => ?_))
    | (with_reducible refine oKv_rd (fun _ => ?_)))
theorem zv_290_0 (hE : fEv E) (i0 : Int32) (i1 : Int32) (s : rS) (z : vFs Sz s) : oKv Sz (s290_0 E w i0 i1 s) := by
  unfold s290_0
  repeat' (first
    | with_reducible exact oKv_rI (by assumption)
    | with_reducible exact oKv_so (by assumption)
    | exact oKv_none
    | with_reducible exact zv_290_43 hE _ _ (by assumption)
    | with_reducible exact zv_290_54 hE _ (by assumption)
    | with_reducible exact zv_290_59 hE _ _ (by assumption)
    | with_reducible exact zv_290_70 hE _ (by assumption)
    | with_reducible exact zv_290_75 hE _ _ (by assumption)
    | with_reducible exact zv_290_86 hE _ _ (by assumption)
    | with_reducible refine oKv_if (fun _ => ?_) (fun _ => ?_)
    | (with_reducible refine oKv_pI (by assumption) (fun _ _ => ?_))
    | (with_reducible refine oKv_sI (by decide) (by assumption) (fun _ _ => ?_))
    | (with_reducible refine oKv_sB (by decide) (by assumption) (fun _ _ => ?_))
    | (with_reducible refine oKv_sJ (by assumption) (fun _ _ => ?_))
    | (with_reducible refine oKv_53 (by (first | assumption | exact nv_a (by assumption) (by assumption) (by decide) | exact nv_b (by assumption) (by assumption) (by decide) | exact nv_c (by assumption) (by assumption) (by decide))) (by assumption) (fun _ _ => ?_))
    | (with_reducible refine oKv_cI hE (by decide) (by assumption) (fun _ _ => ?_))
    | (with_reducible refine oKv_cJ hE (by decide) (by assumption) (fun _ _ => ?_))
    | (with_reducible refine oKv_cV hE (by decide) (by assumption) (fun _ _ => ?_))
    | (with_reducible refine oKv_cS hE (by decide) (by (first | assumption | exact nv_a (by assumption) (by assumption) (by decide) | exact nv_b (by assumption) (by assumption) (by decide) | exact nv_c (by assumption) (by assumption) (by decide))) (by assumption) (fun _ _ => ?_))
    | (with_reducible refine oKv_44 (by assumption) (fun _ _ => ?_))
    | (with_reducible refine oKv_rd (fun _ => ?_)))
theorem zv_291_17 (hE : fEv E) (s : rS) (z : vFs Sz s) : oKv Sz (s291_17 E w s) := by
  unfold s291_17
  repeat' (first
    | with_reducible exact oKv_rI (by assumption)
    | with_reducible exact oKv_so (by assumption)
    | exact oKv_none
    | with_reducible refine oKv_if (fun _ => ?_) (fun _ => ?_)
    | (with_reducible refine oKv_pI (by assumption) (fun _ _ => ?_))
    | (with_reducible refine oKv_sI (by decide) (by assumption) (fun _ _ => ?_))
    | (with_reducible refine oKv_sB (by decide) (by assumption) (fun _ _ => ?_))
    | (with_reducible refine oKv_sJ (by assumption) (fun _ _ => ?_))
    | (with_reducible refine oKv_53 (by (first | assumption | exact nv_a (by assumption) (by assumption) (by decide) | exact nv_b (by assumption) (by assumption) (by decide) | exact nv_c (by assumption) (by assumption) (by decide))) (by assumption) (fun _ _ => ?_))
    | (with_reducible refine oKv_cI hE (by decide) (by assumption) (fun _ _ => ?_))
    | (with_reducible refine oKv_cJ hE (by decide) (by assumption) (fun _ _ => ?_))
    | (with_reducible refine oKv_cV hE (by decide) (by assumption) (fun _ _ => ?_))
    | (with_reducible refine oKv_cS hE (by decide) (by (first | assumption | exact nv_a (by assumption) (by assumption) (by decide) | exact nv_b (by assumption) (by assumption) (by decide) | exact nv_c (by assumption) (by assumption) (by decide))) (by assumption) (fun _ _ => ?_))
    | (with_reducible refine oKv_44 (by assumption) (fun _ _ => ?_))
    | (with_reducible refine oKv_rd (fun _ => ?_)))
theorem zv_291_33 (hE : fEv E) (s0 : Int32) (s : rS) (z : vFs Sz s) : oKv Sz (s291_33 E w s0 s) := by
  unfold s291_33
  repeat' (first
    | with_reducible exact oKv_rI (by assumption)
    | with_reducible exact oKv_so (by assumption)
    | exact oKv_none
    | with_reducible refine oKv_if (fun _ => ?_) (fun _ => ?_)
    | (with_reducible refine oKv_pI (by assumption) (fun _ _ => ?_))
    | (with_reducible refine oKv_sI (by decide) (by assumption) (fun _ _ => ?_))
    | (with_reducible refine oKv_sB (by decide) (by assumption) (fun _ _ => ?_))
    | (with_reducible refine oKv_sJ (by assumption) (fun _ _ => ?_))
    | (with_reducible refine oKv_53 (by (first | assumption | exact nv_a (by assumption) (by assumption) (by decide) | exact nv_b (by assumption) (by assumption) (by decide) | exact nv_c (by assumption) (by assumption) (by decide))) (by assumption) (fun _ _ => ?_))
    | (with_reducible refine oKv_cI hE (by decide) (by assumption) (fun _ _ => ?_))
    | (with_reducible refine oKv_cJ hE (by decide) (by assumption) (fun _ _ => ?_))
    | (with_reducible refine oKv_cV hE (by decide) (by assumption) (fun _ _ => ?_))
    | (with_reducible refine oKv_cS hE (by decide) (by (first | assumption | exact nv_a (by assumption) (by assumption) (by decide) | exact nv_b (by assumption) (by assumption) (by decide) | exact nv_c (by assumption) (by assumption) (by decide))) (by assumption) (fun _ _ => ?_))
    | (with_reducible refine oKv_44 (by assumption) (fun _ _ => ?_))
    | (with_reducible refine oKv_rd (fun _ => ?_)))
theorem zv_291_43 (hE : fEv E) (s0 : Int32) (s : rS) (z : vFs Sz s) : oKv Sz (s291_43 E w s0 s) := by
  unfold s291_43
  repeat' (first
    | with_reducible exact oKv_rI (by assumption)
    | with_reducible exact oKv_so (by assumption)
    | exact oKv_none
    | with_reducible refine oKv_if (fun _ => ?_) (fun _ => ?_)
    | (with_reducible refine oKv_pI (by assumption) (fun _ _ => ?_))
    | (with_reducible refine oKv_sI (by decide) (by assumption) (fun _ _ => ?_))
    | (with_reducible refine oKv_sB (by decide) (by assumption) (fun _ _ => ?_))
    | (with_reducible refine oKv_sJ (by assumption) (fun _ _ => ?_))
    | (with_reducible refine oKv_53 (by (first | assumption | exact nv_a (by assumption) (by assumption) (by decide) | exact nv_b (by assumption) (by assumption) (by decide) | exact nv_c (by assumption) (by assumption) (by decide))) (by assumption) (fun _ _ => ?_))
    | (with_reducible refine oKv_cI hE (by decide) (by assumption) (fun _ _ => ?_))
    | (with_reducible refine oKv_cJ hE (by decide) (by assumption) (fun _ _ => ?_))
    | (with_reducible refine oKv_cV hE (by decide) (by assumption) (fun _ _ => ?_))
    | (with_reducible refine oKv_cS hE (by decide) (by (first | assumption | exact nv_a (by assumption) (by assumption) (by decide) | exact nv_b (by assumption) (by assumption) (by decide) | exact nv_c (by assumption) (by assumption) (by decide))) (by assumption) (fun _ _ => ?_))
    | (with_reducible refine oKv_44 (by assumption) (fun _ _ => ?_))
    | (with_reducible refine oKv_rd (fun _ => ?_)))
theorem zv_291_0 (hE : fEv E) (i0 : Int32) (i1 : Int32) (s : rS) (z : vFs Sz s) : oKv Sz (s291_0 E w i0 i1 s) := by
  unfold s291_0
  repeat' (first
    | with_reducible exact oKv_rI (by assumption)
    | with_reducible exact oKv_so (by assumption)
    | exact oKv_none
    | with_reducible exact zv_291_17 hE _ (by assumption)
    | with_reducible exact zv_291_33 hE _ _ (by assumption)
    | with_reducible exact zv_291_43 hE _ _ (by assumption)
    | with_reducible refine oKv_if (fun _ => ?_) (fun _ => ?_)
    | (with_reducible refine oKv_pI (by assumption) (fun _ _ => ?_))
    | (with_reducible refine oKv_sI (by decide) (by assumption) (fun _ _ => ?_))
    | (with_reducible refine oKv_sB (by decide) (by assumption) (fun _ _ => ?_))
    | (with_reducible refine oKv_sJ (by assumption) (fun _ _ => ?_))
    | (with_reducible refine oKv_53 (by (first | assumption | exact nv_a (by assumption) (by assumption) (by decide) | exact nv_b (by assumption) (by assumption) (by decide) | exact nv_c (by assumption) (by assumption) (by decide))) (by assumption) (fun _ _ => ?_))
    | (with_reducible refine oKv_cI hE (by decide) (by assumption) (fun _ _ => ?_))
    | (with_reducible refine oKv_cJ hE (by decide) (by assumption) (fun _ _ => ?_))
    | (with_reducible refine oKv_cV hE (by decide) (by assumption) (fun _ _ => ?_))
    | (with_reducible refine oKv_cS hE (by decide) (by (first | assumption | exact nv_a (by assumption) (by assumption) (by decide) | exact nv_b (by assumption) (by assumption) (by decide) | exact nv_c (by assumption) (by assumption) (by decide))) (by assumption) (fun _ _ => ?_))
    | (with_reducible refine oKv_44 (by assumption) (fun _ _ => ?_))
    | (with_reducible refine oKv_rd (fun _ => ?_)))
theorem zv_292_27 (hE : fEv E) (s0 : Int32) (s : rS) (z : vFs Sz s) : oKv Sz (s292_27 E w s0 s) := by
  unfold s292_27
  repeat' (first
    | with_reducible exact oKv_rI (by assumption)
    | with_reducible exact oKv_so (by assumption)
    | exact oKv_none
    | with_reducible refine oKv_if (fun _ => ?_) (fun _ => ?_)
    | (with_reducible refine oKv_pI (by assumption) (fun _ _ => ?_))
    | (with_reducible refine oKv_sI (by decide) (by assumption) (fun _ _ => ?_))
    | (with_reducible refine oKv_sB (by decide) (by assumption) (fun _ _ => ?_))
    | (with_reducible refine oKv_sJ (by assumption) (fun _ _ => ?_))
    | (with_reducible refine oKv_53 (by (first | assumption | exact nv_a (by assumption) (by assumption) (by decide) | exact nv_b (by assumption) (by assumption) (by decide) | exact nv_c (by assumption) (by assumption) (by decide))) (by assumption) (fun _ _ => ?_))
    | (with_reducible refine oKv_cI hE (by decide) (by assumption) (fun _ _ => ?_))
    | (with_reducible refine oKv_cJ hE (by decide) (by assumption) (fun _ _ => ?_))
    | (with_reducible refine oKv_cV hE (by decide) (by assumption) (fun _ _ => ?_))
    | (with_reducible refine oKv_cS hE (by decide) (by (first | assumption | exact nv_a (by assumption) (by assumption) (by decide) | exact nv_b (by assumption) (by assumption) (by decide) | exact nv_c (by assumption) (by assumption) (by decide))) (by assumption) (fun _ _ => ?_))
    | (with_reducible refine oKv_44 (by assumption) (fun _ _ => ?_))
    | (with_reducible refine oKv_rd (fun _ => ?_)))
theorem zv_292_22 (hE : fEv E) (s : rS) (z : vFs Sz s) : oKv Sz (s292_22 E w s) := by
  unfold s292_22
  repeat' (first
    | with_reducible exact oKv_rI (by assumption)
    | with_reducible exact oKv_so (by assumption)
    | exact oKv_none
    | with_reducible exact zv_292_27 hE _ _ (by assumption)
    | with_reducible refine oKv_if (fun _ => ?_) (fun _ => ?_)
    | (with_reducible refine oKv_pI (by assumption) (fun _ _ => ?_))
    | (with_reducible refine oKv_sI (by decide) (by assumption) (fun _ _ => ?_))
    | (with_reducible refine oKv_sB (by decide) (by assumption) (fun _ _ => ?_))
    | (with_reducible refine oKv_sJ (by assumption) (fun _ _ => ?_))
    | (with_reducible refine oKv_53 (by (first | assumption | exact nv_a (by assumption) (by assumption) (by decide) | exact nv_b (by assumption) (by assumption) (by decide) | exact nv_c (by assumption) (by assumption) (by decide))) (by assumption) (fun _ _ => ?_))
    | (with_reducible refine oKv_cI hE (by decide) (by assumption) (fun _ _ => ?_))
    | (with_reducible refine oKv_cJ hE (by decide) (by assumption) (fun _ _ => ?_))
    | (with_reducible refine oKv_cV hE (by decide) (by assumption) (fun _ _ => ?_))
    | (with_reducible refine oKv_cS hE (by decide) (by (first | assumption | exact nv_a (by assumption) (by assumption) (by decide) | exact nv_b (by assumption) (by assumption) (by decide) | exact nv_c (by assumption) (by assumption) (by decide))) (by assumption) (fun _ _ => ?_))
    | (with_reducible refine oKv_44 (by assumption) (fun _ _ => ?_))
    | (with_reducible refine oKv_rd (fun _ => ?_)))
theorem zv_292_46 (hE : fEv E) (s0 : Int32) (s : rS) (z : vFs Sz s) : oKv Sz (s292_46 E w s0 s) := by
  unfold s292_46
  repeat' (first
    | with_reducible exact oKv_rI (by assumption)
    | with_reducible exact oKv_so (by assumption)
    | exact oKv_none
    | with_reducible refine oKv_if (fun _ => ?_) (fun _ => ?_)
    | (with_reducible refine oKv_pI (by assumption) (fun _ _ => ?_))
    | (with_reducible refine oKv_sI (by decide) (by assumption) (fun _ _ => ?_))
    | (with_reducible refine oKv_sB (by decide) (by assumption) (fun _ _ => ?_))
    | (with_reducible refine oKv_sJ (by assumption) (fun _ _ => ?_))
    | (with_reducible refine oKv_53 (by (first | assumption | exact nv_a (by assumption) (by assumption) (by decide) | exact nv_b (by assumption) (by assumption) (by decide) | exact nv_c (by assumption) (by assumption) (by decide))) (by assumption) (fun _ _ => ?_))
    | (with_reducible refine oKv_cI hE (by decide) (by assumption) (fun _ _ => ?_))
    | (with_reducible refine oKv_cJ hE (by decide) (by assumption) (fun _ _ => ?_))
    | (with_reducible refine oKv_cV hE (by decide) (by assumption) (fun _ _ => ?_))
    | (with_reducible refine oKv_cS hE (by decide) (by (first | assumption | exact nv_a (by assumption) (by assumption) (by decide) | exact nv_b (by assumption) (by assumption) (by decide) | exact nv_c (by assumption) (by assumption) (by decide))) (by assumption) (fun _ _ => ?_))
    | (with_reducible refine oKv_44 (by assumption) (fun _ _ => ?_))
    | (with_reducible refine oKv_rd (fun _ => ?_)))
theorem zv_292_41 (hE : fEv E) (i1 : Int32) (s : rS) (z : vFs Sz s) : oKv Sz (s292_41 E w i1 s) := by
  unfold s292_41
  repeat' (first
    | with_reducible exact oKv_rI (by assumption)
    | with_reducible exact oKv_so (by assumption)
    | exact oKv_none
    | with_reducible exact zv_292_46 hE _ _ (by assumption)
    | with_reducible refine oKv_if (fun _ => ?_) (fun _ => ?_)
    | (with_reducible refine oKv_pI (by assumption) (fun _ _ => ?_))
    | (with_reducible refine oKv_sI (by decide) (by assumption) (fun _ _ => ?_))
    | (with_reducible refine oKv_sB (by decide) (by assumption) (fun _ _ => ?_))
    | (with_reducible refine oKv_sJ (by assumption) (fun _ _ => ?_))
    | (with_reducible refine oKv_53 (by (first | assumption | exact nv_a (by assumption) (by assumption) (by decide) | exact nv_b (by assumption) (by assumption) (by decide) | exact nv_c (by assumption) (by assumption) (by decide))) (by assumption) (fun _ _ => ?_))
    | (with_reducible refine oKv_cI hE (by decide) (by assumption) (fun _ _ => ?_))
    | (with_reducible refine oKv_cJ hE (by decide) (by assumption) (fun _ _ => ?_))
    | (with_reducible refine oKv_cV hE (by decide) (by assumption) (fun _ _ => ?_))
    | (with_reducible refine oKv_cS hE (by decide) (by (first | assumption | exact nv_a (by assumption) (by assumption) (by decide) | exact nv_b (by assumption) (by assumption) (by decide) | exact nv_c (by assumption) (by assumption) (by decide))) (by assumption) (fun _ _ => ?_))
    | (with_reducible refine oKv_44 (by assumption) (fun _ _ => ?_))
    | (with_reducible refine oKv_rd (fun _ => ?_)))
theorem zv_292_45 (hE : fEv E) (s : rS) (z : vFs Sz s) : oKv Sz (s292_45 E w s) := by
  unfold s292_45
  repeat' (first
    | with_reducible exact oKv_rI (by assumption)
    | with_reducible exact oKv_so (by assumption)
    | exact oKv_none
    | with_reducible exact zv_292_46 hE _ _ (by assumption)
    | with_reducible refine oKv_if (fun _ => ?_) (fun _ => ?_)
    | (with_reducible refine oKv_pI (by assumption) (fun _ _ => ?_))
    | (with_reducible refine oKv_sI (by decide) (by assumption) (fun _ _ => ?_))
    | (with_reducible refine oKv_sB (by decide) (by assumption) (fun _ _ => ?_))
    | (with_reducible refine oKv_sJ (by assumption) (fun _ _ => ?_))
    | (with_reducible refine oKv_53 (by (first | assumption | exact nv_a (by assumption) (by assumption) (by decide) | exact nv_b (by assumption) (by assumption) (by decide) | exact nv_c (by assumption) (by assumption) (by decide))) (by assumption) (fun _ _ => ?_))
    | (with_reducible refine oKv_cI hE (by decide) (by assumption) (fun _ _ => ?_))
    | (with_reducible refine oKv_cJ hE (by decide) (by assumption) (fun _ _ => ?_))
    | (with_reducible refine oKv_cV hE (by decide) (by assumption) (fun _ _ => ?_))
    | (with_reducible refine oKv_cS hE (by decide) (by (first | assumption | exact nv_a (by assumption) (by assumption) (by decide) | exact nv_b (by assumption) (by assumption) (by decide) | exact nv_c (by assumption) (by assumption) (by decide))) (by assumption) (fun _ _ => ?_))
    | (with_reducible refine oKv_44 (by assumption) (fun _ _ => ?_))
    | (with_reducible refine oKv_rd (fun _ => ?_)))
theorem zv_292_0 (hE : fEv E) (i0 : Int32) (i1 : Int32) (s : rS) (z : vFs Sz s) : oKv Sz (s292_0 E w i0 i1 s) := by
  unfold s292_0
  repeat' (first
    | with_reducible exact oKv_rI (by assumption)
    | with_reducible exact oKv_so (by assumption)
    | exact oKv_none
    | with_reducible exact zv_292_22 hE _ (by assumption)
    | with_reducible exact zv_292_27 hE _ _ (by assumption)
    | with_reducible exact zv_292_41 hE _ _ (by assumption)
    | with_reducible exact zv_292_45 hE _ (by assumption)
    | with_reducible refine oKv_if (fun _ => ?_) (fun _ => ?_)
    | (with_reducible refine oKv_pI (by assumption) (fun _ _ => ?_))
    | (with_reducible refine oKv_sI (by decide) (by assumption) (fun _ _ => ?_))
    | (with_reducible refine oKv_sB (by decide) (by assumption) (fun _ _ => ?_))
    | (with_reducible refine oKv_sJ (by assumption) (fun _ _ => ?_))
    | (with_reducible refine oKv_53 (by (first | assumption | exact nv_a (by assumption) (by assumption) (by decide) | exact nv_b (by assumption) (by assumption) (by decide) | exact nv_c (by assumption) (by assumption) (by decide))) (by assumption) (fun _ _ => ?_))
    | (with_reducible refine oKv_cI hE (by decide) (by assumption) (fun _ _ => ?_))
    | (with_reducible refine oKv_cJ hE (by decide) (by assumption) (fun _ _ => ?_))
    | (with_reducible refine oKv_cV hE (by decide) (by assumption) (fun _ _ => ?_))
    | (with_reducible refine oKv_cS hE (by decide) (by (first | assumption | exact nv_a (by assumption) (by assumption) (by decide) | exact nv_b (by assumption) (by assumption) (by decide) | exact nv_c (by assumption) (by assumption) (by decide))) (by assumption) (fun _ _ => ?_))
    | (with_reducible refine oKv_44 (by assumption) (fun _ _ => ?_))
    | (with_reducible refine oKv_rd (fun _ => ?_)))
theorem zv_293_38 (hE : fEv E) (s0 : Int32) (s : rS) (z : vFs Sz s) : oKv Sz (s293_38 E w s0 s) := by
  unfold s293_38
  repeat' (first
    | with_reducible exact oKv_rI (by assumption)
    | with_reducible exact oKv_so (by assumption)
    | exact oKv_none
    | with_reducible refine oKv_if (fun _ => ?_) (fun _ => ?_)
    | (with_reducible refine oKv_pI (by assumption) (fun _ _ => ?_))
    | (with_reducible refine oKv_sI (by decide) (by assumption) (fun _ _ => ?_))
    | (with_reducible refine oKv_sB (by decide) (by assumption) (fun _ _ => ?_))
    | (with_reducible refine oKv_sJ (by assumption) (fun _ _ => ?_))
    | (with_reducible refine oKv_53 (by (first | assumption | exact nv_a (by assumption) (by assumption) (by decide) | exact nv_b (by assumption) (by assumption) (by decide) | exact nv_c (by assumption) (by assumption) (by decide))) (by assumption) (fun _ _ => ?_))
    | (with_reducible refine oKv_cI hE (by decide) (by assumption) (fun _ _ => ?_))
    | (with_reducible refine oKv_cJ hE (by decide) (by assumption) (fun _ _ => ?_))
    | (with_reducible refine oKv_cV hE (by decide) (by assumption) (fun _ _ => ?_))
    | (with_reducible refine oKv_cS hE (by decide) (by (first | assumption | exact nv_a (by assumption) (by assumption) (by decide) | exact nv_b (by assumption) (by assumption) (by decide) | exact nv_c (by assumption) (by assumption) (by decide))) (by assumption) (fun _ _ => ?_))
    | (with_reducible refine oKv_44 (by assumption) (fun _ _ => ?_))
    | (with_reducible refine oKv_rd (fun _ => ?_)))
theorem zv_293_33 (hE : fEv E) (s : rS) (z : vFs Sz s) : oKv Sz (s293_33 E w s) := by
  unfold s293_33
  repeat' (first
    | with_reducible exact oKv_rI (by assumption)
    | with_reducible exact oKv_so (by assumption)
    | exact oKv_none
    | with_reducible exact zv_293_38 hE _ _ (by assumption)
    | with_reducible refine oKv_if (fun _ => ?_) (fun _ => ?_)
    | (with_reducible refine oKv_pI (by assumption) (fun _ _ => ?_))
    | (with_reducible refine oKv_sI (by decide) (by assumption) (fun _ _ => ?_))
    | (with_reducible refine oKv_sB (by decide) (by assumption) (fun _ _ => ?_))
    | (with_reducible refine oKv_sJ (by assumption) (fun _ _ => ?_))
    | (with_reducible refine oKv_53 (by (first | assumption | exact nv_a (by assumption) (by assumption) (by decide) | exact nv_b (by assumption) (by assumption) (by decide) | exact nv_c (by assumption) (by assumption) (by decide))) (by assumption) (fun _ _ => ?_))
    | (with_reducible refine oKv_cI hE (by decide) (by assumption) (fun _ _ => ?_))
    | (with_reducible refine oKv_cJ hE (by decide) (by assumption) (fun _ _ => ?_))
    | (with_reducible refine oKv_cV hE (by decide) (by assumption) (fun _ _ => ?_))
    | (with_reducible refine oKv_cS hE (by decide) (by (first | assumption | exact nv_a (by assumption) (by assumption) (by decide) | exact nv_b (by assumption) (by assumption) (by decide) | exact nv_c (by assumption) (by assumption) (by decide))) (by assumption) (fun _ _ => ?_))
    | (with_reducible refine oKv_44 (by assumption) (fun _ _ => ?_))
    | (with_reducible refine oKv_rd (fun _ => ?_)))
theorem zv_293_37 (hE : fEv E) (s : rS) (z : vFs Sz s) : oKv Sz (s293_37 E w s) := by
  unfold s293_37
  repeat' (first
    | with_reducible exact oKv_rI (by assumption)
    | with_reducible exact oKv_so (by assumption)
    | exact oKv_none
    | with_reducible exact zv_293_38 hE _ _ (by assumption)
    | with_reducible refine oKv_if (fun _ => ?_) (fun _ => ?_)
    | (with_reducible refine oKv_pI (by assumption) (fun _ _ => ?_))
    | (with_reducible refine oKv_sI (by decide) (by assumption) (fun _ _ => ?_))
    | (with_reducible refine oKv_sB (by decide) (by assumption) (fun _ _ => ?_))
    | (with_reducible refine oKv_sJ (by assumption) (fun _ _ => ?_))
    | (with_reducible refine oKv_53 (by (first | assumption | exact nv_a (by assumption) (by assumption) (by decide) | exact nv_b (by assumption) (by assumption) (by decide) | exact nv_c (by assumption) (by assumption) (by decide))) (by assumption) (fun _ _ => ?_))
    | (with_reducible refine oKv_cI hE (by decide) (by assumption) (fun _ _ => ?_))
    | (with_reducible refine oKv_cJ hE (by decide) (by assumption) (fun _ _ => ?_))
    | (with_reducible refine oKv_cV hE (by decide) (by assumption) (fun _ _ => ?_))
    | (with_reducible refine oKv_cS hE (by decide) (by (first | assumption | exact nv_a (by assumption) (by assumption) (by decide) | exact nv_b (by assumption) (by assumption) (by decide) | exact nv_c (by assumption) (by assumption) (by decide))) (by assumption) (fun _ _ => ?_))
    | (with_reducible refine oKv_44 (by assumption) (fun _ _ => ?_))
    | (with_reducible refine oKv_rd (fun _ => ?_)))
theorem zv_293_23 (hE : fEv E) (i0 : Int32) (i1 : Int32) (s : rS) (z : vFs Sz s) : oKv Sz (s293_23 E w i0 i1 s) := by
  unfold s293_23
  repeat' (first
    | with_reducible exact oKv_rI (by assumption)
    | with_reducible exact oKv_so (by assumption)
    | exact oKv_none
    | with_reducible exact zv_293_33 hE _ (by assumption)
    | with_reducible exact zv_293_37 hE _ (by assumption)
    | with_reducible refine oKv_if (fun _ => ?_) (fun _ => ?_)
    | (with_reducible refine oKv_pI (by assumption) (fun _ _ => ?_))
    | (with_reducible refine oKv_sI (by decide) (by assumption) (fun _ _ => ?_))
    | (with_reducible refine oKv_sB (by decide) (by assumption) (fun _ _ => ?_))
    | (with_reducible refine oKv_sJ (by assumption) (fun _ _ => ?_))
    | (with_reducible refine oKv_53 (by (first | assumption | exact nv_a (by assumption) (by assumption) (by decide) | exact nv_b (by assumption) (by assumption) (by decide) | exact nv_c (by assumption) (by assumption) (by decide))) (by assumption) (fun _ _ => ?_))
    | (with_reducible refine oKv_cI hE (by decide) (by assumption) (fun _ _ => ?_))
    | (with_reducible refine oKv_cJ hE (by decide) (by assumption) (fun _ _ => ?_))
    | (with_reducible refine oKv_cV hE (by decide) (by assumption) (fun _ _ => ?_))
    | (with_reducible refine oKv_cS hE (by decide) (by (first | assumption | exact nv_a (by assumption) (by assumption) (by decide) | exact nv_b (by assumption) (by assumption) (by decide) | exact nv_c (by assumption) (by assumption) (by decide))) (by assumption) (fun _ _ => ?_))
    | (with_reducible refine oKv_44 (by assumption) (fun _ _ => ?_))
    | (with_reducible refine oKv_rd (fun _ => ?_)))
theorem zv_293_14 (hE : fEv E) (i0 : Int32) (i1 : Int32) (s : rS) (z : vFs Sz s) : oKv Sz (s293_14 E w i0 i1 s) := by
  unfold s293_14
  repeat' (first
    | with_reducible exact oKv_rI (by assumption)
    | with_reducible exact oKv_so (by assumption)
    | exact oKv_none
    | with_reducible exact zv_293_23 hE _ _ _ (by assumption)
    | with_reducible exact zv_293_33 hE _ (by assumption)
    | with_reducible refine oKv_if (fun _ => ?_) (fun _ => ?_)
    | (with_reducible refine oKv_pI (by assumption) (fun _ _ => ?_))
    | (with_reducible refine oKv_sI (by decide) (by assumption) (fun _ _ => ?_))
    | (with_reducible refine oKv_sB (by decide) (by assumption) (fun _ _ => ?_))
    | (with_reducible refine oKv_sJ (by assumption) (fun _ _ => ?_))
    | (with_reducible refine oKv_53 (by (first | assumption | exact nv_a (by assumption) (by assumption) (by decide) | exact nv_b (by assumption) (by assumption) (by decide) | exact nv_c (by assumption) (by assumption) (by decide))) (by assumption) (fun _ _ => ?_))
    | (with_reducible refine oKv_cI hE (by decide) (by assumption) (fun _ _ => ?_))
    | (with_reducible refine oKv_cJ hE (by decide) (by assumption) (fun _ _ => ?_))
    | (with_reducible refine oKv_cV hE (by decide) (by assumption) (fun _ _ => ?_))
    | (with_reducible refine oKv_cS hE (by decide) (by (first | assumption | exact nv_a (by assumption) (by assumption) (by decide) | exact nv_b (by assumption) (by assumption) (by decide) | exact nv_c (by assumption) (by assumption) (by decide))) (by assumption) (fun _ _ => ?_))
    | (with_reducible refine oKv_44 (by assumption) (fun _ _ => ?_))
    | (with_reducible refine oKv_rd (fun _ => ?_)))
theorem zv_293_0 (hE : fEv E) (i0 : Int32) (i1 : Int32) (s : rS) (z : vFs Sz s) : oKv Sz (s293_0 E w i0 i1 s) := by
  unfold s293_0
  repeat' (first
    | with_reducible exact oKv_rI (by assumption)
    | with_reducible exact oKv_so (by assumption)
    | exact oKv_none
    | with_reducible exact zv_293_14 hE _ _ _ (by assumption)
    | with_reducible exact zv_293_23 hE _ _ _ (by assumption)
    | with_reducible exact zv_293_33 hE _ (by assumption)
    | with_reducible refine oKv_if (fun _ => ?_) (fun _ => ?_)
    | (with_reducible refine oKv_pI (by assumption) (fun _ _ => ?_))
    | (with_reducible refine oKv_sI (by decide) (by assumption) (fun _ _ => ?_))
    | (with_reducible refine oKv_sB (by decide) (by assumption) (fun _ _ => ?_))
    | (with_reducible refine oKv_sJ (by assumption) (fun _ _ => ?_))
    | (with_reducible refine oKv_53 (by (first | assumption | exact nv_a (by assumption) (by assumption) (by decide) | exact nv_b (by assumption) (by assumption) (by decide) | exact nv_c (by assumption) (by assumption) (by decide))) (by assumption) (fun _ _ => ?_))
    | (with_reducible refine oKv_cI hE (by decide) (by assumption) (fun _ _ => ?_))
    | (with_reducible refine oKv_cJ hE (by decide) (by assumption) (fun _ _ => ?_))
    | (with_reducible refine oKv_cV hE (by decide) (by assumption) (fun _ _ => ?_))
    | (with_reducible refine oKv_cS hE (by decide) (by (first | assumption | exact nv_a (by assumption) (by assumption) (by decide) | exact nv_b (by assumption) (by assumption) (by decide) | exact nv_c (by assumption) (by assumption) (by decide))) (by assumption) (fun _ _ => ?_))
    | (with_reducible refine oKv_44 (by assumption) (fun _ _ => ?_))
    | (with_reducible refine oKv_rd (fun _ => ?_)))
theorem zv_305_0 (hE : fEv E) (i1 : Int32) (i2 : Int32) (s : rS) (z : vFs Sz s) : oKv Sz (s305_0 E w i1 i2 s) := by
  unfold s305_0
  repeat' (first
    | with_reducible exact oKv_rI (by assumption)
    | with_reducible exact oKv_so (by assumption)
    | exact oKv_none
    | with_reducible refine oKv_if (fun _ => ?_) (fun _ => ?_)
    | (with_reducible refine oKv_pI (by assumption) (fun _ _ => ?_))
    | (with_reducible refine oKv_sI (by decide) (by assumption) (fun _ _ => ?_))
    | (with_reducible refine oKv_sB (by decide) (by assumption) (fun _ _ => ?_))
    | (with_reducible refine oKv_sJ (by assumption) (fun _ _ => ?_))
    | (with_reducible refine oKv_53 (by (first | assumption | exact nv_a (by assumption) (by assumption) (by decide) | exact nv_b (by assumption) (by assumption) (by decide) | exact nv_c (by assumption) (by assumption) (by decide))) (by assumption) (fun _ _ => ?_))
    | (with_reducible refine oKv_cI hE (by decide) (by assumption) (fun _ _ => ?_))
    | (with_reducible refine oKv_cJ hE (by decide) (by assumption) (fun _ _ => ?_))
    | (with_reducible refine oKv_cV hE (by decide) (by assumption) (fun _ _ => ?_))
    | (with_reducible refine oKv_cS hE (by decide) (by (first | assumption | exact nv_a (by assumption) (by assumption) (by decide) | exact nv_b (by assumption) (by assumption) (by decide) | exact nv_c (by assumption) (by assumption) (by decide))) (by assumption) (fun _ _ => ?_))
    | (with_reducible refine oKv_44 (by assumption) (fun _ _ => ?_))
    | (with_reducible refine oKv_rd (fun _ => ?_)))
theorem zv_331_38 (hE : fEv E) (s0 : Int32) (s : rS) (z : vFs Sz s) : oKv Sz (s331_38 E w s0 s) := by
  unfold s331_38
  repeat' (first
    | with_reducible exact oKv_rI (by assumption)
    | with_reducible exact oKv_so (by assumption)
    | exact oKv_none
    | with_reducible refine oKv_if (fun _ => ?_) (fun _ => ?_)
    | (with_reducible refine oKv_pI (by assumption) (fun _ _ => ?_))
    | (with_reducible refine oKv_sI (by decide) (by assumption) (fun _ _ => ?_))
    | (with_reducible refine oKv_sB (by decide) (by assumption) (fun _ _ => ?_))
    | (with_reducible refine oKv_sJ (by assumption) (fun _ _ => ?_))
    | (with_reducible refine oKv_53 (by (first | assumption | exact nv_a (by assumption) (by assumption) (by decide) | exact nv_b (by assumption) (by assumption) (by decide) | exact nv_c (by assumption) (by assumption) (by decide))) (by assumption) (fun _ _ => ?_))
    | (with_reducible refine oKv_cI hE (by decide) (by assumption) (fun _ _ => ?_))
    | (with_reducible refine oKv_cJ hE (by decide) (by assumption) (fun _ _ => ?_))
    | (with_reducible refine oKv_cV hE (by decide) (by assumption) (fun _ _ => ?_))
    | (with_reducible refine oKv_cS hE (by decide) (by (first | assumption | exact nv_a (by assumption) (by assumption) (by decide) | exact nv_b (by assumption) (by assumption) (by decide) | exact nv_c (by assumption) (by assumption) (by decide))) (by assumption) (fun _ _ => ?_))
    | (with_reducible refine oKv_44 (by assumption) (fun _ _ => ?_))
    | (with_reducible refine oKv_rd (fun _ => ?_)))
theorem zv_331_33 (hE : fEv E) (s : rS) (z : vFs Sz s) : oKv Sz (s331_33 E w s) := by
  unfold s331_33
  repeat' (first
    | with_reducible exact oKv_rI (by assumption)
    | with_reducible exact oKv_so (by assumption)
    | exact oKv_none
    | with_reducible exact zv_331_38 hE _ _ (by assumption)
    | with_reducible refine oKv_if (fun _ => ?_) (fun _ => ?_)
    | (with_reducible refine oKv_pI (by assumption) (fun _ _ => ?_))
    | (with_reducible refine oKv_sI (by decide) (by assumption) (fun _ _ => ?_))
    | (with_reducible refine oKv_sB (by decide) (by assumption) (fun _ _ => ?_))
    | (with_reducible refine oKv_sJ (by assumption) (fun _ _ => ?_))
    | (with_reducible refine oKv_53 (by (first | assumption | exact nv_a (by assumption) (by assumption) (by decide) | exact nv_b (by assumption) (by assumption) (by decide) | exact nv_c (by assumption) (by assumption) (by decide))) (by assumption) (fun _ _ => ?_))
    | (with_reducible refine oKv_cI hE (by decide) (by assumption) (fun _ _ => ?_))
    | (with_reducible refine oKv_cJ hE (by decide) (by assumption) (fun _ _ => ?_))
    | (with_reducible refine oKv_cV hE (by decide) (by assumption) (fun _ _ => ?_))
    | (with_reducible refine oKv_cS hE (by decide) (by (first | assumption | exact nv_a (by assumption) (by assumption) (by decide) | exact nv_b (by assumption) (by assumption) (by decide) | exact nv_c (by assumption) (by assumption) (by decide))) (by assumption) (fun _ _ => ?_))
    | (with_reducible refine oKv_44 (by assumption) (fun _ _ => ?_))
    | (with_reducible refine oKv_rd (fun _ => ?_)))
theorem zv_331_37 (hE : fEv E) (s : rS) (z : vFs Sz s) : oKv Sz (s331_37 E w s) := by
  unfold s331_37
  repeat' (first
    | with_reducible exact oKv_rI (by assumption)
    | with_reducible exact oKv_so (by assumption)
    | exact oKv_none
    | with_reducible exact zv_331_38 hE _ _ (by assumption)
    | with_reducible refine oKv_if (fun _ => ?_) (fun _ => ?_)
    | (with_reducible refine oKv_pI (by assumption) (fun _ _ => ?_))
    | (with_reducible refine oKv_sI (by decide) (by assumption) (fun _ _ => ?_))
    | (with_reducible refine oKv_sB (by decide) (by assumption) (fun _ _ => ?_))
    | (with_reducible refine oKv_sJ (by assumption) (fun _ _ => ?_))
    | (with_reducible refine oKv_53 (by (first | assumption | exact nv_a (by assumption) (by assumption) (by decide) | exact nv_b (by assumption) (by assumption) (by decide) | exact nv_c (by assumption) (by assumption) (by decide))) (by assumption) (fun _ _ => ?_))
    | (with_reducible refine oKv_cI hE (by decide) (by assumption) (fun _ _ => ?_))
    | (with_reducible refine oKv_cJ hE (by decide) (by assumption) (fun _ _ => ?_))
    | (with_reducible refine oKv_cV hE (by decide) (by assumption) (fun _ _ => ?_))
    | (with_reducible refine oKv_cS hE (by decide) (by (first | assumption | exact nv_a (by assumption) (by assumption) (by decide) | exact nv_b (by assumption) (by assumption) (by decide) | exact nv_c (by assumption) (by assumption) (by decide))) (by assumption) (fun _ _ => ?_))
    | (with_reducible refine oKv_44 (by assumption) (fun _ _ => ?_))
    | (with_reducible refine oKv_rd (fun _ => ?_)))
theorem zv_331_0 (hE : fEv E) (i0 : Int32) (s : rS) (z : vFs Sz s) : oKv Sz (s331_0 E w i0 s) := by
  unfold s331_0
  repeat' (first
    | with_reducible exact oKv_rI (by assumption)
    | with_reducible exact oKv_so (by assumption)
    | exact oKv_none
    | with_reducible exact zv_331_33 hE _ (by assumption)
    | with_reducible exact zv_331_37 hE _ (by assumption)
    | with_reducible refine oKv_if (fun _ => ?_) (fun _ => ?_)
    | (with_reducible refine oKv_pI (by assumption) (fun _ _ => ?_))
    | (with_reducible refine oKv_sI (by decide) (by assumption) (fun _ _ => ?_))
    | (with_reducible refine oKv_sB (by decide) (by assumption) (fun _ _ => ?_))
    | (with_reducible refine oKv_sJ (by assumption) (fun _ _ => ?_))
    | (with_reducible refine oKv_53 (by (first | assumption | exact nv_a (by assumption) (by assumption) (by decide) | exact nv_b (by assumption) (by assumption) (by decide) | exact nv_c (by assumption) (by assumption) (by decide))) (by assumption) (fun _ _ => ?_))
    | (with_reducible refine oKv_cI hE (by decide) (by assumption) (fun _ _ => ?_))
    | (with_reducible refine oKv_cJ hE (by decide) (by assumption) (fun _ _ => ?_))
    | (with_reducible refine oKv_cV hE (by decide) (by assumption) (fun _ _ => ?_))
    | (with_reducible refine oKv_cS hE (by decide) (by (first | assumption | exact nv_a (by assumption) (by assumption) (by decide) | exact nv_b (by assumption) (by assumption) (by decide) | exact nv_c (by assumption) (by assumption) (by decide))) (by assumption) (fun _ _ => ?_))
    | (with_reducible refine oKv_44 (by assumption) (fun _ _ => ?_))
    | (with_reducible refine oKv_rd (fun _ => ?_)))
theorem zv_332_19 (hE : fEv E) (s0 : Int32) (s : rS) (z : vFs Sz s) : oKv Sz (s332_19 E w s0 s) := by
  unfold s332_19
  repeat' (first
    | with_reducible exact oKv_rI (by assumption)
    | with_reducible exact oKv_so (by assumption)
    | exact oKv_none
    | with_reducible refine oKv_if (fun _ => ?_) (fun _ => ?_)
    | (with_reducible refine oKv_pI (by assumption) (fun _ _ => ?_))
    | (with_reducible refine oKv_sI (by decide) (by assumption) (fun _ _ => ?_))
    | (with_reducible refine oKv_sB (by decide) (by assumption) (fun _ _ => ?_))
    | (with_reducible refine oKv_sJ (by assumption) (fun _ _ => ?_))
    | (with_reducible refine oKv_53 (by (first | assumption | exact nv_a (by assumption) (by assumption) (by decide) | exact nv_b (by assumption) (by assumption) (by decide) | exact nv_c (by assumption) (by assumption) (by decide))) (by assumption) (fun _ _ => ?_))
    | (with_reducible refine oKv_cI hE (by decide) (by assumption) (fun _ _ => ?_))
    | (with_reducible refine oKv_cJ hE (by decide) (by assumption) (fun _ _ => ?_))
    | (with_reducible refine oKv_cV hE (by decide) (by assumption) (fun _ _ => ?_))
    | (with_reducible refine oKv_cS hE (by decide) (by (first | assumption | exact nv_a (by assumption) (by assumption) (by decide) | exact nv_b (by assumption) (by assumption) (by decide) | exact nv_c (by assumption) (by assumption) (by decide))) (by assumption) (fun _ _ => ?_))
    | (with_reducible refine oKv_44 (by assumption) (fun _ _ => ?_))
    | (with_reducible refine oKv_rd (fun _ => ?_)))
theorem zv_332_18 (hE : fEv E) (s : rS) (z : vFs Sz s) : oKv Sz (s332_18 E w s) := by
  unfold s332_18
  repeat' (first
    | with_reducible exact oKv_rI (by assumption)
    | with_reducible exact oKv_so (by assumption)
    | exact oKv_none
    | with_reducible exact zv_332_19 hE _ _ (by assumption)
    | with_reducible refine oKv_if (fun _ => ?_) (fun _ => ?_)
    | (with_reducible refine oKv_pI (by assumption) (fun _ _ => ?_))
    | (with_reducible refine oKv_sI (by decide) (by assumption) (fun _ _ => ?_))
    | (with_reducible refine oKv_sB (by decide) (by assumption) (fun _ _ => ?_))
    | (with_reducible refine oKv_sJ (by assumption) (fun _ _ => ?_))
    | (with_reducible refine oKv_53 (by (first | assumption | exact nv_a (by assumption) (by assumption) (by decide) | exact nv_b (by assumption) (by assumption) (by decide) | exact nv_c (by assumption) (by assumption) (by decide))) (by assumption) (fun _ _ => ?_))
    | (with_reducible refine oKv_cI hE (by decide) (by assumption) (fun _ _ => ?_))
    | (with_reducible refine oKv_cJ hE (by decide) (by assumption) (fun _ _ => ?_))
    | (with_reducible refine oKv_cV hE (by decide) (by assumption) (fun _ _ => ?_))
    | (with_reducible refine oKv_cS hE (by decide) (by (first | assumption | exact nv_a (by assumption) (by assumption) (by decide) | exact nv_b (by assumption) (by assumption) (by decide) | exact nv_c (by assumption) (by assumption) (by decide))) (by assumption) (fun _ _ => ?_))
    | (with_reducible refine oKv_44 (by assumption) (fun _ _ => ?_))
    | (with_reducible refine oKv_rd (fun _ => ?_)))
theorem zv_332_0 (hE : fEv E) (i0 : Int32) (s : rS) (z : vFs Sz s) : oKv Sz (s332_0 E w i0 s) := by
  unfold s332_0
  repeat' (first
    | with_reducible exact oKv_rI (by assumption)
    | with_reducible exact oKv_so (by assumption)
    | exact oKv_none
    | with_reducible exact zv_332_18 hE _ (by assumption)
    | with_reducible exact zv_332_19 hE _ _ (by assumption)
    | with_reducible refine oKv_if (fun _ => ?_) (fun _ => ?_)
    | (with_reducible refine oKv_pI (by assumption) (fun _ _ => ?_))
    | (with_reducible refine oKv_sI (by decide) (by assumption) (fun _ _ => ?_))
    | (with_reducible refine oKv_sB (by decide) (by assumption) (fun _ _ => ?_))
    | (with_reducible refine oKv_sJ (by assumption) (fun _ _ => ?_))
    | (with_reducible refine oKv_53 (by (first | assumption | exact nv_a (by assumption) (by assumption) (by decide) | exact nv_b (by assumption) (by assumption) (by decide) | exact nv_c (by assumption) (by assumption) (by decide))) (by assumption) (fun _ _ => ?_))
    | (with_reducible refine oKv_cI hE (by decide) (by assumption) (fun _ _ => ?_))
    | (with_reducible refine oKv_cJ hE (by decide) (by assumption) (fun _ _ => ?_))
    | (with_reducible refine oKv_cV hE (by decide) (by assumption) (fun _ _ => ?_))
    | (with_reducible refine oKv_cS hE (by decide) (by (first | assumption | exact nv_a (by assumption) (by assumption) (by decide) | exact nv_b (by assumption) (by assumption) (by decide) | exact nv_c (by assumption) (by assumption) (by decide))) (by assumption) (fun _ _ => ?_))
    | (with_reducible refine oKv_44 (by assumption) (fun _ _ => ?_))
    | (with_reducible refine oKv_rd (fun _ => ?_)))
theorem zv_333_19 (hE : fEv E) (s0 : Int32) (s : rS) (z : vFs Sz s) : oKv Sz (s333_19 E w s0 s) := by
  unfold s333_19
  repeat' (first
    | with_reducible exact oKv_rI (by assumption)
    | with_reducible exact oKv_so (by assumption)
    | exact oKv_none
    | with_reducible refine oKv_if (fun _ => ?_) (fun _ => ?_)
    | (with_reducible refine oKv_pI (by assumption) (fun _ _ => ?_))
    | (with_reducible refine oKv_sI (by decide) (by assumption) (fun _ _ => ?_))
    | (with_reducible refine oKv_sB (by decide) (by assumption) (fun _ _ => ?_))
    | (with_reducible refine oKv_sJ (by assumption) (fun _ _ => ?_))
    | (with_reducible refine oKv_53 (by (first | assumption | exact nv_a (by assumption) (by assumption) (by decide) | exact nv_b (by assumption) (by assumption) (by decide) | exact nv_c (by assumption) (by assumption) (by decide))) (by assumption) (fun _ _ => ?_))
    | (with_reducible refine oKv_cI hE (by decide) (by assumption) (fun _ _ => ?_))
    | (with_reducible refine oKv_cJ hE (by decide) (by assumption) (fun _ _ => ?_))
    | (with_reducible refine oKv_cV hE (by decide) (by assumption) (fun _ _ => ?_))
    | (with_reducible refine oKv_cS hE (by decide) (by (first | assumption | exact nv_a (by assumption) (by assumption) (by decide) | exact nv_b (by assumption) (by assumption) (by decide) | exact nv_c (by assumption) (by assumption) (by decide))) (by assumption) (fun _ _ => ?_))
    | (with_reducible refine oKv_44 (by assumption) (fun _ _ => ?_))
    | (with_reducible refine oKv_rd (fun _ => ?_)))
theorem zv_333_18 (hE : fEv E) (s : rS) (z : vFs Sz s) : oKv Sz (s333_18 E w s) := by
  unfold s333_18
  repeat' (first
    | with_reducible exact oKv_rI (by assumption)
    | with_reducible exact oKv_so (by assumption)
    | exact oKv_none
    | with_reducible exact zv_333_19 hE _ _ (by assumption)
    | with_reducible refine oKv_if (fun _ => ?_) (fun _ => ?_)
    | (with_reducible refine oKv_pI (by assumption) (fun _ _ => ?_))
    | (with_reducible refine oKv_sI (by decide) (by assumption) (fun _ _ => ?_))
    | (with_reducible refine oKv_sB (by decide) (by assumption) (fun _ _ => ?_))
    | (with_reducible refine oKv_sJ (by assumption) (fun _ _ => ?_))
    | (with_reducible refine oKv_53 (by (first | assumption | exact nv_a (by assumption) (by assumption) (by decide) | exact nv_b (by assumption) (by assumption) (by decide) | exact nv_c (by assumption) (by assumption) (by decide))) (by assumption) (fun _ _ => ?_))
    | (with_reducible refine oKv_cI hE (by decide) (by assumption) (fun _ _ => ?_))
    | (with_reducible refine oKv_cJ hE (by decide) (by assumption) (fun _ _ => ?_))
    | (with_reducible refine oKv_cV hE (by decide) (by assumption) (fun _ _ => ?_))
    | (with_reducible refine oKv_cS hE (by decide) (by (first | assumption | exact nv_a (by assumption) (by assumption) (by decide) | exact nv_b (by assumption) (by assumption) (by decide) | exact nv_c (by assumption) (by assumption) (by decide))) (by assumption) (fun _ _ => ?_))
    | (with_reducible refine oKv_44 (by assumption) (fun _ _ => ?_))
    | (with_reducible refine oKv_rd (fun _ => ?_)))
theorem zv_333_0 (hE : fEv E) (i0 : Int32) (s : rS) (z : vFs Sz s) : oKv Sz (s333_0 E w i0 s) := by
  unfold s333_0
  repeat' (first
    | with_reducible exact oKv_rI (by assumption)
    | with_reducible exact oKv_so (by assumption)
    | exact oKv_none
    | with_reducible exact zv_333_18 hE _ (by assumption)
    | with_reducible exact zv_333_19 hE _ _ (by assumption)
    | with_reducible refine oKv_if (fun _ => ?_) (fun _ => ?_)
    | (with_reducible refine oKv_pI (by assumption) (fun _ _ => ?_))
    | (with_reducible refine oKv_sI (by decide) (by assumption) (fun _ _ => ?_))
    | (with_reducible refine oKv_sB (by decide) (by assumption) (fun _ _ => ?_))
    | (with_reducible refine oKv_sJ (by assumption) (fun _ _ => ?_))
    | (with_reducible refine oKv_53 (by (first | assumption | exact nv_a (by assumption) (by assumption) (by decide) | exact nv_b (by assumption) (by assumption) (by decide) | exact nv_c (by assumption) (by assumption) (by decide))) (by assumption) (fun _ _ => ?_))
    | (with_reducible refine oKv_cI hE (by decide) (by assumption) (fun _ _ => ?_))
    | (with_reducible refine oKv_cJ hE (by decide) (by assumption) (fun _ _ => ?_))
    | (with_reducible refine oKv_cV hE (by decide) (by assumption) (fun _ _ => ?_))
    | (with_reducible refine oKv_cS hE (by decide) (by (first | assumption | exact nv_a (by assumption) (by assumption) (by decide) | exact nv_b (by assumption) (by assumption) (by decide) | exact nv_c (by assumption) (by assumption) (by decide))) (by assumption) (fun _ _ => ?_))
    | (with_reducible refine oKv_44 (by assumption) (fun _ _ => ?_))
    | (with_reducible refine oKv_rd (fun _ => ?_)))
theorem zv_334_111 (hE : fEv E) (s0 : Int32) (s1 : Int32) (s : rS) (z : vFs Sz s) : oKv Sz (s334_111 E w s0 s1 s) := by
  unfold s334_111
  repeat' (first
    | with_reducible exact oKv_rI (by assumption)
    | with_reducible exact oKv_so (by assumption)
    | exact oKv_none
    | with_reducible refine oKv_if (fun _ => ?_) (fun _ => ?_)
    | (with_reducible refine oKv_pI (by assumption) (fun _ _ => ?_))
    | (with_reducible refine oKv_sI (by decide) (by assumption) (fun _ _ => ?_))
    | (with_reducible refine oKv_sB (by decide) (by assumption) (fun _ _ => ?_))
    | (with_reducible refine oKv_sJ (by assumption) (fun _ _ => ?_))
    | (with_reducible refine oKv_53 (by (first | assumption | exact nv_a (by assumption) (by assumption) (by decide) | exact nv_b (by assumption) (by assumption) (by decide) | exact nv_c (by assumption) (by assumption) (by decide))) (by assumption) (fun _ _ => ?_))
    | (with_reducible refine oKv_cI hE (by decide) (by assumption) (fun _ _ => ?_))
    | (with_reducible refine oKv_cJ hE (by decide) (by assumption) (fun _ _ => ?_))
    | (with_reducible refine oKv_cV hE (by decide) (by assumption) (fun _ _ => ?_))
    | (with_reducible refine oKv_cS hE (by decide) (by (first | assumption | exact nv_a (by assumption) (by assumption) (by decide) | exact nv_b (by assumption) (by assumption) (by decide) | exact nv_c (by assumption) (by assumption) (by decide))) (by assumption) (fun _ _ => ?_))
    | (with_reducible refine oKv_44 (by assumption) (fun _ _ => ?_))
    | (with_reducible refine oKv_rd (fun _ => ?_)))
theorem zv_334_110 (hE : fEv E) (s0 : Int32) (s : rS) (z : vFs Sz s) : oKv Sz (s334_110 E w s0 s) := by
  unfold s334_110
  repeat' (first
    | with_reducible exact oKv_rI (by assumption)
    | with_reducible exact oKv_so (by assumption)
    | exact oKv_none
    | with_reducible exact zv_334_111 hE _ _ _ (by assumption)
    | with_reducible refine oKv_if (fun _ => ?_) (fun _ => ?_)
    | (with_reducible refine oKv_pI (by assumption) (fun _ _ => ?_))
    | (with_reducible refine oKv_sI (by decide) (by assumption) (fun _ _ => ?_))
    | (with_reducible refine oKv_sB (by decide) (by assumption) (fun _ _ => ?_))
    | (with_reducible refine oKv_sJ (by assumption) (fun _ _ => ?_))
    | (with_reducible refine oKv_53 (by (first | assumption | exact nv_a (by assumption) (by assumption) (by decide) | exact nv_b (by assumption) (by assumption) (by decide) | exact nv_c (by assumption) (by assumption) (by decide))) (by assumption) (fun _ _ => ?_))
    | (with_reducible refine oKv_cI hE (by decide) (by assumption) (fun _ _ => ?_))
    | (with_reducible refine oKv_cJ hE (by decide) (by assumption) (fun _ _ => ?_))
    | (with_reducible refine oKv_cV hE (by decide) (by assumption) (fun _ _ => ?_))
    | (with_reducible refine oKv_cS hE (by decide) (by (first | assumption | exact nv_a (by assumption) (by assumption) (by decide) | exact nv_b (by assumption) (by assumption) (by decide) | exact nv_c (by assumption) (by assumption) (by decide))) (by assumption) (fun _ _ => ?_))
    | (with_reducible refine oKv_44 (by assumption) (fun _ _ => ?_))
    | (with_reducible refine oKv_rd (fun _ => ?_)))
theorem zv_334_27 (hE : fEv E) : ∀ (n : Nat) (b0 : Int32) (b1 : Int32) (s : rS), vFs Sz s → oKv Sz (s334_27 E w n b0 b1 s)
  | 0, _, _, _, _ => fun r s' e => by
    have e : (none : Option rA) = some (r, s') := e
    cases e
  | n + 1, b0, b1, s, z => by
    have ih := zv_334_27 hE n
    unfold s334_27
    repeat' (first
      | with_reducible exact oKv_rI (by assumption)
      | with_reducible exact oKv_so (by assumption)
      | exact oKv_none
      | with_reducible exact zv_334_110 hE _ _ (by assumption)
      | with_reducible exact zv_334_111 hE _ _ _ (by assumption)
      | with_reducible exact ih _ _ _ (by assumption)
      | with_reducible refine oKv_if (fun _ => ?_) (fun _ => ?_)
      | (with_reducible refine oKv_pI (by assumption) (fun _ _ => ?_))
      | (with_reducible refine oKv_sI (by decide) (by assumption) (fun _ _ => ?_))
      | (with_reducible refine oKv_sB (by decide) (by assumption) (fun _ _ => ?_))
      | (with_reducible refine oKv_sJ (by assumption) (fun _ _ => ?_))
      | (with_reducible refine oKv_53 (by (first | assumption | exact nv_a (by assumption) (by assumption) (by decide) | exact nv_b (by assumption) (by assumption) (by decide) | exact nv_c (by assumption) (by assumption) (by decide))) (by assumption) (fun _ _ => ?_))
      | (with_reducible refine oKv_cI hE (by decide) (by assumption) (fun _ _ => ?_))
      | (with_reducible refine oKv_cJ hE (by decide) (by assumption) (fun _ _ => ?_))
      | (with_reducible refine oKv_cV hE (by decide) (by assumption) (fun _ _ => ?_))
      | (with_reducible refine oKv_cS hE (by decide) (by (first | assumption | exact nv_a (by assumption) (by assumption) (by decide) | exact nv_b (by assumption) (by assumption) (by decide) | exact nv_c (by assumption) (by assumption) (by decide))) (by assumption) (fun _ _ => ?_))
      | (with_reducible refine oKv_44 (by assumption) (fun _ _ => ?_))
      | (with_reducible refine oKv_rd (fun _ => ?_)))
theorem zv_334_0 (hE : fEv E) (i1 : Int32) (s : rS) (z : vFs Sz s) : oKv Sz (s334_0 E w i1 s) := by
  unfold s334_0
  repeat' (first
    | with_reducible exact oKv_rI (by assumption)
    | with_reducible exact oKv_so (by assumption)
    | exact oKv_none
    | with_reducible exact zv_334_27 hE _ _ _ _ (by assumption)
    | with_reducible refine oKv_if (fun _ => ?_) (fun _ => ?_)
    | (with_reducible refine oKv_pI (by assumption) (fun _ _ => ?_))
    | (with_reducible refine oKv_sI (by decide) (by assumption) (fun _ _ => ?_))
    | (with_reducible refine oKv_sB (by decide) (by assumption) (fun _ _ => ?_))
    | (with_reducible refine oKv_sJ (by assumption) (fun _ _ => ?_))
    | (with_reducible refine oKv_53 (by (first | assumption | exact nv_a (by assumption) (by assumption) (by decide) | exact nv_b (by assumption) (by assumption) (by decide) | exact nv_c (by assumption) (by assumption) (by decide))) (by assumption) (fun _ _ => ?_))
    | (with_reducible refine oKv_cI hE (by decide) (by assumption) (fun _ _ => ?_))
    | (with_reducible refine oKv_cJ hE (by decide) (by assumption) (fun _ _ => ?_))
    | (with_reducible refine oKv_cV hE (by decide) (by assumption) (fun _ _ => ?_))
    | (with_reducible refine oKv_cS hE (by decide) (by (first | assumption | exact nv_a (by assumption) (by assumption) (by decide) | exact nv_b (by assumption) (by assumption) (by decide) | exact nv_c (by assumption) (by assumption) (by decide))) (by assumption) (fun _ _ => ?_))
    | (with_reducible refine oKv_44 (by assumption) (fun _ _ => ?_))
    | (with_reducible refine oKv_rd (fun _ => ?_)))
theorem zv_335_0 (hE : fEv E) (j1 : Int64) (i3 : Int32) (i4 : Int32) (s : rS) (z : vFs Sz s) : oKv Sz (s335_0 E w j1 i3 i4 s) := by
  unfold s335_0
  repeat' (first
    | with_reducible exact oKv_rI (by assumption)
    | with_reducible exact oKv_so (by assumption)
    | exact oKv_none
    | with_reducible refine oKv_if (fun _ => ?_) (fun _ => ?_)
    | (with_reducible refine oKv_pI (by assumption) (fun _ _ => ?_))
    | (with_reducible refine oKv_sI (by decide) (by assumption) (fun _ _ => ?_))
    | (with_reducible refine oKv_sB (by decide) (by assumption) (fun _ _ => ?_))
    | (with_reducible refine oKv_sJ (by assumption) (fun _ _ => ?_))
    | (with_reducible refine oKv_53 (by (first | assumption | exact nv_a (by assumption) (by assumption) (by decide) | exact nv_b (by assumption) (by assumption) (by decide) | exact nv_c (by assumption) (by assumption) (by decide))) (by assumption) (fun _ _ => ?_))
    | (with_reducible refine oKv_cI hE (by decide) (by assumption) (fun _ _ => ?_))
    | (with_reducible refine oKv_cJ hE (by decide) (by assumption) (fun _ _ => ?_))
    | (with_reducible refine oKv_cV hE (by decide) (by assumption) (fun _ _ => ?_))
    | (with_reducible refine oKv_cS hE (by decide) (by (first | assumption | exact nv_a (by assumption) (by assumption) (by decide) | exact nv_b (by assumption) (by assumption) (by decide) | exact nv_c (by assumption) (by assumption) (by decide))) (by assumption) (fun _ _ => ?_))
    | (with_reducible refine oKv_44 (by assumption) (fun _ _ => ?_))
    | (with_reducible refine oKv_rd (fun _ => ?_)))
theorem zv_336_50 (hE : fEv E) {K16 : Int32 → Int32 → Int32 → Int32 → Int32 → rS → Option rA} (hK16 : ∀ (a0 : Int32) (a1 : Int32) (a2 : Int32) (a3 : Int32) (a4 : Int32) (s : rS), vFs Sz s → oKv Sz (K16 a0 a1 a2 a3 a4 s)) (i1 : Int32) (i2 : Int32) (i3 : Int32) (i4 : Int32) (i5 : Int32) (s0 : Int32) (s1 : Int32) (s : rS) (z : vFs Sz s) : oKv Sz (s336_50 E w K16 i1 i2 i3 i4 i5 s0 s1 s) := by
  unfold s336_50
  repeat' (first
    | with_reducible exact oKv_rI (by assumption)
    | with_reducible exact oKv_so (by assumption)
    | exact oKv_none
    | with_reducible exact hK16 _ _ _ _ _ _ (by assumption)
    | with_reducible refine oKv_if (fun _ => ?_) (fun _ => ?_)
    | (with_reducible refine oKv_pI (by assumption) (fun _ _ => ?_))
    | (with_reducible refine oKv_sI (by decide) (by assumption) (fun _ _ => ?_))
    | (with_reducible refine oKv_sB (by decide) (by assumption) (fun _ _ => ?_))
    | (with_reducible refine oKv_sJ (by assumption) (fun _ _ => ?_))
    | (with_reducible refine oKv_53 (by (first | assumption | exact nv_a (by assumption) (by assumption) (by decide) | exact nv_b (by assumption) (by assumption) (by decide) | exact nv_c (by assumption) (by assumption) (by decide))) (by assumption) (fun _ _ => ?_))
    | (with_reducible refine oKv_cI hE (by decide) (by assumption) (fun _ _ => ?_))
    | (with_reducible refine oKv_cJ hE (by decide) (by assumption) (fun _ _ => ?_))
    | (with_reducible refine oKv_cV hE (by decide) (by assumption) (fun _ _ => ?_))
    | (with_reducible refine oKv_cS hE (by decide) (by (first | assumption | exact nv_a (by assumption) (by assumption) (by decide) | exact nv_b (by assumption) (by assumption) (by decide) | exact nv_c (by assumption) (by assumption) (by decide))) (by assumption) (fun _ _ => ?_))
    | (with_reducible refine oKv_44 (by assumption) (fun _ _ => ?_))
    | (with_reducible refine oKv_rd (fun _ => ?_)))
theorem zv_336_124 (hE : fEv E) (s : rS) (z : vFs Sz s) : oKv Sz (s336_124 E w s) := by
  unfold s336_124
  repeat' (first
    | with_reducible exact oKv_rI (by assumption)
    | with_reducible exact oKv_so (by assumption)
    | exact oKv_none
    | with_reducible refine oKv_if (fun _ => ?_) (fun _ => ?_)
    | (with_reducible refine oKv_pI (by assumption) (fun _ _ => ?_))
    | (with_reducible refine oKv_sI (by decide) (by assumption) (fun _ _ => ?_))
    | (with_reducible refine oKv_sB (by decide) (by assumption) (fun _ _ => ?_))
    | (with_reducible refine oKv_sJ (by assumption) (fun _ _ => ?_))
    | (with_reducible refine oKv_53 (by (first | assumption | exact nv_a (by assumption) (by assumption) (by decide) | exact nv_b (by assumption) (by assumption) (by decide) | exact nv_c (by assumption) (by assumption) (by decide))) (by assumption) (fun _ _ => ?_))
    | (with_reducible refine oKv_cI hE (by decide) (by assumption) (fun _ _ => ?_))
    | (with_reducible refine oKv_cJ hE (by decide) (by assumption) (fun _ _ => ?_))
    | (with_reducible refine oKv_cV hE (by decide) (by assumption) (fun _ _ => ?_))
    | (with_reducible refine oKv_cS hE (by decide) (by (first | assumption | exact nv_a (by assumption) (by assumption) (by decide) | exact nv_b (by assumption) (by assumption) (by decide) | exact nv_c (by assumption) (by assumption) (by decide))) (by assumption) (fun _ _ => ?_))
    | (with_reducible refine oKv_44 (by assumption) (fun _ _ => ?_))
    | (with_reducible refine oKv_rd (fun _ => ?_)))
theorem zv_336_112 (hE : fEv E) (i1 : Int32) (s : rS) (z : vFs Sz s) : oKv Sz (s336_112 E w i1 s) := by
  unfold s336_112
  repeat' (first
    | with_reducible exact oKv_rI (by assumption)
    | with_reducible exact oKv_so (by assumption)
    | exact oKv_none
    | with_reducible exact zv_336_124 hE _ (by assumption)
    | with_reducible refine oKv_if (fun _ => ?_) (fun _ => ?_)
    | (with_reducible refine oKv_pI (by assumption) (fun _ _ => ?_))
    | (with_reducible refine oKv_sI (by decide) (by assumption) (fun _ _ => ?_))
    | (with_reducible refine oKv_sB (by decide) (by assumption) (fun _ _ => ?_))
    | (with_reducible refine oKv_sJ (by assumption) (fun _ _ => ?_))
    | (with_reducible refine oKv_53 (by (first | assumption | exact nv_a (by assumption) (by assumption) (by decide) | exact nv_b (by assumption) (by assumption) (by decide) | exact nv_c (by assumption) (by assumption) (by decide))) (by assumption) (fun _ _ => ?_))
    | (with_reducible refine oKv_cI hE (by decide) (by assumption) (fun _ _ => ?_))
    | (with_reducible refine oKv_cJ hE (by decide) (by assumption) (fun _ _ => ?_))
    | (with_reducible refine oKv_cV hE (by decide) (by assumption) (fun _ _ => ?_))
    | (with_reducible refine oKv_cS hE (by decide) (by (first | assumption | exact nv_a (by assumption) (by assumption) (by decide) | exact nv_b (by assumption) (by assumption) (by decide) | exact nv_c (by assumption) (by assumption) (by decide))) (by assumption) (fun _ _ => ?_))
    | (with_reducible refine oKv_44 (by assumption) (fun _ _ => ?_))
    | (with_reducible refine oKv_rd (fun _ => ?_)))
theorem zv_336_82 (hE : fEv E) (i1 : Int32) (i2 : Int32) (i4 : Int32) (s0 : Int32) (s : rS) (z : vFs Sz s) : oKv Sz (s336_82 E w i1 i2 i4 s0 s) := by
  unfold s336_82
  repeat' (first
    | with_reducible exact oKv_rI (by assumption)
    | with_reducible exact oKv_so (by assumption)
    | exact oKv_none
    | with_reducible exact zv_336_112 hE _ _ (by assumption)
    | with_reducible exact zv_336_124 hE _ (by assumption)
    | with_reducible refine oKv_if (fun _ => ?_) (fun _ => ?_)
    | (with_reducible refine oKv_pI (by assumption) (fun _ _ => ?_))
    | (with_reducible refine oKv_sI (by decide) (by assumption) (fun _ _ => ?_))
    | (with_reducible refine oKv_sB (by decide) (by assumption) (fun _ _ => ?_))
    | (with_reducible refine oKv_sJ (by assumption) (fun _ _ => ?_))
    | (with_reducible refine oKv_53 (by (first | assumption | exact nv_a (by assumption) (by assumption) (by decide) | exact nv_b (by assumption) (by assumption) (by decide) | exact nv_c (by assumption) (by assumption) (by decide))) (by assumption) (fun _ _ => ?_))
    | (with_reducible refine oKv_cI hE (by decide) (by assumption) (fun _ _ => ?_))
    | (with_reducible refine oKv_cJ hE (by decide) (by assumption) (fun _ _ => ?_))
    | (with_reducible refine oKv_cV hE (by decide) (by assumption) (fun _ _ => ?_))
    | (with_reducible refine oKv_cS hE (by decide) (by (first | assumption | exact nv_a (by assumption) (by assumption) (by decide) | exact nv_b (by assumption) (by assumption) (by decide) | exact nv_c (by assumption) (by assumption) (by decide))) (by assumption) (fun _ _ => ?_))
    | (with_reducible refine oKv_44 (by assumption) (fun _ _ => ?_))
    | (with_reducible refine oKv_rd (fun _ => ?_)))
theorem zv_336_65 (hE : fEv E) (i1 : Int32) (i2 : Int32) (i3 : Int32) (i4 : Int32) (s : rS) (z : vFs Sz s) : oKv Sz (s336_65 E w i1 i2 i3 i4 s) := by
  unfold s336_65
  repeat' (first
    | with_reducible exact oKv_rI (by assumption)
    | with_reducible exact oKv_so (by assumption)
    | exact oKv_none
    | with_reducible exact zv_336_82 hE _ _ _ _ _ (by assumption)
    | with_reducible refine oKv_if (fun _ => ?_) (fun _ => ?_)
    | (with_reducible refine oKv_pI (by assumption) (fun _ _ => ?_))
    | (with_reducible refine oKv_sI (by decide) (by assumption) (fun _ _ => ?_))
    | (with_reducible refine oKv_sB (by decide) (by assumption) (fun _ _ => ?_))
    | (with_reducible refine oKv_sJ (by assumption) (fun _ _ => ?_))
    | (with_reducible refine oKv_53 (by (first | assumption | exact nv_a (by assumption) (by assumption) (by decide) | exact nv_b (by assumption) (by assumption) (by decide) | exact nv_c (by assumption) (by assumption) (by decide))) (by assumption) (fun _ _ => ?_))
    | (with_reducible refine oKv_cI hE (by decide) (by assumption) (fun _ _ => ?_))
    | (with_reducible refine oKv_cJ hE (by decide) (by assumption) (fun _ _ => ?_))
    | (with_reducible refine oKv_cV hE (by decide) (by assumption) (fun _ _ => ?_))
    | (with_reducible refine oKv_cS hE (by decide) (by (first | assumption | exact nv_a (by assumption) (by assumption) (by decide) | exact nv_b (by assumption) (by assumption) (by decide) | exact nv_c (by assumption) (by assumption) (by decide))) (by assumption) (fun _ _ => ?_))
    | (with_reducible refine oKv_44 (by assumption) (fun _ _ => ?_))
    | (with_reducible refine oKv_rd (fun _ => ?_)))
theorem zv_336_16 (hE : fEv E) : ∀ (n : Nat) (b0 : Int32) (b1 : Int32) (b2 : Int32) (b3 : Int32) (b4 : Int32) (s : rS), vFs Sz s → oKv Sz (s336_16 E w n b0 b1 b2 b3 b4 s)
  | 0, _, _, _, _, _, _, _ => fun r s' e => by
    have e : (none : Option rA) = some (r, s') := e
    cases e
  | n + 1, b0, b1, b2, b3, b4, s, z => by
    have ih := zv_336_16 hE n
    unfold s336_16
    repeat' (first
      | with_reducible exact oKv_rI (by assumption)
      | with_reducible exact oKv_so (by assumption)
      | exact oKv_none
      | with_reducible exact zv_336_50 hE ih _ _ _ _ _ _ _ _ (by assumption)
      | with_reducible exact zv_336_65 hE _ _ _ _ _ (by assumption)
      | with_reducible exact ih _ _ _ _ _ _ (by assumption)
      | with_reducible refine oKv_if (fun _ => ?_) (fun _ => ?_)
      | (with_reducible refine oKv_pI (by assumption) (fun _ _ => ?_))
      | (with_reducible refine oKv_sI (by decide) (by assumption) (fun _ _ => ?_))
      | (with_reducible refine oKv_sB (by decide) (by assumption) (fun _ _ => ?_))
      | (with_reducible refine oKv_sJ (by assumption) (fun _ _ => ?_))
      | (with_reducible refine oKv_53 (by (first | assumption | exact nv_a (by assumption) (by assumption) (by decide) | exact nv_b (by assumption) (by assumption) (by decide) | exact nv_c (by assumption) (by assumption) (by decide))) (by assumption) (fun _ _ => ?_))
      | (with_reducible refine oKv_cI hE (by decide) (by assumption) (fun _ _ => ?_))
      | (with_reducible refine oKv_cJ hE (by decide) (by assumption) (fun _ _ => ?_))
      | (with_reducible refine oKv_cV hE (by decide) (by assumption) (fun _ _ => ?_))
      | (with_reducible refine oKv_cS hE (by decide) (by (first | assumption | exact nv_a (by assumption) (by assumption) (by decide) | exact nv_b (by assumption) (by assumption) (by decide) | exact nv_c (by assumption) (by assumption) (by decide))) (by assumption) (fun _ _ => ?_))
      | (with_reducible refine oKv_44 (by assumption) (fun _ _ => ?_))
      | (with_reducible refine oKv_rd (fun _ => ?_)))
theorem zv_336_0 (hE : fEv E) (i1 : Int32) (i2 : Int32) (s : rS) (z : vFs Sz s) : oKv Sz (s336_0 E w i1 i2 s) := by
  unfold s336_0
  repeat' (first
    | with_reducible exact oKv_rI (by assumption)
    | with_reducible exact oKv_so (by assumption)
    | exact oKv_none
    | with_reducible exact zv_336_16 hE _ _ _ _ _ _ _ (by assumption)
    | with_reducible refine oKv_if (fun _ => ?_) (fun _ => ?_)
    | (with_reducible refine oKv_pI (by assumption) (fun _ _ => ?_))
    | (with_reducible refine oKv_sI (by decide) (by assumption) (fun _ _ => ?_))
    | (with_reducible refine oKv_sB (by decide) (by assumption) (fun _ _ => ?_))
    | (with_reducible refine oKv_sJ (by assumption) (fun _ _ => ?_))
    | (with_reducible refine oKv_53 (by (first | assumption | exact nv_a (by assumption) (by assumption) (by decide) | exact nv_b (by assumption) (by assumption) (by decide) | exact nv_c (by assumption) (by assumption) (by decide))) (by assumption) (fun _ _ => ?_))
    | (with_reducible refine oKv_cI hE (by decide) (by assumption) (fun _ _ => ?_))
    | (with_reducible refine oKv_cJ hE (by decide) (by assumption) (fun _ _ => ?_))
    | (with_reducible refine oKv_cV hE (by decide) (by assumption) (fun _ _ => ?_))
    | (with_reducible refine oKv_cS hE (by decide) (by (first | assumption | exact nv_a (by assumption) (by assumption) (by decide) | exact nv_b (by assumption) (by assumption) (by decide) | exact nv_c (by assumption) (by assumption) (by decide))) (by assumption) (fun _ _ => ?_))
    | (with_reducible refine oKv_44 (by assumption) (fun _ _ => ?_))
    | (with_reducible refine oKv_rd (fun _ => ?_)))
theorem zv_337_288 (hE : fEv E) (s : rS) (z : vFs Sz s) : oKv Sz (s337_288 E w s) := by
  unfold s337_288
  repeat' (first
    | with_reducible exact oKv_rI (by assumption)
    | with_reducible exact oKv_so (by assumption)
    | exact oKv_none
    | with_reducible refine oKv_if (fun _ => ?_) (fun _ => ?_)
    | (with_reducible refine oKv_pI (by assumption) (fun _ _ => ?_))
    | (with_reducible refine oKv_sI (by decide) (by assumption) (fun _ _ => ?_))
    | (with_reducible refine oKv_sB (by decide) (by assumption) (fun _ _ => ?_))
    | (with_reducible refine oKv_sJ (by assumption) (fun _ _ => ?_))
    | (with_reducible refine oKv_53 (by (first | assumption | exact nv_a (by assumption) (by assumption) (by decide) | exact nv_b (by assumption) (by assumption) (by decide) | exact nv_c (by assumption) (by assumption) (by decide))) (by assumption) (fun _ _ => ?_))
    | (with_reducible refine oKv_cI hE (by decide) (by assumption) (fun _ _ => ?_))
    | (with_reducible refine oKv_cJ hE (by decide) (by assumption) (fun _ _ => ?_))
    | (with_reducible refine oKv_cV hE (by decide) (by assumption) (fun _ _ => ?_))
    | (with_reducible refine oKv_cS hE (by decide) (by (first | assumption | exact nv_a (by assumption) (by assumption) (by decide) | exact nv_b (by assumption) (by assumption) (by decide) | exact nv_c (by assumption) (by assumption) (by decide))) (by assumption) (fun _ _ => ?_))
    | (with_reducible refine oKv_44 (by assumption) (fun _ _ => ?_))
    | (with_reducible refine oKv_rd (fun _ => ?_)))
theorem zv_337_0 (hE : fEv E) (i1 : Int32) (i2 : Int32) (s : rS) (z : vFs Sz s) : oKv Sz (s337_0 E w i1 i2 s) := by
  unfold s337_0
  repeat' (first
    | with_reducible exact oKv_rI (by assumption)
    | with_reducible exact oKv_so (by assumption)
    | exact oKv_none
    | with_reducible exact zv_337_288 hE _ (by assumption)
    | with_reducible refine oKv_if (fun _ => ?_) (fun _ => ?_)
    | (with_reducible refine oKv_pI (by assumption) (fun _ _ => ?_))
    | (with_reducible refine oKv_sI (by decide) (by assumption) (fun _ _ => ?_))
    | (with_reducible refine oKv_sB (by decide) (by assumption) (fun _ _ => ?_))
    | (with_reducible refine oKv_sJ (by assumption) (fun _ _ => ?_))
    | (with_reducible refine oKv_53 (by (first | assumption | exact nv_a (by assumption) (by assumption) (by decide) | exact nv_b (by assumption) (by assumption) (by decide) | exact nv_c (by assumption) (by assumption) (by decide))) (by assumption) (fun _ _ => ?_))
    | (with_reducible refine oKv_cI hE (by decide) (by assumption) (fun _ _ => ?_))
    | (with_reducible refine oKv_cJ hE (by decide) (by assumption) (fun _ _ => ?_))
    | (with_reducible refine oKv_cV hE (by decide) (by assumption) (fun _ _ => ?_))
    | (with_reducible refine oKv_cS hE (by decide) (by (first | assumption | exact nv_a (by assumption) (by assumption) (by decide) | exact nv_b (by assumption) (by assumption) (by decide) | exact nv_c (by assumption) (by assumption) (by decide))) (by assumption) (fun _ _ => ?_))
    | (with_reducible refine oKv_44 (by assumption) (fun _ _ => ?_))
    | (with_reducible refine oKv_rd (fun _ => ?_)))
theorem zv_338_31 (hE : fEv E) (i2 : Int32) (s : rS) (z : vFs Sz s) : oKv Sz (s338_31 E w i2 s) := by
  unfold s338_31
  repeat' (first
    | with_reducible exact oKv_rI (by assumption)
    | with_reducible exact oKv_so (by assumption)
    | exact oKv_none
    | with_reducible refine oKv_if (fun _ => ?_) (fun _ => ?_)
    | (with_reducible refine oKv_pI (by assumption) (fun _ _ => ?_))
    | (with_reducible refine oKv_sI (by decide) (by assumption) (fun _ _ => ?_))
    | (with_reducible refine oKv_sB (by decide) (by assumption) (fun _ _ => ?_))
    | (with_reducible refine oKv_sJ (by assumption) (fun _ _ => ?_))
    | (with_reducible refine oKv_53 (by (first | assumption | exact nv_a (by assumption) (by assumption) (by decide) | exact nv_b (by assumption) (by assumption) (by decide) | exact nv_c (by assumption) (by assumption) (by decide))) (by assumption) (fun _ _ => ?_))
    | (with_reducible refine oKv_cI hE (by decide) (by assumption) (fun _ _ => ?_))
    | (with_reducible refine oKv_cJ hE (by decide) (by assumption) (fun _ _ => ?_))
    | (with_reducible refine oKv_cV hE (by decide) (by assumption) (fun _ _ => ?_))
    | (with_reducible refine oKv_cS hE (by decide) (by (first | assumption | exact nv_a (by assumption) (by assumption) (by decide) | exact nv_b (by assumption) (by assumption) (by decide) | exact nv_c (by assumption) (by assumption) (by decide))) (by assumption) (fun _ _ => ?_))
    | (with_reducible refine oKv_44 (by assumption) (fun _ _ => ?_))
    | (with_reducible refine oKv_rd (fun _ => ?_)))
theorem zv_338_70 (hE : fEv E) (s0 : Int32) (s : rS) (z : vFs Sz s) : oKv Sz (s338_70 E w s0 s) := by
  unfold s338_70
  repeat' (first
    | with_reducible exact oKv_rI (by assumption)
    | with_reducible exact oKv_so (by assumption)
    | exact oKv_none
    | with_reducible refine oKv_if (fun _ => ?_) (fun _ => ?_)
    | (with_reducible refine oKv_pI (by assumption) (fun _ _ => ?_))
    | (with_reducible refine oKv_sI (by decide) (by assumption) (fun _ _ => ?_))
    | (with_reducible refine oKv_sB (by decide) (by assumption) (fun _ _ => ?_))
    | (with_reducible refine oKv_sJ (by assumption) (fun _ _ => ?_))
    | (with_reducible refine oKv_53 (by (first | assumption | exact nv_a (by assumption) (by assumption) (by decide) | exact nv_b (by assumption) (by assumption) (by decide) | exact nv_c (by assumption) (by assumption) (by decide))) (by assumption) (fun _ _ => ?_))
    | (with_reducible refine oKv_cI hE (by decide) (by assumption) (fun _ _ => ?_))
    | (with_reducible refine oKv_cJ hE (by decide) (by assumption) (fun _ _ => ?_))
    | (with_reducible refine oKv_cV hE (by decide) (by assumption) (fun _ _ => ?_))
    | (with_reducible refine oKv_cS hE (by decide) (by (first | assumption | exact nv_a (by assumption) (by assumption) (by decide) | exact nv_b (by assumption) (by assumption) (by decide) | exact nv_c (by assumption) (by assumption) (by decide))) (by assumption) (fun _ _ => ?_))
    | (with_reducible refine oKv_44 (by assumption) (fun _ _ => ?_))
    | (with_reducible refine oKv_rd (fun _ => ?_)))
theorem zv_338_0 (hE : fEv E) (i1 : Int32) (s : rS) (z : vFs Sz s) : oKv Sz (s338_0 E w i1 s) := by
  unfold s338_0
  repeat' (first
    | with_reducible exact oKv_rI (by assumption)
    | with_reducible exact oKv_so (by assumption)
    | exact oKv_none
    | with_reducible exact zv_338_31 hE _ _ (by assumption)
    | with_reducible exact zv_338_70 hE _ _ (by assumption)
    | with_reducible refine oKv_if (fun _ => ?_) (fun _ => ?_)
    | (with_reducible refine oKv_pI (by assumption) (fun _ _ => ?_))
    | (with_reducible refine oKv_sI (by decide) (by assumption) (fun _ _ => ?_))
    | (with_reducible refine oKv_sB (by decide) (by assumption) (fun _ _ => ?_))
    | (with_reducible refine oKv_sJ (by assumption) (fun _ _ => ?_))
    | (with_reducible refine oKv_53 (by (first | assumption | exact nv_a (by assumption) (by assumption) (by decide) | exact nv_b (by assumption) (by assumption) (by decide) | exact nv_c (by assumption) (by assumption) (by decide))) (by assumption) (fun _ _ => ?_))
    | (with_reducible refine oKv_cI hE (by decide) (by assumption) (fun _ _ => ?_))
    | (with_reducible refine oKv_cJ hE (by decide) (by assumption) (fun _ _ => ?_))
    | (with_reducible refine oKv_cV hE (by decide) (by assumption) (fun _ _ => ?_))
    | (with_reducible refine oKv_cS hE (by decide) (by (first | assumption | exact nv_a (by assumption) (by assumption) (by decide) | exact nv_b (by assumption) (by assumption) (by decide) | exact nv_c (by assumption) (by assumption) (by decide))) (by assumption) (fun _ _ => ?_))
    | (with_reducible refine oKv_44 (by assumption) (fun _ _ => ?_))
    | (with_reducible refine oKv_rd (fun _ => ?_)))
theorem zv_339_44 (hE : fEv E) {K2 : Int32 → Int32 → rS → Option rA} (hK2 : ∀ (a0 : Int32) (a1 : Int32) (s : rS), vFs Sz s → oKv Sz (K2 a0 a1 s)) (i1 : Int32) (i2 : Int32) (s : rS) (z : vFs Sz s) : oKv Sz (s339_44 E w K2 i1 i2 s) := by
  unfold s339_44
  repeat' (first
    | with_reducible exact oKv_rI (by assumption)
    | with_reducible exact oKv_so (by assumption)
    | exact oKv_none
    | with_reducible exact hK2 _ _ _ (by assumption)
    | with_reducible refine oKv_if (fun _ => ?_) (fun _ => ?_)
    | (with_reducible refine oKv_pI (by assumption) (fun _ _ => ?_))
    | (with_reducible refine oKv_sI (by decide) (by assumption) (fun _ _ => ?_))
    | (with_reducible refine oKv_sB (by decide) (by assumption) (fun _ _ => ?_))
    | (with_reducible refine oKv_sJ (by assumption) (fun _ _ => ?_))
    | (with_reducible refine oKv_53 (by (first | assumption | exact nv_a (by assumption) (by assumption) (by decide) | exact nv_b (by assumption) (by assumption) (by decide) | exact nv_c (by assumption) (by assumption) (by decide))) (by assumption) (fun _ _ => ?_))
    | (with_reducible refine oKv_cI hE (by decide) (by assumption) (fun _ _ => ?_))
    | (with_reducible refine oKv_cJ hE (by decide) (by assumption) (fun _ _ => ?_))
    | (with_reducible refine oKv_cV hE (by decide) (by assumption) (fun _ _ => ?_))
    | (with_reducible refine oKv_cS hE (by decide) (by (first | assumption | exact nv_a (by assumption) (by assumption) (by decide) | exact nv_b (by assumption) (by assumption) (by decide) | exact nv_c (by assumption) (by assumption) (by decide))) (by assumption) (fun _ _ => ?_))
    | (with_reducible refine oKv_44 (by assumption) (fun _ _ => ?_))
    | (with_reducible refine oKv_rd (fun _ => ?_)))
theorem zv_339_39 (hE : fEv E) {K2 : Int32 → Int32 → rS → Option rA} (hK2 : ∀ (a0 : Int32) (a1 : Int32) (s : rS), vFs Sz s → oKv Sz (K2 a0 a1 s)) (i1 : Int32) (i2 : Int32) (s : rS) (z : vFs Sz s) : oKv Sz (s339_39 E w K2 i1 i2 s) := by
  unfold s339_39
  repeat' (first
    | with_reducible exact oKv_rI (by assumption)
    | with_reducible exact oKv_so (by assumption)
    | exact oKv_none
    | with_reducible exact zv_339_44 hE hK2 _ _ _ (by assumption)
    | with_reducible exact hK2 _ _ _ (by assumption)
    | with_reducible refine oKv_if (fun _ => ?_) (fun _ => ?_)
    | (with_reducible refine oKv_pI (by assumption) (fun _ _ => ?_))
    | (with_reducible refine oKv_sI (by decide) (by assumption) (fun _ _ => ?_))
    | (with_reducible refine oKv_sB (by decide) (by assumption) (fun _ _ => ?_))
    | (with_reducible refine oKv_sJ (by assumption) (fun _ _ => ?_))
    | (with_reducible refine oKv_53 (by (first | assumption | exact nv_a (by assumption) (by assumption) (by decide) | exact nv_b (by assumption) (by assumption) (by decide) | exact nv_c (by assumption) (by assumption) (by decide))) (by assumption) (fun _ _ => ?_))
    | (with_reducible refine oKv_cI hE (by decide) (by assumption) (fun _ _ => ?_))
    | (with_reducible refine oKv_cJ hE (by decide) (by assumption) (fun _ _ => ?_))
    | (with_reducible refine oKv_cV hE (by decide) (by assumption) (fun _ _ => ?_))
    | (with_reducible refine oKv_cS hE (by decide) (by (first | assumption | exact nv_a (by assumption) (by assumption) (by decide) | exact nv_b (by assumption) (by assumption) (by decide) | exact nv_c (by assumption) (by assumption) (by decide))) (by assumption) (fun _ _ => ?_))
    | (with_reducible refine oKv_44 (by assumption) (fun _ _ => ?_))
    | (with_reducible refine oKv_rd (fun _ => ?_)))
theorem zv_339_116 (hE : fEv E) (s0 : Int32) (s : rS) (z : vFs Sz s) : oKv Sz (s339_116 E w s0 s) := by
  unfold s339_116
  repeat' (first
    | with_reducible exact oKv_rI (by assumption)
    | with_reducible exact oKv_so (by assumption)
    | exact oKv_none
    | with_reducible refine oKv_if (fun _ => ?_) (fun _ => ?_)
    | (with_reducible refine oKv_pI (by assumption) (fun _ _ => ?_))
    | (with_reducible refine oKv_sI (by decide) (by assumption) (fun _ _ => ?_))
    | (with_reducible refine oKv_sB (by decide) (by assumption) (fun _ _ => ?_))
    | (with_reducible refine oKv_sJ (by assumption) (fun _ _ => ?_))
    | (with_reducible refine oKv_53 (by (first | assumption | exact nv_a (by assumption) (by assumption) (by decide) | exact nv_b (by assumption) (by assumption) (by decide) | exact nv_c (by assumption) (by assumption) (by decide))) (by assumption) (fun _ _ => ?_))
    | (with_reducible refine oKv_cI hE (by decide) (by assumption) (fun _ _ => ?_))
    | (with_reducible refine oKv_cJ hE (by decide) (by assumption) (fun _ _ => ?_))
    | (with_reducible refine oKv_cV hE (by decide) (by assumption) (fun _ _ => ?_))
    | (with_reducible refine oKv_cS hE (by decide) (by (first | assumption | exact nv_a (by assumption) (by assumption) (by decide) | exact nv_b (by assumption) (by assumption) (by decide) | exact nv_c (by assumption) (by assumption) (by decide))) (by assumption) (fun _ _ => ?_))
    | (with_reducible refine oKv_44 (by assumption) (fun _ _ => ?_))
    | (with_reducible refine oKv_rd (fun _ => ?_)))
theorem zv_339_104 (hE : fEv E) (i3 : Int32) (s : rS) (z : vFs Sz s) : oKv Sz (s339_104 E w i3 s) := by
  unfold s339_104
  repeat' (first
    | with_reducible exact oKv_rI (by assumption)
    | with_reducible exact oKv_so (by assumption)
    | exact oKv_none
    | with_reducible exact zv_339_116 hE _ _ (by assumption)
    | with_reducible refine oKv_if (fun _ => ?_) (fun _ => ?_)
    | (with_reducible refine oKv_pI (by assumption) (fun _ _ => ?_))
    | (with_reducible refine oKv_sI (by decide) (by assumption) (fun _ _ => ?_))
    | (with_reducible refine oKv_sB (by decide) (by assumption) (fun _ _ => ?_))
    | (with_reducible refine oKv_sJ (by assumption) (fun _ _ => ?_))
    | (with_reducible refine oKv_53 (by (first | assumption | exact nv_a (by assumption) (by assumption) (by decide) | exact nv_b (by assumption) (by assumption) (by decide) | exact nv_c (by assumption) (by assumption) (by decide))) (by assumption) (fun _ _ => ?_))
    | (with_reducible refine oKv_cI hE (by decide) (by assumption) (fun _ _ => ?_))
    | (with_reducible refine oKv_cJ hE (by decide) (by assumption) (fun _ _ => ?_))
    | (with_reducible refine oKv_cV hE (by decide) (by assumption) (fun _ _ => ?_))
    | (with_reducible refine oKv_cS hE (by decide) (by (first | assumption | exact nv_a (by assumption) (by assumption) (by decide) | exact nv_b (by assumption) (by assumption) (by decide) | exact nv_c (by assumption) (by assumption) (by decide))) (by assumption) (fun _ _ => ?_))
    | (with_reducible refine oKv_44 (by assumption) (fun _ _ => ?_))
    | (with_reducible refine oKv_rd (fun _ => ?_)))
theorem zv_339_70 (hE : fEv E) : ∀ (n : Nat) (b0 : Int32) (b1 : Int32) (b2 : Int32) (s : rS), vFs Sz s → oKv Sz (s339_70 E w n b0 b1 b2 s)
  | 0, _, _, _, _, _ => fun r s' e => by
    have e : (none : Option rA) = some (r, s') := e
    cases e
  | n + 1, b0, b1, b2, s, z => by
    have ih := zv_339_70 hE n
    unfold s339_70
    repeat' (first
      | with_reducible exact oKv_rI (by assumption)
      | with_reducible exact oKv_so (by assumption)
      | exact oKv_none
      | with_reducible exact zv_339_104 hE _ _ (by assumption)
      | with_reducible exact ih _ _ _ _ (by assumption)
      | with_reducible refine oKv_if (fun _ => ?_) (fun _ => ?_)
      | (with_reducible refine oKv_pI (by assumption) (fun _ _ => ?_))
      | (with_reducible refine oKv_sI (by decide) (by assumption) (fun _ _ => ?_))
      | (with_reducible refine oKv_sB (by decide) (by assumption) (fun _ _ => ?_))
      | (with_reducible refine oKv_sJ (by assumption) (fun _ _ => ?_))
      | (with_reducible refine oKv_53 (by (first | assumption | exact nv_a (by assumption) (by assumption) (by decide) | exact nv_b (by assumption) (by assumption) (by decide) | exact nv_c (by assumption) (by assumption) (by decide))) (by assumption) (fun _ _ => ?_))
      | (with_reducible refine oKv_cI hE (by decide) (by assumption) (fun _ _ => ?_))
      | (with_reducible refine oKv_cJ hE (by decide) (by assumption) (fun _ _ => ?_))
      | (with_reducible refine oKv_cV hE (by decide) (by assumption) (fun _ _ => ?_))
      | (with_reducible refine oKv_cS hE (by decide) (by (first | assumption | exact nv_a (by assumption) (by assumption) (by decide) | exact nv_b (by assumption) (by assumption) (by decide) | exact nv_c (by assumption) (by assumption) (by decide))) (by assumption) (fun _ _ => ?_))
      | (with_reducible refine oKv_44 (by assumption) (fun _ _ => ?_))
      | (with_reducible refine oKv_rd (fun _ => ?_)))
theorem zv_339_69 (hE : fEv E) (i1 : Int32) (i2 : Int32) (s0 : Int32) (s : rS) (z : vFs Sz s) : oKv Sz (s339_69 E w i1 i2 s0 s) := by
  unfold s339_69
  repeat' (first
    | with_reducible exact oKv_rI (by assumption)
    | with_reducible exact oKv_so (by assumption)
    | exact oKv_none
    | with_reducible exact zv_339_70 hE _ _ _ _ _ (by assumption)
    | with_reducible refine oKv_if (fun _ => ?_) (fun _ => ?_)
    | (with_reducible refine oKv_pI (by assumption) (fun _ _ => ?_))
    | (with_reducible refine oKv_sI (by decide) (by assumption) (fun _ _ => ?_))
    | (with_reducible refine oKv_sB (by decide) (by assumption) (fun _ _ => ?_))
    | (with_reducible refine oKv_sJ (by assumption) (fun _ _ => ?_))
    | (with_reducible refine oKv_53 (by (first | assumption | exact nv_a (by assumption) (by assumption) (by decide) | exact nv_b (by assumption) (by assumption) (by decide) | exact nv_c (by assumption) (by assumption) (by decide))) (by assumption) (fun _ _ => ?_))
    | (with_reducible refine oKv_cI hE (by decide) (by assumption) (fun _ _ => ?_))
    | (with_reducible refine oKv_cJ hE (by decide) (by assumption) (fun _ _ => ?_))
    | (with_reducible refine oKv_cV hE (by decide) (by assumption) (fun _ _ => ?_))
    | (with_reducible refine oKv_cS hE (by decide) (by (first | assumption | exact nv_a (by assumption) (by assumption) (by decide) | exact nv_b (by assumption) (by assumption) (by decide) | exact nv_c (by assumption) (by assumption) (by decide))) (by assumption) (fun _ _ => ?_))
    | (with_reducible refine oKv_44 (by assumption) (fun _ _ => ?_))
    | (with_reducible refine oKv_rd (fun _ => ?_)))
theorem zv_339_53 (hE : fEv E) (i1 : Int32) (i2 : Int32) (s : rS) (z : vFs Sz s) : oKv Sz (s339_53 E w i1 i2 s) := by
  unfold s339_53
  repeat' (first
    | with_reducible exact oKv_rI (by assumption)
    | with_reducible exact oKv_so (by assumption)
    | exact oKv_none
    | with_reducible exact zv_339_69 hE _ _ _ _ (by assumption)
    | with_reducible refine oKv_if (fun _ => ?_) (fun _ => ?_)
    | (with_reducible refine oKv_pI (by assumption) (fun _ _ => ?_))
    | (with_reducible refine oKv_sI (by decide) (by assumption) (fun _ _ => ?_))
    | (with_reducible refine oKv_sB (by decide) (by assumption) (fun _ _ => ?_))
    | (with_reducible refine oKv_sJ (by assumption) (fun _ _ => ?_))
    | (with_reducible refine oKv_53 (by (first | assumption | exact nv_a (by assumption) (by assumption) (by decide) | exact nv_b (by assumption) (by assumption) (by decide) | exact nv_c (by assumption) (by assumption) (by decide))) (by assumption) (fun _ _ => ?_))
    | (with_reducible refine oKv_cI hE (by decide) (by assumption) (fun _ _ => ?_))
    | (with_reducible refine oKv_cJ hE (by decide) (by assumption) (fun _ _ => ?_))
    | (with_reducible refine oKv_cV hE (by decide) (by assumption) (fun _ _ => ?_))
    | (with_reducible refine oKv_cS hE (by decide) (by (first | assumption | exact nv_a (by assumption) (by assumption) (by decide) | exact nv_b (by assumption) (by assumption) (by decide) | exact nv_c (by assumption) (by assumption) (by decide))) (by assumption) (fun _ _ => ?_))
    | (with_reducible refine oKv_44 (by assumption) (fun _ _ => ?_))
    | (with_reducible refine oKv_rd (fun _ => ?_)))
theorem zv_339_2 (hE : fEv E) : ∀ (n : Nat) (b0 : Int32) (b1 : Int32) (s : rS), vFs Sz s → oKv Sz (s339_2 E w n b0 b1 s)
  | 0, _, _, _, _ => fun r s' e => by
    have e : (none : Option rA) = some (r, s') := e
    cases e
  | n + 1, b0, b1, s, z => by
    have ih := zv_339_2 hE n
    unfold s339_2
    repeat' (first
      | with_reducible exact oKv_rI (by assumption)
      | with_reducible exact oKv_so (by assumption)
      | exact oKv_none
      | with_reducible exact zv_339_39 hE ih _ _ _ (by assumption)
      | with_reducible exact zv_339_44 hE ih _ _ _ (by assumption)
      | with_reducible exact zv_339_53 hE _ _ _ (by assumption)
      | with_reducible exact ih _ _ _ (by assumption)
      | with_reducible refine oKv_if (fun _ => ?_) (fun _ => ?_)
      | (with_reducible refine oKv_pI (by assumption) (fun _ _ => ?_))
      | (with_reducible refine oKv_sI (by decide) (by assumption) (fun _ _ => ?_))
      | (with_reducible refine oKv_sB (by decide) (by assumption) (fun _ _ => ?_))
      | (with_reducible refine oKv_sJ (by assumption) (fun _ _ => ?_))
      | (with_reducible refine oKv_53 (by (first | assumption | exact nv_a (by assumption) (by assumption) (by decide) | exact nv_b (by assumption) (by assumption) (by decide) | exact nv_c (by assumption) (by assumption) (by decide))) (by assumption) (fun _ _ => ?_))
      | (with_reducible refine oKv_cI hE (by decide) (by assumption) (fun _ _ => ?_))
      | (with_reducible refine oKv_cJ hE (by decide) (by assumption) (fun _ _ => ?_))
      | (with_reducible refine oKv_cV hE (by decide) (by assumption) (fun _ _ => ?_))
      | (with_reducible refine oKv_cS hE (by decide) (by (first | assumption | exact nv_a (by assumption) (by assumption) (by decide) | exact nv_b (by assumption) (by assumption) (by decide) | exact nv_c (by assumption) (by assumption) (by decide))) (by assumption) (fun _ _ => ?_))
      | (with_reducible refine oKv_44 (by assumption) (fun _ _ => ?_))
      | (with_reducible refine oKv_rd (fun _ => ?_)))
theorem zv_339_0 (hE : fEv E) (i1 : Int32) (s : rS) (z : vFs Sz s) : oKv Sz (s339_0 E w i1 s) := by
  unfold s339_0
  repeat' (first
    | with_reducible exact oKv_rI (by assumption)
    | with_reducible exact oKv_so (by assumption)
    | exact oKv_none
    | with_reducible exact zv_339_2 hE _ _ _ _ (by assumption)
    | with_reducible refine oKv_if (fun _ => ?_) (fun _ => ?_)
    | (with_reducible refine oKv_pI (by assumption) (fun _ _ => ?_))
    | (with_reducible refine oKv_sI (by decide) (by assumption) (fun _ _ => ?_))
    | (with_reducible refine oKv_sB (by decide) (by assumption) (fun _ _ => ?_))
    | (with_reducible refine oKv_sJ (by assumption) (fun _ _ => ?_))
    | (with_reducible refine oKv_53 (by (first | assumption | exact nv_a (by assumption) (by assumption) (by decide) | exact nv_b (by assumption) (by assumption) (by decide) | exact nv_c (by assumption) (by assumption) (by decide))) (by assumption) (fun _ _ => ?_))
    | (with_reducible refine oKv_cI hE (by decide) (by assumption) (fun _ _ => ?_))
    | (with_reducible refine oKv_cJ hE (by decide) (by assumption) (fun _ _ => ?_))
    | (with_reducible refine oKv_cV hE (by decide) (by assumption) (fun _ _ => ?_))
    | (with_reducible refine oKv_cS hE (by decide) (by (first | assumption | exact nv_a (by assumption) (by assumption) (by decide) | exact nv_b (by assumption) (by assumption) (by decide) | exact nv_c (by assumption) (by assumption) (by decide))) (by assumption) (fun _ _ => ?_))
    | (with_reducible refine oKv_44 (by assumption) (fun _ _ => ?_))
    | (with_reducible refine oKv_rd (fun _ => ?_)))
theorem zv_340_27 (hE : fEv E) (s0 : Int32) (s : rS) (z : vFs Sz s) : oKv Sz (s340_27 E w s0 s) := by
  unfold s340_27
  repeat' (first
    | with_reducible exact oKv_rI (by assumption)
    | with_reducible exact oKv_so (by assumption)
    | exact oKv_none
    | with_reducible refine oKv_if (fun _ => ?_) (fun _ => ?_)
    | (with_reducible refine oKv_pI (by assumption) (fun _ _ => ?_))
    | (with_reducible refine oKv_sI (by decide) (by assumption) (fun _ _ => ?_))
    | (with_reducible refine oKv_sB (by decide) (by assumption) (fun _ _ => ?_))
    | (with_reducible refine oKv_sJ (by assumption) (fun _ _ => ?_))
    | (with_reducible refine oKv_53 (by (first | assumption | exact nv_a (by assumption) (by assumption) (by decide) | exact nv_b (by assumption) (by assumption) (by decide) | exact nv_c (by assumption) (by assumption) (by decide))) (by assumption) (fun _ _ => ?_))
    | (with_reducible refine oKv_cI hE (by decide) (by assumption) (fun _ _ => ?_))
    | (with_reducible refine oKv_cJ hE (by decide) (by assumption) (fun _ _ => ?_))
    | (with_reducible refine oKv_cV hE (by decide) (by assumption) (fun _ _ => ?_))
    | (with_reducible refine oKv_cS hE (by decide) (by (first | assumption | exact nv_a (by assumption) (by assumption) (by decide) | exact nv_b (by assumption) (by assumption) (by decide) | exact nv_c (by assumption) (by assumption) (by decide))) (by assumption) (fun _ _ => ?_))
    | (with_reducible refine oKv_44 (by assumption) (fun _ _ => ?_))
    | (with_reducible refine oKv_rd (fun _ => ?_)))
theorem zv_340_26 (hE : fEv E) (s : rS) (z : vFs Sz s) : oKv Sz (s340_26 E w s) := by
  unfold s340_26
  repeat' (first
    | with_reducible exact oKv_rI (by assumption)
    | with_reducible exact oKv_so (by assumption)
    | exact oKv_none
    | with_reducible exact zv_340_27 hE _ _ (by assumption)
    | with_reducible refine oKv_if (fun _ => ?_) (fun _ => ?_)
    | (with_reducible refine oKv_pI (by assumption) (fun _ _ => ?_))
    | (with_reducible refine oKv_sI (by decide) (by assumption) (fun _ _ => ?_))
    | (with_reducible refine oKv_sB (by decide) (by assumption) (fun _ _ => ?_))
    | (with_reducible refine oKv_sJ (by assumption) (fun _ _ => ?_))
    | (with_reducible refine oKv_53 (by (first | assumption | exact nv_a (by assumption) (by assumption) (by decide) | exact nv_b (by assumption) (by assumption) (by decide) | exact nv_c (by assumption) (by assumption) (by decide))) (by assumption) (fun _ _ => ?_))
    | (with_reducible refine oKv_cI hE (by decide) (by assumption) (fun _ _ => ?_))
    | (with_reducible refine oKv_cJ hE (by decide) (by assumption) (fun _ _ => ?_))
    | (with_reducible refine oKv_cV hE (by decide) (by assumption) (fun _ _ => ?_))
    | (with_reducible refine oKv_cS hE (by decide) (by (first | assumption | exact nv_a (by assumption) (by assumption) (by decide) | exact nv_b (by assumption) (by assumption) (by decide) | exact nv_c (by assumption) (by assumption) (by decide))) (by assumption) (fun _ _ => ?_))
    | (with_reducible refine oKv_44 (by assumption) (fun _ _ => ?_))
    | (with_reducible refine oKv_rd (fun _ => ?_)))
theorem zv_340_0 (hE : fEv E) (i1 : Int32) (s : rS) (z : vFs Sz s) : oKv Sz (s340_0 E w i1 s) := by
  unfold s340_0
  repeat' (first
    | with_reducible exact oKv_rI (by assumption)
    | with_reducible exact oKv_so (by assumption)
    | exact oKv_none
    | with_reducible exact zv_340_26 hE _ (by assumption)
    | with_reducible exact zv_340_27 hE _ _ (by assumption)
    | with_reducible refine oKv_if (fun _ => ?_) (fun _ => ?_)
    | (with_reducible refine oKv_pI (by assumption) (fun _ _ => ?_))
    | (with_reducible refine oKv_sI (by decide) (by assumption) (fun _ _ => ?_))
    | (with_reducible refine oKv_sB (by decide) (by assumption) (fun _ _ => ?_))
    | (with_reducible refine oKv_sJ (by assumption) (fun _ _ => ?_))
    | (with_reducible refine oKv_53 (by (first | assumption | exact nv_a (by assumption) (by assumption) (by decide) | exact nv_b (by assumption) (by assumption) (by decide) | exact nv_c (by assumption) (by assumption) (by decide))) (by assumption) (fun _ _ => ?_))
    | (with_reducible refine oKv_cI hE (by decide) (by assumption) (fun _ _ => ?_))
    | (with_reducible refine oKv_cJ hE (by decide) (by assumption) (fun _ _ => ?_))
    | (with_reducible refine oKv_cV hE (by decide) (by assumption) (fun _ _ => ?_))
    | (with_reducible refine oKv_cS hE (by decide) (by (first | assumption | exact nv_a (by assumption) (by assumption) (by decide) | exact nv_b (by assumption) (by assumption) (by decide) | exact nv_c (by assumption) (by assumption) (by decide))) (by assumption) (fun _ _ => ?_))
    | (with_reducible refine oKv_44 (by assumption) (fun _ _ => ?_))
    | (with_reducible refine oKv_rd (fun _ => ?_)))
theorem zv_341_39 (hE : fEv E) (s : rS) (z : vFs Sz s) : oKv Sz (s341_39 E w s) := by
  unfold s341_39
  repeat' (first
    | with_reducible exact oKv_rI (by assumption)
    | with_reducible exact oKv_so (by assumption)
    | exact oKv_none
    | with_reducible refine oKv_if (fun _ => ?_) (fun _ => ?_)
    | (with_reducible refine oKv_pI (by assumption) (fun _ _ => ?_))
    | (with_reducible refine oKv_sI (by decide) (by assumption) (fun _ _ => ?_))
    | (with_reducible refine oKv_sB (by decide) (by assumption) (fun _ _ => ?_))
    | (with_reducible refine oKv_sJ (by assumption) (fun _ _ => ?_))
    | (with_reducible refine oKv_53 (by (first | assumption | exact nv_a (by assumption) (by assumption) (by decide) | exact nv_b (by assumption) (by assumption) (by decide) | exact nv_c (by assumption) (by assumption) (by decide))) (by assumption) (fun _ _ => ?_))
    | (with_reducible refine oKv_cI hE (by decide) (by assumption) (fun _ _ => ?_))
    | (with_reducible refine oKv_cJ hE (by decide) (by assumption) (fun _ _ => ?_))
    | (with_reducible refine oKv_cV hE (by decide) (by assumption) (fun _ _ => ?_))
    | (with_reducible refine oKv_cS hE (by decide) (by (first | assumption | exact nv_a (by assumption) (by assumption) (by decide) | exact nv_b (by assumption) (by assumption) (by decide) | exact nv_c (by assumption) (by assumption) (by decide))) (by assumption) (fun _ _ => ?_))
    | (with_reducible refine oKv_44 (by assumption) (fun _ _ => ?_))
    | (with_reducible refine oKv_rd (fun _ => ?_)))
theorem zv_341_7 (hE : fEv E) : ∀ (n : Nat) (b0 : Int32) (s : rS), vFs Sz s → oKv Sz (s341_7 E w n b0 s)
  | 0, _, _, _ => fun r s' e => by
    have e : (none : Option rA) = some (r, s') := e
    cases e
  | n + 1, b0, s, z => by
    have ih := zv_341_7 hE n
    unfold s341_7
    repeat' (first
      | with_reducible exact oKv_rI (by assumption)
      | with_reducible exact oKv_so (by assumption)
      | exact oKv_none
      | with_reducible exact zv_341_39 hE _ (by assumption)
      | with_reducible exact ih _ _ (by assumption)
      | with_reducible refine oKv_if (fun _ => ?_) (fun _ => ?_)
      | (with_reducible refine oKv_pI (by assumption) (fun _ _ => ?_))
      | (with_reducible refine oKv_sI (by decide) (by assumption) (fun _ _ => ?_))
      | (with_reducible refine oKv_sB (by decide) (by assumption) (fun _ _ => ?_))
      | (with_reducible refine oKv_sJ (by assumption) (fun _ _ => ?_))
      | (with_reducible refine oKv_53 (by (first | assumption | exact nv_a (by assumption) (by assumption) (by decide) | exact nv_b (by assumption) (by assumption) (by decide) | exact nv_c (by assumption) (by assumption) (by decide))) (by assumption) (fun _ _ => ?_))
      | (with_reducible refine oKv_cI hE (by decide) (by assumption) (fun _ _ => ?_))
      | (with_reducible refine oKv_cJ hE (by decide) (by assumption) (fun _ _ => ?_))
      | (with_reducible refine oKv_cV hE (by decide) (by assumption) (fun _ _ => ?_))
      | (with_reducible refine oKv_cS hE (by decide) (by (first | assumption | exact nv_a (by assumption) (by assumption) (by decide) | exact nv_b (by assumption) (by assumption) (by decide) | exact nv_c (by assumption) (by assumption) (by decide))) (by assumption) (fun _ _ => ?_))
      | (with_reducible refine oKv_44 (by assumption) (fun _ _ => ?_))
      | (with_reducible refine oKv_rd (fun _ => ?_)))
theorem zv_341_0 (hE : fEv E) (i1 : Int32) (s : rS) (z : vFs Sz s) : oKv Sz (s341_0 E w i1 s) := by
  unfold s341_0
  repeat' (first
    | with_reducible exact oKv_rI (by assumption)
    | with_reducible exact oKv_so (by assumption)
    | exact oKv_none
    | with_reducible exact zv_341_7 hE _ _ _ (by assumption)
    | with_reducible refine oKv_if (fun _ => ?_) (fun _ => ?_)
    | (with_reducible refine oKv_pI (by assumption) (fun _ _ => ?_))
    | (with_reducible refine oKv_sI (by decide) (by assumption) (fun _ _ => ?_))
    | (with_reducible refine oKv_sB (by decide) (by assumption) (fun _ _ => ?_))
    | (with_reducible refine oKv_sJ (by assumption) (fun _ _ => ?_))
    | (with_reducible refine oKv_53 (by (first | assumption | exact nv_a (by assumption) (by assumption) (by decide) | exact nv_b (by assumption) (by assumption) (by decide) | exact nv_c (by assumption) (by assumption) (by decide))) (by assumption) (fun _ _ => ?_))
    | (with_reducible refine oKv_cI hE (by decide) (by assumption) (fun _ _ => ?_))
    | (with_reducible refine oKv_cJ hE (by decide) (by assumption) (fun _ _ => ?_))
    | (with_reducible refine oKv_cV hE (by decide) (by assumption) (fun _ _ => ?_))
    | (with_reducible refine oKv_cS hE (by decide) (by (first | assumption | exact nv_a (by assumption) (by assumption) (by decide) | exact nv_b (by assumption) (by assumption) (by decide) | exact nv_c (by assumption) (by assumption) (by decide))) (by assumption) (fun _ _ => ?_))
    | (with_reducible refine oKv_44 (by assumption) (fun _ _ => ?_))
    | (with_reducible refine oKv_rd (fun _ => ?_)))
theorem zv_342_37 (hE : fEv E) (s0 : Int32) (s : rS) (z : vFs Sz s) : oKv Sz (s342_37 E w s0 s) := by
  unfold s342_37
  repeat' (first
    | with_reducible exact oKv_rI (by assumption)
    | with_reducible exact oKv_so (by assumption)
    | exact oKv_none
    | with_reducible refine oKv_if (fun _ => ?_) (fun _ => ?_)
    | (with_reducible refine oKv_pI (by assumption) (fun _ _ => ?_))
    | (with_reducible refine oKv_sI (by decide) (by assumption) (fun _ _ => ?_))
    | (with_reducible refine oKv_sB (by decide) (by assumption) (fun _ _ => ?_))
    | (with_reducible refine oKv_sJ (by assumption) (fun _ _ => ?_))
    | (with_reducible refine oKv_53 (by (first | assumption | exact nv_a (by assumption) (by assumption) (by decide) | exact nv_b (by assumption) (by assumption) (by decide) | exact nv_c (by assumption) (by assumption) (by decide))) (by assumption) (fun _ _ => ?_))
    | (with_reducible refine oKv_cI hE (by decide) (by assumption) (fun _ _ => ?_))
    | (with_reducible refine oKv_cJ hE (by decide) (by assumption) (fun _ _ => ?_))
    | (with_reducible refine oKv_cV hE (by decide) (by assumption) (fun _ _ => ?_))
    | (with_reducible refine oKv_cS hE (by decide) (by (first | assumption | exact nv_a (by assumption) (by assumption) (by decide) | exact nv_b (by assumption) (by assumption) (by decide) | exact nv_c (by assumption) (by assumption) (by decide))) (by assumption) (fun _ _ => ?_))
    | (with_reducible refine oKv_44 (by assumption) (fun _ _ => ?_))
    | (with_reducible refine oKv_rd (fun _ => ?_)))
theorem zv_342_22 (hE : fEv E) (i1 : Int32) (s : rS) (z : vFs Sz s) : oKv Sz (s342_22 E w i1 s) := by
  unfold s342_22
  repeat' (first
    | with_reducible exact oKv_rI (by assumption)
    | with_reducible exact oKv_so (by assumption)
    | exact oKv_none
    | with_reducible exact zv_342_37 hE _ _ (by assumption)
    | with_reducible refine oKv_if (fun _ => ?_) (fun _ => ?_)
    | (with_reducible refine oKv_pI (by assumption) (fun _ _ => ?_))
    | (with_reducible refine oKv_sI (by decide) (by assumption) (fun _ _ => ?_))
    | (with_reducible refine oKv_sB (by decide) (by assumption) (fun _ _ => ?_))
    | (with_reducible refine oKv_sJ (by assumption) (fun _ _ => ?_))
    | (with_reducible refine oKv_53 (by (first | assumption | exact nv_a (by assumption) (by assumption) (by decide) | exact nv_b (by assumption) (by assumption) (by decide) | exact nv_c (by assumption) (by assumption) (by decide))) (by assumption) (fun _ _ => ?_))
    | (with_reducible refine oKv_cI hE (by decide) (by assumption) (fun _ _ => ?_))
    | (with_reducible refine oKv_cJ hE (by decide) (by assumption) (fun _ _ => ?_))
    | (with_reducible refine oKv_cV hE (by decide) (by assumption) (fun _ _ => ?_))
    | (with_reducible refine oKv_cS hE (by decide) (by (first | assumption | exact nv_a (by assumption) (by assumption) (by decide) | exact nv_b (by assumption) (by assumption) (by decide) | exact nv_c (by assumption) (by assumption) (by decide))) (by assumption) (fun _ _ => ?_))
    | (with_reducible refine oKv_44 (by assumption) (fun _ _ => ?_))
    | (with_reducible refine oKv_rd (fun _ => ?_)))
theorem zv_342_0 (hE : fEv E) (i1 : Int32) (s : rS) (z : vFs Sz s) : oKv Sz (s342_0 E w i1 s) := by
  unfold s342_0
  repeat' (first
    | with_reducible exact oKv_rI (by assumption)
    | with_reducible exact oKv_so (by assumption)
    | exact oKv_none
    | with_reducible exact zv_342_22 hE _ _ (by assumption)
    | with_reducible exact zv_342_37 hE _ _ (by assumption)
    | with_reducible refine oKv_if (fun _ => ?_) (fun _ => ?_)
    | (with_reducible refine oKv_pI (by assumption) (fun _ _ => ?_))
    | (with_reducible refine oKv_sI (by decide) (by assumption) (fun _ _ => ?_))
    | (with_reducible refine oKv_sB (by decide) (by assumption) (fun _ _ => ?_))
    | (with_reducible refine oKv_sJ (by assumption) (fun _ _ => ?_))
    | (with_reducible refine oKv_53 (by (first | assumption | exact nv_a (by assumption) (by assumption) (by decide) | exact nv_b (by assumption) (by assumption) (by decide) | exact nv_c (by assumption) (by assumption) (by decide))) (by assumption) (fun _ _ => ?_))
    | (with_reducible refine oKv_cI hE (by decide) (by assumption) (fun _ _ => ?_))
    | (with_reducible refine oKv_cJ hE (by decide) (by assumption) (fun _ _ => ?_))
    | (with_reducible refine oKv_cV hE (by decide) (by assumption) (fun _ _ => ?_))
    | (with_reducible refine oKv_cS hE (by decide) (by (first | assumption | exact nv_a (by assumption) (by assumption) (by decide) | exact nv_b (by assumption) (by assumption) (by decide) | exact nv_c (by assumption) (by assumption) (by decide))) (by assumption) (fun _ _ => ?_))
    | (with_reducible refine oKv_44 (by assumption) (fun _ _ => ?_))
    | (with_reducible refine oKv_rd (fun _ => ?_)))
theorem zv_343_129 (hE : fEv E) (s : rS) (z : vFs Sz s) : oKv Sz (s343_129 E w s) := by
  unfold s343_129
  repeat' (first
    | with_reducible exact oKv_rI (by assumption)
    | with_reducible exact oKv_so (by assumption)
    | exact oKv_none
    | with_reducible refine oKv_if (fun _ => ?_) (fun _ => ?_)
    | (with_reducible refine oKv_pI (by assumption) (fun _ _ => ?_))
    | (with_reducible refine oKv_sI (by decide) (by assumption) (fun _ _ => ?_))
    | (with_reducible refine oKv_sB (by decide) (by assumption) (fun _ _ => ?_))
    | (with_reducible refine oKv_sJ (by assumption) (fun _ _ => ?_))
    | (with_reducible refine oKv_53 (by (first | assumption | exact nv_a (by assumption) (by assumption) (by decide) | exact nv_b (by assumption) (by assumption) (by decide) | exact nv_c (by assumption) (by assumption) (by decide))) (by assumption) (fun _ _ => ?_))
    | (with_reducible refine oKv_cI hE (by decide) (by assumption) (fun _ _ => ?_))
    | (with_reducible refine oKv_cJ hE (by decide) (by assumption) (fun _ _ => ?_))
    | (with_reducible refine oKv_cV hE (by decide) (by assumption) (fun _ _ => ?_))
    | (with_reducible refine oKv_cS hE (by decide) (by (first | assumption | exact nv_a (by assumption) (by assumption) (by decide) | exact nv_b (by assumption) (by assumption) (by decide) | exact nv_c (by assumption) (by assumption) (by decide))) (by assumption) (fun _ _ => ?_))
    | (with_reducible refine oKv_44 (by assumption) (fun _ _ => ?_))
    | (with_reducible refine oKv_rd (fun _ => ?_)))
theorem zv_343_0 (hE : fEv E) (i1 : Int32) (s : rS) (z : vFs Sz s) : oKv Sz (s343_0 E w i1 s) := by
  unfold s343_0
  repeat' (first
    | with_reducible exact oKv_rI (by assumption)
    | with_reducible exact oKv_so (by assumption)
    | exact oKv_none
    | with_reducible exact zv_343_129 hE _ (by assumption)
    | with_reducible refine oKv_if (fun _ => ?_) (fun _ => ?_)
    | (with_reducible refine oKv_pI (by assumption) (fun _ _ => ?_))
    | (with_reducible refine oKv_sI (by decide) (by assumption) (fun _ _ => ?_))
    | (with_reducible refine oKv_sB (by decide) (by assumption) (fun _ _ => ?_))
    | (with_reducible refine oKv_sJ (by assumption) (fun _ _ => ?_))
    | (with_reducible refine oKv_53 (by (first | assumption | exact nv_a (by assumption) (by assumption) (by decide) | exact nv_b (by assumption) (by assumption) (by decide) | exact nv_c (by assumption) (by assumption) (by decide))) (by assumption) (fun _ _ => ?_))
    | (with_reducible refine oKv_cI hE (by decide) (by assumption) (fun _ _ => ?_))
    | (with_reducible refine oKv_cJ hE (by decide) (by assumption) (fun _ _ => ?_))
    | (with_reducible refine oKv_cV hE (by decide) (by assumption) (fun _ _ => ?_))
    | (with_reducible refine oKv_cS hE (by decide) (by (first | assumption | exact nv_a (by assumption) (by assumption) (by decide) | exact nv_b (by assumption) (by assumption) (by decide) | exact nv_c (by assumption) (by assumption) (by decide))) (by assumption) (fun _ _ => ?_))
    | (with_reducible refine oKv_44 (by assumption) (fun _ _ => ?_))
    | (with_reducible refine oKv_rd (fun _ => ?_)))
theorem zv_344_0 (hE : fEv E) (i1 : Int32) (s : rS) (z : vFs Sz s) : oKv Sz (s344_0 E w i1 s) := by
  unfold s344_0
  repeat' (first
    | with_reducible exact oKv_rI (by assumption)
    | with_reducible exact oKv_so (by assumption)
    | exact oKv_none
    | with_reducible refine oKv_if (fun _ => ?_) (fun _ => ?_)
    | (with_reducible refine oKv_pI (by assumption) (fun _ _ => ?_))
    | (with_reducible refine oKv_sI (by decide) (by assumption) (fun _ _ => ?_))
    | (with_reducible refine oKv_sB (by decide) (by assumption) (fun _ _ => ?_))
    | (with_reducible refine oKv_sJ (by assumption) (fun _ _ => ?_))
    | (with_reducible refine oKv_53 (by (first | assumption | exact nv_a (by assumption) (by assumption) (by decide) | exact nv_b (by assumption) (by assumption) (by decide) | exact nv_c (by assumption) (by assumption) (by decide))) (by assumption) (fun _ _ => ?_))
    | (with_reducible refine oKv_cI hE (by decide) (by assumption) (fun _ _ => ?_))
    | (with_reducible refine oKv_cJ hE (by decide) (by assumption) (fun _ _ => ?_))
    | (with_reducible refine oKv_cV hE (by decide) (by assumption) (fun _ _ => ?_))
    | (with_reducible refine oKv_cS hE (by decide) (by (first | assumption | exact nv_a (by assumption) (by assumption) (by decide) | exact nv_b (by assumption) (by assumption) (by decide) | exact nv_c (by assumption) (by assumption) (by decide))) (by assumption) (fun _ _ => ?_))
    | (with_reducible refine oKv_44 (by assumption) (fun _ _ => ?_))
    | (with_reducible refine oKv_rd (fun _ => ?_)))
theorem zv_345_105 (hE : fEv E) (i2 : Int32) (i4 : Int32) (s : rS) (z : vFs Sz s) : oKv Sz (s345_105 E w i2 i4 s) := by
  unfold s345_105
  repeat' (first
    | with_reducible exact oKv_rI (by assumption)
    | with_reducible exact oKv_so (by assumption)
    | exact oKv_none
    | with_reducible refine oKv_if (fun _ => ?_) (fun _ => ?_)
    | (with_reducible refine oKv_pI (by assumption) (fun _ _ => ?_))
    | (with_reducible refine oKv_sI (by decide) (by assumption) (fun _ _ => ?_))
    | (with_reducible refine oKv_sB (by decide) (by assumption) (fun _ _ => ?_))
    | (with_reducible refine oKv_sJ (by assumption) (fun _ _ => ?_))
    | (with_reducible refine oKv_53 (by (first | assumption | exact nv_a (by assumption) (by assumption) (by decide) | exact nv_b (by assumption) (by assumption) (by decide) | exact nv_c (by assumption) (by assumption) (by decide))) (by assumption) (fun _ _ => ?_))
    | (with_reducible refine oKv_cI hE (by decide) (by assumption) (fun _ _ => ?_))
    | (with_reducible refine oKv_cJ hE (by decide) (by assumption) (fun _ _ => ?_))
    | (with_reducible refine oKv_cV hE (by decide) (by assumption) (fun _ _ => ?_))
    | (with_reducible refine oKv_cS hE (by decide) (by (first | assumption | exact nv_a (by assumption) (by assumption) (by decide) | exact nv_b (by assumption) (by assumption) (by decide) | exact nv_c (by assumption) (by assumption) (by decide))) (by assumption) (fun _ _ => ?_))
    | (with_reducible refine oKv_44 (by assumption) (fun _ _ => ?_))
    | (with_reducible refine oKv_rd (fun _ => ?_)))
theorem zv_345_66 (hE : fEv E) (i1 : Int32) (i2 : Int32) (i3 : Int32) (i4 : Int32) (s0 : Int32) (s : rS) (z : vFs Sz s) : oKv Sz (s345_66 E w i1 i2 i3 i4 s0 s) := by
  unfold s345_66
  repeat' (first
    | with_reducible exact oKv_rI (by assumption)
    | with_reducible exact oKv_so (by assumption)
    | exact oKv_none
    | with_reducible exact zv_345_105 hE _ _ _ (by assumption)
    | with_reducible refine oKv_if (fun _ => ?_) (fun _ => ?_)
    | (with_reducible refine oKv_pI (by assumption) (fun _ _ => ?_))
    | (with_reducible refine oKv_sI (by decide) (by assumption) (fun _ _ => ?_))
    | (with_reducible refine oKv_sB (by decide) (by assumption) (fun _ _ => ?_))
    | (with_reducible refine oKv_sJ (by assumption) (fun _ _ => ?_))
    | (with_reducible refine oKv_53 (by (first | assumption | exact nv_a (by assumption) (by assumption) (by decide) | exact nv_b (by assumption) (by assumption) (by decide) | exact nv_c (by assumption) (by assumption) (by decide))) (by assumption) (fun _ _ => ?_))
    | (with_reducible refine oKv_cI hE (by decide) (by assumption) (fun _ _ => ?_))
    | (with_reducible refine oKv_cJ hE (by decide) (by assumption) (fun _ _ => ?_))
    | (with_reducible refine oKv_cV hE (by decide) (by assumption) (fun _ _ => ?_))
    | (with_reducible refine oKv_cS hE (by decide) (by (first | assumption | exact nv_a (by assumption) (by assumption) (by decide) | exact nv_b (by assumption) (by assumption) (by decide) | exact nv_c (by assumption) (by assumption) (by decide))) (by assumption) (fun _ _ => ?_))
    | (with_reducible refine oKv_44 (by assumption) (fun _ _ => ?_))
    | (with_reducible refine oKv_rd (fun _ => ?_)))
theorem zv_345_65 (hE : fEv E) (i1 : Int32) (i2 : Int32) (i3 : Int32) (i4 : Int32) (s : rS) (z : vFs Sz s) : oKv Sz (s345_65 E w i1 i2 i3 i4 s) := by
  unfold s345_65
  repeat' (first
    | with_reducible exact oKv_rI (by assumption)
    | with_reducible exact oKv_so (by assumption)
    | exact oKv_none
    | with_reducible exact zv_345_66 hE _ _ _ _ _ _ (by assumption)
    | with_reducible refine oKv_if (fun _ => ?_) (fun _ => ?_)
    | (with_reducible refine oKv_pI (by assumption) (fun _ _ => ?_))
    | (with_reducible refine oKv_sI (by decide) (by assumption) (fun _ _ => ?_))
    | (with_reducible refine oKv_sB (by decide) (by assumption) (fun _ _ => ?_))
    | (with_reducible refine oKv_sJ (by assumption) (fun _ _ => ?_))
    | (with_reducible refine oKv_53 (by (first | assumption | exact nv_a (by assumption) (by assumption) (by decide) | exact nv_b (by assumption) (by assumption) (by decide) | exact nv_c (by assumption) (by assumption) (by decide))) (by assumption) (fun _ _ => ?_))
    | (with_reducible refine oKv_cI hE (by decide) (by assumption) (fun _ _ => ?_))
    | (with_reducible refine oKv_cJ hE (by decide) (by assumption) (fun _ _ => ?_))
    | (with_reducible refine oKv_cV hE (by decide) (by assumption) (fun _ _ => ?_))
    | (with_reducible refine oKv_cS hE (by decide) (by (first | assumption | exact nv_a (by assumption) (by assumption) (by decide) | exact nv_b (by assumption) (by assumption) (by decide) | exact nv_c (by assumption) (by assumption) (by decide))) (by assumption) (fun _ _ => ?_))
    | (with_reducible refine oKv_44 (by assumption) (fun _ _ => ?_))
    | (with_reducible refine oKv_rd (fun _ => ?_)))
theorem zv_345_42 (hE : fEv E) (i1 : Int32) (i2 : Int32) (i3 : Int32) (s0 : Int32) (s : rS) (z : vFs Sz s) : oKv Sz (s345_42 E w i1 i2 i3 s0 s) := by
  unfold s345_42
  repeat' (first
    | with_reducible exact oKv_rI (by assumption)
    | with_reducible exact oKv_so (by assumption)
    | exact oKv_none
    | with_reducible exact zv_345_65 hE _ _ _ _ _ (by assumption)
    | with_reducible exact zv_345_66 hE _ _ _ _ _ _ (by assumption)
    | with_reducible refine oKv_if (fun _ => ?_) (fun _ => ?_)
    | (with_reducible refine oKv_pI (by assumption) (fun _ _ => ?_))
    | (with_reducible refine oKv_sI (by decide) (by assumption) (fun _ _ => ?_))
    | (with_reducible refine oKv_sB (by decide) (by assumption) (fun _ _ => ?_))
    | (with_reducible refine oKv_sJ (by assumption) (fun _ _ => ?_))
    | (with_reducible refine oKv_53 (by (first | assumption | exact nv_a (by assumption) (by assumption) (by decide) | exact nv_b (by assumption) (by assumption) (by decide) | exact nv_c (by assumption) (by assumption) (by decide))) (by assumption) (fun _ _ => ?_))
    | (with_reducible refine oKv_cI hE (by decide) (by assumption) (fun _ _ => ?_))
    | (with_reducible refine oKv_cJ hE (by decide) (by assumption) (fun _ _ => ?_))
    | (with_reducible refine oKv_cV hE (by decide) (by assumption) (fun _ _ => ?_))
    | (with_reducible refine oKv_cS hE (by decide) (by (first | assumption | exact nv_a (by assumption) (by assumption) (by decide) | exact nv_b (by assumption) (by assumption) (by decide) | exact nv_c (by assumption) (by assumption) (by decide))) (by assumption) (fun _ _ => ?_))
    | (with_reducible refine oKv_44 (by assumption) (fun _ _ => ?_))
    | (with_reducible refine oKv_rd (fun _ => ?_)))
theorem zv_345_0 (hE : fEv E) (i1 : Int32) (s : rS) (z : vFs Sz s) : oKv Sz (s345_0 E w i1 s) := by
  unfold s345_0
  repeat' (first
    | with_reducible exact oKv_rI (by assumption)
    | with_reducible exact oKv_so (by assumption)
    | exact oKv_none
    | with_reducible exact zv_345_42 hE _ _ _ _ _ (by assumption)
    | with_reducible refine oKv_if (fun _ => ?_) (fun _ => ?_)
    | (with_reducible refine oKv_pI (by assumption) (fun _ _ => ?_))
    | (with_reducible refine oKv_sI (by decide) (by assumption) (fun _ _ => ?_))
    | (with_reducible refine oKv_sB (by decide) (by assumption) (fun _ _ => ?_))
    | (with_reducible refine oKv_sJ (by assumption) (fun _ _ => ?_))
    | (with_reducible refine oKv_53 (by (first | assumption | exact nv_a (by assumption) (by assumption) (by decide) | exact nv_b (by assumption) (by assumption) (by decide) | exact nv_c (by assumption) (by assumption) (by decide))) (by assumption) (fun _ _ => ?_))
    | (with_reducible refine oKv_cI hE (by decide) (by assumption) (fun _ _ => ?_))
    | (with_reducible refine oKv_cJ hE (by decide) (by assumption) (fun _ _ => ?_))
    | (with_reducible refine oKv_cV hE (by decide) (by assumption) (fun _ _ => ?_))
    | (with_reducible refine oKv_cS hE (by decide) (by (first | assumption | exact nv_a (by assumption) (by assumption) (by decide) | exact nv_b (by assumption) (by assumption) (by decide) | exact nv_c (by assumption) (by assumption) (by decide))) (by assumption) (fun _ _ => ?_))
    | (with_reducible refine oKv_44 (by assumption) (fun _ _ => ?_))
    | (with_reducible refine oKv_rd (fun _ => ?_)))
theorem zv_346_0 (hE : fEv E) (i1 : Int32) (s : rS) (z : vFs Sz s) : oKv Sz (s346_0 E w i1 s) := by
  unfold s346_0
  repeat' (first
    | with_reducible exact oKv_rI (by assumption)
    | with_reducible exact oKv_so (by assumption)
    | exact oKv_none
    | with_reducible refine oKv_if (fun _ => ?_) (fun _ => ?_)
    | (with_reducible refine oKv_pI (by assumption) (fun _ _ => ?_))
    | (with_reducible refine oKv_sI (by decide) (by assumption) (fun _ _ => ?_))
    | (with_reducible refine oKv_sB (by decide) (by assumption) (fun _ _ => ?_))
    | (with_reducible refine oKv_sJ (by assumption) (fun _ _ => ?_))
    | (with_reducible refine oKv_53 (by (first | assumption | exact nv_a (by assumption) (by assumption) (by decide) | exact nv_b (by assumption) (by assumption) (by decide) | exact nv_c (by assumption) (by assumption) (by decide))) (by assumption) (fun _ _ => ?_))
    | (with_reducible refine oKv_cI hE (by decide) (by assumption) (fun _ _ => ?_))
    | (with_reducible refine oKv_cJ hE (by decide) (by assumption) (fun _ _ => ?_))
    | (with_reducible refine oKv_cV hE (by decide) (by assumption) (fun _ _ => ?_))
    | (with_reducible refine oKv_cS hE (by decide) (by (first | assumption | exact nv_a (by assumption) (by assumption) (by decide) | exact nv_b (by assumption) (by assumption) (by decide) | exact nv_c (by assumption) (by assumption) (by decide))) (by assumption) (fun _ _ => ?_))
    | (with_reducible refine oKv_44 (by assumption) (fun _ _ => ?_))
    | (with_reducible refine oKv_rd (fun _ => ?_)))
theorem zv_347_0 (hE : fEv E) (i1 : Int32) (i2 : Int32) (s : rS) (z : vFs Sz s) : oKv Sz (s347_0 E w i1 i2 s) := by
  unfold s347_0
  repeat' (first
    | with_reducible exact oKv_rI (by assumption)
    | with_reducible exact oKv_so (by assumption)
    | exact oKv_none
    | with_reducible refine oKv_if (fun _ => ?_) (fun _ => ?_)
    | (with_reducible refine oKv_pI (by assumption) (fun _ _ => ?_))
    | (with_reducible refine oKv_sI (by decide) (by assumption) (fun _ _ => ?_))
    | (with_reducible refine oKv_sB (by decide) (by assumption) (fun _ _ => ?_))
    | (with_reducible refine oKv_sJ (by assumption) (fun _ _ => ?_))
    | (with_reducible refine oKv_53 (by (first | assumption | exact nv_a (by assumption) (by assumption) (by decide) | exact nv_b (by assumption) (by assumption) (by decide) | exact nv_c (by assumption) (by assumption) (by decide))) (by assumption) (fun _ _ => ?_))
    | (with_reducible refine oKv_cI hE (by decide) (by assumption) (fun _ _ => ?_))
    | (with_reducible refine oKv_cJ hE (by decide) (by assumption) (fun _ _ => ?_))
    | (with_reducible refine oKv_cV hE (by decide) (by assumption) (fun _ _ => ?_))
    | (with_reducible refine oKv_cS hE (by decide) (by (first | assumption | exact nv_a (by assumption) (by assumption) (by decide) | exact nv_b (by assumption) (by assumption) (by decide) | exact nv_c (by assumption) (by assumption) (by decide))) (by assumption) (fun _ _ => ?_))
    | (with_reducible refine oKv_44 (by assumption) (fun _ _ => ?_))
    | (with_reducible refine oKv_rd (fun _ => ?_)))
theorem zv_348_181 (hE : fEv E) (i5 : Int32) (s : rS) (z : vFs Sz s) : oKv Sz (s348_181 E w i5 s) := by
  unfold s348_181
  repeat' (first
    | with_reducible exact oKv_rI (by assumption)
    | with_reducible exact oKv_so (by assumption)
    | exact oKv_none
    | with_reducible refine oKv_if (fun _ => ?_) (fun _ => ?_)
    | (with_reducible refine oKv_pI (by assumption) (fun _ _ => ?_))
    | (with_reducible refine oKv_sI (by decide) (by assumption) (fun _ _ => ?_))
    | (with_reducible refine oKv_sB (by decide) (by assumption) (fun _ _ => ?_))
    | (with_reducible refine oKv_sJ (by assumption) (fun _ _ => ?_))
    | (with_reducible refine oKv_53 (by (first | assumption | exact nv_a (by assumption) (by assumption) (by decide) | exact nv_b (by assumption) (by assumption) (by decide) | exact nv_c (by assumption) (by assumption) (by decide))) (by assumption) (fun _ _ => ?_))
    | (with_reducible refine oKv_cI hE (by decide) (by assumption) (fun _ _ => ?_))
    | (with_reducible refine oKv_cJ hE (by decide) (by assumption) (fun _ _ => ?_))
    | (with_reducible refine oKv_cV hE (by decide) (by assumption) (fun _ _ => ?_))
    | (with_reducible refine oKv_cS hE (by decide) (by (first | assumption | exact nv_a (by assumption) (by assumption) (by decide) | exact nv_b (by assumption) (by assumption) (by decide) | exact nv_c (by assumption) (by assumption) (by decide))) (by assumption) (fun _ _ => ?_))
    | (with_reducible refine oKv_44 (by assumption) (fun _ _ => ?_))
    | (with_reducible refine oKv_rd (fun _ => ?_)))
theorem zv_348_163 (hE : fEv E) (i2 : Int32) (i4 : Int32) (i5 : Int32) (s0 : Int32) (s : rS) (z : vFs Sz s) : oKv Sz (s348_163 E w i2 i4 i5 s0 s) := by
  unfold s348_163
  repeat' (first
    | with_reducible exact oKv_rI (by assumption)
    | with_reducible exact oKv_so (by assumption)
    | exact oKv_none
    | with_reducible exact zv_348_181 hE _ _ (by assumption)
    | with_reducible refine oKv_if (fun _ => ?_) (fun _ => ?_)
    | (with_reducible refine oKv_pI (by assumption) (fun _ _ => ?_))
    | (with_reducible refine oKv_sI (by decide) (by assumption) (fun _ _ => ?_))
    | (with_reducible refine oKv_sB (by decide) (by assumption) (fun _ _ => ?_))
    | (with_reducible refine oKv_sJ (by assumption) (fun _ _ => ?_))
    | (with_reducible refine oKv_53 (by (first | assumption | exact nv_a (by assumption) (by assumption) (by decide) | exact nv_b (by assumption) (by assumption) (by decide) | exact nv_c (by assumption) (by assumption) (by decide))) (by assumption) (fun _ _ => ?_))
    | (with_reducible refine oKv_cI hE (by decide) (by assumption) (fun _ _ => ?_))
    | (with_reducible refine oKv_cJ hE (by decide) (by assumption) (fun _ _ => ?_))
    | (with_reducible refine oKv_cV hE (by decide) (by assumption) (fun _ _ => ?_))
    | (with_reducible refine oKv_cS hE (by decide) (by (first | assumption | exact nv_a (by assumption) (by assumption) (by decide) | exact nv_b (by assumption) (by assumption) (by decide) | exact nv_c (by assumption) (by assumption) (by decide))) (by assumption) (fun _ _ => ?_))
    | (with_reducible refine oKv_44 (by assumption) (fun _ _ => ?_))
    | (with_reducible refine oKv_rd (fun _ => ?_)))
theorem zv_348_136 (hE : fEv E) (i1 : Int32) (i2 : Int32) (i3 : Int32) (i4 : Int32) (i5 : Int32) (s : rS) (z : vFs Sz s) (hk : Sz.2.1 44 i1.toNatClampNeg ≠ 20) : oKv Sz (s348_136 E w i1 i2 i3 i4 i5 s) := by
  unfold s348_136
  repeat' (first
    | with_reducible exact oKv_rI (by assumption)
    | with_reducible exact oKv_so (by assumption)
    | exact oKv_none
    | with_reducible exact zv_348_163 hE _ _ _ _ _ (by assumption)
    | with_reducible refine oKv_if (fun _ => ?_) (fun _ => ?_)
    | (with_reducible refine oKv_pI (by assumption) (fun _ _ => ?_))
    | (with_reducible refine oKv_sI (by decide) (by assumption) (fun _ _ => ?_))
    | (with_reducible refine oKv_sB (by decide) (by assumption) (fun _ _ => ?_))
    | (with_reducible refine oKv_sJ (by assumption) (fun _ _ => ?_))
    | (with_reducible refine oKv_53 (by (first | assumption | exact nv_a (by assumption) (by assumption) (by decide) | exact nv_b (by assumption) (by assumption) (by decide) | exact nv_c (by assumption) (by assumption) (by decide))) (by assumption) (fun _ _ => ?_))
    | (with_reducible refine oKv_cI hE (by decide) (by assumption) (fun _ _ => ?_))
    | (with_reducible refine oKv_cJ hE (by decide) (by assumption) (fun _ _ => ?_))
    | (with_reducible refine oKv_cV hE (by decide) (by assumption) (fun _ _ => ?_))
    | (with_reducible refine oKv_cS hE (by decide) (by (first | assumption | exact nv_a (by assumption) (by assumption) (by decide) | exact nv_b (by assumption) (by assumption) (by decide) | exact nv_c (by assumption) (by assumption) (by decide))) (by assumption) (fun _ _ => ?_))
    | (with_reducible refine oKv_44 (by assumption) (fun _ _ => ?_))
    | (with_reducible refine oKv_rd (fun _ => ?_)))
theorem zv_348_103 (hE : fEv E) (i1 : Int32) (i2 : Int32) (i3 : Int32) (i4 : Int32) (i5 : Int32) (s0 : Int32) (s : rS) (z : vFs Sz s) (hk : Sz.2.1 44 i1.toNatClampNeg ≠ 20) : oKv Sz (s348_103 E w i1 i2 i3 i4 i5 s0 s) := by
  unfold s348_103
  repeat' (first
    | with_reducible exact oKv_rI (by assumption)
    | with_reducible exact oKv_so (by assumption)
    | exact oKv_none
    | with_reducible exact zv_348_136 hE _ _ _ _ _ _ (by assumption) (by (first | assumption | exact nv_a (by assumption) (by assumption) (by decide) | exact nv_b (by assumption) (by assumption) (by decide) | exact nv_c (by assumption) (by assumption) (by decide)))
    | with_reducible refine oKv_if (fun _ => ?_) (fun _ => ?_)
    | (with_reducible refine oKv_pI (by assumption) (fun _ _ => ?_))
    | (with_reducible refine oKv_sI (by decide) (by assumption) (fun _ _ => ?_))
    | (with_reducible refine oKv_sB (by decide) (by assumption) (fun _ _ => ?_))
    | (with_reducible refine oKv_sJ (by assumption) (fun _ _ => ?_))
    | (with_reducible refine oKv_53 (by (first | assumption | exact nv_a (by assumption) (by assumption) (by decide) | exact nv_b (by assumption) (by assumption) (by decide) | exact nv_c (by assumption) (by assumption) (by decide))) (by assumption) (fun _ _ => ?_))
    | (with_reducible refine oKv_cI hE (by decide) (by assumption) (fun _ _ => ?_))
    | (with_reducible refine oKv_cJ hE (by decide) (by assumption) (fun _ _ => ?_))
    | (with_reducible refine oKv_cV hE (by decide) (by assumption) (fun _ _ => ?_))
    | (with_reducible refine oKv_cS hE (by decide) (by (first | assumption | exact nv_a (by assumption) (by assumption) (by decide) | exact nv_b (by assumption) (by assumption) (by decide) | exact nv_c (by assumption) (by assumption) (by decide))) (by assumption) (fun _ _ => ?_))
    | (with_reducible refine oKv_44 (by assumption) (fun _ _ => ?_))
    | (with_reducible refine oKv_rd (fun _ => ?_)))
theorem zv_348_98 (hE : fEv E) (i1 : Int32) (i2 : Int32) (i3 : Int32) (i4 : Int32) (i5 : Int32) (s : rS) (z : vFs Sz s) (hk : Sz.2.1 44 i1.toNatClampNeg ≠ 20) : oKv Sz (s348_98 E w i1 i2 i3 i4 i5 s) := by
  unfold s348_98
  repeat' (first
    | with_reducible exact oKv_rI (by assumption)
    | with_reducible exact oKv_so (by assumption)
    | exact oKv_none
    | with_reducible exact zv_348_103 hE _ _ _ _ _ _ _ (by assumption) (by (first | assumption | exact nv_a (by assumption) (by assumption) (by decide) | exact nv_b (by assumption) (by assumption) (by decide) | exact nv_c (by assumption) (by assumption) (by decide)))
    | with_reducible refine oKv_if (fun _ => ?_) (fun _ => ?_)
    | (with_reducible refine oKv_pI (by assumption) (fun _ _ => ?_))
    | (with_reducible refine oKv_sI (by decide) (by assumption) (fun _ _ => ?_))
    | (with_reducible refine oKv_sB (by decide) (by assumption) (fun _ _ => ?_))
    | (with_reducible refine oKv_sJ (by assumption) (fun _ _ => ?_))
    | (with_reducible refine oKv_53 (by (first | assumption | exact nv_a (by assumption) (by assumption) (by decide) | exact nv_b (by assumption) (by assumption) (by decide) | exact nv_c (by assumption) (by assumption) (by decide))) (by assumption) (fun _ _ => ?_))
    | (with_reducible refine oKv_cI hE (by decide) (by assumption) (fun _ _ => ?_))
    | (with_reducible refine oKv_cJ hE (by decide) (by assumption) (fun _ _ => ?_))
    | (with_reducible refine oKv_cV hE (by decide) (by assumption) (fun _ _ => ?_))
    | (with_reducible refine oKv_cS hE (by decide) (by (first | assumption | exact nv_a (by assumption) (by assumption) (by decide) | exact nv_b (by assumption) (by assumption) (by decide) | exact nv_c (by assumption) (by assumption) (by decide))) (by assumption) (fun _ _ => ?_))
    | (with_reducible refine oKv_44 (by assumption) (fun _ _ => ?_))
    | (with_reducible refine oKv_rd (fun _ => ?_)))
theorem zv_348_102 (hE : fEv E) (i1 : Int32) (i2 : Int32) (i3 : Int32) (i4 : Int32) (i5 : Int32) (s : rS) (z : vFs Sz s) (hk : Sz.2.1 44 i1.toNatClampNeg ≠ 20) : oKv Sz (s348_102 E w i1 i2 i3 i4 i5 s) := by
  unfold s348_102
  repeat' (first
    | with_reducible exact oKv_rI (by assumption)
    | with_reducible exact oKv_so (by assumption)
    | exact oKv_none
    | with_reducible exact zv_348_103 hE _ _ _ _ _ _ _ (by assumption) (by (first | assumption | exact nv_a (by assumption) (by assumption) (by decide) | exact nv_b (by assumption) (by assumption) (by decide) | exact nv_c (by assumption) (by assumption) (by decide)))
    | with_reducible refine oKv_if (fun _ => ?_) (fun _ => ?_)
    | (with_reducible refine oKv_pI (by assumption) (fun _ _ => ?_))
    | (with_reducible refine oKv_sI (by decide) (by assumption) (fun _ _ => ?_))
    | (with_reducible refine oKv_sB (by decide) (by assumption) (fun _ _ => ?_))
    | (with_reducible refine oKv_sJ (by assumption) (fun _ _ => ?_))
    | (with_reducible refine oKv_53 (by (first | assumption | exact nv_a (by assumption) (by assumption) (by decide) | exact nv_b (by assumption) (by assumption) (by decide) | exact nv_c (by assumption) (by assumption) (by decide))) (by assumption) (fun _ _ => ?_))
    | (with_reducible refine oKv_cI hE (by decide) (by assumption) (fun _ _ => ?_))
    | (with_reducible refine oKv_cJ hE (by decide) (by assumption) (fun _ _ => ?_))
    | (with_reducible refine oKv_cV hE (by decide) (by assumption) (fun _ _ => ?_))
    | (with_reducible refine oKv_cS hE (by decide) (by (first | assumption | exact nv_a (by assumption) (by assumption) (by decide) | exact nv_b (by assumption) (by assumption) (by decide) | exact nv_c (by assumption) (by assumption) (by decide))) (by assumption) (fun _ _ => ?_))
    | (with_reducible refine oKv_44 (by assumption) (fun _ _ => ?_))
    | (with_reducible refine oKv_rd (fun _ => ?_)))
theorem zv_348_0 (hE : fEv E) (i1 : Int32) (i2 : Int32) (s : rS) (z : vFs Sz s) (hk : Sz.2.1 44 i1.toNatClampNeg ≠ 20) : oKv Sz (s348_0 E w i1 i2 s) := by
  unfold s348_0
  repeat' (first
    | with_reducible exact oKv_rI (by assumption)
    | with_reducible exact oKv_so (by assumption)
    | exact oKv_none
    | with_reducible exact zv_348_102 hE _ _ _ _ _ _ (by assumption) (by (first | assumption | exact nv_a (by assumption) (by assumption) (by decide) | exact nv_b (by assumption) (by assumption) (by decide) | exact nv_c (by assumption) (by assumption) (by decide)))
    | with_reducible exact zv_348_98 hE _ _ _ _ _ _ (by assumption) (by (first | assumption | exact nv_a (by assumption) (by assumption) (by decide) | exact nv_b (by assumption) (by assumption) (by decide) | exact nv_c (by assumption) (by assumption) (by decide)))
    | with_reducible refine oKv_if (fun _ => ?_) (fun _ => ?_)
    | (with_reducible refine oKv_pI (by assumption) (fun _ _ => ?_))
    | (with_reducible refine oKv_sI (by decide) (by assumption) (fun _ _ => ?_))
    | (with_reducible refine oKv_sB (by decide) (by assumption) (fun _ _ => ?_))
    | (with_reducible refine oKv_sJ (by assumption) (fun _ _ => ?_))
    | (with_reducible refine oKv_53 (by (first | assumption | exact nv_a (by assumption) (by assumption) (by decide) | exact nv_b (by assumption) (by assumption) (by decide) | exact nv_c (by assumption) (by assumption) (by decide))) (by assumption) (fun _ _ => ?_))
    | (with_reducible refine oKv_cI hE (by decide) (by assumption) (fun _ _ => ?_))
    | (with_reducible refine oKv_cJ hE (by decide) (by assumption) (fun _ _ => ?_))
    | (with_reducible refine oKv_cV hE (by decide) (by assumption) (fun _ _ => ?_))
    | (with_reducible refine oKv_cS hE (by decide) (by (first | assumption | exact nv_a (by assumption) (by assumption) (by decide) | exact nv_b (by assumption) (by assumption) (by decide) | exact nv_c (by assumption) (by assumption) (by decide))) (by assumption) (fun _ _ => ?_))
    | (with_reducible refine oKv_44 (by assumption) (fun _ _ => ?_))
    | (with_reducible refine oKv_rd (fun _ => ?_)))
theorem zv_349_7 (hE : fEv E) : ∀ (n : Nat) (b0 : Int64) (b1 : Int32) (s : rS), vFs Sz s → oKv Sz (s349_7 E w n b0 b1 s)
  | 0, _, _, _, _ => fun r s' e => by
    have e : (none : Option rA) = some (r, s') := e
    cases e
  | n + 1, b0, b1, s, z => by
    have ih := zv_349_7 hE n
    unfold s349_7
    repeat' (first
      | with_reducible exact oKv_rI (by assumption)
      | with_reducible exact oKv_so (by assumption)
      | exact oKv_none
      | with_reducible exact ih _ _ _ (by assumption)
      | with_reducible refine oKv_if (fun _ => ?_) (fun _ => ?_)
      | (with_reducible refine oKv_pI (by assumption) (fun _ _ => ?_))
      | (with_reducible refine oKv_sI (by decide) (by assumption) (fun _ _ => ?_))
      | (with_reducible refine oKv_sB (by decide) (by assumption) (fun _ _ => ?_))
      | (with_reducible refine oKv_sJ (by assumption) (fun _ _ => ?_))
      | (with_reducible refine oKv_53 (by (first | assumption | exact nv_a (by assumption) (by assumption) (by decide) | exact nv_b (by assumption) (by assumption) (by decide) | exact nv_c (by assumption) (by assumption) (by decide))) (by assumption) (fun _ _ => ?_))
      | (with_reducible refine oKv_cI hE (by decide) (by assumption) (fun _ _ => ?_))
      | (with_reducible refine oKv_cJ hE (by decide) (by assumption) (fun _ _ => ?_))
      | (with_reducible refine oKv_cV hE (by decide) (by assumption) (fun _ _ => ?_))
      | (with_reducible refine oKv_cS hE (by decide) (by (first | assumption | exact nv_a (by assumption) (by assumption) (by decide) | exact nv_b (by assumption) (by assumption) (by decide) | exact nv_c (by assumption) (by assumption) (by decide))) (by assumption) (fun _ _ => ?_))
      | (with_reducible refine oKv_44 (by assumption) (fun _ _ => ?_))
      | (with_reducible refine oKv_rd (fun _ => ?_)))
theorem zv_349_0 (hE : fEv E) (j1 : Int64) (s : rS) (z : vFs Sz s) : oKv Sz (s349_0 E w j1 s) := by
  unfold s349_0
  repeat' (first
    | with_reducible exact oKv_rI (by assumption)
    | with_reducible exact oKv_so (by assumption)
    | exact oKv_none
    | with_reducible exact zv_349_7 hE _ _ _ _ (by assumption)
    | with_reducible refine oKv_if (fun _ => ?_) (fun _ => ?_)
    | (with_reducible refine oKv_pI (by assumption) (fun _ _ => ?_))
    | (with_reducible refine oKv_sI (by decide) (by assumption) (fun _ _ => ?_))
    | (with_reducible refine oKv_sB (by decide) (by assumption) (fun _ _ => ?_))
    | (with_reducible refine oKv_sJ (by assumption) (fun _ _ => ?_))
    | (with_reducible refine oKv_53 (by (first | assumption | exact nv_a (by assumption) (by assumption) (by decide) | exact nv_b (by assumption) (by assumption) (by decide) | exact nv_c (by assumption) (by assumption) (by decide))) (by assumption) (fun _ _ => ?_))
    | (with_reducible refine oKv_cI hE (by decide) (by assumption) (fun _ _ => ?_))
    | (with_reducible refine oKv_cJ hE (by decide) (by assumption) (fun _ _ => ?_))
    | (with_reducible refine oKv_cV hE (by decide) (by assumption) (fun _ _ => ?_))
    | (with_reducible refine oKv_cS hE (by decide) (by (first | assumption | exact nv_a (by assumption) (by assumption) (by decide) | exact nv_b (by assumption) (by assumption) (by decide) | exact nv_c (by assumption) (by assumption) (by decide))) (by assumption) (fun _ _ => ?_))
    | (with_reducible refine oKv_44 (by assumption) (fun _ _ => ?_))
    | (with_reducible refine oKv_rd (fun _ => ?_)))
theorem zv_350_36 (hE : fEv E) (s0 : Int32) (s : rS) (z : vFs Sz s) : oKv Sz (s350_36 E w s0 s) := by
  unfold s350_36
  repeat' (first
    | with_reducible exact oKv_rI (by assumption)
    | with_reducible exact oKv_so (by assumption)
    | exact oKv_none
    | with_reducible refine oKv_if (fun _ => ?_) (fun _ => ?_)
    | (with_reducible refine oKv_pI (by assumption) (fun _ _ => ?_))
    | (with_reducible refine oKv_sI (by decide) (by assumption) (fun _ _ => ?_))
    | (with_reducible refine oKv_sB (by decide) (by assumption) (fun _ _ => ?_))
    | (with_reducible refine oKv_sJ (by assumption) (fun _ _ => ?_))
    | (with_reducible refine oKv_53 (by (first | assumption | exact nv_a (by assumption) (by assumption) (by decide) | exact nv_b (by assumption) (by assumption) (by decide) | exact nv_c (by assumption) (by assumption) (by decide))) (by assumption) (fun _ _ => ?_))
    | (with_reducible refine oKv_cI hE (by decide) (by assumption) (fun _ _ => ?_))
    | (with_reducible refine oKv_cJ hE (by decide) (by assumption) (fun _ _ => ?_))
    | (with_reducible refine oKv_cV hE (by decide) (by assumption) (fun _ _ => ?_))
    | (with_reducible refine oKv_cS hE (by decide) (by (first | assumption | exact nv_a (by assumption) (by assumption) (by decide) | exact nv_b (by assumption) (by assumption) (by decide) | exact nv_c (by assumption) (by assumption) (by decide))) (by assumption) (fun _ _ => ?_))
    | (with_reducible refine oKv_44 (by assumption) (fun _ _ => ?_))
    | (with_reducible refine oKv_rd (fun _ => ?_)))
theorem zv_350_24 (hE : fEv E) (s : rS) (z : vFs Sz s) : oKv Sz (s350_24 E w s) := by
  unfold s350_24
  repeat' (first
    | with_reducible exact oKv_rI (by assumption)
    | with_reducible exact oKv_so (by assumption)
    | exact oKv_none
    | with_reducible exact zv_350_36 hE _ _ (by assumption)
    | with_reducible refine oKv_if (fun _ => ?_) (fun _ => ?_)
    | (with_reducible refine oKv_pI (by assumption) (fun _ _ => ?_))
    | (with_reducible refine oKv_sI (by decide) (by assumption) (fun _ _ => ?_))
    | (with_reducible refine oKv_sB (by decide) (by assumption) (fun _ _ => ?_))
    | (with_reducible refine oKv_sJ (by assumption) (fun _ _ => ?_))
    | (with_reducible refine oKv_53 (by (first | assumption | exact nv_a (by assumption) (by assumption) (by decide) | exact nv_b (by assumption) (by assumption) (by decide) | exact nv_c (by assumption) (by assumption) (by decide))) (by assumption) (fun _ _ => ?_))
    | (with_reducible refine oKv_cI hE (by decide) (by assumption) (fun _ _ => ?_))
    | (with_reducible refine oKv_cJ hE (by decide) (by assumption) (fun _ _ => ?_))
    | (with_reducible refine oKv_cV hE (by decide) (by assumption) (fun _ _ => ?_))
    | (with_reducible refine oKv_cS hE (by decide) (by (first | assumption | exact nv_a (by assumption) (by assumption) (by decide) | exact nv_b (by assumption) (by assumption) (by decide) | exact nv_c (by assumption) (by assumption) (by decide))) (by assumption) (fun _ _ => ?_))
    | (with_reducible refine oKv_44 (by assumption) (fun _ _ => ?_))
    | (with_reducible refine oKv_rd (fun _ => ?_)))
theorem zv_350_0 (hE : fEv E) (i1 : Int32) (i2 : Int32) (s : rS) (z : vFs Sz s) : oKv Sz (s350_0 E w i1 i2 s) := by
  unfold s350_0
  repeat' (first
    | with_reducible exact oKv_rI (by assumption)
    | with_reducible exact oKv_so (by assumption)
    | exact oKv_none
    | with_reducible exact zv_350_24 hE _ (by assumption)
    | with_reducible refine oKv_if (fun _ => ?_) (fun _ => ?_)
    | (with_reducible refine oKv_pI (by assumption) (fun _ _ => ?_))
    | (with_reducible refine oKv_sI (by decide) (by assumption) (fun _ _ => ?_))
    | (with_reducible refine oKv_sB (by decide) (by assumption) (fun _ _ => ?_))
    | (with_reducible refine oKv_sJ (by assumption) (fun _ _ => ?_))
    | (with_reducible refine oKv_53 (by (first | assumption | exact nv_a (by assumption) (by assumption) (by decide) | exact nv_b (by assumption) (by assumption) (by decide) | exact nv_c (by assumption) (by assumption) (by decide))) (by assumption) (fun _ _ => ?_))
    | (with_reducible refine oKv_cI hE (by decide) (by assumption) (fun _ _ => ?_))
    | (with_reducible refine oKv_cJ hE (by decide) (by assumption) (fun _ _ => ?_))
    | (with_reducible refine oKv_cV hE (by decide) (by assumption) (fun _ _ => ?_))
    | (with_reducible refine oKv_cS hE (by decide) (by (first | assumption | exact nv_a (by assumption) (by assumption) (by decide) | exact nv_b (by assumption) (by assumption) (by decide) | exact nv_c (by assumption) (by assumption) (by decide))) (by assumption) (fun _ _ => ?_))
    | (with_reducible refine oKv_44 (by assumption) (fun _ _ => ?_))
    | (with_reducible refine oKv_rd (fun _ => ?_)))
theorem zv_351_155 (hE : fEv E) (i1 : Int32) (s : rS) (z : vFs Sz s) : oKv Sz (s351_155 E w i1 s) := by
  unfold s351_155
  repeat' (first
    | with_reducible exact oKv_rI (by assumption)
    | with_reducible exact oKv_so (by assumption)
    | exact oKv_none
    | with_reducible refine oKv_if (fun _ => ?_) (fun _ => ?_)
    | (with_reducible refine oKv_pI (by assumption) (fun _ _ => ?_))
    | (with_reducible refine oKv_sI (by decide) (by assumption) (fun _ _ => ?_))
    | (with_reducible refine oKv_sB (by decide) (by assumption) (fun _ _ => ?_))
    | (with_reducible refine oKv_sJ (by assumption) (fun _ _ => ?_))
    | (with_reducible refine oKv_53 (by (first | assumption | exact nv_a (by assumption) (by assumption) (by decide) | exact nv_b (by assumption) (by assumption) (by decide) | exact nv_c (by assumption) (by assumption) (by decide))) (by assumption) (fun _ _ => ?_))
    | (with_reducible refine oKv_cI hE (by decide) (by assumption) (fun _ _ => ?_))
    | (with_reducible refine oKv_cJ hE (by decide) (by assumption) (fun _ _ => ?_))
    | (with_reducible refine oKv_cV hE (by decide) (by assumption) (fun _ _ => ?_))
    | (with_reducible refine oKv_cS hE (by decide) (by (first | assumption | exact nv_a (by assumption) (by assumption) (by decide) | exact nv_b (by assumption) (by assumption) (by decide) | exact nv_c (by assumption) (by assumption) (by decide))) (by assumption) (fun _ _ => ?_))
    | (with_reducible refine oKv_44 (by assumption) (fun _ _ => ?_))
    | (with_reducible refine oKv_rd (fun _ => ?_)))
theorem zv_351_276 (hE : fEv E) (i9 : Int32) (s : rS) (z : vFs Sz s) : oKv Sz (s351_276 E w i9 s) := by
  unfold s351_276
  repeat' (first
    | with_reducible exact oKv_rI (by assumption)
    | with_reducible exact oKv_so (by assumption)
    | exact oKv_none
    | with_reducible refine oKv_if (fun _ => ?_) (fun _ => ?_)
    | (with_reducible refine oKv_pI (by assumption) (fun _ _ => ?_))
    | (with_reducible refine oKv_sI (by decide) (by assumption) (fun _ _ => ?_))
    | (with_reducible refine oKv_sB (by decide) (by assumption) (fun _ _ => ?_))
    | (with_reducible refine oKv_sJ (by assumption) (fun _ _ => ?_))
    | (with_reducible refine oKv_53 (by (first | assumption | exact nv_a (by assumption) (by assumption) (by decide) | exact nv_b (by assumption) (by assumption) (by decide) | exact nv_c (by assumption) (by assumption) (by decide))) (by assumption) (fun _ _ => ?_))
    | (with_reducible refine oKv_cI hE (by decide) (by assumption) (fun _ _ => ?_))
    | (with_reducible refine oKv_cJ hE (by decide) (by assumption) (fun _ _ => ?_))
    | (with_reducible refine oKv_cV hE (by decide) (by assumption) (fun _ _ => ?_))
    | (with_reducible refine oKv_cS hE (by decide) (by (first | assumption | exact nv_a (by assumption) (by assumption) (by decide) | exact nv_b (by assumption) (by assumption) (by decide) | exact nv_c (by assumption) (by assumption) (by decide))) (by assumption) (fun _ _ => ?_))
    | (with_reducible refine oKv_44 (by assumption) (fun _ _ => ?_))
    | (with_reducible refine oKv_rd (fun _ => ?_)))
theorem zv_351_323 (hE : fEv E) (s0 : Int32) (s : rS) (z : vFs Sz s) : oKv Sz (s351_323 E w s0 s) := by
  unfold s351_323
  repeat' (first
    | with_reducible exact oKv_rI (by assumption)
    | with_reducible exact oKv_so (by assumption)
    | exact oKv_none
    | with_reducible refine oKv_if (fun _ => ?_) (fun _ => ?_)
    | (with_reducible refine oKv_pI (by assumption) (fun _ _ => ?_))
    | (with_reducible refine oKv_sI (by decide) (by assumption) (fun _ _ => ?_))
    | (with_reducible refine oKv_sB (by decide) (by assumption) (fun _ _ => ?_))
    | (with_reducible refine oKv_sJ (by assumption) (fun _ _ => ?_))
    | (with_reducible refine oKv_53 (by (first | assumption | exact nv_a (by assumption) (by assumption) (by decide) | exact nv_b (by assumption) (by assumption) (by decide) | exact nv_c (by assumption) (by assumption) (by decide))) (by assumption) (fun _ _ => ?_))
    | (with_reducible refine oKv_cI hE (by decide) (by assumption) (fun _ _ => ?_))
    | (with_reducible refine oKv_cJ hE (by decide) (by assumption) (fun _ _ => ?_))
    | (with_reducible refine oKv_cV hE (by decide) (by assumption) (fun _ _ => ?_))
    | (with_reducible refine oKv_cS hE (by decide) (by (first | assumption | exact nv_a (by assumption) (by assumption) (by decide) | exact nv_b (by assumption) (by assumption) (by decide) | exact nv_c (by assumption) (by assumption) (by decide))) (by assumption) (fun _ _ => ?_))
    | (with_reducible refine oKv_44 (by assumption) (fun _ _ => ?_))
    | (with_reducible refine oKv_rd (fun _ => ?_)))
theorem zv_351_228 (hE : fEv E) (i1 : Int32) (i2 : Int32) (i3 : Int32) (i6 : Int32) (i7 : Int32) (i8 : Int32) (i9 : Int32) (s0 : Int32) (s : rS) (z : vFs Sz s) (hk : Sz.2.1 44 i1.toNatClampNeg ≠ 20) : oKv Sz (s351_228 E w i1 i2 i3 i6 i7 i8 i9 s0 s) := by
  unfold s351_228
  repeat' (first
    | with_reducible exact oKv_rI (by assumption)
    | with_reducible exact oKv_so (by assumption)
    | exact oKv_none
    | with_reducible exact zv_351_276 hE _ _ (by assumption)
    | with_reducible exact zv_351_323 hE _ _ (by assumption)
    | with_reducible refine oKv_if (fun _ => ?_) (fun _ => ?_)
    | (with_reducible refine oKv_pI (by assumption) (fun _ _ => ?_))
    | (with_reducible refine oKv_sI (by decide) (by assumption) (fun _ _ => ?_))
    | (with_reducible refine oKv_sB (by decide) (by assumption) (fun _ _ => ?_))
    | (with_reducible refine oKv_sJ (by assumption) (fun _ _ => ?_))
    | (with_reducible refine oKv_53 (by (first | assumption | exact nv_a (by assumption) (by assumption) (by decide) | exact nv_b (by assumption) (by assumption) (by decide) | exact nv_c (by assumption) (by assumption) (by decide))) (by assumption) (fun _ _ => ?_))
    | (with_reducible refine oKv_cI hE (by decide) (by assumption) (fun _ _ => ?_))
    | (with_reducible refine oKv_cJ hE (by decide) (by assumption) (fun _ _ => ?_))
    | (with_reducible refine oKv_cV hE (by decide) (by assumption) (fun _ _ => ?_))
    | (with_reducible refine oKv_cS hE (by decide) (by (first | assumption | exact nv_a (by assumption) (by assumption) (by decide) | exact nv_b (by assumption) (by assumption) (by decide) | exact nv_c (by assumption) (by assumption) (by decide))) (by assumption) (fun _ _ => ?_))
    | (with_reducible refine oKv_44 (by assumption) (fun _ _ => ?_))
    | (with_reducible refine oKv_rd (fun _ => ?_)))
theorem zv_351_223 (hE : fEv E) (i1 : Int32) (i2 : Int32) (i3 : Int32) (i6 : Int32) (i7 : Int32) (i8 : Int32) (i9 : Int32) (s : rS) (z : vFs Sz s) (hk : Sz.2.1 44 i1.toNatClampNeg ≠ 20) : oKv Sz (s351_223 E w i1 i2 i3 i6 i7 i8 i9 s) := by
  unfold s351_223
  repeat' (first
    | with_reducible exact oKv_rI (by assumption)
    | with_reducible exact oKv_so (by assumption)
    | exact oKv_none
    | with_reducible exact zv_351_228 hE _ _ _ _ _ _ _ _ _ (by assumption) (by (first | assumption | exact nv_a (by assumption) (by assumption) (by decide) | exact nv_b (by assumption) (by assumption) (by decide) | exact nv_c (by assumption) (by assumption) (by decide)))
    | with_reducible refine oKv_if (fun _ => ?_) (fun _ => ?_)
    | (with_reducible refine oKv_pI (by assumption) (fun _ _ => ?_))
    | (with_reducible refine oKv_sI (by decide) (by assumption) (fun _ _ => ?_))
    | (with_reducible refine oKv_sB (by decide) (by assumption) (fun _ _ => ?_))
    | (with_reducible refine oKv_sJ (by assumption) (fun _ _ => ?_))
    | (with_reducible refine oKv_53 (by (first | assumption | exact nv_a (by assumption) (by assumption) (by decide) | exact nv_b (by assumption) (by assumption) (by decide) | exact nv_c (by assumption) (by assumption) (by decide))) (by assumption) (fun _ _ => ?_))
    | (with_reducible refine oKv_cI hE (by decide) (by assumption) (fun _ _ => ?_))
    | (with_reducible refine oKv_cJ hE (by decide) (by assumption) (fun _ _ => ?_))
    | (with_reducible refine oKv_cV hE (by decide) (by assumption) (fun _ _ => ?_))
    | (with_reducible refine oKv_cS hE (by decide) (by (first | assumption | exact nv_a (by assumption) (by assumption) (by decide) | exact nv_b (by assumption) (by assumption) (by decide) | exact nv_c (by assumption) (by assumption) (by decide))) (by assumption) (fun _ _ => ?_))
    | (with_reducible refine oKv_44 (by assumption) (fun _ _ => ?_))
    | (with_reducible refine oKv_rd (fun _ => ?_)))
theorem zv_351_0 (hE : fEv E) (i1 : Int32) (i2 : Int32) (i3 : Int32) (s : rS) (z : vFs Sz s) : oKv Sz (s351_0 E w i1 i2 i3 s) := by
  unfold s351_0
  repeat' (first
    | with_reducible exact oKv_rI (by assumption)
    | with_reducible exact oKv_so (by assumption)
    | exact oKv_none
    | with_reducible exact zv_351_155 hE _ _ (by assumption)
    | with_reducible exact zv_351_223 hE _ _ _ _ _ _ _ _ (by assumption) (by (first | assumption | exact nv_a (by assumption) (by assumption) (by decide) | exact nv_b (by assumption) (by assumption) (by decide) | exact nv_c (by assumption) (by assumption) (by decide)))
    | with_reducible exact zv_351_228 hE _ _ _ _ _ _ _ _ _ (by assumption) (by (first | assumption | exact nv_a (by assumption) (by assumption) (by decide) | exact nv_b (by assumption) (by assumption) (by decide) | exact nv_c (by assumption) (by assumption) (by decide)))
    | with_reducible refine oKv_if (fun _ => ?_) (fun _ => ?_)
    | (with_reducible refine oKv_pI (by assumption) (fun _ _ => ?_))
    | (with_reducible refine oKv_sI (by decide) (by assumption) (fun _ _ => ?_))
    | (with_reducible refine oKv_sB (by decide) (by assumption) (fun _ _ => ?_))
    | (with_reducible refine oKv_sJ (by assumption) (fun _ _ => ?_))
    | (with_reducible refine oKv_53 (by (first | assumption | exact nv_a (by assumption) (by assumption) (by decide) | exact nv_b (by assumption) (by assumption) (by decide) | exact nv_c (by assumption) (by assumption) (by decide))) (by assumption) (fun _ _ => ?_))
    | (with_reducible refine oKv_cI hE (by decide) (by assumption) (fun _ _ => ?_))
    | (with_reducible refine oKv_cJ hE (by decide) (by assumption) (fun _ _ => ?_))
    | (with_reducible refine oKv_cV hE (by decide) (by assumption) (fun _ _ => ?_))
    | (with_reducible refine oKv_cS hE (by decide) (by (first | assumption | exact nv_a (by assumption) (by assumption) (by decide) | exact nv_b (by assumption) (by assumption) (by decide) | exact nv_c (by assumption) (by assumption) (by decide))) (by assumption) (fun _ _ => ?_))
    | (with_reducible refine oKv_44 (by assumption) (fun _ _ => ?_))
    | (with_reducible refine oKv_rd (fun _ => ?_)))
theorem zv_352_69 (hE : fEv E) (i1 : Int32) (i2 : Int32) (i3 : Int32) (i5 : Int32) (i6 : Int32) (s : rS) (z : vFs Sz s) (hk : Sz.2.1 44 i1.toNatClampNeg ≠ 20) : oKv Sz (s352_69 E w i1 i2 i3 i5 i6 s) := by
  unfold s352_69
  repeat' (first
    | with_reducible exact oKv_rI (by assumption)
    | with_reducible exact oKv_so (by assumption)
    | exact oKv_none
    | with_reducible refine oKv_if (fun _ => ?_) (fun _ => ?_)
    | (with_reducible refine oKv_pI (by assumption) (fun _ _ => ?_))
    | (with_reducible refine oKv_sI (by decide) (by assumption) (fun _ _ => ?_))
    | (with_reducible refine oKv_sB (by decide) (by assumption) (fun _ _ => ?_))
    | (with_reducible refine oKv_sJ (by assumption) (fun _ _ => ?_))
    | (with_reducible refine oKv_53 (by (first | assumption | exact nv_a (by assumption) (by assumption) (by decide) | exact nv_b (by assumption) (by assumption) (by decide) | exact nv_c (by assumption) (by assumption) (by decide))) (by assumption) (fun _ _ => ?_))
    | (with_reducible refine oKv_cI hE (by decide) (by assumption) (fun _ _ => ?_))
    | (with_reducible refine oKv_cJ hE (by decide) (by assumption) (fun _ _ => ?_))
    | (with_reducible refine oKv_cV hE (by decide) (by assumption) (fun _ _ => ?_))
    | (with_reducible refine oKv_cS hE (by decide) (by (first | assumption | exact nv_a (by assumption) (by assumption) (by decide) | exact nv_b (by assumption) (by assumption) (by decide) | exact nv_c (by assumption) (by assumption) (by decide))) (by assumption) (fun _ _ => ?_))
    | (with_reducible refine oKv_44 (by assumption) (fun _ _ => ?_))
    | (with_reducible refine oKv_rd (fun _ => ?_)))
theorem zv_352_0 (hE : fEv E) (i1 : Int32) (i2 : Int32) (i3 : Int32) (i4 : Int32) (s : rS) (z : vFs Sz s) (hk : Sz.2.1 44 i1.toNatClampNeg ≠ 20) : oKv Sz (s352_0 E w i1 i2 i3 i4 s) := by
  unfold s352_0
  repeat' (first
    | with_reducible exact oKv_rI (by assumption)
    | with_reducible exact oKv_so (by assumption)
    | exact oKv_none
    | with_reducible exact zv_352_69 hE _ _ _ _ _ _ (by assumption) (by (first | assumption | exact nv_a (by assumption) (by assumption) (by decide) | exact nv_b (by assumption) (by assumption) (by decide) | exact nv_c (by assumption) (by assumption) (by decide)))
    | with_reducible refine oKv_if (fun _ => ?_) (fun _ => ?_)
    | (with_reducible refine oKv_pI (by assumption) (fun _ _ => ?_))
    | (with_reducible refine oKv_sI (by decide) (by assumption) (fun _ _ => ?_))
    | (with_reducible refine oKv_sB (by decide) (by assumption) (fun _ _ => ?_))
    | (with_reducible refine oKv_sJ (by assumption) (fun _ _ => ?_))
    | (with_reducible refine oKv_53 (by (first | assumption | exact nv_a (by assumption) (by assumption) (by decide) | exact nv_b (by assumption) (by assumption) (by decide) | exact nv_c (by assumption) (by assumption) (by decide))) (by assumption) (fun _ _ => ?_))
    | (with_reducible refine oKv_cI hE (by decide) (by assumption) (fun _ _ => ?_))
    | (with_reducible refine oKv_cJ hE (by decide) (by assumption) (fun _ _ => ?_))
    | (with_reducible refine oKv_cV hE (by decide) (by assumption) (fun _ _ => ?_))
    | (with_reducible refine oKv_cS hE (by decide) (by (first | assumption | exact nv_a (by assumption) (by assumption) (by decide) | exact nv_b (by assumption) (by assumption) (by decide) | exact nv_c (by assumption) (by assumption) (by decide))) (by assumption) (fun _ _ => ?_))
    | (with_reducible refine oKv_44 (by assumption) (fun _ _ => ?_))
    | (with_reducible refine oKv_rd (fun _ => ?_)))
theorem zv_353_109 (hE : fEv E) (i5 : Int32) (s : rS) (z : vFs Sz s) : oKv Sz (s353_109 E w i5 s) := by
  unfold s353_109
  repeat' (first
    | with_reducible exact oKv_rI (by assumption)
    | with_reducible exact oKv_so (by assumption)
    | exact oKv_none
    | with_reducible refine oKv_if (fun _ => ?_) (fun _ => ?_)
    | (with_reducible refine oKv_pI (by assumption) (fun _ _ => ?_))
    | (with_reducible refine oKv_sI (by decide) (by assumption) (fun _ _ => ?_))
    | (with_reducible refine oKv_sB (by decide) (by assumption) (fun _ _ => ?_))
    | (with_reducible refine oKv_sJ (by assumption) (fun _ _ => ?_))
    | (with_reducible refine oKv_53 (by (first | assumption | exact nv_a (by assumption) (by assumption) (by decide) | exact nv_b (by assumption) (by assumption) (by decide) | exact nv_c (by assumption) (by assumption) (by decide))) (by assumption) (fun _ _ => ?_))
    | (with_reducible refine oKv_cI hE (by decide) (by assumption) (fun _ _ => ?_))
    | (with_reducible refine oKv_cJ hE (by decide) (by assumption) (fun _ _ => ?_))
    | (with_reducible refine oKv_cV hE (by decide) (by assumption) (fun _ _ => ?_))
    | (with_reducible refine oKv_cS hE (by decide) (by (first | assumption | exact nv_a (by assumption) (by assumption) (by decide) | exact nv_b (by assumption) (by assumption) (by decide) | exact nv_c (by assumption) (by assumption) (by decide))) (by assumption) (fun _ _ => ?_))
    | (with_reducible refine oKv_44 (by assumption) (fun _ _ => ?_))
    | (with_reducible refine oKv_rd (fun _ => ?_)))
theorem zv_353_100 (hE : fEv E) (i1 : Int32) (i5 : Int32) (s0 : Int32) (s : rS) (z : vFs Sz s) : oKv Sz (s353_100 E w i1 i5 s0 s) := by
  unfold s353_100
  repeat' (first
    | with_reducible exact oKv_rI (by assumption)
    | with_reducible exact oKv_so (by assumption)
    | exact oKv_none
    | with_reducible exact zv_353_109 hE _ _ (by assumption)
    | with_reducible refine oKv_if (fun _ => ?_) (fun _ => ?_)
    | (with_reducible refine oKv_pI (by assumption) (fun _ _ => ?_))
    | (with_reducible refine oKv_sI (by decide) (by assumption) (fun _ _ => ?_))
    | (with_reducible refine oKv_sB (by decide) (by assumption) (fun _ _ => ?_))
    | (with_reducible refine oKv_sJ (by assumption) (fun _ _ => ?_))
    | (with_reducible refine oKv_53 (by (first | assumption | exact nv_a (by assumption) (by assumption) (by decide) | exact nv_b (by assumption) (by assumption) (by decide) | exact nv_c (by assumption) (by assumption) (by decide))) (by assumption) (fun _ _ => ?_))
    | (with_reducible refine oKv_cI hE (by decide) (by assumption) (fun _ _ => ?_))
    | (with_reducible refine oKv_cJ hE (by decide) (by assumption) (fun _ _ => ?_))
    | (with_reducible refine oKv_cV hE (by decide) (by assumption) (fun _ _ => ?_))
    | (with_reducible refine oKv_cS hE (by decide) (by (first | assumption | exact nv_a (by assumption) (by assumption) (by decide) | exact nv_b (by assumption) (by assumption) (by decide) | exact nv_c (by assumption) (by assumption) (by decide))) (by assumption) (fun _ _ => ?_))
    | (with_reducible refine oKv_44 (by assumption) (fun _ _ => ?_))
    | (with_reducible refine oKv_rd (fun _ => ?_)))
theorem zv_353_81 (hE : fEv E) (i1 : Int32) (i4 : Int32) (s0 : Int32) (s : rS) (z : vFs Sz s) : oKv Sz (s353_81 E w i1 i4 s0 s) := by
  unfold s353_81
  repeat' (first
    | with_reducible exact oKv_rI (by assumption)
    | with_reducible exact oKv_so (by assumption)
    | exact oKv_none
    | with_reducible exact zv_353_100 hE _ _ _ _ (by assumption)
    | with_reducible exact zv_353_109 hE _ _ (by assumption)
    | with_reducible refine oKv_if (fun _ => ?_) (fun _ => ?_)
    | (with_reducible refine oKv_pI (by assumption) (fun _ _ => ?_))
    | (with_reducible refine oKv_sI (by decide) (by assumption) (fun _ _ => ?_))
    | (with_reducible refine oKv_sB (by decide) (by assumption) (fun _ _ => ?_))
    | (with_reducible refine oKv_sJ (by assumption) (fun _ _ => ?_))
    | (with_reducible refine oKv_53 (by (first | assumption | exact nv_a (by assumption) (by assumption) (by decide) | exact nv_b (by assumption) (by assumption) (by decide) | exact nv_c (by assumption) (by assumption) (by decide))) (by assumption) (fun _ _ => ?_))
    | (with_reducible refine oKv_cI hE (by decide) (by assumption) (fun _ _ => ?_))
    | (with_reducible refine oKv_cJ hE (by decide) (by assumption) (fun _ _ => ?_))
    | (with_reducible refine oKv_cV hE (by decide) (by assumption) (fun _ _ => ?_))
    | (with_reducible refine oKv_cS hE (by decide) (by (first | assumption | exact nv_a (by assumption) (by assumption) (by decide) | exact nv_b (by assumption) (by assumption) (by decide) | exact nv_c (by assumption) (by assumption) (by decide))) (by assumption) (fun _ _ => ?_))
    | (with_reducible refine oKv_44 (by assumption) (fun _ _ => ?_))
    | (with_reducible refine oKv_rd (fun _ => ?_)))
theorem zv_353_76 (hE : fEv E) (i1 : Int32) (i4 : Int32) (s : rS) (z : vFs Sz s) : oKv Sz (s353_76 E w i1 i4 s) := by
  unfold s353_76
  repeat' (first
    | with_reducible exact oKv_rI (by assumption)
    | with_reducible exact oKv_so (by assumption)
    | exact oKv_none
    | with_reducible exact zv_353_81 hE _ _ _ _ (by assumption)
    | with_reducible refine oKv_if (fun _ => ?_) (fun _ => ?_)
    | (with_reducible refine oKv_pI (by assumption) (fun _ _ => ?_))
    | (with_reducible refine oKv_sI (by decide) (by assumption) (fun _ _ => ?_))
    | (with_reducible refine oKv_sB (by decide) (by assumption) (fun _ _ => ?_))
    | (with_reducible refine oKv_sJ (by assumption) (fun _ _ => ?_))
    | (with_reducible refine oKv_53 (by (first | assumption | exact nv_a (by assumption) (by assumption) (by decide) | exact nv_b (by assumption) (by assumption) (by decide) | exact nv_c (by assumption) (by assumption) (by decide))) (by assumption) (fun _ _ => ?_))
    | (with_reducible refine oKv_cI hE (by decide) (by assumption) (fun _ _ => ?_))
    | (with_reducible refine oKv_cJ hE (by decide) (by assumption) (fun _ _ => ?_))
    | (with_reducible refine oKv_cV hE (by decide) (by assumption) (fun _ _ => ?_))
    | (with_reducible refine oKv_cS hE (by decide) (by (first | assumption | exact nv_a (by assumption) (by assumption) (by decide) | exact nv_b (by assumption) (by assumption) (by decide) | exact nv_c (by assumption) (by assumption) (by decide))) (by assumption) (fun _ _ => ?_))
    | (with_reducible refine oKv_44 (by assumption) (fun _ _ => ?_))
    | (with_reducible refine oKv_rd (fun _ => ?_)))
theorem zv_353_80 (hE : fEv E) (i1 : Int32) (i4 : Int32) (s : rS) (z : vFs Sz s) : oKv Sz (s353_80 E w i1 i4 s) := by
  unfold s353_80
  repeat' (first
    | with_reducible exact oKv_rI (by assumption)
    | with_reducible exact oKv_so (by assumption)
    | exact oKv_none
    | with_reducible exact zv_353_81 hE _ _ _ _ (by assumption)
    | with_reducible refine oKv_if (fun _ => ?_) (fun _ => ?_)
    | (with_reducible refine oKv_pI (by assumption) (fun _ _ => ?_))
    | (with_reducible refine oKv_sI (by decide) (by assumption) (fun _ _ => ?_))
    | (with_reducible refine oKv_sB (by decide) (by assumption) (fun _ _ => ?_))
    | (with_reducible refine oKv_sJ (by assumption) (fun _ _ => ?_))
    | (with_reducible refine oKv_53 (by (first | assumption | exact nv_a (by assumption) (by assumption) (by decide) | exact nv_b (by assumption) (by assumption) (by decide) | exact nv_c (by assumption) (by assumption) (by decide))) (by assumption) (fun _ _ => ?_))
    | (with_reducible refine oKv_cI hE (by decide) (by assumption) (fun _ _ => ?_))
    | (with_reducible refine oKv_cJ hE (by decide) (by assumption) (fun _ _ => ?_))
    | (with_reducible refine oKv_cV hE (by decide) (by assumption) (fun _ _ => ?_))
    | (with_reducible refine oKv_cS hE (by decide) (by (first | assumption | exact nv_a (by assumption) (by assumption) (by decide) | exact nv_b (by assumption) (by assumption) (by decide) | exact nv_c (by assumption) (by assumption) (by decide))) (by assumption) (fun _ _ => ?_))
    | (with_reducible refine oKv_44 (by assumption) (fun _ _ => ?_))
    | (with_reducible refine oKv_rd (fun _ => ?_)))
theorem zv_353_39 (hE : fEv E) (i1 : Int32) (i2 : Int32) (i3 : Int32) (s0 : Int32) (s : rS) (z : vFs Sz s) : oKv Sz (s353_39 E w i1 i2 i3 s0 s) := by
  unfold s353_39
  repeat' (first
    | with_reducible exact oKv_rI (by assumption)
    | with_reducible exact oKv_so (by assumption)
    | exact oKv_none
    | with_reducible exact zv_353_76 hE _ _ _ (by assumption)
    | with_reducible exact zv_353_80 hE _ _ _ (by assumption)
    | with_reducible exact zv_353_81 hE _ _ _ _ (by assumption)
    | with_reducible refine oKv_if (fun _ => ?_) (fun _ => ?_)
    | (with_reducible refine oKv_pI (by assumption) (fun _ _ => ?_))
    | (with_reducible refine oKv_sI (by decide) (by assumption) (fun _ _ => ?_))
    | (with_reducible refine oKv_sB (by decide) (by assumption) (fun _ _ => ?_))
    | (with_reducible refine oKv_sJ (by assumption) (fun _ _ => ?_))
    | (with_reducible refine oKv_53 (by (first | assumption | exact nv_a (by assumption) (by assumption) (by decide) | exact nv_b (by assumption) (by assumption) (by decide) | exact nv_c (by assumption) (by assumption) (by decide))) (by assumption) (fun _ _ => ?_))
    | (with_reducible refine oKv_cI hE (by decide) (by assumption) (fun _ _ => ?_))
    | (with_reducible refine oKv_cJ hE (by decide) (by assumption) (fun _ _ => ?_))
    | (with_reducible refine oKv_cV hE (by decide) (by assumption) (fun _ _ => ?_))
    | (with_reducible refine oKv_cS hE (by decide) (by (first | assumption | exact nv_a (by assumption) (by assumption) (by decide) | exact nv_b (by assumption) (by assumption) (by decide) | exact nv_c (by assumption) (by assumption) (by decide))) (by assumption) (fun _ _ => ?_))
    | (with_reducible refine oKv_44 (by assumption) (fun _ _ => ?_))
    | (with_reducible refine oKv_rd (fun _ => ?_)))
theorem zv_353_38 (hE : fEv E) (i1 : Int32) (i2 : Int32) (i3 : Int32) (s : rS) (z : vFs Sz s) : oKv Sz (s353_38 E w i1 i2 i3 s) := by
  unfold s353_38
  repeat' (first
    | with_reducible exact oKv_rI (by assumption)
    | with_reducible exact oKv_so (by assumption)
    | exact oKv_none
    | with_reducible exact zv_353_39 hE _ _ _ _ _ (by assumption)
    | with_reducible refine oKv_if (fun _ => ?_) (fun _ => ?_)
    | (with_reducible refine oKv_pI (by assumption) (fun _ _ => ?_))
    | (with_reducible refine oKv_sI (by decide) (by assumption) (fun _ _ => ?_))
    | (with_reducible refine oKv_sB (by decide) (by assumption) (fun _ _ => ?_))
    | (with_reducible refine oKv_sJ (by assumption) (fun _ _ => ?_))
    | (with_reducible refine oKv_53 (by (first | assumption | exact nv_a (by assumption) (by assumption) (by decide) | exact nv_b (by assumption) (by assumption) (by decide) | exact nv_c (by assumption) (by assumption) (by decide))) (by assumption) (fun _ _ => ?_))
    | (with_reducible refine oKv_cI hE (by decide) (by assumption) (fun _ _ => ?_))
    | (with_reducible refine oKv_cJ hE (by decide) (by assumption) (fun _ _ => ?_))
    | (with_reducible refine oKv_cV hE (by decide) (by assumption) (fun _ _ => ?_))
    | (with_reducible refine oKv_cS hE (by decide) (by (first | assumption | exact nv_a (by assumption) (by assumption) (by decide) | exact nv_b (by assumption) (by assumption) (by decide) | exact nv_c (by assumption) (by assumption) (by decide))) (by assumption) (fun _ _ => ?_))
    | (with_reducible refine oKv_44 (by assumption) (fun _ _ => ?_))
    | (with_reducible refine oKv_rd (fun _ => ?_)))
theorem zv_353_0 (hE : fEv E) (i1 : Int32) (i2 : Int32) (i3 : Int32) (s : rS) (z : vFs Sz s) : oKv Sz (s353_0 E w i1 i2 i3 s) := by
  unfold s353_0
  repeat' (first
    | with_reducible exact oKv_rI (by assumption)
    | with_reducible exact oKv_so (by assumption)
    | exact oKv_none
    | with_reducible exact zv_353_38 hE _ _ _ _ (by assumption)
    | with_reducible exact zv_353_39 hE _ _ _ _ _ (by assumption)
    | with_reducible refine oKv_if (fun _ => ?_) (fun _ => ?_)
    | (with_reducible refine oKv_pI (by assumption) (fun _ _ => ?_))
    | (with_reducible refine oKv_sI (by decide) (by assumption) (fun _ _ => ?_))
    | (with_reducible refine oKv_sB (by decide) (by assumption) (fun _ _ => ?_))
    | (with_reducible refine oKv_sJ (by assumption) (fun _ _ => ?_))
    | (with_reducible refine oKv_53 (by (first | assumption | exact nv_a (by assumption) (by assumption) (by decide) | exact nv_b (by assumption) (by assumption) (by decide) | exact nv_c (by assumption) (by assumption) (by decide))) (by assumption) (fun _ _ => ?_))
    | (with_reducible refine oKv_cI hE (by decide) (by assumption) (fun _ _ => ?_))
    | (with_reducible refine oKv_cJ hE (by decide) (by assumption) (fun _ _ => ?_))
    | (with_reducible refine oKv_cV hE (by decide) (by assumption) (fun _ _ => ?_))
    | (with_reducible refine oKv_cS hE (by decide) (by (first | assumption | exact nv_a (by assumption) (by assumption) (by decide) | exact nv_b (by assumption) (by assumption) (by decide) | exact nv_c (by assumption) (by assumption) (by decide))) (by assumption) (fun _ _ => ?_))
    | (with_reducible refine oKv_44 (by assumption) (fun _ _ => ?_))
    | (with_reducible refine oKv_rd (fun _ => ?_)))
theorem zv_354_38 (hE : fEv E) (i2 : Int32) (s : rS) (z : vFs Sz s) : oKv Sz (s354_38 E w i2 s) := by
  unfold s354_38
  repeat' (first
    | with_reducible exact oKv_rI (by assumption)
    | with_reducible exact oKv_so (by assumption)
    | exact oKv_none
    | with_reducible refine oKv_if (fun _ => ?_) (fun _ => ?_)
    | (with_reducible refine oKv_pI (by assumption) (fun _ _ => ?_))
    | (with_reducible refine oKv_sI (by decide) (by assumption) (fun _ _ => ?_))
    | (with_reducible refine oKv_sB (by decide) (by assumption) (fun _ _ => ?_))
    | (with_reducible refine oKv_sJ (by assumption) (fun _ _ => ?_))
    | (with_reducible refine oKv_53 (by (first | assumption | exact nv_a (by assumption) (by assumption) (by decide) | exact nv_b (by assumption) (by assumption) (by decide) | exact nv_c (by assumption) (by assumption) (by decide))) (by assumption) (fun _ _ => ?_))
    | (with_reducible refine oKv_cI hE (by decide) (by assumption) (fun _ _ => ?_))
    | (with_reducible refine oKv_cJ hE (by decide) (by assumption) (fun _ _ => ?_))
    | (with_reducible refine oKv_cV hE (by decide) (by assumption) (fun _ _ => ?_))
    | (with_reducible refine oKv_cS hE (by decide) (by (first | assumption | exact nv_a (by assumption) (by assumption) (by decide) | exact nv_b (by assumption) (by assumption) (by decide) | exact nv_c (by assumption) (by assumption) (by decide))) (by assumption) (fun _ _ => ?_))
    | (with_reducible refine oKv_44 (by assumption) (fun _ _ => ?_))
    | (with_reducible refine oKv_rd (fun _ => ?_)))
theorem zv_354_0 (hE : fEv E) (i1 : Int32) (i2 : Int32) (s : rS) (z : vFs Sz s) : oKv Sz (s354_0 E w i1 i2 s) := by
  unfold s354_0
  repeat' (first
    | with_reducible exact oKv_rI (by assumption)
    | with_reducible exact oKv_so (by assumption)
    | exact oKv_none
    | with_reducible exact zv_354_38 hE _ _ (by assumption)
    | with_reducible refine oKv_if (fun _ => ?_) (fun _ => ?_)
    | (with_reducible refine oKv_pI (by assumption) (fun _ _ => ?_))
    | (with_reducible refine oKv_sI (by decide) (by assumption) (fun _ _ => ?_))
    | (with_reducible refine oKv_sB (by decide) (by assumption) (fun _ _ => ?_))
    | (with_reducible refine oKv_sJ (by assumption) (fun _ _ => ?_))
    | (with_reducible refine oKv_53 (by (first | assumption | exact nv_a (by assumption) (by assumption) (by decide) | exact nv_b (by assumption) (by assumption) (by decide) | exact nv_c (by assumption) (by assumption) (by decide))) (by assumption) (fun _ _ => ?_))
    | (with_reducible refine oKv_cI hE (by decide) (by assumption) (fun _ _ => ?_))
    | (with_reducible refine oKv_cJ hE (by decide) (by assumption) (fun _ _ => ?_))
    | (with_reducible refine oKv_cV hE (by decide) (by assumption) (fun _ _ => ?_))
    | (with_reducible refine oKv_cS hE (by decide) (by (first | assumption | exact nv_a (by assumption) (by assumption) (by decide) | exact nv_b (by assumption) (by assumption) (by decide) | exact nv_c (by assumption) (by assumption) (by decide))) (by assumption) (fun _ _ => ?_))
    | (with_reducible refine oKv_44 (by assumption) (fun _ _ => ?_))
    | (with_reducible refine oKv_rd (fun _ => ?_)))
theorem zv_355_15 (hE : fEv E) (s0 : Int32) (s : rS) (z : vFs Sz s) : oKv Sz (s355_15 E w s0 s) := by
  unfold s355_15
  repeat' (first
    | with_reducible exact oKv_rI (by assumption)
    | with_reducible exact oKv_so (by assumption)
    | exact oKv_none
    | with_reducible refine oKv_if (fun _ => ?_) (fun _ => ?_)
    | (with_reducible refine oKv_pI (by assumption) (fun _ _ => ?_))
    | (with_reducible refine oKv_sI (by decide) (by assumption) (fun _ _ => ?_))
    | (with_reducible refine oKv_sB (by decide) (by assumption) (fun _ _ => ?_))
    | (with_reducible refine oKv_sJ (by assumption) (fun _ _ => ?_))
    | (with_reducible refine oKv_53 (by (first | assumption | exact nv_a (by assumption) (by assumption) (by decide) | exact nv_b (by assumption) (by assumption) (by decide) | exact nv_c (by assumption) (by assumption) (by decide))) (by assumption) (fun _ _ => ?_))
    | (with_reducible refine oKv_cI hE (by decide) (by assumption) (fun _ _ => ?_))
    | (with_reducible refine oKv_cJ hE (by decide) (by assumption) (fun _ _ => ?_))
    | (with_reducible refine oKv_cV hE (by decide) (by assumption) (fun _ _ => ?_))
    | (with_reducible refine oKv_cS hE (by decide) (by (first | assumption | exact nv_a (by assumption) (by assumption) (by decide) | exact nv_b (by assumption) (by assumption) (by decide) | exact nv_c (by assumption) (by assumption) (by decide))) (by assumption) (fun _ _ => ?_))
    | (with_reducible refine oKv_44 (by assumption) (fun _ _ => ?_))
    | (with_reducible refine oKv_rd (fun _ => ?_)))
theorem zv_355_0 (hE : fEv E) (i1 : Int32) (s : rS) (z : vFs Sz s) : oKv Sz (s355_0 E w i1 s) := by
  unfold s355_0
  repeat' (first
    | with_reducible exact oKv_rI (by assumption)
    | with_reducible exact oKv_so (by assumption)
    | exact oKv_none
    | with_reducible exact zv_355_15 hE _ _ (by assumption)
    | with_reducible refine oKv_if (fun _ => ?_) (fun _ => ?_)
    | (with_reducible refine oKv_pI (by assumption) (fun _ _ => ?_))
    | (with_reducible refine oKv_sI (by decide) (by assumption) (fun _ _ => ?_))
    | (with_reducible refine oKv_sB (by decide) (by assumption) (fun _ _ => ?_))
    | (with_reducible refine oKv_sJ (by assumption) (fun _ _ => ?_))
    | (with_reducible refine oKv_53 (by (first | assumption | exact nv_a (by assumption) (by assumption) (by decide) | exact nv_b (by assumption) (by assumption) (by decide) | exact nv_c (by assumption) (by assumption) (by decide))) (by assumption) (fun _ _ => ?_))
    | (with_reducible refine oKv_cI hE (by decide) (by assumption) (fun _ _ => ?_))
    | (with_reducible refine oKv_cJ hE (by decide) (by assumption) (fun _ _ => ?_))
    | (with_reducible refine oKv_cV hE (by decide) (by assumption) (fun _ _ => ?_))
    | (with_reducible refine oKv_cS hE (by decide) (by (first | assumption | exact nv_a (by assumption) (by assumption) (by decide) | exact nv_b (by assumption) (by assumption) (by decide) | exact nv_c (by assumption) (by assumption) (by decide))) (by assumption) (fun _ _ => ?_))
    | (with_reducible refine oKv_44 (by assumption) (fun _ _ => ?_))
    | (with_reducible refine oKv_rd (fun _ => ?_)))
theorem zv_356_8 (hE : fEv E) : ∀ (n : Nat) (b0 : Int32) (b1 : Int64) (b2 : Int32) (s : rS), vFs Sz s → oKv Sz (s356_8 E w n b0 b1 b2 s)
  | 0, _, _, _, _, _ => fun r s' e => by
    have e : (none : Option rA) = some (r, s') := e
    cases e
  | n + 1, b0, b1, b2, s, z => by
    have ih := zv_356_8 hE n
    unfold s356_8
    repeat' (first
      | with_reducible exact oKv_rI (by assumption)
      | with_reducible exact oKv_so (by assumption)
      | exact oKv_none
      | with_reducible exact ih _ _ _ _ (by assumption)
      | with_reducible refine oKv_if (fun _ => ?_) (fun _ => ?_)
      | (with_reducible refine oKv_pI (by assumption) (fun _ _ => ?_))
      | (with_reducible refine oKv_sI (by decide) (by assumption) (fun _ _ => ?_))
      | (with_reducible refine oKv_sB (by decide) (by assumption) (fun _ _ => ?_))
      | (with_reducible refine oKv_sJ (by assumption) (fun _ _ => ?_))
      | (with_reducible refine oKv_53 (by (first | assumption | exact nv_a (by assumption) (by assumption) (by decide) | exact nv_b (by assumption) (by assumption) (by decide) | exact nv_c (by assumption) (by assumption) (by decide))) (by assumption) (fun _ _ => ?_))
      | (with_reducible refine oKv_cI hE (by decide) (by assumption) (fun _ _ => ?_))
      | (with_reducible refine oKv_cJ hE (by decide) (by assumption) (fun _ _ => ?_))
      | (with_reducible refine oKv_cV hE (by decide) (by assumption) (fun _ _ => ?_))
      | (with_reducible refine oKv_cS hE (by decide) (by (first | assumption | exact nv_a (by assumption) (by assumption) (by decide) | exact nv_b (by assumption) (by assumption) (by decide) | exact nv_c (by assumption) (by assumption) (by decide))) (by assumption) (fun _ _ => ?_))
      | (with_reducible refine oKv_44 (by assumption) (fun _ _ => ?_))
      | (with_reducible refine oKv_rd (fun _ => ?_)))
theorem zv_356_0 (hE : fEv E) (i1 : Int32) (j2 : Int64) (s : rS) (z : vFs Sz s) : oKv Sz (s356_0 E w i1 j2 s) := by
  unfold s356_0
  repeat' (first
    | with_reducible exact oKv_rI (by assumption)
    | with_reducible exact oKv_so (by assumption)
    | exact oKv_none
    | with_reducible exact zv_356_8 hE _ _ _ _ _ (by assumption)
    | with_reducible refine oKv_if (fun _ => ?_) (fun _ => ?_)
    | (with_reducible refine oKv_pI (by assumption) (fun _ _ => ?_))
    | (with_reducible refine oKv_sI (by decide) (by assumption) (fun _ _ => ?_))
    | (with_reducible refine oKv_sB (by decide) (by assumption) (fun _ _ => ?_))
    | (with_reducible refine oKv_sJ (by assumption) (fun _ _ => ?_))
    | (with_reducible refine oKv_53 (by (first | assumption | exact nv_a (by assumption) (by assumption) (by decide) | exact nv_b (by assumption) (by assumption) (by decide) | exact nv_c (by assumption) (by assumption) (by decide))) (by assumption) (fun _ _ => ?_))
    | (with_reducible refine oKv_cI hE (by decide) (by assumption) (fun _ _ => ?_))
    | (with_reducible refine oKv_cJ hE (by decide) (by assumption) (fun _ _ => ?_))
    | (with_reducible refine oKv_cV hE (by decide) (by assumption) (fun _ _ => ?_))
    | (with_reducible refine oKv_cS hE (by decide) (by (first | assumption | exact nv_a (by assumption) (by assumption) (by decide) | exact nv_b (by assumption) (by assumption) (by decide) | exact nv_c (by assumption) (by assumption) (by decide))) (by assumption) (fun _ _ => ?_))
    | (with_reducible refine oKv_44 (by assumption) (fun _ _ => ?_))
    | (with_reducible refine oKv_rd (fun _ => ?_)))
theorem zv_357_63 (hE : fEv E) (s : rS) (z : vFs Sz s) : oKv Sz (s357_63 E w s) := by
  unfold s357_63
  repeat' (first
    | with_reducible exact oKv_rI (by assumption)
    | with_reducible exact oKv_so (by assumption)
    | exact oKv_none
    | with_reducible refine oKv_if (fun _ => ?_) (fun _ => ?_)
    | (with_reducible refine oKv_pI (by assumption) (fun _ _ => ?_))
    | (with_reducible refine oKv_sI (by decide) (by assumption) (fun _ _ => ?_))
    | (with_reducible refine oKv_sB (by decide) (by assumption) (fun _ _ => ?_))
    | (with_reducible refine oKv_sJ (by assumption) (fun _ _ => ?_))
    | (with_reducible refine oKv_53 (by (first | assumption | exact nv_a (by assumption) (by assumption) (by decide) | exact nv_b (by assumption) (by assumption) (by decide) | exact nv_c (by assumption) (by assumption) (by decide))) (by assumption) (fun _ _ => ?_))
    | (with_reducible refine oKv_cI hE (by decide) (by assumption) (fun _ _ => ?_))
    | (with_reducible refine oKv_cJ hE (by decide) (by assumption) (fun _ _ => ?_))
    | (with_reducible refine oKv_cV hE (by decide) (by assumption) (fun _ _ => ?_))
    | (with_reducible refine oKv_cS hE (by decide) (by (first | assumption | exact nv_a (by assumption) (by assumption) (by decide) | exact nv_b (by assumption) (by assumption) (by decide) | exact nv_c (by assumption) (by assumption) (by decide))) (by assumption) (fun _ _ => ?_))
    | (with_reducible refine oKv_44 (by assumption) (fun _ _ => ?_))
    | (with_reducible refine oKv_rd (fun _ => ?_)))
theorem zv_357_134 (hE : fEv E) (i2 : Int32) (i4 : Int32) (s : rS) (z : vFs Sz s) : oKv Sz (s357_134 E w i2 i4 s) := by
  unfold s357_134
  repeat' (first
    | with_reducible exact oKv_rI (by assumption)
    | with_reducible exact oKv_so (by assumption)
    | exact oKv_none
    | with_reducible refine oKv_if (fun _ => ?_) (fun _ => ?_)
    | (with_reducible refine oKv_pI (by assumption) (fun _ _ => ?_))
    | (with_reducible refine oKv_sI (by decide) (by assumption) (fun _ _ => ?_))
    | (with_reducible refine oKv_sB (by decide) (by assumption) (fun _ _ => ?_))
    | (with_reducible refine oKv_sJ (by assumption) (fun _ _ => ?_))
    | (with_reducible refine oKv_53 (by (first | assumption | exact nv_a (by assumption) (by assumption) (by decide) | exact nv_b (by assumption) (by assumption) (by decide) | exact nv_c (by assumption) (by assumption) (by decide))) (by assumption) (fun _ _ => ?_))
    | (with_reducible refine oKv_cI hE (by decide) (by assumption) (fun _ _ => ?_))
    | (with_reducible refine oKv_cJ hE (by decide) (by assumption) (fun _ _ => ?_))
    | (with_reducible refine oKv_cV hE (by decide) (by assumption) (fun _ _ => ?_))
    | (with_reducible refine oKv_cS hE (by decide) (by (first | assumption | exact nv_a (by assumption) (by assumption) (by decide) | exact nv_b (by assumption) (by assumption) (by decide) | exact nv_c (by assumption) (by assumption) (by decide))) (by assumption) (fun _ _ => ?_))
    | (with_reducible refine oKv_44 (by assumption) (fun _ _ => ?_))
    | (with_reducible refine oKv_rd (fun _ => ?_)))
theorem zv_357_106 (hE : fEv E) (i1 : Int32) (i2 : Int32) (i3 : Int32) (i4 : Int32) (s0 : Int32) (s : rS) (z : vFs Sz s) : oKv Sz (s357_106 E w i1 i2 i3 i4 s0 s) := by
  unfold s357_106
  repeat' (first
    | with_reducible exact oKv_rI (by assumption)
    | with_reducible exact oKv_so (by assumption)
    | exact oKv_none
    | with_reducible exact zv_357_134 hE _ _ _ (by assumption)
    | with_reducible refine oKv_if (fun _ => ?_) (fun _ => ?_)
    | (with_reducible refine oKv_pI (by assumption) (fun _ _ => ?_))
    | (with_reducible refine oKv_sI (by decide) (by assumption) (fun _ _ => ?_))
    | (with_reducible refine oKv_sB (by decide) (by assumption) (fun _ _ => ?_))
    | (with_reducible refine oKv_sJ (by assumption) (fun _ _ => ?_))
    | (with_reducible refine oKv_53 (by (first | assumption | exact nv_a (by assumption) (by assumption) (by decide) | exact nv_b (by assumption) (by assumption) (by decide) | exact nv_c (by assumption) (by assumption) (by decide))) (by assumption) (fun _ _ => ?_))
    | (with_reducible refine oKv_cI hE (by decide) (by assumption) (fun _ _ => ?_))
    | (with_reducible refine oKv_cJ hE (by decide) (by assumption) (fun _ _ => ?_))
    | (with_reducible refine oKv_cV hE (by decide) (by assumption) (fun _ _ => ?_))
    | (with_reducible refine oKv_cS hE (by decide) (by (first | assumption | exact nv_a (by assumption) (by assumption) (by decide) | exact nv_b (by assumption) (by assumption) (by decide) | exact nv_c (by assumption) (by assumption) (by decide))) (by assumption) (fun _ _ => ?_))
    | (with_reducible refine oKv_44 (by assumption) (fun _ _ => ?_))
    | (with_reducible refine oKv_rd (fun _ => ?_)))
theorem zv_357_101 (hE : fEv E) (i1 : Int32) (i2 : Int32) (i3 : Int32) (i4 : Int32) (s : rS) (z : vFs Sz s) : oKv Sz (s357_101 E w i1 i2 i3 i4 s) := by
  unfold s357_101
  repeat' (first
    | with_reducible exact oKv_rI (by assumption)
    | with_reducible exact oKv_so (by assumption)
    | exact oKv_none
    | with_reducible exact zv_357_106 hE _ _ _ _ _ _ (by assumption)
    | with_reducible refine oKv_if (fun _ => ?_) (fun _ => ?_)
    | (with_reducible refine oKv_pI (by assumption) (fun _ _ => ?_))
    | (with_reducible refine oKv_sI (by decide) (by assumption) (fun _ _ => ?_))
    | (with_reducible refine oKv_sB (by decide) (by assumption) (fun _ _ => ?_))
    | (with_reducible refine oKv_sJ (by assumption) (fun _ _ => ?_))
    | (with_reducible refine oKv_53 (by (first | assumption | exact nv_a (by assumption) (by assumption) (by decide) | exact nv_b (by assumption) (by assumption) (by decide) | exact nv_c (by assumption) (by assumption) (by decide))) (by assumption) (fun _ _ => ?_))
    | (with_reducible refine oKv_cI hE (by decide) (by assumption) (fun _ _ => ?_))
    | (with_reducible refine oKv_cJ hE (by decide) (by assumption) (fun _ _ => ?_))
    | (with_reducible refine oKv_cV hE (by decide) (by assumption) (fun _ _ => ?_))
    | (with_reducible refine oKv_cS hE (by decide) (by (first | assumption | exact nv_a (by assumption) (by assumption) (by decide) | exact nv_b (by assumption) (by assumption) (by decide) | exact nv_c (by assumption) (by assumption) (by decide))) (by assumption) (fun _ _ => ?_))
    | (with_reducible refine oKv_44 (by assumption) (fun _ _ => ?_))
    | (with_reducible refine oKv_rd (fun _ => ?_)))
theorem zv_357_34 (hE : fEv E) (i1 : Int32) (i2 : Int32) (i3 : Int32) (s0 : Int32) (s : rS) (z : vFs Sz s) : oKv Sz (s357_34 E w i1 i2 i3 s0 s) := by
  unfold s357_34
  repeat' (first
    | with_reducible exact oKv_rI (by assumption)
    | with_reducible exact oKv_so (by assumption)
    | exact oKv_none
    | with_reducible exact zv_357_101 hE _ _ _ _ _ (by assumption)
    | with_reducible exact zv_357_106 hE _ _ _ _ _ _ (by assumption)
    | with_reducible exact zv_357_63 hE _ (by assumption)
    | with_reducible refine oKv_if (fun _ => ?_) (fun _ => ?_)
    | (with_reducible refine oKv_pI (by assumption) (fun _ _ => ?_))
    | (with_reducible refine oKv_sI (by decide) (by assumption) (fun _ _ => ?_))
    | (with_reducible refine oKv_sB (by decide) (by assumption) (fun _ _ => ?_))
    | (with_reducible refine oKv_sJ (by assumption) (fun _ _ => ?_))
    | (with_reducible refine oKv_53 (by (first | assumption | exact nv_a (by assumption) (by assumption) (by decide) | exact nv_b (by assumption) (by assumption) (by decide) | exact nv_c (by assumption) (by assumption) (by decide))) (by assumption) (fun _ _ => ?_))
    | (with_reducible refine oKv_cI hE (by decide) (by assumption) (fun _ _ => ?_))
    | (with_reducible refine oKv_cJ hE (by decide) (by assumption) (fun _ _ => ?_))
    | (with_reducible refine oKv_cV hE (by decide) (by assumption) (fun _ _ => ?_))
    | (with_reducible refine oKv_cS hE (by decide) (by (first | assumption | exact nv_a (by assumption) (by assumption) (by decide) | exact nv_b (by assumption) (by assumption) (by decide) | exact nv_c (by assumption) (by assumption) (by decide))) (by assumption) (fun _ _ => ?_))
    | (with_reducible refine oKv_44 (by assumption) (fun _ _ => ?_))
    | (with_reducible refine oKv_rd (fun _ => ?_)))
theorem zv_357_0 (hE : fEv E) (i1 : Int32) (s : rS) (z : vFs Sz s) : oKv Sz (s357_0 E w i1 s) := by
  unfold s357_0
  repeat' (first
    | with_reducible exact oKv_rI (by assumption)
    | with_reducible exact oKv_so (by assumption)
    | exact oKv_none
    | with_reducible exact zv_357_34 hE _ _ _ _ _ (by assumption)
    | with_reducible refine oKv_if (fun _ => ?_) (fun _ => ?_)
    | (with_reducible refine oKv_pI (by assumption) (fun _ _ => ?_))
    | (with_reducible refine oKv_sI (by decide) (by assumption) (fun _ _ => ?_))
    | (with_reducible refine oKv_sB (by decide) (by assumption) (fun _ _ => ?_))
    | (with_reducible refine oKv_sJ (by assumption) (fun _ _ => ?_))
    | (with_reducible refine oKv_53 (by (first | assumption | exact nv_a (by assumption) (by assumption) (by decide) | exact nv_b (by assumption) (by assumption) (by decide) | exact nv_c (by assumption) (by assumption) (by decide))) (by assumption) (fun _ _ => ?_))
    | (with_reducible refine oKv_cI hE (by decide) (by assumption) (fun _ _ => ?_))
    | (with_reducible refine oKv_cJ hE (by decide) (by assumption) (fun _ _ => ?_))
    | (with_reducible refine oKv_cV hE (by decide) (by assumption) (fun _ _ => ?_))
    | (with_reducible refine oKv_cS hE (by decide) (by (first | assumption | exact nv_a (by assumption) (by assumption) (by decide) | exact nv_b (by assumption) (by assumption) (by decide) | exact nv_c (by assumption) (by assumption) (by decide))) (by assumption) (fun _ _ => ?_))
    | (with_reducible refine oKv_44 (by assumption) (fun _ _ => ?_))
    | (with_reducible refine oKv_rd (fun _ => ?_)))
theorem zv_358_104 (hE : fEv E) (i5 : Int32) (s : rS) (z : vFs Sz s) : oKv Sz (s358_104 E w i5 s) := by
  unfold s358_104
  repeat' (first
    | with_reducible exact oKv_rI (by assumption)
    | with_reducible exact oKv_so (by assumption)
    | exact oKv_none
    | with_reducible refine oKv_if (fun _ => ?_) (fun _ => ?_)
    | (with_reducible refine oKv_pI (by assumption) (fun _ _ => ?_))
    | (with_reducible refine oKv_sI (by decide) (by assumption) (fun _ _ => ?_))
    | (with_reducible refine oKv_sB (by decide) (by assumption) (fun _ _ => ?_))
    | (with_reducible refine oKv_sJ (by assumption) (fun _ _ => ?_))
    | (with_reducible refine oKv_53 (by (first | assumption | exact nv_a (by assumption) (by assumption) (by decide) | exact nv_b (by assumption) (by assumption) (by decide) | exact nv_c (by assumption) (by assumption) (by decide))) (by assumption) (fun _ _ => ?_))
    | (with_reducible refine oKv_cI hE (by decide) (by assumption) (fun _ _ => ?_))
    | (with_reducible refine oKv_cJ hE (by decide) (by assumption) (fun _ _ => ?_))
    | (with_reducible refine oKv_cV hE (by decide) (by assumption) (fun _ _ => ?_))
    | (with_reducible refine oKv_cS hE (by decide) (by (first | assumption | exact nv_a (by assumption) (by assumption) (by decide) | exact nv_b (by assumption) (by assumption) (by decide) | exact nv_c (by assumption) (by assumption) (by decide))) (by assumption) (fun _ _ => ?_))
    | (with_reducible refine oKv_44 (by assumption) (fun _ _ => ?_))
    | (with_reducible refine oKv_rd (fun _ => ?_)))
theorem zv_358_52 (hE : fEv E) : ∀ (n : Nat) (b0 : Int32) (b1 : Int32) (b2 : Int32) (s : rS), vFs Sz s → oKv Sz (s358_52 E w n b0 b1 b2 s)
  | 0, _, _, _, _, _ => fun r s' e => by
    have e : (none : Option rA) = some (r, s') := e
    cases e
  | n + 1, b0, b1, b2, s, z => by
    have ih := zv_358_52 hE n
    unfold s358_52
    repeat' (first
      | with_reducible exact oKv_rI (by assumption)
      | with_reducible exact oKv_so (by assumption)
      | exact oKv_none
      | with_reducible exact zv_358_104 hE _ _ (by assumption)
      | with_reducible exact ih _ _ _ _ (by assumption)
      | with_reducible refine oKv_if (fun _ => ?_) (fun _ => ?_)
      | (with_reducible refine oKv_pI (by assumption) (fun _ _ => ?_))
      | (with_reducible refine oKv_sI (by decide) (by assumption) (fun _ _ => ?_))
      | (with_reducible refine oKv_sB (by decide) (by assumption) (fun _ _ => ?_))
      | (with_reducible refine oKv_sJ (by assumption) (fun _ _ => ?_))
      | (with_reducible refine oKv_53 (by (first | assumption | exact nv_a (by assumption) (by assumption) (by decide) | exact nv_b (by assumption) (by assumption) (by decide) | exact nv_c (by assumption) (by assumption) (by decide))) (by assumption) (fun _ _ => ?_))
      | (with_reducible refine oKv_cI hE (by decide) (by assumption) (fun _ _ => ?_))
      | (with_reducible refine oKv_cJ hE (by decide) (by assumption) (fun _ _ => ?_))
      | (with_reducible refine oKv_cV hE (by decide) (by assumption) (fun _ _ => ?_))
      | (with_reducible refine oKv_cS hE (by decide) (by (first | assumption | exact nv_a (by assumption) (by assumption) (by decide) | exact nv_b (by assumption) (by assumption) (by decide) | exact nv_c (by assumption) (by assumption) (by decide))) (by assumption) (fun _ _ => ?_))
      | (with_reducible refine oKv_44 (by assumption) (fun _ _ => ?_))
      | (with_reducible refine oKv_rd (fun _ => ?_)))
theorem zv_358_0 (hE : fEv E) (i1 : Int32) (i2 : Int32) (i3 : Int32) (s : rS) (z : vFs Sz s) : oKv Sz (s358_0 E w i1 i2 i3 s) := by
  unfold s358_0
  repeat' (first
    | with_reducible exact oKv_rI (by assumption)
    | with_reducible exact oKv_so (by assumption)
    | exact oKv_none
    | with_reducible exact zv_358_52 hE _ _ _ _ _ (by assumption)
    | with_reducible refine oKv_if (fun _ => ?_) (fun _ => ?_)
    | (with_reducible refine oKv_pI (by assumption) (fun _ _ => ?_))
    | (with_reducible refine oKv_sI (by decide) (by assumption) (fun _ _ => ?_))
    | (with_reducible refine oKv_sB (by decide) (by assumption) (fun _ _ => ?_))
    | (with_reducible refine oKv_sJ (by assumption) (fun _ _ => ?_))
    | (with_reducible refine oKv_53 (by (first | assumption | exact nv_a (by assumption) (by assumption) (by decide) | exact nv_b (by assumption) (by assumption) (by decide) | exact nv_c (by assumption) (by assumption) (by decide))) (by assumption) (fun _ _ => ?_))
    | (with_reducible refine oKv_cI hE (by decide) (by assumption) (fun _ _ => ?_))
    | (with_reducible refine oKv_cJ hE (by decide) (by assumption) (fun _ _ => ?_))
    | (with_reducible refine oKv_cV hE (by decide) (by assumption) (fun _ _ => ?_))
    | (with_reducible refine oKv_cS hE (by decide) (by (first | assumption | exact nv_a (by assumption) (by assumption) (by decide) | exact nv_b (by assumption) (by assumption) (by decide) | exact nv_c (by assumption) (by assumption) (by decide))) (by assumption) (fun _ _ => ?_))
    | (with_reducible refine oKv_44 (by assumption) (fun _ _ => ?_))
    | (with_reducible refine oKv_rd (fun _ => ?_)))
theorem zv_359_47 (hE : fEv E) {K9 : Int32 → Int32 → Int32 → rS → Option rA} (hK9 : ∀ (a0 : Int32) (a1 : Int32) (a2 : Int32) (s : rS), vFs Sz s → oKv Sz (K9 a0 a1 a2 s)) (i1 : Int32) (i3 : Int32) (s0 : Int32) (s : rS) (z : vFs Sz s) : oKv Sz (s359_47 E w K9 i1 i3 s0 s) := by
  unfold s359_47
  repeat' (first
    | with_reducible exact oKv_rI (by assumption)
    | with_reducible exact oKv_so (by assumption)
    | exact oKv_none
    | with_reducible exact hK9 _ _ _ _ (by assumption)
    | with_reducible refine oKv_if (fun _ => ?_) (fun _ => ?_)
    | (with_reducible refine oKv_pI (by assumption) (fun _ _ => ?_))
    | (with_reducible refine oKv_sI (by decide) (by assumption) (fun _ _ => ?_))
    | (with_reducible refine oKv_sB (by decide) (by assumption) (fun _ _ => ?_))
    | (with_reducible refine oKv_sJ (by assumption) (fun _ _ => ?_))
    | (with_reducible refine oKv_53 (by (first | assumption | exact nv_a (by assumption) (by assumption) (by decide) | exact nv_b (by assumption) (by assumption) (by decide) | exact nv_c (by assumption) (by assumption) (by decide))) (by assumption) (fun _ _ => ?_))
    | (with_reducible refine oKv_cI hE (by decide) (by assumption) (fun _ _ => ?_))
    | (with_reducible refine oKv_cJ hE (by decide) (by assumption) (fun _ _ => ?_))
    | (with_reducible refine oKv_cV hE (by decide) (by assumption) (fun _ _ => ?_))
    | (with_reducible refine oKv_cS hE (by decide) (by (first | assumption | exact nv_a (by assumption) (by assumption) (by decide) | exact nv_b (by assumption) (by assumption) (by decide) | exact nv_c (by assumption) (by assumption) (by decide))) (by assumption) (fun _ _ => ?_))
    | (with_reducible refine oKv_44 (by assumption) (fun _ _ => ?_))
    | (with_reducible refine oKv_rd (fun _ => ?_)))
theorem zv_359_46 (hE : fEv E) {K9 : Int32 → Int32 → Int32 → rS → Option rA} (hK9 : ∀ (a0 : Int32) (a1 : Int32) (a2 : Int32) (s : rS), vFs Sz s → oKv Sz (K9 a0 a1 a2 s)) (i1 : Int32) (i3 : Int32) (s : rS) (z : vFs Sz s) : oKv Sz (s359_46 E w K9 i1 i3 s) := by
  unfold s359_46
  repeat' (first
    | with_reducible exact oKv_rI (by assumption)
    | with_reducible exact oKv_so (by assumption)
    | exact oKv_none
    | with_reducible exact zv_359_47 hE hK9 _ _ _ _ (by assumption)
    | with_reducible exact hK9 _ _ _ _ (by assumption)
    | with_reducible refine oKv_if (fun _ => ?_) (fun _ => ?_)
    | (with_reducible refine oKv_pI (by assumption) (fun _ _ => ?_))
    | (with_reducible refine oKv_sI (by decide) (by assumption) (fun _ _ => ?_))
    | (with_reducible refine oKv_sB (by decide) (by assumption) (fun _ _ => ?_))
    | (with_reducible refine oKv_sJ (by assumption) (fun _ _ => ?_))
    | (with_reducible refine oKv_53 (by (first | assumption | exact nv_a (by assumption) (by assumption) (by decide) | exact nv_b (by assumption) (by assumption) (by decide) | exact nv_c (by assumption) (by assumption) (by decide))) (by assumption) (fun _ _ => ?_))
    | (with_reducible refine oKv_cI hE (by decide) (by assumption) (fun _ _ => ?_))
    | (with_reducible refine oKv_cJ hE (by decide) (by assumption) (fun _ _ => ?_))
    | (with_reducible refine oKv_cV hE (by decide) (by assumption) (fun _ _ => ?_))
    | (with_reducible refine oKv_cS hE (by decide) (by (first | assumption | exact nv_a (by assumption) (by assumption) (by decide) | exact nv_b (by assumption) (by assumption) (by decide) | exact nv_c (by assumption) (by assumption) (by decide))) (by assumption) (fun _ _ => ?_))
    | (with_reducible refine oKv_44 (by assumption) (fun _ _ => ?_))
    | (with_reducible refine oKv_rd (fun _ => ?_)))
theorem zv_359_9 (hE : fEv E) : ∀ (n : Nat) (b0 : Int32) (b1 : Int32) (b2 : Int32) (s : rS), vFs Sz s → oKv Sz (s359_9 E w n b0 b1 b2 s)
  | 0, _, _, _, _, _ => fun r s' e => by
    have e : (none : Option rA) = some (r, s') := e
    cases e
  | n + 1, b0, b1, b2, s, z => by
    have ih := zv_359_9 hE n
    unfold s359_9
    repeat' (first
      | with_reducible exact oKv_rI (by assumption)
      | with_reducible exact oKv_so (by assumption)
      | exact oKv_none
      | with_reducible exact zv_359_46 hE ih _ _ _ (by assumption)
      | with_reducible exact zv_359_47 hE ih _ _ _ _ (by assumption)
      | with_reducible exact ih _ _ _ _ (by assumption)
      | with_reducible refine oKv_if (fun _ => ?_) (fun _ => ?_)
      | (with_reducible refine oKv_pI (by assumption) (fun _ _ => ?_))
      | (with_reducible refine oKv_sI (by decide) (by assumption) (fun _ _ => ?_))
      | (with_reducible refine oKv_sB (by decide) (by assumption) (fun _ _ => ?_))
      | (with_reducible refine oKv_sJ (by assumption) (fun _ _ => ?_))
      | (with_reducible refine oKv_53 (by (first | assumption | exact nv_a (by assumption) (by assumption) (by decide) | exact nv_b (by assumption) (by assumption) (by decide) | exact nv_c (by assumption) (by assumption) (by decide))) (by assumption) (fun _ _ => ?_))
      | (with_reducible refine oKv_cI hE (by decide) (by assumption) (fun _ _ => ?_))
      | (with_reducible refine oKv_cJ hE (by decide) (by assumption) (fun _ _ => ?_))
      | (with_reducible refine oKv_cV hE (by decide) (by assumption) (fun _ _ => ?_))
      | (with_reducible refine oKv_cS hE (by decide) (by (first | assumption | exact nv_a (by assumption) (by assumption) (by decide) | exact nv_b (by assumption) (by assumption) (by decide) | exact nv_c (by assumption) (by assumption) (by decide))) (by assumption) (fun _ _ => ?_))
      | (with_reducible refine oKv_44 (by assumption) (fun _ _ => ?_))
      | (with_reducible refine oKv_rd (fun _ => ?_)))
theorem zv_359_0 (hE : fEv E) (i1 : Int32) (s : rS) (z : vFs Sz s) : oKv Sz (s359_0 E w i1 s) := by
  unfold s359_0
  repeat' (first
    | with_reducible exact oKv_rI (by assumption)
    | with_reducible exact oKv_so (by assumption)
    | exact oKv_none
    | with_reducible exact zv_359_9 hE _ _ _ _ _ (by assumption)
    | with_reducible refine oKv_if (fun _ => ?_) (fun _ => ?_)
    | (with_reducible refine oKv_pI (by assumption) (fun _ _ => ?_))
    | (with_reducible refine oKv_sI (by decide) (by assumption) (fun _ _ => ?_))
    | (with_reducible refine oKv_sB (by decide) (by assumption) (fun _ _ => ?_))
    | (with_reducible refine oKv_sJ (by assumption) (fun _ _ => ?_))
    | (with_reducible refine oKv_53 (by (first | assumption | exact nv_a (by assumption) (by assumption) (by decide) | exact nv_b (by assumption) (by assumption) (by decide) | exact nv_c (by assumption) (by assumption) (by decide))) (by assumption) (fun _ _ => ?_))
    | (with_reducible refine oKv_cI hE (by decide) (by assumption) (fun _ _ => ?_))
    | (with_reducible refine oKv_cJ hE (by decide) (by assumption) (fun _ _ => ?_))
    | (with_reducible refine oKv_cV hE (by decide) (by assumption) (fun _ _ => ?_))
    | (with_reducible refine oKv_cS hE (by decide) (by (first | assumption | exact nv_a (by assumption) (by assumption) (by decide) | exact nv_b (by assumption) (by assumption) (by decide) | exact nv_c (by assumption) (by assumption) (by decide))) (by assumption) (fun _ _ => ?_))
    | (with_reducible refine oKv_44 (by assumption) (fun _ _ => ?_))
    | (with_reducible refine oKv_rd (fun _ => ?_)))
theorem zv_360_84 (hE : fEv E) (s0 : Int32) (s1 : Int32) (s : rS) (z : vFs Sz s) : oKv Sz (s360_84 E w s0 s1 s) := by
  unfold s360_84
  repeat' (first
    | with_reducible exact oKv_rI (by assumption)
    | with_reducible exact oKv_so (by assumption)
    | exact oKv_none
    | with_reducible refine oKv_if (fun _ => ?_) (fun _ => ?_)
    | (with_reducible refine oKv_pI (by assumption) (fun _ _ => ?_))
    | (with_reducible refine oKv_sI (by decide) (by assumption) (fun _ _ => ?_))
    | (with_reducible refine oKv_sB (by decide) (by assumption) (fun _ _ => ?_))
    | (with_reducible refine oKv_sJ (by assumption) (fun _ _ => ?_))
    | (with_reducible refine oKv_53 (by (first | assumption | exact nv_a (by assumption) (by assumption) (by decide) | exact nv_b (by assumption) (by assumption) (by decide) | exact nv_c (by assumption) (by assumption) (by decide))) (by assumption) (fun _ _ => ?_))
    | (with_reducible refine oKv_cI hE (by decide) (by assumption) (fun _ _ => ?_))
    | (with_reducible refine oKv_cJ hE (by decide) (by assumption) (fun _ _ => ?_))
    | (with_reducible refine oKv_cV hE (by decide) (by assumption) (fun _ _ => ?_))
    | (with_reducible refine oKv_cS hE (by decide) (by (first | assumption | exact nv_a (by assumption) (by assumption) (by decide) | exact nv_b (by assumption) (by assumption) (by decide) | exact nv_c (by assumption) (by assumption) (by decide))) (by assumption) (fun _ _ => ?_))
    | (with_reducible refine oKv_44 (by assumption) (fun _ _ => ?_))
    | (with_reducible refine oKv_rd (fun _ => ?_)))
theorem zv_360_0 (hE : fEv E) (i1 : Int32) (s : rS) (z : vFs Sz s) : oKv Sz (s360_0 E w i1 s) := by
  unfold s360_0
  repeat' (first
    | with_reducible exact oKv_rI (by assumption)
    | with_reducible exact oKv_so (by assumption)
    | exact oKv_none
    | with_reducible exact zv_360_84 hE _ _ _ (by assumption)
    | with_reducible refine oKv_if (fun _ => ?_) (fun _ => ?_)
    | (with_reducible refine oKv_pI (by assumption) (fun _ _ => ?_))
    | (with_reducible refine oKv_sI (by decide) (by assumption) (fun _ _ => ?_))
    | (with_reducible refine oKv_sB (by decide) (by assumption) (fun _ _ => ?_))
    | (with_reducible refine oKv_sJ (by assumption) (fun _ _ => ?_))
    | (with_reducible refine oKv_53 (by (first | assumption | exact nv_a (by assumption) (by assumption) (by decide) | exact nv_b (by assumption) (by assumption) (by decide) | exact nv_c (by assumption) (by assumption) (by decide))) (by assumption) (fun _ _ => ?_))
    | (with_reducible refine oKv_cI hE (by decide) (by assumption) (fun _ _ => ?_))
    | (with_reducible refine oKv_cJ hE (by decide) (by assumption) (fun _ _ => ?_))
    | (with_reducible refine oKv_cV hE (by decide) (by assumption) (fun _ _ => ?_))
    | (with_reducible refine oKv_cS hE (by decide) (by (first | assumption | exact nv_a (by assumption) (by assumption) (by decide) | exact nv_b (by assumption) (by assumption) (by decide) | exact nv_c (by assumption) (by assumption) (by decide))) (by assumption) (fun _ _ => ?_))
    | (with_reducible refine oKv_44 (by assumption) (fun _ _ => ?_))
    | (with_reducible refine oKv_rd (fun _ => ?_)))
theorem zv_361_0 (hE : fEv E) (i1 : Int32) (i2 : Int32) (i3 : Int32) (s : rS) (z : vFs Sz s) : oKv Sz (s361_0 E w i1 i2 i3 s) := by
  unfold s361_0
  repeat' (first
    | with_reducible exact oKv_rI (by assumption)
    | with_reducible exact oKv_so (by assumption)
    | exact oKv_none
    | with_reducible refine oKv_if (fun _ => ?_) (fun _ => ?_)
    | (with_reducible refine oKv_pI (by assumption) (fun _ _ => ?_))
    | (with_reducible refine oKv_sI (by decide) (by assumption) (fun _ _ => ?_))
    | (with_reducible refine oKv_sB (by decide) (by assumption) (fun _ _ => ?_))
    | (with_reducible refine oKv_sJ (by assumption) (fun _ _ => ?_))
    | (with_reducible refine oKv_53 (by (first | assumption | exact nv_a (by assumption) (by assumption) (by decide) | exact nv_b (by assumption) (by assumption) (by decide) | exact nv_c (by assumption) (by assumption) (by decide))) (by assumption) (fun _ _ => ?_))
    | (with_reducible refine oKv_cI hE (by decide) (by assumption) (fun _ _ => ?_))
    | (with_reducible refine oKv_cJ hE (by decide) (by assumption) (fun _ _ => ?_))
    | (with_reducible refine oKv_cV hE (by decide) (by assumption) (fun _ _ => ?_))
    | (with_reducible refine oKv_cS hE (by decide) (by (first | assumption | exact nv_a (by assumption) (by assumption) (by decide) | exact nv_b (by assumption) (by assumption) (by decide) | exact nv_c (by assumption) (by assumption) (by decide))) (by assumption) (fun _ _ => ?_))
    | (with_reducible refine oKv_44 (by assumption) (fun _ _ => ?_))
    | (with_reducible refine oKv_rd (fun _ => ?_)))
theorem zv_362_158 (hE : fEv E) (s0 : Int32) (s : rS) (z : vFs Sz s) : oKv Sz (s362_158 E w s0 s) := by
  unfold s362_158
  repeat' (first
    | with_reducible exact oKv_rI (by assumption)
    | with_reducible exact oKv_so (by assumption)
    | exact oKv_none
    | with_reducible refine oKv_if (fun _ => ?_) (fun _ => ?_)
    | (with_reducible refine oKv_pI (by assumption) (fun _ _ => ?_))
    | (with_reducible refine oKv_sI (by decide) (by assumption) (fun _ _ => ?_))
    | (with_reducible refine oKv_sB (by decide) (by assumption) (fun _ _ => ?_))
    | (with_reducible refine oKv_sJ (by assumption) (fun _ _ => ?_))
    | (with_reducible refine oKv_53 (by (first | assumption | exact nv_a (by assumption) (by assumption) (by decide) | exact nv_b (by assumption) (by assumption) (by decide) | exact nv_c (by assumption) (by assumption) (by decide))) (by assumption) (fun _ _ => ?_))
    | (with_reducible refine oKv_cI hE (by decide) (by assumption) (fun _ _ => ?_))
    | (with_reducible refine oKv_cJ hE (by decide) (by assumption) (fun _ _ => ?_))
    | (with_reducible refine oKv_cV hE (by decide) (by assumption) (fun _ _ => ?_))
    | (with_reducible refine oKv_cS hE (by decide) (by (first | assumption | exact nv_a (by assumption) (by assumption) (by decide) | exact nv_b (by assumption) (by assumption) (by decide) | exact nv_c (by assumption) (by assumption) (by decide))) (by assumption) (fun _ _ => ?_))
    | (with_reducible refine oKv_44 (by assumption) (fun _ _ => ?_))
    | (with_reducible refine oKv_rd (fun _ => ?_)))
theorem zv_362_87 (hE : fEv E) (i1 : Int32) (i4 : Int32) (i5 : Int32) (i6 : Int32) (s0 : Int32) (s : rS) (z : vFs Sz s) (hk : Sz.2.1 44 i1.toNatClampNeg ≠ 20) : oKv Sz (s362_87 E w i1 i4 i5 i6 s0 s) := by
  unfold s362_87
  repeat' (first
    | with_reducible exact oKv_rI (by assumption)
    | with_reducible exact oKv_so (by assumption)
    | exact oKv_none
    | with_reducible exact zv_362_158 hE _ _ (by assumption)
    | with_reducible refine oKv_if (fun _ => ?_) (fun _ => ?_)
    | (with_reducible refine oKv_pI (by assumption) (fun _ _ => ?_))
    | (with_reducible refine oKv_sI (by decide) (by assumption) (fun _ _ => ?_))
    | (with_reducible refine oKv_sB (by decide) (by assumption) (fun _ _ => ?_))
    | (with_reducible refine oKv_sJ (by assumption) (fun _ _ => ?_))
    | (with_reducible refine oKv_53 (by (first | assumption | exact nv_a (by assumption) (by assumption) (by decide) | exact nv_b (by assumption) (by assumption) (by decide) | exact nv_c (by assumption) (by assumption) (by decide))) (by assumption) (fun _ _ => ?_))
    | (with_reducible refine oKv_cI hE (by decide) (by assumption) (fun _ _ => ?_))
    | (with_reducible refine oKv_cJ hE (by decide) (by assumption) (fun _ _ => ?_))
    | (with_reducible refine oKv_cV hE (by decide) (by assumption) (fun _ _ => ?_))
    | (with_reducible refine oKv_cS hE (by decide) (by (first | assumption | exact nv_a (by assumption) (by assumption) (by decide) | exact nv_b (by assumption) (by assumption) (by decide) | exact nv_c (by assumption) (by assumption) (by decide))) (by assumption) (fun _ _ => ?_))
    | (with_reducible refine oKv_44 (by assumption) (fun _ _ => ?_))
    | (with_reducible refine oKv_rd (fun _ => ?_)))
theorem zv_362_0 (hE : fEv E) (i1 : Int32) (i2 : Int32) (i3 : Int32) (s : rS) (z : vFs Sz s) (hk : Sz.2.1 44 i1.toNatClampNeg ≠ 20) : oKv Sz (s362_0 E w i1 i2 i3 s) := by
  unfold s362_0
  repeat' (first
    | with_reducible exact oKv_rI (by assumption)
    | with_reducible exact oKv_so (by assumption)
    | exact oKv_none
    | with_reducible exact zv_362_87 hE _ _ _ _ _ _ (by assumption) (by (first | assumption | exact nv_a (by assumption) (by assumption) (by decide) | exact nv_b (by assumption) (by assumption) (by decide) | exact nv_c (by assumption) (by assumption) (by decide)))
    | with_reducible refine oKv_if (fun _ => ?_) (fun _ => ?_)
    | (with_reducible refine oKv_pI (by assumption) (fun _ _ => ?_))
    | (with_reducible refine oKv_sI (by decide) (by assumption) (fun _ _ => ?_))
    | (with_reducible refine oKv_sB (by decide) (by assumption) (fun _ _ => ?_))
    | (with_reducible refine oKv_sJ (by assumption) (fun _ _ => ?_))
    | (with_reducible refine oKv_53 (by (first | assumption | exact nv_a (by assumption) (by assumption) (by decide) | exact nv_b (by assumption) (by assumption) (by decide) | exact nv_c (by assumption) (by assumption) (by decide))) (by assumption) (fun _ _ => ?_))
    | (with_reducible refine oKv_cI hE (by decide) (by assumption) (fun _ _ => ?_))
    | (with_reducible refine oKv_cJ hE (by decide) (by assumption) (fun _ _ => ?_))
    | (with_reducible refine oKv_cV hE (by decide) (by assumption) (fun _ _ => ?_))
    | (with_reducible refine oKv_cS hE (by decide) (by (first | assumption | exact nv_a (by assumption) (by assumption) (by decide) | exact nv_b (by assumption) (by assumption) (by decide) | exact nv_c (by assumption) (by assumption) (by decide))) (by assumption) (fun _ _ => ?_))
    | (with_reducible refine oKv_44 (by assumption) (fun _ _ => ?_))
    | (with_reducible refine oKv_rd (fun _ => ?_)))
theorem zv_363_237 (hE : fEv E) (s0 : Int32) (s : rS) (z : vFs Sz s) : oKv Sz (s363_237 E w s0 s) := by
  unfold s363_237
  repeat' (first
    | with_reducible exact oKv_rI (by assumption)
    | with_reducible exact oKv_so (by assumption)
    | exact oKv_none
    | with_reducible refine oKv_if (fun _ => ?_) (fun _ => ?_)
    | (with_reducible refine oKv_pI (by assumption) (fun _ _ => ?_))
    | (with_reducible refine oKv_sI (by decide) (by assumption) (fun _ _ => ?_))
    | (with_reducible refine oKv_sB (by decide) (by assumption) (fun _ _ => ?_))
    | (with_reducible refine oKv_sJ (by assumption) (fun _ _ => ?_))
    | (with_reducible refine oKv_53 (by (first | assumption | exact nv_a (by assumption) (by assumption) (by decide) | exact nv_b (by assumption) (by assumption) (by decide) | exact nv_c (by assumption) (by assumption) (by decide))) (by assumption) (fun _ _ => ?_))
    | (with_reducible refine oKv_cI hE (by decide) (by assumption) (fun _ _ => ?_))
    | (with_reducible refine oKv_cJ hE (by decide) (by assumption) (fun _ _ => ?_))
    | (with_reducible refine oKv_cV hE (by decide) (by assumption) (fun _ _ => ?_))
    | (with_reducible refine oKv_cS hE (by decide) (by (first | assumption | exact nv_a (by assumption) (by assumption) (by decide) | exact nv_b (by assumption) (by assumption) (by decide) | exact nv_c (by assumption) (by assumption) (by decide))) (by assumption) (fun _ _ => ?_))
    | (with_reducible refine oKv_44 (by assumption) (fun _ _ => ?_))
    | (with_reducible refine oKv_rd (fun _ => ?_)))
theorem zv_363_183 (hE : fEv E) (i1 : Int32) (i2 : Int32) (i7 : Int32) (i9 : Int32) (s : rS) (z : vFs Sz s) (hk : Sz.2.1 44 i1.toNatClampNeg ≠ 20) : oKv Sz (s363_183 E w i1 i2 i7 i9 s) := by
  unfold s363_183
  repeat' (first
    | with_reducible exact oKv_rI (by assumption)
    | with_reducible exact oKv_so (by assumption)
    | exact oKv_none
    | with_reducible exact zv_363_237 hE _ _ (by assumption)
    | with_reducible refine oKv_if (fun _ => ?_) (fun _ => ?_)
    | (with_reducible refine oKv_pI (by assumption) (fun _ _ => ?_))
    | (with_reducible refine oKv_sI (by decide) (by assumption) (fun _ _ => ?_))
    | (with_reducible refine oKv_sB (by decide) (by assumption) (fun _ _ => ?_))
    | (with_reducible refine oKv_sJ (by assumption) (fun _ _ => ?_))
    | (with_reducible refine oKv_53 (by (first | assumption | exact nv_a (by assumption) (by assumption) (by decide) | exact nv_b (by assumption) (by assumption) (by decide) | exact nv_c (by assumption) (by assumption) (by decide))) (by assumption) (fun _ _ => ?_))
    | (with_reducible refine oKv_cI hE (by decide) (by assumption) (fun _ _ => ?_))
    | (with_reducible refine oKv_cJ hE (by decide) (by assumption) (fun _ _ => ?_))
    | (with_reducible refine oKv_cV hE (by decide) (by assumption) (fun _ _ => ?_))
    | (with_reducible refine oKv_cS hE (by decide) (by (first | assumption | exact nv_a (by assumption) (by assumption) (by decide) | exact nv_b (by assumption) (by assumption) (by decide) | exact nv_c (by assumption) (by assumption) (by decide))) (by assumption) (fun _ _ => ?_))
    | (with_reducible refine oKv_44 (by assumption) (fun _ _ => ?_))
    | (with_reducible refine oKv_rd (fun _ => ?_)))
theorem zv_363_181 (hE : fEv E) (i1 : Int32) (i2 : Int32) (i7 : Int32) (s0 : Int32) (s : rS) (z : vFs Sz s) (hk : Sz.2.1 44 i1.toNatClampNeg ≠ 20) : oKv Sz (s363_181 E w i1 i2 i7 s0 s) := by
  unfold s363_181
  repeat' (first
    | with_reducible exact oKv_rI (by assumption)
    | with_reducible exact oKv_so (by assumption)
    | exact oKv_none
    | with_reducible exact zv_363_183 hE _ _ _ _ _ (by assumption) (by (first | assumption | exact nv_a (by assumption) (by assumption) (by decide) | exact nv_b (by assumption) (by assumption) (by decide) | exact nv_c (by assumption) (by assumption) (by decide)))
    | with_reducible refine oKv_if (fun _ => ?_) (fun _ => ?_)
    | (with_reducible refine oKv_pI (by assumption) (fun _ _ => ?_))
    | (with_reducible refine oKv_sI (by decide) (by assumption) (fun _ _ => ?_))
    | (with_reducible refine oKv_sB (by decide) (by assumption) (fun _ _ => ?_))
    | (with_reducible refine oKv_sJ (by assumption) (fun _ _ => ?_))
    | (with_reducible refine oKv_53 (by (first | assumption | exact nv_a (by assumption) (by assumption) (by decide) | exact nv_b (by assumption) (by assumption) (by decide) | exact nv_c (by assumption) (by assumption) (by decide))) (by assumption) (fun _ _ => ?_))
    | (with_reducible refine oKv_cI hE (by decide) (by assumption) (fun _ _ => ?_))
    | (with_reducible refine oKv_cJ hE (by decide) (by assumption) (fun _ _ => ?_))
    | (with_reducible refine oKv_cV hE (by decide) (by assumption) (fun _ _ => ?_))
    | (with_reducible refine oKv_cS hE (by decide) (by (first | assumption | exact nv_a (by assumption) (by assumption) (by decide) | exact nv_b (by assumption) (by assumption) (by decide) | exact nv_c (by assumption) (by assumption) (by decide))) (by assumption) (fun _ _ => ?_))
    | (with_reducible refine oKv_44 (by assumption) (fun _ _ => ?_))
    | (with_reducible refine oKv_rd (fun _ => ?_)))
theorem zv_363_180 (hE : fEv E) (i1 : Int32) (i2 : Int32) (i7 : Int32) (s : rS) (z : vFs Sz s) (hk : Sz.2.1 44 i1.toNatClampNeg ≠ 20) : oKv Sz (s363_180 E w i1 i2 i7 s) := by
  unfold s363_180
  repeat' (first
    | with_reducible exact oKv_rI (by assumption)
    | with_reducible exact oKv_so (by assumption)
    | exact oKv_none
    | with_reducible exact zv_363_181 hE _ _ _ _ _ (by assumption) (by (first | assumption | exact nv_a (by assumption) (by assumption) (by decide) | exact nv_b (by assumption) (by assumption) (by decide) | exact nv_c (by assumption) (by assumption) (by decide)))
    | with_reducible refine oKv_if (fun _ => ?_) (fun _ => ?_)
    | (with_reducible refine oKv_pI (by assumption) (fun _ _ => ?_))
    | (with_reducible refine oKv_sI (by decide) (by assumption) (fun _ _ => ?_))
    | (with_reducible refine oKv_sB (by decide) (by assumption) (fun _ _ => ?_))
    | (with_reducible refine oKv_sJ (by assumption) (fun _ _ => ?_))
    | (with_reducible refine oKv_53 (by (first | assumption | exact nv_a (by assumption) (by assumption) (by decide) | exact nv_b (by assumption) (by assumption) (by decide) | exact nv_c (by assumption) (by assumption) (by decide))) (by assumption) (fun _ _ => ?_))
    | (with_reducible refine oKv_cI hE (by decide) (by assumption) (fun _ _ => ?_))
    | (with_reducible refine oKv_cJ hE (by decide) (by assumption) (fun _ _ => ?_))
    | (with_reducible refine oKv_cV hE (by decide) (by assumption) (fun _ _ => ?_))
    | (with_reducible refine oKv_cS hE (by decide) (by (first | assumption | exact nv_a (by assumption) (by assumption) (by decide) | exact nv_b (by assumption) (by assumption) (by decide) | exact nv_c (by assumption) (by assumption) (by decide))) (by assumption) (fun _ _ => ?_))
    | (with_reducible refine oKv_44 (by assumption) (fun _ _ => ?_))
    | (with_reducible refine oKv_rd (fun _ => ?_)))
theorem zv_363_167 (hE : fEv E) (i1 : Int32) (i2 : Int32) (i7 : Int32) (s : rS) (z : vFs Sz s) (hk : Sz.2.1 44 i1.toNatClampNeg ≠ 20) : oKv Sz (s363_167 E w i1 i2 i7 s) := by
  unfold s363_167
  repeat' (first
    | with_reducible exact oKv_rI (by assumption)
    | with_reducible exact oKv_so (by assumption)
    | exact oKv_none
    | with_reducible exact zv_363_180 hE _ _ _ _ (by assumption) (by (first | assumption | exact nv_a (by assumption) (by assumption) (by decide) | exact nv_b (by assumption) (by assumption) (by decide) | exact nv_c (by assumption) (by assumption) (by decide)))
    | with_reducible exact zv_363_181 hE _ _ _ _ _ (by assumption) (by (first | assumption | exact nv_a (by assumption) (by assumption) (by decide) | exact nv_b (by assumption) (by assumption) (by decide) | exact nv_c (by assumption) (by assumption) (by decide)))
    | with_reducible refine oKv_if (fun _ => ?_) (fun _ => ?_)
    | (with_reducible refine oKv_pI (by assumption) (fun _ _ => ?_))
    | (with_reducible refine oKv_sI (by decide) (by assumption) (fun _ _ => ?_))
    | (with_reducible refine oKv_sB (by decide) (by assumption) (fun _ _ => ?_))
    | (with_reducible refine oKv_sJ (by assumption) (fun _ _ => ?_))
    | (with_reducible refine oKv_53 (by (first | assumption | exact nv_a (by assumption) (by assumption) (by decide) | exact nv_b (by assumption) (by assumption) (by decide) | exact nv_c (by assumption) (by assumption) (by decide))) (by assumption) (fun _ _ => ?_))
    | (with_reducible refine oKv_cI hE (by decide) (by assumption) (fun _ _ => ?_))
    | (with_reducible refine oKv_cJ hE (by decide) (by assumption) (fun _ _ => ?_))
    | (with_reducible refine oKv_cV hE (by decide) (by assumption) (fun _ _ => ?_))
    | (with_reducible refine oKv_cS hE (by decide) (by (first | assumption | exact nv_a (by assumption) (by assumption) (by decide) | exact nv_b (by assumption) (by assumption) (by decide) | exact nv_c (by assumption) (by assumption) (by decide))) (by assumption) (fun _ _ => ?_))
    | (with_reducible refine oKv_44 (by assumption) (fun _ _ => ?_))
    | (with_reducible refine oKv_rd (fun _ => ?_)))
theorem zv_363_145 (hE : fEv E) (i1 : Int32) (i2 : Int32) (i5 : Int32) (i6 : Int32) (i7 : Int32) (i8 : Int32) (i9 : Int32) (s : rS) (z : vFs Sz s) (hk : Sz.2.1 44 i1.toNatClampNeg ≠ 20) : oKv Sz (s363_145 E w i1 i2 i5 i6 i7 i8 i9 s) := by
  unfold s363_145
  repeat' (first
    | with_reducible exact oKv_rI (by assumption)
    | with_reducible exact oKv_so (by assumption)
    | exact oKv_none
    | with_reducible exact zv_363_167 hE _ _ _ _ (by assumption) (by (first | assumption | exact nv_a (by assumption) (by assumption) (by decide) | exact nv_b (by assumption) (by assumption) (by decide) | exact nv_c (by assumption) (by assumption) (by decide)))
    | with_reducible exact zv_363_180 hE _ _ _ _ (by assumption) (by (first | assumption | exact nv_a (by assumption) (by assumption) (by decide) | exact nv_b (by assumption) (by assumption) (by decide) | exact nv_c (by assumption) (by assumption) (by decide)))
    | with_reducible exact zv_363_183 hE _ _ _ _ _ (by assumption) (by (first | assumption | exact nv_a (by assumption) (by assumption) (by decide) | exact nv_b (by assumption) (by assumption) (by decide) | exact nv_c (by assumption) (by assumption) (by decide)))
    | with_reducible refine oKv_if (fun _ => ?_) (fun _ => ?_)
    | (with_reducible refine oKv_pI (by assumption) (fun _ _ => ?_))
    | (with_reducible refine oKv_sI (by decide) (by assumption) (fun _ _ => ?_))
    | (with_reducible refine oKv_sB (by decide) (by assumption) (fun _ _ => ?_))
    | (with_reducible refine oKv_sJ (by assumption) (fun _ _ => ?_))
    | (with_reducible refine oKv_53 (by (first | assumption | exact nv_a (by assumption) (by assumption) (by decide) | exact nv_b (by assumption) (by assumption) (by decide) | exact nv_c (by assumption) (by assumption) (by decide))) (by assumption) (fun _ _ => ?_))
    | (with_reducible refine oKv_cI hE (by decide) (by assumption) (fun _ _ => ?_))
    | (with_reducible refine oKv_cJ hE (by decide) (by assumption) (fun _ _ => ?_))
    | (with_reducible refine oKv_cV hE (by decide) (by assumption) (fun _ _ => ?_))
    | (with_reducible refine oKv_cS hE (by decide) (by (first | assumption | exact nv_a (by assumption) (by assumption) (by decide) | exact nv_b (by assumption) (by assumption) (by decide) | exact nv_c (by assumption) (by assumption) (by decide))) (by assumption) (fun _ _ => ?_))
    | (with_reducible refine oKv_44 (by assumption) (fun _ _ => ?_))
    | (with_reducible refine oKv_rd (fun _ => ?_)))
theorem zv_363_143 (hE : fEv E) (i1 : Int32) (i2 : Int32) (i5 : Int32) (i6 : Int32) (i7 : Int32) (i8 : Int32) (s0 : Int32) (s : rS) (z : vFs Sz s) (hk : Sz.2.1 44 i1.toNatClampNeg ≠ 20) : oKv Sz (s363_143 E w i1 i2 i5 i6 i7 i8 s0 s) := by
  unfold s363_143
  repeat' (first
    | with_reducible exact oKv_rI (by assumption)
    | with_reducible exact oKv_so (by assumption)
    | exact oKv_none
    | with_reducible exact zv_363_145 hE _ _ _ _ _ _ _ _ (by assumption) (by (first | assumption | exact nv_a (by assumption) (by assumption) (by decide) | exact nv_b (by assumption) (by assumption) (by decide) | exact nv_c (by assumption) (by assumption) (by decide)))
    | with_reducible refine oKv_if (fun _ => ?_) (fun _ => ?_)
    | (with_reducible refine oKv_pI (by assumption) (fun _ _ => ?_))
    | (with_reducible refine oKv_sI (by decide) (by assumption) (fun _ _ => ?_))
    | (with_reducible refine oKv_sB (by decide) (by assumption) (fun _ _ => ?_))
    | (with_reducible refine oKv_sJ (by assumption) (fun _ _ => ?_))
    | (with_reducible refine oKv_53 (by (first | assumption | exact nv_a (by assumption) (by assumption) (by decide) | exact nv_b (by assumption) (by assumption) (by decide) | exact nv_c (by assumption) (by assumption) (by decide))) (by assumption) (fun _ _ => ?_))
    | (with_reducible refine oKv_cI hE (by decide) (by assumption) (fun _ _ => ?_))
    | (with_reducible refine oKv_cJ hE (by decide) (by assumption) (fun _ _ => ?_))
    | (with_reducible refine oKv_cV hE (by decide) (by assumption) (fun _ _ => ?_))
    | (with_reducible refine oKv_cS hE (by decide) (by (first | assumption | exact nv_a (by assumption) (by assumption) (by decide) | exact nv_b (by assumption) (by assumption) (by decide) | exact nv_c (by assumption) (by assumption) (by decide))) (by assumption) (fun _ _ => ?_))
    | (with_reducible refine oKv_44 (by assumption) (fun _ _ => ?_))
    | (with_reducible refine oKv_rd (fun _ => ?_)))
theorem zv_363_138 (hE : fEv E) (i1 : Int32) (i2 : Int32) (i5 : Int32) (i6 : Int32) (i7 : Int32) (i8 : Int32) (s : rS) (z : vFs Sz s) (hk : Sz.2.1 44 i1.toNatClampNeg ≠ 20) : oKv Sz (s363_138 E w i1 i2 i5 i6 i7 i8 s) := by
  unfold s363_138
  repeat' (first
    | with_reducible exact oKv_rI (by assumption)
    | with_reducible exact oKv_so (by assumption)
    | exact oKv_none
    | with_reducible exact zv_363_143 hE _ _ _ _ _ _ _ _ (by assumption) (by (first | assumption | exact nv_a (by assumption) (by assumption) (by decide) | exact nv_b (by assumption) (by assumption) (by decide) | exact nv_c (by assumption) (by assumption) (by decide)))
    | with_reducible refine oKv_if (fun _ => ?_) (fun _ => ?_)
    | (with_reducible refine oKv_pI (by assumption) (fun _ _ => ?_))
    | (with_reducible refine oKv_sI (by decide) (by assumption) (fun _ _ => ?_))
    | (with_reducible refine oKv_sB (by decide) (by assumption) (fun _ _ => ?_))
    | (with_reducible refine oKv_sJ (by assumption) (fun _ _ => ?_))
    | (with_reducible refine oKv_53 (by (first | assumption | exact nv_a (by assumption) (by assumption) (by decide) | exact nv_b (by assumption) (by assumption) (by decide) | exact nv_c (by assumption) (by assumption) (by decide))) (by assumption) (fun _ _ => ?_))
    | (with_reducible refine oKv_cI hE (by decide) (by assumption) (fun _ _ => ?_))
    | (with_reducible refine oKv_cJ hE (by decide) (by assumption) (fun _ _ => ?_))
    | (with_reducible refine oKv_cV hE (by decide) (by assumption) (fun _ _ => ?_))
    | (with_reducible refine oKv_cS hE (by decide) (by (first | assumption | exact nv_a (by assumption) (by assumption) (by decide) | exact nv_b (by assumption) (by assumption) (by decide) | exact nv_c (by assumption) (by assumption) (by decide))) (by assumption) (fun _ _ => ?_))
    | (with_reducible refine oKv_44 (by assumption) (fun _ _ => ?_))
    | (with_reducible refine oKv_rd (fun _ => ?_)))
theorem zv_363_142 (hE : fEv E) (i1 : Int32) (i2 : Int32) (i5 : Int32) (i6 : Int32) (i7 : Int32) (i8 : Int32) (s : rS) (z : vFs Sz s) (hk : Sz.2.1 44 i1.toNatClampNeg ≠ 20) : oKv Sz (s363_142 E w i1 i2 i5 i6 i7 i8 s) := by
  unfold s363_142
  repeat' (first
    | with_reducible exact oKv_rI (by assumption)
    | with_reducible exact oKv_so (by assumption)
    | exact oKv_none
    | with_reducible exact zv_363_143 hE _ _ _ _ _ _ _ _ (by assumption) (by (first | assumption | exact nv_a (by assumption) (by assumption) (by decide) | exact nv_b (by assumption) (by assumption) (by decide) | exact nv_c (by assumption) (by assumption) (by decide)))
    | with_reducible refine oKv_if (fun _ => ?_) (fun _ => ?_)
    | (with_reducible refine oKv_pI (by assumption) (fun _ _ => ?_))
    | (with_reducible refine oKv_sI (by decide) (by assumption) (fun _ _ => ?_))
    | (with_reducible refine oKv_sB (by decide) (by assumption) (fun _ _ => ?_))
    | (with_reducible refine oKv_sJ (by assumption) (fun _ _ => ?_))
    | (with_reducible refine oKv_53 (by (first | assumption | exact nv_a (by assumption) (by assumption) (by decide) | exact nv_b (by assumption) (by assumption) (by decide) | exact nv_c (by assumption) (by assumption) (by decide))) (by assumption) (fun _ _ => ?_))
    | (with_reducible refine oKv_cI hE (by decide) (by assumption) (fun _ _ => ?_))
    | (with_reducible refine oKv_cJ hE (by decide) (by assumption) (fun _ _ => ?_))
    | (with_reducible refine oKv_cV hE (by decide) (by assumption) (fun _ _ => ?_))
    | (with_reducible refine oKv_cS hE (by decide) (by (first | assumption | exact nv_a (by assumption) (by assumption) (by decide) | exact nv_b (by assumption) (by assumption) (by decide) | exact nv_c (by assumption) (by assumption) (by decide))) (by assumption) (fun _ _ => ?_))
    | (with_reducible refine oKv_44 (by assumption) (fun _ _ => ?_))
    | (with_reducible refine oKv_rd (fun _ => ?_)))
theorem zv_363_28 (hE : fEv E) (i1 : Int32) (i2 : Int32) (i3 : Int32) (i4 : Int32) (s0 : Int32) (s : rS) (z : vFs Sz s) (hk : Sz.2.1 44 i1.toNatClampNeg ≠ 20) : oKv Sz (s363_28 E w i1 i2 i3 i4 s0 s) := by
  unfold s363_28
  repeat' (first
    | with_reducible exact oKv_rI (by assumption)
    | with_reducible exact oKv_so (by assumption)
    | exact oKv_none
    | with_reducible exact zv_363_138 hE _ _ _ _ _ _ _ (by assumption) (by (first | assumption | exact nv_a (by assumption) (by assumption) (by decide) | exact nv_b (by assumption) (by assumption) (by decide) | exact nv_c (by assumption) (by assumption) (by decide)))
    | with_reducible exact zv_363_142 hE _ _ _ _ _ _ _ (by assumption) (by (first | assumption | exact nv_a (by assumption) (by assumption) (by decide) | exact nv_b (by assumption) (by assumption) (by decide) | exact nv_c (by assumption) (by assumption) (by decide)))
    | with_reducible exact zv_363_145 hE _ _ _ _ _ _ _ _ (by assumption) (by (first | assumption | exact nv_a (by assumption) (by assumption) (by decide) | exact nv_b (by assumption) (by assumption) (by decide) | exact nv_c (by assumption) (by assumption) (by decide)))
    | with_reducible refine oKv_if (fun _ => ?_) (fun _ => ?_)
    | (with_reducible refine oKv_pI (by assumption) (fun _ _ => ?_))
    | (with_reducible refine oKv_sI (by decide) (by assumption) (fun _ _ => ?_))
    | (with_reducible refine oKv_sB (by decide) (by assumption) (fun _ _ => ?_))
    | (with_reducible refine oKv_sJ (by assumption) (fun _ _ => ?_))
    | (with_reducible refine oKv_53 (by (first | assumption | exact nv_a (by assumption) (by assumption) (by decide) | exact nv_b (by assumption) (by assumption) (by decide) | exact nv_c (by assumption) (by assumption) (by decide))) (by assumption) (fun _ _ => ?_))
    | (with_reducible refine oKv_cI hE (by decide) (by assumption) (fun _ _ => ?_))
    | (with_reducible refine oKv_cJ hE (by decide) (by assumption) (fun _ _ => ?_))
    | (with_reducible refine oKv_cV hE (by decide) (by assumption) (fun _ _ => ?_))
    | (with_reducible refine oKv_cS hE (by decide) (by (first | assumption | exact nv_a (by assumption) (by assumption) (by decide) | exact nv_b (by assumption) (by assumption) (by decide) | exact nv_c (by assumption) (by assumption) (by decide))) (by assumption) (fun _ _ => ?_))
    | (with_reducible refine oKv_44 (by assumption) (fun _ _ => ?_))
    | (with_reducible refine oKv_rd (fun _ => ?_)))
theorem zv_363_0 (hE : fEv E) (i1 : Int32) (i2 : Int32) (i3 : Int32) (s : rS) (z : vFs Sz s) (hk : Sz.2.1 44 i1.toNatClampNeg ≠ 20) : oKv Sz (s363_0 E w i1 i2 i3 s) := by
  unfold s363_0
  repeat' (first
    | with_reducible exact oKv_rI (by assumption)
    | with_reducible exact oKv_so (by assumption)
    | exact oKv_none
    | with_reducible exact zv_363_28 hE _ _ _ _ _ _ (by assumption) (by (first | assumption | exact nv_a (by assumption) (by assumption) (by decide) | exact nv_b (by assumption) (by assumption) (by decide) | exact nv_c (by assumption) (by assumption) (by decide)))
    | with_reducible refine oKv_if (fun _ => ?_) (fun _ => ?_)
    | (with_reducible refine oKv_pI (by assumption) (fun _ _ => ?_))
    | (with_reducible refine oKv_sI (by decide) (by assumption) (fun _ _ => ?_))
    | (with_reducible refine oKv_sB (by decide) (by assumption) (fun _ _ => ?_))
    | (with_reducible refine oKv_sJ (by assumption) (fun _ _ => ?_))
    | (with_reducible refine oKv_53 (by (first | assumption | exact nv_a (by assumption) (by assumption) (by decide) | exact nv_b (by assumption) (by assumption) (by decide) | exact nv_c (by assumption) (by assumption) (by decide))) (by assumption) (fun _ _ => ?_))
    | (with_reducible refine oKv_cI hE (by decide) (by assumption) (fun _ _ => ?_))
    | (with_reducible refine oKv_cJ hE (by decide) (by assumption) (fun _ _ => ?_))
    | (with_reducible refine oKv_cV hE (by decide) (by assumption) (fun _ _ => ?_))
    | (with_reducible refine oKv_cS hE (by decide) (by (first | assumption | exact nv_a (by assumption) (by assumption) (by decide) | exact nv_b (by assumption) (by assumption) (by decide) | exact nv_c (by assumption) (by assumption) (by decide))) (by assumption) (fun _ _ => ?_))
    | (with_reducible refine oKv_44 (by assumption) (fun _ _ => ?_))
    | (with_reducible refine oKv_rd (fun _ => ?_)))
theorem zv_364_49 (hE : fEv E) {K10 : Int32 → Int32 → Int64 → Int32 → rS → Option rA} (hK10 : ∀ (a0 : Int32) (a1 : Int32) (a2 : Int64) (a3 : Int32) (s : rS), vFs Sz s → oKv Sz (K10 a0 a1 a2 a3 s)) (i1 : Int32) (i2 : Int32) (j3 : Int64) (i5 : Int32) (s : rS) (z : vFs Sz s) : oKv Sz (s364_49 E w K10 i1 i2 j3 i5 s) := by
  unfold s364_49
  repeat' (first
    | with_reducible exact oKv_rI (by assumption)
    | with_reducible exact oKv_so (by assumption)
    | exact oKv_none
    | with_reducible exact hK10 _ _ _ _ _ (by assumption)
    | with_reducible refine oKv_if (fun _ => ?_) (fun _ => ?_)
    | (with_reducible refine oKv_pI (by assumption) (fun _ _ => ?_))
    | (with_reducible refine oKv_sI (by decide) (by assumption) (fun _ _ => ?_))
    | (with_reducible refine oKv_sB (by decide) (by assumption) (fun _ _ => ?_))
    | (with_reducible refine oKv_sJ (by assumption) (fun _ _ => ?_))
    | (with_reducible refine oKv_53 (by (first | assumption | exact nv_a (by assumption) (by assumption) (by decide) | exact nv_b (by assumption) (by assumption) (by decide) | exact nv_c (by assumption) (by assumption) (by decide))) (by assumption) (fun _ _ => ?_))
    | (with_reducible refine oKv_cI hE (by decide) (by assumption) (fun _ _ => ?_))
    | (with_reducible refine oKv_cJ hE (by decide) (by assumption) (fun _ _ => ?_))
    | (with_reducible refine oKv_cV hE (by decide) (by assumption) (fun _ _ => ?_))
    | (with_reducible refine oKv_cS hE (by decide) (by (first | assumption | exact nv_a (by assumption) (by assumption) (by decide) | exact nv_b (by assumption) (by assumption) (by decide) | exact nv_c (by assumption) (by assumption) (by decide))) (by assumption) (fun _ _ => ?_))
    | (with_reducible refine oKv_44 (by assumption) (fun _ _ => ?_))
    | (with_reducible refine oKv_rd (fun _ => ?_)))
theorem zv_364_10 (hE : fEv E) : ∀ (n : Nat) (b0 : Int32) (b1 : Int32) (b2 : Int64) (b3 : Int32) (s : rS), vFs Sz s → oKv Sz (s364_10 E w n b0 b1 b2 b3 s)
  | 0, _, _, _, _, _, _ => fun r s' e => by
    have e : (none : Option rA) = some (r, s') := e
    cases e
  | n + 1, b0, b1, b2, b3, s, z => by
    have ih := zv_364_10 hE n
    unfold s364_10
    repeat' (first
      | with_reducible exact oKv_rI (by assumption)
      | with_reducible exact oKv_so (by assumption)
      | exact oKv_none
      | with_reducible exact zv_364_49 hE ih _ _ _ _ _ (by assumption)
      | with_reducible exact ih _ _ _ _ _ (by assumption)
      | with_reducible refine oKv_if (fun _ => ?_) (fun _ => ?_)
      | (with_reducible refine oKv_pI (by assumption) (fun _ _ => ?_))
      | (with_reducible refine oKv_sI (by decide) (by assumption) (fun _ _ => ?_))
      | (with_reducible refine oKv_sB (by decide) (by assumption) (fun _ _ => ?_))
      | (with_reducible refine oKv_sJ (by assumption) (fun _ _ => ?_))
      | (with_reducible refine oKv_53 (by (first | assumption | exact nv_a (by assumption) (by assumption) (by decide) | exact nv_b (by assumption) (by assumption) (by decide) | exact nv_c (by assumption) (by assumption) (by decide))) (by assumption) (fun _ _ => ?_))
      | (with_reducible refine oKv_cI hE (by decide) (by assumption) (fun _ _ => ?_))
      | (with_reducible refine oKv_cJ hE (by decide) (by assumption) (fun _ _ => ?_))
      | (with_reducible refine oKv_cV hE (by decide) (by assumption) (fun _ _ => ?_))
      | (with_reducible refine oKv_cS hE (by decide) (by (first | assumption | exact nv_a (by assumption) (by assumption) (by decide) | exact nv_b (by assumption) (by assumption) (by decide) | exact nv_c (by assumption) (by assumption) (by decide))) (by assumption) (fun _ _ => ?_))
      | (with_reducible refine oKv_44 (by assumption) (fun _ _ => ?_))
      | (with_reducible refine oKv_rd (fun _ => ?_)))
theorem zv_364_0 (hE : fEv E) (i1 : Int32) (i2 : Int32) (j3 : Int64) (s : rS) (z : vFs Sz s) : oKv Sz (s364_0 E w i1 i2 j3 s) := by
  unfold s364_0
  repeat' (first
    | with_reducible exact oKv_rI (by assumption)
    | with_reducible exact oKv_so (by assumption)
    | exact oKv_none
    | with_reducible exact zv_364_10 hE _ _ _ _ _ _ (by assumption)
    | with_reducible refine oKv_if (fun _ => ?_) (fun _ => ?_)
    | (with_reducible refine oKv_pI (by assumption) (fun _ _ => ?_))
    | (with_reducible refine oKv_sI (by decide) (by assumption) (fun _ _ => ?_))
    | (with_reducible refine oKv_sB (by decide) (by assumption) (fun _ _ => ?_))
    | (with_reducible refine oKv_sJ (by assumption) (fun _ _ => ?_))
    | (with_reducible refine oKv_53 (by (first | assumption | exact nv_a (by assumption) (by assumption) (by decide) | exact nv_b (by assumption) (by assumption) (by decide) | exact nv_c (by assumption) (by assumption) (by decide))) (by assumption) (fun _ _ => ?_))
    | (with_reducible refine oKv_cI hE (by decide) (by assumption) (fun _ _ => ?_))
    | (with_reducible refine oKv_cJ hE (by decide) (by assumption) (fun _ _ => ?_))
    | (with_reducible refine oKv_cV hE (by decide) (by assumption) (fun _ _ => ?_))
    | (with_reducible refine oKv_cS hE (by decide) (by (first | assumption | exact nv_a (by assumption) (by assumption) (by decide) | exact nv_b (by assumption) (by assumption) (by decide) | exact nv_c (by assumption) (by assumption) (by decide))) (by assumption) (fun _ _ => ?_))
    | (with_reducible refine oKv_44 (by assumption) (fun _ _ => ?_))
    | (with_reducible refine oKv_rd (fun _ => ?_)))
theorem zv_365_40 (hE : fEv E) (s0 : Int32) (s : rS) (z : vFs Sz s) : oKv Sz (s365_40 E w s0 s) := by
  unfold s365_40
  repeat' (first
    | with_reducible exact oKv_rI (by assumption)
    | with_reducible exact oKv_so (by assumption)
    | exact oKv_none
    | with_reducible refine oKv_if (fun _ => ?_) (fun _ => ?_)
    | (with_reducible refine oKv_pI (by assumption) (fun _ _ => ?_))
    | (with_reducible refine oKv_sI (by decide) (by assumption) (fun _ _ => ?_))
    | (with_reducible refine oKv_sB (by decide) (by assumption) (fun _ _ => ?_))
    | (with_reducible refine oKv_sJ (by assumption) (fun _ _ => ?_))
    | (with_reducible refine oKv_53 (by (first | assumption | exact nv_a (by assumption) (by assumption) (by decide) | exact nv_b (by assumption) (by assumption) (by decide) | exact nv_c (by assumption) (by assumption) (by decide))) (by assumption) (fun _ _ => ?_))
    | (with_reducible refine oKv_cI hE (by decide) (by assumption) (fun _ _ => ?_))
    | (with_reducible refine oKv_cJ hE (by decide) (by assumption) (fun _ _ => ?_))
    | (with_reducible refine oKv_cV hE (by decide) (by assumption) (fun _ _ => ?_))
    | (with_reducible refine oKv_cS hE (by decide) (by (first | assumption | exact nv_a (by assumption) (by assumption) (by decide) | exact nv_b (by assumption) (by assumption) (by decide) | exact nv_c (by assumption) (by assumption) (by decide))) (by assumption) (fun _ _ => ?_))
    | (with_reducible refine oKv_44 (by assumption) (fun _ _ => ?_))
    | (with_reducible refine oKv_rd (fun _ => ?_)))
theorem zv_365_35 (hE : fEv E) (s : rS) (z : vFs Sz s) : oKv Sz (s365_35 E w s) := by
  unfold s365_35
  repeat' (first
    | with_reducible exact oKv_rI (by assumption)
    | with_reducible exact oKv_so (by assumption)
    | exact oKv_none
    | with_reducible exact zv_365_40 hE _ _ (by assumption)
    | with_reducible refine oKv_if (fun _ => ?_) (fun _ => ?_)
    | (with_reducible refine oKv_pI (by assumption) (fun _ _ => ?_))
    | (with_reducible refine oKv_sI (by decide) (by assumption) (fun _ _ => ?_))
    | (with_reducible refine oKv_sB (by decide) (by assumption) (fun _ _ => ?_))
    | (with_reducible refine oKv_sJ (by assumption) (fun _ _ => ?_))
    | (with_reducible refine oKv_53 (by (first | assumption | exact nv_a (by assumption) (by assumption) (by decide) | exact nv_b (by assumption) (by assumption) (by decide) | exact nv_c (by assumption) (by assumption) (by decide))) (by assumption) (fun _ _ => ?_))
    | (with_reducible refine oKv_cI hE (by decide) (by assumption) (fun _ _ => ?_))
    | (with_reducible refine oKv_cJ hE (by decide) (by assumption) (fun _ _ => ?_))
    | (with_reducible refine oKv_cV hE (by decide) (by assumption) (fun _ _ => ?_))
    | (with_reducible refine oKv_cS hE (by decide) (by (first | assumption | exact nv_a (by assumption) (by assumption) (by decide) | exact nv_b (by assumption) (by assumption) (by decide) | exact nv_c (by assumption) (by assumption) (by decide))) (by assumption) (fun _ _ => ?_))
    | (with_reducible refine oKv_44 (by assumption) (fun _ _ => ?_))
    | (with_reducible refine oKv_rd (fun _ => ?_)))
theorem zv_365_39 (hE : fEv E) (s : rS) (z : vFs Sz s) : oKv Sz (s365_39 E w s) := by
  unfold s365_39
  repeat' (first
    | with_reducible exact oKv_rI (by assumption)
    | with_reducible exact oKv_so (by assumption)
    | exact oKv_none
    | with_reducible exact zv_365_40 hE _ _ (by assumption)
    | with_reducible refine oKv_if (fun _ => ?_) (fun _ => ?_)
    | (with_reducible refine oKv_pI (by assumption) (fun _ _ => ?_))
    | (with_reducible refine oKv_sI (by decide) (by assumption) (fun _ _ => ?_))
    | (with_reducible refine oKv_sB (by decide) (by assumption) (fun _ _ => ?_))
    | (with_reducible refine oKv_sJ (by assumption) (fun _ _ => ?_))
    | (with_reducible refine oKv_53 (by (first | assumption | exact nv_a (by assumption) (by assumption) (by decide) | exact nv_b (by assumption) (by assumption) (by decide) | exact nv_c (by assumption) (by assumption) (by decide))) (by assumption) (fun _ _ => ?_))
    | (with_reducible refine oKv_cI hE (by decide) (by assumption) (fun _ _ => ?_))
    | (with_reducible refine oKv_cJ hE (by decide) (by assumption) (fun _ _ => ?_))
    | (with_reducible refine oKv_cV hE (by decide) (by assumption) (fun _ _ => ?_))
    | (with_reducible refine oKv_cS hE (by decide) (by (first | assumption | exact nv_a (by assumption) (by assumption) (by decide) | exact nv_b (by assumption) (by assumption) (by decide) | exact nv_c (by assumption) (by assumption) (by decide))) (by assumption) (fun _ _ => ?_))
    | (with_reducible refine oKv_44 (by assumption) (fun _ _ => ?_))
    | (with_reducible refine oKv_rd (fun _ => ?_)))
theorem zv_365_0 (hE : fEv E) (i1 : Int32) (s : rS) (z : vFs Sz s) : oKv Sz (s365_0 E w i1 s) := by
  unfold s365_0
  repeat' (first
    | with_reducible exact oKv_rI (by assumption)
    | with_reducible exact oKv_so (by assumption)
    | exact oKv_none
    | with_reducible exact zv_365_35 hE _ (by assumption)
    | with_reducible exact zv_365_39 hE _ (by assumption)
    | with_reducible refine oKv_if (fun _ => ?_) (fun _ => ?_)
    | (with_reducible refine oKv_pI (by assumption) (fun _ _ => ?_))
    | (with_reducible refine oKv_sI (by decide) (by assumption) (fun _ _ => ?_))
    | (with_reducible refine oKv_sB (by decide) (by assumption) (fun _ _ => ?_))
    | (with_reducible refine oKv_sJ (by assumption) (fun _ _ => ?_))
    | (with_reducible refine oKv_53 (by (first | assumption | exact nv_a (by assumption) (by assumption) (by decide) | exact nv_b (by assumption) (by assumption) (by decide) | exact nv_c (by assumption) (by assumption) (by decide))) (by assumption) (fun _ _ => ?_))
    | (with_reducible refine oKv_cI hE (by decide) (by assumption) (fun _ _ => ?_))
    | (with_reducible refine oKv_cJ hE (by decide) (by assumption) (fun _ _ => ?_))
    | (with_reducible refine oKv_cV hE (by decide) (by assumption) (fun _ _ => ?_))
    | (with_reducible refine oKv_cS hE (by decide) (by (first | assumption | exact nv_a (by assumption) (by assumption) (by decide) | exact nv_b (by assumption) (by assumption) (by decide) | exact nv_c (by assumption) (by assumption) (by decide))) (by assumption) (fun _ _ => ?_))
    | (with_reducible refine oKv_44 (by assumption) (fun _ _ => ?_))
    | (with_reducible refine oKv_rd (fun _ => ?_)))
theorem zv_366_0 (hE : fEv E) (i1 : Int32) (i2 : Int32) (i3 : Int32) (s : rS) (z : vFs Sz s) (hk : Sz.2.1 44 i1.toNatClampNeg ≠ 20) : oKv Sz (s366_0 E w i1 i2 i3 s) := by
  unfold s366_0
  repeat' (first
    | with_reducible exact oKv_rI (by assumption)
    | with_reducible exact oKv_so (by assumption)
    | exact oKv_none
    | with_reducible refine oKv_if (fun _ => ?_) (fun _ => ?_)
    | (with_reducible refine oKv_pI (by assumption) (fun _ _ => ?_))
    | (with_reducible refine oKv_sI (by decide) (by assumption) (fun _ _ => ?_))
    | (with_reducible refine oKv_sB (by decide) (by assumption) (fun _ _ => ?_))
    | (with_reducible refine oKv_sJ (by assumption) (fun _ _ => ?_))
    | (with_reducible refine oKv_53 (by (first | assumption | exact nv_a (by assumption) (by assumption) (by decide) | exact nv_b (by assumption) (by assumption) (by decide) | exact nv_c (by assumption) (by assumption) (by decide))) (by assumption) (fun _ _ => ?_))
    | (with_reducible refine oKv_cI hE (by decide) (by assumption) (fun _ _ => ?_))
    | (with_reducible refine oKv_cJ hE (by decide) (by assumption) (fun _ _ => ?_))
    | (with_reducible refine oKv_cV hE (by decide) (by assumption) (fun _ _ => ?_))
    | (with_reducible refine oKv_cS hE (by decide) (by (first | assumption | exact nv_a (by assumption) (by assumption) (by decide) | exact nv_b (by assumption) (by assumption) (by decide) | exact nv_c (by assumption) (by assumption) (by decide))) (by assumption) (fun _ _ => ?_))
    | (with_reducible refine oKv_44 (by assumption) (fun _ _ => ?_))
    | (with_reducible refine oKv_rd (fun _ => ?_)))
theorem zv_367_24 (hE : fEv E) (s : rS) (z : vFs Sz s) : oKv Sz (s367_24 E w s) := by
  unfold s367_24
  repeat' (first
    | with_reducible exact oKv_rI (by assumption)
    | with_reducible exact oKv_so (by assumption)
    | exact oKv_none
    | with_reducible refine oKv_if (fun _ => ?_) (fun _ => ?_)
    | (with_reducible refine oKv_pI (by assumption) (fun _ _ => ?_))
    | (with_reducible refine oKv_sI (by decide) (by assumption) (fun _ _ => ?_))
    | (with_reducible refine oKv_sB (by decide) (by assumption) (fun _ _ => ?_))
    | (with_reducible refine oKv_sJ (by assumption) (fun _ _ => ?_))
    | (with_reducible refine oKv_53 (by (first | assumption | exact nv_a (by assumption) (by assumption) (by decide) | exact nv_b (by assumption) (by assumption) (by decide) | exact nv_c (by assumption) (by assumption) (by decide))) (by assumption) (fun _ _ => ?_))
    | (with_reducible refine oKv_cI hE (by decide) (by assumption) (fun _ _ => ?_))
    | (with_reducible refine oKv_cJ hE (by decide) (by assumption) (fun _ _ => ?_))
    | (with_reducible refine oKv_cV hE (by decide) (by assumption) (fun _ _ => ?_))
    | (with_reducible refine oKv_cS hE (by decide) (by (first | assumption | exact nv_a (by assumption) (by assumption) (by decide) | exact nv_b (by assumption) (by assumption) (by decide) | exact nv_c (by assumption) (by assumption) (by decide))) (by assumption) (fun _ _ => ?_))
    | (with_reducible refine oKv_44 (by assumption) (fun _ _ => ?_))
    | (with_reducible refine oKv_rd (fun _ => ?_)))
theorem zv_367_0 (hE : fEv E) (i1 : Int32) (i2 : Int32) (s : rS) (z : vFs Sz s) : oKv Sz (s367_0 E w i1 i2 s) := by
  unfold s367_0
  repeat' (first
    | with_reducible exact oKv_rI (by assumption)
    | with_reducible exact oKv_so (by assumption)
    | exact oKv_none
    | with_reducible exact zv_367_24 hE _ (by assumption)
    | with_reducible refine oKv_if (fun _ => ?_) (fun _ => ?_)
    | (with_reducible refine oKv_pI (by assumption) (fun _ _ => ?_))
    | (with_reducible refine oKv_sI (by decide) (by assumption) (fun _ _ => ?_))
    | (with_reducible refine oKv_sB (by decide) (by assumption) (fun _ _ => ?_))
    | (with_reducible refine oKv_sJ (by assumption) (fun _ _ => ?_))
    | (with_reducible refine oKv_53 (by (first | assumption | exact nv_a (by assumption) (by assumption) (by decide) | exact nv_b (by assumption) (by assumption) (by decide) | exact nv_c (by assumption) (by assumption) (by decide))) (by assumption) (fun _ _ => ?_))
    | (with_reducible refine oKv_cI hE (by decide) (by assumption) (fun _ _ => ?_))
    | (with_reducible refine oKv_cJ hE (by decide) (by assumption) (fun _ _ => ?_))
    | (with_reducible refine oKv_cV hE (by decide) (by assumption) (fun _ _ => ?_))
    | (with_reducible refine oKv_cS hE (by decide) (by (first | assumption | exact nv_a (by assumption) (by assumption) (by decide) | exact nv_b (by assumption) (by assumption) (by decide) | exact nv_c (by assumption) (by assumption) (by decide))) (by assumption) (fun _ _ => ?_))
    | (with_reducible refine oKv_44 (by assumption) (fun _ _ => ?_))
    | (with_reducible refine oKv_rd (fun _ => ?_)))
theorem zv_368_82 (hE : fEv E) (i3 : Int32) (s : rS) (z : vFs Sz s) : oKv Sz (s368_82 E w i3 s) := by
  unfold s368_82
  repeat' (first
    | with_reducible exact oKv_rI (by assumption)
    | with_reducible exact oKv_so (by assumption)
    | exact oKv_none
    | with_reducible refine oKv_if (fun _ => ?_) (fun _ => ?_)
    | (with_reducible refine oKv_pI (by assumption) (fun _ _ => ?_))
    | (with_reducible refine oKv_sI (by decide) (by assumption) (fun _ _ => ?_))
    | (with_reducible refine oKv_sB (by decide) (by assumption) (fun _ _ => ?_))
    | (with_reducible refine oKv_sJ (by assumption) (fun _ _ => ?_))
    | (with_reducible refine oKv_53 (by (first | assumption | exact nv_a (by assumption) (by assumption) (by decide) | exact nv_b (by assumption) (by assumption) (by decide) | exact nv_c (by assumption) (by assumption) (by decide))) (by assumption) (fun _ _ => ?_))
    | (with_reducible refine oKv_cI hE (by decide) (by assumption) (fun _ _ => ?_))
    | (with_reducible refine oKv_cJ hE (by decide) (by assumption) (fun _ _ => ?_))
    | (with_reducible refine oKv_cV hE (by decide) (by assumption) (fun _ _ => ?_))
    | (with_reducible refine oKv_cS hE (by decide) (by (first | assumption | exact nv_a (by assumption) (by assumption) (by decide) | exact nv_b (by assumption) (by assumption) (by decide) | exact nv_c (by assumption) (by assumption) (by decide))) (by assumption) (fun _ _ => ?_))
    | (with_reducible refine oKv_44 (by assumption) (fun _ _ => ?_))
    | (with_reducible refine oKv_rd (fun _ => ?_)))
theorem zv_368_0 (hE : fEv E) (i1 : Int32) (s : rS) (z : vFs Sz s) : oKv Sz (s368_0 E w i1 s) := by
  unfold s368_0
  repeat' (first
    | with_reducible exact oKv_rI (by assumption)
    | with_reducible exact oKv_so (by assumption)
    | exact oKv_none
    | with_reducible exact zv_368_82 hE _ _ (by assumption)
    | with_reducible refine oKv_if (fun _ => ?_) (fun _ => ?_)
    | (with_reducible refine oKv_pI (by assumption) (fun _ _ => ?_))
    | (with_reducible refine oKv_sI (by decide) (by assumption) (fun _ _ => ?_))
    | (with_reducible refine oKv_sB (by decide) (by assumption) (fun _ _ => ?_))
    | (with_reducible refine oKv_sJ (by assumption) (fun _ _ => ?_))
    | (with_reducible refine oKv_53 (by (first | assumption | exact nv_a (by assumption) (by assumption) (by decide) | exact nv_b (by assumption) (by assumption) (by decide) | exact nv_c (by assumption) (by assumption) (by decide))) (by assumption) (fun _ _ => ?_))
    | (with_reducible refine oKv_cI hE (by decide) (by assumption) (fun _ _ => ?_))
    | (with_reducible refine oKv_cJ hE (by decide) (by assumption) (fun _ _ => ?_))
    | (with_reducible refine oKv_cV hE (by decide) (by assumption) (fun _ _ => ?_))
    | (with_reducible refine oKv_cS hE (by decide) (by (first | assumption | exact nv_a (by assumption) (by assumption) (by decide) | exact nv_b (by assumption) (by assumption) (by decide) | exact nv_c (by assumption) (by assumption) (by decide))) (by assumption) (fun _ _ => ?_))
    | (with_reducible refine oKv_44 (by assumption) (fun _ _ => ?_))
    | (with_reducible refine oKv_rd (fun _ => ?_)))
theorem zv_369_102 (hE : fEv E) {K60 : Int32 → Int32 → Int32 → Int32 → rS → Option rA} (hK60 : ∀ (a0 : Int32) (a1 : Int32) (a2 : Int32) (a3 : Int32) (s : rS), vFs Sz s → oKv Sz (K60 a0 a1 a2 a3 s)) (i1 : Int32) (i2 : Int32) (i3 : Int32) (i4 : Int32) (s : rS) (z : vFs Sz s) : oKv Sz (s369_102 E w K60 i1 i2 i3 i4 s) := by
  unfold s369_102
  repeat' (first
    | with_reducible exact oKv_rI (by assumption)
    | with_reducible exact oKv_so (by assumption)
    | exact oKv_none
    | with_reducible exact hK60 _ _ _ _ _ (by assumption)
    | with_reducible refine oKv_if (fun _ => ?_) (fun _ => ?_)
    | (with_reducible refine oKv_pI (by assumption) (fun _ _ => ?_))
    | (with_reducible refine oKv_sI (by decide) (by assumption) (fun _ _ => ?_))
    | (with_reducible refine oKv_sB (by decide) (by assumption) (fun _ _ => ?_))
    | (with_reducible refine oKv_sJ (by assumption) (fun _ _ => ?_))
    | (with_reducible refine oKv_53 (by (first | assumption | exact nv_a (by assumption) (by assumption) (by decide) | exact nv_b (by assumption) (by assumption) (by decide) | exact nv_c (by assumption) (by assumption) (by decide))) (by assumption) (fun _ _ => ?_))
    | (with_reducible refine oKv_cI hE (by decide) (by assumption) (fun _ _ => ?_))
    | (with_reducible refine oKv_cJ hE (by decide) (by assumption) (fun _ _ => ?_))
    | (with_reducible refine oKv_cV hE (by decide) (by assumption) (fun _ _ => ?_))
    | (with_reducible refine oKv_cS hE (by decide) (by (first | assumption | exact nv_a (by assumption) (by assumption) (by decide) | exact nv_b (by assumption) (by assumption) (by decide) | exact nv_c (by assumption) (by assumption) (by decide))) (by assumption) (fun _ _ => ?_))
    | (with_reducible refine oKv_44 (by assumption) (fun _ _ => ?_))
    | (with_reducible refine oKv_rd (fun _ => ?_)))
theorem zv_369_60 (hE : fEv E) : ∀ (n : Nat) (b0 : Int32) (b1 : Int32) (b2 : Int32) (b3 : Int32) (s : rS), vFs Sz s → oKv Sz (s369_60 E w n b0 b1 b2 b3 s)
  | 0, _, _, _, _, _, _ => fun r s' e => by
    have e : (none : Option rA) = some (r, s') := e
    cases e
  | n + 1, b0, b1, b2, b3, s, z => by
    have ih := zv_369_60 hE n
    unfold s369_60
    repeat' (first
      | with_reducible exact oKv_rI (by assumption)
      | with_reducible exact oKv_so (by assumption)
      | exact oKv_none
      | with_reducible exact zv_369_102 hE ih _ _ _ _ _ (by assumption)
      | with_reducible exact ih _ _ _ _ _ (by assumption)
      | with_reducible refine oKv_if (fun _ => ?_) (fun _ => ?_)
      | (with_reducible refine oKv_pI (by assumption) (fun _ _ => ?_))
      | (with_reducible refine oKv_sI (by decide) (by assumption) (fun _ _ => ?_))
      | (with_reducible refine oKv_sB (by decide) (by assumption) (fun _ _ => ?_))
      | (with_reducible refine oKv_sJ (by assumption) (fun _ _ => ?_))
      | (with_reducible refine oKv_53 (by (first | assumption | exact nv_a (by assumption) (by assumption) (by decide) | exact nv_b (by assumption) (by assumption) (by decide) | exact nv_c (by assumption) (by assumption) (by decide))) (by assumption) (fun _ _ => ?_))
      | (with_reducible refine oKv_cI hE (by decide) (by assumption) (fun _ _ => ?_))
      | (with_reducible refine oKv_cJ hE (by decide) (by assumption) (fun _ _ => ?_))
      | (with_reducible refine oKv_cV hE (by decide) (by assumption) (fun _ _ => ?_))
      | (with_reducible refine oKv_cS hE (by decide) (by (first | assumption | exact nv_a (by assumption) (by assumption) (by decide) | exact nv_b (by assumption) (by assumption) (by decide) | exact nv_c (by assumption) (by assumption) (by decide))) (by assumption) (fun _ _ => ?_))
      | (with_reducible refine oKv_44 (by assumption) (fun _ _ => ?_))
      | (with_reducible refine oKv_rd (fun _ => ?_)))
theorem zv_369_0 (hE : fEv E) (i1 : Int32) (s : rS) (z : vFs Sz s) : oKv Sz (s369_0 E w i1 s) := by
  unfold s369_0
  repeat' (first
    | with_reducible exact oKv_rI (by assumption)
    | with_reducible exact oKv_so (by assumption)
    | exact oKv_none
    | with_reducible exact zv_369_60 hE _ _ _ _ _ _ (by assumption)
    | with_reducible refine oKv_if (fun _ => ?_) (fun _ => ?_)
    | (with_reducible refine oKv_pI (by assumption) (fun _ _ => ?_))
    | (with_reducible refine oKv_sI (by decide) (by assumption) (fun _ _ => ?_))
    | (with_reducible refine oKv_sB (by decide) (by assumption) (fun _ _ => ?_))
    | (with_reducible refine oKv_sJ (by assumption) (fun _ _ => ?_))
    | (with_reducible refine oKv_53 (by (first | assumption | exact nv_a (by assumption) (by assumption) (by decide) | exact nv_b (by assumption) (by assumption) (by decide) | exact nv_c (by assumption) (by assumption) (by decide))) (by assumption) (fun _ _ => ?_))
    | (with_reducible refine oKv_cI hE (by decide) (by assumption) (fun _ _ => ?_))
    | (with_reducible refine oKv_cJ hE (by decide) (by assumption) (fun _ _ => ?_))
    | (with_reducible refine oKv_cV hE (by decide) (by assumption) (fun _ _ => ?_))
    | (with_reducible refine oKv_cS hE (by decide) (by (first | assumption | exact nv_a (by assumption) (by assumption) (by decide) | exact nv_b (by assumption) (by assumption) (by decide) | exact nv_c (by assumption) (by assumption) (by decide))) (by assumption) (fun _ _ => ?_))
    | (with_reducible refine oKv_44 (by assumption) (fun _ _ => ?_))
    | (with_reducible refine oKv_rd (fun _ => ?_)))
theorem zh_290 (hE : fEv E) (As : List Value) (s : rS) (z : vFs Sz s) : oKv Sz (g290 E w As s) := by
  unfold g290
  split
  · exact zv_290_0 hE _ _ _ z
  · exact oKv_none
theorem zh_291 (hE : fEv E) (As : List Value) (s : rS) (z : vFs Sz s) : oKv Sz (g291 E w As s) := by
  unfold g291
  split
  · exact zv_291_0 hE _ _ _ z
  · exact oKv_none
theorem zh_292 (hE : fEv E) (As : List Value) (s : rS) (z : vFs Sz s) : oKv Sz (g292 E w As s) := by
  unfold g292
  split
  · exact zv_292_0 hE _ _ _ z
  · exact oKv_none
theorem zh_293 (hE : fEv E) (As : List Value) (s : rS) (z : vFs Sz s) : oKv Sz (g293 E w As s) := by
  unfold g293
  split
  · exact zv_293_0 hE _ _ _ z
  · exact oKv_none
theorem zh_305 (hE : fEv E) (As : List Value) (s : rS) (z : vFs Sz s) : oKv Sz (g305 E w As s) := by
  unfold g305
  split
  · exact zv_305_0 hE _ _ _ z
  · exact oKv_none
theorem zh_331 (hE : fEv E) (As : List Value) (s : rS) (z : vFs Sz s) : oKv Sz (g331 E w As s) := by
  unfold g331
  split
  · exact zv_331_0 hE _ _ z
  · exact oKv_none
theorem zh_332 (hE : fEv E) (As : List Value) (s : rS) (z : vFs Sz s) : oKv Sz (g332 E w As s) := by
  unfold g332
  split
  · exact zv_332_0 hE _ _ z
  · exact oKv_none
theorem zh_333 (hE : fEv E) (As : List Value) (s : rS) (z : vFs Sz s) : oKv Sz (g333 E w As s) := by
  unfold g333
  split
  · exact zv_333_0 hE _ _ z
  · exact oKv_none
theorem zh_334 (hE : fEv E) (As : List Value) (s : rS) (z : vFs Sz s) : oKv Sz (g334 E w As s) := by
  unfold g334
  split
  · exact zv_334_0 hE _ _ z
  · exact oKv_none
theorem zh_335 (hE : fEv E) (As : List Value) (s : rS) (z : vFs Sz s) : oKv Sz (g335 E w As s) := by
  unfold g335
  split
  · exact zv_335_0 hE _ _ _ _ z
  · exact oKv_none
theorem zh_336 (hE : fEv E) (As : List Value) (s : rS) (z : vFs Sz s) : oKv Sz (g336 E w As s) := by
  unfold g336
  split
  · exact zv_336_0 hE _ _ _ z
  · exact oKv_none
theorem zh_337 (hE : fEv E) (As : List Value) (s : rS) (z : vFs Sz s) : oKv Sz (g337 E w As s) := by
  unfold g337
  split
  · exact zv_337_0 hE _ _ _ z
  · exact oKv_none
theorem zh_338 (hE : fEv E) (As : List Value) (s : rS) (z : vFs Sz s) : oKv Sz (g338 E w As s) := by
  unfold g338
  split
  · exact zv_338_0 hE _ _ z
  · exact oKv_none
theorem zh_339 (hE : fEv E) (As : List Value) (s : rS) (z : vFs Sz s) : oKv Sz (g339 E w As s) := by
  unfold g339
  split
  · exact zv_339_0 hE _ _ z
  · exact oKv_none
theorem zh_340 (hE : fEv E) (As : List Value) (s : rS) (z : vFs Sz s) : oKv Sz (g340 E w As s) := by
  unfold g340
  split
  · exact zv_340_0 hE _ _ z
  · exact oKv_none
theorem zh_341 (hE : fEv E) (As : List Value) (s : rS) (z : vFs Sz s) : oKv Sz (g341 E w As s) := by
  unfold g341
  split
  · exact zv_341_0 hE _ _ z
  · exact oKv_none
theorem zh_342 (hE : fEv E) (As : List Value) (s : rS) (z : vFs Sz s) : oKv Sz (g342 E w As s) := by
  unfold g342
  split
  · exact zv_342_0 hE _ _ z
  · exact oKv_none
theorem zh_343 (hE : fEv E) (As : List Value) (s : rS) (z : vFs Sz s) : oKv Sz (g343 E w As s) := by
  unfold g343
  split
  · exact zv_343_0 hE _ _ z
  · exact oKv_none
theorem zh_344 (hE : fEv E) (As : List Value) (s : rS) (z : vFs Sz s) : oKv Sz (g344 E w As s) := by
  unfold g344
  split
  · exact zv_344_0 hE _ _ z
  · exact oKv_none
theorem zh_345 (hE : fEv E) (As : List Value) (s : rS) (z : vFs Sz s) : oKv Sz (g345 E w As s) := by
  unfold g345
  split
  · exact zv_345_0 hE _ _ z
  · exact oKv_none
theorem zh_346 (hE : fEv E) (As : List Value) (s : rS) (z : vFs Sz s) : oKv Sz (g346 E w As s) := by
  unfold g346
  split
  · exact zv_346_0 hE _ _ z
  · exact oKv_none
theorem zh_347 (hE : fEv E) (As : List Value) (s : rS) (z : vFs Sz s) : oKv Sz (g347 E w As s) := by
  unfold g347
  split
  · exact zv_347_0 hE _ _ _ z
  · exact oKv_none
theorem zh_348 (hE : fEv E) (i1 : Int32) (As : List Value) (s : rS) (z : vFs Sz s) (hk : Sz.2.1 44 i1.toNatClampNeg ≠ 20) : oKv Sz (g348 E w (.ref 36 :: .int i1 :: As) s) := by
  unfold g348
  split
  · rename_i q
    cases q
    exact zv_348_0 hE _ _ _ z hk
  · exact oKv_none
theorem zh_349 (hE : fEv E) (As : List Value) (s : rS) (z : vFs Sz s) : oKv Sz (g349 E w As s) := by
  unfold g349
  split
  · exact zv_349_0 hE _ _ z
  · exact oKv_none
theorem zh_350 (hE : fEv E) (As : List Value) (s : rS) (z : vFs Sz s) : oKv Sz (g350 E w As s) := by
  unfold g350
  split
  · exact zv_350_0 hE _ _ _ z
  · exact oKv_none
theorem zh_351 (hE : fEv E) (As : List Value) (s : rS) (z : vFs Sz s) : oKv Sz (g351 E w As s) := by
  unfold g351
  split
  · exact zv_351_0 hE _ _ _ _ z
  · exact oKv_none
theorem zh_352 (hE : fEv E) (i1 : Int32) (As : List Value) (s : rS) (z : vFs Sz s) (hk : Sz.2.1 44 i1.toNatClampNeg ≠ 20) : oKv Sz (g352 E w (.ref 36 :: .int i1 :: As) s) := by
  unfold g352
  split
  · rename_i q
    cases q
    exact zv_352_0 hE _ _ _ _ _ z hk
  · exact oKv_none
theorem zh_353 (hE : fEv E) (As : List Value) (s : rS) (z : vFs Sz s) : oKv Sz (g353 E w As s) := by
  unfold g353
  split
  · exact zv_353_0 hE _ _ _ _ z
  · exact oKv_none
theorem zh_354 (hE : fEv E) (As : List Value) (s : rS) (z : vFs Sz s) : oKv Sz (g354 E w As s) := by
  unfold g354
  split
  · exact zv_354_0 hE _ _ _ z
  · exact oKv_none
theorem zh_355 (hE : fEv E) (As : List Value) (s : rS) (z : vFs Sz s) : oKv Sz (g355 E w As s) := by
  unfold g355
  split
  · exact zv_355_0 hE _ _ z
  · exact oKv_none
theorem zh_356 (hE : fEv E) (As : List Value) (s : rS) (z : vFs Sz s) : oKv Sz (g356 E w As s) := by
  unfold g356
  split
  · exact zv_356_0 hE _ _ _ z
  · exact oKv_none
theorem zh_357 (hE : fEv E) (As : List Value) (s : rS) (z : vFs Sz s) : oKv Sz (g357 E w As s) := by
  unfold g357
  split
  · exact zv_357_0 hE _ _ z
  · exact oKv_none
theorem zh_358 (hE : fEv E) (As : List Value) (s : rS) (z : vFs Sz s) : oKv Sz (g358 E w As s) := by
  unfold g358
  split
  · exact zv_358_0 hE _ _ _ _ z
  · exact oKv_none
theorem zh_359 (hE : fEv E) (As : List Value) (s : rS) (z : vFs Sz s) : oKv Sz (g359 E w As s) := by
  unfold g359
  split
  · exact zv_359_0 hE _ _ z
  · exact oKv_none
theorem zh_360 (hE : fEv E) (As : List Value) (s : rS) (z : vFs Sz s) : oKv Sz (g360 E w As s) := by
  unfold g360
  split
  · exact zv_360_0 hE _ _ z
  · exact oKv_none
theorem zh_361 (hE : fEv E) (As : List Value) (s : rS) (z : vFs Sz s) : oKv Sz (g361 E w As s) := by
  unfold g361
  split
  · exact zv_361_0 hE _ _ _ _ z
  · exact oKv_none
theorem zh_362 (hE : fEv E) (i1 : Int32) (As : List Value) (s : rS) (z : vFs Sz s) (hk : Sz.2.1 44 i1.toNatClampNeg ≠ 20) : oKv Sz (g362 E w (.ref 36 :: .int i1 :: As) s) := by
  unfold g362
  split
  · rename_i q
    cases q
    exact zv_362_0 hE _ _ _ _ z hk
  · exact oKv_none
theorem zh_363 (hE : fEv E) (i1 : Int32) (As : List Value) (s : rS) (z : vFs Sz s) (hk : Sz.2.1 44 i1.toNatClampNeg ≠ 20) : oKv Sz (g363 E w (.ref 36 :: .int i1 :: As) s) := by
  unfold g363
  split
  · rename_i q
    cases q
    exact zv_363_0 hE _ _ _ _ z hk
  · exact oKv_none
theorem zh_364 (hE : fEv E) (As : List Value) (s : rS) (z : vFs Sz s) : oKv Sz (g364 E w As s) := by
  unfold g364
  split
  · exact zv_364_0 hE _ _ _ _ z
  · exact oKv_none
theorem zh_365 (hE : fEv E) (As : List Value) (s : rS) (z : vFs Sz s) : oKv Sz (g365 E w As s) := by
  unfold g365
  split
  · exact zv_365_0 hE _ _ z
  · exact oKv_none
theorem zh_366 (hE : fEv E) (i1 : Int32) (As : List Value) (s : rS) (z : vFs Sz s) (hk : Sz.2.1 44 i1.toNatClampNeg ≠ 20) : oKv Sz (g366 E w (.ref 36 :: .int i1 :: As) s) := by
  unfold g366
  split
  · rename_i q
    cases q
    exact zv_366_0 hE _ _ _ _ z hk
  · exact oKv_none
theorem zh_367 (hE : fEv E) (As : List Value) (s : rS) (z : vFs Sz s) : oKv Sz (g367 E w As s) := by
  unfold g367
  split
  · exact zv_367_0 hE _ _ _ z
  · exact oKv_none
theorem zh_368 (hE : fEv E) (As : List Value) (s : rS) (z : vFs Sz s) : oKv Sz (g368 E w As s) := by
  unfold g368
  split
  · exact zv_368_0 hE _ _ z
  · exact oKv_none
theorem zh_369 (hE : fEv E) (As : List Value) (s : rS) (z : vFs Sz s) : oKv Sz (g369 E w As s) := by
  unfold g369
  split
  · exact zv_369_0 hE _ _ z
  · exact oKv_none
theorem fEv_all (w : Nat) : ∀ k, fEv (rM w k)
  | 0 => ⟨fun m _ As s r s' e => (by
      have e : (none : Option rA) = some (r, s') := e
      cases e), fun m _ i1 As s r s' _ e => (by
      have e : (none : Option rA) = some (r, s') := e
      cases e)⟩
  | k + 1 => by
    have ih := fEv_all w k
    refine ⟨fun m hm As s r s' e => ?_, fun m hm i1 As s r s' hk e => ?_⟩
    · have hm' : m = 290 ∨ m = 291 ∨ m = 292 ∨ m = 293 ∨ m = 305 ∨ m = 331 ∨ m = 332 ∨ m = 333 ∨ m = 334 ∨ m = 335 ∨ m = 336 ∨ m = 337 ∨ m = 338 ∨ m = 339 ∨ m = 340 ∨ m = 341 ∨ m = 342 ∨ m = 343 ∨ m = 344 ∨ m = 345 ∨ m = 346 ∨ m = 347 ∨ m = 349 ∨ m = 350 ∨ m = 351 ∨ m = 353 ∨ m = 354 ∨ m = 355 ∨ m = 356 ∨ m = 357 ∨ m = 358 ∨ m = 359 ∨ m = 360 ∨ m = 361 ∨ m = 364 ∨ m = 365 ∨ m = 367 ∨ m = 368 ∨ m = 369 := by
        unfold fMv at hm
        simpa using hm
      rcases hm' with rfl | rfl | rfl | rfl | rfl | rfl | rfl | rfl | rfl | rfl | rfl | rfl | rfl | rfl | rfl | rfl | rfl | rfl | rfl | rfl | rfl | rfl | rfl | rfl | rfl | rfl | rfl | rfl | rfl | rfl | rfl | rfl | rfl | rfl | rfl | rfl | rfl | rfl | rfl
      · rw [y290] at e; exact zh_290 ih As s (vFs_refl s) r s' e
      · rw [y291] at e; exact zh_291 ih As s (vFs_refl s) r s' e
      · rw [y292] at e; exact zh_292 ih As s (vFs_refl s) r s' e
      · rw [y293] at e; exact zh_293 ih As s (vFs_refl s) r s' e
      · rw [y305] at e; exact zh_305 ih As s (vFs_refl s) r s' e
      · rw [y331] at e; exact zh_331 ih As s (vFs_refl s) r s' e
      · rw [y332] at e; exact zh_332 ih As s (vFs_refl s) r s' e
      · rw [y333] at e; exact zh_333 ih As s (vFs_refl s) r s' e
      · rw [y334] at e; exact zh_334 ih As s (vFs_refl s) r s' e
      · rw [y335] at e; exact zh_335 ih As s (vFs_refl s) r s' e
      · rw [y336] at e; exact zh_336 ih As s (vFs_refl s) r s' e
      · rw [y337] at e; exact zh_337 ih As s (vFs_refl s) r s' e
      · rw [y338] at e; exact zh_338 ih As s (vFs_refl s) r s' e
      · rw [y339] at e; exact zh_339 ih As s (vFs_refl s) r s' e
      · rw [y340] at e; exact zh_340 ih As s (vFs_refl s) r s' e
      · rw [y341] at e; exact zh_341 ih As s (vFs_refl s) r s' e
      · rw [y342] at e; exact zh_342 ih As s (vFs_refl s) r s' e
      · rw [y343] at e; exact zh_343 ih As s (vFs_refl s) r s' e
      · rw [y344] at e; exact zh_344 ih As s (vFs_refl s) r s' e
      · rw [y345] at e; exact zh_345 ih As s (vFs_refl s) r s' e
      · rw [y346] at e; exact zh_346 ih As s (vFs_refl s) r s' e
      · rw [y347] at e; exact zh_347 ih As s (vFs_refl s) r s' e
      · rw [y349] at e; exact zh_349 ih As s (vFs_refl s) r s' e
      · rw [y350] at e; exact zh_350 ih As s (vFs_refl s) r s' e
      · rw [y351] at e; exact zh_351 ih As s (vFs_refl s) r s' e
      · rw [y353] at e; exact zh_353 ih As s (vFs_refl s) r s' e
      · rw [y354] at e; exact zh_354 ih As s (vFs_refl s) r s' e
      · rw [y355] at e; exact zh_355 ih As s (vFs_refl s) r s' e
      · rw [y356] at e; exact zh_356 ih As s (vFs_refl s) r s' e
      · rw [y357] at e; exact zh_357 ih As s (vFs_refl s) r s' e
      · rw [y358] at e; exact zh_358 ih As s (vFs_refl s) r s' e
      · rw [y359] at e; exact zh_359 ih As s (vFs_refl s) r s' e
      · rw [y360] at e; exact zh_360 ih As s (vFs_refl s) r s' e
      · rw [y361] at e; exact zh_361 ih As s (vFs_refl s) r s' e
      · rw [y364] at e; exact zh_364 ih As s (vFs_refl s) r s' e
      · rw [y365] at e; exact zh_365 ih As s (vFs_refl s) r s' e
      · rw [y367] at e; exact zh_367 ih As s (vFs_refl s) r s' e
      · rw [y368] at e; exact zh_368 ih As s (vFs_refl s) r s' e
      · rw [y369] at e; exact zh_369 ih As s (vFs_refl s) r s' e
    · have hm' : m = 348 ∨ m = 352 ∨ m = 362 ∨ m = 363 ∨ m = 366 := by
        unfold fSv at hm
        simpa using hm
      rcases hm' with rfl | rfl | rfl | rfl | rfl
      · rw [y348] at e; exact zh_348 ih i1 As s (vFs_refl s) hk r s' e
      · rw [y352] at e; exact zh_352 ih i1 As s (vFs_refl s) hk r s' e
      · rw [y362] at e; exact zh_362 ih i1 As s (vFs_refl s) hk r s' e
      · rw [y363] at e; exact zh_363 ih i1 As s (vFs_refl s) hk r s' e
      · rw [y366] at e; exact zh_366 ih i1 As s (vFs_refl s) hk r s' e
end VFB
