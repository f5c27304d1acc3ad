/-! BOTH CHECK: small steps of both. -/
/-- the reference's light changes -/
def rL (s s' : rS) : Prop := (∀ j, j ≠ 60 → j ≠ 61 → j ≠ 64 → j ≠ 65 → s'.1 j = s.1 j) ∧ (∀ p, p ≠ 53 → p ≠ 86 → s'.2.1 p = s.2.1 p) ∧ s'.2.2 = s.2.2
/-- the reference's flag of a place -/
def pf60 (x : Int32) (b : Bool) : Prop := if b = true then 0 < x.toInt else x = 0
theorem pf_0 {x : Int32} {b : Bool} (hx : x = 0) (hb : b = false) : pf60 x b := by
  unfold pf60
  rw [hb, if_neg (by decide)]
  exact hx
theorem pf_1 {x : Int32} {b : Bool} (hx : 0 < x.toInt) (hb : b = true) : pf60 x b := by
  unfold pf60
  rw [hb, if_pos rfl]
  exact hx
theorem pf_iff {x : Int32} {b : Bool} (e : pf60 x b) : x = 0 ↔ b = false := by
  unfold pf60 at e
  cases b with
  | false =>
    rw [if_neg (by decide)] at e
    exact ⟨fun _ => rfl, fun _ => e⟩
  | true =>
    rw [if_pos rfl] at e
    exact ⟨fun z => by rw [z, i0] at e; omega, fun z => by cases z⟩
/-- what an expression of both leaves -/
def EXO (L : Nat) (xs : Nat → Int32) (cx : Nat → Nat) (C Sc M : Nat) (pt vr : Int32) (mv : Value) (hB : rm_H) (s0 : rS) (nk m Pl Ph LO HI lo hi n lv : Nat) (G : List scN) (ds : List Nat) (gn : Int32) (u : Nat → Nat) (A B : Nat → Int32) (h : rm_H) (s : rS) (cst : Nat) (t r : Int32) (h' : rm_H) (s' : rS) : Prop :=
  OUT L xs cx C Sc M pt vr mv hB s0 nk m Pl Ph LO HI lo hi lv G ds gn u A B h s cst h' s' (fun gn' u' A' B' => ∃ τ, vT s0 nk τ ∧ t = cT τ ∧ r = rTp τ ∧ s'.1 61 = oT τ ∧ pf60 (s'.1 60) (isPl (s0.2.1 44 n)) ∧ ∀ SL AA BB : Nat → Int32, (∀ i, lo ≤ i → i < hi → SL i = s'.2.1 53 i) → (∀ i, u 2 ≤ i → i < u' 2 → AA i = A' i ∧ BB i = B' i) → (TU s0 SL AA BB m (hi - lo)).1 lv G gn n τ gn' (u 2) (u' 2))
section CKU
variable {L : Nat} {xs : Nat → Int32} {zf : Value} {w C Sc M Pl Ph LO HI nk m lv n p lo hi k k2 cst : Nat} {cx : Nat → Nat} {hB h h1 h2 : rm_H} {s0 s s1 s2 : rS} {pt vr gn gn1 a b a1 b1 x y : Int32} {mv : Value} {ds kl ml : List Nat} {G : List scN} {u u1 u2 : Nat → Nat} {A B A1 B1 : Nat → Int32}
theorem rL_refl : rL s s := ⟨fun _ _ _ _ _ => rfl, fun _ _ _ => rfl, rfl⟩
theorem rL_trans (e : rL s s1) (e2 : rL s1 s2) : rL s s2 := ⟨fun j q1 q2 q3 q4 => (e2.1 j q1 q2 q3 q4).trans (e.1 j q1 q2 q3 q4), fun p q1 q2 => (e2.2.1 p q1 q2).trans (e.2.1 p q1 q2), e2.2.2.trans e.2.2⟩
theorem rL_w {j : Nat} {v : Int32} (hj : j = 60 ∨ j = 61 ∨ j = 64 ∨ j = 65) : rL s (rs_w s j v) := ⟨fun i q1 q2 q3 q4 => w_ne _ _ (by omega), fun _ _ _ => rfl, rfl⟩
theorem rL_A {q i : Nat} {v : Int32} (hq : q = 53 ∨ q = 86) : rL s (rs_wA s q i v) := ⟨fun _ _ _ _ _ => rfl, fun p q1 q2 => wA_ne _ _ _ (by omega), rfl⟩
theorem rL_K (e : rL s s1) : rK s s1 := ⟨fun j hj => e.1 j (by omega) (by omega) (by omega) (by omega), fun p q1 _ _ _ q5 => e.2.1 p q1 q5, fun p _ => by rw [e.2.2]⟩
theorem rfS_K : rK s (rfS s x y) := ⟨fun j hj => by unfold rfS; rw [w_ne _ _ (by omega), w_ne _ _ (by omega)], fun _ _ _ _ _ _ => rfl, fun _ _ => rfl⟩
theorem rfS_57 : (rfS s x y).1 57 = x := by unfold rfS; rw [w_ne _ _ (by decide), w_eq]
theorem rfS_58 : (rfS s x y).1 58 = y := by unfold rfS; rw [w_eq]
theorem RG_L (e : RG s G lv gn m) (l : rL s s1) (hg : s1.1 64 = gn1) : RG s1 G lv gn1 m := by
  obtain ⟨e1, e2, e3, e4, e5⟩ := e
  refine ⟨(l.1 62 (by decide) (by decide) (by decide) (by decide)).trans e1, (l.1 63 (by decide) (by decide) (by decide) (by decide)).trans e2, hg, ⟨(l.1 66 (by decide) (by decide) (by decide) (by decide)).trans e4.1, (l.1 58 (by decide) (by decide) (by decide) (by decide)).trans e4.2⟩, fun i x hx => ?_⟩
  rw [l.2.2, l.2.1 83 (by decide) (by decide), l.2.1 84 (by decide) (by decide), l.2.1 85 (by decide) (by decide)]
  exact e5 i x hx
/-- both go on -/
theorem CK_up (e : CKJ L xs cx C Sc M pt vr mv hB s0 nk m h s ds G lv gn 0 b u A B) (kh : KH L xs cx C Sc M pt vr mv h1 ds (gN G) (gSl G) (gTp G) gn1 (if lv = 0 then 0 else 1) 0 b1 u1 A1 B1) (wf : wF cx C Sc Pl Ph u h h1) (u0 : u1 0 = u 0) (l : rL s s1) (hg : s1.1 64 = gn1) : CKJ L xs cx C Sc M pt vr mv hB s0 nk m h1 s1 ds G lv gn1 0 b1 u1 A1 B1 := by
  obtain ⟨e1, e2, e3, e4, e5, e6, e7, e8⟩ := e
  exact ⟨kh, e2, bH_w e1 wf e3, rK_trans e4 (rL_K l), (l.1 57 (by decide) (by decide) (by decide) (by decide)).trans e5, fun z => absurd rfl z, fun _ => RG_L (e7 rfl) l hg, by rw [u0]; exact e8⟩
theorem ps_ne (hx : 0 < x.toInt) : x ≠ 0 := fun z => by rw [z, i0] at hx; omega
/-- both have the same fault -/
theorem CK_ft (e : CKJ L xs cx C Sc M pt vr mv hB s0 nk m h s ds G lv gn 0 b u A B) (kh : KH L xs cx C Sc M pt vr mv h1 ds (gN G) (gSl G) (gTp G) gn1 (if lv = 0 then 0 else 1) x y u1 A1 B1) (hx : 0 < x.toInt) (wf : wF cx C Sc Pl Ph u h h1) (u0 : u1 0 = u 0) (l : rK s s1) (e57 : s1.1 57 = x) (e58 : s1.1 58 = y) : CKJ L xs cx C Sc M pt vr mv hB s0 nk m h1 s1 ds G lv gn1 x y u1 A1 B1 := by
  obtain ⟨e1, e2, e3, e4, e5, e6, e7, e8⟩ := e
  exact ⟨kh, e2, bH_w e1 wf e3, rK_trans e4 l, e57, fun _ => ⟨e58, hx⟩, fun z => absurd z (ps_ne hx), by rw [u0]; exact e8⟩
/-- a fault is noted by both, if there is one -/
theorem CK_rz (e : CKJ L xs cx C Sc M pt vr mv hB s0 nk m h s ds G lv gn 0 b u A B) (kh : KH L xs cx C Sc M pt vr mv h1 ds (gN G) (gSl G) (gTp G) gn (if lv = 0 then 0 else 1) (fa 0 x) (fb 0 b x y) u A B) (wf : wF cx C Sc Pl Ph u h h1) (hp : x = 0 ∨ 0 < x.toInt) : CKJ L xs cx C Sc M pt vr mv hB s0 nk m h1 (rzS s x y) ds G lv gn (fa 0 x) (fb 0 b x y) u A B := by
  have f0 : fa 0 x = x := if_pos rfl
  rw [f0] at kh ⊢
  unfold rzS
  by_cases hx : x = 0
  · subst hx
    rw [if_pos rfl]
    exact CK_up e kh wf rfl rL_refl (e.2.2.2.2.2.2.1 rfl).2.2.1
  · have f1 : fb 0 b x y = y := if_pos ⟨rfl, hx⟩
    rw [f1] at kh ⊢
    rw [if_neg hx]
    exact CK_ft e kh (hp.resolve_left hx) wf rfl rfS_K rfS_57 rfS_58
end CKU
