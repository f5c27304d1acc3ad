/-! WHERE BOTH PARSERS STAND: numbers g: 0 token, 1 the array of the list of types, 2 its room, 3 locals of the method, 4 nodes, 5 types, 6 what has come behind a fault. -/
def pgC (cx : Nat → Nat) (pt vr : Int32) : rm_E := .inr (4, [.int (Int32.ofNat (cx 6)), .ref (cx 9), .ref (cx 10), .ref (cx 11), .int pt, .int vr, .null, .int 0, .int (-1), .ref (cx 12), .ref (cx 13), .int 0])
/-- the method that is read, if there is one -/
def mC (cx : Nat → Nat) (q : List Value) (h : rm_H) (g : Nat → Nat) : Prop := cx 14 = 0 ∨ (q.length = 14 ∧ hc h (cx 14) = some (.inr (11, q.set 10 (.int (Int32.ofNat (g 3))))))
/-- the class's heap -/
def CH (cx : Nat → Nat) (q : List Value) (h : rm_H) (g : Nat → Nat) (ts : List Nat) (pt vr : Int32) : Prop := hc h (cx 8) = some (pgC cx pt vr) ∧ aL h (cx 11) (g 1) (g 2) ts ∧ (∀ x ∈ ts, oK h x) ∧ uA h ∧ mC cx q h g
/-- the reference's counts -/
def CS (s : rS) (g : Nat → Nat) : Prop := s.1 56 = Int32.ofNat (g 0) ∧ s.1 10 = Int32.ofNat (g 4) ∧ s.1 26 = Int32.ofNat (g 5) ∧ 1 ≤ g 4
def SYN (cx : Nat → Nat) (F : Nat → Nat → Int32) (N : Nat → Int64) (q : List Value) (h : rm_H) (s : rS) (g : Nat → Nat) (ts : List Nat) : Prop := pC h cx F (vS cx F (g 0)) ∧ (s.1 57 = 0 ∧ s.1 58 = -1 ∧ (cx 14 ≠ 0 → s.1 59 = Int32.ofNat (g 3)) ∧ g 3 ≤ 16) ∧ rTk F N s ∧ CH cx q h g ts (s.1 24) (s.1 25) ∧ CS s g ∧ (g 0 ≤ cx 16 ∧ ts.length ≤ g 0 ∧ g 4 ≤ g 0 + 2 ∧ g 5 + 2 ≤ g 0)
def FLT (cx : Nat → Nat) (F : Nat → Nat → Int32) (N : Nat → Int64) (q : List Value) (h : rm_H) (s : rS) (g : Nat → Nat) (ts : List Nat) : Prop := (∃ v, pC h cx F v ∧ rfd v (s.1 58)) ∧ s.1 57 = 1 ∧ rTk F N s ∧ (∃ pt vr, CH cx q h g ts pt vr) ∧ CS s g ∧ (g 0 ≤ cx 16 ∧ ts.length ≤ g 0 + g 6 ∧ g 4 ≤ g 0 + 2 + g 6)
/-- what may change of the class's old cells -/
def M4 (cx : Nat → Nat) (ar : Nat) : Nat → Prop := fun p => p = cx 0 ∨ p = cx 8 ∨ p = cx 11 ∨ p = cx 14 ∨ p = ar
/-- what the reference's parser leaves alone -/
def rF (s s' : rS) : Prop := (∀ j, j ≠ 10 → j ≠ 24 → j ≠ 25 → j ≠ 26 → j ≠ 56 → j ≠ 57 → j ≠ 58 → j ≠ 59 → s'.1 j = s.1 j) ∧ (∀ p, p < 44 ∨ 60 < p ∨ p = 56 → s'.2.1 p = s.2.1 p) ∧ ∀ p, p ≠ 56 → p ≠ 61 → s'.2.2 p = s.2.2 p
/-- nodes below nd are as they were -/
def sX (s s' : rS) (nd : Nat) : Prop := ∀ i, i < nd → (∀ p, 44 ≤ p → p ≤ 55 → s'.2.1 p i = s.2.1 p i) ∧ s'.2.2 56 i = s.2.2 56 i
section ST
variable {cx : Nat → Nat} {F : Nat → Nat → Int32} {N : Nat → Int64} {q : List Value} {h h1 : rm_H} {s s1 s2 : rS} {g g2 : Nat → Nat} {ts : List Nat} {pt vr : Int32} {v0 : Nat → Int32}
/-- a write to an object that is none of the parser's own -/
theorem mC_fr {P : Nat → Prop} (f : fr P h h1) (hn : ∀ fs, hc h (cx 14) = some (.inr (11, fs)) → ¬ P (cx 14)) (c : mC cx q h g) : mC cx q h1 g := by
  rcases c with c | ⟨c1, c2⟩
  · exact Or.inl c
  · exact Or.inr ⟨c1, fr_old f c2 (hn _ c2)⟩
theorem CH_w {a ci : Nat} {fs : List Value} (e : hc h a = some (.inr (ci, fs))) (hci : ci ≠ 4 ∧ ci ≠ 5 ∧ ci ≠ 11) (w : st1 a h h1) (c : CH cx q h g ts pt vr) : CH cx q h1 g ts pt vr := by
  obtain ⟨c1, c2, c3, c4, c5⟩ := c
  have n1 : cx 8 ≠ a := fun z => by rw [z, e] at c1; cases c1; exact absurd rfl hci.1
  refine ⟨st1_old w c1 n1, aL_fr w.1 ?_ ?_ c2, fun x hx => oK_fr w.1 (c3 x hx), uA_st e hci.2.1 w c4, mC_fr w.1 (fun fs z y => by rw [y, e] at z; cases z; exact absurd rfl hci.2.2) c5⟩
  · obtain ⟨mc, e1, _⟩ := c2
    exact fun z => by rw [z, e] at e1; cases e1; exact absurd rfl hci.2.1
  · intro h5 y
    obtain ⟨mc, e1, _, _, e3⟩ := c2
    rcases e3 with ⟨z, _⟩ | ⟨f, z, _⟩
    · exact h5 z
    · rw [y, e] at z; cases z
theorem CH_ap {c : rm_E} (hcc : (∀ fs, c ≠ .inr (5, fs)) ∨ c = .inr (5, [.ref 5, .int 0, .int 0])) (e : CH cx q h g ts pt vr) : CH cx q (h ++ [c]) g ts pt vr := by
  obtain ⟨c1, c2, c3, c4, c5⟩ := e
  exact ⟨hc_up c1, aL_fr (fr_app (fun _ => False) c) id (fun _ => id) c2, fun x hx => oK_fr (fr_app (fun _ => False) c) (c3 x hx), uA_ap hcc c4, mC_fr (fr_app (fun _ => False) c) (fun _ _ => id) c5⟩
theorem CH_r (hP : pC h cx F v0) (w : st1 (cx 0) h h1) (c : CH cx q h g ts pt vr) : CH cx q h1 g ts pt vr := CH_w (pC_r hP) (by decide) w c
theorem CH_fr (hP : pC h cx F v0) (f : fr (fun p => p = cx 0) h h1) (u : uA h → uA h1) (c : CH cx q h g ts pt vr) : CH cx q h1 g ts pt vr := by
  have e := pC_r hP
  obtain ⟨c1, c2, c3, c4, c5⟩ := c
  have n1 : cx 8 ≠ cx 0 := fun z => by rw [z, e] at c1; cases c1
  refine ⟨fr_old f c1 n1, aL_fr f ?_ ?_ c2, fun x hx => oK_fr f (c3 x hx), u c4, mC_fr f (fun fs z y => by rw [y, e] at z; cases z) c5⟩
  · obtain ⟨mc, e1, _⟩ := c2
    exact fun z => by rw [z, e] at e1; cases e1
  · intro h5 y
    obtain ⟨mc, e1, _, _, e3⟩ := c2
    rcases e3 with ⟨z, _⟩ | ⟨f, z, _⟩
    · exact h5 z
    · rw [y, e] at z; cases z
theorem CH_g (e1 : g2 1 = g 1) (e2 : g2 2 = g 2) (e3 : g2 3 = g 3) (c : CH cx q h g ts pt vr) : CH cx q h g2 ts pt vr := by
  unfold CH mC at c ⊢
  rw [e1, e2, e3]
  exact c
/-- a write to an object that is neither the reader nor the parser -/
theorem pC_w {a ci : Nat} {fs : List Value} (e : hc h a = some (.inr (ci, fs))) (hci : ci ≠ 6 ∧ ci ≠ 8) (w : st1 a h h1) (hP : pC h cx F v0) : pC h1 cx F v0 := by
  have hP1 := hP.1
  obtain ⟨⟨p1, p2, p3, p4, p5, p6⟩, nd, _, e1, _, _, e4, e5, e6⟩ := hP1
  refine pC_fr w.1 (fun z => ?_) (fun z => ?_) (fun z => ?_) (fun z => ?_) (fun z => ?_) hP
  · have := pC_r hP
    rw [z, e] at this
    cases this
    exact absurd rfl hci.1
  · have := hc_of p4 e4
    rw [z, e] at this
    cases this
  · have := hc_of p5 e5
    rw [z, e] at this
    cases this
  · have := hc_of p6 e6
    rw [z, e] at this
    cases this
  · have := pC_p hP
    rw [z, e] at this
    cases this
    exact absurd rfl hci.2
theorem pC_ap {c : rm_E} (hP : pC h cx F v0) : pC (h ++ [c]) cx F v0 := pC_fr (fr_app (fun _ => False) c) id id id id id hP
theorem rF_refl (s : rS) : rF s s := ⟨fun _ _ _ _ _ _ _ _ _ => rfl, fun _ _ => rfl, fun _ _ _ => rfl⟩
theorem rF_trans (a : rF s s1) (b : rF s1 s2) : rF s s2 := ⟨fun j a1 a2 a3 a4 a5 a6 a7 a8 => (b.1 j a1 a2 a3 a4 a5 a6 a7 a8).trans (a.1 j a1 a2 a3 a4 a5 a6 a7 a8), fun p hp => (b.2.1 p hp).trans (a.2.1 p hp), fun p h1 h2 => (b.2.2 p h1 h2).trans (a.2.2 p h1 h2)⟩
theorem rF_w {j : Nat} {x : Int32} (hj : j = 10 ∨ j = 24 ∨ j = 25 ∨ j = 26 ∨ j = 56 ∨ j = 57 ∨ j = 58 ∨ j = 59) : rF s (rs_w s j x) := ⟨fun i a1 a2 a3 a4 a5 a6 a7 a8 => w_ne _ _ (by omega), fun _ _ => rfl, fun _ _ _ => rfl⟩
theorem rF_A {p i : Nat} {x : Int32} (hp : 44 ≤ p ∧ p ≤ 60 ∧ p ≠ 56) : rF s (rs_wA s p i x) := ⟨fun _ _ _ _ _ _ _ _ _ => rfl, fun y hy => wA_ne _ _ _ (by omega), fun _ _ _ => rfl⟩
theorem rF_B {p i : Nat} {x : Int64} (hp : p = 56 ∨ p = 61) : rF s (rs_wB s p i x) := ⟨fun _ _ _ _ _ _ _ _ _ => rfl, fun _ _ => rfl, fun y h1 h2 => wB_ne _ _ _ (by omega)⟩
theorem rF_nd {n : Nat} {kk f : Int32} : rF s (ndS s n kk f) := by
  refine ⟨fun i a1 _ _ _ _ _ _ _ => ?_, fun y hy => ?_, fun y h1 h2 => ?_⟩
  · rw [nd_sc, if_neg a1]
  · funext i
    rw [nd_get, if_neg (by omega)]
  · funext i
    rw [nd_getJ, if_neg (fun z => h1 z.1)]
theorem rT_F (f : rF s s1) (t : rTk F N s) : rTk F N s1 := by
  obtain ⟨t1, t2, t3, t4⟩ := t
  exact ⟨(f.2.1 40 (by omega)).trans t1, (f.2.1 41 (by omega)).trans t2, (f.2.1 42 (by omega)).trans t3, (f.2.2 43 (by decide) (by decide)).trans t4⟩
theorem sX_refl (nd : Nat) : sX s s nd := fun _ _ => ⟨fun _ _ _ => rfl, rfl⟩
theorem sX_trans {nd nd2 : Nat} (a : sX s s1 nd) (b : sX s1 s2 nd2) (hn : nd ≤ nd2) : sX s s2 nd := fun i hi => ⟨fun p h1 h2 => ((b i (by omega)).1 p h1 h2).trans ((a i hi).1 p h1 h2), (b i (by omega)).2.trans (a i hi).2⟩
theorem sX_w {j nd : Nat} {x : Int32} : sX s (rs_w s j x) nd := fun _ _ => ⟨fun _ _ _ => rfl, rfl⟩
theorem sX_A {p i nd : Nat} {x : Int32} (hi : nd ≤ i) : sX s (rs_wA s p i x) nd := fun j hj => ⟨fun y h1 h2 => by rw [wA_get, if_neg (by omega)], rfl⟩
theorem sX_B {p i nd : Nat} {x : Int64} (hi : nd ≤ i) : sX s (rs_wB s p i x) nd := fun j hj => ⟨fun _ _ _ => rfl, by rw [wB_get, if_neg (by omega)]⟩
theorem sX_nd {n nd : Nat} {kk f : Int32} (hi : nd ≤ n) : sX s (ndS s n kk f) nd := fun j hj => ⟨fun y h1 h2 => by rw [nd_get, if_neg (by omega)], by rw [nd_getJ, if_neg (by omega)]⟩
theorem yA_refl (s : rS) : yA s s := ⟨Int.le_refl _, fun _ _ => ⟨rfl, rfl, rfl, rfl⟩⟩
theorem yA_trans (a : yA s s1) (b : yA s1 s2) : yA s s2 := by
  refine ⟨Int.le_trans a.1 b.1, fun y hy => ?_⟩
  obtain ⟨a1, a2, a3, a4⟩ := a.2 y hy
  obtain ⟨b1, b2, b3, b4⟩ := b.2 y (by have := a.1; omega)
  exact ⟨b1.trans a1, b2.trans a2, b3.trans a3, b4.trans a4⟩
/-- the types are left alone -/
theorem yA_of (h1 : s1.1 26 = s.1 26) (h2 : ∀ p, 57 ≤ p → p ≤ 59 → s1.2.1 p = s.2.1 p) (h3 : s1.2.2 61 = s.2.2 61) : yA s s1 := ⟨by rw [h1]; exact Int.le_refl _, fun y _ => ⟨by rw [h2 57 (by omega) (by omega)], by rw [h2 58 (by omega) (by omega)], by rw [h2 59 (by omega) (by omega)], by rw [h3]⟩⟩
end ST
