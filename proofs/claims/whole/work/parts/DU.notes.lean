/-! FAULTS: the first by place and number; both note one. -/
theorem bsq {α β : Type} {x : Option α} {a : α} {f : α → Option β} {r : Option β} (e : x = some a) (h : f a = r) : x.bind f = r := by rw [e]; exact h
theorem itq {α : Type} {p : Prop} [Decidable p] {x y r : α} (e : p) (h : x = r) : (if p then x else y) = r := by rw [if_pos e]; exact h
theorem inq {α : Type} {p : Prop} [Decidable p] {x y r : α} (e : ¬ p) (h : y = r) : (if p then x else y) = r := by rw [if_neg e]; exact h
/-- a, b is the first fault of the set S; 0, -1 if there is none -/
def mn (S : Int32 → Int32 → Prop) (a b : Int32) : Prop := (a = 0 ∧ b = -1 ∧ ∀ x y, ¬ S x y) ∨ (S a b ∧ 0 < a.toInt ∧ ∀ x y, S x y → b.toInt < y.toInt ∨ (b = y ∧ a.toInt ≤ x.toInt))
/-- a fault is noted -/
def nt (a b x y : Int32) : Int32 × Int32 := if a = 0 ∨ y.toInt < b.toInt ∨ (y = b ∧ x.toInt < a.toInt) then (x, y) else (a, b)
theorem mn_0 {S : Int32 → Int32 → Prop} (e : ∀ x y, ¬ S x y) : mn S 0 (-1) := Or.inl ⟨rfl, rfl, e⟩
theorem mn_ext {S T : Int32 → Int32 → Prop} {a b : Int32} (e : ∀ x y, S x y ↔ T x y) (m : mn S a b) : mn T a b := by
  rcases m with ⟨m1, m2, m3⟩ | ⟨m1, m2, m3⟩
  · exact Or.inl ⟨m1, m2, fun x y z => m3 x y ((e x y).mpr z)⟩
  · exact Or.inr ⟨(e a b).mp m1, m2, fun x y z => m3 x y ((e x y).mpr z)⟩
theorem mn_ge {S : Int32 → Int32 → Prop} {a b : Int32} (m : mn S a b) : 0 ≤ a.toInt ∧ (a.toInt = 0 ↔ a = 0) := by
  have z0 : (0 : Int32).toInt = 0 := by decide
  refine ⟨?_, fun e => i32_of (e.trans z0.symm), fun e => by rw [e]; exact z0⟩
  rcases m with ⟨m1, _⟩ | ⟨_, m2, _⟩
  · rw [m1]; decide
  · omega
theorem mn_none {S : Int32 → Int32 → Prop} {a b : Int32} (m : mn S a b) (e : a = 0) : b = -1 ∧ ∀ x y, ¬ S x y := by
  rcases m with ⟨_, m2, m3⟩ | ⟨_, m2, _⟩
  · exact ⟨m2, m3⟩
  · rw [e] at m2
    exact absurd m2 (by decide)
theorem mn_uq {S : Int32 → Int32 → Prop} {a b a' b' : Int32} (m : mn S a b) (m' : mn S a' b') : a = a' ∧ b = b' := by
  rcases m with ⟨m1, m2, m3⟩ | ⟨m1, m2, m3⟩
  · rcases m' with ⟨n1, n2, n3⟩ | ⟨n1, n2, n3⟩
    · exact ⟨m1.trans n1.symm, m2.trans n2.symm⟩
    · exact absurd n1 (m3 _ _)
  · rcases m' with ⟨n1, n2, n3⟩ | ⟨n1, n2, n3⟩
    · exact absurd m1 (n3 _ _)
    · have u := m3 _ _ n1
      have v := n3 _ _ m1
      have e : b.toInt = b'.toInt := by
        rcases u with u | ⟨u, _⟩
        · rcases v with v | ⟨v, _⟩
          · omega
          · rw [v]
        · rw [u]
      refine ⟨i32_of ?_, i32_of e⟩
      rcases u with u | ⟨_, u⟩
      · omega
      · rcases v with v | ⟨_, v⟩
        · omega
        · omega
theorem mn_nt {S : Int32 → Int32 → Prop} {a b x y : Int32} (m : mn S a b) (hx : 0 < x.toInt) : mn (fun u v => S u v ∨ (u = x ∧ v = y)) (nt a b x y).1 (nt a b x y).2 := by
  unfold nt
  split
  · next c =>
    right
    refine ⟨Or.inr ⟨rfl, rfl⟩, hx, fun u v s => ?_⟩
    show y.toInt < v.toInt ∨ (y = v ∧ x.toInt ≤ u.toInt)
    rcases s with s | ⟨s1, s2⟩
    · rcases m with ⟨m1, m2, m3⟩ | ⟨m1, m2, m3⟩
      · exact absurd s (m3 _ _)
      · rcases c with c | c | ⟨c1, c2⟩
        · rw [c] at m2
          exact absurd m2 (by decide)
        · rcases m3 u v s with q | ⟨q, _⟩
          · exact Or.inl (by omega)
          · exact Or.inl (by rw [← q]; exact c)
        · rcases m3 u v s with q | ⟨q, q2⟩
          · exact Or.inl (by rw [c1]; exact q)
          · exact Or.inr ⟨c1.trans q, by omega⟩
    · exact Or.inr ⟨s2.symm, by rw [s1]; exact Int.le_refl _⟩
  · next c =>
    rcases m with ⟨m1, m2, m3⟩ | ⟨m1, m2, m3⟩
    · exact absurd (Or.inl m1) c
    · right
      refine ⟨Or.inl m1, m2, fun u v s => ?_⟩
      rcases s with s | ⟨s1, s2⟩
      · exact m3 u v s
      · subst s1 s2
        have c2 : ¬ v.toInt < b.toInt := fun z => c (Or.inr (Or.inl z))
        by_cases e : v = b
        · exact Or.inr ⟨e.symm, by
            have c3 : ¬ u.toInt < a.toInt := fun z => c (Or.inr (Or.inr ⟨e, z⟩))
            show a.toInt ≤ u.toInt
            omega⟩
        · left
          have : v.toInt ≠ b.toInt := fun z => e (i32_of z)
          show b.toInt < v.toInt
          omega
/-- a fault is noted or not -/
theorem mn_skip {S T : Int32 → Int32 → Prop} {a b : Int32} (m : mn S a b) (e : ∀ x y, ¬ T x y) : mn (fun u v => S u v ∨ T u v) a b := mn_ext (fun x y => ⟨Or.inl, fun z => z.elim id (fun z => absurd z (e x y))⟩) m
/-- the Program as declare leaves it -/
def pgD (cx : Nat → Nat) (pt vr : Int32) (mv : Value) (a b : Int32) : rm_E := .inr (4, [.int (Int32.ofNat (cx 6)), .ref (cx 9), .ref (cx 10), .ref (cx 11), .int pt, .int vr, mv, .int a, .int b, .ref (cx 12), .ref (cx 13), .int 0])
section NT
variable {L : Nat} {xs : Nat → Int32} {zf : Value} {w k : Nat} {h : rm_H} {s : rS} {cx : Nat → Nat} {pt vr a b : Int32} {mv : Value}
theorem c_noteD (hp : hc h (cx 8) = some (pgD cx pt vr mv a b)) (x y : Int32) : ∃ h', dM L xs zf w (k + 1) 144 [.ref (cx 8), .int x, .int y] h = some (none, h') ∧ hc h' (cx 8) = some (pgD cx pt vr mv (nt a b x y).1 (nt a b x y).2) ∧ st1 (cx 8) h h' := by
  rw [e144]
  have g7 : dgI L xs h 7 [4] (some (cx 8)) = some a := hc_gI hp rfl (by decide)
  have g8 : dgI L xs h 8 [4] (some (cx 8)) = some b := hc_gI hp rfl (by decide)
  have wr : ∃ h', b144_41 L xs zf (dM L xs zf w k) w (some (cx 8)) x y h = some (none, h') ∧ hc h' (cx 8) = some (pgD cx pt vr mv x y) ∧ st1 (cx 8) h h' := by
    obtain ⟨h1, q1, q2, q3⟩ := pF_ex (v := .int x) (j := 7) (cis := [4]) hp rfl (by decide) rfl (by decide)
    obtain ⟨h2, q4, q5, q6⟩ := pF_ex (v := .int y) (j := 8) (cis := [4]) q2 rfl (by decide) rfl (by decide)
    refine ⟨h2, ?_, q5, st1_trans q3 q6⟩
    unfold b144_41
    exact bse q1 (bse q4 rfl)
  show ∃ h', b144_0 L xs zf (dM L xs zf w k) w (some (cx 8)) x y h = some (none, h') ∧ _
  unfold b144_0
  rw [g8, Option.bind_some, Option.bind_some, g7, Option.bind_some]
  have s24 : b144_24 L xs zf (dM L xs zf w k) w (some (cx 8)) x y h = b144_41 L xs zf (dM L xs zf w k) w (some (cx 8)) x y h := by
    unfold b144_24 b144_29
    rw [g7, Option.bind_some, if_neg (show ¬ mx_f1 .eq (1 : Int32) = true by decide)]
    split <;> rfl
  have s28 : b144_28 L xs zf (dM L xs zf w k) w (some (cx 8)) x y h = if a = 0 then b144_41 L xs zf (dM L xs zf w k) w (some (cx 8)) x y h else some (none, h) := by
    unfold b144_28 b144_29
    rw [g7, Option.bind_some, f1_eqd, if_pos (show mx_f1 .eq (0 : Int32) = true by decide)]
    simp only [decide_eq_true_eq]
    rfl
  rw [s24, s28]
  simp only [f2_lt, f2_ne, f2_ge, decide_eq_true_eq]
  by_cases c : a = 0 ∨ y.toInt < b.toInt ∨ (y = b ∧ x.toInt < a.toInt)
  · have en : nt a b x y = (x, y) := if_pos c
    rw [en]
    obtain ⟨h', w1, w2, w3⟩ := wr
    refine ⟨h', ?_, w2, w3⟩
    rw [w1]
    by_cases c1 : y.toInt < b.toInt
    · rw [if_pos c1]
    · rw [if_neg c1]
      by_cases c2 : a = 0
      · rw [if_pos c2]
        split
        · rfl
        · split <;> rfl
      · rcases c with c | c | ⟨c, c3⟩
        · exact absurd c c2
        · exact absurd c c1
        · rw [if_neg (fun z => z c), if_neg (by omega)]
  · have en : nt a b x y = (a, b) := if_neg c
    rw [en]
    refine ⟨h, ?_, hp, st1_refl _ _⟩
    have c2 : ¬ a = 0 := fun z => c (Or.inl z)
    rw [if_neg (fun z => c (Or.inr (Or.inl z))), if_neg c2]
    split
    · rfl
    · next q =>
      have q : y = b := Classical.byContradiction q
      rw [if_pos]
      have : ¬ x.toInt < a.toInt := fun z => c (Or.inr (Or.inr ⟨q, z⟩))
      omega
theorem r_note (hs : 0 ≤ (s.1 57).toInt) (x y : Int32) : ∃ s', rM w (k + 1) 329 [.ref 36, .int x, .int y] s = some (none, s') ∧ s'.2 = s.2 ∧ (∀ j, j ≠ 57 → j ≠ 58 → s'.1 j = s.1 j) ∧ s'.1 57 = (nt (s.1 57) (s.1 58) x y).1 ∧ s'.1 58 = (nt (s.1 57) (s.1 58) x y).2 := by
  rw [y329]
  show ∃ s', s329_0 (rM w k) w x y s = some (none, s') ∧ _
  unfold s329_0
  have z0 : (0 : Int32).toInt = 0 := by decide
  have le : mx_f1 .le (s.1 57) = decide (s.1 57 = 0) := by
    have : mx_f1 .le (s.1 57) = mx_f2 .le (s.1 57) 0 := rfl
    rw [this, f2_le, z0]
    exact decide_eq_decide.mpr ⟨fun e => i32_of (by omega), fun e => by rw [e, z0]; omega⟩
  have wr : ∃ s', s329_32 (rM w k) w x y s = some (none, s') ∧ s'.2 = s.2 ∧ (∀ j, j ≠ 57 → j ≠ 58 → s'.1 j = s.1 j) ∧ s'.1 57 = x ∧ s'.1 58 = y := by
    refine ⟨rs_w (rs_w s 57 x) 58 y, rfl, rfl, fun j h1 h2 => ?_, ?_, ?_⟩
    · rw [w_ne _ _ h2, w_ne _ _ h1]
    · rw [w_ne _ _ (by decide), w_eq]
    · rw [w_eq]
  rw [le]
  simp only [f2_gt, f2_ne, f2_lt, decide_eq_true_eq]
  by_cases c : s.1 57 = 0 ∨ y.toInt < (s.1 58).toInt ∨ (y = s.1 58 ∧ x.toInt < (s.1 57).toInt)
  · have en : nt (s.1 57) (s.1 58) x y = (x, y) := if_pos c
    rw [en]
    obtain ⟨s', w1, w2⟩ := wr
    refine ⟨s', ?_, w2⟩
    rw [w1]
    split
    · rfl
    · next c1 =>
      rcases c with c | c | ⟨c, c3⟩
      · exact absurd c c1
      · rw [if_neg (by omega), if_pos (fun z => by rw [z] at c; omega)]
      · rw [c, if_neg (by omega), if_neg (fun z => z rfl), if_pos c3]
  · have en : nt (s.1 57) (s.1 58) x y = (s.1 57, s.1 58) := if_neg c
    rw [en]
    refine ⟨s, ?_, rfl, fun _ _ _ => rfl, rfl, rfl⟩
    rw [if_neg (fun z => c (Or.inl z))]
    split
    · rfl
    · next q =>
      have q2 : ¬ y.toInt < (s.1 58).toInt := fun z => c (Or.inr (Or.inl z))
      have e : y = s.1 58 := i32_of (by omega)
      rw [if_neg (fun z => z e), if_neg (fun z => c (Or.inr (Or.inr ⟨e, z⟩)))]
      rfl
end NT
