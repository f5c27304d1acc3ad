/-! THE CELLS OF A RUNNING WORLD, as functions. sg.1 j: the World's numbers; sg.2.1 j i: its arrays (0 cells, 1 starts, 3 told, 4 tellers); sg.2.2.1 a j: the numbers of Actor a; sg.2.2.2.1 a j i: its arrays (7 nexts, 8 bases, 9 selves, 10 mailbox, 12 stack); sg.2.2.2.2 a j: places (0 the Actor, 1 its Kind, 12 its stack, 13 the stack's room). -/
abbrev cS : Type := (Nat → Int32) × (Nat → Nat → Int32) × (Nat → Nat → Int32) × (Nat → Nat → Nat → Int32) × (Nat → Nat → Nat)
def sXc (sg : cS) (j : Nat) (v : Int32) : cS := (upd sg.1 j v, sg.2)
def sW (sg : cS) (j i : Nat) (v : Int32) : cS := (sg.1, fun q => if q = j then upd (sg.2.1 q) i v else sg.2.1 q, sg.2.2)
def sA' (sg : cS) (a j : Nat) (v : Int32) : cS := (sg.1, sg.2.1, fun b q => if b = a ∧ q = j then v else sg.2.2.1 b q, sg.2.2.2)
def sR (sg : cS) (a j i : Nat) (v : Int32) : cS := (sg.1, sg.2.1, sg.2.2.1, fun b q => if b = a ∧ q = j then upd (sg.2.2.2.1 b q) i v else sg.2.2.2.1 b q, sg.2.2.2.2)
/-- the stack of a lies elsewhere -/
def sG (sg : cS) (a z c : Nat) (f : Nat → Int32) : cS := (sg.1, sg.2.1, sg.2.2.1, fun b q => if b = a ∧ q = 12 then f else sg.2.2.2.1 b q, fun b q => if b = a ∧ q = 12 then z else if b = a ∧ q = 13 then c else sg.2.2.2.2 b q)
def sK (sg : cS) (a p : Nat) : cS := (sg.1, sg.2.1, sg.2.2.1, sg.2.2.2.1, fun b q => if b = a ∧ q = 1 then p else sg.2.2.2.2 b q)
/-- a Kind, or none yet -/
def kV (p : Nat) : Value := if p = 0 then .null else .ref p
section RHD
variable (cd : Value) (n : Nat) (sg : cS)
def wCel : rm_E := .inr (2, [.ref 25, .ref 26, .ref 27, .ref 28, .ref 29, .int (sg.1 5), .int (sg.1 6), cd, .int (sg.1 8), .int (sg.1 9), .int (sg.1 10), .int (sg.1 11), .int (sg.1 12), .int (sg.1 13), .int (sg.1 14), .int (sg.1 15)])
def aCel (a : Nat) : rm_E := .inr (14, [.int (sg.2.2.1 a 0), kV (sg.2.2.2.2 a 1), .int (sg.2.2.1 a 2), .int (sg.2.2.1 a 3), .int (sg.2.2.1 a 4), .int (sg.2.2.1 a 5), .int (sg.2.2.1 a 6), .ref (sg.2.2.2.2 a 0 + 1), .ref (sg.2.2.2.2 a 0 + 2), .ref (sg.2.2.2.2 a 0 + 3), .ref (sg.2.2.2.2 a 0 + 4), .int (sg.2.2.1 a 11), .ref (sg.2.2.2.2 a 12), .int (sg.2.2.1 a 13)])
def vW : Nat → rm_E
  | 0 => wCel cd sg
  | 1 => iaA 400 (sg.2.1 0)
  | 2 => iaA 401 (sg.2.1 1)
  | 3 => .inl (5, 12, .inr (.inr (.inr (.inr fun a => if a < n then some (sg.2.2.2.2 a 0) else none))))
  | 4 => iaA 200 (sg.2.1 3)
  | _ => iaA 200 (sg.2.1 4)
def vA (a : Nat) : Nat → rm_E
  | 0 => aCel sg a
  | 1 => iaA 10 (sg.2.2.2.1 a 7)
  | 2 => iaA 10 (sg.2.2.2.1 a 8)
  | 3 => iaA 10 (sg.2.2.2.1 a 9)
  | 4 => iaA 42 (sg.2.2.2.1 a 10)
  | _ => iaA (sg.2.2.2.2 a 13) (sg.2.2.2.1 a 12)
def pA (a r : Nat) : Nat := if r = 5 then sg.2.2.2.2 a 12 else sg.2.2.2.2 a 0 + r
/-- cell x of the run -/
def adr (x : Nat) : Nat := if x < 6 then 24 + x else pA sg ((x - 6) / 6) ((x - 6) % 6)
def vcl (x : Nat) : rm_E := if x < 6 then vW cd n sg x else vA sg ((x - 6) / 6) ((x - 6) % 6)
variable (Z : Nat → Prop) (hB : rm_H)
def RH (h : rm_H) : Prop := fr Z hB h ∧ (∀ x, x < 6 + 6 * n → hc h (adr sg x) = some (vcl cd n sg x) ∧ (Z (adr sg x) ∨ 21 + hB.length ≤ adr sg x)) ∧ (∀ x y, x < 6 + 6 * n → y < 6 + 6 * n → adr sg x = adr sg y → x = y) ∧ n ≤ 12
end RHD
section RHL
variable {cd cd' : Value} {n : Nat} {sg sg' : cS} {Z : Nat → Prop} {hB h h' : rm_H} {a r j i : Nat} {v : Int32}
theorem adr_a (hr : r < 6) : adr sg (6 * a + 6 + r) = pA sg a r := by
  unfold adr
  rw [if_neg (by omega), show (6 * a + 6 + r - 6) / 6 = a from by omega, show (6 * a + 6 + r - 6) % 6 = r from by omega]
theorem vcl_a (hr : r < 6) : vcl cd n sg (6 * a + 6 + r) = vA sg a r := by
  unfold vcl
  rw [if_neg (by omega), show (6 * a + 6 + r - 6) / 6 = a from by omega, show (6 * a + 6 + r - 6) % 6 = r from by omega]
theorem RH_a (q : RH cd n sg Z hB h) (ha : a < n) (hr : r < 6) : hc h (pA sg a r) = some (vA sg a r) := by
  have := (q.2.1 (6 * a + 6 + r) (by omega)).1
  rw [adr_a hr, vcl_a hr] at this
  exact this
theorem RH_wd {x : Nat} (q : RH cd n sg Z hB h) (hx : x < 6) : hc h (24 + x) = some (vW cd n sg x) := by
  have := (q.2.1 x (by omega)).1
  unfold adr vcl at this
  rw [if_pos hx, if_pos hx] at this
  exact this
theorem RH_w {x : Nat} (q : RH cd n sg Z hB h) (hx : x < 6 + 6 * n) (h1 : hc h' (adr sg x) = some (vcl cd' n sg' x)) (s1 : st1 (adr sg x) h h') (ea : ∀ y, y < 6 + 6 * n → adr sg' y = adr sg y) (ev : ∀ y, y < 6 + 6 * n → y ≠ x → vcl cd' n sg' y = vcl cd n sg y) : RH cd' n sg' Z hB h' := by
  obtain ⟨q1, q2, q3, q4⟩ := q
  refine ⟨fr_trans q1 s1.1 (fun p hp e => ?_), fun y hy => ?_, fun y z hy hz e => ?_, q4⟩
  · have e : p = adr sg x := e
    rw [e]
    rcases (q2 x hx).2 with z | z
    · exact z
    · omega
  · rw [ea y hy]
    refine ⟨?_, (q2 y hy).2⟩
    by_cases c : y = x
    · rw [c]; exact h1
    · rw [ev y hy c, st1_ne s1 (fun z => c (q3 y x hy hx z))]
      exact (q2 y hy).1
  · rw [ea y hy, ea z hz] at e
    exact q3 y z hy hz e
/-- the same but for numbers of the World -/
theorem RH_X (q : RH cd n sg Z hB h) (h1 : hc h' 24 = some (wCel cd' (sXc sg j v))) (s1 : st1 24 h h') : RH cd' n (sXc sg j v) Z hB h' := by
  refine RH_w (x := 0) q (by omega) h1 s1 (fun _ _ => rfl) (fun y _ hy => ?_)
  unfold vcl
  by_cases c : y < 6
  · rw [if_pos c, if_pos c]
    have : y = 1 ∨ y = 2 ∨ y = 3 ∨ y = 4 ∨ y = 5 := by omega
    rcases this with rfl | rfl | rfl | rfl | rfl <;> rfl
  · rw [if_neg c, if_neg c]
    rfl
theorem RH_A (q : RH cd n sg Z hB h) (ha : a < n) (h1 : hc h' (sg.2.2.2.2 a 0) = some (aCel (sA' sg a j v) a)) (s1 : st1 (sg.2.2.2.2 a 0) h h') : RH cd n (sA' sg a j v) Z hB h' := by
  have e0 : adr sg (6 * a + 6 + 0) = sg.2.2.2.2 a 0 := by
    rw [adr_a (by decide)]
    rfl
  refine RH_w (x := 6 * a + 6 + 0) q (by omega) (by rw [e0, vcl_a (by decide)]; exact h1) (by rw [e0]; exact s1) (fun _ _ => rfl) (fun y _ hy => ?_)
  unfold vcl
  by_cases c : y < 6
  · rw [if_pos c, if_pos c]
    have : y = 0 ∨ y = 1 ∨ y = 2 ∨ y = 3 ∨ y = 4 ∨ y = 5 := by omega
    rcases this with rfl | rfl | rfl | rfl | rfl | rfl <;> rfl
  · rw [if_neg c, if_neg c]
    have hr : (y - 6) % 6 = 0 ∨ (y - 6) % 6 = 1 ∨ (y - 6) % 6 = 2 ∨ (y - 6) % 6 = 3 ∨ (y - 6) % 6 = 4 ∨ (y - 6) % 6 = 5 := by omega
    rcases hr with e | e | e | e | e | e <;> rw [e]
    · have hb : (y - 6) / 6 ≠ a := by omega
      show aCel (sA' sg a j v) ((y - 6) / 6) = aCel sg ((y - 6) / 6)
      have e : ∀ q, (sA' sg a j v).2.2.1 ((y - 6) / 6) q = sg.2.2.1 ((y - 6) / 6) q := fun q => if_neg (fun z => hb z.1)
      unfold aCel
      rw [e, e, e, e, e, e, e, e]
      rfl
    all_goals rfl
theorem RH_W (q : RH cd n sg Z hB h) {x m : Nat} (hx : (x = 1 ∧ j = 0 ∧ m = 400) ∨ (x = 2 ∧ j = 1 ∧ m = 401) ∨ (x = 4 ∧ j = 3 ∧ m = 200) ∨ (x = 5 ∧ j = 4 ∧ m = 200)) (h1 : hc h' (24 + x) = some (iaA m (upd (sg.2.1 j) i v))) (s1 : st1 (24 + x) h h') : RH cd n (sW sg j i v) Z hB h' := by
  have e0 : adr sg x = 24 + x := by
    unfold adr
    rw [if_pos (by omega)]
  refine RH_w (x := x) q (by omega) ?_ (by rw [e0]; exact s1) (fun _ _ => rfl) (fun y _ hy => ?_)
  · rw [e0, h1]
    have e : (sW sg j i v).2.1 j = upd (sg.2.1 j) i v := if_pos rfl
    rw [← e]
    rcases hx with ⟨rfl, rfl, rfl⟩ | ⟨rfl, rfl, rfl⟩ | ⟨rfl, rfl, rfl⟩ | ⟨rfl, rfl, rfl⟩ <;> rfl
  · unfold vcl
    by_cases c : y < 6
    · rw [if_pos c, if_pos c]
      have e : ∀ q, q ≠ j → (sW sg j i v).2.1 q = sg.2.1 q := fun q hq => if_neg hq
      have : y = 0 ∨ y = 1 ∨ y = 2 ∨ y = 3 ∨ y = 4 ∨ y = 5 := by omega
      rcases this with rfl | rfl | rfl | rfl | rfl | rfl
      · rfl
      · show iaA 400 ((sW sg j i v).2.1 0) = _
        rw [e 0 (by omega)]
        rfl
      · show iaA 401 ((sW sg j i v).2.1 1) = _
        rw [e 1 (by omega)]
        rfl
      · rfl
      · show iaA 200 ((sW sg j i v).2.1 3) = _
        rw [e 3 (by omega)]
        rfl
      · show iaA 200 ((sW sg j i v).2.1 4) = _
        rw [e 4 (by omega)]
        rfl
    · rw [if_neg c, if_neg c]
      rfl
theorem RH_R (q : RH cd n sg Z hB h) {m : Nat} (ha : a < n) (hx : (r = 1 ∧ j = 7 ∧ m = 10) ∨ (r = 2 ∧ j = 8 ∧ m = 10) ∨ (r = 3 ∧ j = 9 ∧ m = 10) ∨ (r = 4 ∧ j = 10 ∧ m = 42) ∨ (r = 5 ∧ j = 12 ∧ m = sg.2.2.2.2 a 13)) (h1 : hc h' (pA sg a r) = some (iaA m (upd (sg.2.2.2.1 a j) i v))) (s1 : st1 (pA sg a r) h h') : RH cd n (sR sg a j i v) Z hB h' := by
  have e0 : adr sg (6 * a + 6 + r) = pA sg a r := adr_a (by omega)
  refine RH_w (x := 6 * a + 6 + r) q (by omega) ?_ (by rw [e0]; exact s1) (fun _ _ => rfl) (fun y _ hy => ?_)
  · rw [e0, h1, vcl_a (by omega)]
    have e : (sR sg a j i v).2.2.2.1 a j = upd (sg.2.2.2.1 a j) i v := if_pos ⟨rfl, rfl⟩
    rw [← e]
    rcases hx with ⟨rfl, rfl, rfl⟩ | ⟨rfl, rfl, rfl⟩ | ⟨rfl, rfl, rfl⟩ | ⟨rfl, rfl, rfl⟩ | ⟨rfl, rfl, rfl⟩ <;> rfl
  · unfold vcl
    by_cases c : y < 6
    · rw [if_pos c, if_pos c]
      have : y = 0 ∨ y = 1 ∨ y = 2 ∨ y = 3 ∨ y = 4 ∨ y = 5 := by omega
      rcases this with rfl | rfl | rfl | rfl | rfl | rfl <;> rfl
    · rw [if_neg c, if_neg c]
      have hr : (y - 6) % 6 = 0 ∨ (y - 6) % 6 = 1 ∨ (y - 6) % 6 = 2 ∨ (y - 6) % 6 = 3 ∨ (y - 6) % 6 = 4 ∨ (y - 6) % 6 = 5 := by omega
      have e : ∀ q, ¬ ((y - 6) / 6 = a ∧ q = j) → (sR sg a j i v).2.2.2.1 ((y - 6) / 6) q = sg.2.2.2.1 ((y - 6) / 6) q := fun q hq => if_neg hq
      rcases hr with e5 | e5 | e5 | e5 | e5 | e5 <;> rw [e5]
      · rfl
      · show iaA 10 ((sR sg a j i v).2.2.2.1 ((y - 6) / 6) 7) = _
        rw [e 7 (by omega)]
        rfl
      · show iaA 10 ((sR sg a j i v).2.2.2.1 ((y - 6) / 6) 8) = _
        rw [e 8 (by omega)]
        rfl
      · show iaA 10 ((sR sg a j i v).2.2.2.1 ((y - 6) / 6) 9) = _
        rw [e 9 (by omega)]
        rfl
      · show iaA 42 ((sR sg a j i v).2.2.2.1 ((y - 6) / 6) 10) = _
        rw [e 10 (by omega)]
        rfl
      · show iaA (sg.2.2.2.2 ((y - 6) / 6) 13) ((sR sg a j i v).2.2.2.1 ((y - 6) / 6) 12) = _
        rw [e 12 (by omega)]
        rfl
/-- the World's numbers are written -/
theorem pX (q : RH cd n sg Z hB h) (hj : j = 5 ∨ j = 6 ∨ (8 ≤ j ∧ j ≤ 15)) : ∃ h', dpF h j [2] (some 24) (.int v) = some h' ∧ RH cd n (sXc sg j v) Z hB h' ∧ st1 24 h h' := by
  have e := RH_wd (x := 0) q (by decide)
  have hj' : j = 5 ∨ j = 6 ∨ j = 8 ∨ j = 9 ∨ j = 10 ∨ j = 11 ∨ j = 12 ∨ j = 13 ∨ j = 14 ∨ j = 15 := by omega
  rcases hj' with rfl | rfl | rfl | rfl | rfl | rfl | rfl | rfl | rfl | rfl
  · obtain ⟨h', p1, p2, p3⟩ := pF_ex (j := 5) (cis := [2]) (v := .int v) e rfl rfl rfl (by decide)
    exact ⟨h', p1, RH_X q p2 p3, p3⟩
  · obtain ⟨h', p1, p2, p3⟩ := pF_ex (j := 6) (cis := [2]) (v := .int v) e rfl rfl rfl (by decide)
    exact ⟨h', p1, RH_X q p2 p3, p3⟩
  · obtain ⟨h', p1, p2, p3⟩ := pF_ex (j := 8) (cis := [2]) (v := .int v) e rfl rfl rfl (by decide)
    exact ⟨h', p1, RH_X q p2 p3, p3⟩
  · obtain ⟨h', p1, p2, p3⟩ := pF_ex (j := 9) (cis := [2]) (v := .int v) e rfl rfl rfl (by decide)
    exact ⟨h', p1, RH_X q p2 p3, p3⟩
  · obtain ⟨h', p1, p2, p3⟩ := pF_ex (j := 10) (cis := [2]) (v := .int v) e rfl rfl rfl (by decide)
    exact ⟨h', p1, RH_X q p2 p3, p3⟩
  · obtain ⟨h', p1, p2, p3⟩ := pF_ex (j := 11) (cis := [2]) (v := .int v) e rfl rfl rfl (by decide)
    exact ⟨h', p1, RH_X q p2 p3, p3⟩
  · obtain ⟨h', p1, p2, p3⟩ := pF_ex (j := 12) (cis := [2]) (v := .int v) e rfl rfl rfl (by decide)
    exact ⟨h', p1, RH_X q p2 p3, p3⟩
  · obtain ⟨h', p1, p2, p3⟩ := pF_ex (j := 13) (cis := [2]) (v := .int v) e rfl rfl rfl (by decide)
    exact ⟨h', p1, RH_X q p2 p3, p3⟩
  · obtain ⟨h', p1, p2, p3⟩ := pF_ex (j := 14) (cis := [2]) (v := .int v) e rfl rfl rfl (by decide)
    exact ⟨h', p1, RH_X q p2 p3, p3⟩
  · obtain ⟨h', p1, p2, p3⟩ := pF_ex (j := 15) (cis := [2]) (v := .int v) e rfl rfl rfl (by decide)
    exact ⟨h', p1, RH_X q p2 p3, p3⟩
theorem gX (q : RH cd n sg Z hB h) {L : Nat} {xs : Nat → Int32} (hj : j = 5 ∨ j = 6 ∨ (8 ≤ j ∧ j ≤ 15)) : dgI L xs h j [2] (some 24) = some (sg.1 j) := by
  have e := RH_wd (x := 0) q (by decide)
  have hj' : j = 5 ∨ j = 6 ∨ j = 8 ∨ j = 9 ∨ j = 10 ∨ j = 11 ∨ j = 12 ∨ j = 13 ∨ j = 14 ∨ j = 15 := by omega
  rcases hj' with rfl | rfl | rfl | rfl | rfl | rfl | rfl | rfl | rfl | rfl <;> exact hc_gI e rfl rfl
theorem gXr (q : RH cd n sg Z hB h) {L : Nat} {xs : Nat → Int32} (hj : j < 5) : dgR L xs h j [2] (some 24) = some (some (25 + j)) := by
  have e := RH_wd (x := 0) q (by decide)
  have hj' : j = 0 ∨ j = 1 ∨ j = 2 ∨ j = 3 ∨ j = 4 := by omega
  rcases hj' with rfl | rfl | rfl | rfl | rfl <;> exact hc_gR e rfl rfl
theorem pA' (q : RH cd n sg Z hB h) (ha : a < n) (hj : j = 0 ∨ (2 ≤ j ∧ j ≤ 6) ∨ j = 11 ∨ j = 13) : ∃ h', dpF h j [14] (some (sg.2.2.2.2 a 0)) (.int v) = some h' ∧ RH cd n (sA' sg a j v) Z hB h' ∧ st1 (sg.2.2.2.2 a 0) h h' := by
  have e : hc h (sg.2.2.2.2 a 0) = some (aCel sg a) := RH_a (r := 0) q ha (by decide)
  have hj' : j = 0 ∨ j = 2 ∨ j = 3 ∨ j = 4 ∨ j = 5 ∨ j = 6 ∨ j = 11 ∨ j = 13 := by omega
  have ee : ∀ p, (sA' sg a j v).2.2.1 a p = if p = j then v else sg.2.2.1 a p := by
    intro p
    show (if a = a ∧ p = j then v else sg.2.2.1 a p) = _
    by_cases c : p = j
    · rw [if_pos ⟨rfl, c⟩, if_pos c]
    · rw [if_neg (fun z => c z.2), if_neg c]
  rcases hj' with rfl | rfl | rfl | rfl | rfl | rfl | rfl | rfl
  · obtain ⟨h', p1, p2, p3⟩ := pF_ex (j := 0) (cis := [14]) (v := .int v) e rfl rfl rfl (by decide)
    refine ⟨h', p1, RH_A q ha ?_ p3, p3⟩
    rw [p2]
    unfold aCel
    rw [ee, ee, ee, ee, ee, ee, ee, ee]
    rfl
  · obtain ⟨h', p1, p2, p3⟩ := pF_ex (j := 2) (cis := [14]) (v := .int v) e rfl rfl rfl (by decide)
    refine ⟨h', p1, RH_A q ha ?_ p3, p3⟩
    rw [p2]
    unfold aCel
    rw [ee, ee, ee, ee, ee, ee, ee, ee]
    rfl
  · obtain ⟨h', p1, p2, p3⟩ := pF_ex (j := 3) (cis := [14]) (v := .int v) e rfl rfl rfl (by decide)
    refine ⟨h', p1, RH_A q ha ?_ p3, p3⟩
    rw [p2]
    unfold aCel
    rw [ee, ee, ee, ee, ee, ee, ee, ee]
    rfl
  · obtain ⟨h', p1, p2, p3⟩ := pF_ex (j := 4) (cis := [14]) (v := .int v) e rfl rfl rfl (by decide)
    refine ⟨h', p1, RH_A q ha ?_ p3, p3⟩
    rw [p2]
    unfold aCel
    rw [ee, ee, ee, ee, ee, ee, ee, ee]
    rfl
  · obtain ⟨h', p1, p2, p3⟩ := pF_ex (j := 5) (cis := [14]) (v := .int v) e rfl rfl rfl (by decide)
    refine ⟨h', p1, RH_A q ha ?_ p3, p3⟩
    rw [p2]
    unfold aCel
    rw [ee, ee, ee, ee, ee, ee, ee, ee]
    rfl
  · obtain ⟨h', p1, p2, p3⟩ := pF_ex (j := 6) (cis := [14]) (v := .int v) e rfl rfl rfl (by decide)
    refine ⟨h', p1, RH_A q ha ?_ p3, p3⟩
    rw [p2]
    unfold aCel
    rw [ee, ee, ee, ee, ee, ee, ee, ee]
    rfl
  · obtain ⟨h', p1, p2, p3⟩ := pF_ex (j := 11) (cis := [14]) (v := .int v) e rfl rfl rfl (by decide)
    refine ⟨h', p1, RH_A q ha ?_ p3, p3⟩
    rw [p2]
    unfold aCel
    rw [ee, ee, ee, ee, ee, ee, ee, ee]
    rfl
  · obtain ⟨h', p1, p2, p3⟩ := pF_ex (j := 13) (cis := [14]) (v := .int v) e rfl rfl rfl (by decide)
    refine ⟨h', p1, RH_A q ha ?_ p3, p3⟩
    rw [p2]
    unfold aCel
    rw [ee, ee, ee, ee, ee, ee, ee, ee]
    rfl
theorem gA (q : RH cd n sg Z hB h) {L : Nat} {xs : Nat → Int32} (ha : a < n) (hj : j = 0 ∨ (2 ≤ j ∧ j ≤ 6) ∨ j = 11 ∨ j = 13) : dgI L xs h j [14] (some (sg.2.2.2.2 a 0)) = some (sg.2.2.1 a j) := by
  have e : hc h (sg.2.2.2.2 a 0) = some (aCel sg a) := RH_a (r := 0) q ha (by decide)
  have hj' : j = 0 ∨ j = 2 ∨ j = 3 ∨ j = 4 ∨ j = 5 ∨ j = 6 ∨ j = 11 ∨ j = 13 := by omega
  rcases hj' with rfl | rfl | rfl | rfl | rfl | rfl | rfl | rfl <;> exact hc_gI e rfl rfl
theorem gAr (q : RH cd n sg Z hB h) {L : Nat} {xs : Nat → Int32} (ha : a < n) (hx : (r = 1 ∧ j = 7) ∨ (r = 2 ∧ j = 8) ∨ (r = 3 ∧ j = 9) ∨ (r = 4 ∧ j = 10) ∨ (r = 5 ∧ j = 12)) : dgR L xs h j [14] (some (sg.2.2.2.2 a 0)) = some (some (pA sg a r)) := by
  have e : hc h (sg.2.2.2.2 a 0) = some (aCel sg a) := RH_a (r := 0) q ha (by decide)
  rcases hx with ⟨rfl, rfl⟩ | ⟨rfl, rfl⟩ | ⟨rfl, rfl⟩ | ⟨rfl, rfl⟩ | ⟨rfl, rfl⟩ <;> exact hc_gR e rfl rfl
theorem cV_a (q : RH cd n sg Z hB h) {L : Nat} {xs : Nat → Int32} {D : dD} {mi : Nat} {As : List Value} (ha : a < n) : dcV L xs D mi [14] (some (sg.2.2.2.2 a 0)) As h = D mi (.ref (sg.2.2.2.2 a 0) :: As) h := by
  have e : hc h (sg.2.2.2.2 a 0) = some (aCel sg a) := RH_a (r := 0) q ha (by decide)
  exact dcV_of (hc_ge e) (hc_at e) rfl
theorem cV_w (q : RH cd n sg Z hB h) {L : Nat} {xs : Nat → Int32} {D : dD} {mi : Nat} {As : List Value} : dcV L xs D mi [2] (some 24) As h = D mi (.ref 24 :: As) h := by
  have e := RH_wd (x := 0) q (by decide)
  exact dcV_of (hc_ge e) (hc_at e) rfl
end RHL
