/-! WHAT IS READ ALREADY STAYS: methods, fields. -/
section IT
variable {L : Nat} {xs : Nat → Int32} {zf : Value} {w k m np : Nat} {cx : Nat → Nat} {F : Nat → Nat → Int32} {N : Nat → Int64} {q : List Value} {h h' : rm_H} {s s' : rS} {g g' : Nat → Nat} {ts ts' : List Nat} {v : Nat → Int32} {pt vr : Int32} {P : Nat → Prop} {A B c1 c2 d2 : Nat}
/-- places that may change: lists outside A to B, and their arrays -/
def Pok (h : rm_H) (P : Nat → Prop) (A B : Nat) : Prop := (∀ y ci fs, P y → hc h y = some (.inr (ci, fs)) → (ci = 5 ∨ ci = 9) ∧ (y < A ∨ B ≤ y)) ∧ ∀ l ar cap es, A ≤ l → l < B → aL h l ar cap es → ar ≠ 5 → ¬ P ar
theorem cA_gen (p1 : pC h cx F v) (ch : CH cx q h g ts pt vr) (f : fr (fun y => M4 cx (g 1) y ∨ P y) h h') (hA : bl cx A) (hP : Pok h P A B) {pl ph : Nat} (h1 : A ≤ pl) (h2 : ph ≤ B) : cA h h' pl ph 0 := by
  obtain ⟨c1', c2', c3', c4', c5'⟩ := ch
  obtain ⟨mc, k1, k2, k2', k3⟩ := id c2'
  obtain ⟨l0, l8, l11, l14⟩ := hA
  have ng : ∀ y ci fs, hc h y = some (.inr (ci, fs)) → y ≠ g 1 := by
    intro y ci fs e z
    subst z
    rcases k3 with ⟨z, _⟩ | ⟨f0, z, _⟩
    · have := hc_ge e; omega
    · rw [e] at z; cases z
  refine cA_of f (fun y ci fs y1 y2 e z => ?_) (fun l ar cap es y1 y2 e h5 z => ?_)
  · have := ng y ci fs e
    rcases z with z | z
    · rcases z with z | z | z | z | z <;> omega
    · have := (hP.1 y ci fs z e).2
      omega
  · rcases z with z | z
    · have e0 := e
      obtain ⟨mc2, e1, _, _, e3⟩ := e
      have arr : ∀ ci fs, hc h ar ≠ some (.inr (ci, fs)) := by
        intro ci fs y
        rcases e3 with ⟨e3, _⟩ | ⟨f0, e3, _⟩
        · exact h5 e3
        · rw [e3] at y; cases y
      rcases z with z | z | z | z | z
      · exact arr _ _ (z ▸ pC_r p1)
      · exact arr _ _ (z ▸ c1')
      · exact arr _ _ (z ▸ k1)
      · rcases c5' with c5 | ⟨_, c6⟩
        · rcases e3 with ⟨e3, _⟩ | ⟨f0, e3, _⟩
          · exact h5 e3
          · have := hc_ge e3
            omega
        · exact arr _ _ (z ▸ c6)
      · subst z
        rcases c4'.2 _ _ _ _ _ e1 k1 with z | z
        · exact h5 z
        · omega
    · exact hP.2 l ar cap es (by omega) (by omega) e h5 z
/-- objects other than Kinds and lists stay -/
theorem ob_keepP {ci d : Nat} {fs : List Value} (h14 : cx 14 = 0) (p1 : pC h cx F v) (ch : CH cx q h g ts pt vr) (f : fr (fun y => M4 cx (g 1) y ∨ P y) h h') (hP : Pok h P A B) (hd : hc h d = some (.inr (ci, fs))) (hci : ci ≠ 4 ∧ ci ≠ 5 ∧ ci ≠ 6 ∧ ci ≠ 9) : hc h' d = some (.inr (ci, fs)) := by
  refine fr_old f hd (fun u => ?_)
  rcases u with u | u
  · rcases u with u | u | u | u | u
    · rw [u, pC_r p1] at hd; cases hd; exact hci.2.2.1 rfl
    · rw [u, ch.1] at hd; cases hd; exact hci.1 rfl
    · obtain ⟨mc, e, _⟩ := ch.2.1
      rw [u, e] at hd; cases hd; exact hci.2.1 rfl
    · have := hc_ge hd
      omega
    · obtain ⟨mc, _, _, _, e3⟩ := ch.2.1
      rcases e3 with ⟨e3, _⟩ | ⟨f0, e3, _⟩
      · have := hc_ge hd
        omega
      · rw [u, e3] at hd; cases hd
  · have := (hP.1 d ci fs u hd).1
    omega
/-- a method that is read: its nodes below gn, its places from A to B, its parameters below np -/
def MX (L : Nat) (xs : Nat → Int32) (h : rm_H) (s : rS) (gn A B np m M kk K : Nat) : Prop := ∃ lo hi pl ph x, MTR L xs h s lo hi pl ph m M kk K ∧ 1 ≤ lo ∧ (hi ≤ gn ∧ (∀ m2 b2 : Nat, m < m2 → (m2 : Int) < (s.1 42).toInt → s.2.1 76 m2 = Int32.ofNat b2 → b2 < 4400 → hi ≤ b2) ∧ A ≤ M + 1) ∧ A ≤ pl ∧ ph ≤ B ∧ 21 ≤ pl ∧ s.2.1 77 (m + 1) = Int32.ofNat x ∧ x ≤ np ∧ x ≤ 440
theorem MTR_70 {lo hi pl ph M kk K so : Nat} (e : MTR L xs h s lo hi pl ph m M kk K) (e0 : fd h 11 M 0 = some (.int (Int32.ofNat so))) (hso : so = 1 ∨ so = 2) : s.2.1 70 m ≠ 0 := by
  obtain ⟨⟨so', a1, a2, a3, _⟩, _⟩ := e
  rw [a2] at e0
  have e1 : Int32.ofNat so' = Int32.ofNat so := Value.int.inj (Option.some.inj e0)
  rw [a3, e1]
  rcases hso with z | z <;> rw [z] <;> decide
theorem MTR_71 {lo hi pl ph M kk K so : Nat} (e : MTR L xs h s lo hi pl ph m M kk K) (e0 : fd h 11 M 0 = some (.int (Int32.ofNat so))) (hso : so = 1) : s.2.1 70 m = 1 := by
  obtain ⟨⟨so', a1, a2, a3, _⟩, _⟩ := e
  rw [a2] at e0
  have e1 : Int32.ofNat so' = Int32.ofNat so := Value.int.inj (Option.some.inj e0)
  rw [a3, e1, hso]
  rfl
theorem MX_le {gn gn2 B2 np2 M kk K : Nat} (e : MX L xs h s gn A B np m M kk K) (h1 : gn ≤ gn2) (h2 : B ≤ B2) (h3 : np ≤ np2) : MX L xs h s gn2 A B2 np2 m M kk K := by
  obtain ⟨lo, hi, pl, ph, x, a1, a2, a3, a4, a5, a6, a7, a8, a9⟩ := e
  exact ⟨lo, hi, pl, ph, x, a1, a2, ⟨Nat.le_trans a3.1 h1, a3.2⟩, a4, by omega, a6, a7, by omega, a9⟩
/-- what a step must leave alone of method m and of parameters below np -/
theorem MX_keep {gn M kk K : Nat} (h14 : cx 14 = 0) (a : OPY P cx F N q c1 c2 d2 h s g ts h' s' g' ts') (y : SY cx F N q h' s' g' ts') (hA : bl cx A) (hP : Pok h P A B) (hgn : gn ≤ g 4) (hm : mA s s' m np) (hq : ∀ m2 b2 : Nat, m < m2 → (m2 : Int) < (s'.1 42).toInt → s'.2.1 76 m2 = Int32.ofNat b2 → b2 < 4400 → ((m2 : Int) < (s.1 42).toInt ∧ s.2.1 76 m2 = Int32.ofNat b2) ∨ gn ≤ b2) (e : MX L xs h s gn A B np m M kk K) : MX L xs h' s' gn A B np m M kk K := by
  obtain ⟨lo, hi, pl, ph, x, a1, a2, a3, a4, a5, a6, a7, a8, a9⟩ := e
  obtain ⟨y1, y2, y3⟩ := a.2.1 y
  obtain ⟨fsM, eM, eM2⟩ := fd_c a1.2.1
  have eM' := ob_keepP h14 y1.1.1 y1.1.2.2.2.1 a.2.2.1 hP eM (by decide)
  refine ⟨lo, hi, pl, ph, x, MTR_fr (np := np) a.2.2.1 (cA_gen y1.1.1 y1.1.2.2.2.1 a.2.2.1 hA hP a4 a5) (fun i h1 h2 => ?_) ⟨a6, a2⟩ y3 (fun j _ => by rw [fd_of eM', fd_of eM]) hm (fun x' hx' hx4 => ?_) a1, a2, ⟨a3.1, fun m2 b2 h1 h2 h3 h4 => (hq m2 b2 h1 h2 h3 h4).elim (fun z => a3.2.1 m2 b2 h1 z.1 z.2 h4) (fun z => Nat.le_trans a3.1 z), a3.2.2⟩, a4, a5, a6, hm.2.2.1.trans a7, a8, a9⟩
  · have := y2 i (by have := a3.1; omega)
    exact ⟨fun q hq => this.1 q (by omega) (by omega), this.2, fun _ => ⟨this.1 48 (by omega) (by omega), this.1 49 (by omega) (by omega)⟩, fun _ => this.1 53 (by omega) (by omega)⟩
  · have := congrArg Int32.toInt (a7.symm.trans hx')
    rw [of_int (by omega), of_int (by omega)] at this
    omega
/-- a field that is read -/
def FX (L : Nat) (xs : Nat → Int32) (h : rm_H) (s : rS) (d f i : Nat) : Prop := DCR L xs h s 67 68 69 d f i
theorem FX_keep {d f i : Nat} (h14 : cx 14 = 0) (a : OPY P cx F N q c1 c2 d2 h s g ts h' s' g' ts') (y : SY cx F N q h' s' g' ts') (hP : Pok h P A B) (r1 : s'.2.2 67 f = s.2.2 67 f) (r2 : s'.2.1 68 f = s.2.1 68 f) (r3 : s'.2.1 69 f = s.2.1 69 f) (e : FX L xs h s d f i) : FX L xs h' s' d f i := by
  obtain ⟨y1, y2, y3⟩ := a.2.1 y
  refine DCR_fr (fun j _ u e0 => ?_) (fun _ _ e0 => nS_fr a.2.2.1 e0) y3 r1 r2 r3 e
  obtain ⟨fs, e1, e2⟩ := fd_c e0
  rw [fd_of (ob_keepP h14 y1.1.1 y1.1.2.2.2.1 a.2.2.1 hP e1 (by decide))]
  exact e2
/-- rows of earlier methods stay in a step that is method m -/
theorem mA_of {m' : Nat} (r : rMm s s' m np) (hm : m' < m) (h77 : s'.2.1 77 m = s.2.1 77 m) : mA s s' m' np := by
  obtain ⟨r1, r2, r3, r4, r5, r6, r7⟩ := r
  refine ⟨fun p h1 h2 => r3 p m' h1 h2 (by omega), r4 m' (by omega) (by omega), ?_, r6 m' (by omega), r7⟩
  by_cases e : m' + 1 = m
  · rw [e]; exact h77
  · exact r4 (m' + 1) e (by omega)
end IT
