/-! EVERY NODE KNOWS THE NODE AROUND IT. -/
def k45 (K : Nat) : Bool := [6, 7, 9, 10, 13, 20, 21, 22, 23, 24, 25, 26, 27].contains K
def k46 (K : Nat) : Bool := [7, 11, 12, 13, 21, 22, 26].contains K
def kch (K : Nat) : Bool := [8, 11, 12, 30].contains K
section PKD
variable (s : rS)
def chP (n : Nat) (P : Nat → Prop) : Nat → Int32 → Prop
  | 0, _ => True
  | j + 1, x => ∀ e : Nat, x = Int32.ofNat e → 1 ≤ e → e < 4400 → s.2.1 49 e = Int32.ofNat n ∧ P e ∧ chP n P j (s.2.1 48 e)
def chL : Nat → Int32 → Prop
  | 0, x => x = 0
  | j + 1, x => ∃ e : Nat, x = Int32.ofNat e ∧ 1 ≤ e ∧ e < 4400 ∧ chL j (s.2.1 48 e)
/-- k steps up from node n there is a body -/
def upT (hi : Nat) : Nat → Nat → Prop
  | 0, n => s.2.1 44 n = 31
  | k + 1, n => (s.2.1 44 n ≠ 31 ∧ (k = 0 → s.2.1 44 n = 30)) ∧ ∃ p : Nat, 1 ≤ p ∧ p < hi ∧ s.2.1 49 n = Int32.ofNat p ∧ upT hi k p
variable (lo hi : Nat)
def PK : Nat → Nat → Prop
  | 0, _ => True
  | f + 1, n => ((lo ≤ n ∧ n < hi) ∧ (∃ k, upT s hi (k + 1) n) ∧ (s.2.1 44 n = 13 → ∃ x : Nat, 1 ≤ x ∧ x < 4400 ∧ s.2.1 45 n = Int32.ofNat x)) ∧ ∀ K : Nat, K < 32 → s.2.1 44 n = Int32.ofNat K →
      (k45 K = true → ∀ x : Nat, x < 4400 → s.2.1 45 n = Int32.ofNat x → s.2.1 49 x = Int32.ofNat n ∧ PK f x) ∧
      (k46 K = true → ∀ x : Nat, x < 4400 → s.2.1 46 n = Int32.ofNat x → s.2.1 49 x = Int32.ofNat n ∧ PK f x) ∧
      (K = 21 → ∀ x : Nat, x < 4400 → x ≠ 0 → s.2.1 47 n = Int32.ofNat x → s.2.1 49 x = Int32.ofNat n ∧ PK f x) ∧
      (kch K = true → ∀ j, chP s n (fun e => PK f e ∧ (K ≠ 30 → n < e)) j (s.2.1 45 n)) ∧
      (kch K = true → K ≠ 30 → ∃ len : Nat, len ≤ 6 ∧ s.2.1 52 n = Int32.ofNat len ∧ chL s len (s.2.1 45 n)) ∧
      (K = 11 ∨ K = 12 → ∀ x : Nat, x < 4400 → s.2.1 46 n = Int32.ofNat x → x < n) ∧
      (K = 13 → ∀ x : Nat, x < 4400 → (s.2.1 45 n = Int32.ofNat x → x < n) ∧ (s.2.1 46 n = Int32.ofNat x → n < x)) ∧
      (K = 7 ∨ K = 26 → ∀ x y : Nat, x < 4400 → y < 4400 → s.2.1 45 n = Int32.ofNat x → s.2.1 46 n = Int32.ofNat y → x < y) ∧
      ((K ≤ 5 → s.2.1 45 n = 0) ∧ (K = 8 → s.2.1 46 n = 0))
end PKD
/-- all that is under node n knows what is around it -/
def PKA (s : rS) (lo hi n : Nat) : Prop := ∀ j, PK s lo hi j n
/-- a chain of parts -/
def CHA (s : rS) (lo hi n K : Nat) (x : Int32) : Prop := ∀ j i, chP s n (fun e => PK s lo hi i e ∧ (K ≠ 30 → n < e)) j x
section PKL
variable {L : Nat} {xs : Nat → Int32} {h : rm_H} {s : rS}
theorem nrz_in {z c d lo hi pl ph n p : Nat} (e : NRz L xs h s z c d lo hi pl ph n p) : 1 ≤ lo ∧ lo ≤ n ∧ n < hi := by
  cases z with
  | zero => exact absurd e id
  | succ z => cases d with
    | zero => exact absurd e id
    | succ d => exact ⟨e.1.1, e.1.2.1, e.1.2.2.1⟩
theorem ofn_inj {a b : Nat} (ha : a < 4400) (hb : b < 4400) (e : Int32.ofNat a = Int32.ofNat b) : a = b := by
  have e1 := congrArg Int32.toInt e
  rw [Int32.toInt_ofNat_of_lt (by omega), Int32.toInt_ofNat_of_lt (by omega)] at e1
  omega
theorem ofn_0 {a : Nat} (ha : a < 4400) (h1 : 1 ≤ a) : Int32.ofNat a ≠ 0 := fun e => by
  have := ofn_inj (b := 0) ha (by decide) e
  omega
theorem sq_chP {z cc hi ph n p LO HI : Nat} {P : Nat → Prop} (hP : ∀ c d lo hi pl ph n' p, LO ≤ lo → hi ≤ HI → s.2.1 49 n' = Int32.ofNat n → NRz L xs h s z c d lo hi pl ph n' p → P n') (hH : hi ≤ HI) (b4 : HI ≤ 4400) : ∀ (es : List Nat) (lo pl : Nat) (x : Int32), LO ≤ lo → sq s (fun lo hi pl ph n p => NRz L xs h s z cc (hi - lo) lo hi pl ph n p) hi ph n p lo pl es x → (∀ j, chP s n (fun e => P e ∧ lo ≤ e) j x) ∧ chL s es.length x
  | [], lo, pl, x, _, e => by
    have e : x = 0 := e
    refine ⟨fun j => ?_, e⟩
    cases j with
    | zero => trivial
    | succ j => intro e' q1 q2 q3; exact absurd (q1.symm.trans e) (ofn_0 q3 q2)
  | e0 :: r, lo, pl, x, hl, e => by
    obtain ⟨m', lo', hi', pl', ph', e1, e2, e3, e4, e5⟩ := e
    have hin := nrz_in e3
    obtain ⟨s1, s2, s3, s4, s5, s6⟩ := e4
    obtain ⟨i1, i2⟩ := sq_chP hP hH b4 r hi' ph' _ (by omega) e5
    refine ⟨fun j => ?_, m', e1, by omega, by omega, i2⟩
    cases j with
    | zero => trivial
    | succ j =>
      intro e' q1 q2 q3
      have : e' = m' := ofn_inj q3 (by omega) (q1.symm.trans e1)
      subst this
      refine ⟨e2, ⟨hP _ _ _ _ _ _ _ _ (by omega) (by omega) e2 e3, by omega⟩, ?_⟩
      have gen : ∀ (j : Nat) (y : Int32), chP s n (fun e => P e ∧ hi' ≤ e) j y → chP s n (fun e => P e ∧ lo ≤ e) j y := by
        intro j
        induction j with
        | zero => intro _ _; trivial
        | succ j ih =>
          intro y q e2 a1 a2 a3
          obtain ⟨b1, b2, b3⟩ := q e2 a1 a2 a3
          exact ⟨b1, ⟨b2.1, by omega⟩, ih _ b3⟩
      exact gen j _ (i1 j)
theorem kid45 : ∀ W, W < 23 → k45 (wK W) = true → ∃ c ∈ kids W, c.2.1 = 45 := by decide
theorem kid46 : ∀ W, W < 23 → k46 (wK W) = true → ∃ c ∈ kids W, c.2.1 = 46 := by decide
theorem nrz_31 {z c d lo hi pl ph n p : Nat} (e : NRz L xs h s z c d lo hi pl ph n p) : s.2.1 44 n ≠ 31 := by
  cases z with
  | zero => exact absurd e id
  | succ z => cases d with
    | zero => exact absurd e id
    | succ d =>
      obtain ⟨_, W, ⟨_, w2, _, w4, _⟩, _⟩ := e
      rw [w4]
      have : ∀ W, W < 23 → Int32.ofNat (wK W) ≠ 31 := by decide
      exact this W (by omega)
theorem nrz_30 {z d lo hi pl ph n p : Nat} (e : NRz L xs h s z 1 d lo hi pl ph n p) : s.2.1 44 n = 30 := by
  cases z with
  | zero => exact absurd e id
  | succ z => cases d with
    | zero => exact absurd e id
    | succ d =>
      obtain ⟨_, W, ⟨_, w2, _, w4, _, w6, _⟩, _⟩ := e
      rw [w4]
      have : W = 14 := by
        rcases w6 with ⟨a, _⟩ | ⟨_, b⟩ | ⟨a, _⟩
        · exact absurd a (by decide)
        · exact b
        · exact absurd a (by decide)
      rw [this]
      rfl
theorem PK_of {LO HI : Nat} (b4 : HI ≤ 4400) : ∀ (f z c d lo hi pl ph n p : Nat), LO ≤ lo → hi ≤ HI → (∃ k, upT s HI (k + 1) n) → NRz L xs h s z c d lo hi pl ph n p → PK s LO HI f n
  | 0, _, _, _, _, _, _, _, _, _, _, _, _, _ => trivial
  | f + 1, z, c, d, lo, hi, pl, ph, n, p, h1, h2, hu, e => by
    cases z with
    | zero => exact absurd e id
    | succ z => cases d with
      | zero => exact absurd e id
      | succ d =>
        have e : NRb L xs h s c (NRc L xs h s (fun c lo hi pl ph n p => NRz L xs h s z c (hi - lo) lo hi pl ph n p) 0 d) (fun c lo hi pl ph n p => NRz L xs h s z c (hi - lo) lo hi pl ph n p) lo hi pl ph n p := e
        obtain ⟨⟨r1, r2, r3, r4, r5⟩, W, ⟨w1, w2, w3, w4, w5, w6, w7⟩, x1, x2, x3, x4, x5, x6, x7, x8, x9, x10, x11, x12, x13, x14⟩ := e
        have ih := PK_of (LO := LO) b4 f
        have up : ∀ {z' c' d' lo' hi' pl' ph' x p' : Nat}, s.2.1 49 x = Int32.ofNat n → NRz L xs h s z' c' d' lo' hi' pl' ph' x p' → ∃ k, upT s HI (k + 1) x := by
          intro z' c' d' lo' hi' pl' ph' x p' ex nr
          obtain ⟨k, hu⟩ := hu
          exact ⟨k + 1, ⟨nrz_31 nr, fun z => absurd z (Nat.succ_ne_zero k)⟩, n, by omega, by omega, ex, hu⟩
        refine ⟨⟨⟨by omega, by omega⟩, hu, fun e13 => ?_⟩, fun K hK eK => ?_⟩
        · have hW : W = 13 := by
            have : ∀ W, W < 23 → Int32.ofNat (wK W) = 13 → W = 13 := by decide
            exact this W (by omega) (w4.symm.trans e13)
          obtain ⟨m', x', lo', hi', pl', ph', q1, q2, q3, q4, q5, q6⟩ := x2 (6, 45, true) (by rw [hW]; decide)
          rw [if_pos rfl] at q4
          have q4' : NRz L xs h s (z + 1) 0 d lo' hi' pl' ph' m' x' := q4
          have hin := nrz_in q4'
          obtain ⟨s1, s2, _⟩ := q5
          exact ⟨m', by omega, by omega, q2⟩
        have hwb : ∀ W, W < 23 → wK W < 32 := by decide
        have KW : K = wK W := ofn_inj (by omega) (by have := hwb W (by omega); omega) (eK.symm.trans w4)
        have kid : ∀ c0 ∈ kids W, ∀ x : Nat, x < 4400 → s.2.1 c0.2.1 n = Int32.ofNat x → s.2.1 49 x = Int32.ofNat n ∧ PK s LO HI f x := by
          intro c0 hc0 x hx ex
          obtain ⟨m', x', lo', hi', pl', ph', q1, q2, q3, q4, q5, q6⟩ := x2 c0 hc0
          obtain ⟨s1, s2, s3, s4, s5, s6⟩ := q5
          cases hb : c0.2.2 with
          | true =>
            rw [hb, if_pos rfl] at q4
            have q4' : NRz L xs h s (z + 1) 0 d lo' hi' pl' ph' m' x' := q4
            have hin := nrz_in q4'
            have : x = m' := ofn_inj hx (by omega) (ex.symm.trans q2)
            subst this
            exact ⟨q3, ih _ _ _ _ _ _ _ _ _ (by omega) (by omega) (up q3 q4') q4'⟩
          | false =>
            rw [hb, if_neg (by decide)] at q4
            have hin := nrz_in q4
            have : x = m' := ofn_inj hx (by omega) (ex.symm.trans q2)
            subst this
            exact ⟨q3, ih _ _ _ _ _ _ _ _ _ (by omega) (by omega) (up q3 q4) q4⟩
        have chs : W = 8 ∨ W = 11 ∨ W = 12 ∨ W = 14 → (∀ j, chP s n (fun e => PK s LO HI f e ∧ (K ≠ 30 → n < e)) j (s.2.1 45 n)) ∧ (K ≠ 30 → ∃ len : Nat, len ≤ 6 ∧ s.2.1 52 n = Int32.ofNat len ∧ chL s len (s.2.1 45 n)) := by
          intro hW
          have gen : ∀ (lo0 : Nat) (j : Nat) (y : Int32), (K ≠ 30 → n < lo0) → chP s n (fun e => PK s LO HI f e ∧ lo0 ≤ e) j y → chP s n (fun e => PK s LO HI f e ∧ (K ≠ 30 → n < e)) j y := by
            intro lo0 j
            induction j with
            | zero => intro _ _ _; trivial
            | succ j ihj =>
              intro y h0 q e2 a1 a2 a3
              obtain ⟨b1, b2, b3⟩ := q e2 a1 a2 a3
              exact ⟨b1, ⟨b2.1, fun z => by have := h0 z; omega⟩, ihj _ h0 b3⟩
          by_cases h14 : W = 14
          · obtain ⟨es, q1, q2, q3⟩ := x5 h14
            obtain ⟨i1, i2⟩ := sq_chP (LO := LO) (P := fun e => PK s LO HI f e) (fun c d lo hi pl ph n' p a b e q => ih _ _ _ _ _ _ _ _ _ a b (up e q) q) h2 b4 es lo pl _ h1 q2
            have : K = 30 := by rw [KW, h14]; rfl
            exact ⟨fun j => gen lo j _ (fun z => absurd this z) (i1 j), fun z => absurd this z⟩
          · obtain ⟨es, q1, q2, q3, q4⟩ := x4 (by omega)
            obtain ⟨i1, i2⟩ := sq_chP (LO := LO) (P := fun e => PK s LO HI f e) (fun c d lo hi pl ph n' p a b e q => ih _ _ _ _ _ _ _ _ _ a b (up e q) q) h2 b4 es (n + 1) (p + 1) _ (by omega) q2
            exact ⟨fun j => gen (n + 1) j _ (fun _ => by omega) (i1 j), fun _ => ⟨es.length, q4, q3, i2⟩⟩
        have w5' : ∀ W, W < 23 → wK W ≤ 5 → W ≤ 5 := by decide
        have hch : ∀ W, W < 23 → kch (wK W) = true → W = 8 ∨ W = 11 ∨ W = 12 ∨ W = 14 := by decide
        refine ⟨fun k x hx ex => ?_, fun k x hx ex => ?_, fun k x hx x0 ex => ?_, fun k => (chs (hch W (by omega) (KW ▸ k))).1, fun k => (chs (hch W (by omega) (KW ▸ k))).2, fun k x hx ex => ?_, fun k x hx => ?_, fun k x y hx hy ex ey => ?_, ⟨fun k => w7 (w5' W (by omega) (by omega)), fun k => ?_⟩⟩
        · obtain ⟨c0, hc0, ec⟩ := kid45 W (by omega) (KW ▸ k)
          exact kid c0 hc0 x hx (by rw [ec]; exact ex)
        · obtain ⟨c0, hc0, ec⟩ := kid46 W (by omega) (KW ▸ k)
          exact kid c0 hc0 x hx (by rw [ec]; exact ex)
        · have hW : W = 16 := by
            have : ∀ W, W < 23 → wK W = 21 → W = 16 := by decide
            exact this W (by omega) (by omega)
          obtain ⟨a, b, a2, b2, q1, q2, q3⟩ := x3 hW
          obtain ⟨_, _, _, _, _, _, _, _, _, u3, u4, _⟩ := q2
          have u3 := nrz_in u3
          rcases q3 with q3 | q3
          · rw [q3.2.1] at ex
            exact absurd ex.symm (ofn_0 hx (by omega))
          · obtain ⟨m', x', lo', hi', pl', ph', q1', q2', q3', q4', q5, q6⟩ := q3
            have hin := nrz_in q4'
            obtain ⟨s1, s2, s3, s4, s5, s6⟩ := q5
            obtain ⟨t1, t2, _⟩ := u4
            obtain ⟨_, _, _, _, _, _, _, _, _, v3, v4, _⟩ := q1
            have v3 := nrz_in v3
            obtain ⟨v41, v42, _⟩ := v4
            have : x = m' := ofn_inj hx (by omega) (ex.symm.trans q2')
            subst this
            exact ⟨q3', ih _ _ _ _ _ _ _ _ _ (by omega) (by omega) (up q3' q4') q4'⟩
        · have hW : W = 11 ∨ W = 12 := by
            have : ∀ W, W < 23 → (wK W = 11 ∨ wK W = 12) → W = 11 ∨ W = 12 := by decide
            exact this W (by omega) (by omega)
          obtain ⟨m', x', lo', hi', pl', ph', q1, q2, q3, q4, q5, q6⟩ := x2 (6, 46, true) (by rcases hW with rfl | rfl <;> decide)
          have : x = m' := ofn_inj hx (by have := (q6 rfl).2.1; omega) (ex.symm.trans q2)
          have := (q6 rfl).2.1
          omega
        · have hW : W = 13 := by
            have : ∀ W, W < 23 → wK W = 13 → W = 13 := by decide
            exact this W (by omega) (by omega)
          constructor
          · intro ex
            obtain ⟨m', x', lo', hi', pl', ph', q1, q2, q3, q4, q5, q6⟩ := x2 (6, 45, true) (by rw [hW]; decide)
            have : x = m' := ofn_inj hx (by have := (q6 rfl).2.1; omega) (ex.symm.trans q2)
            have := (q6 rfl).2.1
            omega
          · intro ex
            obtain ⟨m', x', lo', hi', pl', ph', q1, q2, q3, q4, q5, q6⟩ := x13 hW
            have hin := nrz_in q4
            obtain ⟨s1, s2, _⟩ := q5
            have : x = m' := ofn_inj hx (by omega) (ex.symm.trans q2)
            omega
        · have hW : W = 7 ∨ W = 21 := by
            have : ∀ W, W < 23 → (wK W = 7 ∨ wK W = 26) → W = 7 ∨ W = 21 := by decide
            exact this W (by omega) (by omega)
          obtain ⟨a, b, q1, q2⟩ := x12 (by omega)
          obtain ⟨m1, _, lo1, hi1, _, _, _, a2, _, a4, ⟨a5, a6, _⟩, _⟩ := q1
          obtain ⟨m2, _, lo2, hi2, _, _, _, c2, _, c4, ⟨c5, c6, _⟩, _⟩ := q2
          have i1 := nrz_in a4
          have i2 := nrz_in c4
          have : x = m1 := ofn_inj hx (by omega) (ex.symm.trans a2)
          have : y = m2 := ofn_inj hy (by omega) (ey.symm.trans c2)
          omega
        · have hW : W = 8 := by
            have : ∀ W, W < 23 → wK W = 8 → W = 8 := by decide
            exact this W (by omega) (by omega)
          obtain ⟨_, _, _, _, _, _, y⟩ := x9 hW
          exact y
end PKL
