/-! ALL TOKENS ALIKE: both readers go through the same begins; the reference stops at the first that is bad. -/
def tb (g : Nat → Int32) (n : Nat) : Nat → Nat → List Nat
  | 0, _ => []
  | f + 1, a => if lx_bl g n (n - a) a = n then [] else lx_bl g n (n - a) a :: tb g n f (lx_en g n (lx_bl g n (n - a) a))
theorem tb_fuel (g : Nat → Int32) (n : Nat) : ∀ (f f2 a : Nat), n < a + f → n < a + f2 → a ≤ n → tb g n f a = tb g n f2 a := by
  intro f
  induction f with
  | zero => intro f2 a h1 h2 h3; omega
  | succ f ih =>
    intro f2 a h1 h2 h3
    cases f2 with
    | zero => omega
    | succ f2 =>
      have hb := lx_bl_le g n (n - a) a h3
      rw [tb, tb]
      by_cases c : lx_bl g n (n - a) a = n
      · rw [if_pos c, if_pos c]
      · rw [if_neg c, if_neg c]
        have he := lx_en_gt g n (lx_bl g n (n - a) a) (by omega)
        rw [ih f2 _ (by omega) (by omega) (by omega)]
theorem bl_32 (g : Nat → Int32) (n a : Nat) (h : a < n) (hg : g a = 32) : lx_bl g n (n - a) a = lx_bl g n (n - (a + 1)) (a + 1) := by
  obtain ⟨m, hm⟩ : ∃ m, n - a = m + 1 := ⟨n - a - 1, by omega⟩
  rw [hm, lx_bl, if_pos ⟨h, hg⟩, show n - (a + 1) = m from by omega]
theorem bl_no (g : Nat → Int32) (n a : Nat) (h : a < n) (hg : ¬ g a = 32) : lx_bl g n (n - a) a = a := by
  obtain ⟨m, hm⟩ : ∃ m, n - a = m + 1 := ⟨n - a - 1, by omega⟩
  rw [hm, lx_bl, if_neg (fun z => hg z.2)]
theorem bl_end (g : Nat → Int32) (n : Nat) : lx_bl g n (n - n) n = n := by
  rw [Nat.sub_self]
  rfl
/-- the class's rows hold these begins -/
def cRows (g : Nat → Int32) (n c : Nat) (l : List Nat) (r : Nat × (Nat → Int32) × (Nat → Int32) × (Nat → Int32)) : Prop := r.1 = c + l.length ∧ ∀ i b, l[i]? = some b → b < n ∧ r.2.1 (c + i) = tkF g n b ∧ r.2.2.1 (c + i) = Int32.ofNat b ∧ r.2.2.2 (c + i) = Int32.ofNat (lx_en g n b)
theorem lxC_old (g : Nat → Int32) (n : Nat) : ∀ (F a c : Nat) (A B C : Nat → Int32) (j : Nat), j < c → (lxC g n F a c A B C).2.1 j = A j ∧ (lxC g n F a c A B C).2.2.1 j = B j ∧ (lxC g n F a c A B C).2.2.2 j = C j := by
  intro F
  induction F with
  | zero => intro a c A B C j _; exact ⟨rfl, rfl, rfl⟩
  | succ F ih =>
    intro a c A B C j hj
    rw [lxC]
    split
    · split
      · exact ih (a + 1) c A B C j hj
      · have := ih (lx_en g n a) (c + 1) (upd A c (tkF g n a)) (upd B c (Int32.ofNat a)) (upd C c (Int32.ofNat (lx_en g n a))) j (by omega)
        rw [upd_ne _ _ (by omega), upd_ne _ _ (by omega), upd_ne _ _ (by omega)] at this
        exact this
    · exact ⟨rfl, rfl, rfl⟩
theorem lxC_tb (g : Nat → Int32) (n : Nat) : ∀ (F a c : Nat) (A B C : Nat → Int32), n ≤ a + F → a ≤ n → cRows g n c (tb g n (F + 1) a) (lxC g n F a c A B C) := by
  intro F
  induction F with
  | zero =>
    intro a c A B C h1 h2
    have : a = n := by omega
    subst this
    rw [tb, if_pos (bl_end g a), lxC]
    exact ⟨rfl, fun i b h => by cases h⟩
  | succ F ih =>
    intro a c A B C h1 h2
    rw [lxC]
    by_cases h : a < n
    · rw [if_pos h]
      by_cases c32 : g a = 32
      · rw [if_pos c32]
        have e : tb g n (F + 1 + 1) a = tb g n (F + 1) (a + 1) := by
          rw [tb_fuel g n (F + 1) (F + 1 + 1) (a + 1) (by omega) (by omega) (by omega)]
          have u1 : tb g n (F + 1 + 1) a = if lx_bl g n (n - a) a = n then [] else lx_bl g n (n - a) a :: tb g n (F + 1) (lx_en g n (lx_bl g n (n - a) a)) := rfl
          have u2 : tb g n (F + 1 + 1) (a + 1) = if lx_bl g n (n - (a + 1)) (a + 1) = n then [] else lx_bl g n (n - (a + 1)) (a + 1) :: tb g n (F + 1) (lx_en g n (lx_bl g n (n - (a + 1)) (a + 1))) := rfl
          rw [u1, u2, bl_32 g n a h c32]
        rw [e]
        exact ih (a + 1) c A B C (by omega) (by omega)
      · rw [if_neg c32, tb, bl_no g n a h c32, if_neg (show ¬ a = n by omega)]
        have he := lx_en_gt g n a h
        obtain ⟨r1, r2⟩ := ih (lx_en g n a) (c + 1) (upd A c (tkF g n a)) (upd B c (Int32.ofNat a)) (upd C c (Int32.ofNat (lx_en g n a))) (by omega) (by omega)
        refine ⟨by rw [r1, List.length_cons]; omega, ?_⟩
        intro i b hi
        cases i with
        | zero =>
          have hi : some a = some b := hi
          cases hi
          have o := lxC_old g n F (lx_en g n a) (c + 1) (upd A c (tkF g n a)) (upd B c (Int32.ofNat a)) (upd C c (Int32.ofNat (lx_en g n a))) c (by omega)
          rw [upd_eq, upd_eq, upd_eq] at o
          exact ⟨h, o⟩
        | succ i =>
          have hi : (tb g n (F + 1) (lx_en g n a))[i]? = some b := hi
          have := r2 i b hi
          rw [show c + 1 + i = c + (i + 1) from by omega] at this
          exact this
    · have : a = n := by omega
      subst this
      rw [if_neg h, tb, if_pos (bl_end g a)]
      exact ⟨rfl, fun i b h => by cases h⟩
/-- what a token leaves alone -/
def fT (s s2 : rS) (tok : Nat) : Prop := (∀ i, i ≠ 5 → s2.1 i = s.1 i) ∧ (∀ p j, (p ≠ 40 ∧ p ≠ 41 ∧ p ≠ 42) ∨ j < tok → s2.2.1 p j = s.2.1 p j) ∧ (∀ p j, p ≠ 43 ∨ j < tok → s2.2.2 p j = s.2.2 p j)
theorem fT_refl (s : rS) (tok : Nat) : fT s s tok := ⟨fun _ _ => rfl, fun _ _ _ => rfl, fun _ _ _ => rfl⟩
theorem fT_trans {s s1 s2 : rS} {tok tok2 : Nat} (a : fT s s1 tok) (b : fT s1 s2 tok2) (h : tok ≤ tok2) : fT s s2 tok := by
  obtain ⟨a1, a2, a3⟩ := a
  obtain ⟨b1, b2, b3⟩ := b
  refine ⟨fun i hi => (b1 i hi).trans (a1 i hi), fun p j hj => (b2 p j (hj.imp id (fun z => by omega))).trans (a2 p j hj), fun p j hj => (b3 p j (hj.imp id (fun z => by omega))).trans (a3 p j hj)⟩
theorem fT_A (s : rS) (p tok : Nat) (x : Int32) (hp : p = 40 ∨ p = 41 ∨ p = 42) : fT s (rs_wA s p tok x) tok := by
  refine ⟨fun _ _ => rfl, fun q j hj => ?_, fun _ _ _ => rfl⟩
  unfold rs_wA
  dsimp only
  by_cases e : q = p
  · rw [if_pos e, upd_ne]
    rcases hj with hj | hj
    · omega
    · omega
  · rw [if_neg e]
theorem fT_B (s : rS) (tok : Nat) (x : Int64) : fT s (rs_wB s 43 tok x) tok := by
  refine ⟨fun _ _ => rfl, fun _ _ _ => rfl, fun q j hj => ?_⟩
  unfold rs_wB
  dsimp only
  by_cases e : q = 43
  · rw [if_pos e]
    have hj : j ≠ tok := by rcases hj with hj | hj <;> omega
    exact if_neg hj
  · rw [if_neg e]
theorem fT_rk0 (s : rS) (tok a : Nat) : fT s (rk0 s tok a) tok := by
  unfold rk0
  exact fT_trans (fT_trans (fT_A s 41 tok _ (by decide)) (fT_A _ 42 tok _ (by decide)) (Nat.le_refl _)) (fT_B _ tok _) (Nat.le_refl _)
theorem fT_rcF (s : rS) (tok a len : Nat) (d sm : Bool) (v : Int32) (c : Int64) : fT s (rcF s tok a len d sm v c) tok := by
  have L := Nat.le_refl tok
  unfold rcF
  split
  · exact fT_trans (fT_trans (fT_A s 40 tok _ (by decide)) (fT_A _ 40 tok _ (by decide)) L) (fT_A _ 42 tok _ (by decide)) L
  · split
    · exact fT_A s 40 tok _ (by decide)
    · split
      · exact fT_trans (fT_trans (fT_A s 40 tok _ (by decide)) (fT_B _ tok _) L) (fT_A _ 40 tok _ (by decide)) L
      · split
        · exact fT_trans (fT_trans (fT_trans (fT_A s 40 tok _ (by decide)) (fT_B _ tok _) L) (fT_A _ 40 tok _ (by decide)) L) (fT_A _ 42 tok _ (by decide)) L
        · exact fT_trans (fT_A s 40 tok _ (by decide)) (fT_B _ tok _) L
theorem fT_rkT (s : rS) (n tok a : Nat) : fT s (rkT s n tok a) tok := by
  have L := Nat.le_refl tok
  unfold rkT
  split
  · exact fT_trans (fT_rk0 s tok a) (fT_A _ 40 tok _ (by decide)) L
  · split
    · exact fT_trans (fT_rk0 s tok a) (fT_rcF _ tok a _ _ _ _ _) L
    · exact fT_trans (fT_trans (fT_rk0 s tok a) (fT_A _ 40 tok _ (by decide)) L) (fT_A _ 42 tok _ (by decide)) L
theorem fT_w (s : rS) (tok : Nat) (x : Int32) : fT s (rs_w s 5 x) tok := ⟨fun i hi => upd_ne _ _ hi, fun _ _ _ => rfl, fun _ _ _ => rfl⟩
theorem fT_rC (n : Nat) : ∀ (f a tok : Nat) (s : rS), fT s (rC n f a tok s) tok := by
  intro f
  induction f with
  | zero => intro a tok s; exact fT_refl s tok
  | succ f ih =>
    intro a tok s
    rw [rC]
    have h1 := fT_trans (fT_rkT s n tok (lx_bl (s.2.1 38) n (n - a) a)) (fT_w _ tok (Int32.ofNat (tok + 1))) (Nat.le_refl _)
    split
    · exact fT_trans h1 (ih _ (tok + 1) _) (by omega)
    · exact h1
