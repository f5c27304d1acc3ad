/-! HOW HIGH A STACK GROWS: every value that waits is a part of its own in the text. -/
/-- what node y weighs -/
def wtN (s : rS) (y : Nat) : Nat := 1 + (s.2.1 52 y).toNatClampNeg
/-- what the nodes of P below n weigh -/
noncomputable def sWg (s : rS) (P : Nat → Prop) : Nat → Nat
  | 0 => 0
  | n + 1 => sWg s P n + @ite Nat (1 ≤ n ∧ P n) (Classical.propDecidable _) (wtN s n) 0
/-- j steps up from y there is x -/
def ancN (s : rS) : Nat → Nat → Nat → Prop
  | 0, y, x => y = x
  | j + 1, y, x => s.2.1 44 y ≠ 31 ∧ ∃ p : Nat, 1 ≤ p ∧ p < 4400 ∧ s.2.1 49 y = Int32.ofNat p ∧ ancN s j p x
def dsc (s : rS) (x y : Nat) : Prop := ∃ j, ancN s j y x
def upA (s : rS) : Nat → Nat → Prop
  | 0, n => s.2.1 44 n = 31
  | k + 1, n => s.2.1 44 n ≠ 31 ∧ ∃ p : Nat, 1 ≤ p ∧ p < 4400 ∧ s.2.1 49 n = Int32.ofNat p ∧ upA s k p
noncomputable def WT (s : rS) (N x : Nat) : Nat := sWg s (dsc s x) N
def tTl (s : rS) (N : Nat) : Nat := (N - 1) + sm2 (s.2.1 52) N
section HGA
variable {s : rS} {hi : Nat}
theorem up_A (h4 : hi ≤ 4400) : ∀ (k n : Nat), upT s hi k n → upA s k n
  | 0, _, h => h
  | k + 1, n, h => by
    obtain ⟨⟨a, _⟩, p, p1, p2, p3, p4⟩ := h
    exact ⟨a, p, p1, by omega, p3, up_A h4 k p p4⟩
theorem upA_u : ∀ (k k' n : Nat), upA s k n → upA s k' n → k = k'
  | 0, 0, _, _, _ => rfl
  | 0, _ + 1, _, h, h' => absurd h h'.1
  | _ + 1, 0, _, h, h' => absurd h' h.1
  | k + 1, k' + 1, n, h, h' => by
    obtain ⟨_, p, _, p2, p3, p4⟩ := h
    obtain ⟨_, p', _, q2, q3, q4⟩ := h'
    have e : p = p' := ofn_inj p2 q2 (p3.symm.trans q3)
    subst e
    rw [upA_u k k' p p4 q4]
theorem anc_up : ∀ (j y x k : Nat), ancN s j y x → upA s k x → upA s (k + j) y
  | 0, y, x, k, h, u => by
    have h : y = x := h
    rw [h]
    exact u
  | j + 1, y, x, k, h, u => by
    obtain ⟨a, p, p1, p2, p3, p4⟩ := h
    show upA s ((k + j) + 1) y
    exact ⟨a, p, p1, p2, p3, anc_up j p x k p4 u⟩
theorem anc_s : ∀ (j y n p : Nat), ancN s j y n → s.2.1 44 n ≠ 31 → 1 ≤ p → p < 4400 → s.2.1 49 n = Int32.ofNat p → ancN s (j + 1) y p
  | 0, y, n, p, h, a, b, c, d => by
    have h : y = n := h
    subst h
    exact ⟨a, p, b, c, d, rfl⟩
  | j + 1, y, n, p, h, a, b, c, d => by
    obtain ⟨a', p', p1, p2, p3, p4⟩ := h
    exact ⟨a', p', p1, p2, p3, anc_s j p' n p p4 a b c d⟩
theorem chL_u : ∀ (i j : Nat) (x : Int32), chL s i x → chL s j x → i = j
  | 0, 0, _, _, _ => rfl
  | 0, _ + 1, _, h, h' => by
    obtain ⟨e, e1, e2, e3, _⟩ := h'
    exact absurd (e1.symm.trans h) (ofn_0 e3 e2)
  | _ + 1, 0, _, h, h' => by
    obtain ⟨e, e1, e2, e3, _⟩ := h
    exact absurd (e1.symm.trans h') (ofn_0 e3 e2)
  | i + 1, j + 1, x, h, h' => by
    obtain ⟨e, e1, _, e3, e4⟩ := h
    obtain ⟨e', f1, _, f3, f4⟩ := h'
    have q : e = e' := ofn_inj e3 f3 (e1.symm.trans f1)
    subst q
    rw [chL_u i j _ e4 f4]
theorem sW_mono {P Q : Nat → Prop} : ∀ (n : Nat), (∀ y, P y → Q y) → sWg s P n ≤ sWg s Q n
  | 0, _ => Nat.le_refl _
  | n + 1, h => by
    have i := sW_mono n h
    show sWg s P n + @ite Nat (1 ≤ n ∧ P n) (Classical.propDecidable _) (wtN s n) 0 ≤ sWg s Q n + @ite Nat (1 ≤ n ∧ Q n) (Classical.propDecidable _) (wtN s n) 0
    by_cases hp : 1 ≤ n ∧ P n
    · have hq : 1 ≤ n ∧ Q n := ⟨hp.1, h n hp.2⟩
      rw [if_pos hp, if_pos hq]
      exact Nat.add_le_add_right i _
    · rw [if_neg hp]
      exact Nat.le_trans i (Nat.le_add_right _ _)
theorem sW_add {P : Nat → Prop} {x : Nat} (hx : 1 ≤ x) (np : ¬ P x) : ∀ (n : Nat), sWg s (fun y => P y ∨ y = x) n = sWg s P n + (if x < n then wtN s x else 0)
  | 0 => by rw [if_neg (Nat.not_lt_zero x)]; rfl
  | n + 1 => by
    have i := sW_add hx np n
    have e1 : sWg s (fun y => P y ∨ y = x) (n + 1) = sWg s (fun y => P y ∨ y = x) n + @ite Nat (1 ≤ n ∧ (P n ∨ n = x)) (Classical.propDecidable _) (wtN s n) 0 := rfl
    have e2 : sWg s P (n + 1) = sWg s P n + @ite Nat (1 ≤ n ∧ P n) (Classical.propDecidable _) (wtN s n) 0 := rfl
    rw [e1, e2, i]
    by_cases h : n = x
    · have a1 : 1 ≤ n ∧ (P n ∨ n = x) := ⟨by omega, Or.inr h⟩
      have a2 : ¬ (1 ≤ n ∧ P n) := fun z => np (h ▸ z.2)
      rw [if_pos a1, if_neg a2, if_neg (show ¬ x < n by omega), if_pos (show x < n + 1 by omega), h]
    · have a3 : (if x < n + 1 then wtN s x else 0) = (if x < n then wtN s x else 0) := by
        by_cases l : x < n
        · rw [if_pos l, if_pos (by omega)]
        · rw [if_neg l, if_neg (by omega)]
      rw [a3]
      by_cases g : 1 ≤ n ∧ P n
      · have a1 : 1 ≤ n ∧ (P n ∨ n = x) := ⟨g.1, Or.inl g.2⟩
        rw [if_pos g, if_pos a1]
        exact Nat.add_right_comm _ _ _
      · have a1 : ¬ (1 ≤ n ∧ (P n ∨ n = x)) := fun z => z.2.elim (fun w => g ⟨z.1, w⟩) h
        rw [if_neg g, if_neg a1]
        exact Nat.add_right_comm _ _ _
theorem sW_in {P Q : Nat → Prop} {x N : Nat} (hx : 1 ≤ x) (hN : x < N) (np : ¬ P x) (hQ : Q x) (sub : ∀ y, P y → Q y) : sWg s P N + wtN s x ≤ sWg s Q N := by
  have e := sW_add (s := s) hx np N
  rw [if_pos hN] at e
  rw [← e]
  exact sW_mono N (fun y h => h.elim (sub y) (fun z => by rw [z]; exact hQ))
theorem sW_all {P : Nat → Prop} : ∀ (n : Nat), sWg s P n ≤ tTl s n
  | 0 => Nat.zero_le _
  | n + 1 => by
    have i := sW_all (P := P) n
    unfold tTl at i
    show sWg s P n + @ite Nat (1 ≤ n ∧ P n) (Classical.propDecidable _) (wtN s n) 0 ≤ (n + 1 - 1) + (sm2 (s.2.1 52) n + (if n = 0 then 0 else (s.2.1 52 n).toNatClampNeg))
    by_cases h : n = 0
    · have a : ¬ (1 ≤ n ∧ P n) := fun z => absurd z.1 (by omega)
      rw [if_neg a, if_pos h]
      omega
    · rw [if_neg h]
      by_cases g : 1 ≤ n ∧ P n
      · rw [if_pos g]
        unfold wtN
        omega
      · rw [if_neg g]
        omega
theorem W_le {N x : Nat} : WT s N x ≤ tTl s N := sW_all N
variable {N n p k : Nat}
theorem dsc_up (e49 : s.2.1 49 n = Int32.ofNat p) (p1 : 1 ≤ p) (p4 : p < 4400) (n31 : s.2.1 44 n ≠ 31) {y : Nat} (h : dsc s n y) : dsc s p y := by
  obtain ⟨j, h⟩ := h
  exact ⟨j + 1, anc_s j y n p h n31 p1 p4 e49⟩
theorem dsc_np (un : upA s (k + 1) n) (up : upA s k p) : ¬ dsc s n p := by
  rintro ⟨j, h⟩
  have := upA_u _ _ _ (anc_up j p n (k + 1) h un) up
  omega
theorem dsc_sb {x : Nat} (un : upA s (k + 1) n) (ux : upA s (k + 1) x) (ne : x ≠ n) : ¬ dsc s n x := by
  rintro ⟨j, h⟩
  have e := upA_u _ _ _ (anc_up j x n (k + 1) h un) ux
  have j0 : j = 0 := by omega
  subst j0
  exact ne h
theorem W_up (e49 : s.2.1 49 n = Int32.ofNat p) (p1 : 1 ≤ p) (p4 : p < 4400) (n31 : s.2.1 44 n ≠ 31) : WT s N n ≤ WT s N p := sW_mono N (fun _ h => dsc_up e49 p1 p4 n31 h)
theorem W_own (e49 : s.2.1 49 n = Int32.ofNat p) (p1 : 1 ≤ p) (p4 : p < 4400) (n31 : s.2.1 44 n ≠ 31) (up : upA s k p) (hN : p < N) : WT s N n + 1 ≤ WT s N p := by
  have a : sWg s (dsc s n) N + wtN s p ≤ sWg s (dsc s p) N := sW_in p1 hN (dsc_np ⟨n31, p, p1, p4, e49, up⟩ up) ⟨0, rfl⟩ (fun _ h => dsc_up e49 p1 p4 n31 h)
  unfold wtN at a
  unfold WT
  omega
theorem W_two {x : Nat} (e49 : s.2.1 49 n = Int32.ofNat p) (p1 : 1 ≤ p) (p4 : p < 4400) (n31 : s.2.1 44 n ≠ 31) (up : upA s k p) (hN : p < N) (x49 : s.2.1 49 x = Int32.ofNat p) (x31 : s.2.1 44 x ≠ 31) (ne : x ≠ n) (x1 : 1 ≤ x) (xN : x < N) : WT s N n + 2 ≤ WT s N p := by
  have un : upA s (k + 1) n := ⟨n31, p, p1, p4, e49, up⟩
  have ux : upA s (k + 1) x := ⟨x31, p, p1, p4, x49, up⟩
  have a := sW_in (s := s) (P := dsc s n) (Q := fun y => dsc s n y ∨ y = p) p1 hN (dsc_np un up) (Or.inr rfl) (fun _ h => Or.inl h)
  have b := sW_in (s := s) (P := fun y => dsc s n y ∨ y = p) (Q := dsc s p) x1 xN (fun z => z.elim (dsc_sb un ux ne) (fun e => by rw [e] at ux; have := upA_u _ _ _ ux up; omega)) ⟨1, x31, p, p1, p4, x49, rfl⟩ (fun y h => h.elim (dsc_up e49 p1 p4 n31) (fun e => by rw [e]; exact ⟨0, rfl⟩))
  unfold wtN at a b
  unfold WT
  omega
def Qch (s : rS) (n p j y : Nat) : Prop := (dsc s n y ∨ y = p) ∨ (dsc s p y ∧ ∃ i, j ≤ i ∧ chL s i (s.2.1 48 y))
theorem W_chl {lo K : Nat} (hN : hi ≤ N) (e49 : s.2.1 49 n = Int32.ofNat p) (p1 : 1 ≤ p) (p4 : p < 4400) (n31 : s.2.1 44 n ≠ 31) (up : upA s k p) : ∀ (j : Nat) (x : Int32), chL s j x → CHA s lo hi p K x → (sWg s (Qch s n p j) N + j ≤ WT s N p + 1) ∧ ((∀ i, i < j → ¬ chL s i (s.2.1 48 n)) → sWg s (Qch s n p j) N + j ≤ WT s N p)
  | 0, x, _, _ => by
    have sub : sWg s (Qch s n p 0) N ≤ WT s N p := sW_mono N (fun y h => h.elim (fun h => h.elim (dsc_up e49 p1 p4 n31) (fun e => by rw [e]; exact ⟨0, rfl⟩)) (fun h => h.1))
    exact ⟨Nat.le_succ_of_le sub, fun _ => sub⟩
  | j + 1, x, cl, ch => by
    obtain ⟨e, ex, e1, e4, cl'⟩ := cl
    obtain ⟨x49, pke, _, ch'⟩ := cha_hd ch ex e1 e4
    obtain ⟨i1, i2⟩ := W_chl hN e49 p1 p4 n31 up j _ cl' ch'
    have rg := pka_rg pke
    obtain ⟨ke, ue⟩ := pka_up pke
    have e31 : s.2.1 44 e ≠ 31 := ue.1.1
    have un : upA s (k + 1) n := ⟨n31, p, p1, p4, e49, up⟩
    have ux : upA s (k + 1) e := ⟨e31, p, p1, p4, x49, up⟩
    have sub : ∀ y, Qch s n p (j + 1) y → Qch s n p j y := by
      intro y h
      rcases h with h | ⟨h, i, h1, h2⟩
      · exact Or.inl h
      · exact Or.inr ⟨h, i, by omega, h2⟩
    by_cases z : e = n
    · have le := sW_mono (s := s) N sub
      rw [z] at cl'
      have nn := i2 (fun i hi' c => by have := chL_u i j _ c cl'; omega)
      exact ⟨by omega, fun h => absurd cl' (h j (by omega))⟩
    · have a := sW_in (s := s) (N := N) (P := Qch s n p (j + 1)) (Q := Qch s n p j) (x := e) e1 (by omega) (by
        rintro ((q | q) | ⟨_, i, q1, q2⟩)
        · exact dsc_sb un ux z q
        · rw [q] at ux
          have := upA_u _ _ _ ux up
          omega
        · have := chL_u i j _ q2 cl'
          omega) (Or.inr ⟨⟨1, e31, p, p1, p4, x49, rfl⟩, j, Nat.le_refl _, cl'⟩) sub
      unfold wtN at a
      exact ⟨by omega, fun h => by
        have := i2 (fun i hi' => h i (by omega))
        omega⟩
theorem W_call {lo K l : Nat} (hN : hi ≤ N) (pk : PKA s lo hi p) (eK : s.2.1 44 p = Int32.ofNat K) (hK : K = 8 ∨ K = 11 ∨ K = 12) (h52 : s.2.1 52 p = Int32.ofNat l) (l6 : l ≤ 6) (e49 : s.2.1 49 n = Int32.ofNat p) (p1 : 1 ≤ p) (p4 : p < 4400) (n31 : s.2.1 44 n ≠ 31) (up : upA s k p) : WT s N n + 2 * l ≤ WT s N p := by
  have kc : kch K = true := by rcases hK with rfl | rfl | rfl <;> rfl
  obtain ⟨len, l1, l2, l3⟩ := pka_len pk eK (by omega) kc (by omega)
  have el : len = l := ofn_inj (by omega) (by omega) (l2.symm.trans h52)
  subst el
  have rg := pka_rg pk
  obtain ⟨a, _⟩ := W_chl (K := K) (lo := lo) hN e49 p1 p4 n31 up len _ l3 (pka_ch pk eK (by omega) kc)
  have b := sW_in (s := s) (N := N) (P := dsc s n) (Q := Qch s n p len) (x := p) p1 (by omega) (dsc_np ⟨n31, p, p1, p4, e49, up⟩ up) (Or.inl (Or.inr rfl)) (fun y h => Or.inl (Or.inl h))
  have w : wtN s p = 1 + len := by
    unfold wtN
    rw [h52, of_clamp (by omega)]
  have c : WT s N n = sWg s (dsc s n) N := rfl
  omega
end HGA
