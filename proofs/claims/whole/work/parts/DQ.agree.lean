/-! TEXTS THAT AGREE HAVE THE SAME TOKENS. -/
section AG
variable {g g2 : Nat → Int32} {n : Nat} {s : rS}
theorem sk_cg (ag : ∀ i, i < n → g i = g2 i) : ∀ (f k : Nat), k + f ≤ n → lx_sk g f k = lx_sk g2 f k := by
  intro f
  induction f with
  | zero => intro k _; rfl
  | succ f ih =>
    intro k hk
    rw [lx_sk, lx_sk, ag k (by omega), ih (k + 1) (by omega)]
theorem ln_cg (ag : ∀ i, i < n → g i = g2 i) (b : Nat) (hb : b ≤ n) : lx_ln g n b = lx_ln g2 n b := by
  unfold lx_ln
  rw [sk_cg ag _ _ (by omega)]
theorem en_cg (ag : ∀ i, i < n → g i = g2 i) (b : Nat) (hb : b < n) : lx_en g n b = lx_en g2 n b := by
  unfold lx_en
  rw [sk_cg ag _ _ (by omega), ag b hb]
  by_cases c : b + 1 < n
  · rw [ag (b + 1) c]
  · have e1 : ¬ (g2 b = 61 ∧ b + 1 < n ∧ g (b + 1) = 61) := fun u => c u.2.1
    have e2 : ¬ (g2 b = 61 ∧ b + 1 < n ∧ g2 (b + 1) = 61) := fun u => c u.2.1
    rw [if_neg e1, if_neg e2]
theorem bl_cg (ag : ∀ i, i < n → g i = g2 i) : ∀ (f a : Nat), lx_bl g n f a = lx_bl g2 n f a := by
  intro f
  induction f with
  | zero => intro a; rfl
  | succ f ih =>
    intro a
    rw [lx_bl, lx_bl]
    by_cases c : a < n
    · rw [ag a c, ih]
    · rw [if_neg (fun u => c u.1), if_neg (fun u => c u.1)]
theorem all_cg {p q : Nat → Bool} (m : Nat) (e : ∀ j, j < m → p j = q j) : (List.range m).all p = (List.range m).all q := by
  rw [Bool.eq_iff_iff, List.all_eq_true, List.all_eq_true]
  exact ⟨fun u x hx => by rw [← e x (List.mem_range.mp hx)]; exact u x hx, fun u x hx => by rw [e x (List.mem_range.mp hx)]; exact u x hx⟩
theorem any_cg {p q : Nat → Bool} (m : Nat) (e : ∀ j, j < m → p j = q j) : (List.range m).any p = (List.range m).any q := by
  rw [Bool.eq_iff_iff, List.any_eq_true, List.any_eq_true]
  exact ⟨fun ⟨x, hx, u⟩ => ⟨x, hx, by rw [← e x (List.mem_range.mp hx)]; exact u⟩, fun ⟨x, hx, u⟩ => ⟨x, hx, by rw [e x (List.mem_range.mp hx)]; exact u⟩⟩
theorem kwS_cg (ag : ∀ i, i < n → g i = g2 i) (b len : Nat) (hb : b + len ≤ n) : ∀ (f num wb i : Nat), kwS g b len f num wb i = kwS g2 b len f num wb i := by
  have e : ∀ wb, eqAt g wb b len = eqAt g2 wb b len := by
    intro wb
    unfold eqAt
    exact all_cg _ (fun j hj => by rw [ag (b + j) (by omega)])
  intro f
  induction f with
  | zero => intro num wb i; rfl
  | succ f ih =>
    intro num wb i
    rw [kwS, kwS, e, ih, ih]
theorem tkF_cg (ag : ∀ i, i < n → g i = g2 i) (b : Nat) (hb : b < n) : tkF g n b = tkF g2 n b := by
  have ge := lx_en_gt g2 n b hb
  unfold tkF
  rw [en_cg ag b hb, ag b hb]
  have e1 : allD g b (lx_en g2 n b - b) = allD g2 b (lx_en g2 n b - b) := by
    unfold allD
    exact all_cg _ (fun j hj => by rw [ag (b + j) (by omega)])
  have e2 : anyG g b (lx_en g2 n b - b) = anyG g2 b (lx_en g2 n b - b) := by
    unfold anyG
    exact any_cg _ (fun j hj => by rw [ag (b + j) (by omega)])
  have e3 : rowT g b (lx_en g2 n b) = rowT g2 b (lx_en g2 n b) := by
    unfold rowT rowF
    rw [e1, e2, ag b hb, kwS_cg ag b _ (by omega)]
  have e4 : sgT g b (lx_en g2 n b) = sgT g2 b (lx_en g2 n b) := by
    unfold sgT
    rw [ag b hb]
  rw [e3, e4]
theorem tb_cg (ag : ∀ i, i < n → g i = g2 i) : ∀ (f a : Nat), a ≤ n → tb g n f a = tb g2 n f a := by
  intro f
  induction f with
  | zero => intro a _; rfl
  | succ f ih =>
    intro a ha
    have hb := lx_bl_le g2 n (n - a) a ha
    rw [tb, tb, bl_cg ag]
    by_cases c : lx_bl g2 n (n - a) a = n
    · rw [if_pos c, if_pos c]
    · rw [if_neg c, if_neg c, en_cg ag _ (by omega), ih _ (lx_en_gt g2 n _ (by omega)).2]
theorem rcC_cg (ag : ∀ i, i < n → g i = g2 i) : ∀ (f i : Nat) (c : Int64), i + f ≤ n → rcC g f i c = rcC g2 f i c := by
  intro f
  induction f with
  | zero => intro i c _; rfl
  | succ f ih =>
    intro i c hi
    rw [rcC, rcC, ag i (by omega), ih _ _ (by omega)]
theorem rcV_cg (ag : ∀ i, i < n → g i = g2 i) (big : Bool) : ∀ (f i : Nat) (v : Int32), i + f ≤ n → rcV g big f i v = rcV g2 big f i v := by
  intro f
  induction f with
  | zero => intro i v _; rfl
  | succ f ih =>
    intro i v hi
    rw [rcV, rcV, ag i (by omega), ih _ _ (by omega)]
theorem TR_cg (ag : ∀ i, i < n → g i = g2 i) {tok b : Nat} {T : Int32} (hb : b < n) (h : TR s g n tok b T) : TR s g2 n tok b T := by
  have l : b + lx_ln g2 n b ≤ n := by
    have := (lx_sk_ge g2 (n - b) b).2
    unfold lx_ln
    omega
  unfold TR at h ⊢
  rw [ln_cg ag b (by omega), rcC_cg ag _ _ _ l, rcV_cg ag _ _ _ _ l] at h
  exact h
end AG
