/-! THE STACK OF AN ACTOR: push, enter, leave. -/
/-- actor a has stack f, ht high, at z with room for c -/
def sQ (sg : cS) (a z c : Nat) (f : Nat → Int32) (ht : Nat) : cS := sA' (sG sg a z c f) a 13 (Int32.ofNat ht)
def pot : Nat → cS → Nat
  | 0, _ => 0
  | n + 1, sg => pot n sg + sg.2.2.2.2 n 13
/-- what it costs -/
def CST (n : Nat) (sg : cS) (h : rm_H) (sg' : cS) (h' : rm_H) : Prop := zh h' + 2 * pot n sg ≤ zh h + 2 * pot n sg' ∧ 64 * h'.length + pot n sg ≤ 64 * h.length + pot n sg'
section STK
variable {L : Nat} {xs : Nat → Int32} {zf : Value} {w k : Nat} {cd : Value} {n : Nat} {sg sg' sg2 : cS} {Z : Nat → Prop} {hB h h' h2 : rm_H} {a b r j i z c ht : Nat} {v : Int32} {f : Nat → Int32}
theorem CST_0 (e : ∀ b, sg'.2.2.2.2 b 13 = sg.2.2.2.2 b 13) (h1 : h'.length = h.length) (hz : zh h' = zh h) : CST n sg h sg' h' := by
  have : ∀ n, pot n sg' = pot n sg := by
    intro n
    induction n with
    | zero => rfl
    | succ n ih =>
      show pot n sg' + _ = pot n sg + _
      rw [ih, e]
  unfold CST
  rw [this, h1, hz]
  omega
theorem CST_t (e1 : CST n sg h sg' h') (e2 : CST n sg' h' sg2 h2) : CST n sg h sg2 h2 := by
  unfold CST at *
  omega
theorem sG_id : sG sg a (sg.2.2.2.2 a 12) (sg.2.2.2.2 a 13) (sg.2.2.2.1 a 12) = sg := by
  unfold sG
  refine Prod.ext rfl (Prod.ext rfl (Prod.ext rfl (Prod.ext (funext fun b => funext fun q => ?_) (funext fun b => funext fun q => ?_))))
  · show (if b = a ∧ q = 12 then sg.2.2.2.1 a 12 else sg.2.2.2.1 b q) = sg.2.2.2.1 b q
    by_cases c : b = a ∧ q = 12
    · rw [if_pos c, c.1, c.2]
    · rw [if_neg c]
  · show (if b = a ∧ q = 12 then sg.2.2.2.2 a 12 else if b = a ∧ q = 13 then sg.2.2.2.2 a 13 else sg.2.2.2.2 b q) = sg.2.2.2.2 b q
    by_cases c : b = a ∧ q = 12
    · rw [if_pos c, c.1, c.2]
    · rw [if_neg c]
      by_cases c2 : b = a ∧ q = 13
      · rw [if_pos c2, c2.1, c2.2]
      · rw [if_neg c2]
theorem sQ_pop : sA' sg a 13 (Int32.ofNat ht) = sQ sg a (sg.2.2.2.2 a 12) (sg.2.2.2.2 a 13) (sg.2.2.2.1 a 12) ht := by
  unfold sQ
  rw [sG_id]
theorem sQ_sQ {z2 c2 ht2 : Nat} {f2 : Nat → Int32} : sQ (sQ sg a z c f ht) a z2 c2 f2 ht2 = sQ sg a z2 c2 f2 ht2 := by
  unfold sQ sA' sG
  refine Prod.ext rfl (Prod.ext rfl (Prod.ext (funext fun b => funext fun q => ?_) (Prod.ext (funext fun b => funext fun q => ?_) (funext fun b => funext fun q => ?_))))
  · show (if b = a ∧ q = 13 then Int32.ofNat ht2 else if b = a ∧ q = 13 then Int32.ofNat ht else sg.2.2.1 b q) = if b = a ∧ q = 13 then Int32.ofNat ht2 else sg.2.2.1 b q
    by_cases c : b = a ∧ q = 13
    · rw [if_pos c, if_pos c]
    · rw [if_neg c, if_neg c, if_neg c]
  · show (if b = a ∧ q = 12 then f2 else if b = a ∧ q = 12 then f else sg.2.2.2.1 b q) = if b = a ∧ q = 12 then f2 else sg.2.2.2.1 b q
    by_cases c : b = a ∧ q = 12
    · rw [if_pos c, if_pos c]
    · rw [if_neg c, if_neg c, if_neg c]
  · show (if b = a ∧ q = 12 then z2 else if b = a ∧ q = 13 then c2 else if b = a ∧ q = 12 then z else if b = a ∧ q = 13 then c else sg.2.2.2.2 b q) = if b = a ∧ q = 12 then z2 else if b = a ∧ q = 13 then c2 else sg.2.2.2.2 b q
    by_cases c : b = a ∧ q = 12
    · rw [if_pos c, if_pos c]
    · by_cases c2 : b = a ∧ q = 13
      · rw [if_neg c, if_pos c2, if_neg c, if_pos c2]
      · rw [if_neg c, if_neg c2, if_neg c, if_neg c2, if_neg c, if_neg c2]
theorem sQ_h : (sQ sg a z c f ht).2.2.1 a 13 = Int32.ofNat ht := if_pos ⟨rfl, rfl⟩
theorem sQ_A (hj : j ≠ 13 ∨ b ≠ a) : (sQ sg a z c f ht).2.2.1 b j = sg.2.2.1 b j := if_neg (fun q => by rcases hj with h | h; exact h q.2; exact h q.1)
theorem sQ_f : (sQ sg a z c f ht).2.2.2.1 a 12 = f := if_pos ⟨rfl, rfl⟩
theorem sQ_R (hj : j ≠ 12 ∨ b ≠ a) : (sQ sg a z c f ht).2.2.2.1 b j = sg.2.2.2.1 b j := if_neg (fun q => by rcases hj with h | h; exact h q.2; exact h q.1)
theorem sQ_z : (sQ sg a z c f ht).2.2.2.2 a 12 = z := if_pos ⟨rfl, rfl⟩
theorem sQ_c : (sQ sg a z c f ht).2.2.2.2 a 13 = c := (if_neg (fun q => absurd q.2 (by decide))).trans (if_pos ⟨rfl, rfl⟩)
theorem sQ_P (hj : (j ≠ 12 ∧ j ≠ 13) ∨ b ≠ a) : (sQ sg a z c f ht).2.2.2.2 b j = sg.2.2.2.2 b j := (if_neg (fun q => by rcases hj with h | h; exact h.1 q.2; exact h q.1)).trans (if_neg (fun q => by rcases hj with h | h; exact h.2 q.2; exact h q.1))
theorem sR_T {i : Nat} (hc0 : sg.2.2.1 a 13 = Int32.ofNat ht) : sR sg a 12 i v = sQ sg a (sg.2.2.2.2 a 12) (sg.2.2.2.2 a 13) (upd (sg.2.2.2.1 a 12) i v) ht := by
  unfold sQ sA' sG sR
  refine Prod.ext rfl (Prod.ext rfl (Prod.ext (funext fun b => funext fun q => ?_) (Prod.ext (funext fun b => funext fun q => ?_) (funext fun b => funext fun q => ?_))))
  · show sg.2.2.1 b q = if b = a ∧ q = 13 then Int32.ofNat ht else sg.2.2.1 b q
    by_cases c : b = a ∧ q = 13
    · rw [if_pos c, c.1, c.2, hc0]
    · rw [if_neg c]
  · show (if b = a ∧ q = 12 then upd (sg.2.2.2.1 b q) i v else sg.2.2.2.1 b q) = if b = a ∧ q = 12 then upd (sg.2.2.2.1 a 12) i v else sg.2.2.2.1 b q
    by_cases c : b = a ∧ q = 12
    · rw [if_pos c, if_pos c, c.1, c.2]
    · rw [if_neg c, if_neg c]
  · show sg.2.2.2.2 b q = if b = a ∧ q = 12 then sg.2.2.2.2 a 12 else if b = a ∧ q = 13 then sg.2.2.2.2 a 13 else sg.2.2.2.2 b q
    by_cases c : b = a ∧ q = 12
    · rw [if_pos c, c.1, c.2]
    · rw [if_neg c]
      by_cases c2 : b = a ∧ q = 13
      · rw [if_pos c2, c2.1, c2.2]
      · rw [if_neg c2]
theorem pot_T : ∀ n, a < n → pot n (sQ sg a z c f ht) + sg.2.2.2.2 a 13 = pot n sg + c := by
  have lo : ∀ n, n ≤ a → pot n (sQ sg a z c f ht) = pot n sg := by
    intro n
    induction n with
    | zero => intro _; rfl
    | succ n ih =>
      intro hn
      show pot n _ + (sQ sg a z c f ht).2.2.2.2 n 13 = pot n sg + _
      rw [ih (by omega), sQ_P (Or.inr (by omega))]
  intro n
  induction n with
  | zero => intro h; omega
  | succ n ih =>
    intro hn
    show pot n _ + (sQ sg a z c f ht).2.2.2.2 n 13 + _ = pot n sg + sg.2.2.2.2 n 13 + c
    by_cases e : n = a
    · subst e
      rw [lo n (Nat.le_refl _), sQ_c]
      omega
    · rw [sQ_P (Or.inr e)]
      have := ih (by omega)
      omega
/-- the stack moves to the cell that was made last -/
theorem RH_G (q : RH cd n sg Z hB h) (ha : a < n) {h1 : rm_H} (e1 : h1 = h ++ [iaA c f]) (h2' : hc h' (sg.2.2.2.2 a 0) = some (aCel (sG sg a (21 + h.length) c f) a)) (s1 : st1 (sg.2.2.2.2 a 0) h1 h') : RH cd n (sG sg a (21 + h.length) c f) Z hB h' := by
  have eA : adr sg (6 * a + 6 + 0) = sg.2.2.2.2 a 0 := by
    rw [adr_a (by decide)]
    rfl
  obtain ⟨q1, q2, q3, q4⟩ := q
  have hlt : ∀ x, x < 6 + 6 * n → adr sg x < 21 + h.length := fun x hx => hc_lt (q2 x hx).1
  have ad : ∀ x, x < 6 + 6 * n → x ≠ 6 * a + 6 + 5 → adr (sG sg a (21 + h.length) c f) x = adr sg x := by
    intro x hx hne
    unfold adr
    by_cases c6 : x < 6
    · rw [if_pos c6, if_pos c6]
    · rw [if_neg c6, if_neg c6]
      unfold pA
      by_cases c5 : (x - 6) % 6 = 5
      · rw [if_pos c5, if_pos c5]
        show (if (x - 6) / 6 = a ∧ 12 = 12 then _ else _) = _
        rw [if_neg (by omega), if_neg (by omega)]
      · rw [if_neg c5, if_neg c5]
        show (if (x - 6) / 6 = a ∧ 0 = 12 then _ else if (x - 6) / 6 = a ∧ 0 = 13 then _ else _) + _ = _
        rw [if_neg (by omega), if_neg (by omega)]
  have ad5 : adr (sG sg a (21 + h.length) c f) (6 * a + 6 + 5) = 21 + h.length := by
    rw [adr_a (by decide)]
    show (if a = a ∧ 12 = 12 then 21 + h.length else _) = _
    rw [if_pos ⟨rfl, rfl⟩]
  have hne : sg.2.2.2.2 a 0 ≠ 21 + h.length := by
    have := hlt (6 * a + 6 + 0) (by omega)
    rw [eA] at this
    omega
  have hl1 : h1.length = h.length + 1 := by rw [e1]; simp
  have old : ∀ p, p < 21 + h.length → p ≠ sg.2.2.2.2 a 0 → hc h' p = hc h p := by
    intro p hp hn
    rw [st1_ne s1 hn, e1, hc_app hp]
  refine ⟨fr_trans (fr_trans q1 (show fr (fun _ => False) h h1 from by rw [e1]; exact fr_app _ _) (fun _ _ z => z.elim)) s1.1 (fun p hp e => ?_), fun x hx => ?_, fun x y hx hy e => ?_, q4⟩
  · have e : p = sg.2.2.2.2 a 0 := e
    have := (q2 (6 * a + 6 + 0) (by omega)).2
    rw [eA] at this
    rw [e]
    rcases this with z | z
    · exact z
    · omega
  · by_cases c5 : x = 6 * a + 6 + 5
    · rw [c5, ad5, vcl_a (by decide)]
      refine ⟨?_, Or.inr ?_⟩
      · rw [st1_ne s1 (Ne.symm hne), e1, hc_new]
        show some (iaA c f) = some (iaA ((sG sg a (21 + h.length) c f).2.2.2.2 a 13) ((sG sg a (21 + h.length) c f).2.2.2.1 a 12))
        have z1 : (sG sg a (21 + h.length) c f).2.2.2.2 a 13 = c := (if_neg (fun q => absurd q.2 (by decide))).trans (if_pos ⟨rfl, rfl⟩)
        have z2 : (sG sg a (21 + h.length) c f).2.2.2.1 a 12 = f := if_pos ⟨rfl, rfl⟩
        rw [z1, z2]
      · have := q1.1
        omega
    · rw [ad x hx c5]
      refine ⟨?_, (q2 x hx).2⟩
      by_cases c0 : x = 6 * a + 6 + 0
      · rw [c0, eA, vcl_a (by decide)]
        exact h2'
      · have hnx : adr sg x ≠ sg.2.2.2.2 a 0 := by
          rw [← eA]
          exact fun z => c0 (q3 x _ hx (by omega) z)
        rw [old _ (hlt x hx) hnx, (q2 x hx).1]
        congr 1
        unfold vcl
        by_cases c6 : x < 6
        · rw [if_pos c6, if_pos c6]
          have : x = 0 ∨ x = 1 ∨ x = 2 ∨ x = 3 ∨ x = 4 ∨ x = 5 := by omega
          rcases this with rfl | rfl | rfl | rfl | rfl | rfl
          · rfl
          · rfl
          · rfl
          · show (Sum.inl (5, 12, Sum.inr (Sum.inr (Sum.inr (Sum.inr fun b => if b < n then some (sg.2.2.2.2 b 0) else none)))) : rm_E) = Sum.inl (5, 12, Sum.inr (Sum.inr (Sum.inr (Sum.inr fun b => if b < n then some ((sG sg a (21 + h.length) c f).2.2.2.2 b 0) else none))))
            have : ∀ b, (sG sg a (21 + h.length) c f).2.2.2.2 b 0 = sg.2.2.2.2 b 0 := fun b => (if_neg (fun q => absurd q.2 (by decide))).trans (if_neg (fun q => absurd q.2 (by decide)))
            simp only [this]
          · rfl
          · rfl
        · rw [if_neg c6, if_neg c6]
          have hr : (x - 6) % 6 = 0 ∨ (x - 6) % 6 = 1 ∨ (x - 6) % 6 = 2 ∨ (x - 6) % 6 = 3 ∨ (x - 6) % 6 = 4 ∨ (x - 6) % 6 = 5 := by omega
          have eR : ∀ q, ¬ ((x - 6) / 6 = a ∧ q = 12) → (sG sg a (21 + h.length) c f).2.2.2.1 ((x - 6) / 6) q = sg.2.2.2.1 ((x - 6) / 6) q := fun q hq => if_neg hq
          have eP : ∀ q, ¬ ((x - 6) / 6 = a ∧ q = 12) → ¬ ((x - 6) / 6 = a ∧ q = 13) → (sG sg a (21 + h.length) c f).2.2.2.2 ((x - 6) / 6) q = sg.2.2.2.2 ((x - 6) / 6) q := fun q hq hq2 => (if_neg hq).trans (if_neg hq2)
          rcases hr with e5 | e5 | e5 | e5 | e5 | e5 <;> rw [e5]
          · show aCel sg ((x - 6) / 6) = aCel (sG sg a (21 + h.length) c f) ((x - 6) / 6)
            unfold aCel
            rw [eP 1 (by omega) (by omega), eP 0 (by omega) (by omega), eP 12 (by omega) (by omega)]
            rfl
          · show iaA 10 _ = iaA 10 _
            rw [eR 7 (by omega)]
          · show iaA 10 _ = iaA 10 _
            rw [eR 8 (by omega)]
          · show iaA 10 _ = iaA 10 _
            rw [eR 9 (by omega)]
          · show iaA 42 _ = iaA 42 _
            rw [eR 10 (by omega)]
          · show iaA _ _ = iaA _ _
            rw [eR 12 (by omega), eP 13 (by omega) (by omega)]
  · by_cases cx : x = 6 * a + 6 + 5
    · by_cases cy : y = 6 * a + 6 + 5
      · omega
      · rw [cx, ad5, ad y hy cy] at e
        have := hlt y hy
        omega
    · by_cases cy : y = 6 * a + 6 + 5
      · rw [cy, ad5, ad x hx cx] at e
        have := hlt x hx
        omega
      · rw [ad x hx cx, ad y hy cy] at e
        exact q3 x y hx hy e
end STK
