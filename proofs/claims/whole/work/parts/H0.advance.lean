/-! ON FROM A NODE THAT IS DONE: the reference's next node and the class's next place are a point again. -/
/-- from b over jumps to i -/
def PJ (A B : Nat → Int32) : Nat → Nat → Nat → Prop
  | 0, b, i => A b ≠ 20 ∧ b = i
  | n + 1, b, i => (A b ≠ 20 ∧ b = i) ∨ (A b = 20 ∧ ∃ b2 : Nat, B b = Int32.ofNat b2 ∧ ((b < b2 ∧ PJ A B n b2 i) ∨ (A b2 ≠ 20 ∧ b2 = i)))
section ADV
variable {s : rS} {A B : Nat → Int32} {m F lo hi np : Nat}
theorem PT_op {i q lv : Nat} {G : List scN} {g : Int32} {St : List stE} (h : PT s A B m F lo hi i q lv G g St) : ∃ o : Nat, A i = Int32.ofNat o ∧ o ≤ 19 := by
  obtain ⟨f, _, K, _, hK, x⟩ := h
  have hk : K = 0 ∨ K = 1 ∨ K = 2 ∨ K = 3 ∨ K = 4 ∨ K = 5 ∨ K = 6 ∨ K = 7 ∨ K = 8 ∨ K = 9 ∨ K = 10 ∨ K = 11 ∨ K = 12 ∨ K = 13 ∨ K = 14 ∨ K = 15 ∨ K = 16 ∨ K = 17 ∨ K = 18 ∨ K = 19 ∨ K = 20 ∨ K = 21 ∨ K = 22 ∨ K = 23 ∨ K = 24 ∨ K = 25 ∨ K = 26 ∨ K = 27 ∨ K = 28 ∨ K = 29 ∨ K = 30 ∨ K = 31 := by omega
  rcases hk with rfl | rfl | rfl | rfl | rfl | rfl | rfl | rfl | rfl | rfl | rfl | rfl | rfl | rfl | rfl | rfl | rfl | rfl | rfl | rfl | rfl | rfl | rfl | rfl | rfl | rfl | rfl | rfl | rfl | rfl | rfl | rfl
  · exact absurd x id
  · exact ⟨0, x.1, by decide⟩
  · exact ⟨0, x.1, by decide⟩
  · obtain ⟨t, _, h, _⟩ := x
    exact ⟨1, h, by decide⟩
  · obtain ⟨j, y, _, _, _, _, h, _⟩ := x
    exact ⟨2, h, by decide⟩
  · obtain ⟨j, y, _, _, _, _, h, _⟩ := x
    exact ⟨2, h, by decide⟩
  · obtain ⟨t, pl, St0, _, _, h, _⟩ := x
    exact ⟨8, h, by decide⟩
  · obtain ⟨p, _, _, _, ⟨_, tv, j, y, St0, _, _, _, _, _, _, h, _⟩ | ⟨_, tv, ta, pl, k, f0, f, tf, t, St0, _, _, _, _, _, _, _, _, _, h, _⟩⟩ := x
    · exact ⟨9, h, by decide⟩
    · exact ⟨10, h, by decide⟩
  · obtain ⟨k, m', ts, St0, _, _, _, _, _, _, _, _, ⟨_, h, _⟩ | ⟨_, h, _⟩⟩ := x
    · exact ⟨7, h, by decide⟩
    · exact ⟨6, h, by decide⟩
  · exact absurd x id
  · obtain ⟨tl, k, f0, f, tf, t, pl, St0, _, _, _, _, _, h, _⟩ := x
    exact ⟨3, h, by decide⟩
  · obtain ⟨tl, k, m', t, pl, ts, St0, _, _, _, _, _, _, _, h, _⟩ := x
    exact ⟨4, h, by decide⟩
  · obtain ⟨tl, m', pl, ts, St0, _, _, _, _, _, _, _, h, _⟩ := x
    exact ⟨5, h, by decide⟩
  · obtain ⟨pl, St0, _, h, _⟩ := x
    exact ⟨13, h, by decide⟩
  · exact absurd x id
  · exact absurd x id
  · exact absurd x id
  · exact absurd x id
  · exact absurd x id
  · exact absurd x id
  · obtain ⟨tv, td, sl, St0, _, _, _, _, _, _, h, _⟩ := x
    exact ⟨11, h, by decide⟩
  · obtain ⟨u, dd, r, d, y, g2, pl, St0, _, _, _, _, _, _, _, h, _⟩ := x
    exact ⟨18, h, by decide⟩
  · obtain ⟨u, dd, l, r, a, d, y, g0, g2, pl, St0, _, _, _, _, _, _, _, _, _, _, h, _⟩ := x
    exact ⟨18, h, by decide⟩
  · obtain ⟨pl, St0, _, h, _⟩ := x
    exact ⟨14, h, by decide⟩
  · obtain ⟨tv, tr, _, _, _, _, h, _⟩ := x
    exact ⟨15, h, by decide⟩
  · obtain ⟨tg, c, R, lv0, Go, gx, St0, _, h, _⟩ := x
    exact ⟨16, h, by decide⟩
  · obtain ⟨p, _, _, _, ⟨_, tv, j, y, St0, _, _, _, _, _, _, h, _⟩ | ⟨_, tv, ta, pl, k, f0, f, tf, t, St0, _, _, _, _, _, _, _, _, _, h, _⟩⟩ := x
    · exact ⟨11, h, by decide⟩
    · exact ⟨12, h, by decide⟩
  · obtain ⟨t, pl, St0, _, h, _⟩ := x
    exact ⟨17, h, by decide⟩
  · exact absurd x id
  · exact absurd x id
  · exact absurd x id
  · obtain ⟨_, _, _, _, h, _⟩ := x
    exact ⟨19, h, by decide⟩
theorem PT_20 {i q lv : Nat} {G : List scN} {g : Int32} {St : List stE} (h : PT s A B m F lo hi i q lv G g St) : A i ≠ 20 := by
  obtain ⟨o, e, h⟩ := PT_op h
  have : ∀ o, o ≤ 19 → Int32.ofNat o ≠ 20 := by decide
  rw [e]
  exact this o h
theorem PT_rg {i q lv : Nat} {G : List scN} {g : Int32} {St : List stE} (h : PT s A B m F lo hi i q lv G g St) : 1 ≤ q ∧ q < 4400 := by
  obtain ⟨f, h, _⟩ := h
  exact h
theorem PJ_0 {i q lv n : Nat} {G : List scN} {g : Int32} {St : List stE} (h : PT s A B m F lo hi i q lv G g St) : PJ A B n i i := by
  cases n with
  | zero => exact ⟨PT_20 h, rfl⟩
  | succ n => exact Or.inl ⟨PT_20 h, rfl⟩
theorem GO_sub {lv : Nat} {G Go gx : List scN} (h : GO s lo hi np lv G) (e : G = Go ++ gx) : GO s lo hi np lv Go := ⟨fun x hx => h.1 x (by rw [e]; exact List.mem_append.mpr (Or.inl hx)), fun x hx => h.2 x (by rw [e]; exact List.mem_append.mpr (Or.inl hx))⟩
theorem k_30 : ∀ K, K ≤ 31 → K ≠ 30 → Int32.ofNat K ≠ 30 := by decide
/-- an expression is done -/
theorem AD_E {n b lv t : Nat} {G : List scN} {g : Int32} {St : List stE} (hF : F ≤ 2995) (ds : DSL s lo hi np) (go : GO s lo hi np lv G) (hn : n < 4400) (h : EC s A B m F lo hi n b lv G g t St) : ∃ (q lv' : Nat) (St' : List stE), bhd s 1 n q ∧ lv ≤ lv' ∧ PT s A B m F lo hi b q lv' G g St' ∧ (St' = (t, isPl (s.2.1 44 n), lv) :: St ∨ ∃ t', vlF (isPl (s.2.1 44 n)) t = (0, t') ∧ St' = (t', false, lv) :: St) := by
  obtain ⟨f, h⟩ := h
  cases f with
  | zero => exact absurd h id
  | succ f =>
    have fe := FE (A := A) (B := B) (m := m) ds F (Nat.le_refl F) F (Nat.le_refl F)
    obtain ⟨p, e49, p1, p2, pk, n30, K, eK, hK, h⟩ := h
    rcases h with ⟨h6, pt⟩ | ⟨h6, t', vl, pt⟩ | ⟨h6, P, P1, P2, P3, P4, P5, P6, pt⟩ | ⟨e, te, d, g', t', h6, e1, e2, tu, vl, pt⟩ | ⟨t', u, c, ts, g1, vl, n46, ch48, ag, h6⟩
    · refine ⟨p, lv, _, ?_, Nat.le_refl _, ⟨f, pt⟩, Or.inl rfl⟩
      refine bh_e hn e49 p2 n30 (by rw [eK]; exact k_30 K hK (by omega)) ?_ (x := 0) ?_ (Or.inl ⟨rfl, rfl⟩)
      · intro c10
        have k10 : ∀ K, K ≤ 31 → Int32.ofNat K = 10 → K = 10 := by decide
        have := k10 K hK (eK.symm.trans c10)
        subst this
        obtain ⟨_, K', eK', _, x⟩ := pt
        have : K' = 10 := by
          have k2 : ∀ K, K ≤ 31 → Int32.ofNat K = Int32.ofNat 10 → K = 10 := by decide
          exact k2 K' (by assumption) (eK'.symm.trans eK)
        subst this
        obtain ⟨tl, k, f0, fi, tf, t2, pl, St0, _, _, _, _, _, _, _, x⟩ := x
        cases f with
        | zero => exact absurd x id
        | succ f =>
          obtain ⟨P, q1, q2, q3, _⟩ := x
          have ns : ¬ isSet s p := by
            rcases h6 with h | h | h | h | h | h | h | h
            · omega
            · omega
            · omega
            · omega
            · omega
            · exact h.2
            · omega
            · omega
          exact iP_0 p2 q1 q2 q3 ns
      · rcases h6 with h | h | h | h | h | h | h | h
        · exact pB_0 p2 eK (by omega) (by omega)
        · exact pB_0 p2 eK (by omega) (by omega)
        · exact pB_0 p2 eK (by omega) (by omega)
        · exact pB_0 p2 eK (by omega) (by omega)
        · exact pB_0 p2 eK (by omega) (by omega)
        · exact pB_0 p2 eK (by omega) (by omega)
        · obtain ⟨h, h2⟩ := h
          subst h
          exact pB_13r p2 eK h2
        · have := pB_a p2 hn eK (by omega)
          rw [if_pos h.2] at this
          exact this
    · refine ⟨p, lv, _, ?_, Nat.le_refl _, ⟨f, pt⟩, Or.inr ⟨t', vl, rfl⟩⟩
      refine bh_e hn e49 p2 n30 (by rw [eK]; exact k_30 K hK (by omega)) ?_ (x := 0) ?_ (Or.inl ⟨rfl, rfl⟩)
      · intro c10
        have k10 : ∀ K, K ≤ 31 → Int32.ofNat K = 10 → K = 10 := by decide
        have := k10 K hK (eK.symm.trans c10)
        omega
      · rcases h6 with h | h | h | ⟨h, h48⟩ | ⟨h, h46, q, q1, q2, q3, q4⟩
        · exact pB_0 p2 eK (by omega) (by omega)
        · exact pB_0 p2 eK (by omega) (by omega)
        · exact pB_0 p2 eK (by omega) (by omega)
        · have := pB_a (n := n) p2 hn eK (by omega)
          rw [h48, if_pos rfl, if_pos h] at this
          split at this <;> exact this
        · have k7 : s.2.1 44 p = 7 ∨ s.2.1 44 p = 26 := by
            rcases h with h | h
            · exact Or.inl (by rw [eK, h]; rfl)
            · exact Or.inr (by rw [eK, h]; rfl)
          have := pB_7 p2 k7 h46 q1 q3
          rw [if_neg q4] at this
          exact this
    · subst h6
      exact ⟨P, lv, _, bh_p hn e49 p2 n30 eK P1 P4 (iP_1 p2 P1 P4 P5 P6) P2, Nat.le_refl _, ⟨f, pt⟩, Or.inl rfl⟩
    · have base : pB s p n (Int32.ofNat e) ∧ (K ≠ 10 ∧ K ≠ 30) ∧ PKA s lo hi e ∧ (CT s A B m F lo hi (f + 1)).1 e d lv G g' te ((t', false, lv) :: St) := by
        rcases h6 with ⟨h, h45, h46⟩ | ⟨h, h46, h48, h46'⟩ | ⟨h, h46, q, q1, q2, q3, q4, q5, q6, q7, q8⟩
        · subst h
          obtain ⟨z1, z2⟩ := pka_46 pk eK (by decide) rfl e2 h46
          have pb := pB_13l p2 eK h45
          rw [h46] at pb
          refine ⟨pb, by decide, z2, p, z1, p1, p2, pk, n30_of tu, 13, eK, by decide, Or.inl ⟨Or.inr (Or.inr (Or.inr (Or.inr (Or.inr (Or.inr (Or.inl ⟨rfl, ?_⟩)))))), pt⟩⟩
          intro z
          have a1 := (pka_13 pk eK e2).1 z
          have a2 := (pka_13 pk eK e2).2 h46
          omega
        · have k46' : k46 K = true := by rcases h with h | h <;> rw [h] <;> rfl
          obtain ⟨z1, z2⟩ := pka_46 pk eK (by omega) k46' e2 h46'
          have pb := pB_a (n := n) p2 hn eK (by omega)
          rw [if_neg h46, h48, if_pos rfl, if_neg (by omega), h46'] at pb
          exact ⟨pb, by omega, z2, p, z1, p1, p2, pk, n30_of tu, K, eK, hK, Or.inl ⟨Or.inr (Or.inr (Or.inr (Or.inr (Or.inr (Or.inr (Or.inr ⟨h, h46'⟩)))))), pt⟩⟩
        · have k7 : s.2.1 44 p = 7 ∨ s.2.1 44 p = 26 := by
            rcases h with h | h
            · exact Or.inl (by rw [eK, h]; rfl)
            · exact Or.inr (by rw [eK, h]; rfl)
          have k45' : k45 K = true := by rcases h with h | h <;> rw [h] <;> rfl
          obtain ⟨z1, z2⟩ := pka_45 pk eK (by omega) k45' q3 q1
          obtain ⟨z3, z4⟩ := pka_45 z2 q4 (by decide) rfl e2 q5
          have pb := pB_7 p2 k7 h46 q1 q3
          rw [if_pos q4, q5] at pb
          exact ⟨pb, by omega, z4, q, z3, q2, q3, z2, n30_of tu, 10, q4, by decide, Or.inr (Or.inr (Or.inl ⟨rfl, p, q6, fun z => q7 z.symm, p1, p2, k7, q1, pt⟩))⟩
      obtain ⟨pb, k10, pke, ce⟩ := base
      obtain ⟨q, lv', f1, f2, f3⟩ := fe lv G g e te g' b d _ e1 e2 go pke tu ⟨f + 1, ce⟩
      refine ⟨q, lv', _, ?_, f2, f3, Or.inr ⟨t', vl, rfl⟩⟩
      refine bh_e hn e49 p2 n30 (by rw [eK]; exact k_30 K hK k10.2) (fun c10 => ?_) pb (Or.inr ⟨e, F + 2, rfl, e1, e2, f1, by omega⟩)
      have k10' : ∀ K, K ≤ 31 → Int32.ofNat K = 10 → K = 10 := by decide
      exact absurd (k10' K hK (eK.symm.trans c10)) k10.1
    · have kk : K = 8 ∨ K = 11 ∨ K = 12 := by
        rcases h6 with h | h
        · exact Or.inl h.1
        · exact Or.inr h.1
      have rg := pka_rg pk
      have h46 : K = 8 → s.2.1 46 p = 0 := by
        intro z
        subst z
        exact pka_8 pk eK
      obtain ⟨e, t0, g2, c', w1, w2, w3, w4, w5, w6⟩ := ARGC (f := f) (St := (t', false, lv) :: St) ⟨p1, p2⟩ eK kk pk (Nat.le_refl F) ch48 h46 (fun z y h1 h2 => pka_11 pk eK z h1 h2) ag h6
      obtain ⟨q, lv', f1, f2, f3⟩ := fe lv G g e t0 g2 b c' _ w2 w3 go w4 w5 ⟨f + 1, w6⟩
      refine ⟨q, lv', _, ?_, f2, f3, Or.inr ⟨t', vl, rfl⟩⟩
      have pb := pB_a (n := n) p2 hn eK kk
      rw [if_neg n46, if_neg (by rw [w1]; exact ofn_0 w3 w2), w1] at pb
      refine bh_e hn e49 p2 n30 (by rw [eK]; exact k_30 K hK (by omega)) (fun c10 => ?_) pb (Or.inr ⟨e, F + 2, rfl, w2, w3, f1, by omega⟩)
      have k10' : ∀ K, K ≤ 31 → Int32.ofNat K = 10 → K = 10 := by decide
      have := k10' K hK (eK.symm.trans c10)
      omega
end ADV
