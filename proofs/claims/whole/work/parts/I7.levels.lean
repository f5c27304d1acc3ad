/-! LEVELS OF THE STACK: only what is on top may be seen in its place. -/
def eLv (lv : Nat) (St : List stE) : Prop := ∀ e ∈ St, e.2.1 = false ∧ e.2.2 ≤ lv
def eLt (lv : Nat) (St : List stE) : Prop := (∀ e ∈ St, e.2.2 ≤ lv) ∧ ∀ e ∈ St.tail, e.2.1 = false
section LVS
variable {s : rS} {A B : Nat → Int32} {m F lo hi : Nat}
theorem eLt_c {lv t : Nat} {pl : Bool} {St : List stE} (h : eLv lv St) : eLt lv ((t, pl, lv) :: St) := by
  refine ⟨fun e he => ?_, fun e he => (h e he).1⟩
  rcases List.mem_cons.mp he with z | z
  · rw [z]; exact Nat.le_refl _
  · exact (h e z).2
theorem eLt_o {lv : Nat} {St : List stE} (h : eLv lv St) : eLt lv St := ⟨fun e he => (h e he).2, fun e he => (h e (List.mem_of_mem_tail he)).1⟩
theorem eLv_c {lv t : Nat} {St : List stE} (h : eLv lv St) : eLv lv ((t, false, lv) :: St) := by
  intro e he
  rcases List.mem_cons.mp he with z | z
  · rw [z]; exact ⟨rfl, Nat.le_refl _⟩
  · exact h e z
theorem eLv_v {lv : Nat} {ts : List Nat} {St : List stE} (h : eLv lv St) : eLv lv (vE lv ts ++ St) := by
  intro e he
  rcases List.mem_append.mp he with z | z
  · unfold vE at z
    obtain ⟨t, _, rfl⟩ := List.mem_map.mp z
    exact ⟨rfl, Nat.le_refl _⟩
  · exact h e z
theorem eLv_u {lv lv2 : Nat} {St : List stE} (h : eLv lv St) (hl : lv ≤ lv2) : eLv lv2 St := fun e he => ⟨(h e he).1, Nat.le_trans (h e he).2 hl⟩
theorem eLt_t {lv : Nat} {y : stE} {X St : List stE} (h : eLt lv (X ++ y :: St)) : eLv lv St := by
  intro e he
  refine ⟨h.2 e ?_, h.1 e (List.mem_append.mpr (Or.inr (List.mem_cons_of_mem _ he)))⟩
  cases X with
  | nil => exact he
  | cons z X => exact List.mem_append.mpr (Or.inr (List.mem_cons_of_mem _ he))
theorem LV_s {f : Nat} {sw : Bool} {N : Int32 → Nat → List stE → Prop} {i q lv : Nat} {G : List scN} {g : Int32} {St : List stE} (hN : ∀ g t St0, N g t St0 → eLv lv St0) (x : PTs s A B sw N i q lv G g St) : eLt lv St := by
  obtain ⟨p, _, _, _, ⟨_, tv, j, y, St0, eS, _, _, _, _, _, _, _, n⟩ | ⟨_, tv, ta, pl, k, f0, f, tf, t, St0, eS, _, _, _, _, _, _, _, _, _, _, n⟩⟩ := x
  · rw [eS]; exact eLt_c (hN _ _ _ n)
  · rw [eS]; exact eLt_c (eLv_c (hN _ _ _ n))
theorem LV_p {f i q lv : Nat} {G : List scN} {g : Int32} {St : List stE} (hE : ∀ n b lv G g t St, (CT s A B m F lo hi f).1 n b lv G g t St → eLv lv St) (hS : ∀ u n b lv G g St, (CT s A B m F lo hi f).2.1 u n b lv G g St → eLv lv St) (h : PTb s A B m F lo hi (CT s A B m F lo hi f).1 (CT s A B m F lo hi f).2.1 i q lv G g St) : eLt lv St ∧ (s.2.1 44 q = 31 → St = []) := by
  obtain ⟨_, K, eK, hK, x⟩ := h
  have n31 : K ≠ 31 → s.2.1 44 q = 31 → St = [] := by
    intro k z
    have : ∀ K, K ≤ 31 → Int32.ofNat K = 31 → K = 31 := by decide
    exact absurd (this K hK (eK.symm.trans z)) k
  have hk : K = 0 ∨ K = 1 ∨ K = 2 ∨ K = 3 ∨ K = 4 ∨ K = 5 ∨ K = 6 ∨ K = 7 ∨ K = 8 ∨ K = 9 ∨ K = 10 ∨ K = 11 ∨ K = 12 ∨ K = 13 ∨ K = 14 ∨ K = 15 ∨ K = 16 ∨ K = 17 ∨ K = 18 ∨ K = 19 ∨ K = 20 ∨ K = 21 ∨ K = 22 ∨ K = 23 ∨ K = 24 ∨ K = 25 ∨ K = 26 ∨ K = 27 ∨ K = 28 ∨ K = 29 ∨ K = 30 ∨ K = 31 := by omega
  rcases hk with rfl | rfl | rfl | rfl | rfl | rfl | rfl | rfl | rfl | rfl | rfl | rfl | rfl | rfl | rfl | rfl | rfl | rfl | rfl | rfl | rfl | rfl | rfl | rfl | rfl | rfl | rfl | rfl | rfl | rfl | rfl | rfl
  · exact absurd x id
  · exact ⟨eLt_o (hE _ _ _ _ _ _ _ x.2.2), n31 (by decide)⟩
  · exact ⟨eLt_o (hE _ _ _ _ _ _ _ x.2.2), n31 (by decide)⟩
  · obtain ⟨t, _, _, _, e⟩ := x
    exact ⟨eLt_o (hE _ _ _ _ _ _ _ e), n31 (by decide)⟩
  · obtain ⟨j, y, _, _, _, _, _, _, e⟩ := x
    exact ⟨eLt_o (hE _ _ _ _ _ _ _ e), n31 (by decide)⟩
  · obtain ⟨j, y, _, _, _, _, _, _, e⟩ := x
    exact ⟨eLt_o (hE _ _ _ _ _ _ _ e), n31 (by decide)⟩
  · obtain ⟨t, pl, St0, eS, _, _, _, e⟩ := x
    exact ⟨by rw [eS]; exact eLt_c (hE _ _ _ _ _ _ _ e), n31 (by decide)⟩
  · exact ⟨LV_s (f := f) (fun g' t St0 e => hE _ _ _ _ _ _ _ e) x, n31 (by decide)⟩
  · obtain ⟨k, m', ts, St0, eS, _, _, _, _, _, _, _, ⟨_, _, e⟩ | ⟨_, _, cp, _, _, e⟩⟩ := x
    · exact ⟨by rw [eS]; exact eLt_o (eLv_v (hE _ _ _ _ _ _ _ e)), n31 (by decide)⟩
    · exact ⟨by rw [eS]; exact eLt_o (eLv_v (hE _ _ _ _ _ _ _ e)), n31 (by decide)⟩
  · exact absurd x id
  · obtain ⟨tl, k, f0, f, tf, t, pl, St0, eS, _, _, _, _, _, _, e⟩ := x
    exact ⟨by rw [eS]; exact eLt_c (hE _ _ _ _ _ _ _ e), n31 (by decide)⟩
  · obtain ⟨tl, k, m', t, pl, ts, St0, eS, _, _, _, _, _, _, _, _, e⟩ := x
    exact ⟨by rw [eS]; exact eLt_c (eLv_v (hE _ _ _ _ _ _ _ e)), n31 (by decide)⟩
  · obtain ⟨tl, m', pl, ts, St0, eS, _, _, _, _, _, _, _, _, e⟩ := x
    exact ⟨by rw [eS]; exact eLt_c (eLv_v (hE _ _ _ _ _ _ _ e)), n31 (by decide)⟩
  · obtain ⟨pl, St0, eS, _, _, e⟩ := x
    exact ⟨by rw [eS]; exact eLt_c (eLv_c (hE _ _ _ _ _ _ _ e)), n31 (by decide)⟩
  · exact absurd x id
  · exact absurd x id
  · exact absurd x id
  · exact absurd x id
  · exact absurd x id
  · exact absurd x id
  · obtain ⟨tv, td, sl, St0, eS, _, _, _, _, _, _, _, u, e⟩ := x
    exact ⟨by rw [eS]; exact eLt_c (fun y hy => hS _ _ _ _ _ _ _ e y hy), n31 (by decide)⟩
  · obtain ⟨u, dd, r, d, y, g2, pl, St0, _, _, _, eS, _, _, _, _, _, ⟨_, _, e⟩ | ⟨e', y', b, g3, _, _, _, _, _, _, _, e⟩⟩ := x
    · exact ⟨by rw [eS]; exact eLt_c (hS _ _ _ _ _ _ _ e), n31 (by decide)⟩
    · exact ⟨by rw [eS]; exact eLt_c (hS _ _ _ _ _ _ _ e), n31 (by decide)⟩
  · obtain ⟨u, dd, l, r, a, d, y, g0, g2, pl, St0, _, _, _, eS, _, _, _, _, _, _, _, _, _, _, _, _, _, e⟩ := x
    exact ⟨by rw [eS]; exact eLt_c (hS _ _ _ _ _ _ _ e), n31 (by decide)⟩
  · obtain ⟨pl, St0, eS, _, _, u, e⟩ := x
    exact ⟨by rw [eS]; exact eLt_c (hS _ _ _ _ _ _ _ e), n31 (by decide)⟩
  · obtain ⟨tv, tr, eS, el, _⟩ := x
    refine ⟨?_, n31 (by decide)⟩
    rw [eS, el]
    exact eLt_c (fun _ h => absurd h (List.not_mem_nil))
  · obtain ⟨tg, c, R, lv0, Go, gx, St0, eS, _, _, _, _, _, _, _, _, ⟨el, _⟩, _, e⟩ := x
    exact ⟨by rw [eS]; exact eLt_c (eLv_u (hE _ _ _ _ _ _ _ e) (by omega)), n31 (by decide)⟩
  · exact ⟨LV_s (f := f) (fun g' t St0 e => by obtain ⟨u, e⟩ := e; exact hS _ _ _ _ _ _ _ e) x, n31 (by decide)⟩
  · obtain ⟨t, pl, St0, eS, _, _, u, e⟩ := x
    exact ⟨by rw [eS]; exact eLt_c (hS _ _ _ _ _ _ _ e), n31 (by decide)⟩
  · exact absurd x id
  · exact absurd x id
  · exact absurd x id
  · refine ⟨?_, fun _ => x.2.1⟩
    rw [x.2.1]
    exact ⟨fun _ h => absurd h (List.not_mem_nil), fun _ h => absurd h (List.not_mem_nil)⟩
theorem LV_c : ∀ f, (∀ n b lv G g t St, (CT s A B m F lo hi f).1 n b lv G g t St → eLv lv St) ∧ (∀ u n b lv G g St, (CT s A B m F lo hi f).2.1 u n b lv G g St → eLv lv St) ∧ ∀ u n b lv G g St, (CT s A B m F lo hi f).2.2 u n b lv G g St → eLv lv St
  | 0 => ⟨fun _ _ _ _ _ _ _ h => absurd h id, fun _ _ _ _ _ _ _ h => absurd h id, fun _ _ _ _ _ _ _ h => absurd h id⟩
  | f + 1 => by
    obtain ⟨i1, i2, i3⟩ := LV_c f
    refine ⟨fun n b lv G g t St h => ?_, fun u n b lv G g St h => ?_, fun u n b lv G g St h => ?_⟩
    · obtain ⟨p, _, _, _, _, _, K, _, _, h⟩ := h
      rcases h with ⟨_, pt⟩ | ⟨_, t', _, pt⟩ | ⟨_, P, _, _, _, _, _, _, pt⟩ | ⟨e, te, d, g', t', _, _, _, _, _, pt⟩ | ⟨t', u, c, ts, g1, _, _, _, _, h⟩
      · exact eLt_t (X := []) (LV_p i1 i2 pt).1
      · exact eLt_t (X := []) (LV_p i1 i2 pt).1
      · exact eLt_t (X := []) (LV_p i1 i2 pt).1
      · exact eLt_t (X := [_]) (LV_p i1 i2 pt).1
      · rcases h with ⟨_, pt⟩ | ⟨_, l, tl, d, g', _, _, _, _, pt⟩
        · exact eLt_t (X := vE lv (u :: ts)) (LV_p i1 i2 pt).1
        · exact eLt_t (X := _ :: vE lv (u :: ts)) (LV_p i1 i2 pt).1
    · obtain ⟨c, _, _, _, _, _, _, how, tg, d, dd, es, g', Go, gx, _, _, _, _, fin⟩ := h
      rcases fin with ⟨_, u', _, bc⟩ | ⟨_, _, e⟩ | ⟨_, R, lv0, _, _, _, ⟨el, _⟩, e⟩
      · exact i3 _ _ _ _ _ _ _ bc
      · rw [e]; exact fun _ h => absurd h (List.not_mem_nil)
      · exact eLv_u (i1 _ _ _ _ _ _ _ e) (by omega)
    · obtain ⟨_, _, p, _, _, _, ⟨e31, pt⟩ | ⟨_, g', u', _, _, h | ⟨b2, _, _, _, h⟩⟩ | ⟨_, _, l, a, c, g0, g1, _, _, _, _, _, _, _, pt⟩⟩ := h
      · rw [(LV_p i1 i2 pt).2 e31]; exact fun _ h => absurd h (List.not_mem_nil)
      · exact i2 _ _ _ _ _ _ _ h
      · exact i2 _ _ _ _ _ _ _ h
      · exact eLt_t (X := []) (LV_p i1 i2 pt).1
theorem LV_PT {i q lv : Nat} {G : List scN} {g : Int32} {St : List stE} (h : PT s A B m F lo hi i q lv G g St) : eLt lv St := by
  obtain ⟨f, h⟩ := h
  exact (LV_p (LV_c f).1 (LV_c f).2.1 h).1
theorem LV_EC {n b lv t : Nat} {G : List scN} {g : Int32} {St : List stE} (h : EC s A B m F lo hi n b lv G g t St) : eLv lv St := by
  obtain ⟨f, h⟩ := h
  exact (LV_c f).1 _ _ _ _ _ _ _ h
theorem LV_SC {u n b lv : Nat} {G : List scN} {g : Int32} {St : List stE} (h : SC s A B m F lo hi u n b lv G g St) : eLv lv St := by
  obtain ⟨f, h⟩ := h
  exact (LV_c f).2.1 _ _ _ _ _ _ _ h
end LVS
