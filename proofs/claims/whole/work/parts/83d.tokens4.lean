/-! THE REFERENCE'S PARSER: all of it. -/
section TKD
variable {E : rE} {w k : Nat} {c : Int} {b : Bool} {s s' : rS} {As : List Value} {r : Option Value}
theorem tkg_302 (hE : tE E) (z : tB false c s) (e : g302 E w As s = some (r, s')) : tB false c s' := by
  unfold g302 at e
  split at e
  · exact (tk_302_0 hE _ _ z) _ _ e
  · cases e
theorem tkg_306 (hE : tE E) (z : tB false c s) (e : g306 E w As s = some (r, s')) : tB false c s' := by
  unfold g306 at e
  split at e
  · exact (tk_306_0 hE _ z) _ _ e
  · cases e
theorem tkg_309 (hE : tE E) (z : tB false c s) (e : g309 E w As s = some (r, s')) : tB false c s' := by
  unfold g309 at e
  split at e
  · exact (tk_309 hE _ _ z) _ _ e
  · cases e
theorem tkg_312 (hE : tE E) (z : tB false c s) (e : g312 E w As s = some (r, s')) : tB false c s' := by
  unfold g312 at e
  split at e
  · exact (tk_312_0 hE _ z) _ _ e
  · cases e
theorem tkg_314 (hE : tE E) (z : tB false c s) (e : g314 E w As s = some (r, s')) : tB false c s' := by
  unfold g314 at e
  split at e
  · exact (tk_314_0 hE _ _ _ z) _ _ e
  · cases e
theorem tkg_315 (hE : tE E) (z : tB false c s) (e : g315 E w As s = some (r, s')) : tB false c s' := by
  unfold g315 at e
  split at e
  · exact (tk_315_0 hE _ z) _ _ e
  · cases e
theorem tkg_317 (hE : tE E) (z : tB false c s) (e : g317 E w As s = some (r, s')) : tB false c s' := by
  unfold g317 at e
  split at e
  · exact (tk_317_0 hE _ _ z) _ _ e
  · cases e
theorem tkg_318 (hE : tE E) (z : tB false c s) (e : g318 E w As s = some (r, s')) : tB false c s' := by
  unfold g318 at e
  split at e
  · exact (tk_318_0 hE _ _ z) _ _ e
  · cases e
theorem tkg_319 (hE : tE E) (z : tB false c s) (e : g319 E w As s = some (r, s')) : tB false c s' := by
  unfold g319 at e
  split at e
  · exact (tk_319_0 hE _ _ z) _ _ e
  · cases e
theorem tkg_320 (hE : tE E) (z : tB false c s) (e : g320 E w As s = some (r, s')) : tB false c s' := by
  unfold g320 at e
  split at e
  · exact (tk_320_0 hE _ _ z) _ _ e
  · cases e
theorem tkg_321 (hE : tE E) (z : tB false c s) (e : g321 E w As s = some (r, s')) : tB false c s' := by
  unfold g321 at e
  split at e
  · exact (tk_321_0 hE _ _ z) _ _ e
  · cases e
theorem tkg_322 (hE : tE E) (z : tB false c s) (e : g322 E w As s = some (r, s')) : tB false c s' := by
  unfold g322 at e
  split at e
  · exact (tk_322_0 hE _ _ z) _ _ e
  · cases e
theorem tkg_323 (hE : tE E) (z : tB false c s) (e : g323 E w As s = some (r, s')) : tB false c s' := by
  unfold g323 at e
  split at e
  · exact (tk_323_0 hE _ _ _ z) _ _ e
  · cases e
theorem tkg_324 (hE : tE E) (z : tB false c s) (e : g324 E w As s = some (r, s')) : tB false c s' := by
  unfold g324 at e
  split at e
  · exact (tk_324_0 hE _ _ _ z) _ _ e
  · cases e
theorem tkg_307 (hE : tE E) (z : tB false c s) (e : g307 E w As s = some (r, s')) : tB false (c + 1) s' := by
  unfold g307 at e
  split at e
  · exact (tk_307 hE _ _ z) _ _ e
  · cases e
theorem tkg_308 (hE : tE E) (z : tB false c s) (e : g308 E w As s = some (r, s')) : tB false (c + 1) s' := by
  unfold g308 at e
  split at e
  · exact (tk_308 hE _ _ z) _ _ e
  · cases e
theorem tkg_316 (hE : tE E) (z : tB b c s) (e : g316 E w As s = some (r, s')) : tB b (c - 1) s' := by
  unfold g316 at e
  split at e
  · exact (tk_316 _ _ _ z) _ _ e
  · cases e
theorem tkg_304 (hE : tE E)  (e : g304 E w As s = some (r, s')) : s'.1 57 ≠ 0 := by
  unfold g304 at e
  split at e
  · exact (tk_304 hE _) _ _ e
  · cases e
theorem tkg_303 (hE : tE E)  (e : g303 E w As s = some (r, s')) : s' = s ∧ (s.1 57 = 0 → (s.1 56).toInt ≤ 2000) := by
  unfold g303 at e
  split at e
  · exact (tk_303 _ _) _ _ e
  · cases e
theorem tkg_310 (hE : tE E)  (e : g310 E w As s = some (r, s')) : s' = s ∧ (s.1 57 = 0 → (s.1 56).toInt ≤ 2000) := by
  unfold g310 at e
  split at e
  · exact (tk_310 _ _) _ _ e
  · cases e
theorem tkg_313 (hE : tE E)  (e : g313 E w As s = some (r, s')) : s' = s ∧ (s.1 57 = 0 → (s.1 56).toInt ≤ 2000) := by
  unfold g313 at e
  split at e
  · exact (tk_313 _) _ _ e
  · cases e
theorem tkg_325 (hE : tE E)  (e : g325 E w As s = some (r, s')) : s' = s ∧ (s.1 57 = 0 → (s.1 56).toInt ≤ 2000) := by
  unfold g325 at e
  split at e
  · exact (tk_325 hE _) _ _ e
  · cases e
theorem tkg_311 (hE : tE E) (z : tB true c s) (e : g311 E w As s = some (r, s')) : tB false c s' := by
  unfold g311 at e
  split at e
  · exact (tk_311_0 hE _ z) _ _ e
  · cases e
theorem tE_s (ih : tE (rM w k)) : tE (rM w (k + 1)) := by
  refine ⟨fun m hm => ?_, fun m hm => ?_, fun As b c s r s' z e => by rw [y316] at e; exact tkg_316 ih z e, fun As s r s' e => by rw [y304] at e; exact tkg_304 ih e, fun x s r s' e => by rw [y305] at e; exact tk_305 (E := rM w k) (w := w) x s r s' e, fun m hm => ?_, fun As s c r s' z e => by rw [y311] at e; exact tkg_311 ih z e, fun As s c v s' z e nv => ?_⟩
  · have hm' : m = 302 ∨ m = 306 ∨ m = 309 ∨ m = 312 ∨ m = 314 ∨ m = 315 ∨ m = 317 ∨ m = 318 ∨ m = 319 ∨ m = 320 ∨ m = 321 ∨ m = 322 ∨ m = 323 ∨ m = 324 := by
      unfold t0m at hm
      simpa using hm
    rcases hm' with rfl | rfl | rfl | rfl | rfl | rfl | rfl | rfl | rfl | rfl | rfl | rfl | rfl | rfl
    · exact fun As s c r s' z e => by rw [y302] at e; exact tkg_302 ih z e
    · exact fun As s c r s' z e => by rw [y306] at e; exact tkg_306 ih z e
    · exact fun As s c r s' z e => by rw [y309] at e; exact tkg_309 ih z e
    · exact fun As s c r s' z e => by rw [y312] at e; exact tkg_312 ih z e
    · exact fun As s c r s' z e => by rw [y314] at e; exact tkg_314 ih z e
    · exact fun As s c r s' z e => by rw [y315] at e; exact tkg_315 ih z e
    · exact fun As s c r s' z e => by rw [y317] at e; exact tkg_317 ih z e
    · exact fun As s c r s' z e => by rw [y318] at e; exact tkg_318 ih z e
    · exact fun As s c r s' z e => by rw [y319] at e; exact tkg_319 ih z e
    · exact fun As s c r s' z e => by rw [y320] at e; exact tkg_320 ih z e
    · exact fun As s c r s' z e => by rw [y321] at e; exact tkg_321 ih z e
    · exact fun As s c r s' z e => by rw [y322] at e; exact tkg_322 ih z e
    · exact fun As s c r s' z e => by rw [y323] at e; exact tkg_323 ih z e
    · exact fun As s c r s' z e => by rw [y324] at e; exact tkg_324 ih z e
  · have hm' : m = 307 ∨ m = 308 := by
      unfold t1m at hm
      simpa using hm
    rcases hm' with rfl | rfl
    · exact fun As s c r s' z e => by rw [y307] at e; exact tkg_307 ih z e
    · exact fun As s c r s' z e => by rw [y308] at e; exact tkg_308 ih z e
  · have hm' : m = 303 ∨ m = 310 ∨ m = 313 ∨ m = 325 := by
      unfold tpm at hm
      simpa using hm
    rcases hm' with rfl | rfl | rfl | rfl
    · exact fun As s r s' e => by rw [y303] at e; exact tkg_303 ih e
    · exact fun As s r s' e => by rw [y310] at e; exact tkg_310 ih e
    · exact fun As s r s' e => by rw [y313] at e; exact tkg_313 ih e
    · exact fun As s r s' e => by rw [y325] at e; exact tkg_325 ih e
  · rw [y309] at e
    unfold g309 at e
    split at e
    · exact tk_309v ih _ _ z _ _ e nv
    · cases e
theorem tE_all (w : Nat) : ∀ k, tE (rM w k)
  | 0 => ⟨fun m _ As s c r s' _ e => (by cases (show (none : Option rA) = some (r, s') from e)), fun m _ As s c r s' _ e => (by cases (show (none : Option rA) = some (r, s') from e)), fun As b c s r s' _ e => (by cases (show (none : Option rA) = some (r, s') from e)), fun As s r s' e => (by cases (show (none : Option rA) = some (r, s') from e)), fun x s r s' e => (by cases (show (none : Option rA) = some (r, s') from e)), fun m _ As s r s' e => (by cases (show (none : Option rA) = some (r, s') from e)), fun As s c r s' _ e => (by cases (show (none : Option rA) = some (r, s') from e)), fun As s c v s' _ e => (by cases (show (none : Option rA) = some (some (.int v), s') from e))⟩
  | k + 1 => tE_s (tE_all w k)
/-- nodes and arguments are paid for by tokens -/
theorem nod_tok (e : rM w k 302 [.ref 36] s = some (r, s')) (h10 : s.1 10 = 1) (h56 : s.1 56 = 0) (h57 : s'.1 57 = 0) : 0 ≤ (s'.1 10).toInt ∧ (s'.1 56).toInt ≤ 2001 ∧ (s'.1 10).toInt + (sm2 (s'.2.1 52) (s'.1 10).toInt.toNat : Int) ≤ (s'.1 56).toInt + 1 := by
  have z : tB false (-1) s := by
    refine Or.inr ⟨by rw [h10]; decide, by rw [h56]; decide, by rw [h56]; decide, ?_⟩
    rw [h10, h56, show (1 : Int32).toInt.toNat = 1 from by decide, show sm2 (s.2.1 52) 1 = 0 from rfl, show (1 : Int32).toInt = 1 from by decide, show (0 : Int32).toInt = 0 from by decide]
    decide
  rcases (tE_all w k).1 302 (by decide) _ s _ _ _ z e with q | ⟨q1, q2, q3, q4⟩
  · exact absurd h57 q
  · rw [if_neg (by decide)] at q3
    exact ⟨q1, q3, by omega⟩
end TKD
