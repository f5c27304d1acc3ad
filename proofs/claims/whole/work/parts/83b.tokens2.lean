/-! THE REFERENCE'S PARSER: its blocks. -/
section TKB
variable {E : rE} {w : Nat} {c : Int}
theorem tk_302_16 (hE : tE E) {K0 : rS → Option rA} (hK0 : ∀ (s : rS), tB false c s → oTk c (K0 s)) (s : rS) (z : tB false c s) : oTk c (s302_16 E w K0 s) := by
  unfold s302_16
  repeat' (first
    | with_reducible exact oTk_rI (tB_le (by assumption) (by omega))
    | with_reducible exact oTk_so (tB_le (by assumption) (by omega))
    | exact oTk_none
    | with_reducible exact hK0 _ (tB_le (by assumption) (by omega))
    | with_reducible refine oTk_if ?_ ?_
    | (with_reducible refine oTk_56 (by assumption) (fun _ _ => ?_))
    | (with_reducible refine oTk_pI (by decide) (by assumption) (fun _ _ => ?_))
    | (with_reducible refine oTk_sI (by decide) (by assumption) (fun _ _ => ?_))
    | (with_reducible refine oTk_sB (by decide) (by assumption) (fun _ _ => ?_))
    | (with_reducible refine oTk_sJ (by assumption) (fun _ _ => ?_))
    | (with_reducible refine oTk_316 hE (by assumption) (fun _ _ => ?_))
    | (with_reducible refine oTk_304 hE (fun _ _ => ?_))
    | (with_reducible refine oTk_311 hE (by assumption) (fun _ _ => ?_))
    | (with_reducible refine oTk_pk hE (by decide) (by assumption) (fun _ _ => ?_))
    | (with_reducible refine oTk_I1 hE (by decide) (by assumption) (fun _ _ => ?_))
    | (with_reducible refine oTk_V1 hE (by decide) (by assumption) (fun _ _ => ?_))
    | (with_reducible refine oTk_I0 hE (by decide) (by assumption) (fun _ _ => ?_))
    | (with_reducible refine oTk_V0 hE (by decide) (by assumption) (fun _ _ => ?_))
    | (with_reducible refine oTk_r56 (by decide) (by assumption) (fun _ _ => ?_))
    | (with_reducible refine oTk_rd (fun _ => ?_)))
theorem tk_302_69 (hE : tE E) (s : rS) (z : tB false c s) : oTk c (s302_69 E w s) := by
  unfold s302_69
  repeat' (first
    | with_reducible exact oTk_rI (tB_le (by assumption) (by omega))
    | with_reducible exact oTk_so (tB_le (by assumption) (by omega))
    | exact oTk_none
    | with_reducible refine oTk_if ?_ ?_
    | (with_reducible refine oTk_56 (by assumption) (fun _ _ => ?_))
    | (with_reducible refine oTk_pI (by decide) (by assumption) (fun _ _ => ?_))
    | (with_reducible refine oTk_sI (by decide) (by assumption) (fun _ _ => ?_))
    | (with_reducible refine oTk_sB (by decide) (by assumption) (fun _ _ => ?_))
    | (with_reducible refine oTk_sJ (by assumption) (fun _ _ => ?_))
    | (with_reducible refine oTk_316 hE (by assumption) (fun _ _ => ?_))
    | (with_reducible refine oTk_304 hE (fun _ _ => ?_))
    | (with_reducible refine oTk_311 hE (by assumption) (fun _ _ => ?_))
    | (with_reducible refine oTk_pk hE (by decide) (by assumption) (fun _ _ => ?_))
    | (with_reducible refine oTk_I1 hE (by decide) (by assumption) (fun _ _ => ?_))
    | (with_reducible refine oTk_V1 hE (by decide) (by assumption) (fun _ _ => ?_))
    | (with_reducible refine oTk_I0 hE (by decide) (by assumption) (fun _ _ => ?_))
    | (with_reducible refine oTk_V0 hE (by decide) (by assumption) (fun _ _ => ?_))
    | (with_reducible refine oTk_r56 (by decide) (by assumption) (fun _ _ => ?_))
    | (with_reducible refine oTk_rd (fun _ => ?_)))
theorem tk_302_65 (hE : tE E) (s : rS) (z : tB false c s) : oTk c (s302_65 E w s) := by
  unfold s302_65
  repeat' (first
    | with_reducible exact oTk_rI (tB_le (by assumption) (by omega))
    | with_reducible exact oTk_so (tB_le (by assumption) (by omega))
    | exact oTk_none
    | with_reducible exact tk_302_69 hE _ (tB_le (by assumption) (by omega))
    | with_reducible refine oTk_if ?_ ?_
    | (with_reducible refine oTk_56 (by assumption) (fun _ _ => ?_))
    | (with_reducible refine oTk_pI (by decide) (by assumption) (fun _ _ => ?_))
    | (with_reducible refine oTk_sI (by decide) (by assumption) (fun _ _ => ?_))
    | (with_reducible refine oTk_sB (by decide) (by assumption) (fun _ _ => ?_))
    | (with_reducible refine oTk_sJ (by assumption) (fun _ _ => ?_))
    | (with_reducible refine oTk_316 hE (by assumption) (fun _ _ => ?_))
    | (with_reducible refine oTk_304 hE (fun _ _ => ?_))
    | (with_reducible refine oTk_311 hE (by assumption) (fun _ _ => ?_))
    | (with_reducible refine oTk_pk hE (by decide) (by assumption) (fun _ _ => ?_))
    | (with_reducible refine oTk_I1 hE (by decide) (by assumption) (fun _ _ => ?_))
    | (with_reducible refine oTk_V1 hE (by decide) (by assumption) (fun _ _ => ?_))
    | (with_reducible refine oTk_I0 hE (by decide) (by assumption) (fun _ _ => ?_))
    | (with_reducible refine oTk_V0 hE (by decide) (by assumption) (fun _ _ => ?_))
    | (with_reducible refine oTk_r56 (by decide) (by assumption) (fun _ _ => ?_))
    | (with_reducible refine oTk_rd (fun _ => ?_)))
theorem tk_302_0 (hE : tE E) : ∀ (n : Nat) (s : rS), tB false c s → oTk c (s302_0 E w n s)
  | 0, _, _ => fun r s' e => by
    have e : (none : Option rA) = some (r, s') := e
    cases e
  | n + 1, s, z => by
    have ih := tk_302_0 hE n
    unfold s302_0
    repeat' (first
      | with_reducible exact oTk_rI (tB_le (by assumption) (by omega))
      | with_reducible exact oTk_so (tB_le (by assumption) (by omega))
      | exact oTk_none
      | with_reducible exact tk_302_16 hE ih _ (tB_le (by assumption) (by omega))
      | with_reducible exact tk_302_65 hE _ (tB_le (by assumption) (by omega))
      | with_reducible exact tk_302_69 hE _ (tB_le (by assumption) (by omega))
      | with_reducible exact ih _ (tB_le (by assumption) (by omega))
      | with_reducible refine oTk_if ?_ ?_
      | (with_reducible refine oTk_56 (by assumption) (fun _ _ => ?_))
      | (with_reducible refine oTk_pI (by decide) (by assumption) (fun _ _ => ?_))
      | (with_reducible refine oTk_sI (by decide) (by assumption) (fun _ _ => ?_))
      | (with_reducible refine oTk_sB (by decide) (by assumption) (fun _ _ => ?_))
      | (with_reducible refine oTk_sJ (by assumption) (fun _ _ => ?_))
      | (with_reducible refine oTk_316 hE (by assumption) (fun _ _ => ?_))
      | (with_reducible refine oTk_304 hE (fun _ _ => ?_))
      | (with_reducible refine oTk_311 hE (by assumption) (fun _ _ => ?_))
      | (with_reducible refine oTk_pk hE (by decide) (by assumption) (fun _ _ => ?_))
      | (with_reducible refine oTk_I1 hE (by decide) (by assumption) (fun _ _ => ?_))
      | (with_reducible refine oTk_V1 hE (by decide) (by assumption) (fun _ _ => ?_))
      | (with_reducible refine oTk_I0 hE (by decide) (by assumption) (fun _ _ => ?_))
      | (with_reducible refine oTk_V0 hE (by decide) (by assumption) (fun _ _ => ?_))
      | (with_reducible refine oTk_r56 (by decide) (by assumption) (fun _ _ => ?_))
      | (with_reducible refine oTk_rd (fun _ => ?_)))
theorem tk_306_232 (hE : tE E) {K167 : Int32 → rS → Option rA} (hK167 : ∀ (a0 : Int32) (s : rS), tB false c s → oTk c (K167 a0 s)) (i1 : Int32) (s0 : Int32) (s1 : Int32) (s : rS) (z : tB false c s) : oTk c (s306_232 E w K167 i1 s0 s1 s) := by
  unfold s306_232
  repeat' (first
    | with_reducible exact oTk_rI (tB_le (by assumption) (by omega))
    | with_reducible exact oTk_so (tB_le (by assumption) (by omega))
    | exact oTk_none
    | with_reducible exact hK167 _ _ (tB_le (by assumption) (by omega))
    | with_reducible refine oTk_if ?_ ?_
    | (with_reducible refine oTk_56 (by assumption) (fun _ _ => ?_))
    | (with_reducible refine oTk_pI (by decide) (by assumption) (fun _ _ => ?_))
    | (with_reducible refine oTk_sI (by decide) (by assumption) (fun _ _ => ?_))
    | (with_reducible refine oTk_sB (by decide) (by assumption) (fun _ _ => ?_))
    | (with_reducible refine oTk_sJ (by assumption) (fun _ _ => ?_))
    | (with_reducible refine oTk_316 hE (by assumption) (fun _ _ => ?_))
    | (with_reducible refine oTk_304 hE (fun _ _ => ?_))
    | (with_reducible refine oTk_311 hE (by assumption) (fun _ _ => ?_))
    | (with_reducible refine oTk_pk hE (by decide) (by assumption) (fun _ _ => ?_))
    | (with_reducible refine oTk_I1 hE (by decide) (by assumption) (fun _ _ => ?_))
    | (with_reducible refine oTk_V1 hE (by decide) (by assumption) (fun _ _ => ?_))
    | (with_reducible refine oTk_I0 hE (by decide) (by assumption) (fun _ _ => ?_))
    | (with_reducible refine oTk_V0 hE (by decide) (by assumption) (fun _ _ => ?_))
    | (with_reducible refine oTk_r56 (by decide) (by assumption) (fun _ _ => ?_))
    | (with_reducible refine oTk_rd (fun _ => ?_)))
theorem tk_306_192 (hE : tE E) {K167 : Int32 → rS → Option rA} (hK167 : ∀ (a0 : Int32) (s : rS), tB false c s → oTk c (K167 a0 s)) (i1 : Int32) (s : rS) (z : tB false c s) : oTk c (s306_192 E w K167 i1 s) := by
  unfold s306_192
  repeat' (first
    | with_reducible exact oTk_rI (tB_le (by assumption) (by omega))
    | with_reducible exact oTk_so (tB_le (by assumption) (by omega))
    | exact oTk_none
    | with_reducible exact tk_306_232 hE hK167 _ _ _ _ (tB_le (by assumption) (by omega))
    | with_reducible exact hK167 _ _ (tB_le (by assumption) (by omega))
    | with_reducible refine oTk_if ?_ ?_
    | (with_reducible refine oTk_56 (by assumption) (fun _ _ => ?_))
    | (with_reducible refine oTk_pI (by decide) (by assumption) (fun _ _ => ?_))
    | (with_reducible refine oTk_sI (by decide) (by assumption) (fun _ _ => ?_))
    | (with_reducible refine oTk_sB (by decide) (by assumption) (fun _ _ => ?_))
    | (with_reducible refine oTk_sJ (by assumption) (fun _ _ => ?_))
    | (with_reducible refine oTk_316 hE (by assumption) (fun _ _ => ?_))
    | (with_reducible refine oTk_304 hE (fun _ _ => ?_))
    | (with_reducible refine oTk_311 hE (by assumption) (fun _ _ => ?_))
    | (with_reducible refine oTk_pk hE (by decide) (by assumption) (fun _ _ => ?_))
    | (with_reducible refine oTk_I1 hE (by decide) (by assumption) (fun _ _ => ?_))
    | (with_reducible refine oTk_V1 hE (by decide) (by assumption) (fun _ _ => ?_))
    | (with_reducible refine oTk_I0 hE (by decide) (by assumption) (fun _ _ => ?_))
    | (with_reducible refine oTk_V0 hE (by decide) (by assumption) (fun _ _ => ?_))
    | (with_reducible refine oTk_r56 (by decide) (by assumption) (fun _ _ => ?_))
    | (with_reducible refine oTk_rd (fun _ => ?_)))
theorem tk_306_238 (hE : tE E) (i1 : Int32) (s : rS) (z : tB false c s) : oTk c (s306_238 E w i1 s) := by
  unfold s306_238
  repeat' (first
    | with_reducible exact oTk_rI (tB_le (by assumption) (by omega))
    | with_reducible exact oTk_so (tB_le (by assumption) (by omega))
    | exact oTk_none
    | with_reducible refine oTk_if ?_ ?_
    | (with_reducible refine oTk_56 (by assumption) (fun _ _ => ?_))
    | (with_reducible refine oTk_pI (by decide) (by assumption) (fun _ _ => ?_))
    | (with_reducible refine oTk_sI (by decide) (by assumption) (fun _ _ => ?_))
    | (with_reducible refine oTk_sB (by decide) (by assumption) (fun _ _ => ?_))
    | (with_reducible refine oTk_sJ (by assumption) (fun _ _ => ?_))
    | (with_reducible refine oTk_316 hE (by assumption) (fun _ _ => ?_))
    | (with_reducible refine oTk_304 hE (fun _ _ => ?_))
    | (with_reducible refine oTk_311 hE (by assumption) (fun _ _ => ?_))
    | (with_reducible refine oTk_pk hE (by decide) (by assumption) (fun _ _ => ?_))
    | (with_reducible refine oTk_I1 hE (by decide) (by assumption) (fun _ _ => ?_))
    | (with_reducible refine oTk_V1 hE (by decide) (by assumption) (fun _ _ => ?_))
    | (with_reducible refine oTk_I0 hE (by decide) (by assumption) (fun _ _ => ?_))
    | (with_reducible refine oTk_V0 hE (by decide) (by assumption) (fun _ _ => ?_))
    | (with_reducible refine oTk_r56 (by decide) (by assumption) (fun _ _ => ?_))
    | (with_reducible refine oTk_rd (fun _ => ?_)))
theorem tk_306_167 (hE : tE E) : ∀ (n : Nat) (b0 : Int32) (s : rS), tB false c s → oTk c (s306_167 E w n b0 s)
  | 0, _, _, _ => fun r s' e => by
    have e : (none : Option rA) = some (r, s') := e
    cases e
  | n + 1, b0, s, z => by
    have ih := tk_306_167 hE n
    unfold s306_167
    repeat' (first
      | with_reducible exact oTk_rI (tB_le (by assumption) (by omega))
      | with_reducible exact oTk_so (tB_le (by assumption) (by omega))
      | exact oTk_none
      | with_reducible exact tk_306_192 hE ih _ _ (tB_le (by assumption) (by omega))
      | with_reducible exact tk_306_238 hE _ _ (tB_le (by assumption) (by omega))
      | with_reducible exact ih _ _ (tB_le (by assumption) (by omega))
      | with_reducible refine oTk_if ?_ ?_
      | (with_reducible refine oTk_56 (by assumption) (fun _ _ => ?_))
      | (with_reducible refine oTk_pI (by decide) (by assumption) (fun _ _ => ?_))
      | (with_reducible refine oTk_sI (by decide) (by assumption) (fun _ _ => ?_))
      | (with_reducible refine oTk_sB (by decide) (by assumption) (fun _ _ => ?_))
      | (with_reducible refine oTk_sJ (by assumption) (fun _ _ => ?_))
      | (with_reducible refine oTk_316 hE (by assumption) (fun _ _ => ?_))
      | (with_reducible refine oTk_304 hE (fun _ _ => ?_))
      | (with_reducible refine oTk_311 hE (by assumption) (fun _ _ => ?_))
      | (with_reducible refine oTk_pk hE (by decide) (by assumption) (fun _ _ => ?_))
      | (with_reducible refine oTk_I1 hE (by decide) (by assumption) (fun _ _ => ?_))
      | (with_reducible refine oTk_V1 hE (by decide) (by assumption) (fun _ _ => ?_))
      | (with_reducible refine oTk_I0 hE (by decide) (by assumption) (fun _ _ => ?_))
      | (with_reducible refine oTk_V0 hE (by decide) (by assumption) (fun _ _ => ?_))
      | (with_reducible refine oTk_r56 (by decide) (by assumption) (fun _ _ => ?_))
      | (with_reducible refine oTk_rd (fun _ => ?_)))
theorem tk_306_154 (hE : tE E) (i1 : Int32) (s : rS) (z : tB false c s) : oTk c (s306_154 E w i1 s) := by
  unfold s306_154
  repeat' (first
    | with_reducible exact oTk_rI (tB_le (by assumption) (by omega))
    | with_reducible exact oTk_so (tB_le (by assumption) (by omega))
    | exact oTk_none
    | with_reducible exact tk_306_167 hE _ _ _ (tB_le (by assumption) (by omega))
    | with_reducible refine oTk_if ?_ ?_
    | (with_reducible refine oTk_56 (by assumption) (fun _ _ => ?_))
    | (with_reducible refine oTk_pI (by decide) (by assumption) (fun _ _ => ?_))
    | (with_reducible refine oTk_sI (by decide) (by assumption) (fun _ _ => ?_))
    | (with_reducible refine oTk_sB (by decide) (by assumption) (fun _ _ => ?_))
    | (with_reducible refine oTk_sJ (by assumption) (fun _ _ => ?_))
    | (with_reducible refine oTk_316 hE (by assumption) (fun _ _ => ?_))
    | (with_reducible refine oTk_304 hE (fun _ _ => ?_))
    | (with_reducible refine oTk_311 hE (by assumption) (fun _ _ => ?_))
    | (with_reducible refine oTk_pk hE (by decide) (by assumption) (fun _ _ => ?_))
    | (with_reducible refine oTk_I1 hE (by decide) (by assumption) (fun _ _ => ?_))
    | (with_reducible refine oTk_V1 hE (by decide) (by assumption) (fun _ _ => ?_))
    | (with_reducible refine oTk_I0 hE (by decide) (by assumption) (fun _ _ => ?_))
    | (with_reducible refine oTk_V0 hE (by decide) (by assumption) (fun _ _ => ?_))
    | (with_reducible refine oTk_r56 (by decide) (by assumption) (fun _ _ => ?_))
    | (with_reducible refine oTk_rd (fun _ => ?_)))
theorem tk_306_82 (hE : tE E) : ∀ (n : Nat) (b0 : Int32) (s : rS), tB false c s → oTk c (s306_82 E w n b0 s)
  | 0, _, _, _ => fun r s' e => by
    have e : (none : Option rA) = some (r, s') := e
    cases e
  | n + 1, b0, s, z => by
    have ih := tk_306_82 hE n
    unfold s306_82
    repeat' (first
      | with_reducible exact oTk_rI (tB_le (by assumption) (by omega))
      | with_reducible exact oTk_so (tB_le (by assumption) (by omega))
      | exact oTk_none
      | with_reducible exact tk_306_154 hE _ _ (tB_le (by assumption) (by omega))
      | with_reducible exact ih _ _ (tB_le (by assumption) (by omega))
      | with_reducible refine oTk_if ?_ ?_
      | (with_reducible refine oTk_56 (by assumption) (fun _ _ => ?_))
      | (with_reducible refine oTk_pI (by decide) (by assumption) (fun _ _ => ?_))
      | (with_reducible refine oTk_sI (by decide) (by assumption) (fun _ _ => ?_))
      | (with_reducible refine oTk_sB (by decide) (by assumption) (fun _ _ => ?_))
      | (with_reducible refine oTk_sJ (by assumption) (fun _ _ => ?_))
      | (with_reducible refine oTk_316 hE (by assumption) (fun _ _ => ?_))
      | (with_reducible refine oTk_304 hE (fun _ _ => ?_))
      | (with_reducible refine oTk_311 hE (by assumption) (fun _ _ => ?_))
      | (with_reducible refine oTk_pk hE (by decide) (by assumption) (fun _ _ => ?_))
      | (with_reducible refine oTk_I1 hE (by decide) (by assumption) (fun _ _ => ?_))
      | (with_reducible refine oTk_V1 hE (by decide) (by assumption) (fun _ _ => ?_))
      | (with_reducible refine oTk_I0 hE (by decide) (by assumption) (fun _ _ => ?_))
      | (with_reducible refine oTk_V0 hE (by decide) (by assumption) (fun _ _ => ?_))
      | (with_reducible refine oTk_r56 (by decide) (by assumption) (fun _ _ => ?_))
      | (with_reducible refine oTk_rd (fun _ => ?_)))
theorem tk_306_0 (hE : tE E) (s : rS) (z : tB false c s) : oTk c (s306_0 E w s) := by
  unfold s306_0
  repeat' (first
    | with_reducible exact oTk_rI (tB_le (by assumption) (by omega))
    | with_reducible exact oTk_so (tB_le (by assumption) (by omega))
    | exact oTk_none
    | with_reducible exact tk_306_82 hE _ _ _ (tB_le (by assumption) (by omega))
    | with_reducible refine oTk_if ?_ ?_
    | (with_reducible refine oTk_56 (by assumption) (fun _ _ => ?_))
    | (with_reducible refine oTk_pI (by decide) (by assumption) (fun _ _ => ?_))
    | (with_reducible refine oTk_sI (by decide) (by assumption) (fun _ _ => ?_))
    | (with_reducible refine oTk_sB (by decide) (by assumption) (fun _ _ => ?_))
    | (with_reducible refine oTk_sJ (by assumption) (fun _ _ => ?_))
    | (with_reducible refine oTk_316 hE (by assumption) (fun _ _ => ?_))
    | (with_reducible refine oTk_304 hE (fun _ _ => ?_))
    | (with_reducible refine oTk_311 hE (by assumption) (fun _ _ => ?_))
    | (with_reducible refine oTk_pk hE (by decide) (by assumption) (fun _ _ => ?_))
    | (with_reducible refine oTk_I1 hE (by decide) (by assumption) (fun _ _ => ?_))
    | (with_reducible refine oTk_V1 hE (by decide) (by assumption) (fun _ _ => ?_))
    | (with_reducible refine oTk_I0 hE (by decide) (by assumption) (fun _ _ => ?_))
    | (with_reducible refine oTk_V0 hE (by decide) (by assumption) (fun _ _ => ?_))
    | (with_reducible refine oTk_r56 (by decide) (by assumption) (fun _ _ => ?_))
    | (with_reducible refine oTk_rd (fun _ => ?_)))
theorem tk_311_37 (hE : tE E) (i1 : Int32) (s0 : Int32) (s : rS) (z : tB false c s) : oTk c (s311_37 E w i1 s0 s) := by
  unfold s311_37
  repeat' (first
    | with_reducible exact oTk_rI (tB_le (by assumption) (by omega))
    | with_reducible exact oTk_so (tB_le (by assumption) (by omega))
    | exact oTk_none
    | with_reducible refine oTk_if ?_ ?_
    | (with_reducible refine oTk_56 (by assumption) (fun _ _ => ?_))
    | (with_reducible refine oTk_pI (by decide) (by assumption) (fun _ _ => ?_))
    | (with_reducible refine oTk_sI (by decide) (by assumption) (fun _ _ => ?_))
    | (with_reducible refine oTk_sB (by decide) (by assumption) (fun _ _ => ?_))
    | (with_reducible refine oTk_sJ (by assumption) (fun _ _ => ?_))
    | (with_reducible refine oTk_316 hE (by assumption) (fun _ _ => ?_))
    | (with_reducible refine oTk_304 hE (fun _ _ => ?_))
    | (with_reducible refine oTk_311 hE (by assumption) (fun _ _ => ?_))
    | (with_reducible refine oTk_pk hE (by decide) (by assumption) (fun _ _ => ?_))
    | (with_reducible refine oTk_I1 hE (by decide) (by assumption) (fun _ _ => ?_))
    | (with_reducible refine oTk_V1 hE (by decide) (by assumption) (fun _ _ => ?_))
    | (with_reducible refine oTk_I0 hE (by decide) (by assumption) (fun _ _ => ?_))
    | (with_reducible refine oTk_V0 hE (by decide) (by assumption) (fun _ _ => ?_))
    | (with_reducible refine oTk_r56 (by decide) (by assumption) (fun _ _ => ?_))
    | (with_reducible refine oTk_rd (fun _ => ?_)))
theorem tk_311_0 (hE : tE E) (s : rS) (z : tB true c s) : oTk c (s311_0 E w s) := by
  unfold s311_0
  repeat' (first
    | with_reducible exact oTk_rI (tB_le (by assumption) (by omega))
    | with_reducible exact oTk_so (tB_le (by assumption) (by omega))
    | exact oTk_none
    | with_reducible exact tk_311_37 hE _ _ _ (tB_le (by assumption) (by omega))
    | with_reducible refine oTk_if ?_ ?_
    | (with_reducible refine oTk_56 (by assumption) (fun _ _ => ?_))
    | (with_reducible refine oTk_pI (by decide) (by assumption) (fun _ _ => ?_))
    | (with_reducible refine oTk_sI (by decide) (by assumption) (fun _ _ => ?_))
    | (with_reducible refine oTk_sB (by decide) (by assumption) (fun _ _ => ?_))
    | (with_reducible refine oTk_sJ (by assumption) (fun _ _ => ?_))
    | (with_reducible refine oTk_316 hE (by assumption) (fun _ _ => ?_))
    | (with_reducible refine oTk_304 hE (fun _ _ => ?_))
    | (with_reducible refine oTk_311 hE (by assumption) (fun _ _ => ?_))
    | (with_reducible refine oTk_pk hE (by decide) (by assumption) (fun _ _ => ?_))
    | (with_reducible refine oTk_I1 hE (by decide) (by assumption) (fun _ _ => ?_))
    | (with_reducible refine oTk_V1 hE (by decide) (by assumption) (fun _ _ => ?_))
    | (with_reducible refine oTk_I0 hE (by decide) (by assumption) (fun _ _ => ?_))
    | (with_reducible refine oTk_V0 hE (by decide) (by assumption) (fun _ _ => ?_))
    | (with_reducible refine oTk_r56 (by decide) (by assumption) (fun _ _ => ?_))
    | (with_reducible refine oTk_rd (fun _ => ?_)))
theorem tk_312_123 (hE : tE E) (i1 : Int32) (s : rS) (z : tB false c s) : oTk c (s312_123 E w i1 s) := by
  unfold s312_123
  repeat' (first
    | with_reducible exact oTk_rI (tB_le (by assumption) (by omega))
    | with_reducible exact oTk_so (tB_le (by assumption) (by omega))
    | exact oTk_none
    | with_reducible refine oTk_if ?_ ?_
    | (with_reducible refine oTk_56 (by assumption) (fun _ _ => ?_))
    | (with_reducible refine oTk_pI (by decide) (by assumption) (fun _ _ => ?_))
    | (with_reducible refine oTk_sI (by decide) (by assumption) (fun _ _ => ?_))
    | (with_reducible refine oTk_sB (by decide) (by assumption) (fun _ _ => ?_))
    | (with_reducible refine oTk_sJ (by assumption) (fun _ _ => ?_))
    | (with_reducible refine oTk_316 hE (by assumption) (fun _ _ => ?_))
    | (with_reducible refine oTk_304 hE (fun _ _ => ?_))
    | (with_reducible refine oTk_311 hE (by assumption) (fun _ _ => ?_))
    | (with_reducible refine oTk_pk hE (by decide) (by assumption) (fun _ _ => ?_))
    | (with_reducible refine oTk_I1 hE (by decide) (by assumption) (fun _ _ => ?_))
    | (with_reducible refine oTk_V1 hE (by decide) (by assumption) (fun _ _ => ?_))
    | (with_reducible refine oTk_I0 hE (by decide) (by assumption) (fun _ _ => ?_))
    | (with_reducible refine oTk_V0 hE (by decide) (by assumption) (fun _ _ => ?_))
    | (with_reducible refine oTk_r56 (by decide) (by assumption) (fun _ _ => ?_))
    | (with_reducible refine oTk_rd (fun _ => ?_)))
theorem tk_312_0 (hE : tE E) (s : rS) (z : tB false c s) : oTk c (s312_0 E w s) := by
  unfold s312_0
  repeat' (first
    | with_reducible exact oTk_rI (tB_le (by assumption) (by omega))
    | with_reducible exact oTk_so (tB_le (by assumption) (by omega))
    | exact oTk_none
    | with_reducible exact tk_312_123 hE _ _ (tB_le (by assumption) (by omega))
    | with_reducible refine oTk_if ?_ ?_
    | (with_reducible refine oTk_56 (by assumption) (fun _ _ => ?_))
    | (with_reducible refine oTk_pI (by decide) (by assumption) (fun _ _ => ?_))
    | (with_reducible refine oTk_sI (by decide) (by assumption) (fun _ _ => ?_))
    | (with_reducible refine oTk_sB (by decide) (by assumption) (fun _ _ => ?_))
    | (with_reducible refine oTk_sJ (by assumption) (fun _ _ => ?_))
    | (with_reducible refine oTk_316 hE (by assumption) (fun _ _ => ?_))
    | (with_reducible refine oTk_304 hE (fun _ _ => ?_))
    | (with_reducible refine oTk_311 hE (by assumption) (fun _ _ => ?_))
    | (with_reducible refine oTk_pk hE (by decide) (by assumption) (fun _ _ => ?_))
    | (with_reducible refine oTk_I1 hE (by decide) (by assumption) (fun _ _ => ?_))
    | (with_reducible refine oTk_V1 hE (by decide) (by assumption) (fun _ _ => ?_))
    | (with_reducible refine oTk_I0 hE (by decide) (by assumption) (fun _ _ => ?_))
    | (with_reducible refine oTk_V0 hE (by decide) (by assumption) (fun _ _ => ?_))
    | (with_reducible refine oTk_r56 (by decide) (by assumption) (fun _ _ => ?_))
    | (with_reducible refine oTk_rd (fun _ => ?_)))
theorem tk_314_228 (hE : tE E) (i3 : Int32) (s : rS) (z : tB false (c + 1) s) : oTk c (s314_228 E w i3 s) := by
  unfold s314_228
  repeat' (first
    | with_reducible exact oTk_rI (tB_le (by assumption) (by omega))
    | with_reducible exact oTk_so (tB_le (by assumption) (by omega))
    | exact oTk_none
    | with_reducible refine oTk_if ?_ ?_
    | (with_reducible refine oTk_56 (by assumption) (fun _ _ => ?_))
    | (with_reducible refine oTk_pI (by decide) (by assumption) (fun _ _ => ?_))
    | (with_reducible refine oTk_sI (by decide) (by assumption) (fun _ _ => ?_))
    | (with_reducible refine oTk_sB (by decide) (by assumption) (fun _ _ => ?_))
    | (with_reducible refine oTk_sJ (by assumption) (fun _ _ => ?_))
    | (with_reducible refine oTk_316 hE (by assumption) (fun _ _ => ?_))
    | (with_reducible refine oTk_304 hE (fun _ _ => ?_))
    | (with_reducible refine oTk_311 hE (by assumption) (fun _ _ => ?_))
    | (with_reducible refine oTk_pk hE (by decide) (by assumption) (fun _ _ => ?_))
    | (with_reducible refine oTk_I1 hE (by decide) (by assumption) (fun _ _ => ?_))
    | (with_reducible refine oTk_V1 hE (by decide) (by assumption) (fun _ _ => ?_))
    | (with_reducible refine oTk_I0 hE (by decide) (by assumption) (fun _ _ => ?_))
    | (with_reducible refine oTk_V0 hE (by decide) (by assumption) (fun _ _ => ?_))
    | (with_reducible refine oTk_r56 (by decide) (by assumption) (fun _ _ => ?_))
    | (with_reducible refine oTk_rd (fun _ => ?_)))
theorem tk_314_178 (hE : tE E) (i2 : Int32) (i3 : Int32) (s : rS) (z : tB false (c + 1) s) : oTk c (s314_178 E w i2 i3 s) := by
  unfold s314_178
  repeat' (first
    | with_reducible exact oTk_rI (tB_le (by assumption) (by omega))
    | with_reducible exact oTk_so (tB_le (by assumption) (by omega))
    | exact oTk_none
    | with_reducible exact tk_314_228 hE _ _ (tB_le (by assumption) (by omega))
    | with_reducible refine oTk_if ?_ ?_
    | (with_reducible refine oTk_56 (by assumption) (fun _ _ => ?_))
    | (with_reducible refine oTk_pI (by decide) (by assumption) (fun _ _ => ?_))
    | (with_reducible refine oTk_sI (by decide) (by assumption) (fun _ _ => ?_))
    | (with_reducible refine oTk_sB (by decide) (by assumption) (fun _ _ => ?_))
    | (with_reducible refine oTk_sJ (by assumption) (fun _ _ => ?_))
    | (with_reducible refine oTk_316 hE (by assumption) (fun _ _ => ?_))
    | (with_reducible refine oTk_304 hE (fun _ _ => ?_))
    | (with_reducible refine oTk_311 hE (by assumption) (fun _ _ => ?_))
    | (with_reducible refine oTk_pk hE (by decide) (by assumption) (fun _ _ => ?_))
    | (with_reducible refine oTk_I1 hE (by decide) (by assumption) (fun _ _ => ?_))
    | (with_reducible refine oTk_V1 hE (by decide) (by assumption) (fun _ _ => ?_))
    | (with_reducible refine oTk_I0 hE (by decide) (by assumption) (fun _ _ => ?_))
    | (with_reducible refine oTk_V0 hE (by decide) (by assumption) (fun _ _ => ?_))
    | (with_reducible refine oTk_r56 (by decide) (by assumption) (fun _ _ => ?_))
    | (with_reducible refine oTk_rd (fun _ => ?_)))
theorem tk_314_141 (hE : tE E) (i2 : Int32) (i3 : Int32) (s : rS) (z : tB false (c + 1) s) : oTk c (s314_141 E w i2 i3 s) := by
  unfold s314_141
  repeat' (first
    | with_reducible exact oTk_rI (tB_le (by assumption) (by omega))
    | with_reducible exact oTk_so (tB_le (by assumption) (by omega))
    | exact oTk_none
    | with_reducible exact tk_314_178 hE _ _ _ (tB_le (by assumption) (by omega))
    | with_reducible refine oTk_if ?_ ?_
    | (with_reducible refine oTk_56 (by assumption) (fun _ _ => ?_))
    | (with_reducible refine oTk_pI (by decide) (by assumption) (fun _ _ => ?_))
    | (with_reducible refine oTk_sI (by decide) (by assumption) (fun _ _ => ?_))
    | (with_reducible refine oTk_sB (by decide) (by assumption) (fun _ _ => ?_))
    | (with_reducible refine oTk_sJ (by assumption) (fun _ _ => ?_))
    | (with_reducible refine oTk_316 hE (by assumption) (fun _ _ => ?_))
    | (with_reducible refine oTk_304 hE (fun _ _ => ?_))
    | (with_reducible refine oTk_311 hE (by assumption) (fun _ _ => ?_))
    | (with_reducible refine oTk_pk hE (by decide) (by assumption) (fun _ _ => ?_))
    | (with_reducible refine oTk_I1 hE (by decide) (by assumption) (fun _ _ => ?_))
    | (with_reducible refine oTk_V1 hE (by decide) (by assumption) (fun _ _ => ?_))
    | (with_reducible refine oTk_I0 hE (by decide) (by assumption) (fun _ _ => ?_))
    | (with_reducible refine oTk_V0 hE (by decide) (by assumption) (fun _ _ => ?_))
    | (with_reducible refine oTk_r56 (by decide) (by assumption) (fun _ _ => ?_))
    | (with_reducible refine oTk_rd (fun _ => ?_)))
theorem tk_314_91 (hE : tE E) (i2 : Int32) (i3 : Int32) (s : rS) (z : tB false (c + 1) s) : oTk c (s314_91 E w i2 i3 s) := by
  unfold s314_91
  repeat' (first
    | with_reducible exact oTk_rI (tB_le (by assumption) (by omega))
    | with_reducible exact oTk_so (tB_le (by assumption) (by omega))
    | exact oTk_none
    | with_reducible exact tk_314_141 hE _ _ _ (tB_le (by assumption) (by omega))
    | with_reducible refine oTk_if ?_ ?_
    | (with_reducible refine oTk_56 (by assumption) (fun _ _ => ?_))
    | (with_reducible refine oTk_pI (by decide) (by assumption) (fun _ _ => ?_))
    | (with_reducible refine oTk_sI (by decide) (by assumption) (fun _ _ => ?_))
    | (with_reducible refine oTk_sB (by decide) (by assumption) (fun _ _ => ?_))
    | (with_reducible refine oTk_sJ (by assumption) (fun _ _ => ?_))
    | (with_reducible refine oTk_316 hE (by assumption) (fun _ _ => ?_))
    | (with_reducible refine oTk_304 hE (fun _ _ => ?_))
    | (with_reducible refine oTk_311 hE (by assumption) (fun _ _ => ?_))
    | (with_reducible refine oTk_pk hE (by decide) (by assumption) (fun _ _ => ?_))
    | (with_reducible refine oTk_I1 hE (by decide) (by assumption) (fun _ _ => ?_))
    | (with_reducible refine oTk_V1 hE (by decide) (by assumption) (fun _ _ => ?_))
    | (with_reducible refine oTk_I0 hE (by decide) (by assumption) (fun _ _ => ?_))
    | (with_reducible refine oTk_V0 hE (by decide) (by assumption) (fun _ _ => ?_))
    | (with_reducible refine oTk_r56 (by decide) (by assumption) (fun _ _ => ?_))
    | (with_reducible refine oTk_rd (fun _ => ?_)))
theorem tk_314_0 (hE : tE E) (i1 : Int32) (i2 : Int32) (s : rS) (z : tB false c s) : oTk c (s314_0 E w i1 i2 s) := by
  unfold s314_0
  repeat' (first
    | with_reducible exact oTk_rI (tB_le (by assumption) (by omega))
    | with_reducible exact oTk_so (tB_le (by assumption) (by omega))
    | exact oTk_none
    | with_reducible exact tk_314_141 hE _ _ _ (tB_le (by assumption) (by omega))
    | with_reducible exact tk_314_91 hE _ _ _ (tB_le (by assumption) (by omega))
    | with_reducible refine oTk_if ?_ ?_
    | (with_reducible refine oTk_56 (by assumption) (fun _ _ => ?_))
    | (with_reducible refine oTk_pI (by decide) (by assumption) (fun _ _ => ?_))
    | (with_reducible refine oTk_sI (by decide) (by assumption) (fun _ _ => ?_))
    | (with_reducible refine oTk_sB (by decide) (by assumption) (fun _ _ => ?_))
    | (with_reducible refine oTk_sJ (by assumption) (fun _ _ => ?_))
    | (with_reducible refine oTk_316 hE (by assumption) (fun _ _ => ?_))
    | (with_reducible refine oTk_304 hE (fun _ _ => ?_))
    | (with_reducible refine oTk_311 hE (by assumption) (fun _ _ => ?_))
    | (with_reducible refine oTk_pk hE (by decide) (by assumption) (fun _ _ => ?_))
    | (with_reducible refine oTk_I1 hE (by decide) (by assumption) (fun _ _ => ?_))
    | (with_reducible refine oTk_V1 hE (by decide) (by assumption) (fun _ _ => ?_))
    | (with_reducible refine oTk_I0 hE (by decide) (by assumption) (fun _ _ => ?_))
    | (with_reducible refine oTk_V0 hE (by decide) (by assumption) (fun _ _ => ?_))
    | (with_reducible refine oTk_r56 (by decide) (by assumption) (fun _ _ => ?_))
    | (with_reducible refine oTk_rd (fun _ => ?_)))
theorem tk_315_52 (hE : tE E) {K33 : Int32 → Int32 → rS → Option rA} (hK33 : ∀ (a0 : Int32) (a1 : Int32) (s : rS), tB false c s → oTk c (K33 a0 a1 s)) (i2 : Int32) (s : rS) (z : tB false c s) : oTk c (s315_52 E w K33 i2 s) := by
  unfold s315_52
  repeat' (first
    | with_reducible exact oTk_rI (tB_le (by assumption) (by omega))
    | with_reducible exact oTk_so (tB_le (by assumption) (by omega))
    | exact oTk_none
    | with_reducible exact hK33 _ _ _ (tB_le (by assumption) (by omega))
    | with_reducible refine oTk_if ?_ ?_
    | (with_reducible refine oTk_56 (by assumption) (fun _ _ => ?_))
    | (with_reducible refine oTk_pI (by decide) (by assumption) (fun _ _ => ?_))
    | (with_reducible refine oTk_sI (by decide) (by assumption) (fun _ _ => ?_))
    | (with_reducible refine oTk_sB (by decide) (by assumption) (fun _ _ => ?_))
    | (with_reducible refine oTk_sJ (by assumption) (fun _ _ => ?_))
    | (with_reducible refine oTk_316 hE (by assumption) (fun _ _ => ?_))
    | (with_reducible refine oTk_304 hE (fun _ _ => ?_))
    | (with_reducible refine oTk_311 hE (by assumption) (fun _ _ => ?_))
    | (with_reducible refine oTk_pk hE (by decide) (by assumption) (fun _ _ => ?_))
    | (with_reducible refine oTk_I1 hE (by decide) (by assumption) (fun _ _ => ?_))
    | (with_reducible refine oTk_V1 hE (by decide) (by assumption) (fun _ _ => ?_))
    | (with_reducible refine oTk_I0 hE (by decide) (by assumption) (fun _ _ => ?_))
    | (with_reducible refine oTk_V0 hE (by decide) (by assumption) (fun _ _ => ?_))
    | (with_reducible refine oTk_r56 (by decide) (by assumption) (fun _ _ => ?_))
    | (with_reducible refine oTk_rd (fun _ => ?_)))
theorem tk_315_33 (hE : tE E) : ∀ (n : Nat) (b0 : Int32) (b1 : Int32) (s : rS), tB false c s → oTk c (s315_33 E w n b0 b1 s)
  | 0, _, _, _, _ => fun r s' e => by
    have e : (none : Option rA) = some (r, s') := e
    cases e
  | n + 1, b0, b1, s, z => by
    have ih := tk_315_33 hE n
    unfold s315_33
    repeat' (first
      | with_reducible exact oTk_rI (tB_le (by assumption) (by omega))
      | with_reducible exact oTk_so (tB_le (by assumption) (by omega))
      | exact oTk_none
      | with_reducible exact tk_315_52 hE ih _ _ (tB_le (by assumption) (by omega))
      | with_reducible exact ih _ _ _ (tB_le (by assumption) (by omega))
      | with_reducible refine oTk_if ?_ ?_
      | (with_reducible refine oTk_56 (by assumption) (fun _ _ => ?_))
      | (with_reducible refine oTk_pI (by decide) (by assumption) (fun _ _ => ?_))
      | (with_reducible refine oTk_sI (by decide) (by assumption) (fun _ _ => ?_))
      | (with_reducible refine oTk_sB (by decide) (by assumption) (fun _ _ => ?_))
      | (with_reducible refine oTk_sJ (by assumption) (fun _ _ => ?_))
      | (with_reducible refine oTk_316 hE (by assumption) (fun _ _ => ?_))
      | (with_reducible refine oTk_304 hE (fun _ _ => ?_))
      | (with_reducible refine oTk_311 hE (by assumption) (fun _ _ => ?_))
      | (with_reducible refine oTk_pk hE (by decide) (by assumption) (fun _ _ => ?_))
      | (with_reducible refine oTk_I1 hE (by decide) (by assumption) (fun _ _ => ?_))
      | (with_reducible refine oTk_V1 hE (by decide) (by assumption) (fun _ _ => ?_))
      | (with_reducible refine oTk_I0 hE (by decide) (by assumption) (fun _ _ => ?_))
      | (with_reducible refine oTk_V0 hE (by decide) (by assumption) (fun _ _ => ?_))
      | (with_reducible refine oTk_r56 (by decide) (by assumption) (fun _ _ => ?_))
      | (with_reducible refine oTk_rd (fun _ => ?_)))
theorem tk_315_27 (hE : tE E) (s0 : Int32) (s : rS) (z : tB false c s) : oTk c (s315_27 E w s0 s) := by
  unfold s315_27
  repeat' (first
    | with_reducible exact oTk_rI (tB_le (by assumption) (by omega))
    | with_reducible exact oTk_so (tB_le (by assumption) (by omega))
    | exact oTk_none
    | with_reducible exact tk_315_33 hE _ _ _ _ (tB_le (by assumption) (by omega))
    | with_reducible refine oTk_if ?_ ?_
    | (with_reducible refine oTk_56 (by assumption) (fun _ _ => ?_))
    | (with_reducible refine oTk_pI (by decide) (by assumption) (fun _ _ => ?_))
    | (with_reducible refine oTk_sI (by decide) (by assumption) (fun _ _ => ?_))
    | (with_reducible refine oTk_sB (by decide) (by assumption) (fun _ _ => ?_))
    | (with_reducible refine oTk_sJ (by assumption) (fun _ _ => ?_))
    | (with_reducible refine oTk_316 hE (by assumption) (fun _ _ => ?_))
    | (with_reducible refine oTk_304 hE (fun _ _ => ?_))
    | (with_reducible refine oTk_311 hE (by assumption) (fun _ _ => ?_))
    | (with_reducible refine oTk_pk hE (by decide) (by assumption) (fun _ _ => ?_))
    | (with_reducible refine oTk_I1 hE (by decide) (by assumption) (fun _ _ => ?_))
    | (with_reducible refine oTk_V1 hE (by decide) (by assumption) (fun _ _ => ?_))
    | (with_reducible refine oTk_I0 hE (by decide) (by assumption) (fun _ _ => ?_))
    | (with_reducible refine oTk_V0 hE (by decide) (by assumption) (fun _ _ => ?_))
    | (with_reducible refine oTk_r56 (by decide) (by assumption) (fun _ _ => ?_))
    | (with_reducible refine oTk_rd (fun _ => ?_)))
theorem tk_315_26 (hE : tE E) (s : rS) (z : tB false c s) : oTk c (s315_26 E w s) := by
  unfold s315_26
  repeat' (first
    | with_reducible exact oTk_rI (tB_le (by assumption) (by omega))
    | with_reducible exact oTk_so (tB_le (by assumption) (by omega))
    | exact oTk_none
    | with_reducible exact tk_315_27 hE _ _ (tB_le (by assumption) (by omega))
    | with_reducible refine oTk_if ?_ ?_
    | (with_reducible refine oTk_56 (by assumption) (fun _ _ => ?_))
    | (with_reducible refine oTk_pI (by decide) (by assumption) (fun _ _ => ?_))
    | (with_reducible refine oTk_sI (by decide) (by assumption) (fun _ _ => ?_))
    | (with_reducible refine oTk_sB (by decide) (by assumption) (fun _ _ => ?_))
    | (with_reducible refine oTk_sJ (by assumption) (fun _ _ => ?_))
    | (with_reducible refine oTk_316 hE (by assumption) (fun _ _ => ?_))
    | (with_reducible refine oTk_304 hE (fun _ _ => ?_))
    | (with_reducible refine oTk_311 hE (by assumption) (fun _ _ => ?_))
    | (with_reducible refine oTk_pk hE (by decide) (by assumption) (fun _ _ => ?_))
    | (with_reducible refine oTk_I1 hE (by decide) (by assumption) (fun _ _ => ?_))
    | (with_reducible refine oTk_V1 hE (by decide) (by assumption) (fun _ _ => ?_))
    | (with_reducible refine oTk_I0 hE (by decide) (by assumption) (fun _ _ => ?_))
    | (with_reducible refine oTk_V0 hE (by decide) (by assumption) (fun _ _ => ?_))
    | (with_reducible refine oTk_r56 (by decide) (by assumption) (fun _ _ => ?_))
    | (with_reducible refine oTk_rd (fun _ => ?_)))
theorem tk_315_0 (hE : tE E) (s : rS) (z : tB false c s) : oTk c (s315_0 E w s) := by
  unfold s315_0
  repeat' (first
    | with_reducible exact oTk_rI (tB_le (by assumption) (by omega))
    | with_reducible exact oTk_so (tB_le (by assumption) (by omega))
    | exact oTk_none
    | with_reducible exact tk_315_26 hE _ (tB_le (by assumption) (by omega))
    | with_reducible exact tk_315_27 hE _ _ (tB_le (by assumption) (by omega))
    | with_reducible refine oTk_if ?_ ?_
    | (with_reducible refine oTk_56 (by assumption) (fun _ _ => ?_))
    | (with_reducible refine oTk_pI (by decide) (by assumption) (fun _ _ => ?_))
    | (with_reducible refine oTk_sI (by decide) (by assumption) (fun _ _ => ?_))
    | (with_reducible refine oTk_sB (by decide) (by assumption) (fun _ _ => ?_))
    | (with_reducible refine oTk_sJ (by assumption) (fun _ _ => ?_))
    | (with_reducible refine oTk_316 hE (by assumption) (fun _ _ => ?_))
    | (with_reducible refine oTk_304 hE (fun _ _ => ?_))
    | (with_reducible refine oTk_311 hE (by assumption) (fun _ _ => ?_))
    | (with_reducible refine oTk_pk hE (by decide) (by assumption) (fun _ _ => ?_))
    | (with_reducible refine oTk_I1 hE (by decide) (by assumption) (fun _ _ => ?_))
    | (with_reducible refine oTk_V1 hE (by decide) (by assumption) (fun _ _ => ?_))
    | (with_reducible refine oTk_I0 hE (by decide) (by assumption) (fun _ _ => ?_))
    | (with_reducible refine oTk_V0 hE (by decide) (by assumption) (fun _ _ => ?_))
    | (with_reducible refine oTk_r56 (by decide) (by assumption) (fun _ _ => ?_))
    | (with_reducible refine oTk_rd (fun _ => ?_)))
theorem tk_317_22 (hE : tE E) (s : rS) (z : tB false c s) : oTk c (s317_22 E w s) := by
  unfold s317_22
  repeat' (first
    | with_reducible exact oTk_rI (tB_le (by assumption) (by omega))
    | with_reducible exact oTk_so (tB_le (by assumption) (by omega))
    | exact oTk_none
    | with_reducible refine oTk_if ?_ ?_
    | (with_reducible refine oTk_56 (by assumption) (fun _ _ => ?_))
    | (with_reducible refine oTk_pI (by decide) (by assumption) (fun _ _ => ?_))
    | (with_reducible refine oTk_sI (by decide) (by assumption) (fun _ _ => ?_))
    | (with_reducible refine oTk_sB (by decide) (by assumption) (fun _ _ => ?_))
    | (with_reducible refine oTk_sJ (by assumption) (fun _ _ => ?_))
    | (with_reducible refine oTk_316 hE (by assumption) (fun _ _ => ?_))
    | (with_reducible refine oTk_304 hE (fun _ _ => ?_))
    | (with_reducible refine oTk_311 hE (by assumption) (fun _ _ => ?_))
    | (with_reducible refine oTk_pk hE (by decide) (by assumption) (fun _ _ => ?_))
    | (with_reducible refine oTk_I1 hE (by decide) (by assumption) (fun _ _ => ?_))
    | (with_reducible refine oTk_V1 hE (by decide) (by assumption) (fun _ _ => ?_))
    | (with_reducible refine oTk_I0 hE (by decide) (by assumption) (fun _ _ => ?_))
    | (with_reducible refine oTk_V0 hE (by decide) (by assumption) (fun _ _ => ?_))
    | (with_reducible refine oTk_r56 (by decide) (by assumption) (fun _ _ => ?_))
    | (with_reducible refine oTk_rd (fun _ => ?_)))
theorem tk_317_110 (hE : tE E) {K56 : Int32 → Int32 → Int32 → rS → Option rA} (hK56 : ∀ (a0 : Int32) (a1 : Int32) (a2 : Int32) (s : rS), tB false c s → oTk c (K56 a0 a1 a2 s)) (i1 : Int32) (i2 : Int32) (i4 : Int32) (s : rS) (z : tB false c s) : oTk c (s317_110 E w K56 i1 i2 i4 s) := by
  unfold s317_110
  repeat' (first
    | with_reducible exact oTk_rI (tB_le (by assumption) (by omega))
    | with_reducible exact oTk_so (tB_le (by assumption) (by omega))
    | exact oTk_none
    | with_reducible exact hK56 _ _ _ _ (tB_le (by assumption) (by omega))
    | with_reducible refine oTk_if ?_ ?_
    | (with_reducible refine oTk_56 (by assumption) (fun _ _ => ?_))
    | (with_reducible refine oTk_pI (by decide) (by assumption) (fun _ _ => ?_))
    | (with_reducible refine oTk_sI (by decide) (by assumption) (fun _ _ => ?_))
    | (with_reducible refine oTk_sB (by decide) (by assumption) (fun _ _ => ?_))
    | (with_reducible refine oTk_sJ (by assumption) (fun _ _ => ?_))
    | (with_reducible refine oTk_316 hE (by assumption) (fun _ _ => ?_))
    | (with_reducible refine oTk_304 hE (fun _ _ => ?_))
    | (with_reducible refine oTk_311 hE (by assumption) (fun _ _ => ?_))
    | (with_reducible refine oTk_pk hE (by decide) (by assumption) (fun _ _ => ?_))
    | (with_reducible refine oTk_I1 hE (by decide) (by assumption) (fun _ _ => ?_))
    | (with_reducible refine oTk_V1 hE (by decide) (by assumption) (fun _ _ => ?_))
    | (with_reducible refine oTk_I0 hE (by decide) (by assumption) (fun _ _ => ?_))
    | (with_reducible refine oTk_V0 hE (by decide) (by assumption) (fun _ _ => ?_))
    | (with_reducible refine oTk_r56 (by decide) (by assumption) (fun _ _ => ?_))
    | (with_reducible refine oTk_rd (fun _ => ?_)))
theorem tk_317_116 (hE : tE E) (i2 : Int32) (s : rS) (z : tB false c s) : oTk c (s317_116 E w i2 s) := by
  unfold s317_116
  repeat' (first
    | with_reducible exact oTk_rI (tB_le (by assumption) (by omega))
    | with_reducible exact oTk_so (tB_le (by assumption) (by omega))
    | exact oTk_none
    | with_reducible refine oTk_if ?_ ?_
    | (with_reducible refine oTk_56 (by assumption) (fun _ _ => ?_))
    | (with_reducible refine oTk_pI (by decide) (by assumption) (fun _ _ => ?_))
    | (with_reducible refine oTk_sI (by decide) (by assumption) (fun _ _ => ?_))
    | (with_reducible refine oTk_sB (by decide) (by assumption) (fun _ _ => ?_))
    | (with_reducible refine oTk_sJ (by assumption) (fun _ _ => ?_))
    | (with_reducible refine oTk_316 hE (by assumption) (fun _ _ => ?_))
    | (with_reducible refine oTk_304 hE (fun _ _ => ?_))
    | (with_reducible refine oTk_311 hE (by assumption) (fun _ _ => ?_))
    | (with_reducible refine oTk_pk hE (by decide) (by assumption) (fun _ _ => ?_))
    | (with_reducible refine oTk_I1 hE (by decide) (by assumption) (fun _ _ => ?_))
    | (with_reducible refine oTk_V1 hE (by decide) (by assumption) (fun _ _ => ?_))
    | (with_reducible refine oTk_I0 hE (by decide) (by assumption) (fun _ _ => ?_))
    | (with_reducible refine oTk_V0 hE (by decide) (by assumption) (fun _ _ => ?_))
    | (with_reducible refine oTk_r56 (by decide) (by assumption) (fun _ _ => ?_))
    | (with_reducible refine oTk_rd (fun _ => ?_)))
theorem tk_317_56 (hE : tE E) : ∀ (n : Nat) (b0 : Int32) (b1 : Int32) (b2 : Int32) (s : rS), tB false c s → oTk c (s317_56 E w n b0 b1 b2 s)
  | 0, _, _, _, _, _ => fun r s' e => by
    have e : (none : Option rA) = some (r, s') := e
    cases e
  | n + 1, b0, b1, b2, s, z => by
    have ih := tk_317_56 hE n
    unfold s317_56
    repeat' (first
      | with_reducible exact oTk_rI (tB_le (by assumption) (by omega))
      | with_reducible exact oTk_so (tB_le (by assumption) (by omega))
      | exact oTk_none
      | with_reducible exact tk_317_110 hE ih _ _ _ _ (tB_le (by assumption) (by omega))
      | with_reducible exact tk_317_116 hE _ _ (tB_le (by assumption) (by omega))
      | with_reducible exact ih _ _ _ _ (tB_le (by assumption) (by omega))
      | with_reducible refine oTk_if ?_ ?_
      | (with_reducible refine oTk_56 (by assumption) (fun _ _ => ?_))
      | (with_reducible refine oTk_pI (by decide) (by assumption) (fun _ _ => ?_))
      | (with_reducible refine oTk_sI (by decide) (by assumption) (fun _ _ => ?_))
      | (with_reducible refine oTk_sB (by decide) (by assumption) (fun _ _ => ?_))
      | (with_reducible refine oTk_sJ (by assumption) (fun _ _ => ?_))
      | (with_reducible refine oTk_316 hE (by assumption) (fun _ _ => ?_))
      | (with_reducible refine oTk_304 hE (fun _ _ => ?_))
      | (with_reducible refine oTk_311 hE (by assumption) (fun _ _ => ?_))
      | (with_reducible refine oTk_pk hE (by decide) (by assumption) (fun _ _ => ?_))
      | (with_reducible refine oTk_I1 hE (by decide) (by assumption) (fun _ _ => ?_))
      | (with_reducible refine oTk_V1 hE (by decide) (by assumption) (fun _ _ => ?_))
      | (with_reducible refine oTk_I0 hE (by decide) (by assumption) (fun _ _ => ?_))
      | (with_reducible refine oTk_V0 hE (by decide) (by assumption) (fun _ _ => ?_))
      | (with_reducible refine oTk_r56 (by decide) (by assumption) (fun _ _ => ?_))
      | (with_reducible refine oTk_rd (fun _ => ?_)))
theorem tk_317_0 (hE : tE E) (i1 : Int32) (s : rS) (z : tB false c s) : oTk c (s317_0 E w i1 s) := by
  unfold s317_0
  repeat' (first
    | with_reducible exact oTk_rI (tB_le (by assumption) (by omega))
    | with_reducible exact oTk_so (tB_le (by assumption) (by omega))
    | exact oTk_none
    | with_reducible exact tk_317_22 hE _ (tB_le (by assumption) (by omega))
    | with_reducible exact tk_317_56 hE _ _ _ _ _ (tB_le (by assumption) (by omega))
    | with_reducible refine oTk_if ?_ ?_
    | (with_reducible refine oTk_56 (by assumption) (fun _ _ => ?_))
    | (with_reducible refine oTk_pI (by decide) (by assumption) (fun _ _ => ?_))
    | (with_reducible refine oTk_sI (by decide) (by assumption) (fun _ _ => ?_))
    | (with_reducible refine oTk_sB (by decide) (by assumption) (fun _ _ => ?_))
    | (with_reducible refine oTk_sJ (by assumption) (fun _ _ => ?_))
    | (with_reducible refine oTk_316 hE (by assumption) (fun _ _ => ?_))
    | (with_reducible refine oTk_304 hE (fun _ _ => ?_))
    | (with_reducible refine oTk_311 hE (by assumption) (fun _ _ => ?_))
    | (with_reducible refine oTk_pk hE (by decide) (by assumption) (fun _ _ => ?_))
    | (with_reducible refine oTk_I1 hE (by decide) (by assumption) (fun _ _ => ?_))
    | (with_reducible refine oTk_V1 hE (by decide) (by assumption) (fun _ _ => ?_))
    | (with_reducible refine oTk_I0 hE (by decide) (by assumption) (fun _ _ => ?_))
    | (with_reducible refine oTk_V0 hE (by decide) (by assumption) (fun _ _ => ?_))
    | (with_reducible refine oTk_r56 (by decide) (by assumption) (fun _ _ => ?_))
    | (with_reducible refine oTk_rd (fun _ => ?_)))
theorem tk_318_145 (hE : tE E) (i4 : Int32) (s : rS) (z : tB false c s) : oTk c (s318_145 E w i4 s) := by
  unfold s318_145
  repeat' (first
    | with_reducible exact oTk_rI (tB_le (by assumption) (by omega))
    | with_reducible exact oTk_so (tB_le (by assumption) (by omega))
    | exact oTk_none
    | with_reducible refine oTk_if ?_ ?_
    | (with_reducible refine oTk_56 (by assumption) (fun _ _ => ?_))
    | (with_reducible refine oTk_pI (by decide) (by assumption) (fun _ _ => ?_))
    | (with_reducible refine oTk_sI (by decide) (by assumption) (fun _ _ => ?_))
    | (with_reducible refine oTk_sB (by decide) (by assumption) (fun _ _ => ?_))
    | (with_reducible refine oTk_sJ (by assumption) (fun _ _ => ?_))
    | (with_reducible refine oTk_316 hE (by assumption) (fun _ _ => ?_))
    | (with_reducible refine oTk_304 hE (fun _ _ => ?_))
    | (with_reducible refine oTk_311 hE (by assumption) (fun _ _ => ?_))
    | (with_reducible refine oTk_pk hE (by decide) (by assumption) (fun _ _ => ?_))
    | (with_reducible refine oTk_I1 hE (by decide) (by assumption) (fun _ _ => ?_))
    | (with_reducible refine oTk_V1 hE (by decide) (by assumption) (fun _ _ => ?_))
    | (with_reducible refine oTk_I0 hE (by decide) (by assumption) (fun _ _ => ?_))
    | (with_reducible refine oTk_V0 hE (by decide) (by assumption) (fun _ _ => ?_))
    | (with_reducible refine oTk_r56 (by decide) (by assumption) (fun _ _ => ?_))
    | (with_reducible refine oTk_rd (fun _ => ?_)))
theorem tk_318_84 (hE : tE E) (i1 : Int32) (i2 : Int32) (i3 : Int32) (s0 : Int32) (s : rS) (z : tB false (c + 1) s) : oTk c (s318_84 E w i1 i2 i3 s0 s) := by
  unfold s318_84
  repeat' (first
    | with_reducible exact oTk_rI (tB_le (by assumption) (by omega))
    | with_reducible exact oTk_so (tB_le (by assumption) (by omega))
    | exact oTk_none
    | with_reducible exact tk_318_145 hE _ _ (tB_le (by assumption) (by omega))
    | with_reducible refine oTk_if ?_ ?_
    | (with_reducible refine oTk_56 (by assumption) (fun _ _ => ?_))
    | (with_reducible refine oTk_pI (by decide) (by assumption) (fun _ _ => ?_))
    | (with_reducible refine oTk_sI (by decide) (by assumption) (fun _ _ => ?_))
    | (with_reducible refine oTk_sB (by decide) (by assumption) (fun _ _ => ?_))
    | (with_reducible refine oTk_sJ (by assumption) (fun _ _ => ?_))
    | (with_reducible refine oTk_316 hE (by assumption) (fun _ _ => ?_))
    | (with_reducible refine oTk_304 hE (fun _ _ => ?_))
    | (with_reducible refine oTk_311 hE (by assumption) (fun _ _ => ?_))
    | (with_reducible refine oTk_pk hE (by decide) (by assumption) (fun _ _ => ?_))
    | (with_reducible refine oTk_I1 hE (by decide) (by assumption) (fun _ _ => ?_))
    | (with_reducible refine oTk_V1 hE (by decide) (by assumption) (fun _ _ => ?_))
    | (with_reducible refine oTk_I0 hE (by decide) (by assumption) (fun _ _ => ?_))
    | (with_reducible refine oTk_V0 hE (by decide) (by assumption) (fun _ _ => ?_))
    | (with_reducible refine oTk_r56 (by decide) (by assumption) (fun _ _ => ?_))
    | (with_reducible refine oTk_rd (fun _ => ?_)))
theorem tk_318_60 (hE : tE E) (i1 : Int32) (i2 : Int32) (i3 : Int32) (s : rS) (z : tB true c s) : oTk c (s318_60 E w i1 i2 i3 s) := by
  unfold s318_60
  repeat' (first
    | with_reducible exact oTk_rI (tB_le (by assumption) (by omega))
    | with_reducible exact oTk_so (tB_le (by assumption) (by omega))
    | exact oTk_none
    | with_reducible exact tk_318_84 hE _ _ _ _ _ (tB_le (by assumption) (by omega))
    | with_reducible refine oTk_if ?_ ?_
    | (with_reducible refine oTk_56 (by assumption) (fun _ _ => ?_))
    | (with_reducible refine oTk_pI (by decide) (by assumption) (fun _ _ => ?_))
    | (with_reducible refine oTk_sI (by decide) (by assumption) (fun _ _ => ?_))
    | (with_reducible refine oTk_sB (by decide) (by assumption) (fun _ _ => ?_))
    | (with_reducible refine oTk_sJ (by assumption) (fun _ _ => ?_))
    | (with_reducible refine oTk_316 hE (by assumption) (fun _ _ => ?_))
    | (with_reducible refine oTk_304 hE (fun _ _ => ?_))
    | (with_reducible refine oTk_311 hE (by assumption) (fun _ _ => ?_))
    | (with_reducible refine oTk_pk hE (by decide) (by assumption) (fun _ _ => ?_))
    | (with_reducible refine oTk_I1 hE (by decide) (by assumption) (fun _ _ => ?_))
    | (with_reducible refine oTk_V1 hE (by decide) (by assumption) (fun _ _ => ?_))
    | (with_reducible refine oTk_I0 hE (by decide) (by assumption) (fun _ _ => ?_))
    | (with_reducible refine oTk_V0 hE (by decide) (by assumption) (fun _ _ => ?_))
    | (with_reducible refine oTk_r56 (by decide) (by assumption) (fun _ _ => ?_))
    | (with_reducible refine oTk_rd (fun _ => ?_)))
theorem tk_318_234 (hE : tE E) (i1 : Int32) (i2 : Int32) (s0 : Int32) (s : rS) (z : tB false c s) : oTk c (s318_234 E w i1 i2 s0 s) := by
  unfold s318_234
  repeat' (first
    | with_reducible exact oTk_rI (tB_le (by assumption) (by omega))
    | with_reducible exact oTk_so (tB_le (by assumption) (by omega))
    | exact oTk_none
    | with_reducible refine oTk_if ?_ ?_
    | (with_reducible refine oTk_56 (by assumption) (fun _ _ => ?_))
    | (with_reducible refine oTk_pI (by decide) (by assumption) (fun _ _ => ?_))
    | (with_reducible refine oTk_sI (by decide) (by assumption) (fun _ _ => ?_))
    | (with_reducible refine oTk_sB (by decide) (by assumption) (fun _ _ => ?_))
    | (with_reducible refine oTk_sJ (by assumption) (fun _ _ => ?_))
    | (with_reducible refine oTk_316 hE (by assumption) (fun _ _ => ?_))
    | (with_reducible refine oTk_304 hE (fun _ _ => ?_))
    | (with_reducible refine oTk_311 hE (by assumption) (fun _ _ => ?_))
    | (with_reducible refine oTk_pk hE (by decide) (by assumption) (fun _ _ => ?_))
    | (with_reducible refine oTk_I1 hE (by decide) (by assumption) (fun _ _ => ?_))
    | (with_reducible refine oTk_V1 hE (by decide) (by assumption) (fun _ _ => ?_))
    | (with_reducible refine oTk_I0 hE (by decide) (by assumption) (fun _ _ => ?_))
    | (with_reducible refine oTk_V0 hE (by decide) (by assumption) (fun _ _ => ?_))
    | (with_reducible refine oTk_r56 (by decide) (by assumption) (fun _ _ => ?_))
    | (with_reducible refine oTk_rd (fun _ => ?_)))
theorem tk_318_199 (hE : tE E) (i1 : Int32) (i2 : Int32) (i3 : Int32) (s : rS) (z : tB true c s) : oTk c (s318_199 E w i1 i2 i3 s) := by
  unfold s318_199
  repeat' (first
    | with_reducible exact oTk_rI (tB_le (by assumption) (by omega))
    | with_reducible exact oTk_so (tB_le (by assumption) (by omega))
    | exact oTk_none
    | with_reducible exact tk_318_234 hE _ _ _ _ (tB_le (by assumption) (by omega))
    | with_reducible refine oTk_if ?_ ?_
    | (with_reducible refine oTk_56 (by assumption) (fun _ _ => ?_))
    | (with_reducible refine oTk_pI (by decide) (by assumption) (fun _ _ => ?_))
    | (with_reducible refine oTk_sI (by decide) (by assumption) (fun _ _ => ?_))
    | (with_reducible refine oTk_sB (by decide) (by assumption) (fun _ _ => ?_))
    | (with_reducible refine oTk_sJ (by assumption) (fun _ _ => ?_))
    | (with_reducible refine oTk_316 hE (by assumption) (fun _ _ => ?_))
    | (with_reducible refine oTk_304 hE (fun _ _ => ?_))
    | (with_reducible refine oTk_311 hE (by assumption) (fun _ _ => ?_))
    | (with_reducible refine oTk_pk hE (by decide) (by assumption) (fun _ _ => ?_))
    | (with_reducible refine oTk_I1 hE (by decide) (by assumption) (fun _ _ => ?_))
    | (with_reducible refine oTk_V1 hE (by decide) (by assumption) (fun _ _ => ?_))
    | (with_reducible refine oTk_I0 hE (by decide) (by assumption) (fun _ _ => ?_))
    | (with_reducible refine oTk_V0 hE (by decide) (by assumption) (fun _ _ => ?_))
    | (with_reducible refine oTk_r56 (by decide) (by assumption) (fun _ _ => ?_))
    | (with_reducible refine oTk_rd (fun _ => ?_)))
theorem tk_318_325 (hE : tE E) (i4 : Int32) (i5 : Int32) (s : rS) (z : tB false (c + -1) s) : oTk c (s318_325 E w i4 i5 s) := by
  unfold s318_325
  repeat' (first
    | with_reducible exact oTk_rI (tB_le (by assumption) (by omega))
    | with_reducible exact oTk_so (tB_le (by assumption) (by omega))
    | exact oTk_none
    | with_reducible refine oTk_if ?_ ?_
    | (with_reducible refine oTk_56 (by assumption) (fun _ _ => ?_))
    | (with_reducible refine oTk_pI (by decide) (by assumption) (fun _ _ => ?_))
    | (with_reducible refine oTk_sI (by decide) (by assumption) (fun _ _ => ?_))
    | (with_reducible refine oTk_sB (by decide) (by assumption) (fun _ _ => ?_))
    | (with_reducible refine oTk_sJ (by assumption) (fun _ _ => ?_))
    | (with_reducible refine oTk_316 hE (by assumption) (fun _ _ => ?_))
    | (with_reducible refine oTk_304 hE (fun _ _ => ?_))
    | (with_reducible refine oTk_311 hE (by assumption) (fun _ _ => ?_))
    | (with_reducible refine oTk_pk hE (by decide) (by assumption) (fun _ _ => ?_))
    | (with_reducible refine oTk_I1 hE (by decide) (by assumption) (fun _ _ => ?_))
    | (with_reducible refine oTk_V1 hE (by decide) (by assumption) (fun _ _ => ?_))
    | (with_reducible refine oTk_I0 hE (by decide) (by assumption) (fun _ _ => ?_))
    | (with_reducible refine oTk_V0 hE (by decide) (by assumption) (fun _ _ => ?_))
    | (with_reducible refine oTk_r56 (by decide) (by assumption) (fun _ _ => ?_))
    | (with_reducible refine oTk_rd (fun _ => ?_)))
theorem tk_318_36 (hE : tE E) (i1 : Int32) (i2 : Int32) (s0 : Int32) (s : rS) (z : tB true c s) : oTk c (s318_36 E w i1 i2 s0 s) := by
  unfold s318_36
  repeat' (first
    | with_reducible exact oTk_rI (tB_le (by assumption) (by omega))
    | with_reducible exact oTk_so (tB_le (by assumption) (by omega))
    | exact oTk_none
    | with_reducible exact tk_318_199 hE _ _ _ _ (tB_lt (by assumption) (by omega))
    | with_reducible exact tk_318_325 hE _ _ _ (tB_le (by assumption) (by omega))
    | with_reducible exact tk_318_60 hE _ _ _ _ (tB_lt (by assumption) (by omega))
    | with_reducible refine oTk_if ?_ ?_
    | (with_reducible refine oTk_56 (by assumption) (fun _ _ => ?_))
    | (with_reducible refine oTk_pI (by decide) (by assumption) (fun _ _ => ?_))
    | (with_reducible refine oTk_sI (by decide) (by assumption) (fun _ _ => ?_))
    | (with_reducible refine oTk_sB (by decide) (by assumption) (fun _ _ => ?_))
    | (with_reducible refine oTk_sJ (by assumption) (fun _ _ => ?_))
    | (with_reducible refine oTk_316 hE (by assumption) (fun _ _ => ?_))
    | (with_reducible refine oTk_304 hE (fun _ _ => ?_))
    | (with_reducible refine oTk_311 hE (by assumption) (fun _ _ => ?_))
    | (with_reducible refine oTk_pk hE (by decide) (by assumption) (fun _ _ => ?_))
    | (with_reducible refine oTk_I1 hE (by decide) (by assumption) (fun _ _ => ?_))
    | (with_reducible refine oTk_V1 hE (by decide) (by assumption) (fun _ _ => ?_))
    | (with_reducible refine oTk_I0 hE (by decide) (by assumption) (fun _ _ => ?_))
    | (with_reducible refine oTk_V0 hE (by decide) (by assumption) (fun _ _ => ?_))
    | (with_reducible refine oTk_r56 (by decide) (by assumption) (fun _ _ => ?_))
    | (with_reducible refine oTk_rd (fun _ => ?_)))
theorem tk_318_0 (hE : tE E) (i1 : Int32) (s : rS) (z : tB false c s) : oTk c (s318_0 E w i1 s) := by
  unfold s318_0
  repeat' (first
    | with_reducible exact oTk_rI (tB_le (by assumption) (by omega))
    | with_reducible exact oTk_so (tB_le (by assumption) (by omega))
    | exact oTk_none
    | with_reducible exact tk_318_36 hE _ _ _ _ (tB_lt (by assumption) (by omega))
    | with_reducible refine oTk_if ?_ ?_
    | (with_reducible refine oTk_56 (by assumption) (fun _ _ => ?_))
    | (with_reducible refine oTk_pI (by decide) (by assumption) (fun _ _ => ?_))
    | (with_reducible refine oTk_sI (by decide) (by assumption) (fun _ _ => ?_))
    | (with_reducible refine oTk_sB (by decide) (by assumption) (fun _ _ => ?_))
    | (with_reducible refine oTk_sJ (by assumption) (fun _ _ => ?_))
    | (with_reducible refine oTk_316 hE (by assumption) (fun _ _ => ?_))
    | (with_reducible refine oTk_304 hE (fun _ _ => ?_))
    | (with_reducible refine oTk_311 hE (by assumption) (fun _ _ => ?_))
    | (with_reducible refine oTk_pk hE (by decide) (by assumption) (fun _ _ => ?_))
    | (with_reducible refine oTk_I1 hE (by decide) (by assumption) (fun _ _ => ?_))
    | (with_reducible refine oTk_V1 hE (by decide) (by assumption) (fun _ _ => ?_))
    | (with_reducible refine oTk_I0 hE (by decide) (by assumption) (fun _ _ => ?_))
    | (with_reducible refine oTk_V0 hE (by decide) (by assumption) (fun _ _ => ?_))
    | (with_reducible refine oTk_r56 (by decide) (by assumption) (fun _ _ => ?_))
    | (with_reducible refine oTk_rd (fun _ => ?_)))
theorem tk_319_138 (hE : tE E) (i1 : Int32) (i2 : Int32) (s0 : Int32) (s1 : Int32) (s : rS) (z : tB false c s) : oTk c (s319_138 E w i1 i2 s0 s1 s) := by
  unfold s319_138
  repeat' (first
    | with_reducible exact oTk_rI (tB_le (by assumption) (by omega))
    | with_reducible exact oTk_so (tB_le (by assumption) (by omega))
    | exact oTk_none
    | with_reducible refine oTk_if ?_ ?_
    | (with_reducible refine oTk_56 (by assumption) (fun _ _ => ?_))
    | (with_reducible refine oTk_pI (by decide) (by assumption) (fun _ _ => ?_))
    | (with_reducible refine oTk_sI (by decide) (by assumption) (fun _ _ => ?_))
    | (with_reducible refine oTk_sB (by decide) (by assumption) (fun _ _ => ?_))
    | (with_reducible refine oTk_sJ (by assumption) (fun _ _ => ?_))
    | (with_reducible refine oTk_316 hE (by assumption) (fun _ _ => ?_))
    | (with_reducible refine oTk_304 hE (fun _ _ => ?_))
    | (with_reducible refine oTk_311 hE (by assumption) (fun _ _ => ?_))
    | (with_reducible refine oTk_pk hE (by decide) (by assumption) (fun _ _ => ?_))
    | (with_reducible refine oTk_I1 hE (by decide) (by assumption) (fun _ _ => ?_))
    | (with_reducible refine oTk_V1 hE (by decide) (by assumption) (fun _ _ => ?_))
    | (with_reducible refine oTk_I0 hE (by decide) (by assumption) (fun _ _ => ?_))
    | (with_reducible refine oTk_V0 hE (by decide) (by assumption) (fun _ _ => ?_))
    | (with_reducible refine oTk_r56 (by decide) (by assumption) (fun _ _ => ?_))
    | (with_reducible refine oTk_rd (fun _ => ?_)))
theorem tk_319_52 (hE : tE E) (i1 : Int32) (i2 : Int32) (s : rS) (z : tB false c s) : oTk c (s319_52 E w i1 i2 s) := by
  unfold s319_52
  repeat' (first
    | with_reducible exact oTk_rI (tB_le (by assumption) (by omega))
    | with_reducible exact oTk_so (tB_le (by assumption) (by omega))
    | exact oTk_none
    | with_reducible exact tk_319_138 hE _ _ _ _ _ (tB_le (by assumption) (by omega))
    | with_reducible refine oTk_if ?_ ?_
    | (with_reducible refine oTk_56 (by assumption) (fun _ _ => ?_))
    | (with_reducible refine oTk_pI (by decide) (by assumption) (fun _ _ => ?_))
    | (with_reducible refine oTk_sI (by decide) (by assumption) (fun _ _ => ?_))
    | (with_reducible refine oTk_sB (by decide) (by assumption) (fun _ _ => ?_))
    | (with_reducible refine oTk_sJ (by assumption) (fun _ _ => ?_))
    | (with_reducible refine oTk_316 hE (by assumption) (fun _ _ => ?_))
    | (with_reducible refine oTk_304 hE (fun _ _ => ?_))
    | (with_reducible refine oTk_311 hE (by assumption) (fun _ _ => ?_))
    | (with_reducible refine oTk_pk hE (by decide) (by assumption) (fun _ _ => ?_))
    | (with_reducible refine oTk_I1 hE (by decide) (by assumption) (fun _ _ => ?_))
    | (with_reducible refine oTk_V1 hE (by decide) (by assumption) (fun _ _ => ?_))
    | (with_reducible refine oTk_I0 hE (by decide) (by assumption) (fun _ _ => ?_))
    | (with_reducible refine oTk_V0 hE (by decide) (by assumption) (fun _ _ => ?_))
    | (with_reducible refine oTk_r56 (by decide) (by assumption) (fun _ _ => ?_))
    | (with_reducible refine oTk_rd (fun _ => ?_)))
theorem tk_319_0 (hE : tE E) (i1 : Int32) (s : rS) (z : tB false c s) : oTk c (s319_0 E w i1 s) := by
  unfold s319_0
  repeat' (first
    | with_reducible exact oTk_rI (tB_le (by assumption) (by omega))
    | with_reducible exact oTk_so (tB_le (by assumption) (by omega))
    | exact oTk_none
    | with_reducible exact tk_319_52 hE _ _ _ (tB_le (by assumption) (by omega))
    | with_reducible refine oTk_if ?_ ?_
    | (with_reducible refine oTk_56 (by assumption) (fun _ _ => ?_))
    | (with_reducible refine oTk_pI (by decide) (by assumption) (fun _ _ => ?_))
    | (with_reducible refine oTk_sI (by decide) (by assumption) (fun _ _ => ?_))
    | (with_reducible refine oTk_sB (by decide) (by assumption) (fun _ _ => ?_))
    | (with_reducible refine oTk_sJ (by assumption) (fun _ _ => ?_))
    | (with_reducible refine oTk_316 hE (by assumption) (fun _ _ => ?_))
    | (with_reducible refine oTk_304 hE (fun _ _ => ?_))
    | (with_reducible refine oTk_311 hE (by assumption) (fun _ _ => ?_))
    | (with_reducible refine oTk_pk hE (by decide) (by assumption) (fun _ _ => ?_))
    | (with_reducible refine oTk_I1 hE (by decide) (by assumption) (fun _ _ => ?_))
    | (with_reducible refine oTk_V1 hE (by decide) (by assumption) (fun _ _ => ?_))
    | (with_reducible refine oTk_I0 hE (by decide) (by assumption) (fun _ _ => ?_))
    | (with_reducible refine oTk_V0 hE (by decide) (by assumption) (fun _ _ => ?_))
    | (with_reducible refine oTk_r56 (by decide) (by assumption) (fun _ _ => ?_))
    | (with_reducible refine oTk_rd (fun _ => ?_)))
theorem tk_320_16 (hE : tE E) : ∀ (n : Nat) (b0 : Int32) (b1 : Int32) (s : rS), tB false c s → oTk c (s320_16 E w n b0 b1 s)
  | 0, _, _, _, _ => fun r s' e => by
    have e : (none : Option rA) = some (r, s') := e
    cases e
  | n + 1, b0, b1, s, z => by
    have ih := tk_320_16 hE n
    unfold s320_16
    repeat' (first
      | with_reducible exact oTk_rI (tB_le (by assumption) (by omega))
      | with_reducible exact oTk_so (tB_le (by assumption) (by omega))
      | exact oTk_none
      | with_reducible exact ih _ _ _ (tB_le (by assumption) (by omega))
      | with_reducible refine oTk_if ?_ ?_
      | (with_reducible refine oTk_56 (by assumption) (fun _ _ => ?_))
      | (with_reducible refine oTk_pI (by decide) (by assumption) (fun _ _ => ?_))
      | (with_reducible refine oTk_sI (by decide) (by assumption) (fun _ _ => ?_))
      | (with_reducible refine oTk_sB (by decide) (by assumption) (fun _ _ => ?_))
      | (with_reducible refine oTk_sJ (by assumption) (fun _ _ => ?_))
      | (with_reducible refine oTk_316 hE (by assumption) (fun _ _ => ?_))
      | (with_reducible refine oTk_304 hE (fun _ _ => ?_))
      | (with_reducible refine oTk_311 hE (by assumption) (fun _ _ => ?_))
      | (with_reducible refine oTk_pk hE (by decide) (by assumption) (fun _ _ => ?_))
      | (with_reducible refine oTk_I1 hE (by decide) (by assumption) (fun _ _ => ?_))
      | (with_reducible refine oTk_V1 hE (by decide) (by assumption) (fun _ _ => ?_))
      | (with_reducible refine oTk_I0 hE (by decide) (by assumption) (fun _ _ => ?_))
      | (with_reducible refine oTk_V0 hE (by decide) (by assumption) (fun _ _ => ?_))
      | (with_reducible refine oTk_r56 (by decide) (by assumption) (fun _ _ => ?_))
      | (with_reducible refine oTk_rd (fun _ => ?_)))
theorem tk_320_10 (hE : tE E) (i1 : Int32) (s : rS) (z : tB false c s) : oTk c (s320_10 E w i1 s) := by
  unfold s320_10
  repeat' (first
    | with_reducible exact oTk_rI (tB_le (by assumption) (by omega))
    | with_reducible exact oTk_so (tB_le (by assumption) (by omega))
    | exact oTk_none
    | with_reducible exact tk_320_16 hE _ _ _ _ (tB_le (by assumption) (by omega))
    | with_reducible refine oTk_if ?_ ?_
    | (with_reducible refine oTk_56 (by assumption) (fun _ _ => ?_))
    | (with_reducible refine oTk_pI (by decide) (by assumption) (fun _ _ => ?_))
    | (with_reducible refine oTk_sI (by decide) (by assumption) (fun _ _ => ?_))
    | (with_reducible refine oTk_sB (by decide) (by assumption) (fun _ _ => ?_))
    | (with_reducible refine oTk_sJ (by assumption) (fun _ _ => ?_))
    | (with_reducible refine oTk_316 hE (by assumption) (fun _ _ => ?_))
    | (with_reducible refine oTk_304 hE (fun _ _ => ?_))
    | (with_reducible refine oTk_311 hE (by assumption) (fun _ _ => ?_))
    | (with_reducible refine oTk_pk hE (by decide) (by assumption) (fun _ _ => ?_))
    | (with_reducible refine oTk_I1 hE (by decide) (by assumption) (fun _ _ => ?_))
    | (with_reducible refine oTk_V1 hE (by decide) (by assumption) (fun _ _ => ?_))
    | (with_reducible refine oTk_I0 hE (by decide) (by assumption) (fun _ _ => ?_))
    | (with_reducible refine oTk_V0 hE (by decide) (by assumption) (fun _ _ => ?_))
    | (with_reducible refine oTk_r56 (by decide) (by assumption) (fun _ _ => ?_))
    | (with_reducible refine oTk_rd (fun _ => ?_)))
theorem tk_320_0 (hE : tE E) (i1 : Int32) (s : rS) (z : tB false c s) : oTk c (s320_0 E w i1 s) := by
  unfold s320_0
  repeat' (first
    | with_reducible exact oTk_rI (tB_le (by assumption) (by omega))
    | with_reducible exact oTk_so (tB_le (by assumption) (by omega))
    | exact oTk_none
    | with_reducible exact tk_320_10 hE _ _ (tB_le (by assumption) (by omega))
    | with_reducible refine oTk_if ?_ ?_
    | (with_reducible refine oTk_56 (by assumption) (fun _ _ => ?_))
    | (with_reducible refine oTk_pI (by decide) (by assumption) (fun _ _ => ?_))
    | (with_reducible refine oTk_sI (by decide) (by assumption) (fun _ _ => ?_))
    | (with_reducible refine oTk_sB (by decide) (by assumption) (fun _ _ => ?_))
    | (with_reducible refine oTk_sJ (by assumption) (fun _ _ => ?_))
    | (with_reducible refine oTk_316 hE (by assumption) (fun _ _ => ?_))
    | (with_reducible refine oTk_304 hE (fun _ _ => ?_))
    | (with_reducible refine oTk_311 hE (by assumption) (fun _ _ => ?_))
    | (with_reducible refine oTk_pk hE (by decide) (by assumption) (fun _ _ => ?_))
    | (with_reducible refine oTk_I1 hE (by decide) (by assumption) (fun _ _ => ?_))
    | (with_reducible refine oTk_V1 hE (by decide) (by assumption) (fun _ _ => ?_))
    | (with_reducible refine oTk_I0 hE (by decide) (by assumption) (fun _ _ => ?_))
    | (with_reducible refine oTk_V0 hE (by decide) (by assumption) (fun _ _ => ?_))
    | (with_reducible refine oTk_r56 (by decide) (by assumption) (fun _ _ => ?_))
    | (with_reducible refine oTk_rd (fun _ => ?_)))
theorem tk_321_182 (hE : tE E) {K6 : Int32 → Int32 → rS → Option rA} (hK6 : ∀ (a0 : Int32) (a1 : Int32) (s : rS), tB false c s → oTk c (K6 a0 a1 s)) (i1 : Int32) (i6 : Int32) (s : rS) (z : tB false c s) : oTk c (s321_182 E w K6 i1 i6 s) := by
  unfold s321_182
  repeat' (first
    | with_reducible exact oTk_rI (tB_le (by assumption) (by omega))
    | with_reducible exact oTk_so (tB_le (by assumption) (by omega))
    | exact oTk_none
    | with_reducible exact hK6 _ _ _ (tB_le (by assumption) (by omega))
    | with_reducible refine oTk_if ?_ ?_
    | (with_reducible refine oTk_56 (by assumption) (fun _ _ => ?_))
    | (with_reducible refine oTk_pI (by decide) (by assumption) (fun _ _ => ?_))
    | (with_reducible refine oTk_sI (by decide) (by assumption) (fun _ _ => ?_))
    | (with_reducible refine oTk_sB (by decide) (by assumption) (fun _ _ => ?_))
    | (with_reducible refine oTk_sJ (by assumption) (fun _ _ => ?_))
    | (with_reducible refine oTk_316 hE (by assumption) (fun _ _ => ?_))
    | (with_reducible refine oTk_304 hE (fun _ _ => ?_))
    | (with_reducible refine oTk_311 hE (by assumption) (fun _ _ => ?_))
    | (with_reducible refine oTk_pk hE (by decide) (by assumption) (fun _ _ => ?_))
    | (with_reducible refine oTk_I1 hE (by decide) (by assumption) (fun _ _ => ?_))
    | (with_reducible refine oTk_V1 hE (by decide) (by assumption) (fun _ _ => ?_))
    | (with_reducible refine oTk_I0 hE (by decide) (by assumption) (fun _ _ => ?_))
    | (with_reducible refine oTk_V0 hE (by decide) (by assumption) (fun _ _ => ?_))
    | (with_reducible refine oTk_r56 (by decide) (by assumption) (fun _ _ => ?_))
    | (with_reducible refine oTk_rd (fun _ => ?_)))
theorem tk_321_90 (hE : tE E) {K6 : Int32 → Int32 → rS → Option rA} (hK6 : ∀ (a0 : Int32) (a1 : Int32) (s : rS), tB false c s → oTk c (K6 a0 a1 s)) (i1 : Int32) (i2 : Int32) (i4 : Int32) (i5 : Int32) (s0 : Int32) (s : rS) (z : tB false (c + 1) s) : oTk c (s321_90 E w K6 i1 i2 i4 i5 s0 s) := by
  unfold s321_90
  repeat' (first
    | with_reducible exact oTk_rI (tB_le (by assumption) (by omega))
    | with_reducible exact oTk_so (tB_le (by assumption) (by omega))
    | exact oTk_none
    | with_reducible exact tk_321_182 hE hK6 _ _ _ (tB_le (by assumption) (by omega))
    | with_reducible exact hK6 _ _ _ (tB_le (by assumption) (by omega))
    | with_reducible refine oTk_if ?_ ?_
    | (with_reducible refine oTk_56 (by assumption) (fun _ _ => ?_))
    | (with_reducible refine oTk_pI (by decide) (by assumption) (fun _ _ => ?_))
    | (with_reducible refine oTk_sI (by decide) (by assumption) (fun _ _ => ?_))
    | (with_reducible refine oTk_sB (by decide) (by assumption) (fun _ _ => ?_))
    | (with_reducible refine oTk_sJ (by assumption) (fun _ _ => ?_))
    | (with_reducible refine oTk_316 hE (by assumption) (fun _ _ => ?_))
    | (with_reducible refine oTk_304 hE (fun _ _ => ?_))
    | (with_reducible refine oTk_311 hE (by assumption) (fun _ _ => ?_))
    | (with_reducible refine oTk_pk hE (by decide) (by assumption) (fun _ _ => ?_))
    | (with_reducible refine oTk_I1 hE (by decide) (by assumption) (fun _ _ => ?_))
    | (with_reducible refine oTk_V1 hE (by decide) (by assumption) (fun _ _ => ?_))
    | (with_reducible refine oTk_I0 hE (by decide) (by assumption) (fun _ _ => ?_))
    | (with_reducible refine oTk_V0 hE (by decide) (by assumption) (fun _ _ => ?_))
    | (with_reducible refine oTk_r56 (by decide) (by assumption) (fun _ _ => ?_))
    | (with_reducible refine oTk_rd (fun _ => ?_)))
theorem tk_321_66 (hE : tE E) {K6 : Int32 → Int32 → rS → Option rA} (hK6 : ∀ (a0 : Int32) (a1 : Int32) (s : rS), tB false c s → oTk c (K6 a0 a1 s)) (i1 : Int32) (i2 : Int32) (i3 : Int32) (i4 : Int32) (s0 : Int32) (s : rS) (z : tB false (c + 1) s) : oTk c (s321_66 E w K6 i1 i2 i3 i4 s0 s) := by
  unfold s321_66
  repeat' (first
    | with_reducible exact oTk_rI (tB_le (by assumption) (by omega))
    | with_reducible exact oTk_so (tB_le (by assumption) (by omega))
    | exact oTk_none
    | with_reducible exact tk_321_90 hE hK6 _ _ _ _ _ _ (tB_le (by assumption) (by omega))
    | with_reducible exact hK6 _ _ _ (tB_le (by assumption) (by omega))
    | with_reducible refine oTk_if ?_ ?_
    | (with_reducible refine oTk_56 (by assumption) (fun _ _ => ?_))
    | (with_reducible refine oTk_pI (by decide) (by assumption) (fun _ _ => ?_))
    | (with_reducible refine oTk_sI (by decide) (by assumption) (fun _ _ => ?_))
    | (with_reducible refine oTk_sB (by decide) (by assumption) (fun _ _ => ?_))
    | (with_reducible refine oTk_sJ (by assumption) (fun _ _ => ?_))
    | (with_reducible refine oTk_316 hE (by assumption) (fun _ _ => ?_))
    | (with_reducible refine oTk_304 hE (fun _ _ => ?_))
    | (with_reducible refine oTk_311 hE (by assumption) (fun _ _ => ?_))
    | (with_reducible refine oTk_pk hE (by decide) (by assumption) (fun _ _ => ?_))
    | (with_reducible refine oTk_I1 hE (by decide) (by assumption) (fun _ _ => ?_))
    | (with_reducible refine oTk_V1 hE (by decide) (by assumption) (fun _ _ => ?_))
    | (with_reducible refine oTk_I0 hE (by decide) (by assumption) (fun _ _ => ?_))
    | (with_reducible refine oTk_V0 hE (by decide) (by assumption) (fun _ _ => ?_))
    | (with_reducible refine oTk_r56 (by decide) (by assumption) (fun _ _ => ?_))
    | (with_reducible refine oTk_rd (fun _ => ?_)))
theorem tk_321_61 (hE : tE E) {K6 : Int32 → Int32 → rS → Option rA} (hK6 : ∀ (a0 : Int32) (a1 : Int32) (s : rS), tB false c s → oTk c (K6 a0 a1 s)) (i1 : Int32) (i2 : Int32) (i3 : Int32) (i4 : Int32) (s : rS) (z : tB false (c + 1) s) : oTk c (s321_61 E w K6 i1 i2 i3 i4 s) := by
  unfold s321_61
  repeat' (first
    | with_reducible exact oTk_rI (tB_le (by assumption) (by omega))
    | with_reducible exact oTk_so (tB_le (by assumption) (by omega))
    | exact oTk_none
    | with_reducible exact tk_321_66 hE hK6 _ _ _ _ _ _ (tB_le (by assumption) (by omega))
    | with_reducible exact hK6 _ _ _ (tB_le (by assumption) (by omega))
    | with_reducible refine oTk_if ?_ ?_
    | (with_reducible refine oTk_56 (by assumption) (fun _ _ => ?_))
    | (with_reducible refine oTk_pI (by decide) (by assumption) (fun _ _ => ?_))
    | (with_reducible refine oTk_sI (by decide) (by assumption) (fun _ _ => ?_))
    | (with_reducible refine oTk_sB (by decide) (by assumption) (fun _ _ => ?_))
    | (with_reducible refine oTk_sJ (by assumption) (fun _ _ => ?_))
    | (with_reducible refine oTk_316 hE (by assumption) (fun _ _ => ?_))
    | (with_reducible refine oTk_304 hE (fun _ _ => ?_))
    | (with_reducible refine oTk_311 hE (by assumption) (fun _ _ => ?_))
    | (with_reducible refine oTk_pk hE (by decide) (by assumption) (fun _ _ => ?_))
    | (with_reducible refine oTk_I1 hE (by decide) (by assumption) (fun _ _ => ?_))
    | (with_reducible refine oTk_V1 hE (by decide) (by assumption) (fun _ _ => ?_))
    | (with_reducible refine oTk_I0 hE (by decide) (by assumption) (fun _ _ => ?_))
    | (with_reducible refine oTk_V0 hE (by decide) (by assumption) (fun _ _ => ?_))
    | (with_reducible refine oTk_r56 (by decide) (by assumption) (fun _ _ => ?_))
    | (with_reducible refine oTk_rd (fun _ => ?_)))
theorem tk_321_24 (hE : tE E) {K6 : Int32 → Int32 → rS → Option rA} (hK6 : ∀ (a0 : Int32) (a1 : Int32) (s : rS), tB false c s → oTk c (K6 a0 a1 s)) (i1 : Int32) (i2 : Int32) (s : rS) (z : tB false c s) : oTk c (s321_24 E w K6 i1 i2 s) := by
  unfold s321_24
  repeat' (first
    | with_reducible exact oTk_rI (tB_le (by assumption) (by omega))
    | with_reducible exact oTk_so (tB_le (by assumption) (by omega))
    | exact oTk_none
    | with_reducible exact tk_321_61 hE hK6 _ _ _ _ _ (tB_le (by assumption) (by omega))
    | with_reducible exact tk_321_66 hE hK6 _ _ _ _ _ _ (tB_le (by assumption) (by omega))
    | with_reducible exact hK6 _ _ _ (tB_le (by assumption) (by omega))
    | with_reducible refine oTk_if ?_ ?_
    | (with_reducible refine oTk_56 (by assumption) (fun _ _ => ?_))
    | (with_reducible refine oTk_pI (by decide) (by assumption) (fun _ _ => ?_))
    | (with_reducible refine oTk_sI (by decide) (by assumption) (fun _ _ => ?_))
    | (with_reducible refine oTk_sB (by decide) (by assumption) (fun _ _ => ?_))
    | (with_reducible refine oTk_sJ (by assumption) (fun _ _ => ?_))
    | (with_reducible refine oTk_316 hE (by assumption) (fun _ _ => ?_))
    | (with_reducible refine oTk_304 hE (fun _ _ => ?_))
    | (with_reducible refine oTk_311 hE (by assumption) (fun _ _ => ?_))
    | (with_reducible refine oTk_pk hE (by decide) (by assumption) (fun _ _ => ?_))
    | (with_reducible refine oTk_I1 hE (by decide) (by assumption) (fun _ _ => ?_))
    | (with_reducible refine oTk_V1 hE (by decide) (by assumption) (fun _ _ => ?_))
    | (with_reducible refine oTk_I0 hE (by decide) (by assumption) (fun _ _ => ?_))
    | (with_reducible refine oTk_V0 hE (by decide) (by assumption) (fun _ _ => ?_))
    | (with_reducible refine oTk_r56 (by decide) (by assumption) (fun _ _ => ?_))
    | (with_reducible refine oTk_rd (fun _ => ?_)))
theorem tk_321_6 (hE : tE E) : ∀ (n : Nat) (b0 : Int32) (b1 : Int32) (s : rS), tB false c s → oTk c (s321_6 E w n b0 b1 s)
  | 0, _, _, _, _ => fun r s' e => by
    have e : (none : Option rA) = some (r, s') := e
    cases e
  | n + 1, b0, b1, s, z => by
    have ih := tk_321_6 hE n
    unfold s321_6
    repeat' (first
      | with_reducible exact oTk_rI (tB_le (by assumption) (by omega))
      | with_reducible exact oTk_so (tB_le (by assumption) (by omega))
      | exact oTk_none
      | with_reducible exact tk_321_24 hE ih _ _ _ (tB_le (by assumption) (by omega))
      | with_reducible exact ih _ _ _ (tB_le (by assumption) (by omega))
      | with_reducible refine oTk_if ?_ ?_
      | (with_reducible refine oTk_56 (by assumption) (fun _ _ => ?_))
      | (with_reducible refine oTk_pI (by decide) (by assumption) (fun _ _ => ?_))
      | (with_reducible refine oTk_sI (by decide) (by assumption) (fun _ _ => ?_))
      | (with_reducible refine oTk_sB (by decide) (by assumption) (fun _ _ => ?_))
      | (with_reducible refine oTk_sJ (by assumption) (fun _ _ => ?_))
      | (with_reducible refine oTk_316 hE (by assumption) (fun _ _ => ?_))
      | (with_reducible refine oTk_304 hE (fun _ _ => ?_))
      | (with_reducible refine oTk_311 hE (by assumption) (fun _ _ => ?_))
      | (with_reducible refine oTk_pk hE (by decide) (by assumption) (fun _ _ => ?_))
      | (with_reducible refine oTk_I1 hE (by decide) (by assumption) (fun _ _ => ?_))
      | (with_reducible refine oTk_V1 hE (by decide) (by assumption) (fun _ _ => ?_))
      | (with_reducible refine oTk_I0 hE (by decide) (by assumption) (fun _ _ => ?_))
      | (with_reducible refine oTk_V0 hE (by decide) (by assumption) (fun _ _ => ?_))
      | (with_reducible refine oTk_r56 (by decide) (by assumption) (fun _ _ => ?_))
      | (with_reducible refine oTk_rd (fun _ => ?_)))
theorem tk_321_0 (hE : tE E) (i1 : Int32) (s : rS) (z : tB false c s) : oTk c (s321_0 E w i1 s) := by
  unfold s321_0
  repeat' (first
    | with_reducible exact oTk_rI (tB_le (by assumption) (by omega))
    | with_reducible exact oTk_so (tB_le (by assumption) (by omega))
    | exact oTk_none
    | with_reducible exact tk_321_6 hE _ _ _ _ (tB_le (by assumption) (by omega))
    | with_reducible refine oTk_if ?_ ?_
    | (with_reducible refine oTk_56 (by assumption) (fun _ _ => ?_))
    | (with_reducible refine oTk_pI (by decide) (by assumption) (fun _ _ => ?_))
    | (with_reducible refine oTk_sI (by decide) (by assumption) (fun _ _ => ?_))
    | (with_reducible refine oTk_sB (by decide) (by assumption) (fun _ _ => ?_))
    | (with_reducible refine oTk_sJ (by assumption) (fun _ _ => ?_))
    | (with_reducible refine oTk_316 hE (by assumption) (fun _ _ => ?_))
    | (with_reducible refine oTk_304 hE (fun _ _ => ?_))
    | (with_reducible refine oTk_311 hE (by assumption) (fun _ _ => ?_))
    | (with_reducible refine oTk_pk hE (by decide) (by assumption) (fun _ _ => ?_))
    | (with_reducible refine oTk_I1 hE (by decide) (by assumption) (fun _ _ => ?_))
    | (with_reducible refine oTk_V1 hE (by decide) (by assumption) (fun _ _ => ?_))
    | (with_reducible refine oTk_I0 hE (by decide) (by assumption) (fun _ _ => ?_))
    | (with_reducible refine oTk_V0 hE (by decide) (by assumption) (fun _ _ => ?_))
    | (with_reducible refine oTk_r56 (by decide) (by assumption) (fun _ _ => ?_))
    | (with_reducible refine oTk_rd (fun _ => ?_)))
theorem tk_322_548 (hE : tE E) (i5 : Int32) (s : rS) (z : tB false c s) : oTk c (s322_548 E w i5 s) := by
  unfold s322_548
  repeat' (first
    | with_reducible exact oTk_rI (tB_le (by assumption) (by omega))
    | with_reducible exact oTk_so (tB_le (by assumption) (by omega))
    | exact oTk_none
    | with_reducible refine oTk_if ?_ ?_
    | (with_reducible refine oTk_56 (by assumption) (fun _ _ => ?_))
    | (with_reducible refine oTk_pI (by decide) (by assumption) (fun _ _ => ?_))
    | (with_reducible refine oTk_sI (by decide) (by assumption) (fun _ _ => ?_))
    | (with_reducible refine oTk_sB (by decide) (by assumption) (fun _ _ => ?_))
    | (with_reducible refine oTk_sJ (by assumption) (fun _ _ => ?_))
    | (with_reducible refine oTk_316 hE (by assumption) (fun _ _ => ?_))
    | (with_reducible refine oTk_304 hE (fun _ _ => ?_))
    | (with_reducible refine oTk_311 hE (by assumption) (fun _ _ => ?_))
    | (with_reducible refine oTk_pk hE (by decide) (by assumption) (fun _ _ => ?_))
    | (with_reducible refine oTk_I1 hE (by decide) (by assumption) (fun _ _ => ?_))
    | (with_reducible refine oTk_V1 hE (by decide) (by assumption) (fun _ _ => ?_))
    | (with_reducible refine oTk_I0 hE (by decide) (by assumption) (fun _ _ => ?_))
    | (with_reducible refine oTk_V0 hE (by decide) (by assumption) (fun _ _ => ?_))
    | (with_reducible refine oTk_r56 (by decide) (by assumption) (fun _ _ => ?_))
    | (with_reducible refine oTk_rd (fun _ => ?_)))
theorem tk_322_506 (hE : tE E) (i1 : Int32) (i5 : Int32) (s : rS) (z : tB false c s) : oTk c (s322_506 E w i1 i5 s) := by
  unfold s322_506
  repeat' (first
    | with_reducible exact oTk_rI (tB_le (by assumption) (by omega))
    | with_reducible exact oTk_so (tB_le (by assumption) (by omega))
    | exact oTk_none
    | with_reducible exact tk_322_548 hE _ _ (tB_le (by assumption) (by omega))
    | with_reducible refine oTk_if ?_ ?_
    | (with_reducible refine oTk_56 (by assumption) (fun _ _ => ?_))
    | (with_reducible refine oTk_pI (by decide) (by assumption) (fun _ _ => ?_))
    | (with_reducible refine oTk_sI (by decide) (by assumption) (fun _ _ => ?_))
    | (with_reducible refine oTk_sB (by decide) (by assumption) (fun _ _ => ?_))
    | (with_reducible refine oTk_sJ (by assumption) (fun _ _ => ?_))
    | (with_reducible refine oTk_316 hE (by assumption) (fun _ _ => ?_))
    | (with_reducible refine oTk_304 hE (fun _ _ => ?_))
    | (with_reducible refine oTk_311 hE (by assumption) (fun _ _ => ?_))
    | (with_reducible refine oTk_pk hE (by decide) (by assumption) (fun _ _ => ?_))
    | (with_reducible refine oTk_I1 hE (by decide) (by assumption) (fun _ _ => ?_))
    | (with_reducible refine oTk_V1 hE (by decide) (by assumption) (fun _ _ => ?_))
    | (with_reducible refine oTk_I0 hE (by decide) (by assumption) (fun _ _ => ?_))
    | (with_reducible refine oTk_V0 hE (by decide) (by assumption) (fun _ _ => ?_))
    | (with_reducible refine oTk_r56 (by decide) (by assumption) (fun _ _ => ?_))
    | (with_reducible refine oTk_rd (fun _ => ?_)))
theorem tk_322_181 (hE : tE E) (i1 : Int32) (i2 : Int32) (s0 : Int32) (s : rS) (z : tB false c s) : oTk c (s322_181 E w i1 i2 s0 s) := by
  unfold s322_181
  repeat' (first
    | with_reducible exact oTk_rI (tB_le (by assumption) (by omega))
    | with_reducible exact oTk_so (tB_le (by assumption) (by omega))
    | exact oTk_none
    | with_reducible exact tk_322_506 hE _ _ _ (tB_le (by assumption) (by omega))
    | with_reducible exact tk_322_548 hE _ _ (tB_le (by assumption) (by omega))
    | with_reducible refine oTk_if ?_ ?_
    | (with_reducible refine oTk_56 (by assumption) (fun _ _ => ?_))
    | (with_reducible refine oTk_pI (by decide) (by assumption) (fun _ _ => ?_))
    | (with_reducible refine oTk_sI (by decide) (by assumption) (fun _ _ => ?_))
    | (with_reducible refine oTk_sB (by decide) (by assumption) (fun _ _ => ?_))
    | (with_reducible refine oTk_sJ (by assumption) (fun _ _ => ?_))
    | (with_reducible refine oTk_316 hE (by assumption) (fun _ _ => ?_))
    | (with_reducible refine oTk_304 hE (fun _ _ => ?_))
    | (with_reducible refine oTk_311 hE (by assumption) (fun _ _ => ?_))
    | (with_reducible refine oTk_pk hE (by decide) (by assumption) (fun _ _ => ?_))
    | (with_reducible refine oTk_I1 hE (by decide) (by assumption) (fun _ _ => ?_))
    | (with_reducible refine oTk_V1 hE (by decide) (by assumption) (fun _ _ => ?_))
    | (with_reducible refine oTk_I0 hE (by decide) (by assumption) (fun _ _ => ?_))
    | (with_reducible refine oTk_V0 hE (by decide) (by assumption) (fun _ _ => ?_))
    | (with_reducible refine oTk_r56 (by decide) (by assumption) (fun _ _ => ?_))
    | (with_reducible refine oTk_rd (fun _ => ?_)))
theorem tk_322_45 (hE : tE E) (i1 : Int32) (i2 : Int32) (s0 : Int32) (s : rS) (z : tB false c s) : oTk c (s322_45 E w i1 i2 s0 s) := by
  unfold s322_45
  repeat' (first
    | with_reducible exact oTk_rI (tB_le (by assumption) (by omega))
    | with_reducible exact oTk_so (tB_le (by assumption) (by omega))
    | exact oTk_none
    | with_reducible exact tk_322_181 hE _ _ _ _ (tB_le (by assumption) (by omega))
    | with_reducible refine oTk_if ?_ ?_
    | (with_reducible refine oTk_56 (by assumption) (fun _ _ => ?_))
    | (with_reducible refine oTk_pI (by decide) (by assumption) (fun _ _ => ?_))
    | (with_reducible refine oTk_sI (by decide) (by assumption) (fun _ _ => ?_))
    | (with_reducible refine oTk_sB (by decide) (by assumption) (fun _ _ => ?_))
    | (with_reducible refine oTk_sJ (by assumption) (fun _ _ => ?_))
    | (with_reducible refine oTk_316 hE (by assumption) (fun _ _ => ?_))
    | (with_reducible refine oTk_304 hE (fun _ _ => ?_))
    | (with_reducible refine oTk_311 hE (by assumption) (fun _ _ => ?_))
    | (with_reducible refine oTk_pk hE (by decide) (by assumption) (fun _ _ => ?_))
    | (with_reducible refine oTk_I1 hE (by decide) (by assumption) (fun _ _ => ?_))
    | (with_reducible refine oTk_V1 hE (by decide) (by assumption) (fun _ _ => ?_))
    | (with_reducible refine oTk_I0 hE (by decide) (by assumption) (fun _ _ => ?_))
    | (with_reducible refine oTk_V0 hE (by decide) (by assumption) (fun _ _ => ?_))
    | (with_reducible refine oTk_r56 (by decide) (by assumption) (fun _ _ => ?_))
    | (with_reducible refine oTk_rd (fun _ => ?_)))
theorem tk_322_0 (hE : tE E) (i1 : Int32) (s : rS) (z : tB false c s) : oTk c (s322_0 E w i1 s) := by
  unfold s322_0
  repeat' (first
    | with_reducible exact oTk_rI (tB_le (by assumption) (by omega))
    | with_reducible exact oTk_so (tB_le (by assumption) (by omega))
    | exact oTk_none
    | with_reducible exact tk_322_45 hE _ _ _ _ (tB_le (by assumption) (by omega))
    | with_reducible refine oTk_if ?_ ?_
    | (with_reducible refine oTk_56 (by assumption) (fun _ _ => ?_))
    | (with_reducible refine oTk_pI (by decide) (by assumption) (fun _ _ => ?_))
    | (with_reducible refine oTk_sI (by decide) (by assumption) (fun _ _ => ?_))
    | (with_reducible refine oTk_sB (by decide) (by assumption) (fun _ _ => ?_))
    | (with_reducible refine oTk_sJ (by assumption) (fun _ _ => ?_))
    | (with_reducible refine oTk_316 hE (by assumption) (fun _ _ => ?_))
    | (with_reducible refine oTk_304 hE (fun _ _ => ?_))
    | (with_reducible refine oTk_311 hE (by assumption) (fun _ _ => ?_))
    | (with_reducible refine oTk_pk hE (by decide) (by assumption) (fun _ _ => ?_))
    | (with_reducible refine oTk_I1 hE (by decide) (by assumption) (fun _ _ => ?_))
    | (with_reducible refine oTk_V1 hE (by decide) (by assumption) (fun _ _ => ?_))
    | (with_reducible refine oTk_I0 hE (by decide) (by assumption) (fun _ _ => ?_))
    | (with_reducible refine oTk_V0 hE (by decide) (by assumption) (fun _ _ => ?_))
    | (with_reducible refine oTk_r56 (by decide) (by assumption) (fun _ _ => ?_))
    | (with_reducible refine oTk_rd (fun _ => ?_)))
theorem tk_323_0 (hE : tE E) (i1 : Int32) (i2 : Int32) (s : rS) (z : tB false c s) : oTk c (s323_0 E w i1 i2 s) := by
  unfold s323_0
  repeat' (first
    | with_reducible exact oTk_rI (tB_le (by assumption) (by omega))
    | with_reducible exact oTk_so (tB_le (by assumption) (by omega))
    | exact oTk_none
    | with_reducible refine oTk_if ?_ ?_
    | (with_reducible refine oTk_56 (by assumption) (fun _ _ => ?_))
    | (with_reducible refine oTk_pI (by decide) (by assumption) (fun _ _ => ?_))
    | (with_reducible refine oTk_sI (by decide) (by assumption) (fun _ _ => ?_))
    | (with_reducible refine oTk_sB (by decide) (by assumption) (fun _ _ => ?_))
    | (with_reducible refine oTk_sJ (by assumption) (fun _ _ => ?_))
    | (with_reducible refine oTk_316 hE (by assumption) (fun _ _ => ?_))
    | (with_reducible refine oTk_304 hE (fun _ _ => ?_))
    | (with_reducible refine oTk_311 hE (by assumption) (fun _ _ => ?_))
    | (with_reducible refine oTk_pk hE (by decide) (by assumption) (fun _ _ => ?_))
    | (with_reducible refine oTk_I1 hE (by decide) (by assumption) (fun _ _ => ?_))
    | (with_reducible refine oTk_V1 hE (by decide) (by assumption) (fun _ _ => ?_))
    | (with_reducible refine oTk_I0 hE (by decide) (by assumption) (fun _ _ => ?_))
    | (with_reducible refine oTk_V0 hE (by decide) (by assumption) (fun _ _ => ?_))
    | (with_reducible refine oTk_r56 (by decide) (by assumption) (fun _ _ => ?_))
    | (with_reducible refine oTk_rd (fun _ => ?_)))
end TKB
