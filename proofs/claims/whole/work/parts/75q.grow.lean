/-! ArrayList.grow: a longer copy of its array (a primitive of the machine: part 53a). -/
def dcpR (L : Nat) (xs : Nat → Int32) (h : rm_H) (o : Option Nat) (n : Int32) : Option rm_H := match o with
  | some a => if 21 ≤ a ∧ ¬ n < 0 ∧ n.toNatClampNeg * 4 ≤ 536870912 then (match h[a - 21]? with
    | some (.inl (t2, m, .inr (.inr (.inr (.inr f))))) => if t2 = 4 ∧ m ≤ n.toNatClampNeg ∧ rm_el 21 (ah_O L xs) ah_CA h 4 f m = true then some (h ++ [rm_cpA 4 n.toNatClampNeg m f]) else none
    | _ => none) else none
  | none => none
section DQG
variable {L : Nat} {xs : Nat → Int32} {zf : Value} {M : rm_M} {pc : Nat} {lv : rm_L} {st : List Value} {h : rm_H} {k : Nat} {r : dR}
theorem dq_dxR (pc' : Nat) {o o2 : Option Nat} (hi : mx_at M pc .dup_x1 1 [] = true) (hp : pc + 1 = pc') (hr : dq L xs zf M pc' lv (va_rf o2 :: va_rf o :: va_rf o2 :: st) h k r) : dq L xs zf M pc lv (va_rf o2 :: va_rf o :: st) h k r := by
  subst hp
  refine dq_S _ _ _ _ lv _ hi ?_ hr
  unfold mx_AB rm_sA
  dsimp only
  rw [if_pos rfl, if_pos ⟨drc o2, drc o⟩]
theorem dq_cpR {o : Option Nat} {n : Int32} {h' : rm_H} (idx pc' : Nat) (hi : rm_fnd M.2.2.2.2 pc = some (.invokestatic idx, 3, [2, 4])) (hR : (st.map fun v => v.category).sum ≤ 8) (hp : pc + 3 = pc') (hq : dcpR L xs h o n = some h') (hr : dq L xs zf M pc' lv (va_rf (some (21 + List.length h)) :: st) h' (k + 1) r) : dq L xs zf M pc lv (.int n :: va_rf o :: st) h (k + 1) r := by
  subst hp
  unfold dcpR at hq
  split at hq
  · rename_i a
    split at hq
    · rename_i hc
      split at hq
      · rename_i t2 m f hk
        split at hq
        · rename_i hc2
          cases hq
          obtain ⟨c, s, hr⟩ := hr
          refine ⟨c + 1, s + n.toNatClampNeg, rm_Runs.cpy (i := (.invokestatic idx, 3, [2, 4])) (k := (.ref (21 + h.length) :: st, h ++ [rm_cpA 4 n.toNatClampNeg m f], n.toNatClampNeg)) hi rfl rfl rfl rfl ?_ (by omega) (by show n.toNatClampNeg ≤ s + n.toNatClampNeg; omega) (by omega) (by omega) ?_⟩
          · show (if _ then _ else none) = _
            rw [if_pos ⟨rfl, hR, hc.1, hc.2.1, hc.2.2, rfl⟩]
            show (match h[a - 21]? with
              | some (.inl (t2, m, .inr (.inr (.inr (.inr f))))) => _
              | _ => none) = _
            rw [hk]
            exact if_pos hc2
          · rw [Nat.add_sub_cancel, Nat.add_sub_cancel]
            exact hr
        · cases hq
      · cases hq
    · cases hq
  · cases hq
end DQG
def b106_20 (L : Nat) (xs : Nat → Int32) (zf : Value) (D : dD) (w : Nat) (o0 : Option Nat) (i1 : Int32) (i2 : Int32) (h : rm_H) : Option dR :=
  ((D 17 [.int i2, .int (i1 - i2), .int (i2 >>> ((1 : Int32) &&& 31))] h).bind dxI).bind fun x1 =>
  (dgR L xs x1.2 0 [5] o0).bind fun p9 =>
  (dcpR L xs x1.2 p9 x1.1).bind fun h11 =>
  (dpF h11 0 [5] o0 (va_rf (some (21 + List.length x1.2)))).bind fun h13 =>
  some (some (va_rf (some (21 + List.length x1.2))), h13)
theorem c106_20 {L : Nat} {xs : Nat → Int32} {zf : Value} {D : dD} {w k : Nat} (hD : dO L xs zf D k) (hz : zf.category = 1) : ∀ (o0 : Option Nat) (i1 : Int32) (i2 : Int32) (lv : rm_L) (h : rm_H) (r : dR), rm_get lv 0 = some (va_rf o0) → rm_get lv 1 = some (.int i1) → rm_get lv 2 = some (.int i2) → b106_20 L xs zf D w  o0 i1 i2 h = some r → dq L xs zf ah_M106 20 lv [] h (k + 1) r := by
  intro o0 i1 i2 lv h r G0 G1 G2 hh
  unfold b106_20 at hh
  refine dq_iln 2 21 (by decide +kernel) rfl G2 ?_
  refine dq_iln 1 22 (by decide +kernel) rfl G1 ?_
  refine dq_iln 2 23 (by decide +kernel) rfl G2 ?_
  refine dq_S (.isub) 1 [] 24 _ [.int (i1 - i2), .int i2] (by decide +kernel) rfl ?_
  refine dq_iln 2 25 (by decide +kernel) rfl G2 ?_
  refine dq_S (.iconst 1) 1 [] 26 _ [.int 1, .int i2, .int (i1 - i2), .int i2] (by decide +kernel) rfl ?_
  refine dq_S (.ishr) 1 [] 27 _ [.int (i2 >>> ((1 : Int32) &&& 31)), .int (i1 - i2), .int i2] (by decide +kernel) rfl ?_
  obtain ⟨x1, q2, hh⟩ := db hh
  obtain ⟨a3, q4, q2⟩ := db q2
  rw [dq_xI q2] at q4
  refine dq_cst hD 73 17 0 3 [.int i2, .int (i1 - i2), .int (i2 >>> ((1 : Int32) &&& 31))] [] 30 [.int x1.1] (by decide +kernel) ap_17 ⟨⟨Nat.le_of_ble_eq_true rfl, by decide⟩, rfl, rfl⟩ (dq_ok8 [1, 1, 1] [] (dc_i (dc_i (dc_i dc_n))) dc_n (by decide +kernel)) (by decide +kernel) rfl q4 rfl ?_
  refine dq_isn 3 31 (by decide +kernel) (by decide +kernel) ?_
  have g5 := dg_ne (i := 3) (u := .int x1.1) (by decide) (Or.inl (by decide)) G0
  have g6 := dg_ne (i := 3) (u := .int x1.1) (by decide) (Or.inl (by decide)) G1
  have g7 := dg_ne (i := 3) (u := .int x1.1) (by decide) (Or.inr rfl) G2
  have g8 := dg_eq (lv) 3 (.int x1.1)
  refine dq_aln 0 32 (by decide +kernel) rfl g5 ?_
  refine dq_aln 0 33 (by decide +kernel) rfl g5 ?_
  obtain ⟨p9, q10, hh⟩ := db hh
  refine dq_gR 9 0 [5] 36 (by decide +kernel) rfl q10 ?_
  refine dq_iln 3 37 (by decide +kernel) rfl g8 ?_
  obtain ⟨h11, q12, hh⟩ := db hh
  refine dq_cpR 66 40 (by decide +kernel) (dc_s (dc_r dc_n) (by decide +kernel)) rfl q12 ?_
  refine dq_dxR 41 (by decide +kernel) rfl ?_
  obtain ⟨h13, q14, hh⟩ := db hh
  refine dq_put 9 0 [5] 44 (by decide +kernel) rfl q14 ?_
  cases hh
  exact dq_retR (by decide +kernel) rfl
def b106_0 (L : Nat) (xs : Nat → Int32) (zf : Value) (D : dD) (w : Nat) (o0 : Option Nat) (i1 : Int32) (h : rm_H) : Option dR :=
  (dgR L xs h 0 [5] o0).bind fun p1 =>
  (daN L xs h p1).bind fun x3 =>
  if mx_f1 .gt x3 = true then
    b106_20 L xs zf D w o0 i1 x3 h
  else
    (dgR L xs h 0 [5] o0).bind fun p9 =>
    if dcm p9 (some 5) = true then
      if dsm p9 (some 5) = true then
        ((D 18 [.int 10, .int i1] h).bind dxI).bind fun x13 =>
        (dnR 4 x13.1 x13.2).bind fun h17 =>
        (dpF h17 0 [5] o0 (va_rf (some (21 + List.length x13.2)))).bind fun h19 =>
        some (some (va_rf (some (21 + List.length x13.2))), h19)
      else
        b106_20 L xs zf D w o0 i1 x3 h
    else
      none
theorem c106_0 {L : Nat} {xs : Nat → Int32} {zf : Value} {D : dD} {w k : Nat} (hD : dO L xs zf D k) (hz : zf.category = 1) : ∀ (o0 : Option Nat) (i1 : Int32) (lv : rm_L) (h : rm_H) (r : dR), rm_get lv 0 = some (va_rf o0) → rm_get lv 1 = some (.int i1) → b106_0 L xs zf D w  o0 i1 h = some r → dq L xs zf ah_M106 0 lv [] h (k + 1) r := by
  intro o0 i1 lv h r G0 G1 hh
  unfold b106_0 at hh
  refine dq_aln 0 1 (by decide +kernel) rfl G0 ?_
  obtain ⟨p1, q2, hh⟩ := db hh
  refine dq_gR 9 0 [5] 4 (by decide +kernel) rfl q2 ?_
  obtain ⟨x3, q4, hh⟩ := db hh
  refine dq_aN 5 (by decide +kernel) rfl q4 ?_
  refine dq_isn 2 6 (by decide +kernel) (by decide +kernel) ?_
  have g5 := dg_ne (i := 2) (u := .int x3) (by decide) (Or.inl (by decide)) G0
  have g6 := dg_ne (i := 2) (u := .int x3) (by decide) (Or.inr rfl) G1
  have g7 := dg_eq (lv) 2 (.int x3)
  refine dq_iln 2 7 (by decide +kernel) rfl g7 ?_
  rcases di hh with ⟨q8, hh⟩ | ⟨q8, hh⟩
  · refine dq_1 .gt 13 true 20 q8 (by decide +kernel) ?_
    exact c106_20 hD hz _ _ _ _ _ _ g5 g6 g7 hh
  · refine dq_1 .gt 13 false 10 q8 (by decide +kernel) ?_
    refine dq_aln 0 11 (by decide +kernel) rfl g5 ?_
    obtain ⟨p9, q10, hh⟩ := db hh
    refine dq_gR 9 0 [5] 14 (by decide +kernel) rfl q10 ?_
    refine dq_S (.getstatic 39) 3 [5] 17 _ [va_rf (some 5), va_rf p9] (by decide +kernel) rfl ?_
    rcases di hh with ⟨q12, hh⟩ | ⟨_, hh⟩
    rotate_left
    · cases hh
    rcases di hh with ⟨q11, hh⟩ | ⟨q11, hh⟩
    · refine dq_acmp .eq 28 true 45 q12 q11 (by decide +kernel) (by decide +kernel) ?_
      refine dq_aln 0 46 (by decide +kernel) rfl g5 ?_
      refine dq_S (.bipush 10) 2 [] 48 _ [.int 10, va_rf o0] (by decide +kernel) rfl ?_
      refine dq_iln 1 49 (by decide +kernel) rfl g6 ?_
      obtain ⟨x13, q14, hh⟩ := db hh
      obtain ⟨a15, q16, q14⟩ := db q14
      rw [dq_xI q14] at q16
      refine dq_cst hD 79 18 0 2 [.int 10, .int i1] [va_rf o0] 52 [.int x13.1, va_rf o0] (by decide +kernel) ap_18 ⟨⟨Nat.le_of_ble_eq_true rfl, by decide⟩, rfl, rfl⟩ (dq_ok8 [1, 1] [1] (dc_i (dc_i dc_n)) (dc_r dc_n) (by decide +kernel)) (by decide +kernel) rfl q16 rfl ?_
      obtain ⟨h17, q18, hh⟩ := db hh
      refine dq_nR 7 4 55 (by decide +kernel) rfl q18 ?_
      refine dq_dxR 56 (by decide +kernel) rfl ?_
      obtain ⟨h19, q20, hh⟩ := db hh
      refine dq_put 9 0 [5] 59 (by decide +kernel) rfl q20 ?_
      cases hh
      exact dq_retR (by decide +kernel) rfl
    · refine dq_acmp .eq 28 false 20 q12 q11 (by decide +kernel) (by decide +kernel) ?_
      exact c106_20 hD hz _ _ _ _ _ _ g5 g6 g7 hh
def f106 (L : Nat) (xs : Nat → Int32) (zf : Value) (D : dD) (w : Nat) (As : List Value) (h : rm_H) : Option dR := match As with
  | [v0, .int i1] => (rm_rf v0).bind fun o0 => b106_0 L xs zf D w o0 i1 h
  | _ => none
theorem d106 {L : Nat} {xs : Nat → Int32} {zf : Value} {D : dD} {w k : Nat} (hD : dO L xs zf D k) (hz : zf.category = 1) (As : List Value) (h : rm_H) (r : dR) (hh : f106 L xs zf D w As h = some r) : dq L xs zf ah_M106 0 (lv_args 0 As) [] h (k + 1) r := by
  unfold f106 at hh
  split at hh
  · obtain ⟨o0, e0, hb0⟩ := db hh
    have e0 := rm_rf_v _ _ e0
    subst e0
    refine c106_0 hD hz _ _ _ _ _ ?_ ?_ hb0
    all_goals (simp only [la_r, la_i, la_j]; rfl)
  · cases hh
