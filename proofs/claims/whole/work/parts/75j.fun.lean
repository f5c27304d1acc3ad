/-! METHODS AS FUNCTIONS, printed by wip/whole/gen_fun.py -/
def b289_27 (L : Nat) (xs : Nat → Int32) (zf : Value) (D : dD) (w : Nat) (h : rm_H) : Option dR :=
  drI (some .int) (-1) h
theorem c289_27 {L : Nat} {xs : Nat → Int32} {zf : Value} {D : dD} {w k : Nat} (hD : dO L xs zf D k) (hz : zf.category = 1) : ∀ (lv : rm_L) (h : rm_H) (r : dR), b289_27 L xs zf D w  h = some r → dq L xs zf ah_M289 27 lv [] h (k + 1) r := by
  intro lv h r hh
  unfold b289_27 at hh
  refine dq_S (.iconst (-1)) 1 [] 28 _ [.int (-1)] (by decide +kernel) rfl ?_
  exact dq_retI (some .int) (by decide +kernel) rfl hh
def b289_46 (L : Nat) (xs : Nat → Int32) (zf : Value) (D : dD) (w : Nat) (s0 : Int32) (h : rm_H) : Option dR :=
  drI (some .int) s0 h
theorem c289_46 {L : Nat} {xs : Nat → Int32} {zf : Value} {D : dD} {w k : Nat} (hD : dO L xs zf D k) (hz : zf.category = 1) : ∀ (s0 : Int32) (lv : rm_L) (h : rm_H) (r : dR), b289_46 L xs zf D w  s0 h = some r → dq L xs zf ah_M289 46 lv [.int s0] h (k + 1) r := by
  intro s0 lv h r hh
  unfold b289_46 at hh
  exact dq_retI (some .int) (by decide +kernel) rfl hh
def b289_84 (L : Nat) (xs : Nat → Int32) (zf : Value) (D : dD) (w : Nat) (s0 : Int32) (h : rm_H) : Option dR :=
  drI (some .int) s0 h
theorem c289_84 {L : Nat} {xs : Nat → Int32} {zf : Value} {D : dD} {w k : Nat} (hD : dO L xs zf D k) (hz : zf.category = 1) : ∀ (s0 : Int32) (lv : rm_L) (h : rm_H) (r : dR), b289_84 L xs zf D w  s0 h = some r → dq L xs zf ah_M289 84 lv [.int s0] h (k + 1) r := by
  intro s0 lv h r hh
  unfold b289_84 at hh
  exact dq_retI (some .int) (by decide +kernel) rfl hh
def b289_0 (L : Nat) (xs : Nat → Int32) (zf : Value) (D : dD) (w : Nat) (i1 : Int32) (i2 : Int32) (i3 : Int32) (h : rm_H) : Option dR :=
  if mx_f1 .lt i1 = true then
    b289_27 L xs zf D w h
  else
    if mx_f2 .gt i1 3 = true then
      b289_27 L xs zf D w h
    else
      if mx_f1 .lt i2 = true then
        b289_27 L xs zf D w h
      else
        if mx_f2 .gt i2 4 = true then
          b289_27 L xs zf D w h
        else
          if mx_f1 .lt i3 = true then
            b289_27 L xs zf D w h
          else
            if mx_f2 .le i3 4 = true then
              if mx_f1 .ne i1 = true then
                if mx_f2 .ne i1 1 = true then
                  if mx_f2 .ne i1 2 = true then
                    ((D 293 [.int i2, .int i3] h).bind dxI).bind fun x10 =>
                    if mx_f1 .eq x10.1 = true then
                      b289_84 L xs zf D w 0 x10.2
                    else
                      b289_84 L xs zf D w 1 x10.2
                  else
                    ((D 292 [.int i2, .int i3] h).bind dxI).bind fun x15 =>
                    b289_84 L xs zf D w x15.1 x15.2
                else
                  ((D 291 [.int i2, .int i3] h).bind dxI).bind fun x19 =>
                  drI (some .int) x19.1 x19.2
              else
                ((D 290 [.int i2, .int i3] h).bind dxI).bind fun x23 =>
                if mx_f1 .eq x23.1 = true then
                  b289_46 L xs zf D w 0 x23.2
                else
                  b289_46 L xs zf D w 1 x23.2
            else
              b289_27 L xs zf D w h
theorem c289_0 {L : Nat} {xs : Nat → Int32} {zf : Value} {D : dD} {w k : Nat} (hD : dO L xs zf D k) (hz : zf.category = 1) : ∀ (i1 : Int32) (i2 : Int32) (i3 : Int32) (lv : rm_L) (h : rm_H) (r : dR), rm_get lv 1 = some (.int i1) → rm_get lv 2 = some (.int i2) → rm_get lv 3 = some (.int i3) → b289_0 L xs zf D w  i1 i2 i3 h = some r → dq L xs zf ah_M289 0 lv [] h (k + 1) r := by
  intro i1 i2 i3 lv h r G1 G2 G3 hh
  unfold b289_0 at hh
  refine dq_iln 1 1 (by decide +kernel) rfl G1 ?_
  rcases di hh with ⟨q1, hh⟩ | ⟨q1, hh⟩
  · refine dq_1 .lt 26 true 27 q1 (by decide +kernel) ?_
    exact c289_27 hD hz  _ _ _  hh
  · refine dq_1 .lt 26 false 4 q1 (by decide +kernel) ?_
    refine dq_iln 1 5 (by decide +kernel) rfl G1 ?_
    refine dq_S (.iconst 3) 1 [] 6 _ [.int 3, .int i1] (by decide +kernel) rfl ?_
    rcases di hh with ⟨q2, hh⟩ | ⟨q2, hh⟩
    · refine dq_2 .gt 21 true 27 q2 (by decide +kernel) ?_
      exact c289_27 hD hz  _ _ _  hh
    · refine dq_2 .gt 21 false 9 q2 (by decide +kernel) ?_
      refine dq_iln 2 10 (by decide +kernel) rfl G2 ?_
      rcases di hh with ⟨q3, hh⟩ | ⟨q3, hh⟩
      · refine dq_1 .lt 17 true 27 q3 (by decide +kernel) ?_
        exact c289_27 hD hz  _ _ _  hh
      · refine dq_1 .lt 17 false 13 q3 (by decide +kernel) ?_
        refine dq_iln 2 14 (by decide +kernel) rfl G2 ?_
        refine dq_S (.iconst 4) 1 [] 15 _ [.int 4, .int i2] (by decide +kernel) rfl ?_
        rcases di hh with ⟨q4, hh⟩ | ⟨q4, hh⟩
        · refine dq_2 .gt 12 true 27 q4 (by decide +kernel) ?_
          exact c289_27 hD hz  _ _ _  hh
        · refine dq_2 .gt 12 false 18 q4 (by decide +kernel) ?_
          refine dq_iln 3 19 (by decide +kernel) rfl G3 ?_
          rcases di hh with ⟨q5, hh⟩ | ⟨q5, hh⟩
          · refine dq_1 .lt 8 true 27 q5 (by decide +kernel) ?_
            exact c289_27 hD hz  _ _ _  hh
          · refine dq_1 .lt 8 false 22 q5 (by decide +kernel) ?_
            refine dq_iln 3 23 (by decide +kernel) rfl G3 ?_
            refine dq_S (.iconst 4) 1 [] 24 _ [.int 4, .int i3] (by decide +kernel) rfl ?_
            rcases di hh with ⟨q6, hh⟩ | ⟨q6, hh⟩
            · refine dq_2 .le 5 true 29 q6 (by decide +kernel) ?_
              refine dq_iln 1 30 (by decide +kernel) rfl G1 ?_
              rcases di hh with ⟨q7, hh⟩ | ⟨q7, hh⟩
              · refine dq_1 .ne 17 true 47 q7 (by decide +kernel) ?_
                refine dq_iln 1 48 (by decide +kernel) rfl G1 ?_
                refine dq_S (.iconst 1) 1 [] 49 _ [.int 1, .int i1] (by decide +kernel) rfl ?_
                rcases di hh with ⟨q8, hh⟩ | ⟨q8, hh⟩
                · refine dq_2 .ne 9 true 58 q8 (by decide +kernel) ?_
                  refine dq_iln 1 59 (by decide +kernel) rfl G1 ?_
                  refine dq_S (.iconst 2) 1 [] 60 _ [.int 2, .int i1] (by decide +kernel) rfl ?_
                  rcases di hh with ⟨q9, hh⟩ | ⟨q9, hh⟩
                  · refine dq_2 .ne 11 true 71 q9 (by decide +kernel) ?_
                    refine dq_iln 2 72 (by decide +kernel) rfl G2 ?_
                    refine dq_iln 3 73 (by decide +kernel) rfl G3 ?_
                    obtain ⟨x10, q11, hh⟩ := db hh
                    obtain ⟨a12, q13, q11⟩ := db q11
                    rw [dq_xI q11] at q13
                    refine dq_cst hD 431 293 0 2 [.int i2, .int i3] [] 76 [.int x10.1] (by decide +kernel) ap_293 ⟨⟨Nat.le_of_ble_eq_true rfl, by decide⟩, rfl, rfl⟩ (dq_ok8 [1, 1] [] (dc_i (dc_i dc_n)) dc_n (by decide +kernel)) (by decide +kernel) rfl q13 rfl ?_
                    rcases di hh with ⟨q14, hh⟩ | ⟨q14, hh⟩
                    · refine dq_1 .eq 7 true 83 q14 (by decide +kernel) ?_
                      refine dq_S (.iconst 0) 1 [] 84 _ [.int 0] (by decide +kernel) rfl ?_
                      exact c289_84 hD hz _ _ _ _  hh
                    · refine dq_1 .eq 7 false 79 q14 (by decide +kernel) ?_
                      refine dq_S (.iconst 1) 1 [] 80 _ [.int 1] (by decide +kernel) rfl ?_
                      refine dq_S (.goto 4) 3 [] 84 _ [.int 1] (by decide +kernel) rfl ?_
                      exact c289_84 hD hz _ _ _ _  hh
                  · refine dq_2 .ne 11 false 63 q9 (by decide +kernel) ?_
                    refine dq_iln 2 64 (by decide +kernel) rfl G2 ?_
                    refine dq_iln 3 65 (by decide +kernel) rfl G3 ?_
                    obtain ⟨x15, q16, hh⟩ := db hh
                    obtain ⟨a17, q18, q16⟩ := db q16
                    rw [dq_xI q16] at q18
                    refine dq_cst hD 428 292 0 2 [.int i2, .int i3] [] 68 [.int x15.1] (by decide +kernel) ap_292 ⟨⟨Nat.le_of_ble_eq_true rfl, by decide⟩, rfl, rfl⟩ (dq_ok8 [1, 1] [] (dc_i (dc_i dc_n)) dc_n (by decide +kernel)) (by decide +kernel) rfl q18 rfl ?_
                    refine dq_S (.goto 16) 3 [] 84 _ [.int x15.1] (by decide +kernel) rfl ?_
                    exact c289_84 hD hz _ _ _ _  hh
                · refine dq_2 .ne 9 false 52 q8 (by decide +kernel) ?_
                  refine dq_iln 2 53 (by decide +kernel) rfl G2 ?_
                  refine dq_iln 3 54 (by decide +kernel) rfl G3 ?_
                  obtain ⟨x19, q20, hh⟩ := db hh
                  obtain ⟨a21, q22, q20⟩ := db q20
                  rw [dq_xI q20] at q22
                  refine dq_cst hD 425 291 0 2 [.int i2, .int i3] [] 57 [.int x19.1] (by decide +kernel) ap_291 ⟨⟨Nat.le_of_ble_eq_true rfl, by decide⟩, rfl, rfl⟩ (dq_ok8 [1, 1] [] (dc_i (dc_i dc_n)) dc_n (by decide +kernel)) (by decide +kernel) rfl q22 rfl ?_
                  exact dq_retI (some .int) (by decide +kernel) rfl hh
              · refine dq_1 .ne 17 false 33 q7 (by decide +kernel) ?_
                refine dq_iln 2 34 (by decide +kernel) rfl G2 ?_
                refine dq_iln 3 35 (by decide +kernel) rfl G3 ?_
                obtain ⟨x23, q24, hh⟩ := db hh
                obtain ⟨a25, q26, q24⟩ := db q24
                rw [dq_xI q24] at q26
                refine dq_cst hD 421 290 0 2 [.int i2, .int i3] [] 38 [.int x23.1] (by decide +kernel) ap_290 ⟨⟨Nat.le_of_ble_eq_true rfl, by decide⟩, rfl, rfl⟩ (dq_ok8 [1, 1] [] (dc_i (dc_i dc_n)) dc_n (by decide +kernel)) (by decide +kernel) rfl q26 rfl ?_
                rcases di hh with ⟨q27, hh⟩ | ⟨q27, hh⟩
                · refine dq_1 .eq 7 true 45 q27 (by decide +kernel) ?_
                  refine dq_S (.iconst 0) 1 [] 46 _ [.int 0] (by decide +kernel) rfl ?_
                  exact c289_46 hD hz _ _ _ _  hh
                · refine dq_1 .eq 7 false 41 q27 (by decide +kernel) ?_
                  refine dq_S (.iconst 1) 1 [] 42 _ [.int 1] (by decide +kernel) rfl ?_
                  refine dq_S (.goto 4) 3 [] 46 _ [.int 1] (by decide +kernel) rfl ?_
                  exact c289_46 hD hz _ _ _ _  hh
            · refine dq_2 .le 5 false 27 q6 (by decide +kernel) ?_
              exact c289_27 hD hz  _ _ _  hh
def f289 (L : Nat) (xs : Nat → Int32) (zf : Value) (D : dD) (w : Nat) (As : List Value) (h : rm_H) : Option dR := match As with
  | [v0, .int i1, .int i2, .int i3] => (rm_rf v0).bind fun u0 => b289_0 L xs zf D w i1 i2 i3 h
  | _ => none
theorem d289 {L : Nat} {xs : Nat → Int32} {zf : Value} {D : dD} {w k : Nat} (hD : dO L xs zf D k) (hz : zf.category = 1) (As : List Value) (h : rm_H) (r : dR) (hh : f289 L xs zf D w As h = some r) : dq L xs zf ah_M289 0 (lv_args 0 As) [] h (k + 1) r := by
  unfold f289 at hh
  split at hh
  · obtain ⟨u0, e0, hb0⟩ := db hh
    have e0 := rm_rf_v _ _ e0
    subst e0
    refine c289_0 hD hz _ _ _ _ _ _ ?_ ?_ ?_ hb0
    all_goals (simp only [la_r, la_i, la_j]; rfl)
  · cases hh
def b290_43 (L : Nat) (xs : Nat → Int32) (zf : Value) (D : dD) (w : Nat) (s0 : Int32) (h : rm_H) : Option dR :=
  drI (some .boolean) s0 h
theorem c290_43 {L : Nat} {xs : Nat → Int32} {zf : Value} {D : dD} {w k : Nat} (hD : dO L xs zf D k) (hz : zf.category = 1) : ∀ (s0 : Int32) (lv : rm_L) (h : rm_H) (r : dR), b290_43 L xs zf D w  s0 h = some r → dq L xs zf ah_M290 43 lv [.int s0] h (k + 1) r := by
  intro s0 lv h r hh
  unfold b290_43 at hh
  exact dq_retI (some .boolean) (by decide +kernel) rfl hh
def b290_59 (L : Nat) (xs : Nat → Int32) (zf : Value) (D : dD) (w : Nat) (s0 : Int32) (h : rm_H) : Option dR :=
  drI (some .boolean) s0 h
theorem c290_59 {L : Nat} {xs : Nat → Int32} {zf : Value} {D : dD} {w k : Nat} (hD : dO L xs zf D k) (hz : zf.category = 1) : ∀ (s0 : Int32) (lv : rm_L) (h : rm_H) (r : dR), b290_59 L xs zf D w  s0 h = some r → dq L xs zf ah_M290 59 lv [.int s0] h (k + 1) r := by
  intro s0 lv h r hh
  unfold b290_59 at hh
  exact dq_retI (some .boolean) (by decide +kernel) rfl hh
def b290_54 (L : Nat) (xs : Nat → Int32) (zf : Value) (D : dD) (w : Nat) (h : rm_H) : Option dR :=
  b290_59 L xs zf D w 1 h
theorem c290_54 {L : Nat} {xs : Nat → Int32} {zf : Value} {D : dD} {w k : Nat} (hD : dO L xs zf D k) (hz : zf.category = 1) : ∀ (lv : rm_L) (h : rm_H) (r : dR), b290_54 L xs zf D w  h = some r → dq L xs zf ah_M290 54 lv [] h (k + 1) r := by
  intro lv h r hh
  unfold b290_54 at hh
  refine dq_S (.iconst 1) 1 [] 55 _ [.int 1] (by decide +kernel) rfl ?_
  refine dq_S (.goto 4) 3 [] 59 _ [.int 1] (by decide +kernel) rfl ?_
  exact c290_59 hD hz _ _ _ _  hh
def b290_75 (L : Nat) (xs : Nat → Int32) (zf : Value) (D : dD) (w : Nat) (s0 : Int32) (h : rm_H) : Option dR :=
  drI (some .boolean) s0 h
theorem c290_75 {L : Nat} {xs : Nat → Int32} {zf : Value} {D : dD} {w k : Nat} (hD : dO L xs zf D k) (hz : zf.category = 1) : ∀ (s0 : Int32) (lv : rm_L) (h : rm_H) (r : dR), b290_75 L xs zf D w  s0 h = some r → dq L xs zf ah_M290 75 lv [.int s0] h (k + 1) r := by
  intro s0 lv h r hh
  unfold b290_75 at hh
  exact dq_retI (some .boolean) (by decide +kernel) rfl hh
def b290_70 (L : Nat) (xs : Nat → Int32) (zf : Value) (D : dD) (w : Nat) (h : rm_H) : Option dR :=
  b290_75 L xs zf D w 1 h
theorem c290_70 {L : Nat} {xs : Nat → Int32} {zf : Value} {D : dD} {w k : Nat} (hD : dO L xs zf D k) (hz : zf.category = 1) : ∀ (lv : rm_L) (h : rm_H) (r : dR), b290_70 L xs zf D w  h = some r → dq L xs zf ah_M290 70 lv [] h (k + 1) r := by
  intro lv h r hh
  unfold b290_70 at hh
  refine dq_S (.iconst 1) 1 [] 71 _ [.int 1] (by decide +kernel) rfl ?_
  refine dq_S (.goto 4) 3 [] 75 _ [.int 1] (by decide +kernel) rfl ?_
  exact c290_75 hD hz _ _ _ _  hh
def b290_86 (L : Nat) (xs : Nat → Int32) (zf : Value) (D : dD) (w : Nat) (s0 : Int32) (h : rm_H) : Option dR :=
  drI (some .boolean) s0 h
theorem c290_86 {L : Nat} {xs : Nat → Int32} {zf : Value} {D : dD} {w k : Nat} (hD : dO L xs zf D k) (hz : zf.category = 1) : ∀ (s0 : Int32) (lv : rm_L) (h : rm_H) (r : dR), b290_86 L xs zf D w  s0 h = some r → dq L xs zf ah_M290 86 lv [.int s0] h (k + 1) r := by
  intro s0 lv h r hh
  unfold b290_86 at hh
  exact dq_retI (some .boolean) (by decide +kernel) rfl hh
def b290_0 (L : Nat) (xs : Nat → Int32) (zf : Value) (D : dD) (w : Nat) (i0 : Int32) (i1 : Int32) (h : rm_H) : Option dR :=
  if dsw 0 3 i0 = true then
    if mx_f2 .ne i1 4 = true then
      b290_86 L xs zf D w 0 h
    else
      b290_86 L xs zf D w 1 h
  else if i0 = 0 then
    drI (some .boolean) 1 h
  else if i0 = 1 then
    if mx_f1 .eq i1 = true then
      b290_43 L xs zf D w 0 h
    else
      b290_43 L xs zf D w 1 h
  else if i0 = 2 then
    if mx_f2 .eq i1 2 = true then
      b290_54 L xs zf D w h
    else
      if mx_f2 .ne i1 4 = true then
        b290_59 L xs zf D w 0 h
      else
        b290_54 L xs zf D w h
  else if i0 = 3 then
    if mx_f2 .eq i1 3 = true then
      b290_70 L xs zf D w h
    else
      if mx_f2 .ne i1 4 = true then
        b290_75 L xs zf D w 0 h
      else
        b290_70 L xs zf D w h
  else none
theorem c290_0 {L : Nat} {xs : Nat → Int32} {zf : Value} {D : dD} {w k : Nat} (hD : dO L xs zf D k) (hz : zf.category = 1) : ∀ (i0 : Int32) (i1 : Int32) (lv : rm_L) (h : rm_H) (r : dR), rm_get lv 0 = some (.int i0) → rm_get lv 1 = some (.int i1) → b290_0 L xs zf D w  i0 i1 h = some r → dq L xs zf ah_M290 0 lv [] h (k + 1) r := by
  intro i0 i1 lv h r G0 G1 hh
  unfold b290_0 at hh
  refine dq_iln 0 1 (by decide +kernel) rfl G0 ?_
  rcases di hh with ⟨q1, hh⟩ | ⟨_, hh⟩
  · refine dq_sd 75 0 3 #[31, 33, 43, 59] 31 76 (by decide +kernel) (by decide +kernel) q1 ?_
    refine dq_iln 1 77 (by decide +kernel) rfl G1 ?_
    refine dq_S (.iconst 4) 1 [] 78 _ [.int 4, .int i1] (by decide +kernel) rfl ?_
    rcases di hh with ⟨q2, hh⟩ | ⟨q2, hh⟩
    · refine dq_2 .ne 7 true 85 q2 (by decide +kernel) ?_
      refine dq_S (.iconst 0) 1 [] 86 _ [.int 0] (by decide +kernel) rfl ?_
      exact c290_86 hD hz _ _ _ _  hh
    · refine dq_2 .ne 7 false 81 q2 (by decide +kernel) ?_
      refine dq_S (.iconst 1) 1 [] 82 _ [.int 1] (by decide +kernel) rfl ?_
      refine dq_S (.goto 4) 3 [] 86 _ [.int 1] (by decide +kernel) rfl ?_
      exact c290_86 hD hz _ _ _ _  hh
  rcases dp hh with ⟨q3, hh⟩ | ⟨_, hh⟩
  · refine dq_eq 0 q3 ?_
    refine dq_S (.tableswitch 75 0 3 #[31, 33, 43, 59]) 31 [] 32 _ [] (by decide +kernel) rfl ?_
    refine dq_S (.iconst 1) 1 [] 33 _ [.int 1] (by decide +kernel) rfl ?_
    exact dq_retI (some .boolean) (by decide +kernel) rfl hh
  rcases dp hh with ⟨q4, hh⟩ | ⟨_, hh⟩
  · refine dq_eq 1 q4 ?_
    refine dq_S (.tableswitch 75 0 3 #[31, 33, 43, 59]) 31 [] 34 _ [] (by decide +kernel) rfl ?_
    refine dq_iln 1 35 (by decide +kernel) rfl G1 ?_
    rcases di hh with ⟨q5, hh⟩ | ⟨q5, hh⟩
    · refine dq_1 .eq 7 true 42 q5 (by decide +kernel) ?_
      refine dq_S (.iconst 0) 1 [] 43 _ [.int 0] (by decide +kernel) rfl ?_
      exact c290_43 hD hz _ _ _ _  hh
    · refine dq_1 .eq 7 false 38 q5 (by decide +kernel) ?_
      refine dq_S (.iconst 1) 1 [] 39 _ [.int 1] (by decide +kernel) rfl ?_
      refine dq_S (.goto 4) 3 [] 43 _ [.int 1] (by decide +kernel) rfl ?_
      exact c290_43 hD hz _ _ _ _  hh
  rcases dp hh with ⟨q6, hh⟩ | ⟨_, hh⟩
  · refine dq_eq 2 q6 ?_
    refine dq_S (.tableswitch 75 0 3 #[31, 33, 43, 59]) 31 [] 44 _ [] (by decide +kernel) rfl ?_
    refine dq_iln 1 45 (by decide +kernel) rfl G1 ?_
    refine dq_S (.iconst 2) 1 [] 46 _ [.int 2, .int i1] (by decide +kernel) rfl ?_
    rcases di hh with ⟨q7, hh⟩ | ⟨q7, hh⟩
    · refine dq_2 .eq 8 true 54 q7 (by decide +kernel) ?_
      exact c290_54 hD hz  _ _ _  hh
    · refine dq_2 .eq 8 false 49 q7 (by decide +kernel) ?_
      refine dq_iln 1 50 (by decide +kernel) rfl G1 ?_
      refine dq_S (.iconst 4) 1 [] 51 _ [.int 4, .int i1] (by decide +kernel) rfl ?_
      rcases di hh with ⟨q8, hh⟩ | ⟨q8, hh⟩
      · refine dq_2 .ne 7 true 58 q8 (by decide +kernel) ?_
        refine dq_S (.iconst 0) 1 [] 59 _ [.int 0] (by decide +kernel) rfl ?_
        exact c290_59 hD hz _ _ _ _  hh
      · refine dq_2 .ne 7 false 54 q8 (by decide +kernel) ?_
        exact c290_54 hD hz  _ _ _  hh
  rcases dp hh with ⟨q9, hh⟩ | ⟨_, hh⟩
  · refine dq_eq 3 q9 ?_
    refine dq_S (.tableswitch 75 0 3 #[31, 33, 43, 59]) 31 [] 60 _ [] (by decide +kernel) rfl ?_
    refine dq_iln 1 61 (by decide +kernel) rfl G1 ?_
    refine dq_S (.iconst 3) 1 [] 62 _ [.int 3, .int i1] (by decide +kernel) rfl ?_
    rcases di hh with ⟨q10, hh⟩ | ⟨q10, hh⟩
    · refine dq_2 .eq 8 true 70 q10 (by decide +kernel) ?_
      exact c290_70 hD hz  _ _ _  hh
    · refine dq_2 .eq 8 false 65 q10 (by decide +kernel) ?_
      refine dq_iln 1 66 (by decide +kernel) rfl G1 ?_
      refine dq_S (.iconst 4) 1 [] 67 _ [.int 4, .int i1] (by decide +kernel) rfl ?_
      rcases di hh with ⟨q11, hh⟩ | ⟨q11, hh⟩
      · refine dq_2 .ne 7 true 74 q11 (by decide +kernel) ?_
        refine dq_S (.iconst 0) 1 [] 75 _ [.int 0] (by decide +kernel) rfl ?_
        exact c290_75 hD hz _ _ _ _  hh
      · refine dq_2 .ne 7 false 70 q11 (by decide +kernel) ?_
        exact c290_70 hD hz  _ _ _  hh
  cases hh
def f290 (L : Nat) (xs : Nat → Int32) (zf : Value) (D : dD) (w : Nat) (As : List Value) (h : rm_H) : Option dR := match As with
  | [.int i0, .int i1] => b290_0 L xs zf D w i0 i1 h
  | _ => none
theorem d290 {L : Nat} {xs : Nat → Int32} {zf : Value} {D : dD} {w k : Nat} (hD : dO L xs zf D k) (hz : zf.category = 1) (As : List Value) (h : rm_H) (r : dR) (hh : f290 L xs zf D w As h = some r) : dq L xs zf ah_M290 0 (lv_args 0 As) [] h (k + 1) r := by
  unfold f290 at hh
  split at hh
  · refine c290_0 hD hz _ _ _ _ _ ?_ ?_ hh
    all_goals (simp only [la_r, la_i, la_j]; rfl)
  · cases hh
def b291_17 (L : Nat) (xs : Nat → Int32) (zf : Value) (D : dD) (w : Nat) (h : rm_H) : Option dR :=
  drI (some .int) 3 h
theorem c291_17 {L : Nat} {xs : Nat → Int32} {zf : Value} {D : dD} {w k : Nat} (hD : dO L xs zf D k) (hz : zf.category = 1) : ∀ (lv : rm_L) (h : rm_H) (r : dR), b291_17 L xs zf D w  h = some r → dq L xs zf ah_M291 17 lv [] h (k + 1) r := by
  intro lv h r hh
  unfold b291_17 at hh
  refine dq_S (.iconst 3) 1 [] 18 _ [.int 3] (by decide +kernel) rfl ?_
  exact dq_retI (some .int) (by decide +kernel) rfl hh
def b291_33 (L : Nat) (xs : Nat → Int32) (zf : Value) (D : dD) (w : Nat) (s0 : Int32) (h : rm_H) : Option dR :=
  drI (some .int) s0 h
theorem c291_33 {L : Nat} {xs : Nat → Int32} {zf : Value} {D : dD} {w k : Nat} (hD : dO L xs zf D k) (hz : zf.category = 1) : ∀ (s0 : Int32) (lv : rm_L) (h : rm_H) (r : dR), b291_33 L xs zf D w  s0 h = some r → dq L xs zf ah_M291 33 lv [.int s0] h (k + 1) r := by
  intro s0 lv h r hh
  unfold b291_33 at hh
  exact dq_retI (some .int) (by decide +kernel) rfl hh
def b291_43 (L : Nat) (xs : Nat → Int32) (zf : Value) (D : dD) (w : Nat) (s0 : Int32) (h : rm_H) : Option dR :=
  drI (some .int) s0 h
theorem c291_43 {L : Nat} {xs : Nat → Int32} {zf : Value} {D : dD} {w k : Nat} (hD : dO L xs zf D k) (hz : zf.category = 1) : ∀ (s0 : Int32) (lv : rm_L) (h : rm_H) (r : dR), b291_43 L xs zf D w  s0 h = some r → dq L xs zf ah_M291 43 lv [.int s0] h (k + 1) r := by
  intro s0 lv h r hh
  unfold b291_43 at hh
  exact dq_retI (some .int) (by decide +kernel) rfl hh
def b291_0 (L : Nat) (xs : Nat → Int32) (zf : Value) (D : dD) (w : Nat) (i0 : Int32) (i1 : Int32) (h : rm_H) : Option dR :=
  if mx_f2 .ne i0 2 = true then
    if mx_f2 .eq i0 3 = true then
      b291_17 L xs zf D w h
    else
      if mx_f2 .ne i1 3 = true then
        if mx_f1 .ne i1 = true then
          if mx_f1 .ne i0 = true then
            b291_43 L xs zf D w 4 h
          else
            b291_43 L xs zf D w (-1) h
        else
          if mx_f2 .ne i0 4 = true then
            b291_33 L xs zf D w 0 h
          else
            b291_33 L xs zf D w (-1) h
      else
        b291_17 L xs zf D w h
  else
    drI (some .int) i1 h
theorem c291_0 {L : Nat} {xs : Nat → Int32} {zf : Value} {D : dD} {w k : Nat} (hD : dO L xs zf D k) (hz : zf.category = 1) : ∀ (i0 : Int32) (i1 : Int32) (lv : rm_L) (h : rm_H) (r : dR), rm_get lv 0 = some (.int i0) → rm_get lv 1 = some (.int i1) → b291_0 L xs zf D w  i0 i1 h = some r → dq L xs zf ah_M291 0 lv [] h (k + 1) r := by
  intro i0 i1 lv h r G0 G1 hh
  unfold b291_0 at hh
  refine dq_iln 0 1 (by decide +kernel) rfl G0 ?_
  refine dq_S (.iconst 2) 1 [] 2 _ [.int 2, .int i0] (by decide +kernel) rfl ?_
  rcases di hh with ⟨q1, hh⟩ | ⟨q1, hh⟩
  · refine dq_2 .ne 5 true 7 q1 (by decide +kernel) ?_
    refine dq_iln 0 8 (by decide +kernel) rfl G0 ?_
    refine dq_S (.iconst 3) 1 [] 9 _ [.int 3, .int i0] (by decide +kernel) rfl ?_
    rcases di hh with ⟨q2, hh⟩ | ⟨q2, hh⟩
    · refine dq_2 .eq 8 true 17 q2 (by decide +kernel) ?_
      exact c291_17 hD hz  _ _ _  hh
    · refine dq_2 .eq 8 false 12 q2 (by decide +kernel) ?_
      refine dq_iln 1 13 (by decide +kernel) rfl G1 ?_
      refine dq_S (.iconst 3) 1 [] 14 _ [.int 3, .int i1] (by decide +kernel) rfl ?_
      rcases di hh with ⟨q3, hh⟩ | ⟨q3, hh⟩
      · refine dq_2 .ne 5 true 19 q3 (by decide +kernel) ?_
        refine dq_iln 1 20 (by decide +kernel) rfl G1 ?_
        rcases di hh with ⟨q4, hh⟩ | ⟨q4, hh⟩
        · refine dq_1 .ne 14 true 34 q4 (by decide +kernel) ?_
          refine dq_iln 0 35 (by decide +kernel) rfl G0 ?_
          rcases di hh with ⟨q5, hh⟩ | ⟨q5, hh⟩
          · refine dq_1 .ne 7 true 42 q5 (by decide +kernel) ?_
            refine dq_S (.iconst 4) 1 [] 43 _ [.int 4] (by decide +kernel) rfl ?_
            exact c291_43 hD hz _ _ _ _  hh
          · refine dq_1 .ne 7 false 38 q5 (by decide +kernel) ?_
            refine dq_S (.iconst (-1)) 1 [] 39 _ [.int (-1)] (by decide +kernel) rfl ?_
            refine dq_S (.goto 4) 3 [] 43 _ [.int (-1)] (by decide +kernel) rfl ?_
            exact c291_43 hD hz _ _ _ _  hh
        · refine dq_1 .ne 14 false 23 q4 (by decide +kernel) ?_
          refine dq_iln 0 24 (by decide +kernel) rfl G0 ?_
          refine dq_S (.iconst 4) 1 [] 25 _ [.int 4, .int i0] (by decide +kernel) rfl ?_
          rcases di hh with ⟨q6, hh⟩ | ⟨q6, hh⟩
          · refine dq_2 .ne 7 true 32 q6 (by decide +kernel) ?_
            refine dq_S (.iconst 0) 1 [] 33 _ [.int 0] (by decide +kernel) rfl ?_
            exact c291_33 hD hz _ _ _ _  hh
          · refine dq_2 .ne 7 false 28 q6 (by decide +kernel) ?_
            refine dq_S (.iconst (-1)) 1 [] 29 _ [.int (-1)] (by decide +kernel) rfl ?_
            refine dq_S (.goto 4) 3 [] 33 _ [.int (-1)] (by decide +kernel) rfl ?_
            exact c291_33 hD hz _ _ _ _  hh
      · refine dq_2 .ne 5 false 17 q3 (by decide +kernel) ?_
        exact c291_17 hD hz  _ _ _  hh
  · refine dq_2 .ne 5 false 5 q1 (by decide +kernel) ?_
    refine dq_iln 1 6 (by decide +kernel) rfl G1 ?_
    exact dq_retI (some .int) (by decide +kernel) rfl hh
def f291 (L : Nat) (xs : Nat → Int32) (zf : Value) (D : dD) (w : Nat) (As : List Value) (h : rm_H) : Option dR := match As with
  | [.int i0, .int i1] => b291_0 L xs zf D w i0 i1 h
  | _ => none
theorem d291 {L : Nat} {xs : Nat → Int32} {zf : Value} {D : dD} {w k : Nat} (hD : dO L xs zf D k) (hz : zf.category = 1) (As : List Value) (h : rm_H) (r : dR) (hh : f291 L xs zf D w As h = some r) : dq L xs zf ah_M291 0 (lv_args 0 As) [] h (k + 1) r := by
  unfold f291 at hh
  split at hh
  · refine c291_0 hD hz _ _ _ _ _ ?_ ?_ hh
    all_goals (simp only [la_r, la_i, la_j]; rfl)
  · cases hh
def b292_27 (L : Nat) (xs : Nat → Int32) (zf : Value) (D : dD) (w : Nat) (s0 : Int32) (h : rm_H) : Option dR :=
  drI (some .int) s0 h
theorem c292_27 {L : Nat} {xs : Nat → Int32} {zf : Value} {D : dD} {w k : Nat} (hD : dO L xs zf D k) (hz : zf.category = 1) : ∀ (s0 : Int32) (lv : rm_L) (h : rm_H) (r : dR), b292_27 L xs zf D w  s0 h = some r → dq L xs zf ah_M292 27 lv [.int s0] h (k + 1) r := by
  intro s0 lv h r hh
  unfold b292_27 at hh
  exact dq_retI (some .int) (by decide +kernel) rfl hh
def b292_22 (L : Nat) (xs : Nat → Int32) (zf : Value) (D : dD) (w : Nat) (h : rm_H) : Option dR :=
  b292_27 L xs zf D w 4 h
theorem c292_22 {L : Nat} {xs : Nat → Int32} {zf : Value} {D : dD} {w k : Nat} (hD : dO L xs zf D k) (hz : zf.category = 1) : ∀ (lv : rm_L) (h : rm_H) (r : dR), b292_22 L xs zf D w  h = some r → dq L xs zf ah_M292 22 lv [] h (k + 1) r := by
  intro lv h r hh
  unfold b292_22 at hh
  refine dq_S (.iconst 4) 1 [] 23 _ [.int 4] (by decide +kernel) rfl ?_
  refine dq_S (.goto 4) 3 [] 27 _ [.int 4] (by decide +kernel) rfl ?_
  exact c292_27 hD hz _ _ _ _  hh
def b292_46 (L : Nat) (xs : Nat → Int32) (zf : Value) (D : dD) (w : Nat) (s0 : Int32) (h : rm_H) : Option dR :=
  drI (some .int) s0 h
theorem c292_46 {L : Nat} {xs : Nat → Int32} {zf : Value} {D : dD} {w k : Nat} (hD : dO L xs zf D k) (hz : zf.category = 1) : ∀ (s0 : Int32) (lv : rm_L) (h : rm_H) (r : dR), b292_46 L xs zf D w  s0 h = some r → dq L xs zf ah_M292 46 lv [.int s0] h (k + 1) r := by
  intro s0 lv h r hh
  unfold b292_46 at hh
  exact dq_retI (some .int) (by decide +kernel) rfl hh
def b292_41 (L : Nat) (xs : Nat → Int32) (zf : Value) (D : dD) (w : Nat) (i1 : Int32) (h : rm_H) : Option dR :=
  b292_46 L xs zf D w i1 h
theorem c292_41 {L : Nat} {xs : Nat → Int32} {zf : Value} {D : dD} {w k : Nat} (hD : dO L xs zf D k) (hz : zf.category = 1) : ∀ (i1 : Int32) (lv : rm_L) (h : rm_H) (r : dR), rm_get lv 1 = some (.int i1) → b292_41 L xs zf D w  i1 h = some r → dq L xs zf ah_M292 41 lv [] h (k + 1) r := by
  intro i1 lv h r G1 hh
  unfold b292_41 at hh
  refine dq_iln 1 42 (by decide +kernel) rfl G1 ?_
  refine dq_S (.goto 4) 3 [] 46 _ [.int i1] (by decide +kernel) rfl ?_
  exact c292_46 hD hz _ _ _ _  hh
def b292_45 (L : Nat) (xs : Nat → Int32) (zf : Value) (D : dD) (w : Nat) (h : rm_H) : Option dR :=
  b292_46 L xs zf D w (-1) h
theorem c292_45 {L : Nat} {xs : Nat → Int32} {zf : Value} {D : dD} {w k : Nat} (hD : dO L xs zf D k) (hz : zf.category = 1) : ∀ (lv : rm_L) (h : rm_H) (r : dR), b292_45 L xs zf D w  h = some r → dq L xs zf ah_M292 45 lv [] h (k + 1) r := by
  intro lv h r hh
  unfold b292_45 at hh
  refine dq_S (.iconst (-1)) 1 [] 46 _ [.int (-1)] (by decide +kernel) rfl ?_
  exact c292_46 hD hz _ _ _ _  hh
def b292_0 (L : Nat) (xs : Nat → Int32) (zf : Value) (D : dD) (w : Nat) (i0 : Int32) (i1 : Int32) (h : rm_H) : Option dR :=
  if mx_f2 .ne i0 2 = true then
    if mx_f2 .ne i0 1 = true then
      if mx_f1 .ne i0 = true then
        b292_45 L xs zf D w h
      else
        if mx_f1 .eq i1 = true then
          b292_41 L xs zf D w i1 h
        else
          if mx_f2 .ne i1 3 = true then
            b292_45 L xs zf D w h
          else
            b292_41 L xs zf D w i1 h
    else
      if mx_f2 .eq i1 1 = true then
        b292_22 L xs zf D w h
      else
        if mx_f2 .ne i1 2 = true then
          b292_27 L xs zf D w i1 h
        else
          b292_22 L xs zf D w h
  else
    drI (some .int) i1 h
theorem c292_0 {L : Nat} {xs : Nat → Int32} {zf : Value} {D : dD} {w k : Nat} (hD : dO L xs zf D k) (hz : zf.category = 1) : ∀ (i0 : Int32) (i1 : Int32) (lv : rm_L) (h : rm_H) (r : dR), rm_get lv 0 = some (.int i0) → rm_get lv 1 = some (.int i1) → b292_0 L xs zf D w  i0 i1 h = some r → dq L xs zf ah_M292 0 lv [] h (k + 1) r := by
  intro i0 i1 lv h r G0 G1 hh
  unfold b292_0 at hh
  refine dq_iln 0 1 (by decide +kernel) rfl G0 ?_
  refine dq_S (.iconst 2) 1 [] 2 _ [.int 2, .int i0] (by decide +kernel) rfl ?_
  rcases di hh with ⟨q1, hh⟩ | ⟨q1, hh⟩
  · refine dq_2 .ne 5 true 7 q1 (by decide +kernel) ?_
    refine dq_iln 0 8 (by decide +kernel) rfl G0 ?_
    refine dq_S (.iconst 1) 1 [] 9 _ [.int 1, .int i0] (by decide +kernel) rfl ?_
    rcases di hh with ⟨q2, hh⟩ | ⟨q2, hh⟩
    · refine dq_2 .ne 19 true 28 q2 (by decide +kernel) ?_
      refine dq_iln 0 29 (by decide +kernel) rfl G0 ?_
      rcases di hh with ⟨q3, hh⟩ | ⟨q3, hh⟩
      · refine dq_1 .ne 16 true 45 q3 (by decide +kernel) ?_
        exact c292_45 hD hz  _ _ _  hh
      · refine dq_1 .ne 16 false 32 q3 (by decide +kernel) ?_
        refine dq_iln 1 33 (by decide +kernel) rfl G1 ?_
        rcases di hh with ⟨q4, hh⟩ | ⟨q4, hh⟩
        · refine dq_1 .eq 8 true 41 q4 (by decide +kernel) ?_
          exact c292_41 hD hz _ _ _ _ G1 hh
        · refine dq_1 .eq 8 false 36 q4 (by decide +kernel) ?_
          refine dq_iln 1 37 (by decide +kernel) rfl G1 ?_
          refine dq_S (.iconst 3) 1 [] 38 _ [.int 3, .int i1] (by decide +kernel) rfl ?_
          rcases di hh with ⟨q5, hh⟩ | ⟨q5, hh⟩
          · refine dq_2 .ne 7 true 45 q5 (by decide +kernel) ?_
            exact c292_45 hD hz  _ _ _  hh
          · refine dq_2 .ne 7 false 41 q5 (by decide +kernel) ?_
            exact c292_41 hD hz _ _ _ _ G1 hh
    · refine dq_2 .ne 19 false 12 q2 (by decide +kernel) ?_
      refine dq_iln 1 13 (by decide +kernel) rfl G1 ?_
      refine dq_S (.iconst 1) 1 [] 14 _ [.int 1, .int i1] (by decide +kernel) rfl ?_
      rcases di hh with ⟨q6, hh⟩ | ⟨q6, hh⟩
      · refine dq_2 .eq 8 true 22 q6 (by decide +kernel) ?_
        exact c292_22 hD hz  _ _ _  hh
      · refine dq_2 .eq 8 false 17 q6 (by decide +kernel) ?_
        refine dq_iln 1 18 (by decide +kernel) rfl G1 ?_
        refine dq_S (.iconst 2) 1 [] 19 _ [.int 2, .int i1] (by decide +kernel) rfl ?_
        rcases di hh with ⟨q7, hh⟩ | ⟨q7, hh⟩
        · refine dq_2 .ne 7 true 26 q7 (by decide +kernel) ?_
          refine dq_iln 1 27 (by decide +kernel) rfl G1 ?_
          exact c292_27 hD hz _ _ _ _  hh
        · refine dq_2 .ne 7 false 22 q7 (by decide +kernel) ?_
          exact c292_22 hD hz  _ _ _  hh
  · refine dq_2 .ne 5 false 5 q1 (by decide +kernel) ?_
    refine dq_iln 1 6 (by decide +kernel) rfl G1 ?_
    exact dq_retI (some .int) (by decide +kernel) rfl hh
def f292 (L : Nat) (xs : Nat → Int32) (zf : Value) (D : dD) (w : Nat) (As : List Value) (h : rm_H) : Option dR := match As with
  | [.int i0, .int i1] => b292_0 L xs zf D w i0 i1 h
  | _ => none
theorem d292 {L : Nat} {xs : Nat → Int32} {zf : Value} {D : dD} {w k : Nat} (hD : dO L xs zf D k) (hz : zf.category = 1) (As : List Value) (h : rm_H) (r : dR) (hh : f292 L xs zf D w As h = some r) : dq L xs zf ah_M292 0 (lv_args 0 As) [] h (k + 1) r := by
  unfold f292 at hh
  split at hh
  · refine c292_0 hD hz _ _ _ _ _ ?_ ?_ hh
    all_goals (simp only [la_r, la_i, la_j]; rfl)
  · cases hh
def b293_38 (L : Nat) (xs : Nat → Int32) (zf : Value) (D : dD) (w : Nat) (s0 : Int32) (h : rm_H) : Option dR :=
  drI (some .boolean) s0 h
theorem c293_38 {L : Nat} {xs : Nat → Int32} {zf : Value} {D : dD} {w k : Nat} (hD : dO L xs zf D k) (hz : zf.category = 1) : ∀ (s0 : Int32) (lv : rm_L) (h : rm_H) (r : dR), b293_38 L xs zf D w  s0 h = some r → dq L xs zf ah_M293 38 lv [.int s0] h (k + 1) r := by
  intro s0 lv h r hh
  unfold b293_38 at hh
  exact dq_retI (some .boolean) (by decide +kernel) rfl hh
def b293_33 (L : Nat) (xs : Nat → Int32) (zf : Value) (D : dD) (w : Nat) (h : rm_H) : Option dR :=
  b293_38 L xs zf D w 1 h
theorem c293_33 {L : Nat} {xs : Nat → Int32} {zf : Value} {D : dD} {w k : Nat} (hD : dO L xs zf D k) (hz : zf.category = 1) : ∀ (lv : rm_L) (h : rm_H) (r : dR), b293_33 L xs zf D w  h = some r → dq L xs zf ah_M293 33 lv [] h (k + 1) r := by
  intro lv h r hh
  unfold b293_33 at hh
  refine dq_S (.iconst 1) 1 [] 34 _ [.int 1] (by decide +kernel) rfl ?_
  refine dq_S (.goto 4) 3 [] 38 _ [.int 1] (by decide +kernel) rfl ?_
  exact c293_38 hD hz _ _ _ _  hh
def b293_37 (L : Nat) (xs : Nat → Int32) (zf : Value) (D : dD) (w : Nat) (h : rm_H) : Option dR :=
  b293_38 L xs zf D w 0 h
theorem c293_37 {L : Nat} {xs : Nat → Int32} {zf : Value} {D : dD} {w k : Nat} (hD : dO L xs zf D k) (hz : zf.category = 1) : ∀ (lv : rm_L) (h : rm_H) (r : dR), b293_37 L xs zf D w  h = some r → dq L xs zf ah_M293 37 lv [] h (k + 1) r := by
  intro lv h r hh
  unfold b293_37 at hh
  refine dq_S (.iconst 0) 1 [] 38 _ [.int 0] (by decide +kernel) rfl ?_
  exact c293_38 hD hz _ _ _ _  hh
def b293_23 (L : Nat) (xs : Nat → Int32) (zf : Value) (D : dD) (w : Nat) (i0 : Int32) (i1 : Int32) (h : rm_H) : Option dR :=
  if mx_f2 .ne i0 1 = true then
    b293_37 L xs zf D w h
  else
    if mx_f2 .ne i1 1 = true then
      b293_37 L xs zf D w h
    else
      b293_33 L xs zf D w h
theorem c293_23 {L : Nat} {xs : Nat → Int32} {zf : Value} {D : dD} {w k : Nat} (hD : dO L xs zf D k) (hz : zf.category = 1) : ∀ (i0 : Int32) (i1 : Int32) (lv : rm_L) (h : rm_H) (r : dR), rm_get lv 0 = some (.int i0) → rm_get lv 1 = some (.int i1) → b293_23 L xs zf D w  i0 i1 h = some r → dq L xs zf ah_M293 23 lv [] h (k + 1) r := by
  intro i0 i1 lv h r G0 G1 hh
  unfold b293_23 at hh
  refine dq_iln 0 24 (by decide +kernel) rfl G0 ?_
  refine dq_S (.iconst 1) 1 [] 25 _ [.int 1, .int i0] (by decide +kernel) rfl ?_
  rcases di hh with ⟨q1, hh⟩ | ⟨q1, hh⟩
  · refine dq_2 .ne 12 true 37 q1 (by decide +kernel) ?_
    exact c293_37 hD hz  _ _ _  hh
  · refine dq_2 .ne 12 false 28 q1 (by decide +kernel) ?_
    refine dq_iln 1 29 (by decide +kernel) rfl G1 ?_
    refine dq_S (.iconst 1) 1 [] 30 _ [.int 1, .int i1] (by decide +kernel) rfl ?_
    rcases di hh with ⟨q2, hh⟩ | ⟨q2, hh⟩
    · refine dq_2 .ne 7 true 37 q2 (by decide +kernel) ?_
      exact c293_37 hD hz  _ _ _  hh
    · refine dq_2 .ne 7 false 33 q2 (by decide +kernel) ?_
      exact c293_33 hD hz  _ _ _  hh
def b293_14 (L : Nat) (xs : Nat → Int32) (zf : Value) (D : dD) (w : Nat) (i0 : Int32) (i1 : Int32) (h : rm_H) : Option dR :=
  if mx_f1 .eq i1 = true then
    b293_33 L xs zf D w h
  else
    if mx_f2 .eq i1 3 = true then
      b293_33 L xs zf D w h
    else
      b293_23 L xs zf D w i0 i1 h
theorem c293_14 {L : Nat} {xs : Nat → Int32} {zf : Value} {D : dD} {w k : Nat} (hD : dO L xs zf D k) (hz : zf.category = 1) : ∀ (i0 : Int32) (i1 : Int32) (lv : rm_L) (h : rm_H) (r : dR), rm_get lv 0 = some (.int i0) → rm_get lv 1 = some (.int i1) → b293_14 L xs zf D w  i0 i1 h = some r → dq L xs zf ah_M293 14 lv [] h (k + 1) r := by
  intro i0 i1 lv h r G0 G1 hh
  unfold b293_14 at hh
  refine dq_iln 1 15 (by decide +kernel) rfl G1 ?_
  rcases di hh with ⟨q1, hh⟩ | ⟨q1, hh⟩
  · refine dq_1 .eq 18 true 33 q1 (by decide +kernel) ?_
    exact c293_33 hD hz  _ _ _  hh
  · refine dq_1 .eq 18 false 18 q1 (by decide +kernel) ?_
    refine dq_iln 1 19 (by decide +kernel) rfl G1 ?_
    refine dq_S (.iconst 3) 1 [] 20 _ [.int 3, .int i1] (by decide +kernel) rfl ?_
    rcases di hh with ⟨q2, hh⟩ | ⟨q2, hh⟩
    · refine dq_2 .eq 13 true 33 q2 (by decide +kernel) ?_
      exact c293_33 hD hz  _ _ _  hh
    · refine dq_2 .eq 13 false 23 q2 (by decide +kernel) ?_
      exact c293_23 hD hz _ _ _ _ _ G0 G1 hh
def b293_0 (L : Nat) (xs : Nat → Int32) (zf : Value) (D : dD) (w : Nat) (i0 : Int32) (i1 : Int32) (h : rm_H) : Option dR :=
  if mx_f2 .eq i0 2 = true then
    b293_33 L xs zf D w h
  else
    if mx_f2 .eq i0 1 = true then
      b293_14 L xs zf D w i0 i1 h
    else
      if mx_f1 .ne i0 = true then
        b293_23 L xs zf D w i0 i1 h
      else
        b293_14 L xs zf D w i0 i1 h
theorem c293_0 {L : Nat} {xs : Nat → Int32} {zf : Value} {D : dD} {w k : Nat} (hD : dO L xs zf D k) (hz : zf.category = 1) : ∀ (i0 : Int32) (i1 : Int32) (lv : rm_L) (h : rm_H) (r : dR), rm_get lv 0 = some (.int i0) → rm_get lv 1 = some (.int i1) → b293_0 L xs zf D w  i0 i1 h = some r → dq L xs zf ah_M293 0 lv [] h (k + 1) r := by
  intro i0 i1 lv h r G0 G1 hh
  unfold b293_0 at hh
  refine dq_iln 0 1 (by decide +kernel) rfl G0 ?_
  refine dq_S (.iconst 2) 1 [] 2 _ [.int 2, .int i0] (by decide +kernel) rfl ?_
  rcases di hh with ⟨q1, hh⟩ | ⟨q1, hh⟩
  · refine dq_2 .eq 31 true 33 q1 (by decide +kernel) ?_
    exact c293_33 hD hz  _ _ _  hh
  · refine dq_2 .eq 31 false 5 q1 (by decide +kernel) ?_
    refine dq_iln 0 6 (by decide +kernel) rfl G0 ?_
    refine dq_S (.iconst 1) 1 [] 7 _ [.int 1, .int i0] (by decide +kernel) rfl ?_
    rcases di hh with ⟨q2, hh⟩ | ⟨q2, hh⟩
    · refine dq_2 .eq 7 true 14 q2 (by decide +kernel) ?_
      exact c293_14 hD hz _ _ _ _ _ G0 G1 hh
    · refine dq_2 .eq 7 false 10 q2 (by decide +kernel) ?_
      refine dq_iln 0 11 (by decide +kernel) rfl G0 ?_
      rcases di hh with ⟨q3, hh⟩ | ⟨q3, hh⟩
      · refine dq_1 .ne 12 true 23 q3 (by decide +kernel) ?_
        exact c293_23 hD hz _ _ _ _ _ G0 G1 hh
      · refine dq_1 .ne 12 false 14 q3 (by decide +kernel) ?_
        exact c293_14 hD hz _ _ _ _ _ G0 G1 hh
def f293 (L : Nat) (xs : Nat → Int32) (zf : Value) (D : dD) (w : Nat) (As : List Value) (h : rm_H) : Option dR := match As with
  | [.int i0, .int i1] => b293_0 L xs zf D w i0 i1 h
  | _ => none
theorem d293 {L : Nat} {xs : Nat → Int32} {zf : Value} {D : dD} {w k : Nat} (hD : dO L xs zf D k) (hz : zf.category = 1) (As : List Value) (h : rm_H) (r : dR) (hh : f293 L xs zf D w As h = some r) : dq L xs zf ah_M293 0 (lv_args 0 As) [] h (k + 1) r := by
  unfold f293 at hh
  split at hh
  · refine c293_0 hD hz _ _ _ _ _ ?_ ?_ hh
    all_goals (simp only [la_r, la_i, la_j]; rfl)
  · cases hh
def b294_170 (L : Nat) (xs : Nat → Int32) (zf : Value) (D : dD) (w : Nat) (o0 : Option Nat) (h : rm_H) : Option dR :=
  (dgI L xs h 57 [15] o0).bind fun x1 =>
  if mx_f1 .le x1 = true then
    (dpF h 73 [15] o0 (.int 1)).bind fun h4 =>
    (dgI L xs h4 32 [15] o0).bind fun x6 =>
    drI (some .int) x6 h4
  else
    drI (some .int) (-1) h
theorem c294_170 {L : Nat} {xs : Nat → Int32} {zf : Value} {D : dD} {w k : Nat} (hD : dO L xs zf D k) (hz : zf.category = 1) : ∀ (o0 : Option Nat) (lv : rm_L) (h : rm_H) (r : dR), rm_get lv 0 = some (va_rf o0) → b294_170 L xs zf D w  o0 h = some r → dq L xs zf ah_M294 170 lv [] h (k + 1) r := by
  intro o0 lv h r G0 hh
  unfold b294_170 at hh
  refine dq_aln 0 171 (by decide +kernel) rfl G0 ?_
  obtain ⟨x1, q2, hh⟩ := db hh
  refine dq_gI 295 57 [15] 174 (by decide +kernel) rfl q2 ?_
  rcases di hh with ⟨q3, hh⟩ | ⟨q3, hh⟩
  · refine dq_1 .le 5 true 179 q3 (by decide +kernel) ?_
    refine dq_aln 0 180 (by decide +kernel) rfl G0 ?_
    refine dq_S (.iconst 1) 1 [] 181 _ [.int 1, va_rf o0] (by decide +kernel) rfl ?_
    obtain ⟨h4, q5, hh⟩ := db hh
    refine dq_put 578 73 [15] 184 (by decide +kernel) rfl q5 ?_
    refine dq_aln 0 185 (by decide +kernel) rfl G0 ?_
    obtain ⟨x6, q7, hh⟩ := db hh
    refine dq_gI 326 32 [15] 188 (by decide +kernel) rfl q7 ?_
    exact dq_retI (some .int) (by decide +kernel) rfl hh
  · refine dq_1 .le 5 false 177 q3 (by decide +kernel) ?_
    refine dq_S (.iconst (-1)) 1 [] 178 _ [.int (-1)] (by decide +kernel) rfl ?_
    exact dq_retI (some .int) (by decide +kernel) rfl hh
def b294_144 (L : Nat) (xs : Nat → Int32) (zf : Value) (D : dD) (w : Nat) : Nat → Option Nat → Int32 → rm_H → Option dR
  | 0, _, _, _ => none
  | n + 1, o0, i1, h =>
    (dgI L xs h 42 [15] o0).bind fun x1 =>
    if mx_f2 .ge i1 x1 = true then
      b294_170 L xs zf D w o0 h
    else
      (dgI L xs h 57 [15] o0).bind fun x4 =>
      if mx_f1 .ne x4 = true then
        b294_170 L xs zf D w o0 h
      else
        ((dcV L xs D 334 [15] o0 [.int i1] h).bind dxV).bind fun h7 =>
        b294_144 L xs zf D w n o0 (i1 + 1) h7
theorem c294_144 {L : Nat} {xs : Nat → Int32} {zf : Value} {D : dD} {w k : Nat} (hD : dO L xs zf D k) (hz : zf.category = 1) : ∀ (n : Nat) (o0 : Option Nat) (i1 : Int32) (lv : rm_L) (h : rm_H) (r : dR), rm_get lv 0 = some (va_rf o0) → rm_get lv 1 = some (.int i1) → b294_144 L xs zf D w n  o0 i1 h = some r → dq L xs zf ah_M294 144 lv [] h (k + 1) r := by
  intro n
  induction n with
  | zero =>
    intro o0 i1 lv h r G0 G1 hh
    cases hh
  | succ n ih =>
    intro o0 i1 lv h r G0 G1 hh
    rw [b294_144] at hh
    refine dq_iln 1 145 (by decide +kernel) rfl G1 ?_
    refine dq_aln 0 146 (by decide +kernel) rfl G0 ?_
    obtain ⟨x1, q2, hh⟩ := db hh
    refine dq_gI 342 42 [15] 149 (by decide +kernel) rfl q2 ?_
    rcases di hh with ⟨q3, hh⟩ | ⟨q3, hh⟩
    · refine dq_2 .ge 21 true 170 q3 (by decide +kernel) ?_
      exact c294_170 hD hz _ _ _ _ G0 hh
    · refine dq_2 .ge 21 false 152 q3 (by decide +kernel) ?_
      refine dq_aln 0 153 (by decide +kernel) rfl G0 ?_
      obtain ⟨x4, q5, hh⟩ := db hh
      refine dq_gI 295 57 [15] 156 (by decide +kernel) rfl q5 ?_
      rcases di hh with ⟨q6, hh⟩ | ⟨q6, hh⟩
      · refine dq_1 .ne 14 true 170 q6 (by decide +kernel) ?_
        exact c294_170 hD hz _ _ _ _ G0 hh
      · refine dq_1 .ne 14 false 159 q6 (by decide +kernel) ?_
        refine dq_aln 0 160 (by decide +kernel) rfl G0 ?_
        refine dq_iln 1 161 (by decide +kernel) rfl G1 ?_
        obtain ⟨h7, q8, hh⟩ := db hh
        obtain ⟨a9, q10, q8⟩ := db q8
        rw [dq_xV q8] at q10
        refine dq_cvi hD 590 334 5 1 [15] o0 [.int i1] [] 164 [] (by decide +kernel) ap_334 ⟨⟨Nat.le_of_ble_eq_true rfl, by decide⟩, rfl, rfl⟩ (dq_ok8 [1, 1] [] (dc_r (dc_i dc_n)) dc_n (by decide +kernel)) (by decide +kernel) rfl q10 rfl ?_
        refine dq_incy 1 1 1 167 (by decide +kernel) ⟨rfl, by decide +kernel, by decide +kernel⟩ G1 ?_
        have g11 := dg_ne (i := 1) (u := .int (i1 + 1)) (by decide) (Or.inr (drc _)) G0
        have g12 := dg_eq (lv) 1 (.int (i1 + 1))
        refine dq_S (.goto (-23)) 3 [] 144 _ [] (by decide +kernel) rfl ?_
        exact ih _ _ _ _ _ g11 g12 hh
def b294_142 (L : Nat) (xs : Nat → Int32) (zf : Value) (D : dD) (w : Nat) (o0 : Option Nat) (h : rm_H) : Option dR :=
  b294_144 L xs zf D w w o0 0 h
theorem c294_142 {L : Nat} {xs : Nat → Int32} {zf : Value} {D : dD} {w k : Nat} (hD : dO L xs zf D k) (hz : zf.category = 1) : ∀ (o0 : Option Nat) (lv : rm_L) (h : rm_H) (r : dR), rm_get lv 0 = some (va_rf o0) → b294_142 L xs zf D w  o0 h = some r → dq L xs zf ah_M294 142 lv [] h (k + 1) r := by
  intro o0 lv h r G0 hh
  unfold b294_142 at hh
  refine dq_S (.iconst 0) 1 [] 143 _ [.int 0] (by decide +kernel) rfl ?_
  refine dq_isn 1 144 (by decide +kernel) (by decide +kernel) ?_
  have g1 := dg_ne (i := 1) (u := .int 0) (by decide) (Or.inr (drc _)) G0
  have g2 := dg_eq (lv) 1 (.int 0)
  exact c294_144 hD hz _ _ _ _ _ _ g1 g2 hh
def b294_10 (L : Nat) (xs : Nat → Int32) (zf : Value) (D : dD) (w : Nat) : Nat → Option Nat → Int32 → rm_H → Option dR
  | 0, _, _, _ => none
  | n + 1, o0, i1, h =>
    (dgI L xs h 3 [15] o0).bind fun x1 =>
    if mx_f2 .ge i1 x1 = true then
      (dpF h 2 [15] o0 (.int 0)).bind fun h4 =>
      (dpF h4 74 [15] o0 (.int 0)).bind fun h6 =>
      (dpF h6 111 [15] o0 (.int 0)).bind fun h8 =>
      (dpF h8 72 [15] o0 (.int 1)).bind fun h10 =>
      (dpF h10 73 [15] o0 (.int 0)).bind fun h12 =>
      (dpF h12 56 [15] o0 (.int 0)).bind fun h14 =>
      (dpF h14 57 [15] o0 (.int 0)).bind fun h16 =>
      (dpF h16 58 [15] o0 (.int (-1))).bind fun h18 =>
      (dpF h18 10 [15] o0 (.int 1)).bind fun h20 =>
      (dpF h20 24 [15] o0 (.int 0)).bind fun h22 =>
      (dpF h22 25 [15] o0 (.int 0)).bind fun h24 =>
      (dpF h24 26 [15] o0 (.int 0)).bind fun h26 =>
      (dpF h26 32 [15] o0 (.int 0)).bind fun h28 =>
      (dpF h28 38 [15] o0 (.int 0)).bind fun h30 =>
      (dpF h30 42 [15] o0 (.int 0)).bind fun h32 =>
      (dpF h32 52 [15] o0 (.int 0)).bind fun h34 =>
      (dgR L xs h34 50 [15] o0).bind fun p36 =>
      (dsI h34 p36 0 0).bind fun h38 =>
      ((dcV L xs D 295 [15] o0 [] h38).bind dxV).bind fun h40 =>
      ((dcV L xs D 302 [15] o0 [] h40).bind dxV).bind fun h44 =>
      (dgI L xs h44 57 [15] o0).bind fun x48 =>
      if mx_f1 .ne x48 = true then
        b294_142 L xs zf D w o0 h44
      else
        ((dcV L xs D 326 [15] o0 [] h44).bind dxV).bind fun h51 =>
        b294_142 L xs zf D w o0 h51
    else
      (dgR L xs h 1 [15] o0).bind fun p55 =>
      (dgR L xs h 0 [15] o0).bind fun p57 =>
      (daI L xs h p57 i1).bind fun x59 =>
      (dsI h p55 i1 x59).bind fun h61 =>
      b294_10 L xs zf D w n o0 (i1 + 1) h61
theorem c294_10 {L : Nat} {xs : Nat → Int32} {zf : Value} {D : dD} {w k : Nat} (hD : dO L xs zf D k) (hz : zf.category = 1) : ∀ (n : Nat) (o0 : Option Nat) (i1 : Int32) (lv : rm_L) (h : rm_H) (r : dR), rm_get lv 0 = some (va_rf o0) → rm_get lv 1 = some (.int i1) → b294_10 L xs zf D w n  o0 i1 h = some r → dq L xs zf ah_M294 10 lv [] h (k + 1) r := by
  intro n
  induction n with
  | zero =>
    intro o0 i1 lv h r G0 G1 hh
    cases hh
  | succ n ih =>
    intro o0 i1 lv h r G0 G1 hh
    rw [b294_10] at hh
    refine dq_iln 1 11 (by decide +kernel) rfl G1 ?_
    refine dq_aln 0 12 (by decide +kernel) rfl G0 ?_
    obtain ⟨x1, q2, hh⟩ := db hh
    refine dq_gI 266 3 [15] 15 (by decide +kernel) rfl q2 ?_
    rcases di hh with ⟨q3, hh⟩ | ⟨q3, hh⟩
    · refine dq_2 .ge 21 true 36 q3 (by decide +kernel) ?_
      refine dq_aln 0 37 (by decide +kernel) rfl G0 ?_
      refine dq_S (.iconst 0) 1 [] 38 _ [.int 0, va_rf o0] (by decide +kernel) rfl ?_
      obtain ⟨h4, q5, hh⟩ := db hh
      refine dq_put 1 2 [15] 41 (by decide +kernel) rfl q5 ?_
      refine dq_aln 0 42 (by decide +kernel) rfl G0 ?_
      refine dq_S (.iconst 0) 1 [] 43 _ [.int 0, va_rf o0] (by decide +kernel) rfl ?_
      obtain ⟨h6, q7, hh⟩ := db hh
      refine dq_put 569 74 [15] 46 (by decide +kernel) rfl q7 ?_
      refine dq_aln 0 47 (by decide +kernel) rfl G0 ?_
      refine dq_S (.iconst 0) 1 [] 48 _ [.int 0, va_rf o0] (by decide +kernel) rfl ?_
      obtain ⟨h8, q9, hh⟩ := db hh
      refine dq_put 572 111 [15] 51 (by decide +kernel) rfl q9 ?_
      refine dq_aln 0 52 (by decide +kernel) rfl G0 ?_
      refine dq_S (.iconst 1) 1 [] 53 _ [.int 1, va_rf o0] (by decide +kernel) rfl ?_
      obtain ⟨h10, q11, hh⟩ := db hh
      refine dq_put 575 72 [15] 56 (by decide +kernel) rfl q11 ?_
      refine dq_aln 0 57 (by decide +kernel) rfl G0 ?_
      refine dq_S (.iconst 0) 1 [] 58 _ [.int 0, va_rf o0] (by decide +kernel) rfl ?_
      obtain ⟨h12, q13, hh⟩ := db hh
      refine dq_put 578 73 [15] 61 (by decide +kernel) rfl q13 ?_
      refine dq_aln 0 62 (by decide +kernel) rfl G0 ?_
      refine dq_S (.iconst 0) 1 [] 63 _ [.int 0, va_rf o0] (by decide +kernel) rfl ?_
      obtain ⟨h14, q15, hh⟩ := db hh
      refine dq_put 298 56 [15] 66 (by decide +kernel) rfl q15 ?_
      refine dq_aln 0 67 (by decide +kernel) rfl G0 ?_
      refine dq_S (.iconst 0) 1 [] 68 _ [.int 0, va_rf o0] (by decide +kernel) rfl ?_
      obtain ⟨h16, q17, hh⟩ := db hh
      refine dq_put 295 57 [15] 71 (by decide +kernel) rfl q17 ?_
      refine dq_aln 0 72 (by decide +kernel) rfl G0 ?_
      refine dq_S (.iconst (-1)) 1 [] 73 _ [.int (-1), va_rf o0] (by decide +kernel) rfl ?_
      obtain ⟨h18, q19, hh⟩ := db hh
      refine dq_put 151 58 [15] 76 (by decide +kernel) rfl q19 ?_
      refine dq_aln 0 77 (by decide +kernel) rfl G0 ?_
      refine dq_S (.iconst 1) 1 [] 78 _ [.int 1, va_rf o0] (by decide +kernel) rfl ?_
      obtain ⟨h20, q21, hh⟩ := db hh
      refine dq_put 292 10 [15] 81 (by decide +kernel) rfl q21 ?_
      refine dq_aln 0 82 (by decide +kernel) rfl G0 ?_
      refine dq_S (.iconst 0) 1 [] 83 _ [.int 0, va_rf o0] (by decide +kernel) rfl ?_
      obtain ⟨h22, q23, hh⟩ := db hh
      refine dq_put 388 24 [15] 86 (by decide +kernel) rfl q23 ?_
      refine dq_aln 0 87 (by decide +kernel) rfl G0 ?_
      refine dq_S (.iconst 0) 1 [] 88 _ [.int 0, va_rf o0] (by decide +kernel) rfl ?_
      obtain ⟨h24, q25, hh⟩ := db hh
      refine dq_put 379 25 [15] 91 (by decide +kernel) rfl q25 ?_
      refine dq_aln 0 92 (by decide +kernel) rfl G0 ?_
      refine dq_S (.iconst 0) 1 [] 93 _ [.int 0, va_rf o0] (by decide +kernel) rfl ?_
      obtain ⟨h26, q27, hh⟩ := db hh
      refine dq_put 316 26 [15] 96 (by decide +kernel) rfl q27 ?_
      refine dq_aln 0 97 (by decide +kernel) rfl G0 ?_
      refine dq_S (.iconst 0) 1 [] 98 _ [.int 0, va_rf o0] (by decide +kernel) rfl ?_
      obtain ⟨h28, q29, hh⟩ := db hh
      refine dq_put 326 32 [15] 101 (by decide +kernel) rfl q29 ?_
      refine dq_aln 0 102 (by decide +kernel) rfl G0 ?_
      refine dq_S (.iconst 0) 1 [] 103 _ [.int 0, va_rf o0] (by decide +kernel) rfl ?_
      obtain ⟨h30, q31, hh⟩ := db hh
      refine dq_put 332 38 [15] 106 (by decide +kernel) rfl q31 ?_
      refine dq_aln 0 107 (by decide +kernel) rfl G0 ?_
      refine dq_S (.iconst 0) 1 [] 108 _ [.int 0, va_rf o0] (by decide +kernel) rfl ?_
      obtain ⟨h32, q33, hh⟩ := db hh
      refine dq_put 342 42 [15] 111 (by decide +kernel) rfl q33 ?_
      refine dq_aln 0 112 (by decide +kernel) rfl G0 ?_
      refine dq_S (.iconst 0) 1 [] 113 _ [.int 0, va_rf o0] (by decide +kernel) rfl ?_
      obtain ⟨h34, q35, hh⟩ := db hh
      refine dq_put 351 52 [15] 116 (by decide +kernel) rfl q35 ?_
      refine dq_aln 0 117 (by decide +kernel) rfl G0 ?_
      obtain ⟨p36, q37, hh⟩ := db hh
      refine dq_gR 136 50 [15] 120 (by decide +kernel) rfl q37 ?_
      refine dq_S (.iconst 0) 1 [] 121 _ [.int 0, va_rf p36] (by decide +kernel) rfl ?_
      refine dq_S (.iconst 0) 1 [] 122 _ [.int 0, .int 0, va_rf p36] (by decide +kernel) rfl ?_
      obtain ⟨h38, q39, hh⟩ := db hh
      refine dq_sI 123 (by decide +kernel) rfl q39 ?_
      refine dq_aln 0 124 (by decide +kernel) rfl G0 ?_
      obtain ⟨h40, q41, hh⟩ := db hh
      obtain ⟨a42, q43, q41⟩ := db q41
      rw [dq_xV q41] at q43
      refine dq_cvi hD 581 295 5 0 [15] o0 [] [] 127 [] (by decide +kernel) ap_295 ⟨⟨Nat.le_of_ble_eq_true rfl, by decide⟩, rfl, rfl⟩ (dq_ok8 [1] [] (dc_r dc_n) dc_n (by decide +kernel)) (by decide +kernel) rfl q43 rfl ?_
      refine dq_aln 0 128 (by decide +kernel) rfl G0 ?_
      obtain ⟨h44, q45, hh⟩ := db hh
      obtain ⟨a46, q47, q45⟩ := db q45
      rw [dq_xV q45] at q47
      refine dq_cvi hD 584 302 5 0 [15] o0 [] [] 131 [] (by decide +kernel) ap_302 ⟨⟨Nat.le_of_ble_eq_true rfl, by decide⟩, rfl, rfl⟩ (dq_ok8 [1] [] (dc_r dc_n) dc_n (by decide +kernel)) (by decide +kernel) rfl q47 rfl ?_
      refine dq_aln 0 132 (by decide +kernel) rfl G0 ?_
      obtain ⟨x48, q49, hh⟩ := db hh
      refine dq_gI 295 57 [15] 135 (by decide +kernel) rfl q49 ?_
      rcases di hh with ⟨q50, hh⟩ | ⟨q50, hh⟩
      · refine dq_1 .ne 7 true 142 q50 (by decide +kernel) ?_
        exact c294_142 hD hz _ _ _ _ G0 hh
      · refine dq_1 .ne 7 false 138 q50 (by decide +kernel) ?_
        refine dq_aln 0 139 (by decide +kernel) rfl G0 ?_
        obtain ⟨h51, q52, hh⟩ := db hh
        obtain ⟨a53, q54, q52⟩ := db q52
        rw [dq_xV q52] at q54
        refine dq_cvi hD 587 326 5 0 [15] o0 [] [] 142 [] (by decide +kernel) ap_326 ⟨⟨Nat.le_of_ble_eq_true rfl, by decide⟩, rfl, rfl⟩ (dq_ok8 [1] [] (dc_r dc_n) dc_n (by decide +kernel)) (by decide +kernel) rfl q54 rfl ?_
        exact c294_142 hD hz _ _ _ _ G0 hh
    · refine dq_2 .ge 21 false 18 q3 (by decide +kernel) ?_
      refine dq_aln 0 19 (by decide +kernel) rfl G0 ?_
      obtain ⟨p55, q56, hh⟩ := db hh
      refine dq_gR 17 1 [15] 22 (by decide +kernel) rfl q56 ?_
      refine dq_iln 1 23 (by decide +kernel) rfl G1 ?_
      refine dq_aln 0 24 (by decide +kernel) rfl G0 ?_
      obtain ⟨p57, q58, hh⟩ := db hh
      refine dq_gR 7 0 [15] 27 (by decide +kernel) rfl q58 ?_
      refine dq_iln 1 28 (by decide +kernel) rfl G1 ?_
      obtain ⟨x59, q60, hh⟩ := db hh
      refine dq_aI 29 (by decide +kernel) rfl q60 ?_
      obtain ⟨h61, q62, hh⟩ := db hh
      refine dq_sI 30 (by decide +kernel) rfl q62 ?_
      refine dq_incy 1 1 1 33 (by decide +kernel) ⟨rfl, by decide +kernel, by decide +kernel⟩ G1 ?_
      have g63 := dg_ne (i := 1) (u := .int (i1 + 1)) (by decide) (Or.inr (drc _)) G0
      have g64 := dg_eq (lv) 1 (.int (i1 + 1))
      refine dq_S (.goto (-23)) 3 [] 10 _ [] (by decide +kernel) rfl ?_
      exact ih _ _ _ _ _ g63 g64 hh
def b294_0 (L : Nat) (xs : Nat → Int32) (zf : Value) (D : dD) (w : Nat) (o0 : Option Nat) (h : rm_H) : Option dR :=
  (dgI L xs h 2 [15] o0).bind fun x1 =>
  (dpF h 3 [15] o0 (.int x1)).bind fun h3 =>
  b294_10 L xs zf D w w o0 0 h3
theorem c294_0 {L : Nat} {xs : Nat → Int32} {zf : Value} {D : dD} {w k : Nat} (hD : dO L xs zf D k) (hz : zf.category = 1) : ∀ (o0 : Option Nat) (lv : rm_L) (h : rm_H) (r : dR), rm_get lv 0 = some (va_rf o0) → b294_0 L xs zf D w  o0 h = some r → dq L xs zf ah_M294 0 lv [] h (k + 1) r := by
  intro o0 lv h r G0 hh
  unfold b294_0 at hh
  refine dq_aln 0 1 (by decide +kernel) rfl G0 ?_
  refine dq_aln 0 2 (by decide +kernel) rfl G0 ?_
  obtain ⟨x1, q2, hh⟩ := db hh
  refine dq_gI 1 2 [15] 5 (by decide +kernel) rfl q2 ?_
  obtain ⟨h3, q4, hh⟩ := db hh
  refine dq_put 266 3 [15] 8 (by decide +kernel) rfl q4 ?_
  refine dq_S (.iconst 0) 1 [] 9 _ [.int 0] (by decide +kernel) rfl ?_
  refine dq_isn 1 10 (by decide +kernel) (by decide +kernel) ?_
  have g5 := dg_ne (i := 1) (u := .int 0) (by decide) (Or.inr (drc _)) G0
  have g6 := dg_eq (lv) 1 (.int 0)
  exact c294_10 hD hz _ _ _ _ _ _ g5 g6 hh
def f294 (L : Nat) (xs : Nat → Int32) (zf : Value) (D : dD) (w : Nat) (As : List Value) (h : rm_H) : Option dR := match As with
  | [v0] => (rm_rf v0).bind fun o0 => b294_0 L xs zf D w o0 h
  | _ => none
theorem d294 {L : Nat} {xs : Nat → Int32} {zf : Value} {D : dD} {w k : Nat} (hD : dO L xs zf D k) (hz : zf.category = 1) (As : List Value) (h : rm_H) (r : dR) (hh : f294 L xs zf D w As h = some r) : dq L xs zf ah_M294 0 (lv_args 0 As) [] h (k + 1) r := by
  unfold f294 at hh
  split at hh
  · obtain ⟨o0, e0, hb0⟩ := db hh
    have e0 := rm_rf_v _ _ e0
    subst e0
    refine c294_0 hD hz _ _ _ _ ?_ hb0
    all_goals (simp only [la_r, la_i, la_j]; rfl)
  · cases hh
def b295_161 (L : Nat) (xs : Nat → Int32) (zf : Value) (D : dD) (w : Nat) (K9 : Option Nat → Int32 → Int32 → rm_H → Option dR) (o0 : Option Nat) (i1 : Int32) (s0 : Int32) (h : rm_H) : Option dR :=
  (dgI L xs h 5 [15] o0).bind fun x4 =>
  (dpF h 5 [15] o0 (.int (x4 + 1))).bind fun h6 =>
  K9 o0 i1 s0 h6
theorem c295_161 {L : Nat} {xs : Nat → Int32} {zf : Value} {D : dD} {w k : Nat} {K9 : Option Nat → Int32 → Int32 → rm_H → Option dR} (hD : dO L xs zf D k) (hz : zf.category = 1) (hK9 : ∀ (o0 : Option Nat) (i1 : Int32) (i2 : Int32) (lv : rm_L) (h : rm_H) (r : dR), rm_get lv 0 = some (va_rf o0) → rm_get lv 1 = some (.int i1) → rm_get lv 2 = some (.int i2) → K9 o0 i1 i2 h = some r → dq L xs zf ah_M295 9 lv [] h (k + 1) r) : ∀ (o0 : Option Nat) (i1 : Int32) (s0 : Int32) (lv : rm_L) (h : rm_H) (r : dR), rm_get lv 0 = some (va_rf o0) → rm_get lv 1 = some (.int i1) → b295_161 L xs zf D w K9  o0 i1 s0 h = some r → dq L xs zf ah_M295 161 lv [.int s0] h (k + 1) r := by
  intro o0 i1 s0 lv h r G0 G1 hh
  unfold b295_161 at hh
  refine dq_isn 2 162 (by decide +kernel) (by decide +kernel) ?_
  have g1 := dg_ne (i := 2) (u := .int s0) (by decide) (Or.inl (by decide)) G0
  have g2 := dg_ne (i := 2) (u := .int s0) (by decide) (Or.inr rfl) G1
  have g3 := dg_eq (lv) 2 (.int s0)
  refine dq_aln 0 163 (by decide +kernel) rfl g1 ?_
  refine dq_dup 164 (by decide +kernel) rfl ?_
  obtain ⟨x4, q5, hh⟩ := db hh
  refine dq_gI 278 5 [15] 167 (by decide +kernel) rfl q5 ?_
  refine dq_S (.iconst 1) 1 [] 168 _ [.int 1, .int x4, va_rf o0] (by decide +kernel) rfl ?_
  refine dq_S (.iadd) 1 [] 169 _ [.int (x4 + 1), va_rf o0] (by decide +kernel) rfl ?_
  obtain ⟨h6, q7, hh⟩ := db hh
  refine dq_put 278 5 [15] 172 (by decide +kernel) rfl q7 ?_
  refine dq_S (.goto (-163)) 3 [] 9 _ [] (by decide +kernel) rfl ?_
  exact hK9 _ _ _ _ _ _ g1 g2 g3 hh
def b295_160 (L : Nat) (xs : Nat → Int32) (zf : Value) (D : dD) (w : Nat) (K9 : Option Nat → Int32 → Int32 → rm_H → Option dR) (o0 : Option Nat) (i1 : Int32) (h : rm_H) : Option dR :=
  b295_161 L xs zf D w K9 o0 i1 0 h
theorem c295_160 {L : Nat} {xs : Nat → Int32} {zf : Value} {D : dD} {w k : Nat} {K9 : Option Nat → Int32 → Int32 → rm_H → Option dR} (hD : dO L xs zf D k) (hz : zf.category = 1) (hK9 : ∀ (o0 : Option Nat) (i1 : Int32) (i2 : Int32) (lv : rm_L) (h : rm_H) (r : dR), rm_get lv 0 = some (va_rf o0) → rm_get lv 1 = some (.int i1) → rm_get lv 2 = some (.int i2) → K9 o0 i1 i2 h = some r → dq L xs zf ah_M295 9 lv [] h (k + 1) r) : ∀ (o0 : Option Nat) (i1 : Int32) (lv : rm_L) (h : rm_H) (r : dR), rm_get lv 0 = some (va_rf o0) → rm_get lv 1 = some (.int i1) → b295_160 L xs zf D w K9  o0 i1 h = some r → dq L xs zf ah_M295 160 lv [] h (k + 1) r := by
  intro o0 i1 lv h r G0 G1 hh
  unfold b295_160 at hh
  refine dq_S (.iconst 0) 1 [] 161 _ [.int 0] (by decide +kernel) rfl ?_
  exact c295_161 hD hz hK9 _ _ _ _ _ _ G0 G1 hh
def b295_126 (L : Nat) (xs : Nat → Int32) (zf : Value) (D : dD) (w : Nat) (K9 : Option Nat → Int32 → Int32 → rm_H → Option dR) (o0 : Option Nat) (i1 : Int32) (i3 : Int32) (h : rm_H) : Option dR :=
  (dgR L xs h 6 [15] o0).bind fun p4 =>
  (dgI L xs h 5 [15] o0).bind fun x6 =>
  (daI L xs h p4 x6).bind fun x8 =>
  if mx_f1 .eq x8 = true then
    b295_160 L xs zf D w K9 o0 (i1 + i3) h
  else
    (dgR L xs h 6 [15] o0).bind fun p11 =>
    (dgI L xs h 5 [15] o0).bind fun x13 =>
    (daI L xs h p11 x13).bind fun x15 =>
    if mx_f2 .eq x15 6 = true then
      b295_160 L xs zf D w K9 o0 (i1 + i3) h
    else
      b295_161 L xs zf D w K9 o0 (i1 + i3) 1 h
theorem c295_126 {L : Nat} {xs : Nat → Int32} {zf : Value} {D : dD} {w k : Nat} {K9 : Option Nat → Int32 → Int32 → rm_H → Option dR} (hD : dO L xs zf D k) (hz : zf.category = 1) (hK9 : ∀ (o0 : Option Nat) (i1 : Int32) (i2 : Int32) (lv : rm_L) (h : rm_H) (r : dR), rm_get lv 0 = some (va_rf o0) → rm_get lv 1 = some (.int i1) → rm_get lv 2 = some (.int i2) → K9 o0 i1 i2 h = some r → dq L xs zf ah_M295 9 lv [] h (k + 1) r) : ∀ (o0 : Option Nat) (i1 : Int32) (i3 : Int32) (lv : rm_L) (h : rm_H) (r : dR), rm_get lv 0 = some (va_rf o0) → rm_get lv 1 = some (.int i1) → rm_get lv 3 = some (.int i3) → b295_126 L xs zf D w K9  o0 i1 i3 h = some r → dq L xs zf ah_M295 126 lv [] h (k + 1) r := by
  intro o0 i1 i3 lv h r G0 G1 G3 hh
  unfold b295_126 at hh
  refine dq_iln 1 127 (by decide +kernel) rfl G1 ?_
  refine dq_iln 3 128 (by decide +kernel) rfl G3 ?_
  refine dq_S (.iadd) 1 [] 129 _ [.int (i1 + i3)] (by decide +kernel) rfl ?_
  refine dq_isn 1 130 (by decide +kernel) (by decide +kernel) ?_
  have g1 := dg_ne (i := 1) (u := .int (i1 + i3)) (by decide) (Or.inr (drc _)) G0
  have g2 := dg_ne (i := 1) (u := .int (i1 + i3)) (by decide) (Or.inl (by decide)) G3
  have g3 := dg_eq (lv) 1 (.int (i1 + i3))
  refine dq_aln 0 131 (by decide +kernel) rfl g1 ?_
  obtain ⟨p4, q5, hh⟩ := db hh
  refine dq_gR 24 6 [15] 134 (by decide +kernel) rfl q5 ?_
  refine dq_aln 0 135 (by decide +kernel) rfl g1 ?_
  obtain ⟨x6, q7, hh⟩ := db hh
  refine dq_gI 278 5 [15] 138 (by decide +kernel) rfl q7 ?_
  obtain ⟨x8, q9, hh⟩ := db hh
  refine dq_aI 139 (by decide +kernel) rfl q9 ?_
  rcases di hh with ⟨q10, hh⟩ | ⟨q10, hh⟩
  · refine dq_1 .eq 21 true 160 q10 (by decide +kernel) ?_
    exact c295_160 hD hz hK9 _ _ _ _ _ g1 g3 hh
  · refine dq_1 .eq 21 false 142 q10 (by decide +kernel) ?_
    refine dq_aln 0 143 (by decide +kernel) rfl g1 ?_
    obtain ⟨p11, q12, hh⟩ := db hh
    refine dq_gR 24 6 [15] 146 (by decide +kernel) rfl q12 ?_
    refine dq_aln 0 147 (by decide +kernel) rfl g1 ?_
    obtain ⟨x13, q14, hh⟩ := db hh
    refine dq_gI 278 5 [15] 150 (by decide +kernel) rfl q14 ?_
    obtain ⟨x15, q16, hh⟩ := db hh
    refine dq_aI 151 (by decide +kernel) rfl q16 ?_
    refine dq_S (.bipush 6) 2 [] 153 _ [.int 6, .int x15] (by decide +kernel) rfl ?_
    rcases di hh with ⟨q17, hh⟩ | ⟨q17, hh⟩
    · refine dq_2 .eq 7 true 160 q17 (by decide +kernel) ?_
      exact c295_160 hD hz hK9 _ _ _ _ _ g1 g3 hh
    · refine dq_2 .eq 7 false 156 q17 (by decide +kernel) ?_
      refine dq_S (.iconst 1) 1 [] 157 _ [.int 1] (by decide +kernel) rfl ?_
      refine dq_S (.goto 4) 3 [] 161 _ [.int 1] (by decide +kernel) rfl ?_
      exact c295_161 hD hz hK9 _ _ _ _ _ _ g1 g3 hh
def b295_40 (L : Nat) (xs : Nat → Int32) (zf : Value) (D : dD) (w : Nat) (K9 : Option Nat → Int32 → Int32 → rm_H → Option dR) : Nat → Option Nat → Int32 → Int32 → rm_H → Option dR
  | 0, _, _, _, _ => none
  | n + 1, o0, i1, i3, h =>
    ((dcV L xs D 296 [15] o0 [.int (i1 + i3)] h).bind dxI).bind fun x1 =>
    if mx_f1 .eq x1.1 = true then
      (dgR L xs x1.2 7 [15] o0).bind fun p6 =>
      (dgI L xs x1.2 5 [15] o0).bind fun x8 =>
      (dsI x1.2 p6 x8 i1).bind fun h10 =>
      (dgR L xs h10 8 [15] o0).bind fun p12 =>
      (dgI L xs h10 5 [15] o0).bind fun x14 =>
      (dsI h10 p12 x14 0).bind fun h16 =>
      (dgR L xs h16 9 [15] o0).bind fun p18 =>
      (dgI L xs h16 5 [15] o0).bind fun x20 =>
      (dsJ h16 p18 x20 0).bind fun h22 =>
      (dgI L xs h22 3 [15] o0).bind fun x24 =>
      if mx_f2 .ne i1 x24 = true then
        if mx_f1 .le i3 = true then
          ((dcV L xs D 301 [15] o0 [.int i1] h22).bind dxI).bind fun x28 =>
          b295_126 L xs zf D w K9 o0 i1 x28.1 x28.2
        else
          ((dcV L xs D 300 [15] o0 [.int i1, .int i3] h22).bind dxV).bind fun h35 =>
          b295_126 L xs zf D w K9 o0 i1 i3 h35
      else
        (dgR L xs h22 6 [15] o0).bind fun p39 =>
        (dgI L xs h22 5 [15] o0).bind fun x41 =>
        (dsI h22 p39 x41 0).bind fun h43 =>
        b295_126 L xs zf D w K9 o0 i1 i3 h43
    else
      b295_40 L xs zf D w K9 n o0 i1 (i3 + 1) x1.2
theorem c295_40 {L : Nat} {xs : Nat → Int32} {zf : Value} {D : dD} {w k : Nat} {K9 : Option Nat → Int32 → Int32 → rm_H → Option dR} (hD : dO L xs zf D k) (hz : zf.category = 1) (hK9 : ∀ (o0 : Option Nat) (i1 : Int32) (i2 : Int32) (lv : rm_L) (h : rm_H) (r : dR), rm_get lv 0 = some (va_rf o0) → rm_get lv 1 = some (.int i1) → rm_get lv 2 = some (.int i2) → K9 o0 i1 i2 h = some r → dq L xs zf ah_M295 9 lv [] h (k + 1) r) : ∀ (n : Nat) (o0 : Option Nat) (i1 : Int32) (i3 : Int32) (lv : rm_L) (h : rm_H) (r : dR), rm_get lv 0 = some (va_rf o0) → rm_get lv 1 = some (.int i1) → rm_get lv 3 = some (.int i3) → b295_40 L xs zf D w K9 n  o0 i1 i3 h = some r → dq L xs zf ah_M295 40 lv [] h (k + 1) r := by
  intro n
  induction n with
  | zero =>
    intro o0 i1 i3 lv h r G0 G1 G3 hh
    cases hh
  | succ n ih =>
    intro o0 i1 i3 lv h r G0 G1 G3 hh
    rw [b295_40] at hh
    refine dq_aln 0 41 (by decide +kernel) rfl G0 ?_
    refine dq_iln 1 42 (by decide +kernel) rfl G1 ?_
    refine dq_iln 3 43 (by decide +kernel) rfl G3 ?_
    refine dq_S (.iadd) 1 [] 44 _ [.int (i1 + i3), va_rf o0] (by decide +kernel) rfl ?_
    obtain ⟨x1, q2, hh⟩ := db hh
    obtain ⟨a3, q4, q2⟩ := db q2
    rw [dq_xI q2] at q4
    refine dq_cvi hD 281 296 5 1 [15] o0 [.int (i1 + i3)] [] 47 [.int x1.1] (by decide +kernel) ap_296 ⟨⟨Nat.le_of_ble_eq_true rfl, by decide⟩, rfl, rfl⟩ (dq_ok8 [1, 1] [] (dc_r (dc_i dc_n)) dc_n (by decide +kernel)) (by decide +kernel) rfl q4 rfl ?_
    rcases di hh with ⟨q5, hh⟩ | ⟨q5, hh⟩
    · refine dq_1 .eq 9 true 56 q5 (by decide +kernel) ?_
      refine dq_aln 0 57 (by decide +kernel) rfl G0 ?_
      obtain ⟨p6, q7, hh⟩ := db hh
      refine dq_gR 27 7 [15] 60 (by decide +kernel) rfl q7 ?_
      refine dq_aln 0 61 (by decide +kernel) rfl G0 ?_
      obtain ⟨x8, q9, hh⟩ := db hh
      refine dq_gI 278 5 [15] 64 (by decide +kernel) rfl q9 ?_
      refine dq_iln 1 65 (by decide +kernel) rfl G1 ?_
      obtain ⟨h10, q11, hh⟩ := db hh
      refine dq_sI 66 (by decide +kernel) rfl q11 ?_
      refine dq_aln 0 67 (by decide +kernel) rfl G0 ?_
      obtain ⟨p12, q13, hh⟩ := db hh
      refine dq_gR 30 8 [15] 70 (by decide +kernel) rfl q13 ?_
      refine dq_aln 0 71 (by decide +kernel) rfl G0 ?_
      obtain ⟨x14, q15, hh⟩ := db hh
      refine dq_gI 278 5 [15] 74 (by decide +kernel) rfl q15 ?_
      refine dq_S (.iconst 0) 1 [] 75 _ [.int 0, .int x14, va_rf p12] (by decide +kernel) rfl ?_
      obtain ⟨h16, q17, hh⟩ := db hh
      refine dq_sI 76 (by decide +kernel) rfl q17 ?_
      refine dq_aln 0 77 (by decide +kernel) rfl G0 ?_
      obtain ⟨p18, q19, hh⟩ := db hh
      refine dq_gR 33 9 [15] 80 (by decide +kernel) rfl q19 ?_
      refine dq_aln 0 81 (by decide +kernel) rfl G0 ?_
      obtain ⟨x20, q21, hh⟩ := db hh
      refine dq_gI 278 5 [15] 84 (by decide +kernel) rfl q21 ?_
      refine dq_S (.lconst 0) 1 [] 85 _ [.long 0, .int x20, va_rf p18] (by decide +kernel) rfl ?_
      obtain ⟨h22, q23, hh⟩ := db hh
      refine dq_sJ 86 (by decide +kernel) rfl q23 ?_
      refine dq_iln 1 87 (by decide +kernel) rfl G1 ?_
      refine dq_aln 0 88 (by decide +kernel) rfl G0 ?_
      obtain ⟨x24, q25, hh⟩ := db hh
      refine dq_gI 266 3 [15] 91 (by decide +kernel) rfl q25 ?_
      rcases di hh with ⟨q26, hh⟩ | ⟨q26, hh⟩
      · refine dq_2 .ne 16 true 107 q26 (by decide +kernel) ?_
        refine dq_iln 3 108 (by decide +kernel) rfl G3 ?_
        rcases di hh with ⟨q27, hh⟩ | ⟨q27, hh⟩
        · refine dq_1 .le 12 true 120 q27 (by decide +kernel) ?_
          refine dq_aln 0 121 (by decide +kernel) rfl G0 ?_
          refine dq_iln 1 122 (by decide +kernel) rfl G1 ?_
          obtain ⟨x28, q29, hh⟩ := db hh
          obtain ⟨a30, q31, q29⟩ := db q29
          rw [dq_xI q29] at q31
          refine dq_cvi hD 288 301 5 1 [15] o0 [.int i1] [] 125 [.int x28.1] (by decide +kernel) ap_301 ⟨⟨Nat.le_of_ble_eq_true rfl, by decide⟩, rfl, rfl⟩ (dq_ok8 [1, 1] [] (dc_r (dc_i dc_n)) dc_n (by decide +kernel)) (by decide +kernel) rfl q31 rfl ?_
          refine dq_isn 3 126 (by decide +kernel) (by decide +kernel) ?_
          have g32 := dg_ne (i := 3) (u := .int x28.1) (by decide) (Or.inl (by decide)) G0
          have g33 := dg_ne (i := 3) (u := .int x28.1) (by decide) (Or.inl (by decide)) G1
          have g34 := dg_eq (lv) 3 (.int x28.1)
          exact c295_126 hD hz hK9 _ _ _ _ _ _ g32 g33 g34 hh
        · refine dq_1 .le 12 false 111 q27 (by decide +kernel) ?_
          refine dq_aln 0 112 (by decide +kernel) rfl G0 ?_
          refine dq_iln 1 113 (by decide +kernel) rfl G1 ?_
          refine dq_iln 3 114 (by decide +kernel) rfl G3 ?_
          obtain ⟨h35, q36, hh⟩ := db hh
          obtain ⟨a37, q38, q36⟩ := db q36
          rw [dq_xV q36] at q38
          refine dq_cvi hD 284 300 5 2 [15] o0 [.int i1, .int i3] [] 117 [] (by decide +kernel) ap_300 ⟨⟨Nat.le_of_ble_eq_true rfl, by decide⟩, rfl, rfl⟩ (dq_ok8 [1, 1, 1] [] (dc_r (dc_i (dc_i dc_n))) dc_n (by decide +kernel)) (by decide +kernel) rfl q38 rfl ?_
          refine dq_S (.goto 9) 3 [] 126 _ [] (by decide +kernel) rfl ?_
          exact c295_126 hD hz hK9 _ _ _ _ _ _ G0 G1 G3 hh
      · refine dq_2 .ne 16 false 94 q26 (by decide +kernel) ?_
        refine dq_aln 0 95 (by decide +kernel) rfl G0 ?_
        obtain ⟨p39, q40, hh⟩ := db hh
        refine dq_gR 24 6 [15] 98 (by decide +kernel) rfl q40 ?_
        refine dq_aln 0 99 (by decide +kernel) rfl G0 ?_
        obtain ⟨x41, q42, hh⟩ := db hh
        refine dq_gI 278 5 [15] 102 (by decide +kernel) rfl q42 ?_
        refine dq_S (.iconst 0) 1 [] 103 _ [.int 0, .int x41, va_rf p39] (by decide +kernel) rfl ?_
        obtain ⟨h43, q44, hh⟩ := db hh
        refine dq_sI 104 (by decide +kernel) rfl q44 ?_
        refine dq_S (.goto 22) 3 [] 126 _ [] (by decide +kernel) rfl ?_
        exact c295_126 hD hz hK9 _ _ _ _ _ _ G0 G1 G3 hh
    · refine dq_1 .eq 9 false 50 q5 (by decide +kernel) ?_
      refine dq_incy 3 1 1 53 (by decide +kernel) ⟨rfl, by decide +kernel, by decide +kernel⟩ G3 ?_
      have g45 := dg_ne (i := 3) (u := .int (i3 + 1)) (by decide) (Or.inl (by decide)) G0
      have g46 := dg_ne (i := 3) (u := .int (i3 + 1)) (by decide) (Or.inl (by decide)) G1
      have g47 := dg_eq (lv) 3 (.int (i3 + 1))
      refine dq_S (.goto (-13)) 3 [] 40 _ [] (by decide +kernel) rfl ?_
      exact ih _ _ _ _ _ _ g45 g46 g47 hh
def b295_38 (L : Nat) (xs : Nat → Int32) (zf : Value) (D : dD) (w : Nat) (K9 : Option Nat → Int32 → Int32 → rm_H → Option dR) (o0 : Option Nat) (i1 : Int32) (h : rm_H) : Option dR :=
  b295_40 L xs zf D w K9 w o0 i1 0 h
theorem c295_38 {L : Nat} {xs : Nat → Int32} {zf : Value} {D : dD} {w k : Nat} {K9 : Option Nat → Int32 → Int32 → rm_H → Option dR} (hD : dO L xs zf D k) (hz : zf.category = 1) (hK9 : ∀ (o0 : Option Nat) (i1 : Int32) (i2 : Int32) (lv : rm_L) (h : rm_H) (r : dR), rm_get lv 0 = some (va_rf o0) → rm_get lv 1 = some (.int i1) → rm_get lv 2 = some (.int i2) → K9 o0 i1 i2 h = some r → dq L xs zf ah_M295 9 lv [] h (k + 1) r) : ∀ (o0 : Option Nat) (i1 : Int32) (lv : rm_L) (h : rm_H) (r : dR), rm_get lv 0 = some (va_rf o0) → rm_get lv 1 = some (.int i1) → b295_38 L xs zf D w K9  o0 i1 h = some r → dq L xs zf ah_M295 38 lv [] h (k + 1) r := by
  intro o0 i1 lv h r G0 G1 hh
  unfold b295_38 at hh
  refine dq_S (.iconst 0) 1 [] 39 _ [.int 0] (by decide +kernel) rfl ?_
  refine dq_isn 3 40 (by decide +kernel) (by decide +kernel) ?_
  have g1 := dg_ne (i := 3) (u := .int 0) (by decide) (Or.inl (by decide)) G0
  have g2 := dg_ne (i := 3) (u := .int 0) (by decide) (Or.inl (by decide)) G1
  have g3 := dg_eq (lv) 3 (.int 0)
  exact c295_40 hD hz hK9 _ _ _ _ _ _ _ g1 g2 g3 hh
def b295_13 (L : Nat) (xs : Nat → Int32) (zf : Value) (D : dD) (w : Nat) (K9 : Option Nat → Int32 → Int32 → rm_H → Option dR) : Nat → Option Nat → Int32 → rm_H → Option dR
  | 0, _, _, _ => none
  | n + 1, o0, i1, h =>
    (dgI L xs h 3 [15] o0).bind fun x1 =>
    if mx_f2 .ge i1 x1 = true then
      b295_38 L xs zf D w K9 o0 i1 h
    else
      (dgR L xs h 1 [15] o0).bind fun p4 =>
      (daI L xs h p4 i1).bind fun x6 =>
      if mx_f2 .ne x6 32 = true then
        b295_38 L xs zf D w K9 o0 i1 h
      else
        b295_13 L xs zf D w K9 n o0 (i1 + 1) h
theorem c295_13 {L : Nat} {xs : Nat → Int32} {zf : Value} {D : dD} {w k : Nat} {K9 : Option Nat → Int32 → Int32 → rm_H → Option dR} (hD : dO L xs zf D k) (hz : zf.category = 1) (hK9 : ∀ (o0 : Option Nat) (i1 : Int32) (i2 : Int32) (lv : rm_L) (h : rm_H) (r : dR), rm_get lv 0 = some (va_rf o0) → rm_get lv 1 = some (.int i1) → rm_get lv 2 = some (.int i2) → K9 o0 i1 i2 h = some r → dq L xs zf ah_M295 9 lv [] h (k + 1) r) : ∀ (n : Nat) (o0 : Option Nat) (i1 : Int32) (lv : rm_L) (h : rm_H) (r : dR), rm_get lv 0 = some (va_rf o0) → rm_get lv 1 = some (.int i1) → b295_13 L xs zf D w K9 n  o0 i1 h = some r → dq L xs zf ah_M295 13 lv [] h (k + 1) r := by
  intro n
  induction n with
  | zero =>
    intro o0 i1 lv h r G0 G1 hh
    cases hh
  | succ n ih =>
    intro o0 i1 lv h r G0 G1 hh
    rw [b295_13] at hh
    refine dq_iln 1 14 (by decide +kernel) rfl G1 ?_
    refine dq_aln 0 15 (by decide +kernel) rfl G0 ?_
    obtain ⟨x1, q2, hh⟩ := db hh
    refine dq_gI 266 3 [15] 18 (by decide +kernel) rfl q2 ?_
    rcases di hh with ⟨q3, hh⟩ | ⟨q3, hh⟩
    · refine dq_2 .ge 20 true 38 q3 (by decide +kernel) ?_
      exact c295_38 hD hz hK9 _ _ _ _ _ G0 G1 hh
    · refine dq_2 .ge 20 false 21 q3 (by decide +kernel) ?_
      refine dq_aln 0 22 (by decide +kernel) rfl G0 ?_
      obtain ⟨p4, q5, hh⟩ := db hh
      refine dq_gR 17 1 [15] 25 (by decide +kernel) rfl q5 ?_
      refine dq_iln 1 26 (by decide +kernel) rfl G1 ?_
      obtain ⟨x6, q7, hh⟩ := db hh
      refine dq_aI 27 (by decide +kernel) rfl q7 ?_
      refine dq_S (.bipush 32) 2 [] 29 _ [.int 32, .int x6] (by decide +kernel) rfl ?_
      rcases di hh with ⟨q8, hh⟩ | ⟨q8, hh⟩
      · refine dq_2 .ne 9 true 38 q8 (by decide +kernel) ?_
        exact c295_38 hD hz hK9 _ _ _ _ _ G0 G1 hh
      · refine dq_2 .ne 9 false 32 q8 (by decide +kernel) ?_
        refine dq_incy 1 1 1 35 (by decide +kernel) ⟨rfl, by decide +kernel, by decide +kernel⟩ G1 ?_
        have g9 := dg_ne (i := 1) (u := .int (i1 + 1)) (by decide) (Or.inr (drc _)) G0
        have g10 := dg_eq (lv) 1 (.int (i1 + 1))
        refine dq_S (.goto (-22)) 3 [] 13 _ [] (by decide +kernel) rfl ?_
        exact ih _ _ _ _ _ g9 g10 hh
def b295_9 (L : Nat) (xs : Nat → Int32) (zf : Value) (D : dD) (w : Nat) : Nat → Option Nat → Int32 → Int32 → rm_H → Option dR
  | 0, _, _, _, _ => none
  | n + 1, o0, i1, i2, h =>
    if mx_f1 .eq i2 = true then
      some (none, h)
    else
      b295_13 L xs zf D w (b295_9 L xs zf D w n) w o0 i1 h
theorem c295_9 {L : Nat} {xs : Nat → Int32} {zf : Value} {D : dD} {w k : Nat} (hD : dO L xs zf D k) (hz : zf.category = 1) : ∀ (n : Nat) (o0 : Option Nat) (i1 : Int32) (i2 : Int32) (lv : rm_L) (h : rm_H) (r : dR), rm_get lv 0 = some (va_rf o0) → rm_get lv 1 = some (.int i1) → rm_get lv 2 = some (.int i2) → b295_9 L xs zf D w n  o0 i1 i2 h = some r → dq L xs zf ah_M295 9 lv [] h (k + 1) r := by
  intro n
  induction n with
  | zero =>
    intro o0 i1 i2 lv h r G0 G1 G2 hh
    cases hh
  | succ n ih =>
    intro o0 i1 i2 lv h r G0 G1 G2 hh
    rw [b295_9] at hh
    refine dq_iln 2 10 (by decide +kernel) rfl G2 ?_
    rcases di hh with ⟨q1, hh⟩ | ⟨q1, hh⟩
    · refine dq_1 .eq 165 true 175 q1 (by decide +kernel) ?_
      cases hh
      exact dq_ret0 (by decide +kernel) rfl
    · refine dq_1 .eq 165 false 13 q1 (by decide +kernel) ?_
      exact c295_13 hD hz ih _ _ _ _ _ _ G0 G1 hh
def b295_0 (L : Nat) (xs : Nat → Int32) (zf : Value) (D : dD) (w : Nat) (o0 : Option Nat) (h : rm_H) : Option dR :=
  (dpF h 5 [15] o0 (.int 0)).bind fun h1 =>
  b295_9 L xs zf D w w o0 0 1 h1
theorem c295_0 {L : Nat} {xs : Nat → Int32} {zf : Value} {D : dD} {w k : Nat} (hD : dO L xs zf D k) (hz : zf.category = 1) : ∀ (o0 : Option Nat) (lv : rm_L) (h : rm_H) (r : dR), rm_get lv 0 = some (va_rf o0) → b295_0 L xs zf D w  o0 h = some r → dq L xs zf ah_M295 0 lv [] h (k + 1) r := by
  intro o0 lv h r G0 hh
  unfold b295_0 at hh
  refine dq_aln 0 1 (by decide +kernel) rfl G0 ?_
  refine dq_S (.iconst 0) 1 [] 2 _ [.int 0, va_rf o0] (by decide +kernel) rfl ?_
  obtain ⟨h1, q2, hh⟩ := db hh
  refine dq_put 278 5 [15] 5 (by decide +kernel) rfl q2 ?_
  refine dq_S (.iconst 0) 1 [] 6 _ [.int 0] (by decide +kernel) rfl ?_
  refine dq_isn 1 7 (by decide +kernel) (by decide +kernel) ?_
  have g3 := dg_ne (i := 1) (u := .int 0) (by decide) (Or.inr (drc _)) G0
  have g4 := dg_eq (lv) 1 (.int 0)
  refine dq_S (.iconst 1) 1 [] 8 _ [.int 1] (by decide +kernel) rfl ?_
  refine dq_isn 2 9 (by decide +kernel) (by decide +kernel) ?_
  have g5 := dg_ne (i := 2) (u := .int 1) (by decide) (Or.inl (by decide)) g3
  have g6 := dg_ne (i := 2) (u := .int 1) (by decide) (Or.inr rfl) g4
  have g7 := dg_eq (rm_set1 (lv) 1 (.int 0)) 2 (.int 1)
  exact c295_9 hD hz _ _ _ _ _ _ _ g5 g6 g7 hh
def f295 (L : Nat) (xs : Nat → Int32) (zf : Value) (D : dD) (w : Nat) (As : List Value) (h : rm_H) : Option dR := match As with
  | [v0] => (rm_rf v0).bind fun o0 => b295_0 L xs zf D w o0 h
  | _ => none
theorem d295 {L : Nat} {xs : Nat → Int32} {zf : Value} {D : dD} {w k : Nat} (hD : dO L xs zf D k) (hz : zf.category = 1) (As : List Value) (h : rm_H) (r : dR) (hh : f295 L xs zf D w As h = some r) : dq L xs zf ah_M295 0 (lv_args 0 As) [] h (k + 1) r := by
  unfold f295 at hh
  split at hh
  · obtain ⟨o0, e0, hb0⟩ := db hh
    have e0 := rm_rf_v _ _ e0
    subst e0
    refine c295_0 hD hz _ _ _ _ ?_ hb0
    all_goals (simp only [la_r, la_i, la_j]; rfl)
  · cases hh
def b296_49 (L : Nat) (xs : Nat → Int32) (zf : Value) (D : dD) (w : Nat) (s0 : Int32) (h : rm_H) : Option dR :=
  drI (some .boolean) s0 h
theorem c296_49 {L : Nat} {xs : Nat → Int32} {zf : Value} {D : dD} {w k : Nat} (hD : dO L xs zf D k) (hz : zf.category = 1) : ∀ (s0 : Int32) (lv : rm_L) (h : rm_H) (r : dR), b296_49 L xs zf D w  s0 h = some r → dq L xs zf ah_M296 49 lv [.int s0] h (k + 1) r := by
  intro s0 lv h r hh
  unfold b296_49 at hh
  exact dq_retI (some .boolean) (by decide +kernel) rfl hh
def b296_44 (L : Nat) (xs : Nat → Int32) (zf : Value) (D : dD) (w : Nat) (h : rm_H) : Option dR :=
  b296_49 L xs zf D w 1 h
theorem c296_44 {L : Nat} {xs : Nat → Int32} {zf : Value} {D : dD} {w k : Nat} (hD : dO L xs zf D k) (hz : zf.category = 1) : ∀ (lv : rm_L) (h : rm_H) (r : dR), b296_44 L xs zf D w  h = some r → dq L xs zf ah_M296 44 lv [] h (k + 1) r := by
  intro lv h r hh
  unfold b296_44 at hh
  refine dq_S (.iconst 1) 1 [] 45 _ [.int 1] (by decide +kernel) rfl ?_
  refine dq_S (.goto 4) 3 [] 49 _ [.int 1] (by decide +kernel) rfl ?_
  exact c296_49 hD hz _ _ _ _  hh
def b296_48 (L : Nat) (xs : Nat → Int32) (zf : Value) (D : dD) (w : Nat) (h : rm_H) : Option dR :=
  b296_49 L xs zf D w 0 h
theorem c296_48 {L : Nat} {xs : Nat → Int32} {zf : Value} {D : dD} {w k : Nat} (hD : dO L xs zf D k) (hz : zf.category = 1) : ∀ (lv : rm_L) (h : rm_H) (r : dR), b296_48 L xs zf D w  h = some r → dq L xs zf ah_M296 48 lv [] h (k + 1) r := by
  intro lv h r hh
  unfold b296_48 at hh
  refine dq_S (.iconst 0) 1 [] 49 _ [.int 0] (by decide +kernel) rfl ?_
  exact c296_49 hD hz _ _ _ _  hh
def b296_0 (L : Nat) (xs : Nat → Int32) (zf : Value) (D : dD) (w : Nat) (o0 : Option Nat) (i1 : Int32) (h : rm_H) : Option dR :=
  (dgI L xs h 3 [15] o0).bind fun x1 =>
  if mx_f2 .ge i1 x1 = true then
    b296_48 L xs zf D w h
  else
    (dgR L xs h 1 [15] o0).bind fun p4 =>
    (daI L xs h p4 i1).bind fun x6 =>
    ((D 297 [.int x6] h).bind dxI).bind fun x8 =>
    if mx_f1 .ne x8.1 = true then
      b296_44 L xs zf D w x8.2
    else
      (dgR L xs x8.2 1 [15] o0).bind fun p13 =>
      (daI L xs x8.2 p13 i1).bind fun x15 =>
      ((D 298 [.int x15] x8.2).bind dxI).bind fun x17 =>
      if mx_f1 .ne x17.1 = true then
        b296_44 L xs zf D w x17.2
      else
        (dgR L xs x17.2 1 [15] o0).bind fun p22 =>
        (daI L xs x17.2 p22 i1).bind fun x24 =>
        ((D 299 [.int x24] x17.2).bind dxI).bind fun x26 =>
        if mx_f1 .eq x26.1 = true then
          b296_48 L xs zf D w x26.2
        else
          b296_44 L xs zf D w x26.2
theorem c296_0 {L : Nat} {xs : Nat → Int32} {zf : Value} {D : dD} {w k : Nat} (hD : dO L xs zf D k) (hz : zf.category = 1) : ∀ (o0 : Option Nat) (i1 : Int32) (lv : rm_L) (h : rm_H) (r : dR), rm_get lv 0 = some (va_rf o0) → rm_get lv 1 = some (.int i1) → b296_0 L xs zf D w  o0 i1 h = some r → dq L xs zf ah_M296 0 lv [] h (k + 1) r := by
  intro o0 i1 lv h r G0 G1 hh
  unfold b296_0 at hh
  refine dq_iln 1 1 (by decide +kernel) rfl G1 ?_
  refine dq_aln 0 2 (by decide +kernel) rfl G0 ?_
  obtain ⟨x1, q2, hh⟩ := db hh
  refine dq_gI 266 3 [15] 5 (by decide +kernel) rfl q2 ?_
  rcases di hh with ⟨q3, hh⟩ | ⟨q3, hh⟩
  · refine dq_2 .ge 43 true 48 q3 (by decide +kernel) ?_
    exact c296_48 hD hz  _ _ _  hh
  · refine dq_2 .ge 43 false 8 q3 (by decide +kernel) ?_
    refine dq_aln 0 9 (by decide +kernel) rfl G0 ?_
    obtain ⟨p4, q5, hh⟩ := db hh
    refine dq_gR 17 1 [15] 12 (by decide +kernel) rfl q5 ?_
    refine dq_iln 1 13 (by decide +kernel) rfl G1 ?_
    obtain ⟨x6, q7, hh⟩ := db hh
    refine dq_aI 14 (by decide +kernel) rfl q7 ?_
    obtain ⟨x8, q9, hh⟩ := db hh
    obtain ⟨a10, q11, q9⟩ := db q9
    rw [dq_xI q9] at q11
    refine dq_cst hD 268 297 0 1 [.int x6] [] 17 [.int x8.1] (by decide +kernel) ap_297 ⟨⟨Nat.le_of_ble_eq_true rfl, by decide⟩, rfl, rfl⟩ (dq_ok8 [1] [] (dc_i dc_n) dc_n (by decide +kernel)) (by decide +kernel) rfl q11 rfl ?_
    rcases di hh with ⟨q12, hh⟩ | ⟨q12, hh⟩
    · refine dq_1 .ne 27 true 44 q12 (by decide +kernel) ?_
      exact c296_44 hD hz  _ _ _  hh
    · refine dq_1 .ne 27 false 20 q12 (by decide +kernel) ?_
      refine dq_aln 0 21 (by decide +kernel) rfl G0 ?_
      obtain ⟨p13, q14, hh⟩ := db hh
      refine dq_gR 17 1 [15] 24 (by decide +kernel) rfl q14 ?_
      refine dq_iln 1 25 (by decide +kernel) rfl G1 ?_
      obtain ⟨x15, q16, hh⟩ := db hh
      refine dq_aI 26 (by decide +kernel) rfl q16 ?_
      obtain ⟨x17, q18, hh⟩ := db hh
      obtain ⟨a19, q20, q18⟩ := db q18
      rw [dq_xI q18] at q20
      refine dq_cst hD 272 298 0 1 [.int x15] [] 29 [.int x17.1] (by decide +kernel) ap_298 ⟨⟨Nat.le_of_ble_eq_true rfl, by decide⟩, rfl, rfl⟩ (dq_ok8 [1] [] (dc_i dc_n) dc_n (by decide +kernel)) (by decide +kernel) rfl q20 rfl ?_
      rcases di hh with ⟨q21, hh⟩ | ⟨q21, hh⟩
      · refine dq_1 .ne 15 true 44 q21 (by decide +kernel) ?_
        exact c296_44 hD hz  _ _ _  hh
      · refine dq_1 .ne 15 false 32 q21 (by decide +kernel) ?_
        refine dq_aln 0 33 (by decide +kernel) rfl G0 ?_
        obtain ⟨p22, q23, hh⟩ := db hh
        refine dq_gR 17 1 [15] 36 (by decide +kernel) rfl q23 ?_
        refine dq_iln 1 37 (by decide +kernel) rfl G1 ?_
        obtain ⟨x24, q25, hh⟩ := db hh
        refine dq_aI 38 (by decide +kernel) rfl q25 ?_
        obtain ⟨x26, q27, hh⟩ := db hh
        obtain ⟨a28, q29, q27⟩ := db q27
        rw [dq_xI q27] at q29
        refine dq_cst hD 275 299 0 1 [.int x24] [] 41 [.int x26.1] (by decide +kernel) ap_299 ⟨⟨Nat.le_of_ble_eq_true rfl, by decide⟩, rfl, rfl⟩ (dq_ok8 [1] [] (dc_i dc_n) dc_n (by decide +kernel)) (by decide +kernel) rfl q29 rfl ?_
        rcases di hh with ⟨q30, hh⟩ | ⟨q30, hh⟩
        · refine dq_1 .eq 7 true 48 q30 (by decide +kernel) ?_
          exact c296_48 hD hz  _ _ _  hh
        · refine dq_1 .eq 7 false 44 q30 (by decide +kernel) ?_
          exact c296_44 hD hz  _ _ _  hh
def f296 (L : Nat) (xs : Nat → Int32) (zf : Value) (D : dD) (w : Nat) (As : List Value) (h : rm_H) : Option dR := match As with
  | [v0, .int i1] => (rm_rf v0).bind fun o0 => b296_0 L xs zf D w o0 i1 h
  | _ => none
theorem d296 {L : Nat} {xs : Nat → Int32} {zf : Value} {D : dD} {w k : Nat} (hD : dO L xs zf D k) (hz : zf.category = 1) (As : List Value) (h : rm_H) (r : dR) (hh : f296 L xs zf D w As h = some r) : dq L xs zf ah_M296 0 (lv_args 0 As) [] h (k + 1) r := by
  unfold f296 at hh
  split at hh
  · obtain ⟨o0, e0, hb0⟩ := db hh
    have e0 := rm_rf_v _ _ e0
    subst e0
    refine c296_0 hD hz _ _ _ _ _ ?_ ?_ hb0
    all_goals (simp only [la_r, la_i, la_j]; rfl)
  · cases hh
def b297_17 (L : Nat) (xs : Nat → Int32) (zf : Value) (D : dD) (w : Nat) (s0 : Int32) (h : rm_H) : Option dR :=
  drI (some .boolean) s0 h
theorem c297_17 {L : Nat} {xs : Nat → Int32} {zf : Value} {D : dD} {w k : Nat} (hD : dO L xs zf D k) (hz : zf.category = 1) : ∀ (s0 : Int32) (lv : rm_L) (h : rm_H) (r : dR), b297_17 L xs zf D w  s0 h = some r → dq L xs zf ah_M297 17 lv [.int s0] h (k + 1) r := by
  intro s0 lv h r hh
  unfold b297_17 at hh
  exact dq_retI (some .boolean) (by decide +kernel) rfl hh
def b297_16 (L : Nat) (xs : Nat → Int32) (zf : Value) (D : dD) (w : Nat) (h : rm_H) : Option dR :=
  b297_17 L xs zf D w 0 h
theorem c297_16 {L : Nat} {xs : Nat → Int32} {zf : Value} {D : dD} {w k : Nat} (hD : dO L xs zf D k) (hz : zf.category = 1) : ∀ (lv : rm_L) (h : rm_H) (r : dR), b297_16 L xs zf D w  h = some r → dq L xs zf ah_M297 16 lv [] h (k + 1) r := by
  intro lv h r hh
  unfold b297_16 at hh
  refine dq_S (.iconst 0) 1 [] 17 _ [.int 0] (by decide +kernel) rfl ?_
  exact c297_17 hD hz _ _ _ _  hh
def b297_0 (L : Nat) (xs : Nat → Int32) (zf : Value) (D : dD) (w : Nat) (i0 : Int32) (h : rm_H) : Option dR :=
  if mx_f2 .lt i0 97 = true then
    b297_16 L xs zf D w h
  else
    if mx_f2 .gt i0 122 = true then
      b297_16 L xs zf D w h
    else
      b297_17 L xs zf D w 1 h
theorem c297_0 {L : Nat} {xs : Nat → Int32} {zf : Value} {D : dD} {w k : Nat} (hD : dO L xs zf D k) (hz : zf.category = 1) : ∀ (i0 : Int32) (lv : rm_L) (h : rm_H) (r : dR), rm_get lv 0 = some (.int i0) → b297_0 L xs zf D w  i0 h = some r → dq L xs zf ah_M297 0 lv [] h (k + 1) r := by
  intro i0 lv h r G0 hh
  unfold b297_0 at hh
  refine dq_iln 0 1 (by decide +kernel) rfl G0 ?_
  refine dq_S (.bipush 97) 2 [] 3 _ [.int 97, .int i0] (by decide +kernel) rfl ?_
  rcases di hh with ⟨q1, hh⟩ | ⟨q1, hh⟩
  · refine dq_2 .lt 13 true 16 q1 (by decide +kernel) ?_
    exact c297_16 hD hz  _ _ _  hh
  · refine dq_2 .lt 13 false 6 q1 (by decide +kernel) ?_
    refine dq_iln 0 7 (by decide +kernel) rfl G0 ?_
    refine dq_S (.bipush 122) 2 [] 9 _ [.int 122, .int i0] (by decide +kernel) rfl ?_
    rcases di hh with ⟨q2, hh⟩ | ⟨q2, hh⟩
    · refine dq_2 .gt 7 true 16 q2 (by decide +kernel) ?_
      exact c297_16 hD hz  _ _ _  hh
    · refine dq_2 .gt 7 false 12 q2 (by decide +kernel) ?_
      refine dq_S (.iconst 1) 1 [] 13 _ [.int 1] (by decide +kernel) rfl ?_
      refine dq_S (.goto 4) 3 [] 17 _ [.int 1] (by decide +kernel) rfl ?_
      exact c297_17 hD hz _ _ _ _  hh
def f297 (L : Nat) (xs : Nat → Int32) (zf : Value) (D : dD) (w : Nat) (As : List Value) (h : rm_H) : Option dR := match As with
  | [.int i0] => b297_0 L xs zf D w i0 h
  | _ => none
theorem d297 {L : Nat} {xs : Nat → Int32} {zf : Value} {D : dD} {w k : Nat} (hD : dO L xs zf D k) (hz : zf.category = 1) (As : List Value) (h : rm_H) (r : dR) (hh : f297 L xs zf D w As h = some r) : dq L xs zf ah_M297 0 (lv_args 0 As) [] h (k + 1) r := by
  unfold f297 at hh
  split at hh
  · refine c297_0 hD hz _ _ _ _ ?_ hh
    all_goals (simp only [la_r, la_i, la_j]; rfl)
  · cases hh
def b298_17 (L : Nat) (xs : Nat → Int32) (zf : Value) (D : dD) (w : Nat) (s0 : Int32) (h : rm_H) : Option dR :=
  drI (some .boolean) s0 h
theorem c298_17 {L : Nat} {xs : Nat → Int32} {zf : Value} {D : dD} {w k : Nat} (hD : dO L xs zf D k) (hz : zf.category = 1) : ∀ (s0 : Int32) (lv : rm_L) (h : rm_H) (r : dR), b298_17 L xs zf D w  s0 h = some r → dq L xs zf ah_M298 17 lv [.int s0] h (k + 1) r := by
  intro s0 lv h r hh
  unfold b298_17 at hh
  exact dq_retI (some .boolean) (by decide +kernel) rfl hh
def b298_16 (L : Nat) (xs : Nat → Int32) (zf : Value) (D : dD) (w : Nat) (h : rm_H) : Option dR :=
  b298_17 L xs zf D w 0 h
theorem c298_16 {L : Nat} {xs : Nat → Int32} {zf : Value} {D : dD} {w k : Nat} (hD : dO L xs zf D k) (hz : zf.category = 1) : ∀ (lv : rm_L) (h : rm_H) (r : dR), b298_16 L xs zf D w  h = some r → dq L xs zf ah_M298 16 lv [] h (k + 1) r := by
  intro lv h r hh
  unfold b298_16 at hh
  refine dq_S (.iconst 0) 1 [] 17 _ [.int 0] (by decide +kernel) rfl ?_
  exact c298_17 hD hz _ _ _ _  hh
def b298_0 (L : Nat) (xs : Nat → Int32) (zf : Value) (D : dD) (w : Nat) (i0 : Int32) (h : rm_H) : Option dR :=
  if mx_f2 .lt i0 65 = true then
    b298_16 L xs zf D w h
  else
    if mx_f2 .gt i0 90 = true then
      b298_16 L xs zf D w h
    else
      b298_17 L xs zf D w 1 h
theorem c298_0 {L : Nat} {xs : Nat → Int32} {zf : Value} {D : dD} {w k : Nat} (hD : dO L xs zf D k) (hz : zf.category = 1) : ∀ (i0 : Int32) (lv : rm_L) (h : rm_H) (r : dR), rm_get lv 0 = some (.int i0) → b298_0 L xs zf D w  i0 h = some r → dq L xs zf ah_M298 0 lv [] h (k + 1) r := by
  intro i0 lv h r G0 hh
  unfold b298_0 at hh
  refine dq_iln 0 1 (by decide +kernel) rfl G0 ?_
  refine dq_S (.bipush 65) 2 [] 3 _ [.int 65, .int i0] (by decide +kernel) rfl ?_
  rcases di hh with ⟨q1, hh⟩ | ⟨q1, hh⟩
  · refine dq_2 .lt 13 true 16 q1 (by decide +kernel) ?_
    exact c298_16 hD hz  _ _ _  hh
  · refine dq_2 .lt 13 false 6 q1 (by decide +kernel) ?_
    refine dq_iln 0 7 (by decide +kernel) rfl G0 ?_
    refine dq_S (.bipush 90) 2 [] 9 _ [.int 90, .int i0] (by decide +kernel) rfl ?_
    rcases di hh with ⟨q2, hh⟩ | ⟨q2, hh⟩
    · refine dq_2 .gt 7 true 16 q2 (by decide +kernel) ?_
      exact c298_16 hD hz  _ _ _  hh
    · refine dq_2 .gt 7 false 12 q2 (by decide +kernel) ?_
      refine dq_S (.iconst 1) 1 [] 13 _ [.int 1] (by decide +kernel) rfl ?_
      refine dq_S (.goto 4) 3 [] 17 _ [.int 1] (by decide +kernel) rfl ?_
      exact c298_17 hD hz _ _ _ _  hh
def f298 (L : Nat) (xs : Nat → Int32) (zf : Value) (D : dD) (w : Nat) (As : List Value) (h : rm_H) : Option dR := match As with
  | [.int i0] => b298_0 L xs zf D w i0 h
  | _ => none
theorem d298 {L : Nat} {xs : Nat → Int32} {zf : Value} {D : dD} {w k : Nat} (hD : dO L xs zf D k) (hz : zf.category = 1) (As : List Value) (h : rm_H) (r : dR) (hh : f298 L xs zf D w As h = some r) : dq L xs zf ah_M298 0 (lv_args 0 As) [] h (k + 1) r := by
  unfold f298 at hh
  split at hh
  · refine c298_0 hD hz _ _ _ _ ?_ hh
    all_goals (simp only [la_r, la_i, la_j]; rfl)
  · cases hh
def b299_17 (L : Nat) (xs : Nat → Int32) (zf : Value) (D : dD) (w : Nat) (s0 : Int32) (h : rm_H) : Option dR :=
  drI (some .boolean) s0 h
theorem c299_17 {L : Nat} {xs : Nat → Int32} {zf : Value} {D : dD} {w k : Nat} (hD : dO L xs zf D k) (hz : zf.category = 1) : ∀ (s0 : Int32) (lv : rm_L) (h : rm_H) (r : dR), b299_17 L xs zf D w  s0 h = some r → dq L xs zf ah_M299 17 lv [.int s0] h (k + 1) r := by
  intro s0 lv h r hh
  unfold b299_17 at hh
  exact dq_retI (some .boolean) (by decide +kernel) rfl hh
def b299_16 (L : Nat) (xs : Nat → Int32) (zf : Value) (D : dD) (w : Nat) (h : rm_H) : Option dR :=
  b299_17 L xs zf D w 0 h
theorem c299_16 {L : Nat} {xs : Nat → Int32} {zf : Value} {D : dD} {w k : Nat} (hD : dO L xs zf D k) (hz : zf.category = 1) : ∀ (lv : rm_L) (h : rm_H) (r : dR), b299_16 L xs zf D w  h = some r → dq L xs zf ah_M299 16 lv [] h (k + 1) r := by
  intro lv h r hh
  unfold b299_16 at hh
  refine dq_S (.iconst 0) 1 [] 17 _ [.int 0] (by decide +kernel) rfl ?_
  exact c299_17 hD hz _ _ _ _  hh
def b299_0 (L : Nat) (xs : Nat → Int32) (zf : Value) (D : dD) (w : Nat) (i0 : Int32) (h : rm_H) : Option dR :=
  if mx_f2 .lt i0 48 = true then
    b299_16 L xs zf D w h
  else
    if mx_f2 .gt i0 57 = true then
      b299_16 L xs zf D w h
    else
      b299_17 L xs zf D w 1 h
theorem c299_0 {L : Nat} {xs : Nat → Int32} {zf : Value} {D : dD} {w k : Nat} (hD : dO L xs zf D k) (hz : zf.category = 1) : ∀ (i0 : Int32) (lv : rm_L) (h : rm_H) (r : dR), rm_get lv 0 = some (.int i0) → b299_0 L xs zf D w  i0 h = some r → dq L xs zf ah_M299 0 lv [] h (k + 1) r := by
  intro i0 lv h r G0 hh
  unfold b299_0 at hh
  refine dq_iln 0 1 (by decide +kernel) rfl G0 ?_
  refine dq_S (.bipush 48) 2 [] 3 _ [.int 48, .int i0] (by decide +kernel) rfl ?_
  rcases di hh with ⟨q1, hh⟩ | ⟨q1, hh⟩
  · refine dq_2 .lt 13 true 16 q1 (by decide +kernel) ?_
    exact c299_16 hD hz  _ _ _  hh
  · refine dq_2 .lt 13 false 6 q1 (by decide +kernel) ?_
    refine dq_iln 0 7 (by decide +kernel) rfl G0 ?_
    refine dq_S (.bipush 57) 2 [] 9 _ [.int 57, .int i0] (by decide +kernel) rfl ?_
    rcases di hh with ⟨q2, hh⟩ | ⟨q2, hh⟩
    · refine dq_2 .gt 7 true 16 q2 (by decide +kernel) ?_
      exact c299_16 hD hz  _ _ _  hh
    · refine dq_2 .gt 7 false 12 q2 (by decide +kernel) ?_
      refine dq_S (.iconst 1) 1 [] 13 _ [.int 1] (by decide +kernel) rfl ?_
      refine dq_S (.goto 4) 3 [] 17 _ [.int 1] (by decide +kernel) rfl ?_
      exact c299_17 hD hz _ _ _ _  hh
def f299 (L : Nat) (xs : Nat → Int32) (zf : Value) (D : dD) (w : Nat) (As : List Value) (h : rm_H) : Option dR := match As with
  | [.int i0] => b299_0 L xs zf D w i0 h
  | _ => none
theorem d299 {L : Nat} {xs : Nat → Int32} {zf : Value} {D : dD} {w k : Nat} (hD : dO L xs zf D k) (hz : zf.category = 1) (As : List Value) (h : rm_H) (r : dR) (hh : f299 L xs zf D w As h = some r) : dq L xs zf ah_M299 0 (lv_args 0 As) [] h (k + 1) r := by
  unfold f299 at hh
  split at hh
  · refine c299_0 hD hz _ _ _ _ ?_ hh
    all_goals (simp only [la_r, la_i, la_j]; rfl)
  · cases hh
def b300_96 (L : Nat) (xs : Nat → Int32) (zf : Value) (D : dD) (w : Nat) (K14 : Option Nat → Int32 → Int32 → Int32 → Int32 → Int32 → Int64 → Int32 → rm_H → Option dR) (o0 : Option Nat) (i1 : Int32) (i2 : Int32) (i3 : Int32) (i4 : Int32) (j6 : Int64) (i8 : Int32) (s0 : Int32) (h : rm_H) : Option dR :=
  (dgR L xs h 1 [15] o0).bind fun p9 =>
  (daI L xs h p9 i8).bind fun x11 =>
  K14 o0 i1 i2 i3 i4 s0 ((j6 <<< ((8 : Int32).toInt64 &&& 63)) ||| (Int32.toInt64 x11)) (i8 + 1) h
theorem c300_96 {L : Nat} {xs : Nat → Int32} {zf : Value} {D : dD} {w k : Nat} {K14 : Option Nat → Int32 → Int32 → Int32 → Int32 → Int32 → Int64 → Int32 → rm_H → Option dR} (hD : dO L xs zf D k) (hz : zf.category = 1) (hK14 : ∀ (o0 : Option Nat) (i1 : Int32) (i2 : Int32) (i3 : Int32) (i4 : Int32) (i5 : Int32) (j6 : Int64) (i8 : Int32) (lv : rm_L) (h : rm_H) (r : dR), rm_get lv 0 = some (va_rf o0) → rm_get lv 1 = some (.int i1) → rm_get lv 2 = some (.int i2) → rm_get lv 3 = some (.int i3) → rm_get lv 4 = some (.int i4) → rm_get lv 5 = some (.int i5) → rm_get lv 6 = some (.long j6) → rm_get lv 8 = some (.int i8) → K14 o0 i1 i2 i3 i4 i5 j6 i8 h = some r → dq L xs zf ah_M300 14 lv [] h (k + 1) r) : ∀ (o0 : Option Nat) (i1 : Int32) (i2 : Int32) (i3 : Int32) (i4 : Int32) (j6 : Int64) (i8 : Int32) (s0 : Int32) (lv : rm_L) (h : rm_H) (r : dR), rm_get lv 0 = some (va_rf o0) → rm_get lv 1 = some (.int i1) → rm_get lv 2 = some (.int i2) → rm_get lv 3 = some (.int i3) → rm_get lv 4 = some (.int i4) → rm_get lv 6 = some (.long j6) → rm_get lv 8 = some (.int i8) → b300_96 L xs zf D w K14  o0 i1 i2 i3 i4 j6 i8 s0 h = some r → dq L xs zf ah_M300 96 lv [.int s0] h (k + 1) r := by
  intro o0 i1 i2 i3 i4 j6 i8 s0 lv h r G0 G1 G2 G3 G4 G6 G8 hh
  unfold b300_96 at hh
  refine dq_is 5 98 (by decide +kernel) (by decide +kernel) ?_
  have g1 := dg_ne (i := 5) (u := .int s0) (by decide) (Or.inl (by decide)) G0
  have g2 := dg_ne (i := 5) (u := .int s0) (by decide) (Or.inl (by decide)) G1
  have g3 := dg_ne (i := 5) (u := .int s0) (by decide) (Or.inl (by decide)) G2
  have g4 := dg_ne (i := 5) (u := .int s0) (by decide) (Or.inl (by decide)) G3
  have g5 := dg_ne (i := 5) (u := .int s0) (by decide) (Or.inr rfl) G4
  have g6 := dg_ne (i := 5) (u := .int s0) (by decide) (Or.inl (by decide)) G6
  have g7 := dg_ne (i := 5) (u := .int s0) (by decide) (Or.inl (by decide)) G8
  have g8 := dg_eq (lv) 5 (.int s0)
  refine dq_ll 6 100 (by decide +kernel) rfl g6 ?_
  refine dq_S (.bipush 8) 2 [] 102 _ [.int 8, .long j6] (by decide +kernel) rfl ?_
  refine dq_S (.lshl) 1 [] 103 _ [.long (j6 <<< ((8 : Int32).toInt64 &&& 63))] (by decide +kernel) rfl ?_
  refine dq_aln 0 104 (by decide +kernel) rfl g1 ?_
  obtain ⟨p9, q10, hh⟩ := db hh
  refine dq_gR 17 1 [15] 107 (by decide +kernel) rfl q10 ?_
  refine dq_il 8 109 (by decide +kernel) rfl g7 ?_
  obtain ⟨x11, q12, hh⟩ := db hh
  refine dq_aI 110 (by decide +kernel) rfl q12 ?_
  refine dq_S (.i2l) 1 [] 111 _ [.long (Int32.toInt64 x11), .long (j6 <<< ((8 : Int32).toInt64 &&& 63))] (by decide +kernel) rfl ?_
  refine dq_S (.lor) 1 [] 112 _ [.long ((j6 <<< ((8 : Int32).toInt64 &&& 63)) ||| (Int32.toInt64 x11))] (by decide +kernel) rfl ?_
  refine dq_ls 6 114 (by decide +kernel) (by decide +kernel) ?_
  have g13 := dg_ne2 (i := 6) (u := .long ((j6 <<< ((8 : Int32).toInt64 &&& 63)) ||| (Int32.toInt64 x11))) (by decide) (by decide) (Or.inl (by decide)) g1
  have g14 := dg_ne2 (i := 6) (u := .long ((j6 <<< ((8 : Int32).toInt64 &&& 63)) ||| (Int32.toInt64 x11))) (by decide) (by decide) (Or.inl (by decide)) g2
  have g15 := dg_ne2 (i := 6) (u := .long ((j6 <<< ((8 : Int32).toInt64 &&& 63)) ||| (Int32.toInt64 x11))) (by decide) (by decide) (Or.inl (by decide)) g3
  have g16 := dg_ne2 (i := 6) (u := .long ((j6 <<< ((8 : Int32).toInt64 &&& 63)) ||| (Int32.toInt64 x11))) (by decide) (by decide) (Or.inl (by decide)) g4
  have g17 := dg_ne2 (i := 6) (u := .long ((j6 <<< ((8 : Int32).toInt64 &&& 63)) ||| (Int32.toInt64 x11))) (by decide) (by decide) (Or.inl (by decide)) g5
  have g18 := dg_ne2 (i := 6) (u := .long ((j6 <<< ((8 : Int32).toInt64 &&& 63)) ||| (Int32.toInt64 x11))) (by decide) (by decide) (Or.inl (by decide)) g7
  have g19 := dg_ne2 (i := 6) (u := .long ((j6 <<< ((8 : Int32).toInt64 &&& 63)) ||| (Int32.toInt64 x11))) (by decide) (by decide) (Or.inr rfl) g8
  have g20 := dg_eq2 (rm_set1 (lv) 5 (.int s0)) 6 (.long ((j6 <<< ((8 : Int32).toInt64 &&& 63)) ||| (Int32.toInt64 x11)))
  refine dq_incy 8 1 1 117 (by decide +kernel) ⟨rfl, by decide +kernel, by decide +kernel⟩ g18 ?_
  have g21 := dg_ne (i := 8) (u := .int (i8 + 1)) (by decide) (Or.inl (by decide)) g13
  have g22 := dg_ne (i := 8) (u := .int (i8 + 1)) (by decide) (Or.inl (by decide)) g14
  have g23 := dg_ne (i := 8) (u := .int (i8 + 1)) (by decide) (Or.inl (by decide)) g15
  have g24 := dg_ne (i := 8) (u := .int (i8 + 1)) (by decide) (Or.inl (by decide)) g16
  have g25 := dg_ne (i := 8) (u := .int (i8 + 1)) (by decide) (Or.inl (by decide)) g17
  have g26 := dg_ne (i := 8) (u := .int (i8 + 1)) (by decide) (Or.inl (by decide)) g19
  have g27 := dg_ne (i := 8) (u := .int (i8 + 1)) (by decide) (Or.inl (by decide)) g20
  have g28 := dg_eq (rm_set2 (rm_set1 (lv) 5 (.int s0)) 6 (.long ((j6 <<< ((8 : Int32).toInt64 &&& 63)) ||| (Int32.toInt64 x11)))) 8 (.int (i8 + 1))
  refine dq_S (.goto (-103)) 3 [] 14 _ [] (by decide +kernel) rfl ?_
  exact hK14 _ _ _ _ _ _ _ _ _ _ _ g21 g22 g23 g24 g25 g26 g27 g28 hh
def b300_68 (L : Nat) (xs : Nat → Int32) (zf : Value) (D : dD) (w : Nat) (K14 : Option Nat → Int32 → Int32 → Int32 → Int32 → Int32 → Int64 → Int32 → rm_H → Option dR) (o0 : Option Nat) (i1 : Int32) (i2 : Int32) (i3 : Int32) (i5 : Int32) (j6 : Int64) (i8 : Int32) (s0 : Int32) (h : rm_H) : Option dR :=
  if mx_f2 .ge i2 10 = true then
    b300_96 L xs zf D w K14 o0 i1 i2 i3 s0 j6 i8 0 h
  else
    (dgR L xs h 1 [15] o0).bind fun p10 =>
    (daI L xs h p10 i8).bind fun x12 =>
    b300_96 L xs zf D w K14 o0 i1 i2 i3 s0 j6 i8 (((10 * i5) + x12) - 48) h
theorem c300_68 {L : Nat} {xs : Nat → Int32} {zf : Value} {D : dD} {w k : Nat} {K14 : Option Nat → Int32 → Int32 → Int32 → Int32 → Int32 → Int64 → Int32 → rm_H → Option dR} (hD : dO L xs zf D k) (hz : zf.category = 1) (hK14 : ∀ (o0 : Option Nat) (i1 : Int32) (i2 : Int32) (i3 : Int32) (i4 : Int32) (i5 : Int32) (j6 : Int64) (i8 : Int32) (lv : rm_L) (h : rm_H) (r : dR), rm_get lv 0 = some (va_rf o0) → rm_get lv 1 = some (.int i1) → rm_get lv 2 = some (.int i2) → rm_get lv 3 = some (.int i3) → rm_get lv 4 = some (.int i4) → rm_get lv 5 = some (.int i5) → rm_get lv 6 = some (.long j6) → rm_get lv 8 = some (.int i8) → K14 o0 i1 i2 i3 i4 i5 j6 i8 h = some r → dq L xs zf ah_M300 14 lv [] h (k + 1) r) : ∀ (o0 : Option Nat) (i1 : Int32) (i2 : Int32) (i3 : Int32) (i5 : Int32) (j6 : Int64) (i8 : Int32) (s0 : Int32) (lv : rm_L) (h : rm_H) (r : dR), rm_get lv 0 = some (va_rf o0) → rm_get lv 1 = some (.int i1) → rm_get lv 2 = some (.int i2) → rm_get lv 3 = some (.int i3) → rm_get lv 5 = some (.int i5) → rm_get lv 6 = some (.long j6) → rm_get lv 8 = some (.int i8) → b300_68 L xs zf D w K14  o0 i1 i2 i3 i5 j6 i8 s0 h = some r → dq L xs zf ah_M300 68 lv [.int s0] h (k + 1) r := by
  intro o0 i1 i2 i3 i5 j6 i8 s0 lv h r G0 G1 G2 G3 G5 G6 G8 hh
  unfold b300_68 at hh
  refine dq_is 4 70 (by decide +kernel) (by decide +kernel) ?_
  have g1 := dg_ne (i := 4) (u := .int s0) (by decide) (Or.inl (by decide)) G0
  have g2 := dg_ne (i := 4) (u := .int s0) (by decide) (Or.inl (by decide)) G1
  have g3 := dg_ne (i := 4) (u := .int s0) (by decide) (Or.inl (by decide)) G2
  have g4 := dg_ne (i := 4) (u := .int s0) (by decide) (Or.inr rfl) G3
  have g5 := dg_ne (i := 4) (u := .int s0) (by decide) (Or.inl (by decide)) G5
  have g6 := dg_ne (i := 4) (u := .int s0) (by decide) (Or.inl (by decide)) G6
  have g7 := dg_ne (i := 4) (u := .int s0) (by decide) (Or.inl (by decide)) G8
  have g8 := dg_eq (lv) 4 (.int s0)
  refine dq_iln 2 71 (by decide +kernel) rfl g3 ?_
  refine dq_S (.bipush 10) 2 [] 73 _ [.int 10, .int i2] (by decide +kernel) rfl ?_
  rcases di hh with ⟨q9, hh⟩ | ⟨q9, hh⟩
  · refine dq_2 .ge 22 true 95 q9 (by decide +kernel) ?_
    refine dq_S (.iconst 0) 1 [] 96 _ [.int 0] (by decide +kernel) rfl ?_
    exact c300_96 hD hz hK14 _ _ _ _ _ _ _ _ _ _ _ g1 g2 g3 g4 g8 g6 g7 hh
  · refine dq_2 .ge 22 false 76 q9 (by decide +kernel) ?_
    refine dq_S (.bipush 10) 2 [] 78 _ [.int 10] (by decide +kernel) rfl ?_
    refine dq_il 5 80 (by decide +kernel) rfl g5 ?_
    refine dq_S (.imul) 1 [] 81 _ [.int (10 * i5)] (by decide +kernel) rfl ?_
    refine dq_aln 0 82 (by decide +kernel) rfl g1 ?_
    obtain ⟨p10, q11, hh⟩ := db hh
    refine dq_gR 17 1 [15] 85 (by decide +kernel) rfl q11 ?_
    refine dq_il 8 87 (by decide +kernel) rfl g7 ?_
    obtain ⟨x12, q13, hh⟩ := db hh
    refine dq_aI 88 (by decide +kernel) rfl q13 ?_
    refine dq_S (.iadd) 1 [] 89 _ [.int ((10 * i5) + x12)] (by decide +kernel) rfl ?_
    refine dq_S (.bipush 48) 2 [] 91 _ [.int 48, .int ((10 * i5) + x12)] (by decide +kernel) rfl ?_
    refine dq_S (.isub) 1 [] 92 _ [.int (((10 * i5) + x12) - 48)] (by decide +kernel) rfl ?_
    refine dq_S (.goto 4) 3 [] 96 _ [.int (((10 * i5) + x12) - 48)] (by decide +kernel) rfl ?_
    exact c300_96 hD hz hK14 _ _ _ _ _ _ _ _ _ _ _ g1 g2 g3 g4 g8 g6 g7 hh
def b300_67 (L : Nat) (xs : Nat → Int32) (zf : Value) (D : dD) (w : Nat) (K14 : Option Nat → Int32 → Int32 → Int32 → Int32 → Int32 → Int64 → Int32 → rm_H → Option dR) (o0 : Option Nat) (i1 : Int32) (i2 : Int32) (i3 : Int32) (i5 : Int32) (j6 : Int64) (i8 : Int32) (h : rm_H) : Option dR :=
  b300_68 L xs zf D w K14 o0 i1 i2 i3 i5 j6 i8 0 h
theorem c300_67 {L : Nat} {xs : Nat → Int32} {zf : Value} {D : dD} {w k : Nat} {K14 : Option Nat → Int32 → Int32 → Int32 → Int32 → Int32 → Int64 → Int32 → rm_H → Option dR} (hD : dO L xs zf D k) (hz : zf.category = 1) (hK14 : ∀ (o0 : Option Nat) (i1 : Int32) (i2 : Int32) (i3 : Int32) (i4 : Int32) (i5 : Int32) (j6 : Int64) (i8 : Int32) (lv : rm_L) (h : rm_H) (r : dR), rm_get lv 0 = some (va_rf o0) → rm_get lv 1 = some (.int i1) → rm_get lv 2 = some (.int i2) → rm_get lv 3 = some (.int i3) → rm_get lv 4 = some (.int i4) → rm_get lv 5 = some (.int i5) → rm_get lv 6 = some (.long j6) → rm_get lv 8 = some (.int i8) → K14 o0 i1 i2 i3 i4 i5 j6 i8 h = some r → dq L xs zf ah_M300 14 lv [] h (k + 1) r) : ∀ (o0 : Option Nat) (i1 : Int32) (i2 : Int32) (i3 : Int32) (i5 : Int32) (j6 : Int64) (i8 : Int32) (lv : rm_L) (h : rm_H) (r : dR), rm_get lv 0 = some (va_rf o0) → rm_get lv 1 = some (.int i1) → rm_get lv 2 = some (.int i2) → rm_get lv 3 = some (.int i3) → rm_get lv 5 = some (.int i5) → rm_get lv 6 = some (.long j6) → rm_get lv 8 = some (.int i8) → b300_67 L xs zf D w K14  o0 i1 i2 i3 i5 j6 i8 h = some r → dq L xs zf ah_M300 67 lv [] h (k + 1) r := by
  intro o0 i1 i2 i3 i5 j6 i8 lv h r G0 G1 G2 G3 G5 G6 G8 hh
  unfold b300_67 at hh
  refine dq_S (.iconst 0) 1 [] 68 _ [.int 0] (by decide +kernel) rfl ?_
  exact c300_68 hD hz hK14 _ _ _ _ _ _ _ _ _ _ _ G0 G1 G2 G3 G5 G6 G8 hh
def b300_44 (L : Nat) (xs : Nat → Int32) (zf : Value) (D : dD) (w : Nat) (K14 : Option Nat → Int32 → Int32 → Int32 → Int32 → Int32 → Int64 → Int32 → rm_H → Option dR) (o0 : Option Nat) (i1 : Int32) (i2 : Int32) (i4 : Int32) (i5 : Int32) (j6 : Int64) (i8 : Int32) (s0 : Int32) (h : rm_H) : Option dR :=
  if mx_f1 .eq i4 = true then
    b300_67 L xs zf D w K14 o0 i1 i2 s0 i5 j6 i8 h
  else
    (dgR L xs h 1 [15] o0).bind fun p10 =>
    (daI L xs h p10 i8).bind fun x12 =>
    ((D 298 [.int x12] h).bind dxI).bind fun x14 =>
    if mx_f1 .ne x14.1 = true then
      b300_67 L xs zf D w K14 o0 i1 i2 s0 i5 j6 i8 x14.2
    else
      b300_68 L xs zf D w K14 o0 i1 i2 s0 i5 j6 i8 1 x14.2
theorem c300_44 {L : Nat} {xs : Nat → Int32} {zf : Value} {D : dD} {w k : Nat} {K14 : Option Nat → Int32 → Int32 → Int32 → Int32 → Int32 → Int64 → Int32 → rm_H → Option dR} (hD : dO L xs zf D k) (hz : zf.category = 1) (hK14 : ∀ (o0 : Option Nat) (i1 : Int32) (i2 : Int32) (i3 : Int32) (i4 : Int32) (i5 : Int32) (j6 : Int64) (i8 : Int32) (lv : rm_L) (h : rm_H) (r : dR), rm_get lv 0 = some (va_rf o0) → rm_get lv 1 = some (.int i1) → rm_get lv 2 = some (.int i2) → rm_get lv 3 = some (.int i3) → rm_get lv 4 = some (.int i4) → rm_get lv 5 = some (.int i5) → rm_get lv 6 = some (.long j6) → rm_get lv 8 = some (.int i8) → K14 o0 i1 i2 i3 i4 i5 j6 i8 h = some r → dq L xs zf ah_M300 14 lv [] h (k + 1) r) : ∀ (o0 : Option Nat) (i1 : Int32) (i2 : Int32) (i4 : Int32) (i5 : Int32) (j6 : Int64) (i8 : Int32) (s0 : Int32) (lv : rm_L) (h : rm_H) (r : dR), rm_get lv 0 = some (va_rf o0) → rm_get lv 1 = some (.int i1) → rm_get lv 2 = some (.int i2) → rm_get lv 4 = some (.int i4) → rm_get lv 5 = some (.int i5) → rm_get lv 6 = some (.long j6) → rm_get lv 8 = some (.int i8) → b300_44 L xs zf D w K14  o0 i1 i2 i4 i5 j6 i8 s0 h = some r → dq L xs zf ah_M300 44 lv [.int s0] h (k + 1) r := by
  intro o0 i1 i2 i4 i5 j6 i8 s0 lv h r G0 G1 G2 G4 G5 G6 G8 hh
  unfold b300_44 at hh
  refine dq_isn 3 45 (by decide +kernel) (by decide +kernel) ?_
  have g1 := dg_ne (i := 3) (u := .int s0) (by decide) (Or.inl (by decide)) G0
  have g2 := dg_ne (i := 3) (u := .int s0) (by decide) (Or.inl (by decide)) G1
  have g3 := dg_ne (i := 3) (u := .int s0) (by decide) (Or.inr rfl) G2
  have g4 := dg_ne (i := 3) (u := .int s0) (by decide) (Or.inl (by decide)) G4
  have g5 := dg_ne (i := 3) (u := .int s0) (by decide) (Or.inl (by decide)) G5
  have g6 := dg_ne (i := 3) (u := .int s0) (by decide) (Or.inl (by decide)) G6
  have g7 := dg_ne (i := 3) (u := .int s0) (by decide) (Or.inl (by decide)) G8
  have g8 := dg_eq (lv) 3 (.int s0)
  refine dq_il 4 47 (by decide +kernel) rfl g4 ?_
  rcases di hh with ⟨q9, hh⟩ | ⟨q9, hh⟩
  · refine dq_1 .eq 20 true 67 q9 (by decide +kernel) ?_
    exact c300_67 hD hz hK14 _ _ _ _ _ _ _ _ _ _ g1 g2 g3 g8 g5 g6 g7 hh
  · refine dq_1 .eq 20 false 50 q9 (by decide +kernel) ?_
    refine dq_aln 0 51 (by decide +kernel) rfl g1 ?_
    obtain ⟨p10, q11, hh⟩ := db hh
    refine dq_gR 17 1 [15] 54 (by decide +kernel) rfl q11 ?_
    refine dq_il 8 56 (by decide +kernel) rfl g7 ?_
    obtain ⟨x12, q13, hh⟩ := db hh
    refine dq_aI 57 (by decide +kernel) rfl q13 ?_
    obtain ⟨x14, q15, hh⟩ := db hh
    obtain ⟨a16, q17, q15⟩ := db q15
    rw [dq_xI q15] at q17
    refine dq_cst hD 272 298 0 1 [.int x12] [] 60 [.int x14.1] (by decide +kernel) ap_298 ⟨⟨Nat.le_of_ble_eq_true rfl, by decide⟩, rfl, rfl⟩ (dq_ok8 [1] [] (dc_i dc_n) dc_n (by decide +kernel)) (by decide +kernel) rfl q17 rfl ?_
    rcases di hh with ⟨q18, hh⟩ | ⟨q18, hh⟩
    · refine dq_1 .ne 7 true 67 q18 (by decide +kernel) ?_
      exact c300_67 hD hz hK14 _ _ _ _ _ _ _ _ _ _ g1 g2 g3 g8 g5 g6 g7 hh
    · refine dq_1 .ne 7 false 63 q18 (by decide +kernel) ?_
      refine dq_S (.iconst 1) 1 [] 64 _ [.int 1] (by decide +kernel) rfl ?_
      refine dq_S (.goto 4) 3 [] 68 _ [.int 1] (by decide +kernel) rfl ?_
      exact c300_68 hD hz hK14 _ _ _ _ _ _ _ _ _ _ _ g1 g2 g3 g8 g5 g6 g7 hh
def b300_43 (L : Nat) (xs : Nat → Int32) (zf : Value) (D : dD) (w : Nat) (K14 : Option Nat → Int32 → Int32 → Int32 → Int32 → Int32 → Int64 → Int32 → rm_H → Option dR) (o0 : Option Nat) (i1 : Int32) (i2 : Int32) (i4 : Int32) (i5 : Int32) (j6 : Int64) (i8 : Int32) (h : rm_H) : Option dR :=
  b300_44 L xs zf D w K14 o0 i1 i2 i4 i5 j6 i8 0 h
theorem c300_43 {L : Nat} {xs : Nat → Int32} {zf : Value} {D : dD} {w k : Nat} {K14 : Option Nat → Int32 → Int32 → Int32 → Int32 → Int32 → Int64 → Int32 → rm_H → Option dR} (hD : dO L xs zf D k) (hz : zf.category = 1) (hK14 : ∀ (o0 : Option Nat) (i1 : Int32) (i2 : Int32) (i3 : Int32) (i4 : Int32) (i5 : Int32) (j6 : Int64) (i8 : Int32) (lv : rm_L) (h : rm_H) (r : dR), rm_get lv 0 = some (va_rf o0) → rm_get lv 1 = some (.int i1) → rm_get lv 2 = some (.int i2) → rm_get lv 3 = some (.int i3) → rm_get lv 4 = some (.int i4) → rm_get lv 5 = some (.int i5) → rm_get lv 6 = some (.long j6) → rm_get lv 8 = some (.int i8) → K14 o0 i1 i2 i3 i4 i5 j6 i8 h = some r → dq L xs zf ah_M300 14 lv [] h (k + 1) r) : ∀ (o0 : Option Nat) (i1 : Int32) (i2 : Int32) (i4 : Int32) (i5 : Int32) (j6 : Int64) (i8 : Int32) (lv : rm_L) (h : rm_H) (r : dR), rm_get lv 0 = some (va_rf o0) → rm_get lv 1 = some (.int i1) → rm_get lv 2 = some (.int i2) → rm_get lv 4 = some (.int i4) → rm_get lv 5 = some (.int i5) → rm_get lv 6 = some (.long j6) → rm_get lv 8 = some (.int i8) → b300_43 L xs zf D w K14  o0 i1 i2 i4 i5 j6 i8 h = some r → dq L xs zf ah_M300 43 lv [] h (k + 1) r := by
  intro o0 i1 i2 i4 i5 j6 i8 lv h r G0 G1 G2 G4 G5 G6 G8 hh
  unfold b300_43 at hh
  refine dq_S (.iconst 0) 1 [] 44 _ [.int 0] (by decide +kernel) rfl ?_
  exact c300_44 hD hz hK14 _ _ _ _ _ _ _ _ _ _ _ G0 G1 G2 G4 G5 G6 G8 hh
def b300_155 (L : Nat) (xs : Nat → Int32) (zf : Value) (D : dD) (w : Nat) (o0 : Option Nat) (i5 : Int32) (s0 : Int32) (s1 : Int32) (s2 : Option Nat) (h : rm_H) : Option dR :=
  (dsI h s2 s1 s0).bind fun h1 =>
  (dgR L xs h1 8 [15] o0).bind fun p3 =>
  (dgI L xs h1 5 [15] o0).bind fun x5 =>
  (dsI h1 p3 x5 i5).bind fun h7 =>
  some (none, h7)
theorem c300_155 {L : Nat} {xs : Nat → Int32} {zf : Value} {D : dD} {w k : Nat} (hD : dO L xs zf D k) (hz : zf.category = 1) : ∀ (o0 : Option Nat) (i5 : Int32) (s0 : Int32) (s1 : Int32) (s2 : Option Nat) (lv : rm_L) (h : rm_H) (r : dR), rm_get lv 0 = some (va_rf o0) → rm_get lv 5 = some (.int i5) → b300_155 L xs zf D w  o0 i5 s0 s1 s2 h = some r → dq L xs zf ah_M300 155 lv [.int s0, .int s1, va_rf s2] h (k + 1) r := by
  intro o0 i5 s0 s1 s2 lv h r G0 G5 hh
  unfold b300_155 at hh
  obtain ⟨h1, q2, hh⟩ := db hh
  refine dq_sI 156 (by decide +kernel) rfl q2 ?_
  refine dq_aln 0 157 (by decide +kernel) rfl G0 ?_
  obtain ⟨p3, q4, hh⟩ := db hh
  refine dq_gR 30 8 [15] 160 (by decide +kernel) rfl q4 ?_
  refine dq_aln 0 161 (by decide +kernel) rfl G0 ?_
  obtain ⟨x5, q6, hh⟩ := db hh
  refine dq_gI 278 5 [15] 164 (by decide +kernel) rfl q6 ?_
  refine dq_il 5 166 (by decide +kernel) rfl G5 ?_
  obtain ⟨h7, q8, hh⟩ := db hh
  refine dq_sI 167 (by decide +kernel) rfl q8 ?_
  cases hh
  exact dq_ret0 (by decide +kernel) rfl
def b300_186 (L : Nat) (xs : Nat → Int32) (zf : Value) (D : dD) (w : Nat) (h : rm_H) : Option dR :=
  some (none, h)
theorem c300_186 {L : Nat} {xs : Nat → Int32} {zf : Value} {D : dD} {w k : Nat} (hD : dO L xs zf D k) (hz : zf.category = 1) : ∀ (lv : rm_L) (h : rm_H) (r : dR), b300_186 L xs zf D w  h = some r → dq L xs zf ah_M300 186 lv [] h (k + 1) r := by
  intro lv h r hh
  unfold b300_186 at hh
  cases hh
  exact dq_ret0 (by decide +kernel) rfl
def b300_289 (L : Nat) (xs : Nat → Int32) (zf : Value) (D : dD) (w : Nat) (h : rm_H) : Option dR :=
  some (none, h)
theorem c300_289 {L : Nat} {xs : Nat → Int32} {zf : Value} {D : dD} {w k : Nat} (hD : dO L xs zf D k) (hz : zf.category = 1) : ∀ (lv : rm_L) (h : rm_H) (r : dR), b300_289 L xs zf D w  h = some r → dq L xs zf ah_M300 289 lv [] h (k + 1) r := by
  intro lv h r hh
  unfold b300_289 at hh
  cases hh
  exact dq_ret0 (by decide +kernel) rfl
def b300_277 (L : Nat) (xs : Nat → Int32) (zf : Value) (D : dD) (w : Nat) (o0 : Option Nat) (i8 : Int32) (s0 : Int32) (s1 : Int32) (s2 : Option Nat) (h : rm_H) : Option dR :=
  (dsI h s2 s1 s0).bind fun h1 =>
  (dgR L xs h1 8 [15] o0).bind fun p3 =>
  (dgI L xs h1 5 [15] o0).bind fun x5 =>
  (dsI h1 p3 x5 i8).bind fun h7 =>
  b300_289 L xs zf D w h7
theorem c300_277 {L : Nat} {xs : Nat → Int32} {zf : Value} {D : dD} {w k : Nat} (hD : dO L xs zf D k) (hz : zf.category = 1) : ∀ (o0 : Option Nat) (i8 : Int32) (s0 : Int32) (s1 : Int32) (s2 : Option Nat) (lv : rm_L) (h : rm_H) (r : dR), rm_get lv 0 = some (va_rf o0) → rm_get lv 8 = some (.int i8) → b300_277 L xs zf D w  o0 i8 s0 s1 s2 h = some r → dq L xs zf ah_M300 277 lv [.int s0, .int s1, va_rf s2] h (k + 1) r := by
  intro o0 i8 s0 s1 s2 lv h r G0 G8 hh
  unfold b300_277 at hh
  obtain ⟨h1, q2, hh⟩ := db hh
  refine dq_sI 278 (by decide +kernel) rfl q2 ?_
  refine dq_aln 0 279 (by decide +kernel) rfl G0 ?_
  obtain ⟨p3, q4, hh⟩ := db hh
  refine dq_gR 30 8 [15] 282 (by decide +kernel) rfl q4 ?_
  refine dq_aln 0 283 (by decide +kernel) rfl G0 ?_
  obtain ⟨x5, q6, hh⟩ := db hh
  refine dq_gI 278 5 [15] 286 (by decide +kernel) rfl q6 ?_
  refine dq_il 8 288 (by decide +kernel) rfl G8 ?_
  obtain ⟨h7, q8, hh⟩ := db hh
  refine dq_sI 289 (by decide +kernel) rfl q8 ?_
  exact c300_289 hD hz  _ _ _  hh
def b300_257 (L : Nat) (xs : Nat → Int32) (zf : Value) (D : dD) (w : Nat) (o0 : Option Nat) (i8 : Int32) (h : rm_H) : Option dR :=
  (dgR L xs h 6 [15] o0).bind fun p1 =>
  (dgI L xs h 5 [15] o0).bind fun x3 =>
  if mx_f2 .ge i8 24 = true then
    b300_277 L xs zf D w o0 i8 1 x3 p1 h
  else
    b300_277 L xs zf D w o0 i8 2 x3 p1 h
theorem c300_257 {L : Nat} {xs : Nat → Int32} {zf : Value} {D : dD} {w k : Nat} (hD : dO L xs zf D k) (hz : zf.category = 1) : ∀ (o0 : Option Nat) (i8 : Int32) (lv : rm_L) (h : rm_H) (r : dR), rm_get lv 0 = some (va_rf o0) → rm_get lv 8 = some (.int i8) → b300_257 L xs zf D w  o0 i8 h = some r → dq L xs zf ah_M300 257 lv [] h (k + 1) r := by
  intro o0 i8 lv h r G0 G8 hh
  unfold b300_257 at hh
  refine dq_aln 0 258 (by decide +kernel) rfl G0 ?_
  obtain ⟨p1, q2, hh⟩ := db hh
  refine dq_gR 24 6 [15] 261 (by decide +kernel) rfl q2 ?_
  refine dq_aln 0 262 (by decide +kernel) rfl G0 ?_
  obtain ⟨x3, q4, hh⟩ := db hh
  refine dq_gI 278 5 [15] 265 (by decide +kernel) rfl q4 ?_
  refine dq_il 8 267 (by decide +kernel) rfl G8 ?_
  refine dq_S (.bipush 24) 2 [] 269 _ [.int 24, .int i8, .int x3, va_rf p1] (by decide +kernel) rfl ?_
  rcases di hh with ⟨q5, hh⟩ | ⟨q5, hh⟩
  · refine dq_2 .ge 7 true 276 q5 (by decide +kernel) ?_
    refine dq_S (.iconst 1) 1 [] 277 _ [.int 1, .int x3, va_rf p1] (by decide +kernel) rfl ?_
    exact c300_277 hD hz _ _ _ _ _ _ _ _ G0 G8 hh
  · refine dq_2 .ge 7 false 272 q5 (by decide +kernel) ?_
    refine dq_S (.iconst 2) 1 [] 273 _ [.int 2, .int x3, va_rf p1] (by decide +kernel) rfl ?_
    refine dq_S (.goto 4) 3 [] 277 _ [.int 2, .int x3, va_rf p1] (by decide +kernel) rfl ?_
    exact c300_277 hD hz _ _ _ _ _ _ _ _ G0 G8 hh
def b300_231 (L : Nat) (xs : Nat → Int32) (zf : Value) (D : dD) (w : Nat) : Nat → Option Nat → Int64 → Int32 → rm_H → Option dR
  | 0, _, _, _, _ => none
  | n + 1, o0, j6, i8, h =>
    if mx_f2 .ge i8 24 = true then
      b300_257 L xs zf D w o0 i8 h
    else
      (dgR L xs h 4 [15] o0).bind fun p2 =>
      (daJ L xs h p2 i8).bind fun y4 =>
      if mx_f1 .eq (lg_cmp y4 j6) = true then
        b300_257 L xs zf D w o0 i8 h
      else
        b300_231 L xs zf D w n o0 j6 (i8 + 1) h
theorem c300_231 {L : Nat} {xs : Nat → Int32} {zf : Value} {D : dD} {w k : Nat} (hD : dO L xs zf D k) (hz : zf.category = 1) : ∀ (n : Nat) (o0 : Option Nat) (j6 : Int64) (i8 : Int32) (lv : rm_L) (h : rm_H) (r : dR), rm_get lv 0 = some (va_rf o0) → rm_get lv 6 = some (.long j6) → rm_get lv 8 = some (.int i8) → b300_231 L xs zf D w n  o0 j6 i8 h = some r → dq L xs zf ah_M300 231 lv [] h (k + 1) r := by
  intro n
  induction n with
  | zero =>
    intro o0 j6 i8 lv h r G0 G6 G8 hh
    cases hh
  | succ n ih =>
    intro o0 j6 i8 lv h r G0 G6 G8 hh
    rw [b300_231] at hh
    refine dq_il 8 233 (by decide +kernel) rfl G8 ?_
    refine dq_S (.bipush 24) 2 [] 235 _ [.int 24, .int i8] (by decide +kernel) rfl ?_
    rcases di hh with ⟨q1, hh⟩ | ⟨q1, hh⟩
    · refine dq_2 .ge 22 true 257 q1 (by decide +kernel) ?_
      exact c300_257 hD hz _ _ _ _ _ G0 G8 hh
    · refine dq_2 .ge 22 false 238 q1 (by decide +kernel) ?_
      refine dq_aln 0 239 (by decide +kernel) rfl G0 ?_
      obtain ⟨p2, q3, hh⟩ := db hh
      refine dq_gR 20 4 [15] 242 (by decide +kernel) rfl q3 ?_
      refine dq_il 8 244 (by decide +kernel) rfl G8 ?_
      obtain ⟨y4, q5, hh⟩ := db hh
      refine dq_aJ 245 (by decide +kernel) rfl q5 ?_
      refine dq_ll 6 247 (by decide +kernel) rfl G6 ?_
      refine dq_S (.lcmp) 1 [] 248 _ [.int (lg_cmp y4 j6)] (by decide +kernel) rfl ?_
      rcases di hh with ⟨q6, hh⟩ | ⟨q6, hh⟩
      · refine dq_1 .eq 9 true 257 q6 (by decide +kernel) ?_
        exact c300_257 hD hz _ _ _ _ _ G0 G8 hh
      · refine dq_1 .eq 9 false 251 q6 (by decide +kernel) ?_
        refine dq_incy 8 1 1 254 (by decide +kernel) ⟨rfl, by decide +kernel, by decide +kernel⟩ G8 ?_
        have g7 := dg_ne (i := 8) (u := .int (i8 + 1)) (by decide) (Or.inl (by decide)) G0
        have g8 := dg_ne (i := 8) (u := .int (i8 + 1)) (by decide) (Or.inl (by decide)) G6
        have g9 := dg_eq (lv) 8 (.int (i8 + 1))
        refine dq_S (.goto (-23)) 3 [] 231 _ [] (by decide +kernel) rfl ?_
        exact ih _ _ _ _ _ _ g7 g8 g9 hh
def b300_14 (L : Nat) (xs : Nat → Int32) (zf : Value) (D : dD) (w : Nat) : Nat → Option Nat → Int32 → Int32 → Int32 → Int32 → Int32 → Int64 → Int32 → rm_H → Option dR
  | 0, _, _, _, _, _, _, _, _, _ => none
  | n + 1, o0, i1, i2, i3, i4, i5, j6, i8, h =>
    if mx_f2 .ge i8 (i1 + i2) = true then
      (dgR L xs h 6 [15] o0).bind fun p2 =>
      (dgI L xs h 5 [15] o0).bind fun x4 =>
      (dsI h p2 x4 6).bind fun h6 =>
      if mx_f1 .eq i3 = true then
        if mx_f2 .gt i2 8 = true then
          b300_186 L xs zf D w h6
        else
          (dgR L xs h6 1 [15] o0).bind fun p10 =>
          (daI L xs h6 p10 i1).bind fun x12 =>
          ((D 299 [.int x12] h6).bind dxI).bind fun x14 =>
          if mx_f1 .eq x14.1 = true then
            (dgR L xs x14.2 9 [15] o0).bind fun p19 =>
            (dgI L xs x14.2 5 [15] o0).bind fun x21 =>
            (dsJ x14.2 p19 x21 j6).bind fun h23 =>
            (dgR L xs h23 1 [15] o0).bind fun p25 =>
            (daI L xs h23 p25 i1).bind fun x27 =>
            ((D 298 [.int x27] h23).bind dxI).bind fun x29 =>
            if mx_f1 .eq x29.1 = true then
              if mx_f1 .eq i4 = true then
                b300_289 L xs zf D w x29.2
              else
                b300_231 L xs zf D w w o0 j6 0 x29.2
            else
              (dgR L xs x29.2 6 [15] o0).bind fun p43 =>
              (dgI L xs x29.2 5 [15] o0).bind fun x45 =>
              (dsI x29.2 p43 x45 3).bind fun h47 =>
              b300_289 L xs zf D w h47
          else
            b300_186 L xs zf D w x14.2
      else
        (dgR L xs h6 6 [15] o0).bind fun p49 =>
        (dgI L xs h6 5 [15] o0).bind fun x51 =>
        if mx_f2 .ge i2 10 = true then
          b300_155 L xs zf D w o0 i5 6 x51 p49 h6
        else
          b300_155 L xs zf D w o0 i5 4 x51 p49 h6
    else
      if mx_f1 .eq i3 = true then
        b300_43 L xs zf D w (b300_14 L xs zf D w n) o0 i1 i2 i4 i5 j6 i8 h
      else
        (dgR L xs h 1 [15] o0).bind fun p55 =>
        (daI L xs h p55 i8).bind fun x57 =>
        ((D 299 [.int x57] h).bind dxI).bind fun x59 =>
        if mx_f1 .eq x59.1 = true then
          b300_43 L xs zf D w (b300_14 L xs zf D w n) o0 i1 i2 i4 i5 j6 i8 x59.2
        else
          b300_44 L xs zf D w (b300_14 L xs zf D w n) o0 i1 i2 i4 i5 j6 i8 1 x59.2
theorem c300_14 {L : Nat} {xs : Nat → Int32} {zf : Value} {D : dD} {w k : Nat} (hD : dO L xs zf D k) (hz : zf.category = 1) : ∀ (n : Nat) (o0 : Option Nat) (i1 : Int32) (i2 : Int32) (i3 : Int32) (i4 : Int32) (i5 : Int32) (j6 : Int64) (i8 : Int32) (lv : rm_L) (h : rm_H) (r : dR), rm_get lv 0 = some (va_rf o0) → rm_get lv 1 = some (.int i1) → rm_get lv 2 = some (.int i2) → rm_get lv 3 = some (.int i3) → rm_get lv 4 = some (.int i4) → rm_get lv 5 = some (.int i5) → rm_get lv 6 = some (.long j6) → rm_get lv 8 = some (.int i8) → b300_14 L xs zf D w n  o0 i1 i2 i3 i4 i5 j6 i8 h = some r → dq L xs zf ah_M300 14 lv [] h (k + 1) r := by
  intro n
  induction n with
  | zero =>
    intro o0 i1 i2 i3 i4 i5 j6 i8 lv h r G0 G1 G2 G3 G4 G5 G6 G8 hh
    cases hh
  | succ n ih =>
    intro o0 i1 i2 i3 i4 i5 j6 i8 lv h r G0 G1 G2 G3 G4 G5 G6 G8 hh
    rw [b300_14] at hh
    refine dq_il 8 16 (by decide +kernel) rfl G8 ?_
    refine dq_iln 1 17 (by decide +kernel) rfl G1 ?_
    refine dq_iln 2 18 (by decide +kernel) rfl G2 ?_
    refine dq_S (.iadd) 1 [] 19 _ [.int (i1 + i2), .int i8] (by decide +kernel) rfl ?_
    rcases di hh with ⟨q1, hh⟩ | ⟨q1, hh⟩
    · refine dq_2 .ge 101 true 120 q1 (by decide +kernel) ?_
      refine dq_aln 0 121 (by decide +kernel) rfl G0 ?_
      obtain ⟨p2, q3, hh⟩ := db hh
      refine dq_gR 24 6 [15] 124 (by decide +kernel) rfl q3 ?_
      refine dq_aln 0 125 (by decide +kernel) rfl G0 ?_
      obtain ⟨x4, q5, hh⟩ := db hh
      refine dq_gI 278 5 [15] 128 (by decide +kernel) rfl q5 ?_
      refine dq_S (.bipush 6) 2 [] 130 _ [.int 6, .int x4, va_rf p2] (by decide +kernel) rfl ?_
      obtain ⟨h6, q7, hh⟩ := db hh
      refine dq_sI 131 (by decide +kernel) rfl q7 ?_
      refine dq_iln 3 132 (by decide +kernel) rfl G3 ?_
      rcases di hh with ⟨q8, hh⟩ | ⟨q8, hh⟩
      · refine dq_1 .eq 36 true 168 q8 (by decide +kernel) ?_
        refine dq_iln 2 169 (by decide +kernel) rfl G2 ?_
        refine dq_S (.bipush 8) 2 [] 171 _ [.int 8, .int i2] (by decide +kernel) rfl ?_
        rcases di hh with ⟨q9, hh⟩ | ⟨q9, hh⟩
        · refine dq_2 .gt 15 true 186 q9 (by decide +kernel) ?_
          exact c300_186 hD hz  _ _ _  hh
        · refine dq_2 .gt 15 false 174 q9 (by decide +kernel) ?_
          refine dq_aln 0 175 (by decide +kernel) rfl G0 ?_
          obtain ⟨p10, q11, hh⟩ := db hh
          refine dq_gR 17 1 [15] 178 (by decide +kernel) rfl q11 ?_
          refine dq_iln 1 179 (by decide +kernel) rfl G1 ?_
          obtain ⟨x12, q13, hh⟩ := db hh
          refine dq_aI 180 (by decide +kernel) rfl q13 ?_
          obtain ⟨x14, q15, hh⟩ := db hh
          obtain ⟨a16, q17, q15⟩ := db q15
          rw [dq_xI q15] at q17
          refine dq_cst hD 275 299 0 1 [.int x12] [] 183 [.int x14.1] (by decide +kernel) ap_299 ⟨⟨Nat.le_of_ble_eq_true rfl, by decide⟩, rfl, rfl⟩ (dq_ok8 [1] [] (dc_i dc_n) dc_n (by decide +kernel)) (by decide +kernel) rfl q17 rfl ?_
          rcases di hh with ⟨q18, hh⟩ | ⟨q18, hh⟩
          · refine dq_1 .eq 4 true 187 q18 (by decide +kernel) ?_
            refine dq_aln 0 188 (by decide +kernel) rfl G0 ?_
            obtain ⟨p19, q20, hh⟩ := db hh
            refine dq_gR 33 9 [15] 191 (by decide +kernel) rfl q20 ?_
            refine dq_aln 0 192 (by decide +kernel) rfl G0 ?_
            obtain ⟨x21, q22, hh⟩ := db hh
            refine dq_gI 278 5 [15] 195 (by decide +kernel) rfl q22 ?_
            refine dq_ll 6 197 (by decide +kernel) rfl G6 ?_
            obtain ⟨h23, q24, hh⟩ := db hh
            refine dq_sJ 198 (by decide +kernel) rfl q24 ?_
            refine dq_aln 0 199 (by decide +kernel) rfl G0 ?_
            obtain ⟨p25, q26, hh⟩ := db hh
            refine dq_gR 17 1 [15] 202 (by decide +kernel) rfl q26 ?_
            refine dq_iln 1 203 (by decide +kernel) rfl G1 ?_
            obtain ⟨x27, q28, hh⟩ := db hh
            refine dq_aI 204 (by decide +kernel) rfl q28 ?_
            obtain ⟨x29, q30, hh⟩ := db hh
            obtain ⟨a31, q32, q30⟩ := db q30
            rw [dq_xI q30] at q32
            refine dq_cst hD 272 298 0 1 [.int x27] [] 207 [.int x29.1] (by decide +kernel) ap_298 ⟨⟨Nat.le_of_ble_eq_true rfl, by decide⟩, rfl, rfl⟩ (dq_ok8 [1] [] (dc_i dc_n) dc_n (by decide +kernel)) (by decide +kernel) rfl q32 rfl ?_
            rcases di hh with ⟨q33, hh⟩ | ⟨q33, hh⟩
            · refine dq_1 .eq 16 true 223 q33 (by decide +kernel) ?_
              refine dq_il 4 225 (by decide +kernel) rfl G4 ?_
              rcases di hh with ⟨q34, hh⟩ | ⟨q34, hh⟩
              · refine dq_1 .eq 64 true 289 q34 (by decide +kernel) ?_
                exact c300_289 hD hz  _ _ _  hh
              · refine dq_1 .eq 64 false 228 q34 (by decide +kernel) ?_
                refine dq_S (.iconst 0) 1 [] 229 _ [.int 0] (by decide +kernel) rfl ?_
                refine dq_is 8 231 (by decide +kernel) (by decide +kernel) ?_
                have g35 := dg_ne (i := 8) (u := .int 0) (by decide) (Or.inl (by decide)) G0
                have g36 := dg_ne (i := 8) (u := .int 0) (by decide) (Or.inl (by decide)) G1
                have g37 := dg_ne (i := 8) (u := .int 0) (by decide) (Or.inl (by decide)) G2
                have g38 := dg_ne (i := 8) (u := .int 0) (by decide) (Or.inl (by decide)) G3
                have g39 := dg_ne (i := 8) (u := .int 0) (by decide) (Or.inl (by decide)) G4
                have g40 := dg_ne (i := 8) (u := .int 0) (by decide) (Or.inl (by decide)) G5
                have g41 := dg_ne (i := 8) (u := .int 0) (by decide) (Or.inl (by decide)) G6
                have g42 := dg_eq (lv) 8 (.int 0)
                exact c300_231 hD hz _ _ _ _ _ _ _ g35 g41 g42 hh
            · refine dq_1 .eq 16 false 210 q33 (by decide +kernel) ?_
              refine dq_aln 0 211 (by decide +kernel) rfl G0 ?_
              obtain ⟨p43, q44, hh⟩ := db hh
              refine dq_gR 24 6 [15] 214 (by decide +kernel) rfl q44 ?_
              refine dq_aln 0 215 (by decide +kernel) rfl G0 ?_
              obtain ⟨x45, q46, hh⟩ := db hh
              refine dq_gI 278 5 [15] 218 (by decide +kernel) rfl q46 ?_
              refine dq_S (.iconst 3) 1 [] 219 _ [.int 3, .int x45, va_rf p43] (by decide +kernel) rfl ?_
              obtain ⟨h47, q48, hh⟩ := db hh
              refine dq_sI 220 (by decide +kernel) rfl q48 ?_
              refine dq_S (.goto 69) 3 [] 289 _ [] (by decide +kernel) rfl ?_
              exact c300_289 hD hz  _ _ _  hh
          · refine dq_1 .eq 4 false 186 q18 (by decide +kernel) ?_
            exact c300_186 hD hz  _ _ _  hh
      · refine dq_1 .eq 36 false 135 q8 (by decide +kernel) ?_
        refine dq_aln 0 136 (by decide +kernel) rfl G0 ?_
        obtain ⟨p49, q50, hh⟩ := db hh
        refine dq_gR 24 6 [15] 139 (by decide +kernel) rfl q50 ?_
        refine dq_aln 0 140 (by decide +kernel) rfl G0 ?_
        obtain ⟨x51, q52, hh⟩ := db hh
        refine dq_gI 278 5 [15] 143 (by decide +kernel) rfl q52 ?_
        refine dq_iln 2 144 (by decide +kernel) rfl G2 ?_
        refine dq_S (.bipush 10) 2 [] 146 _ [.int 10, .int i2, .int x51, va_rf p49] (by decide +kernel) rfl ?_
        rcases di hh with ⟨q53, hh⟩ | ⟨q53, hh⟩
        · refine dq_2 .ge 7 true 153 q53 (by decide +kernel) ?_
          refine dq_S (.bipush 6) 2 [] 155 _ [.int 6, .int x51, va_rf p49] (by decide +kernel) rfl ?_
          exact c300_155 hD hz _ _ _ _ _ _ _ _ G0 G5 hh
        · refine dq_2 .ge 7 false 149 q53 (by decide +kernel) ?_
          refine dq_S (.iconst 4) 1 [] 150 _ [.int 4, .int x51, va_rf p49] (by decide +kernel) rfl ?_
          refine dq_S (.goto 5) 3 [] 155 _ [.int 4, .int x51, va_rf p49] (by decide +kernel) rfl ?_
          exact c300_155 hD hz _ _ _ _ _ _ _ _ G0 G5 hh
    · refine dq_2 .ge 101 false 22 q1 (by decide +kernel) ?_
      refine dq_iln 3 23 (by decide +kernel) rfl G3 ?_
      rcases di hh with ⟨q54, hh⟩ | ⟨q54, hh⟩
      · refine dq_1 .eq 20 true 43 q54 (by decide +kernel) ?_
        exact c300_43 hD hz ih _ _ _ _ _ _ _ _ _ _ G0 G1 G2 G4 G5 G6 G8 hh
      · refine dq_1 .eq 20 false 26 q54 (by decide +kernel) ?_
        refine dq_aln 0 27 (by decide +kernel) rfl G0 ?_
        obtain ⟨p55, q56, hh⟩ := db hh
        refine dq_gR 17 1 [15] 30 (by decide +kernel) rfl q56 ?_
        refine dq_il 8 32 (by decide +kernel) rfl G8 ?_
        obtain ⟨x57, q58, hh⟩ := db hh
        refine dq_aI 33 (by decide +kernel) rfl q58 ?_
        obtain ⟨x59, q60, hh⟩ := db hh
        obtain ⟨a61, q62, q60⟩ := db q60
        rw [dq_xI q60] at q62
        refine dq_cst hD 275 299 0 1 [.int x57] [] 36 [.int x59.1] (by decide +kernel) ap_299 ⟨⟨Nat.le_of_ble_eq_true rfl, by decide⟩, rfl, rfl⟩ (dq_ok8 [1] [] (dc_i dc_n) dc_n (by decide +kernel)) (by decide +kernel) rfl q62 rfl ?_
        rcases di hh with ⟨q63, hh⟩ | ⟨q63, hh⟩
        · refine dq_1 .eq 7 true 43 q63 (by decide +kernel) ?_
          exact c300_43 hD hz ih _ _ _ _ _ _ _ _ _ _ G0 G1 G2 G4 G5 G6 G8 hh
        · refine dq_1 .eq 7 false 39 q63 (by decide +kernel) ?_
          refine dq_S (.iconst 1) 1 [] 40 _ [.int 1] (by decide +kernel) rfl ?_
          refine dq_S (.goto 4) 3 [] 44 _ [.int 1] (by decide +kernel) rfl ?_
          exact c300_44 hD hz ih _ _ _ _ _ _ _ _ _ _ _ G0 G1 G2 G4 G5 G6 G8 hh
def b300_0 (L : Nat) (xs : Nat → Int32) (zf : Value) (D : dD) (w : Nat) (o0 : Option Nat) (i1 : Int32) (i2 : Int32) (h : rm_H) : Option dR :=
  b300_14 L xs zf D w w o0 i1 i2 1 1 0 0 i1 h
theorem c300_0 {L : Nat} {xs : Nat → Int32} {zf : Value} {D : dD} {w k : Nat} (hD : dO L xs zf D k) (hz : zf.category = 1) : ∀ (o0 : Option Nat) (i1 : Int32) (i2 : Int32) (lv : rm_L) (h : rm_H) (r : dR), rm_get lv 0 = some (va_rf o0) → rm_get lv 1 = some (.int i1) → rm_get lv 2 = some (.int i2) → b300_0 L xs zf D w  o0 i1 i2 h = some r → dq L xs zf ah_M300 0 lv [] h (k + 1) r := by
  intro o0 i1 i2 lv h r G0 G1 G2 hh
  unfold b300_0 at hh
  refine dq_S (.iconst 1) 1 [] 1 _ [.int 1] (by decide +kernel) rfl ?_
  refine dq_isn 3 2 (by decide +kernel) (by decide +kernel) ?_
  have g1 := dg_ne (i := 3) (u := .int 1) (by decide) (Or.inl (by decide)) G0
  have g2 := dg_ne (i := 3) (u := .int 1) (by decide) (Or.inl (by decide)) G1
  have g3 := dg_ne (i := 3) (u := .int 1) (by decide) (Or.inr rfl) G2
  have g4 := dg_eq (lv) 3 (.int 1)
  refine dq_S (.iconst 1) 1 [] 3 _ [.int 1] (by decide +kernel) rfl ?_
  refine dq_is 4 5 (by decide +kernel) (by decide +kernel) ?_
  have g5 := dg_ne (i := 4) (u := .int 1) (by decide) (Or.inl (by decide)) g1
  have g6 := dg_ne (i := 4) (u := .int 1) (by decide) (Or.inl (by decide)) g2
  have g7 := dg_ne (i := 4) (u := .int 1) (by decide) (Or.inl (by decide)) g3
  have g8 := dg_ne (i := 4) (u := .int 1) (by decide) (Or.inr rfl) g4
  have g9 := dg_eq (rm_set1 (lv) 3 (.int 1)) 4 (.int 1)
  refine dq_S (.iconst 0) 1 [] 6 _ [.int 0] (by decide +kernel) rfl ?_
  refine dq_is 5 8 (by decide +kernel) (by decide +kernel) ?_
  have g10 := dg_ne (i := 5) (u := .int 0) (by decide) (Or.inl (by decide)) g5
  have g11 := dg_ne (i := 5) (u := .int 0) (by decide) (Or.inl (by decide)) g6
  have g12 := dg_ne (i := 5) (u := .int 0) (by decide) (Or.inl (by decide)) g7
  have g13 := dg_ne (i := 5) (u := .int 0) (by decide) (Or.inl (by decide)) g8
  have g14 := dg_ne (i := 5) (u := .int 0) (by decide) (Or.inr rfl) g9
  have g15 := dg_eq (rm_set1 (rm_set1 (lv) 3 (.int 1)) 4 (.int 1)) 5 (.int 0)
  refine dq_S (.lconst 0) 1 [] 9 _ [.long 0] (by decide +kernel) rfl ?_
  refine dq_ls 6 11 (by decide +kernel) (by decide +kernel) ?_
  have g16 := dg_ne2 (i := 6) (u := .long 0) (by decide) (by decide) (Or.inl (by decide)) g10
  have g17 := dg_ne2 (i := 6) (u := .long 0) (by decide) (by decide) (Or.inl (by decide)) g11
  have g18 := dg_ne2 (i := 6) (u := .long 0) (by decide) (by decide) (Or.inl (by decide)) g12
  have g19 := dg_ne2 (i := 6) (u := .long 0) (by decide) (by decide) (Or.inl (by decide)) g13
  have g20 := dg_ne2 (i := 6) (u := .long 0) (by decide) (by decide) (Or.inl (by decide)) g14
  have g21 := dg_ne2 (i := 6) (u := .long 0) (by decide) (by decide) (Or.inr rfl) g15
  have g22 := dg_eq2 (rm_set1 (rm_set1 (rm_set1 (lv) 3 (.int 1)) 4 (.int 1)) 5 (.int 0)) 6 (.long 0)
  refine dq_iln 1 12 (by decide +kernel) rfl g17 ?_
  refine dq_is 8 14 (by decide +kernel) (by decide +kernel) ?_
  have g23 := dg_ne (i := 8) (u := .int i1) (by decide) (Or.inl (by decide)) g16
  have g24 := dg_ne (i := 8) (u := .int i1) (by decide) (Or.inl (by decide)) g17
  have g25 := dg_ne (i := 8) (u := .int i1) (by decide) (Or.inl (by decide)) g18
  have g26 := dg_ne (i := 8) (u := .int i1) (by decide) (Or.inl (by decide)) g19
  have g27 := dg_ne (i := 8) (u := .int i1) (by decide) (Or.inl (by decide)) g20
  have g28 := dg_ne (i := 8) (u := .int i1) (by decide) (Or.inl (by decide)) g21
  have g29 := dg_ne (i := 8) (u := .int i1) (by decide) (Or.inl (by decide)) g22
  have g30 := dg_eq (rm_set2 (rm_set1 (rm_set1 (rm_set1 (lv) 3 (.int 1)) 4 (.int 1)) 5 (.int 0)) 6 (.long 0)) 8 (.int i1)
  exact c300_14 hD hz _ _ _ _ _ _ _ _ _ _ _ _ g23 g24 g25 g26 g27 g28 g29 g30 hh
def f300 (L : Nat) (xs : Nat → Int32) (zf : Value) (D : dD) (w : Nat) (As : List Value) (h : rm_H) : Option dR := match As with
  | [v0, .int i1, .int i2] => (rm_rf v0).bind fun o0 => b300_0 L xs zf D w o0 i1 i2 h
  | _ => none
theorem d300 {L : Nat} {xs : Nat → Int32} {zf : Value} {D : dD} {w k : Nat} (hD : dO L xs zf D k) (hz : zf.category = 1) (As : List Value) (h : rm_H) (r : dR) (hh : f300 L xs zf D w As h = some r) : dq L xs zf ah_M300 0 (lv_args 0 As) [] h (k + 1) r := by
  unfold f300 at hh
  split at hh
  · obtain ⟨o0, e0, hb0⟩ := db hh
    have e0 := rm_rf_v _ _ e0
    subst e0
    refine c300_0 hD hz _ _ _ _ _ _ ?_ ?_ ?_ hb0
    all_goals (simp only [la_r, la_i, la_j]; rfl)
  · cases hh
def b301_183 (L : Nat) (xs : Nat → Int32) (zf : Value) (D : dD) (w : Nat) (s0 : Int32) (h : rm_H) : Option dR :=
  drI (some .int) s0 h
theorem c301_183 {L : Nat} {xs : Nat → Int32} {zf : Value} {D : dD} {w k : Nat} (hD : dO L xs zf D k) (hz : zf.category = 1) : ∀ (s0 : Int32) (lv : rm_L) (h : rm_H) (r : dR), b301_183 L xs zf D w  s0 h = some r → dq L xs zf ah_M301 183 lv [.int s0] h (k + 1) r := by
  intro s0 lv h r hh
  unfold b301_183 at hh
  exact dq_retI (some .int) (by decide +kernel) rfl hh
def b301_172 (L : Nat) (xs : Nat → Int32) (zf : Value) (D : dD) (w : Nat) (i4 : Int32) (s0 : Int32) (s1 : Int32) (s2 : Option Nat) (h : rm_H) : Option dR :=
  (dsI h s2 s1 s0).bind fun h1 =>
  if mx_f1 .eq i4 = true then
    b301_183 L xs zf D w 1 h1
  else
    b301_183 L xs zf D w 2 h1
theorem c301_172 {L : Nat} {xs : Nat → Int32} {zf : Value} {D : dD} {w k : Nat} (hD : dO L xs zf D k) (hz : zf.category = 1) : ∀ (i4 : Int32) (s0 : Int32) (s1 : Int32) (s2 : Option Nat) (lv : rm_L) (h : rm_H) (r : dR), rm_get lv 4 = some (.int i4) → b301_172 L xs zf D w  i4 s0 s1 s2 h = some r → dq L xs zf ah_M301 172 lv [.int s0, .int s1, va_rf s2] h (k + 1) r := by
  intro i4 s0 s1 s2 lv h r G4 hh
  unfold b301_172 at hh
  obtain ⟨h1, q2, hh⟩ := db hh
  refine dq_sI 173 (by decide +kernel) rfl q2 ?_
  refine dq_il 4 175 (by decide +kernel) rfl G4 ?_
  rcases di hh with ⟨q3, hh⟩ | ⟨q3, hh⟩
  · refine dq_1 .eq 7 true 182 q3 (by decide +kernel) ?_
    refine dq_S (.iconst 1) 1 [] 183 _ [.int 1] (by decide +kernel) rfl ?_
    exact c301_183 hD hz _ _ _ _  hh
  · refine dq_1 .eq 7 false 178 q3 (by decide +kernel) ?_
    refine dq_S (.iconst 2) 1 [] 179 _ [.int 2] (by decide +kernel) rfl ?_
    refine dq_S (.goto 4) 3 [] 183 _ [.int 2] (by decide +kernel) rfl ?_
    exact c301_183 hD hz _ _ _ _  hh
def b301_151 (L : Nat) (xs : Nat → Int32) (zf : Value) (D : dD) (w : Nat) (o0 : Option Nat) (i2 : Int32) (i4 : Int32) (s0 : Int32) (s1 : Int32) (s2 : Option Nat) (h : rm_H) : Option dR :=
  (dsI h s2 s1 s0).bind fun h1 =>
  (dgR L xs h1 8 [15] o0).bind fun p3 =>
  (dgI L xs h1 5 [15] o0).bind fun x5 =>
  if mx_f1 .eq i4 = true then
    b301_172 L xs zf D w i4 i2 x5 p3 h1
  else
    b301_172 L xs zf D w i4 256 x5 p3 h1
theorem c301_151 {L : Nat} {xs : Nat → Int32} {zf : Value} {D : dD} {w k : Nat} (hD : dO L xs zf D k) (hz : zf.category = 1) : ∀ (o0 : Option Nat) (i2 : Int32) (i4 : Int32) (s0 : Int32) (s1 : Int32) (s2 : Option Nat) (lv : rm_L) (h : rm_H) (r : dR), rm_get lv 0 = some (va_rf o0) → rm_get lv 2 = some (.int i2) → rm_get lv 4 = some (.int i4) → b301_151 L xs zf D w  o0 i2 i4 s0 s1 s2 h = some r → dq L xs zf ah_M301 151 lv [.int s0, .int s1, va_rf s2] h (k + 1) r := by
  intro o0 i2 i4 s0 s1 s2 lv h r G0 G2 G4 hh
  unfold b301_151 at hh
  obtain ⟨h1, q2, hh⟩ := db hh
  refine dq_sI 152 (by decide +kernel) rfl q2 ?_
  refine dq_aln 0 153 (by decide +kernel) rfl G0 ?_
  obtain ⟨p3, q4, hh⟩ := db hh
  refine dq_gR 30 8 [15] 156 (by decide +kernel) rfl q4 ?_
  refine dq_aln 0 157 (by decide +kernel) rfl G0 ?_
  obtain ⟨x5, q6, hh⟩ := db hh
  refine dq_gI 278 5 [15] 160 (by decide +kernel) rfl q6 ?_
  refine dq_il 4 162 (by decide +kernel) rfl G4 ?_
  rcases di hh with ⟨q7, hh⟩ | ⟨q7, hh⟩
  · refine dq_1 .eq 9 true 171 q7 (by decide +kernel) ?_
    refine dq_iln 2 172 (by decide +kernel) rfl G2 ?_
    exact c301_172 hD hz _ _ _ _ _ _ _ G4 hh
  · refine dq_1 .eq 9 false 165 q7 (by decide +kernel) ?_
    refine dq_S (.sipush 256) 3 [] 168 _ [.int 256, .int x5, va_rf p3] (by decide +kernel) rfl ?_
    refine dq_S (.goto 4) 3 [] 172 _ [.int 256, .int x5, va_rf p3] (by decide +kernel) rfl ?_
    exact c301_172 hD hz _ _ _ _ _ _ _ G4 hh
def b301_131 (L : Nat) (xs : Nat → Int32) (zf : Value) (D : dD) (w : Nat) (o0 : Option Nat) (i2 : Int32) (i3 : Int32) (s0 : Int32) (h : rm_H) : Option dR :=
  (dgR L xs h 6 [15] o0).bind fun p5 =>
  (dgI L xs h 5 [15] o0).bind fun x7 =>
  if mx_f1 .eq i3 = true then
    b301_151 L xs zf D w o0 i2 s0 6 x7 p5 h
  else
    b301_151 L xs zf D w o0 i2 s0 5 x7 p5 h
theorem c301_131 {L : Nat} {xs : Nat → Int32} {zf : Value} {D : dD} {w k : Nat} (hD : dO L xs zf D k) (hz : zf.category = 1) : ∀ (o0 : Option Nat) (i2 : Int32) (i3 : Int32) (s0 : Int32) (lv : rm_L) (h : rm_H) (r : dR), rm_get lv 0 = some (va_rf o0) → rm_get lv 2 = some (.int i2) → rm_get lv 3 = some (.int i3) → b301_131 L xs zf D w  o0 i2 i3 s0 h = some r → dq L xs zf ah_M301 131 lv [.int s0] h (k + 1) r := by
  intro o0 i2 i3 s0 lv h r G0 G2 G3 hh
  unfold b301_131 at hh
  refine dq_is 4 133 (by decide +kernel) (by decide +kernel) ?_
  have g1 := dg_ne (i := 4) (u := .int s0) (by decide) (Or.inl (by decide)) G0
  have g2 := dg_ne (i := 4) (u := .int s0) (by decide) (Or.inl (by decide)) G2
  have g3 := dg_ne (i := 4) (u := .int s0) (by decide) (Or.inr rfl) G3
  have g4 := dg_eq (lv) 4 (.int s0)
  refine dq_aln 0 134 (by decide +kernel) rfl g1 ?_
  obtain ⟨p5, q6, hh⟩ := db hh
  refine dq_gR 24 6 [15] 137 (by decide +kernel) rfl q6 ?_
  refine dq_aln 0 138 (by decide +kernel) rfl g1 ?_
  obtain ⟨x7, q8, hh⟩ := db hh
  refine dq_gI 278 5 [15] 141 (by decide +kernel) rfl q8 ?_
  refine dq_iln 3 142 (by decide +kernel) rfl g3 ?_
  rcases di hh with ⟨q9, hh⟩ | ⟨q9, hh⟩
  · refine dq_1 .eq 7 true 149 q9 (by decide +kernel) ?_
    refine dq_S (.bipush 6) 2 [] 151 _ [.int 6, .int x7, va_rf p5] (by decide +kernel) rfl ?_
    exact c301_151 hD hz _ _ _ _ _ _ _ _ _ g1 g2 g4 hh
  · refine dq_1 .eq 7 false 145 q9 (by decide +kernel) ?_
    refine dq_S (.iconst 5) 1 [] 146 _ [.int 5, .int x7, va_rf p5] (by decide +kernel) rfl ?_
    refine dq_S (.goto 5) 3 [] 151 _ [.int 5, .int x7, va_rf p5] (by decide +kernel) rfl ?_
    exact c301_151 hD hz _ _ _ _ _ _ _ _ _ g1 g2 g4 hh
def b301_130 (L : Nat) (xs : Nat → Int32) (zf : Value) (D : dD) (w : Nat) (o0 : Option Nat) (i2 : Int32) (i3 : Int32) (h : rm_H) : Option dR :=
  b301_131 L xs zf D w o0 i2 i3 0 h
theorem c301_130 {L : Nat} {xs : Nat → Int32} {zf : Value} {D : dD} {w k : Nat} (hD : dO L xs zf D k) (hz : zf.category = 1) : ∀ (o0 : Option Nat) (i2 : Int32) (i3 : Int32) (lv : rm_L) (h : rm_H) (r : dR), rm_get lv 0 = some (va_rf o0) → rm_get lv 2 = some (.int i2) → rm_get lv 3 = some (.int i3) → b301_130 L xs zf D w  o0 i2 i3 h = some r → dq L xs zf ah_M301 130 lv [] h (k + 1) r := by
  intro o0 i2 i3 lv h r G0 G2 G3 hh
  unfold b301_130 at hh
  refine dq_S (.iconst 0) 1 [] 131 _ [.int 0] (by decide +kernel) rfl ?_
  exact c301_131 hD hz _ _ _ _ _ _ _ G0 G2 G3 hh
def b301_96 (L : Nat) (xs : Nat → Int32) (zf : Value) (D : dD) (w : Nat) (o0 : Option Nat) (i1 : Int32) (i2 : Int32) (s0 : Int32) (h : rm_H) : Option dR :=
  if mx_f2 .ne i2 61 = true then
    b301_130 L xs zf D w o0 i2 s0 h
  else
    (dgI L xs h 3 [15] o0).bind fun x6 =>
    if mx_f2 .ge (i1 + 1) x6 = true then
      b301_130 L xs zf D w o0 i2 s0 h
    else
      (dgR L xs h 1 [15] o0).bind fun p9 =>
      (daI L xs h p9 (i1 + 1)).bind fun x11 =>
      if mx_f2 .ne x11 61 = true then
        b301_130 L xs zf D w o0 i2 s0 h
      else
        b301_131 L xs zf D w o0 i2 s0 1 h
theorem c301_96 {L : Nat} {xs : Nat → Int32} {zf : Value} {D : dD} {w k : Nat} (hD : dO L xs zf D k) (hz : zf.category = 1) : ∀ (o0 : Option Nat) (i1 : Int32) (i2 : Int32) (s0 : Int32) (lv : rm_L) (h : rm_H) (r : dR), rm_get lv 0 = some (va_rf o0) → rm_get lv 1 = some (.int i1) → rm_get lv 2 = some (.int i2) → b301_96 L xs zf D w  o0 i1 i2 s0 h = some r → dq L xs zf ah_M301 96 lv [.int s0] h (k + 1) r := by
  intro o0 i1 i2 s0 lv h r G0 G1 G2 hh
  unfold b301_96 at hh
  refine dq_isn 3 97 (by decide +kernel) (by decide +kernel) ?_
  have g1 := dg_ne (i := 3) (u := .int s0) (by decide) (Or.inl (by decide)) G0
  have g2 := dg_ne (i := 3) (u := .int s0) (by decide) (Or.inl (by decide)) G1
  have g3 := dg_ne (i := 3) (u := .int s0) (by decide) (Or.inr rfl) G2
  have g4 := dg_eq (lv) 3 (.int s0)
  refine dq_iln 2 98 (by decide +kernel) rfl g3 ?_
  refine dq_S (.bipush 61) 2 [] 100 _ [.int 61, .int i2] (by decide +kernel) rfl ?_
  rcases di hh with ⟨q5, hh⟩ | ⟨q5, hh⟩
  · refine dq_2 .ne 30 true 130 q5 (by decide +kernel) ?_
    exact c301_130 hD hz _ _ _ _ _ _ g1 g3 g4 hh
  · refine dq_2 .ne 30 false 103 q5 (by decide +kernel) ?_
    refine dq_iln 1 104 (by decide +kernel) rfl g2 ?_
    refine dq_S (.iconst 1) 1 [] 105 _ [.int 1, .int i1] (by decide +kernel) rfl ?_
    refine dq_S (.iadd) 1 [] 106 _ [.int (i1 + 1)] (by decide +kernel) rfl ?_
    refine dq_aln 0 107 (by decide +kernel) rfl g1 ?_
    obtain ⟨x6, q7, hh⟩ := db hh
    refine dq_gI 266 3 [15] 110 (by decide +kernel) rfl q7 ?_
    rcases di hh with ⟨q8, hh⟩ | ⟨q8, hh⟩
    · refine dq_2 .ge 20 true 130 q8 (by decide +kernel) ?_
      exact c301_130 hD hz _ _ _ _ _ _ g1 g3 g4 hh
    · refine dq_2 .ge 20 false 113 q8 (by decide +kernel) ?_
      refine dq_aln 0 114 (by decide +kernel) rfl g1 ?_
      obtain ⟨p9, q10, hh⟩ := db hh
      refine dq_gR 17 1 [15] 117 (by decide +kernel) rfl q10 ?_
      refine dq_iln 1 118 (by decide +kernel) rfl g2 ?_
      refine dq_S (.iconst 1) 1 [] 119 _ [.int 1, .int i1, va_rf p9] (by decide +kernel) rfl ?_
      refine dq_S (.iadd) 1 [] 120 _ [.int (i1 + 1), va_rf p9] (by decide +kernel) rfl ?_
      obtain ⟨x11, q12, hh⟩ := db hh
      refine dq_aI 121 (by decide +kernel) rfl q12 ?_
      refine dq_S (.bipush 61) 2 [] 123 _ [.int 61, .int x11] (by decide +kernel) rfl ?_
      rcases di hh with ⟨q13, hh⟩ | ⟨q13, hh⟩
      · refine dq_2 .ne 7 true 130 q13 (by decide +kernel) ?_
        exact c301_130 hD hz _ _ _ _ _ _ g1 g3 g4 hh
      · refine dq_2 .ne 7 false 126 q13 (by decide +kernel) ?_
        refine dq_S (.iconst 1) 1 [] 127 _ [.int 1] (by decide +kernel) rfl ?_
        refine dq_S (.goto 4) 3 [] 131 _ [.int 1] (by decide +kernel) rfl ?_
        exact c301_131 hD hz _ _ _ _ _ _ _ g1 g3 g4 hh
def b301_91 (L : Nat) (xs : Nat → Int32) (zf : Value) (D : dD) (w : Nat) (o0 : Option Nat) (i1 : Int32) (i2 : Int32) (h : rm_H) : Option dR :=
  b301_96 L xs zf D w o0 i1 i2 1 h
theorem c301_91 {L : Nat} {xs : Nat → Int32} {zf : Value} {D : dD} {w k : Nat} (hD : dO L xs zf D k) (hz : zf.category = 1) : ∀ (o0 : Option Nat) (i1 : Int32) (i2 : Int32) (lv : rm_L) (h : rm_H) (r : dR), rm_get lv 0 = some (va_rf o0) → rm_get lv 1 = some (.int i1) → rm_get lv 2 = some (.int i2) → b301_91 L xs zf D w  o0 i1 i2 h = some r → dq L xs zf ah_M301 91 lv [] h (k + 1) r := by
  intro o0 i1 i2 lv h r G0 G1 G2 hh
  unfold b301_91 at hh
  refine dq_S (.iconst 1) 1 [] 92 _ [.int 1] (by decide +kernel) rfl ?_
  refine dq_S (.goto 4) 3 [] 96 _ [.int 1] (by decide +kernel) rfl ?_
  exact c301_96 hD hz _ _ _ _ _ _ _ G0 G1 G2 hh
def b301_0 (L : Nat) (xs : Nat → Int32) (zf : Value) (D : dD) (w : Nat) (o0 : Option Nat) (i1 : Int32) (h : rm_H) : Option dR :=
  (dgR L xs h 1 [15] o0).bind fun p1 =>
  (daI L xs h p1 i1).bind fun x3 =>
  if mx_f2 .eq x3 123 = true then
    b301_91 L xs zf D w o0 i1 x3 h
  else
    if mx_f2 .eq x3 125 = true then
      b301_91 L xs zf D w o0 i1 x3 h
    else
      if mx_f2 .eq x3 40 = true then
        b301_91 L xs zf D w o0 i1 x3 h
      else
        if mx_f2 .eq x3 41 = true then
          b301_91 L xs zf D w o0 i1 x3 h
        else
          if mx_f2 .eq x3 59 = true then
            b301_91 L xs zf D w o0 i1 x3 h
          else
            if mx_f2 .eq x3 44 = true then
              b301_91 L xs zf D w o0 i1 x3 h
            else
              if mx_f2 .eq x3 58 = true then
                b301_91 L xs zf D w o0 i1 x3 h
              else
                if mx_f2 .eq x3 46 = true then
                  b301_91 L xs zf D w o0 i1 x3 h
                else
                  if mx_f2 .eq x3 33 = true then
                    b301_91 L xs zf D w o0 i1 x3 h
                  else
                    if mx_f2 .eq x3 61 = true then
                      b301_91 L xs zf D w o0 i1 x3 h
                    else
                      if mx_f2 .eq x3 60 = true then
                        b301_91 L xs zf D w o0 i1 x3 h
                      else
                        if mx_f2 .eq x3 43 = true then
                          b301_91 L xs zf D w o0 i1 x3 h
                        else
                          if mx_f2 .eq x3 45 = true then
                            b301_91 L xs zf D w o0 i1 x3 h
                          else
                            if mx_f2 .ne x3 42 = true then
                              b301_96 L xs zf D w o0 i1 x3 0 h
                            else
                              b301_91 L xs zf D w o0 i1 x3 h
theorem c301_0 {L : Nat} {xs : Nat → Int32} {zf : Value} {D : dD} {w k : Nat} (hD : dO L xs zf D k) (hz : zf.category = 1) : ∀ (o0 : Option Nat) (i1 : Int32) (lv : rm_L) (h : rm_H) (r : dR), rm_get lv 0 = some (va_rf o0) → rm_get lv 1 = some (.int i1) → b301_0 L xs zf D w  o0 i1 h = some r → dq L xs zf ah_M301 0 lv [] h (k + 1) r := by
  intro o0 i1 lv h r G0 G1 hh
  unfold b301_0 at hh
  refine dq_aln 0 1 (by decide +kernel) rfl G0 ?_
  obtain ⟨p1, q2, hh⟩ := db hh
  refine dq_gR 17 1 [15] 4 (by decide +kernel) rfl q2 ?_
  refine dq_iln 1 5 (by decide +kernel) rfl G1 ?_
  obtain ⟨x3, q4, hh⟩ := db hh
  refine dq_aI 6 (by decide +kernel) rfl q4 ?_
  refine dq_isn 2 7 (by decide +kernel) (by decide +kernel) ?_
  have g5 := dg_ne (i := 2) (u := .int x3) (by decide) (Or.inl (by decide)) G0
  have g6 := dg_ne (i := 2) (u := .int x3) (by decide) (Or.inr rfl) G1
  have g7 := dg_eq (lv) 2 (.int x3)
  refine dq_iln 2 8 (by decide +kernel) rfl g7 ?_
  refine dq_S (.bipush 123) 2 [] 10 _ [.int 123, .int x3] (by decide +kernel) rfl ?_
  rcases di hh with ⟨q8, hh⟩ | ⟨q8, hh⟩
  · refine dq_2 .eq 81 true 91 q8 (by decide +kernel) ?_
    exact c301_91 hD hz _ _ _ _ _ _ g5 g6 g7 hh
  · refine dq_2 .eq 81 false 13 q8 (by decide +kernel) ?_
    refine dq_iln 2 14 (by decide +kernel) rfl g7 ?_
    refine dq_S (.bipush 125) 2 [] 16 _ [.int 125, .int x3] (by decide +kernel) rfl ?_
    rcases di hh with ⟨q9, hh⟩ | ⟨q9, hh⟩
    · refine dq_2 .eq 75 true 91 q9 (by decide +kernel) ?_
      exact c301_91 hD hz _ _ _ _ _ _ g5 g6 g7 hh
    · refine dq_2 .eq 75 false 19 q9 (by decide +kernel) ?_
      refine dq_iln 2 20 (by decide +kernel) rfl g7 ?_
      refine dq_S (.bipush 40) 2 [] 22 _ [.int 40, .int x3] (by decide +kernel) rfl ?_
      rcases di hh with ⟨q10, hh⟩ | ⟨q10, hh⟩
      · refine dq_2 .eq 69 true 91 q10 (by decide +kernel) ?_
        exact c301_91 hD hz _ _ _ _ _ _ g5 g6 g7 hh
      · refine dq_2 .eq 69 false 25 q10 (by decide +kernel) ?_
        refine dq_iln 2 26 (by decide +kernel) rfl g7 ?_
        refine dq_S (.bipush 41) 2 [] 28 _ [.int 41, .int x3] (by decide +kernel) rfl ?_
        rcases di hh with ⟨q11, hh⟩ | ⟨q11, hh⟩
        · refine dq_2 .eq 63 true 91 q11 (by decide +kernel) ?_
          exact c301_91 hD hz _ _ _ _ _ _ g5 g6 g7 hh
        · refine dq_2 .eq 63 false 31 q11 (by decide +kernel) ?_
          refine dq_iln 2 32 (by decide +kernel) rfl g7 ?_
          refine dq_S (.bipush 59) 2 [] 34 _ [.int 59, .int x3] (by decide +kernel) rfl ?_
          rcases di hh with ⟨q12, hh⟩ | ⟨q12, hh⟩
          · refine dq_2 .eq 57 true 91 q12 (by decide +kernel) ?_
            exact c301_91 hD hz _ _ _ _ _ _ g5 g6 g7 hh
          · refine dq_2 .eq 57 false 37 q12 (by decide +kernel) ?_
            refine dq_iln 2 38 (by decide +kernel) rfl g7 ?_
            refine dq_S (.bipush 44) 2 [] 40 _ [.int 44, .int x3] (by decide +kernel) rfl ?_
            rcases di hh with ⟨q13, hh⟩ | ⟨q13, hh⟩
            · refine dq_2 .eq 51 true 91 q13 (by decide +kernel) ?_
              exact c301_91 hD hz _ _ _ _ _ _ g5 g6 g7 hh
            · refine dq_2 .eq 51 false 43 q13 (by decide +kernel) ?_
              refine dq_iln 2 44 (by decide +kernel) rfl g7 ?_
              refine dq_S (.bipush 58) 2 [] 46 _ [.int 58, .int x3] (by decide +kernel) rfl ?_
              rcases di hh with ⟨q14, hh⟩ | ⟨q14, hh⟩
              · refine dq_2 .eq 45 true 91 q14 (by decide +kernel) ?_
                exact c301_91 hD hz _ _ _ _ _ _ g5 g6 g7 hh
              · refine dq_2 .eq 45 false 49 q14 (by decide +kernel) ?_
                refine dq_iln 2 50 (by decide +kernel) rfl g7 ?_
                refine dq_S (.bipush 46) 2 [] 52 _ [.int 46, .int x3] (by decide +kernel) rfl ?_
                rcases di hh with ⟨q15, hh⟩ | ⟨q15, hh⟩
                · refine dq_2 .eq 39 true 91 q15 (by decide +kernel) ?_
                  exact c301_91 hD hz _ _ _ _ _ _ g5 g6 g7 hh
                · refine dq_2 .eq 39 false 55 q15 (by decide +kernel) ?_
                  refine dq_iln 2 56 (by decide +kernel) rfl g7 ?_
                  refine dq_S (.bipush 33) 2 [] 58 _ [.int 33, .int x3] (by decide +kernel) rfl ?_
                  rcases di hh with ⟨q16, hh⟩ | ⟨q16, hh⟩
                  · refine dq_2 .eq 33 true 91 q16 (by decide +kernel) ?_
                    exact c301_91 hD hz _ _ _ _ _ _ g5 g6 g7 hh
                  · refine dq_2 .eq 33 false 61 q16 (by decide +kernel) ?_
                    refine dq_iln 2 62 (by decide +kernel) rfl g7 ?_
                    refine dq_S (.bipush 61) 2 [] 64 _ [.int 61, .int x3] (by decide +kernel) rfl ?_
                    rcases di hh with ⟨q17, hh⟩ | ⟨q17, hh⟩
                    · refine dq_2 .eq 27 true 91 q17 (by decide +kernel) ?_
                      exact c301_91 hD hz _ _ _ _ _ _ g5 g6 g7 hh
                    · refine dq_2 .eq 27 false 67 q17 (by decide +kernel) ?_
                      refine dq_iln 2 68 (by decide +kernel) rfl g7 ?_
                      refine dq_S (.bipush 60) 2 [] 70 _ [.int 60, .int x3] (by decide +kernel) rfl ?_
                      rcases di hh with ⟨q18, hh⟩ | ⟨q18, hh⟩
                      · refine dq_2 .eq 21 true 91 q18 (by decide +kernel) ?_
                        exact c301_91 hD hz _ _ _ _ _ _ g5 g6 g7 hh
                      · refine dq_2 .eq 21 false 73 q18 (by decide +kernel) ?_
                        refine dq_iln 2 74 (by decide +kernel) rfl g7 ?_
                        refine dq_S (.bipush 43) 2 [] 76 _ [.int 43, .int x3] (by decide +kernel) rfl ?_
                        rcases di hh with ⟨q19, hh⟩ | ⟨q19, hh⟩
                        · refine dq_2 .eq 15 true 91 q19 (by decide +kernel) ?_
                          exact c301_91 hD hz _ _ _ _ _ _ g5 g6 g7 hh
                        · refine dq_2 .eq 15 false 79 q19 (by decide +kernel) ?_
                          refine dq_iln 2 80 (by decide +kernel) rfl g7 ?_
                          refine dq_S (.bipush 45) 2 [] 82 _ [.int 45, .int x3] (by decide +kernel) rfl ?_
                          rcases di hh with ⟨q20, hh⟩ | ⟨q20, hh⟩
                          · refine dq_2 .eq 9 true 91 q20 (by decide +kernel) ?_
                            exact c301_91 hD hz _ _ _ _ _ _ g5 g6 g7 hh
                          · refine dq_2 .eq 9 false 85 q20 (by decide +kernel) ?_
                            refine dq_iln 2 86 (by decide +kernel) rfl g7 ?_
                            refine dq_S (.bipush 42) 2 [] 88 _ [.int 42, .int x3] (by decide +kernel) rfl ?_
                            rcases di hh with ⟨q21, hh⟩ | ⟨q21, hh⟩
                            · refine dq_2 .ne 7 true 95 q21 (by decide +kernel) ?_
                              refine dq_S (.iconst 0) 1 [] 96 _ [.int 0] (by decide +kernel) rfl ?_
                              exact c301_96 hD hz _ _ _ _ _ _ _ g5 g6 g7 hh
                            · refine dq_2 .ne 7 false 91 q21 (by decide +kernel) ?_
                              exact c301_91 hD hz _ _ _ _ _ _ g5 g6 g7 hh
def f301 (L : Nat) (xs : Nat → Int32) (zf : Value) (D : dD) (w : Nat) (As : List Value) (h : rm_H) : Option dR := match As with
  | [v0, .int i1] => (rm_rf v0).bind fun o0 => b301_0 L xs zf D w o0 i1 h
  | _ => none
theorem d301 {L : Nat} {xs : Nat → Int32} {zf : Value} {D : dD} {w k : Nat} (hD : dO L xs zf D k) (hz : zf.category = 1) (As : List Value) (h : rm_H) (r : dR) (hh : f301 L xs zf D w As h = some r) : dq L xs zf ah_M301 0 (lv_args 0 As) [] h (k + 1) r := by
  unfold f301 at hh
  split at hh
  · obtain ⟨o0, e0, hb0⟩ := db hh
    have e0 := rm_rf_v _ _ e0
    subst e0
    refine c301_0 hD hz _ _ _ _ _ ?_ ?_ hb0
    all_goals (simp only [la_r, la_i, la_j]; rfl)
  · cases hh
def b302_16 (L : Nat) (xs : Nat → Int32) (zf : Value) (D : dD) (w : Nat) (K0 : Option Nat → rm_H → Option dR) (o0 : Option Nat) (h : rm_H) : Option dR :=
  (dgI L xs h 32 [15] o0).bind fun x1 =>
  if mx_f2 .ne x1 8 = true then
    ((dcV L xs D 306 [15] o0 [] h).bind dxV).bind fun h4 =>
    K0 o0 h4
  else
    ((dcV L xs D 304 [15] o0 [] h).bind dxV).bind fun h8 =>
    K0 o0 h8
theorem c302_16 {L : Nat} {xs : Nat → Int32} {zf : Value} {D : dD} {w k : Nat} {K0 : Option Nat → rm_H → Option dR} (hD : dO L xs zf D k) (hz : zf.category = 1) (hK0 : ∀ (o0 : Option Nat) (lv : rm_L) (h : rm_H) (r : dR), rm_get lv 0 = some (va_rf o0) → K0 o0 h = some r → dq L xs zf ah_M302 0 lv [] h (k + 1) r) : ∀ (o0 : Option Nat) (lv : rm_L) (h : rm_H) (r : dR), rm_get lv 0 = some (va_rf o0) → b302_16 L xs zf D w K0  o0 h = some r → dq L xs zf ah_M302 16 lv [] h (k + 1) r := by
  intro o0 lv h r G0 hh
  unfold b302_16 at hh
  refine dq_aln 0 17 (by decide +kernel) rfl G0 ?_
  obtain ⟨x1, q2, hh⟩ := db hh
  refine dq_gI 326 32 [15] 20 (by decide +kernel) rfl q2 ?_
  refine dq_S (.bipush 8) 2 [] 22 _ [.int 8, .int x1] (by decide +kernel) rfl ?_
  rcases di hh with ⟨q3, hh⟩ | ⟨q3, hh⟩
  · refine dq_2 .ne 10 true 32 q3 (by decide +kernel) ?_
    refine dq_aln 0 33 (by decide +kernel) rfl G0 ?_
    obtain ⟨h4, q5, hh⟩ := db hh
    obtain ⟨a6, q7, q5⟩ := db q5
    rw [dq_xV q5] at q7
    refine dq_cvi hD 329 306 5 0 [15] o0 [] [] 36 [] (by decide +kernel) ap_306 ⟨⟨Nat.le_of_ble_eq_true rfl, by decide⟩, rfl, rfl⟩ (dq_ok8 [1] [] (dc_r dc_n) dc_n (by decide +kernel)) (by decide +kernel) rfl q7 rfl ?_
    refine dq_S (.goto (-36)) 3 [] 0 _ [] (by decide +kernel) rfl ?_
    exact hK0 _ _ _ _ G0 hh
  · refine dq_2 .ne 10 false 25 q3 (by decide +kernel) ?_
    refine dq_aln 0 26 (by decide +kernel) rfl G0 ?_
    obtain ⟨h8, q9, hh⟩ := db hh
    obtain ⟨a10, q11, q9⟩ := db q9
    rw [dq_xV q9] at q11
    refine dq_cvi hD 310 304 5 0 [15] o0 [] [] 29 [] (by decide +kernel) ap_304 ⟨⟨Nat.le_of_ble_eq_true rfl, by decide⟩, rfl, rfl⟩ (dq_ok8 [1] [] (dc_r dc_n) dc_n (by decide +kernel)) (by decide +kernel) rfl q11 rfl ?_
    refine dq_S (.goto (-29)) 3 [] 0 _ [] (by decide +kernel) rfl ?_
    exact hK0 _ _ _ _ G0 hh
def b302_69 (L : Nat) (xs : Nat → Int32) (zf : Value) (D : dD) (w : Nat) (h : rm_H) : Option dR :=
  some (none, h)
theorem c302_69 {L : Nat} {xs : Nat → Int32} {zf : Value} {D : dD} {w k : Nat} (hD : dO L xs zf D k) (hz : zf.category = 1) : ∀ (lv : rm_L) (h : rm_H) (r : dR), b302_69 L xs zf D w  h = some r → dq L xs zf ah_M302 69 lv [] h (k + 1) r := by
  intro lv h r hh
  unfold b302_69 at hh
  cases hh
  exact dq_ret0 (by decide +kernel) rfl
def b302_65 (L : Nat) (xs : Nat → Int32) (zf : Value) (D : dD) (w : Nat) (o0 : Option Nat) (h : rm_H) : Option dR :=
  ((dcV L xs D 304 [15] o0 [] h).bind dxV).bind fun h1 =>
  b302_69 L xs zf D w h1
theorem c302_65 {L : Nat} {xs : Nat → Int32} {zf : Value} {D : dD} {w k : Nat} (hD : dO L xs zf D k) (hz : zf.category = 1) : ∀ (o0 : Option Nat) (lv : rm_L) (h : rm_H) (r : dR), rm_get lv 0 = some (va_rf o0) → b302_65 L xs zf D w  o0 h = some r → dq L xs zf ah_M302 65 lv [] h (k + 1) r := by
  intro o0 lv h r G0 hh
  unfold b302_65 at hh
  refine dq_aln 0 66 (by decide +kernel) rfl G0 ?_
  obtain ⟨h1, q2, hh⟩ := db hh
  obtain ⟨a3, q4, q2⟩ := db q2
  rw [dq_xV q2] at q4
  refine dq_cvi hD 310 304 5 0 [15] o0 [] [] 69 [] (by decide +kernel) ap_304 ⟨⟨Nat.le_of_ble_eq_true rfl, by decide⟩, rfl, rfl⟩ (dq_ok8 [1] [] (dc_r dc_n) dc_n (by decide +kernel)) (by decide +kernel) rfl q4 rfl ?_
  exact c302_69 hD hz  _ _ _  hh
def b302_0 (L : Nat) (xs : Nat → Int32) (zf : Value) (D : dD) (w : Nat) : Nat → Option Nat → rm_H → Option dR
  | 0, _, _ => none
  | n + 1, o0, h =>
    ((dcV L xs D 303 [15] o0 [.int 0] h).bind dxI).bind fun x1 =>
    if mx_f1 .ne x1.1 = true then
      b302_16 L xs zf D w (b302_0 L xs zf D w n) o0 x1.2
    else
      ((dcV L xs D 303 [15] o0 [.int 1] x1.2).bind dxI).bind fun x6 =>
      if mx_f1 .eq x6.1 = true then
        (dgI L xs x6.2 57 [15] o0).bind fun x11 =>
        if mx_f1 .ne x11 = true then
          b302_69 L xs zf D w x6.2
        else
          (dgR L xs x6.2 6 [15] o0).bind fun p14 =>
          (dgI L xs x6.2 56 [15] o0).bind fun x16 =>
          (daI L xs x6.2 p14 x16).bind fun x18 =>
          if mx_f1 .ne x18 = true then
            b302_65 L xs zf D w o0 x6.2
          else
            (dgI L xs x6.2 32 [15] o0).bind fun x21 =>
            if mx_f1 .ne x21 = true then
              b302_69 L xs zf D w x6.2
            else
              b302_65 L xs zf D w o0 x6.2
      else
        b302_16 L xs zf D w (b302_0 L xs zf D w n) o0 x6.2
theorem c302_0 {L : Nat} {xs : Nat → Int32} {zf : Value} {D : dD} {w k : Nat} (hD : dO L xs zf D k) (hz : zf.category = 1) : ∀ (n : Nat) (o0 : Option Nat) (lv : rm_L) (h : rm_H) (r : dR), rm_get lv 0 = some (va_rf o0) → b302_0 L xs zf D w n  o0 h = some r → dq L xs zf ah_M302 0 lv [] h (k + 1) r := by
  intro n
  induction n with
  | zero =>
    intro o0 lv h r G0 hh
    cases hh
  | succ n ih =>
    intro o0 lv h r G0 hh
    rw [b302_0] at hh
    refine dq_aln 0 1 (by decide +kernel) rfl G0 ?_
    refine dq_S (.iconst 0) 1 [] 2 _ [.int 0, va_rf o0] (by decide +kernel) rfl ?_
    obtain ⟨x1, q2, hh⟩ := db hh
    obtain ⟨a3, q4, q2⟩ := db q2
    rw [dq_xI q2] at q4
    refine dq_cvi hD 313 303 5 1 [15] o0 [.int 0] [] 5 [.int x1.1] (by decide +kernel) ap_303 ⟨⟨Nat.le_of_ble_eq_true rfl, by decide⟩, rfl, rfl⟩ (dq_ok8 [1, 1] [] (dc_r (dc_i dc_n)) dc_n (by decide +kernel)) (by decide +kernel) rfl q4 rfl ?_
    rcases di hh with ⟨q5, hh⟩ | ⟨q5, hh⟩
    · refine dq_1 .ne 11 true 16 q5 (by decide +kernel) ?_
      exact c302_16 hD hz ih _ _ _ _ G0 hh
    · refine dq_1 .ne 11 false 8 q5 (by decide +kernel) ?_
      refine dq_aln 0 9 (by decide +kernel) rfl G0 ?_
      refine dq_S (.iconst 1) 1 [] 10 _ [.int 1, va_rf o0] (by decide +kernel) rfl ?_
      obtain ⟨x6, q7, hh⟩ := db hh
      obtain ⟨a8, q9, q7⟩ := db q7
      rw [dq_xI q7] at q9
      refine dq_cvi hD 313 303 5 1 [15] o0 [.int 1] [] 13 [.int x6.1] (by decide +kernel) ap_303 ⟨⟨Nat.le_of_ble_eq_true rfl, by decide⟩, rfl, rfl⟩ (dq_ok8 [1, 1] [] (dc_r (dc_i dc_n)) dc_n (by decide +kernel)) (by decide +kernel) rfl q9 rfl ?_
      rcases di hh with ⟨q10, hh⟩ | ⟨q10, hh⟩
      · refine dq_1 .eq 26 true 39 q10 (by decide +kernel) ?_
        refine dq_aln 0 40 (by decide +kernel) rfl G0 ?_
        obtain ⟨x11, q12, hh⟩ := db hh
        refine dq_gI 295 57 [15] 43 (by decide +kernel) rfl q12 ?_
        rcases di hh with ⟨q13, hh⟩ | ⟨q13, hh⟩
        · refine dq_1 .ne 26 true 69 q13 (by decide +kernel) ?_
          exact c302_69 hD hz  _ _ _  hh
        · refine dq_1 .ne 26 false 46 q13 (by decide +kernel) ?_
          refine dq_aln 0 47 (by decide +kernel) rfl G0 ?_
          obtain ⟨p14, q15, hh⟩ := db hh
          refine dq_gR 24 6 [15] 50 (by decide +kernel) rfl q15 ?_
          refine dq_aln 0 51 (by decide +kernel) rfl G0 ?_
          obtain ⟨x16, q17, hh⟩ := db hh
          refine dq_gI 298 56 [15] 54 (by decide +kernel) rfl q17 ?_
          obtain ⟨x18, q19, hh⟩ := db hh
          refine dq_aI 55 (by decide +kernel) rfl q19 ?_
          rcases di hh with ⟨q20, hh⟩ | ⟨q20, hh⟩
          · refine dq_1 .ne 10 true 65 q20 (by decide +kernel) ?_
            exact c302_65 hD hz _ _ _ _ G0 hh
          · refine dq_1 .ne 10 false 58 q20 (by decide +kernel) ?_
            refine dq_aln 0 59 (by decide +kernel) rfl G0 ?_
            obtain ⟨x21, q22, hh⟩ := db hh
            refine dq_gI 326 32 [15] 62 (by decide +kernel) rfl q22 ?_
            rcases di hh with ⟨q23, hh⟩ | ⟨q23, hh⟩
            · refine dq_1 .ne 7 true 69 q23 (by decide +kernel) ?_
              exact c302_69 hD hz  _ _ _  hh
            · refine dq_1 .ne 7 false 65 q23 (by decide +kernel) ?_
              exact c302_65 hD hz _ _ _ _ G0 hh
      · refine dq_1 .eq 26 false 16 q10 (by decide +kernel) ?_
        exact c302_16 hD hz ih _ _ _ _ G0 hh
def f302 (L : Nat) (xs : Nat → Int32) (zf : Value) (D : dD) (w : Nat) (As : List Value) (h : rm_H) : Option dR := match As with
  | [v0] => (rm_rf v0).bind fun o0 => b302_0 L xs zf D w w o0 h
  | _ => none
theorem d302 {L : Nat} {xs : Nat → Int32} {zf : Value} {D : dD} {w k : Nat} (hD : dO L xs zf D k) (hz : zf.category = 1) (As : List Value) (h : rm_H) (r : dR) (hh : f302 L xs zf D w As h = some r) : dq L xs zf ah_M302 0 (lv_args 0 As) [] h (k + 1) r := by
  unfold f302 at hh
  split at hh
  · obtain ⟨o0, e0, hb0⟩ := db hh
    have e0 := rm_rf_v _ _ e0
    subst e0
    refine c302_0 hD hz _ _ _ _ _ ?_ hb0
    all_goals (simp only [la_r, la_i, la_j]; rfl)
  · cases hh
def b303_38 (L : Nat) (xs : Nat → Int32) (zf : Value) (D : dD) (w : Nat) (s0 : Int32) (h : rm_H) : Option dR :=
  drI (some .boolean) s0 h
theorem c303_38 {L : Nat} {xs : Nat → Int32} {zf : Value} {D : dD} {w k : Nat} (hD : dO L xs zf D k) (hz : zf.category = 1) : ∀ (s0 : Int32) (lv : rm_L) (h : rm_H) (r : dR), b303_38 L xs zf D w  s0 h = some r → dq L xs zf ah_M303 38 lv [.int s0] h (k + 1) r := by
  intro s0 lv h r hh
  unfold b303_38 at hh
  exact dq_retI (some .boolean) (by decide +kernel) rfl hh
def b303_37 (L : Nat) (xs : Nat → Int32) (zf : Value) (D : dD) (w : Nat) (h : rm_H) : Option dR :=
  b303_38 L xs zf D w 0 h
theorem c303_37 {L : Nat} {xs : Nat → Int32} {zf : Value} {D : dD} {w k : Nat} (hD : dO L xs zf D k) (hz : zf.category = 1) : ∀ (lv : rm_L) (h : rm_H) (r : dR), b303_37 L xs zf D w  h = some r → dq L xs zf ah_M303 37 lv [] h (k + 1) r := by
  intro lv h r hh
  unfold b303_37 at hh
  refine dq_S (.iconst 0) 1 [] 38 _ [.int 0] (by decide +kernel) rfl ?_
  exact c303_38 hD hz _ _ _ _  hh
def b303_0 (L : Nat) (xs : Nat → Int32) (zf : Value) (D : dD) (w : Nat) (o0 : Option Nat) (i1 : Int32) (h : rm_H) : Option dR :=
  (dgI L xs h 57 [15] o0).bind fun x1 =>
  if mx_f1 .ne x1 = true then
    b303_37 L xs zf D w h
  else
    (dgR L xs h 6 [15] o0).bind fun p4 =>
    (dgI L xs h 56 [15] o0).bind fun x6 =>
    (daI L xs h p4 x6).bind fun x8 =>
    if mx_f2 .ne x8 2 = true then
      b303_37 L xs zf D w h
    else
      (dgR L xs h 8 [15] o0).bind fun p11 =>
      (dgI L xs h 56 [15] o0).bind fun x13 =>
      (daI L xs h p11 x13).bind fun x15 =>
      if mx_f2 .ne x15 i1 = true then
        b303_37 L xs zf D w h
      else
        b303_38 L xs zf D w 1 h
theorem c303_0 {L : Nat} {xs : Nat → Int32} {zf : Value} {D : dD} {w k : Nat} (hD : dO L xs zf D k) (hz : zf.category = 1) : ∀ (o0 : Option Nat) (i1 : Int32) (lv : rm_L) (h : rm_H) (r : dR), rm_get lv 0 = some (va_rf o0) → rm_get lv 1 = some (.int i1) → b303_0 L xs zf D w  o0 i1 h = some r → dq L xs zf ah_M303 0 lv [] h (k + 1) r := by
  intro o0 i1 lv h r G0 G1 hh
  unfold b303_0 at hh
  refine dq_aln 0 1 (by decide +kernel) rfl G0 ?_
  obtain ⟨x1, q2, hh⟩ := db hh
  refine dq_gI 295 57 [15] 4 (by decide +kernel) rfl q2 ?_
  rcases di hh with ⟨q3, hh⟩ | ⟨q3, hh⟩
  · refine dq_1 .ne 33 true 37 q3 (by decide +kernel) ?_
    exact c303_37 hD hz  _ _ _  hh
  · refine dq_1 .ne 33 false 7 q3 (by decide +kernel) ?_
    refine dq_aln 0 8 (by decide +kernel) rfl G0 ?_
    obtain ⟨p4, q5, hh⟩ := db hh
    refine dq_gR 24 6 [15] 11 (by decide +kernel) rfl q5 ?_
    refine dq_aln 0 12 (by decide +kernel) rfl G0 ?_
    obtain ⟨x6, q7, hh⟩ := db hh
    refine dq_gI 298 56 [15] 15 (by decide +kernel) rfl q7 ?_
    obtain ⟨x8, q9, hh⟩ := db hh
    refine dq_aI 16 (by decide +kernel) rfl q9 ?_
    refine dq_S (.iconst 2) 1 [] 17 _ [.int 2, .int x8] (by decide +kernel) rfl ?_
    rcases di hh with ⟨q10, hh⟩ | ⟨q10, hh⟩
    · refine dq_2 .ne 20 true 37 q10 (by decide +kernel) ?_
      exact c303_37 hD hz  _ _ _  hh
    · refine dq_2 .ne 20 false 20 q10 (by decide +kernel) ?_
      refine dq_aln 0 21 (by decide +kernel) rfl G0 ?_
      obtain ⟨p11, q12, hh⟩ := db hh
      refine dq_gR 30 8 [15] 24 (by decide +kernel) rfl q12 ?_
      refine dq_aln 0 25 (by decide +kernel) rfl G0 ?_
      obtain ⟨x13, q14, hh⟩ := db hh
      refine dq_gI 298 56 [15] 28 (by decide +kernel) rfl q14 ?_
      obtain ⟨x15, q16, hh⟩ := db hh
      refine dq_aI 29 (by decide +kernel) rfl q16 ?_
      refine dq_iln 1 30 (by decide +kernel) rfl G1 ?_
      rcases di hh with ⟨q17, hh⟩ | ⟨q17, hh⟩
      · refine dq_2 .ne 7 true 37 q17 (by decide +kernel) ?_
        exact c303_37 hD hz  _ _ _  hh
      · refine dq_2 .ne 7 false 33 q17 (by decide +kernel) ?_
        refine dq_S (.iconst 1) 1 [] 34 _ [.int 1] (by decide +kernel) rfl ?_
        refine dq_S (.goto 4) 3 [] 38 _ [.int 1] (by decide +kernel) rfl ?_
        exact c303_38 hD hz _ _ _ _  hh
def f303 (L : Nat) (xs : Nat → Int32) (zf : Value) (D : dD) (w : Nat) (As : List Value) (h : rm_H) : Option dR := match As with
  | [v0, .int i1] => (rm_rf v0).bind fun o0 => b303_0 L xs zf D w o0 i1 h
  | _ => none
theorem d303 {L : Nat} {xs : Nat → Int32} {zf : Value} {D : dD} {w k : Nat} (hD : dO L xs zf D k) (hz : zf.category = 1) (As : List Value) (h : rm_H) (r : dR) (hh : f303 L xs zf D w As h = some r) : dq L xs zf ah_M303 0 (lv_args 0 As) [] h (k + 1) r := by
  unfold f303 at hh
  split at hh
  · obtain ⟨o0, e0, hb0⟩ := db hh
    have e0 := rm_rf_v _ _ e0
    subst e0
    refine c303_0 hD hz _ _ _ _ _ ?_ ?_ hb0
    all_goals (simp only [la_r, la_i, la_j]; rfl)
  · cases hh
def b304_0 (L : Nat) (xs : Nat → Int32) (zf : Value) (D : dD) (w : Nat) (o0 : Option Nat) (h : rm_H) : Option dR :=
  (dgR L xs h 7 [15] o0).bind fun p1 =>
  (dgI L xs h 56 [15] o0).bind fun x3 =>
  (daI L xs h p1 x3).bind fun x5 =>
  ((dcV L xs D 305 [15] o0 [.int 1, .int x5] h).bind dxV).bind fun h7 =>
  some (none, h7)
theorem c304_0 {L : Nat} {xs : Nat → Int32} {zf : Value} {D : dD} {w k : Nat} (hD : dO L xs zf D k) (hz : zf.category = 1) : ∀ (o0 : Option Nat) (lv : rm_L) (h : rm_H) (r : dR), rm_get lv 0 = some (va_rf o0) → b304_0 L xs zf D w  o0 h = some r → dq L xs zf ah_M304 0 lv [] h (k + 1) r := by
  intro o0 lv h r G0 hh
  unfold b304_0 at hh
  refine dq_aln 0 1 (by decide +kernel) rfl G0 ?_
  refine dq_S (.iconst 1) 1 [] 2 _ [.int 1, va_rf o0] (by decide +kernel) rfl ?_
  refine dq_aln 0 3 (by decide +kernel) rfl G0 ?_
  obtain ⟨p1, q2, hh⟩ := db hh
  refine dq_gR 27 7 [15] 6 (by decide +kernel) rfl q2 ?_
  refine dq_aln 0 7 (by decide +kernel) rfl G0 ?_
  obtain ⟨x3, q4, hh⟩ := db hh
  refine dq_gI 298 56 [15] 10 (by decide +kernel) rfl q4 ?_
  obtain ⟨x5, q6, hh⟩ := db hh
  refine dq_aI 11 (by decide +kernel) rfl q6 ?_
  obtain ⟨h7, q8, hh⟩ := db hh
  obtain ⟨a9, q10, q8⟩ := db q8
  rw [dq_xV q8] at q10
  refine dq_cvi hD 301 305 5 2 [15] o0 [.int 1, .int x5] [] 14 [] (by decide +kernel) ap_305 ⟨⟨Nat.le_of_ble_eq_true rfl, by decide⟩, rfl, rfl⟩ (dq_ok8 [1, 1, 1] [] (dc_r (dc_i (dc_i dc_n))) dc_n (by decide +kernel)) (by decide +kernel) rfl q10 rfl ?_
  cases hh
  exact dq_ret0 (by decide +kernel) rfl
def f304 (L : Nat) (xs : Nat → Int32) (zf : Value) (D : dD) (w : Nat) (As : List Value) (h : rm_H) : Option dR := match As with
  | [v0] => (rm_rf v0).bind fun o0 => b304_0 L xs zf D w o0 h
  | _ => none
theorem d304 {L : Nat} {xs : Nat → Int32} {zf : Value} {D : dD} {w k : Nat} (hD : dO L xs zf D k) (hz : zf.category = 1) (As : List Value) (h : rm_H) (r : dR) (hh : f304 L xs zf D w As h = some r) : dq L xs zf ah_M304 0 (lv_args 0 As) [] h (k + 1) r := by
  unfold f304 at hh
  split at hh
  · obtain ⟨o0, e0, hb0⟩ := db hh
    have e0 := rm_rf_v _ _ e0
    subst e0
    refine c304_0 hD hz _ _ _ _ ?_ hb0
    all_goals (simp only [la_r, la_i, la_j]; rfl)
  · cases hh
def b305_0 (L : Nat) (xs : Nat → Int32) (zf : Value) (D : dD) (w : Nat) (o0 : Option Nat) (i1 : Int32) (i2 : Int32) (h : rm_H) : Option dR :=
  (dgI L xs h 57 [15] o0).bind fun x1 =>
  if mx_f1 .le x1 = true then
    (dpF h 57 [15] o0 (.int i1)).bind fun h4 =>
    (dpF h4 58 [15] o0 (.int i2)).bind fun h6 =>
    some (none, h6)
  else
    some (none, h)
theorem c305_0 {L : Nat} {xs : Nat → Int32} {zf : Value} {D : dD} {w k : Nat} (hD : dO L xs zf D k) (hz : zf.category = 1) : ∀ (o0 : Option Nat) (i1 : Int32) (i2 : Int32) (lv : rm_L) (h : rm_H) (r : dR), rm_get lv 0 = some (va_rf o0) → rm_get lv 1 = some (.int i1) → rm_get lv 2 = some (.int i2) → b305_0 L xs zf D w  o0 i1 i2 h = some r → dq L xs zf ah_M305 0 lv [] h (k + 1) r := by
  intro o0 i1 i2 lv h r G0 G1 G2 hh
  unfold b305_0 at hh
  refine dq_aln 0 1 (by decide +kernel) rfl G0 ?_
  obtain ⟨x1, q2, hh⟩ := db hh
  refine dq_gI 295 57 [15] 4 (by decide +kernel) rfl q2 ?_
  rcases di hh with ⟨q3, hh⟩ | ⟨q3, hh⟩
  · refine dq_1 .le 4 true 8 q3 (by decide +kernel) ?_
    refine dq_aln 0 9 (by decide +kernel) rfl G0 ?_
    refine dq_iln 1 10 (by decide +kernel) rfl G1 ?_
    obtain ⟨h4, q5, hh⟩ := db hh
    refine dq_put 295 57 [15] 13 (by decide +kernel) rfl q5 ?_
    refine dq_aln 0 14 (by decide +kernel) rfl G0 ?_
    refine dq_iln 2 15 (by decide +kernel) rfl G2 ?_
    obtain ⟨h6, q7, hh⟩ := db hh
    refine dq_put 151 58 [15] 18 (by decide +kernel) rfl q7 ?_
    cases hh
    exact dq_ret0 (by decide +kernel) rfl
  · refine dq_1 .le 4 false 7 q3 (by decide +kernel) ?_
    cases hh
    exact dq_ret0 (by decide +kernel) rfl
def f305 (L : Nat) (xs : Nat → Int32) (zf : Value) (D : dD) (w : Nat) (As : List Value) (h : rm_H) : Option dR := match As with
  | [v0, .int i1, .int i2] => (rm_rf v0).bind fun o0 => b305_0 L xs zf D w o0 i1 i2 h
  | _ => none
theorem d305 {L : Nat} {xs : Nat → Int32} {zf : Value} {D : dD} {w k : Nat} (hD : dO L xs zf D k) (hz : zf.category = 1) (As : List Value) (h : rm_H) (r : dR) (hh : f305 L xs zf D w As h = some r) : dq L xs zf ah_M305 0 (lv_args 0 As) [] h (k + 1) r := by
  unfold f305 at hh
  split at hh
  · obtain ⟨o0, e0, hb0⟩ := db hh
    have e0 := rm_rf_v _ _ e0
    subst e0
    refine c305_0 hD hz _ _ _ _ _ _ ?_ ?_ ?_ hb0
    all_goals (simp only [la_r, la_i, la_j]; rfl)
  · cases hh
def b306_232 (L : Nat) (xs : Nat → Int32) (zf : Value) (D : dD) (w : Nat) (K167 : Option Nat → Int32 → rm_H → Option dR) (o0 : Option Nat) (i1 : Int32) (s0 : Int32) (s1 : Int32) (s2 : Option Nat) (h : rm_H) : Option dR :=
  ((dcV L xs D 314 [15] s2 [.int s1, .int s0] h).bind dxV).bind fun h1 =>
  K167 o0 i1 h1
theorem c306_232 {L : Nat} {xs : Nat → Int32} {zf : Value} {D : dD} {w k : Nat} {K167 : Option Nat → Int32 → rm_H → Option dR} (hD : dO L xs zf D k) (hz : zf.category = 1) (hK167 : ∀ (o0 : Option Nat) (i1 : Int32) (lv : rm_L) (h : rm_H) (r : dR), rm_get lv 0 = some (va_rf o0) → rm_get lv 1 = some (.int i1) → K167 o0 i1 h = some r → dq L xs zf ah_M306 167 lv [] h (k + 1) r) : ∀ (o0 : Option Nat) (i1 : Int32) (s0 : Int32) (s1 : Int32) (s2 : Option Nat) (lv : rm_L) (h : rm_H) (r : dR), rm_get lv 0 = some (va_rf o0) → rm_get lv 1 = some (.int i1) → b306_232 L xs zf D w K167  o0 i1 s0 s1 s2 h = some r → dq L xs zf ah_M306 232 lv [.int s0, .int s1, va_rf s2] h (k + 1) r := by
  intro o0 i1 s0 s1 s2 lv h r G0 G1 hh
  unfold b306_232 at hh
  obtain ⟨h1, q2, hh⟩ := db hh
  obtain ⟨a3, q4, q2⟩ := db q2
  rw [dq_xV q2] at q4
  refine dq_cvi hD 345 314 5 2 [15] s2 [.int s1, .int s0] [] 235 [] (by decide +kernel) ap_314 ⟨⟨Nat.le_of_ble_eq_true rfl, by decide⟩, rfl, rfl⟩ (dq_ok8 [1, 1, 1] [] (dc_r (dc_i (dc_i dc_n))) dc_n (by decide +kernel)) (by decide +kernel) rfl q4 rfl ?_
  refine dq_S (.goto (-68)) 3 [] 167 _ [] (by decide +kernel) rfl ?_
  exact hK167 _ _ _ _ _ G0 G1 hh
def b306_192 (L : Nat) (xs : Nat → Int32) (zf : Value) (D : dD) (w : Nat) (K167 : Option Nat → Int32 → rm_H → Option dR) (o0 : Option Nat) (i1 : Int32) (h : rm_H) : Option dR :=
  (dgI L xs h 42 [15] o0).bind fun x1 =>
  (dgR L xs h 36 [15] o0).bind fun p3 =>
  (daI L xs h p3 i1).bind fun x5 =>
  if mx_f2 .ne ((x1 - x5) - 1) 8 = true then
    ((dcV L xs D 303 [15] o0 [.int 3] h).bind dxI).bind fun x8 =>
    if mx_f1 .eq x8.1 = true then
      b306_232 L xs zf D w K167 o0 i1 2 i1 o0 x8.2
    else
      b306_232 L xs zf D w K167 o0 i1 1 i1 o0 x8.2
  else
    ((dcV L xs D 304 [15] o0 [] h).bind dxV).bind fun h13 =>
    K167 o0 i1 h13
theorem c306_192 {L : Nat} {xs : Nat → Int32} {zf : Value} {D : dD} {w k : Nat} {K167 : Option Nat → Int32 → rm_H → Option dR} (hD : dO L xs zf D k) (hz : zf.category = 1) (hK167 : ∀ (o0 : Option Nat) (i1 : Int32) (lv : rm_L) (h : rm_H) (r : dR), rm_get lv 0 = some (va_rf o0) → rm_get lv 1 = some (.int i1) → K167 o0 i1 h = some r → dq L xs zf ah_M306 167 lv [] h (k + 1) r) : ∀ (o0 : Option Nat) (i1 : Int32) (lv : rm_L) (h : rm_H) (r : dR), rm_get lv 0 = some (va_rf o0) → rm_get lv 1 = some (.int i1) → b306_192 L xs zf D w K167  o0 i1 h = some r → dq L xs zf ah_M306 192 lv [] h (k + 1) r := by
  intro o0 i1 lv h r G0 G1 hh
  unfold b306_192 at hh
  refine dq_aln 0 193 (by decide +kernel) rfl G0 ?_
  obtain ⟨x1, q2, hh⟩ := db hh
  refine dq_gI 342 42 [15] 196 (by decide +kernel) rfl q2 ?_
  refine dq_aln 0 197 (by decide +kernel) rfl G0 ?_
  obtain ⟨p3, q4, hh⟩ := db hh
  refine dq_gR 99 36 [15] 200 (by decide +kernel) rfl q4 ?_
  refine dq_iln 1 201 (by decide +kernel) rfl G1 ?_
  obtain ⟨x5, q6, hh⟩ := db hh
  refine dq_aI 202 (by decide +kernel) rfl q6 ?_
  refine dq_S (.isub) 1 [] 203 _ [.int (x1 - x5)] (by decide +kernel) rfl ?_
  refine dq_S (.iconst 1) 1 [] 204 _ [.int 1, .int (x1 - x5)] (by decide +kernel) rfl ?_
  refine dq_S (.isub) 1 [] 205 _ [.int ((x1 - x5) - 1)] (by decide +kernel) rfl ?_
  refine dq_S (.bipush 8) 2 [] 207 _ [.int 8, .int ((x1 - x5) - 1)] (by decide +kernel) rfl ?_
  rcases di hh with ⟨q7, hh⟩ | ⟨q7, hh⟩
  · refine dq_2 .ne 10 true 217 q7 (by decide +kernel) ?_
    refine dq_aln 0 218 (by decide +kernel) rfl G0 ?_
    refine dq_iln 1 219 (by decide +kernel) rfl G1 ?_
    refine dq_aln 0 220 (by decide +kernel) rfl G0 ?_
    refine dq_S (.iconst 3) 1 [] 221 _ [.int 3, va_rf o0, .int i1, va_rf o0] (by decide +kernel) rfl ?_
    obtain ⟨x8, q9, hh⟩ := db hh
    obtain ⟨a10, q11, q9⟩ := db q9
    rw [dq_xI q9] at q11
    refine dq_cvi hD 313 303 5 1 [15] o0 [.int 3] [.int i1, va_rf o0] 224 [.int x8.1, .int i1, va_rf o0] (by decide +kernel) ap_303 ⟨⟨Nat.le_of_ble_eq_true rfl, by decide⟩, rfl, rfl⟩ (dq_ok8 [1, 1] [1, 1] (dc_r (dc_i dc_n)) (dc_i (dc_r dc_n)) (by decide +kernel)) (by decide +kernel) rfl q11 rfl ?_
    rcases di hh with ⟨q12, hh⟩ | ⟨q12, hh⟩
    · refine dq_1 .eq 7 true 231 q12 (by decide +kernel) ?_
      refine dq_S (.iconst 2) 1 [] 232 _ [.int 2, .int i1, va_rf o0] (by decide +kernel) rfl ?_
      exact c306_232 hD hz hK167 _ _ _ _ _ _ _ _ G0 G1 hh
    · refine dq_1 .eq 7 false 227 q12 (by decide +kernel) ?_
      refine dq_S (.iconst 1) 1 [] 228 _ [.int 1, .int i1, va_rf o0] (by decide +kernel) rfl ?_
      refine dq_S (.goto 4) 3 [] 232 _ [.int 1, .int i1, va_rf o0] (by decide +kernel) rfl ?_
      exact c306_232 hD hz hK167 _ _ _ _ _ _ _ _ G0 G1 hh
  · refine dq_2 .ne 10 false 210 q7 (by decide +kernel) ?_
    refine dq_aln 0 211 (by decide +kernel) rfl G0 ?_
    obtain ⟨h13, q14, hh⟩ := db hh
    obtain ⟨a15, q16, q14⟩ := db q14
    rw [dq_xV q14] at q16
    refine dq_cvi hD 310 304 5 0 [15] o0 [] [] 214 [] (by decide +kernel) ap_304 ⟨⟨Nat.le_of_ble_eq_true rfl, by decide⟩, rfl, rfl⟩ (dq_ok8 [1] [] (dc_r dc_n) dc_n (by decide +kernel)) (by decide +kernel) rfl q16 rfl ?_
    refine dq_S (.goto (-47)) 3 [] 167 _ [] (by decide +kernel) rfl ?_
    exact hK167 _ _ _ _ _ G0 G1 hh
def b306_238 (L : Nat) (xs : Nat → Int32) (zf : Value) (D : dD) (w : Nat) (o0 : Option Nat) (i1 : Int32) (h : rm_H) : Option dR :=
  (dgR L xs h 36 [15] o0).bind fun p1 =>
  (dgI L xs h 42 [15] o0).bind fun x3 =>
  (dsI h p1 (i1 + 1) x3).bind fun h5 =>
  ((dcV L xs D 308 [15] o0 [.int 125] h5).bind dxV).bind fun h7 =>
  some (none, h7)
theorem c306_238 {L : Nat} {xs : Nat → Int32} {zf : Value} {D : dD} {w k : Nat} (hD : dO L xs zf D k) (hz : zf.category = 1) : ∀ (o0 : Option Nat) (i1 : Int32) (lv : rm_L) (h : rm_H) (r : dR), rm_get lv 0 = some (va_rf o0) → rm_get lv 1 = some (.int i1) → b306_238 L xs zf D w  o0 i1 h = some r → dq L xs zf ah_M306 238 lv [] h (k + 1) r := by
  intro o0 i1 lv h r G0 G1 hh
  unfold b306_238 at hh
  refine dq_aln 0 239 (by decide +kernel) rfl G0 ?_
  obtain ⟨p1, q2, hh⟩ := db hh
  refine dq_gR 99 36 [15] 242 (by decide +kernel) rfl q2 ?_
  refine dq_iln 1 243 (by decide +kernel) rfl G1 ?_
  refine dq_S (.iconst 1) 1 [] 244 _ [.int 1, .int i1, va_rf p1] (by decide +kernel) rfl ?_
  refine dq_S (.iadd) 1 [] 245 _ [.int (i1 + 1), va_rf p1] (by decide +kernel) rfl ?_
  refine dq_aln 0 246 (by decide +kernel) rfl G0 ?_
  obtain ⟨x3, q4, hh⟩ := db hh
  refine dq_gI 342 42 [15] 249 (by decide +kernel) rfl q4 ?_
  obtain ⟨h5, q6, hh⟩ := db hh
  refine dq_sI 250 (by decide +kernel) rfl q6 ?_
  refine dq_aln 0 251 (by decide +kernel) rfl G0 ?_
  refine dq_S (.bipush 125) 2 [] 253 _ [.int 125, va_rf o0] (by decide +kernel) rfl ?_
  obtain ⟨h7, q8, hh⟩ := db hh
  obtain ⟨a9, q10, q8⟩ := db q8
  rw [dq_xV q8] at q10
  refine dq_cvi hD 335 308 5 1 [15] o0 [.int 125] [] 256 [] (by decide +kernel) ap_308 ⟨⟨Nat.le_of_ble_eq_true rfl, by decide⟩, rfl, rfl⟩ (dq_ok8 [1, 1] [] (dc_r (dc_i dc_n)) dc_n (by decide +kernel)) (by decide +kernel) rfl q10 rfl ?_
  cases hh
  exact dq_ret0 (by decide +kernel) rfl
def b306_167 (L : Nat) (xs : Nat → Int32) (zf : Value) (D : dD) (w : Nat) : Nat → Option Nat → Int32 → rm_H → Option dR
  | 0, _, _, _ => none
  | n + 1, o0, i1, h =>
    ((dcV L xs D 303 [15] o0 [.int 3] h).bind dxI).bind fun x1 =>
    if mx_f1 .ne x1.1 = true then
      b306_192 L xs zf D w (b306_167 L xs zf D w n) o0 i1 x1.2
    else
      (dgR L xs x1.2 37 [15] o0).bind fun p6 =>
      (daB L xs x1.2 p6 i1).bind fun x8 =>
      if mx_f1 .eq x8 = true then
        b306_238 L xs zf D w o0 i1 x1.2
      else
        ((dcV L xs D 303 [15] o0 [.int 4] x1.2).bind dxI).bind fun x11 =>
        if mx_f1 .eq x11.1 = true then
          b306_238 L xs zf D w o0 i1 x11.2
        else
          b306_192 L xs zf D w (b306_167 L xs zf D w n) o0 i1 x11.2
theorem c306_167 {L : Nat} {xs : Nat → Int32} {zf : Value} {D : dD} {w k : Nat} (hD : dO L xs zf D k) (hz : zf.category = 1) : ∀ (n : Nat) (o0 : Option Nat) (i1 : Int32) (lv : rm_L) (h : rm_H) (r : dR), rm_get lv 0 = some (va_rf o0) → rm_get lv 1 = some (.int i1) → b306_167 L xs zf D w n  o0 i1 h = some r → dq L xs zf ah_M306 167 lv [] h (k + 1) r := by
  intro n
  induction n with
  | zero =>
    intro o0 i1 lv h r G0 G1 hh
    cases hh
  | succ n ih =>
    intro o0 i1 lv h r G0 G1 hh
    rw [b306_167] at hh
    refine dq_aln 0 168 (by decide +kernel) rfl G0 ?_
    refine dq_S (.iconst 3) 1 [] 169 _ [.int 3, va_rf o0] (by decide +kernel) rfl ?_
    obtain ⟨x1, q2, hh⟩ := db hh
    obtain ⟨a3, q4, q2⟩ := db q2
    rw [dq_xI q2] at q4
    refine dq_cvi hD 313 303 5 1 [15] o0 [.int 3] [] 172 [.int x1.1] (by decide +kernel) ap_303 ⟨⟨Nat.le_of_ble_eq_true rfl, by decide⟩, rfl, rfl⟩ (dq_ok8 [1, 1] [] (dc_r (dc_i dc_n)) dc_n (by decide +kernel)) (by decide +kernel) rfl q4 rfl ?_
    rcases di hh with ⟨q5, hh⟩ | ⟨q5, hh⟩
    · refine dq_1 .ne 20 true 192 q5 (by decide +kernel) ?_
      exact c306_192 hD hz ih _ _ _ _ _ G0 G1 hh
    · refine dq_1 .ne 20 false 175 q5 (by decide +kernel) ?_
      refine dq_aln 0 176 (by decide +kernel) rfl G0 ?_
      obtain ⟨p6, q7, hh⟩ := db hh
      refine dq_gR 102 37 [15] 179 (by decide +kernel) rfl q7 ?_
      refine dq_iln 1 180 (by decide +kernel) rfl G1 ?_
      obtain ⟨x8, q9, hh⟩ := db hh
      refine dq_aB 181 (by decide +kernel) rfl q9 ?_
      rcases di hh with ⟨q10, hh⟩ | ⟨q10, hh⟩
      · refine dq_1 .eq 57 true 238 q10 (by decide +kernel) ?_
        exact c306_238 hD hz _ _ _ _ _ G0 G1 hh
      · refine dq_1 .eq 57 false 184 q10 (by decide +kernel) ?_
        refine dq_aln 0 185 (by decide +kernel) rfl G0 ?_
        refine dq_S (.iconst 4) 1 [] 186 _ [.int 4, va_rf o0] (by decide +kernel) rfl ?_
        obtain ⟨x11, q12, hh⟩ := db hh
        obtain ⟨a13, q14, q12⟩ := db q12
        rw [dq_xI q12] at q14
        refine dq_cvi hD 313 303 5 1 [15] o0 [.int 4] [] 189 [.int x11.1] (by decide +kernel) ap_303 ⟨⟨Nat.le_of_ble_eq_true rfl, by decide⟩, rfl, rfl⟩ (dq_ok8 [1, 1] [] (dc_r (dc_i dc_n)) dc_n (by decide +kernel)) (by decide +kernel) rfl q14 rfl ?_
        rcases di hh with ⟨q15, hh⟩ | ⟨q15, hh⟩
        · refine dq_1 .eq 49 true 238 q15 (by decide +kernel) ?_
          exact c306_238 hD hz _ _ _ _ _ G0 G1 hh
        · refine dq_1 .eq 49 false 192 q15 (by decide +kernel) ?_
          exact c306_192 hD hz ih _ _ _ _ _ G0 G1 hh
def b306_154 (L : Nat) (xs : Nat → Int32) (zf : Value) (D : dD) (w : Nat) (o0 : Option Nat) (i1 : Int32) (h : rm_H) : Option dR :=
  (dgI L xs h 57 [15] o0).bind fun x1 =>
  if mx_f1 .ne x1 = true then
    b306_167 L xs zf D w w o0 i1 h
  else
    ((dcV L xs D 314 [15] o0 [.int i1, .int 0] h).bind dxV).bind fun h4 =>
    b306_167 L xs zf D w w o0 i1 h4
theorem c306_154 {L : Nat} {xs : Nat → Int32} {zf : Value} {D : dD} {w k : Nat} (hD : dO L xs zf D k) (hz : zf.category = 1) : ∀ (o0 : Option Nat) (i1 : Int32) (lv : rm_L) (h : rm_H) (r : dR), rm_get lv 0 = some (va_rf o0) → rm_get lv 1 = some (.int i1) → b306_154 L xs zf D w  o0 i1 h = some r → dq L xs zf ah_M306 154 lv [] h (k + 1) r := by
  intro o0 i1 lv h r G0 G1 hh
  unfold b306_154 at hh
  refine dq_aln 0 155 (by decide +kernel) rfl G0 ?_
  obtain ⟨x1, q2, hh⟩ := db hh
  refine dq_gI 295 57 [15] 158 (by decide +kernel) rfl q2 ?_
  rcases di hh with ⟨q3, hh⟩ | ⟨q3, hh⟩
  · refine dq_1 .ne 9 true 167 q3 (by decide +kernel) ?_
    exact c306_167 hD hz _ _ _ _ _ _ G0 G1 hh
  · refine dq_1 .ne 9 false 161 q3 (by decide +kernel) ?_
    refine dq_aln 0 162 (by decide +kernel) rfl G0 ?_
    refine dq_iln 1 163 (by decide +kernel) rfl G1 ?_
    refine dq_S (.iconst 0) 1 [] 164 _ [.int 0, .int i1, va_rf o0] (by decide +kernel) rfl ?_
    obtain ⟨h4, q5, hh⟩ := db hh
    obtain ⟨a6, q7, q5⟩ := db q5
    rw [dq_xV q5] at q7
    refine dq_cvi hD 345 314 5 2 [15] o0 [.int i1, .int 0] [] 167 [] (by decide +kernel) ap_314 ⟨⟨Nat.le_of_ble_eq_true rfl, by decide⟩, rfl, rfl⟩ (dq_ok8 [1, 1, 1] [] (dc_r (dc_i (dc_i dc_n))) dc_n (by decide +kernel)) (by decide +kernel) rfl q7 rfl ?_
    exact c306_167 hD hz _ _ _ _ _ _ G0 G1 hh
def b306_82 (L : Nat) (xs : Nat → Int32) (zf : Value) (D : dD) (w : Nat) : Nat → Option Nat → Int32 → rm_H → Option dR
  | 0, _, _, _ => none
  | n + 1, o0, i1, h =>
    ((dcV L xs D 303 [15] o0 [.int 5] h).bind dxI).bind fun x1 =>
    if mx_f1 .eq x1.1 = true then
      (dgR L xs x1.2 35 [15] o0).bind fun p6 =>
      (dgI L xs x1.2 38 [15] o0).bind fun x8 =>
      (dsI x1.2 p6 (i1 + 1) x8).bind fun h10 =>
      (dgR L xs h10 36 [15] o0).bind fun p12 =>
      (dgI L xs h10 42 [15] o0).bind fun x14 =>
      (dsI h10 p12 i1 x14).bind fun h16 =>
      ((dcV L xs D 303 [15] o0 [.int 2] h16).bind dxI).bind fun x18 =>
      if mx_f1 .ne x18.1 = true then
        b306_154 L xs zf D w o0 i1 x18.2
      else
        ((dcV L xs D 304 [15] o0 [] x18.2).bind dxV).bind fun h23 =>
        b306_154 L xs zf D w o0 i1 h23
    else
      (dgI L xs x1.2 38 [15] o0).bind fun x27 =>
      (dgR L xs x1.2 35 [15] o0).bind fun p29 =>
      (daI L xs x1.2 p29 i1).bind fun x31 =>
      if mx_f2 .ne (x27 - x31) 8 = true then
        ((dcV L xs D 311 [15] o0 [] x1.2).bind dxV).bind fun h34 =>
        b306_82 L xs zf D w n o0 i1 h34
      else
        ((dcV L xs D 304 [15] o0 [] x1.2).bind dxV).bind fun h38 =>
        b306_82 L xs zf D w n o0 i1 h38
theorem c306_82 {L : Nat} {xs : Nat → Int32} {zf : Value} {D : dD} {w k : Nat} (hD : dO L xs zf D k) (hz : zf.category = 1) : ∀ (n : Nat) (o0 : Option Nat) (i1 : Int32) (lv : rm_L) (h : rm_H) (r : dR), rm_get lv 0 = some (va_rf o0) → rm_get lv 1 = some (.int i1) → b306_82 L xs zf D w n  o0 i1 h = some r → dq L xs zf ah_M306 82 lv [] h (k + 1) r := by
  intro n
  induction n with
  | zero =>
    intro o0 i1 lv h r G0 G1 hh
    cases hh
  | succ n ih =>
    intro o0 i1 lv h r G0 G1 hh
    rw [b306_82] at hh
    refine dq_aln 0 83 (by decide +kernel) rfl G0 ?_
    refine dq_S (.iconst 5) 1 [] 84 _ [.int 5, va_rf o0] (by decide +kernel) rfl ?_
    obtain ⟨x1, q2, hh⟩ := db hh
    obtain ⟨a3, q4, q2⟩ := db q2
    rw [dq_xI q2] at q4
    refine dq_cvi hD 313 303 5 1 [15] o0 [.int 5] [] 87 [.int x1.1] (by decide +kernel) ap_303 ⟨⟨Nat.le_of_ble_eq_true rfl, by decide⟩, rfl, rfl⟩ (dq_ok8 [1, 1] [] (dc_r (dc_i dc_n)) dc_n (by decide +kernel)) (by decide +kernel) rfl q4 rfl ?_
    rcases di hh with ⟨q5, hh⟩ | ⟨q5, hh⟩
    · refine dq_1 .eq 33 true 120 q5 (by decide +kernel) ?_
      refine dq_aln 0 121 (by decide +kernel) rfl G0 ?_
      obtain ⟨p6, q7, hh⟩ := db hh
      refine dq_gR 96 35 [15] 124 (by decide +kernel) rfl q7 ?_
      refine dq_iln 1 125 (by decide +kernel) rfl G1 ?_
      refine dq_S (.iconst 1) 1 [] 126 _ [.int 1, .int i1, va_rf p6] (by decide +kernel) rfl ?_
      refine dq_S (.iadd) 1 [] 127 _ [.int (i1 + 1), va_rf p6] (by decide +kernel) rfl ?_
      refine dq_aln 0 128 (by decide +kernel) rfl G0 ?_
      obtain ⟨x8, q9, hh⟩ := db hh
      refine dq_gI 332 38 [15] 131 (by decide +kernel) rfl q9 ?_
      obtain ⟨h10, q11, hh⟩ := db hh
      refine dq_sI 132 (by decide +kernel) rfl q11 ?_
      refine dq_aln 0 133 (by decide +kernel) rfl G0 ?_
      obtain ⟨p12, q13, hh⟩ := db hh
      refine dq_gR 99 36 [15] 136 (by decide +kernel) rfl q13 ?_
      refine dq_iln 1 137 (by decide +kernel) rfl G1 ?_
      refine dq_aln 0 138 (by decide +kernel) rfl G0 ?_
      obtain ⟨x14, q15, hh⟩ := db hh
      refine dq_gI 342 42 [15] 141 (by decide +kernel) rfl q15 ?_
      obtain ⟨h16, q17, hh⟩ := db hh
      refine dq_sI 142 (by decide +kernel) rfl q17 ?_
      refine dq_aln 0 143 (by decide +kernel) rfl G0 ?_
      refine dq_S (.iconst 2) 1 [] 144 _ [.int 2, va_rf o0] (by decide +kernel) rfl ?_
      obtain ⟨x18, q19, hh⟩ := db hh
      obtain ⟨a20, q21, q19⟩ := db q19
      rw [dq_xI q19] at q21
      refine dq_cvi hD 313 303 5 1 [15] o0 [.int 2] [] 147 [.int x18.1] (by decide +kernel) ap_303 ⟨⟨Nat.le_of_ble_eq_true rfl, by decide⟩, rfl, rfl⟩ (dq_ok8 [1, 1] [] (dc_r (dc_i dc_n)) dc_n (by decide +kernel)) (by decide +kernel) rfl q21 rfl ?_
      rcases di hh with ⟨q22, hh⟩ | ⟨q22, hh⟩
      · refine dq_1 .ne 7 true 154 q22 (by decide +kernel) ?_
        exact c306_154 hD hz _ _ _ _ _ G0 G1 hh
      · refine dq_1 .ne 7 false 150 q22 (by decide +kernel) ?_
        refine dq_aln 0 151 (by decide +kernel) rfl G0 ?_
        obtain ⟨h23, q24, hh⟩ := db hh
        obtain ⟨a25, q26, q24⟩ := db q24
        rw [dq_xV q24] at q26
        refine dq_cvi hD 310 304 5 0 [15] o0 [] [] 154 [] (by decide +kernel) ap_304 ⟨⟨Nat.le_of_ble_eq_true rfl, by decide⟩, rfl, rfl⟩ (dq_ok8 [1] [] (dc_r dc_n) dc_n (by decide +kernel)) (by decide +kernel) rfl q26 rfl ?_
        exact c306_154 hD hz _ _ _ _ _ G0 G1 hh
    · refine dq_1 .eq 33 false 90 q5 (by decide +kernel) ?_
      refine dq_aln 0 91 (by decide +kernel) rfl G0 ?_
      obtain ⟨x27, q28, hh⟩ := db hh
      refine dq_gI 332 38 [15] 94 (by decide +kernel) rfl q28 ?_
      refine dq_aln 0 95 (by decide +kernel) rfl G0 ?_
      obtain ⟨p29, q30, hh⟩ := db hh
      refine dq_gR 96 35 [15] 98 (by decide +kernel) rfl q30 ?_
      refine dq_iln 1 99 (by decide +kernel) rfl G1 ?_
      obtain ⟨x31, q32, hh⟩ := db hh
      refine dq_aI 100 (by decide +kernel) rfl q32 ?_
      refine dq_S (.isub) 1 [] 101 _ [.int (x27 - x31)] (by decide +kernel) rfl ?_
      refine dq_S (.bipush 8) 2 [] 103 _ [.int 8, .int (x27 - x31)] (by decide +kernel) rfl ?_
      rcases di hh with ⟨q33, hh⟩ | ⟨q33, hh⟩
      · refine dq_2 .ne 10 true 113 q33 (by decide +kernel) ?_
        refine dq_aln 0 114 (by decide +kernel) rfl G0 ?_
        obtain ⟨h34, q35, hh⟩ := db hh
        obtain ⟨a36, q37, q35⟩ := db q35
        rw [dq_xV q35] at q37
        refine dq_cvi hD 339 311 5 0 [15] o0 [] [] 117 [] (by decide +kernel) ap_311 ⟨⟨Nat.le_of_ble_eq_true rfl, by decide⟩, rfl, rfl⟩ (dq_ok8 [1] [] (dc_r dc_n) dc_n (by decide +kernel)) (by decide +kernel) rfl q37 rfl ?_
        refine dq_S (.goto (-35)) 3 [] 82 _ [] (by decide +kernel) rfl ?_
        exact ih _ _ _ _ _ G0 G1 hh
      · refine dq_2 .ne 10 false 106 q33 (by decide +kernel) ?_
        refine dq_aln 0 107 (by decide +kernel) rfl G0 ?_
        obtain ⟨h38, q39, hh⟩ := db hh
        obtain ⟨a40, q41, q39⟩ := db q39
        rw [dq_xV q39] at q41
        refine dq_cvi hD 310 304 5 0 [15] o0 [] [] 110 [] (by decide +kernel) ap_304 ⟨⟨Nat.le_of_ble_eq_true rfl, by decide⟩, rfl, rfl⟩ (dq_ok8 [1] [] (dc_r dc_n) dc_n (by decide +kernel)) (by decide +kernel) rfl q41 rfl ?_
        refine dq_S (.goto (-28)) 3 [] 82 _ [] (by decide +kernel) rfl ?_
        exact ih _ _ _ _ _ G0 G1 hh
def b306_0 (L : Nat) (xs : Nat → Int32) (zf : Value) (D : dD) (w : Nat) (o0 : Option Nat) (h : rm_H) : Option dR :=
  (dgI L xs h 32 [15] o0).bind fun x1 =>
  (dgI L xs h 32 [15] o0).bind fun x5 =>
  (dpF h 32 [15] o0 (.int (x5 + 1))).bind fun h7 =>
  (dgR L xs h7 37 [15] o0).bind fun p9 =>
  ((dcV L xs D 303 [15] o0 [.int 1] h7).bind dxI).bind fun x11 =>
  (dsB x11.2 p9 x1 x11.1).bind fun h15 =>
  (dgI L xs h15 56 [15] o0).bind fun x17 =>
  (dpF h15 56 [15] o0 (.int (x17 + 1))).bind fun h19 =>
  ((dcV L xs D 307 [15] o0 [.int 3] h19).bind dxI).bind fun x21 =>
  (dgR L xs x21.2 33 [15] o0).bind fun p28 =>
  (dgR L xs x21.2 9 [15] o0).bind fun p30 =>
  (daJ L xs x21.2 p30 x21.1).bind fun y32 =>
  (dsJ x21.2 p28 x1 y32).bind fun h34 =>
  (dgR L xs h34 34 [15] o0).bind fun p36 =>
  (dgR L xs h34 7 [15] o0).bind fun p38 =>
  (daI L xs h34 p38 x21.1).bind fun x40 =>
  (dsI h34 p36 x1 x40).bind fun h42 =>
  (dgR L xs h42 35 [15] o0).bind fun p44 =>
  (dgI L xs h42 38 [15] o0).bind fun x46 =>
  (dsI h42 p44 x1 x46).bind fun h48 =>
  ((dcV L xs D 308 [15] o0 [.int 123] h48).bind dxV).bind fun h50 =>
  b306_82 L xs zf D w w o0 x1 h50
theorem c306_0 {L : Nat} {xs : Nat → Int32} {zf : Value} {D : dD} {w k : Nat} (hD : dO L xs zf D k) (hz : zf.category = 1) : ∀ (o0 : Option Nat) (lv : rm_L) (h : rm_H) (r : dR), rm_get lv 0 = some (va_rf o0) → b306_0 L xs zf D w  o0 h = some r → dq L xs zf ah_M306 0 lv [] h (k + 1) r := by
  intro o0 lv h r G0 hh
  unfold b306_0 at hh
  refine dq_aln 0 1 (by decide +kernel) rfl G0 ?_
  obtain ⟨x1, q2, hh⟩ := db hh
  refine dq_gI 326 32 [15] 4 (by decide +kernel) rfl q2 ?_
  refine dq_isn 1 5 (by decide +kernel) (by decide +kernel) ?_
  have g3 := dg_ne (i := 1) (u := .int x1) (by decide) (Or.inr (drc _)) G0
  have g4 := dg_eq (lv) 1 (.int x1)
  refine dq_aln 0 6 (by decide +kernel) rfl g3 ?_
  refine dq_dup 7 (by decide +kernel) rfl ?_
  obtain ⟨x5, q6, hh⟩ := db hh
  refine dq_gI 326 32 [15] 10 (by decide +kernel) rfl q6 ?_
  refine dq_S (.iconst 1) 1 [] 11 _ [.int 1, .int x5, va_rf o0] (by decide +kernel) rfl ?_
  refine dq_S (.iadd) 1 [] 12 _ [.int (x5 + 1), va_rf o0] (by decide +kernel) rfl ?_
  obtain ⟨h7, q8, hh⟩ := db hh
  refine dq_put 326 32 [15] 15 (by decide +kernel) rfl q8 ?_
  refine dq_aln 0 16 (by decide +kernel) rfl g3 ?_
  obtain ⟨p9, q10, hh⟩ := db hh
  refine dq_gR 102 37 [15] 19 (by decide +kernel) rfl q10 ?_
  refine dq_iln 1 20 (by decide +kernel) rfl g4 ?_
  refine dq_aln 0 21 (by decide +kernel) rfl g3 ?_
  refine dq_S (.iconst 1) 1 [] 22 _ [.int 1, va_rf o0, .int x1, va_rf p9] (by decide +kernel) rfl ?_
  obtain ⟨x11, q12, hh⟩ := db hh
  obtain ⟨a13, q14, q12⟩ := db q12
  rw [dq_xI q12] at q14
  refine dq_cvi hD 313 303 5 1 [15] o0 [.int 1] [.int x1, va_rf p9] 25 [.int x11.1, .int x1, va_rf p9] (by decide +kernel) ap_303 ⟨⟨Nat.le_of_ble_eq_true rfl, by decide⟩, rfl, rfl⟩ (dq_ok8 [1, 1] [1, 1] (dc_r (dc_i dc_n)) (dc_i (dc_r dc_n)) (by decide +kernel)) (by decide +kernel) rfl q14 rfl ?_
  obtain ⟨h15, q16, hh⟩ := db hh
  refine dq_sB1 26 (by decide +kernel) rfl q16 ?_
  refine dq_aln 0 27 (by decide +kernel) rfl g3 ?_
  refine dq_dup 28 (by decide +kernel) rfl ?_
  obtain ⟨x17, q18, hh⟩ := db hh
  refine dq_gI 298 56 [15] 31 (by decide +kernel) rfl q18 ?_
  refine dq_S (.iconst 1) 1 [] 32 _ [.int 1, .int x17, va_rf o0] (by decide +kernel) rfl ?_
  refine dq_S (.iadd) 1 [] 33 _ [.int (x17 + 1), va_rf o0] (by decide +kernel) rfl ?_
  obtain ⟨h19, q20, hh⟩ := db hh
  refine dq_put 298 56 [15] 36 (by decide +kernel) rfl q20 ?_
  refine dq_aln 0 37 (by decide +kernel) rfl g3 ?_
  refine dq_S (.iconst 3) 1 [] 38 _ [.int 3, va_rf o0] (by decide +kernel) rfl ?_
  obtain ⟨x21, q22, hh⟩ := db hh
  obtain ⟨a23, q24, q22⟩ := db q22
  rw [dq_xI q22] at q24
  refine dq_cvi hD 323 307 5 1 [15] o0 [.int 3] [] 41 [.int x21.1] (by decide +kernel) ap_307 ⟨⟨Nat.le_of_ble_eq_true rfl, by decide⟩, rfl, rfl⟩ (dq_ok8 [1, 1] [] (dc_r (dc_i dc_n)) dc_n (by decide +kernel)) (by decide +kernel) rfl q24 rfl ?_
  refine dq_isn 2 42 (by decide +kernel) (by decide +kernel) ?_
  have g25 := dg_ne (i := 2) (u := .int x21.1) (by decide) (Or.inl (by decide)) g3
  have g26 := dg_ne (i := 2) (u := .int x21.1) (by decide) (Or.inr rfl) g4
  have g27 := dg_eq (rm_set1 (lv) 1 (.int x1)) 2 (.int x21.1)
  refine dq_aln 0 43 (by decide +kernel) rfl g25 ?_
  obtain ⟨p28, q29, hh⟩ := db hh
  refine dq_gR 90 33 [15] 46 (by decide +kernel) rfl q29 ?_
  refine dq_iln 1 47 (by decide +kernel) rfl g26 ?_
  refine dq_aln 0 48 (by decide +kernel) rfl g25 ?_
  obtain ⟨p30, q31, hh⟩ := db hh
  refine dq_gR 33 9 [15] 51 (by decide +kernel) rfl q31 ?_
  refine dq_iln 2 52 (by decide +kernel) rfl g27 ?_
  obtain ⟨y32, q33, hh⟩ := db hh
  refine dq_aJ 53 (by decide +kernel) rfl q33 ?_
  obtain ⟨h34, q35, hh⟩ := db hh
  refine dq_sJ 54 (by decide +kernel) rfl q35 ?_
  refine dq_aln 0 55 (by decide +kernel) rfl g25 ?_
  obtain ⟨p36, q37, hh⟩ := db hh
  refine dq_gR 93 34 [15] 58 (by decide +kernel) rfl q37 ?_
  refine dq_iln 1 59 (by decide +kernel) rfl g26 ?_
  refine dq_aln 0 60 (by decide +kernel) rfl g25 ?_
  obtain ⟨p38, q39, hh⟩ := db hh
  refine dq_gR 27 7 [15] 63 (by decide +kernel) rfl q39 ?_
  refine dq_iln 2 64 (by decide +kernel) rfl g27 ?_
  obtain ⟨x40, q41, hh⟩ := db hh
  refine dq_aI 65 (by decide +kernel) rfl q41 ?_
  obtain ⟨h42, q43, hh⟩ := db hh
  refine dq_sI 66 (by decide +kernel) rfl q43 ?_
  refine dq_aln 0 67 (by decide +kernel) rfl g25 ?_
  obtain ⟨p44, q45, hh⟩ := db hh
  refine dq_gR 96 35 [15] 70 (by decide +kernel) rfl q45 ?_
  refine dq_iln 1 71 (by decide +kernel) rfl g26 ?_
  refine dq_aln 0 72 (by decide +kernel) rfl g25 ?_
  obtain ⟨x46, q47, hh⟩ := db hh
  refine dq_gI 332 38 [15] 75 (by decide +kernel) rfl q47 ?_
  obtain ⟨h48, q49, hh⟩ := db hh
  refine dq_sI 76 (by decide +kernel) rfl q49 ?_
  refine dq_aln 0 77 (by decide +kernel) rfl g25 ?_
  refine dq_S (.bipush 123) 2 [] 79 _ [.int 123, va_rf o0] (by decide +kernel) rfl ?_
  obtain ⟨h50, q51, hh⟩ := db hh
  obtain ⟨a52, q53, q51⟩ := db q51
  rw [dq_xV q51] at q53
  refine dq_cvi hD 335 308 5 1 [15] o0 [.int 123] [] 82 [] (by decide +kernel) ap_308 ⟨⟨Nat.le_of_ble_eq_true rfl, by decide⟩, rfl, rfl⟩ (dq_ok8 [1, 1] [] (dc_r (dc_i dc_n)) dc_n (by decide +kernel)) (by decide +kernel) rfl q53 rfl ?_
  exact c306_82 hD hz _ _ _ _ _ _ g25 g26 hh
def f306 (L : Nat) (xs : Nat → Int32) (zf : Value) (D : dD) (w : Nat) (As : List Value) (h : rm_H) : Option dR := match As with
  | [v0] => (rm_rf v0).bind fun o0 => b306_0 L xs zf D w o0 h
  | _ => none
theorem d306 {L : Nat} {xs : Nat → Int32} {zf : Value} {D : dD} {w k : Nat} (hD : dO L xs zf D k) (hz : zf.category = 1) (As : List Value) (h : rm_H) (r : dR) (hh : f306 L xs zf D w As h = some r) : dq L xs zf ah_M306 0 (lv_args 0 As) [] h (k + 1) r := by
  unfold f306 at hh
  split at hh
  · obtain ⟨o0, e0, hb0⟩ := db hh
    have e0 := rm_rf_v _ _ e0
    subst e0
    refine c306_0 hD hz _ _ _ _ ?_ hb0
    all_goals (simp only [la_r, la_i, la_j]; rfl)
  · cases hh
def b307_42 (L : Nat) (xs : Nat → Int32) (zf : Value) (D : dD) (w : Nat) (i2 : Int32) (h : rm_H) : Option dR :=
  drI (some .int) i2 h
theorem c307_42 {L : Nat} {xs : Nat → Int32} {zf : Value} {D : dD} {w k : Nat} (hD : dO L xs zf D k) (hz : zf.category = 1) : ∀ (i2 : Int32) (lv : rm_L) (h : rm_H) (r : dR), rm_get lv 2 = some (.int i2) → b307_42 L xs zf D w  i2 h = some r → dq L xs zf ah_M307 42 lv [] h (k + 1) r := by
  intro i2 lv h r G2 hh
  unfold b307_42 at hh
  refine dq_iln 2 43 (by decide +kernel) rfl G2 ?_
  exact dq_retI (some .int) (by decide +kernel) rfl hh
def b307_38 (L : Nat) (xs : Nat → Int32) (zf : Value) (D : dD) (w : Nat) (o0 : Option Nat) (i2 : Int32) (h : rm_H) : Option dR :=
  ((dcV L xs D 304 [15] o0 [] h).bind dxV).bind fun h1 =>
  b307_42 L xs zf D w i2 h1
theorem c307_38 {L : Nat} {xs : Nat → Int32} {zf : Value} {D : dD} {w k : Nat} (hD : dO L xs zf D k) (hz : zf.category = 1) : ∀ (o0 : Option Nat) (i2 : Int32) (lv : rm_L) (h : rm_H) (r : dR), rm_get lv 0 = some (va_rf o0) → rm_get lv 2 = some (.int i2) → b307_38 L xs zf D w  o0 i2 h = some r → dq L xs zf ah_M307 38 lv [] h (k + 1) r := by
  intro o0 i2 lv h r G0 G2 hh
  unfold b307_38 at hh
  refine dq_aln 0 39 (by decide +kernel) rfl G0 ?_
  obtain ⟨h1, q2, hh⟩ := db hh
  obtain ⟨a3, q4, q2⟩ := db q2
  rw [dq_xV q2] at q4
  refine dq_cvi hD 310 304 5 0 [15] o0 [] [] 42 [] (by decide +kernel) ap_304 ⟨⟨Nat.le_of_ble_eq_true rfl, by decide⟩, rfl, rfl⟩ (dq_ok8 [1] [] (dc_r dc_n) dc_n (by decide +kernel)) (by decide +kernel) rfl q4 rfl ?_
  exact c307_42 hD hz _ _ _ _ G2 hh
def b307_0 (L : Nat) (xs : Nat → Int32) (zf : Value) (D : dD) (w : Nat) (o0 : Option Nat) (i1 : Int32) (h : rm_H) : Option dR :=
  (dgI L xs h 56 [15] o0).bind fun x1 =>
  (dgI L xs h 57 [15] o0).bind fun x6 =>
  if mx_f1 .ne x6 = true then
    b307_38 L xs zf D w o0 x1 h
  else
    (dgR L xs h 6 [15] o0).bind fun p9 =>
    (dgI L xs h 56 [15] o0).bind fun x11 =>
    (daI L xs h p9 x11).bind fun x13 =>
    if mx_f2 .ne x13 i1 = true then
      b307_38 L xs zf D w o0 x1 h
    else
      (dgI L xs h 56 [15] o0).bind fun x16 =>
      (dpF h 56 [15] o0 (.int (x16 + 1))).bind fun h18 =>
      b307_42 L xs zf D w x1 h18
theorem c307_0 {L : Nat} {xs : Nat → Int32} {zf : Value} {D : dD} {w k : Nat} (hD : dO L xs zf D k) (hz : zf.category = 1) : ∀ (o0 : Option Nat) (i1 : Int32) (lv : rm_L) (h : rm_H) (r : dR), rm_get lv 0 = some (va_rf o0) → rm_get lv 1 = some (.int i1) → b307_0 L xs zf D w  o0 i1 h = some r → dq L xs zf ah_M307 0 lv [] h (k + 1) r := by
  intro o0 i1 lv h r G0 G1 hh
  unfold b307_0 at hh
  refine dq_aln 0 1 (by decide +kernel) rfl G0 ?_
  obtain ⟨x1, q2, hh⟩ := db hh
  refine dq_gI 298 56 [15] 4 (by decide +kernel) rfl q2 ?_
  refine dq_isn 2 5 (by decide +kernel) (by decide +kernel) ?_
  have g3 := dg_ne (i := 2) (u := .int x1) (by decide) (Or.inl (by decide)) G0
  have g4 := dg_ne (i := 2) (u := .int x1) (by decide) (Or.inr rfl) G1
  have g5 := dg_eq (lv) 2 (.int x1)
  refine dq_aln 0 6 (by decide +kernel) rfl g3 ?_
  obtain ⟨x6, q7, hh⟩ := db hh
  refine dq_gI 295 57 [15] 9 (by decide +kernel) rfl q7 ?_
  rcases di hh with ⟨q8, hh⟩ | ⟨q8, hh⟩
  · refine dq_1 .ne 29 true 38 q8 (by decide +kernel) ?_
    exact c307_38 hD hz _ _ _ _ _ g3 g5 hh
  · refine dq_1 .ne 29 false 12 q8 (by decide +kernel) ?_
    refine dq_aln 0 13 (by decide +kernel) rfl g3 ?_
    obtain ⟨p9, q10, hh⟩ := db hh
    refine dq_gR 24 6 [15] 16 (by decide +kernel) rfl q10 ?_
    refine dq_aln 0 17 (by decide +kernel) rfl g3 ?_
    obtain ⟨x11, q12, hh⟩ := db hh
    refine dq_gI 298 56 [15] 20 (by decide +kernel) rfl q12 ?_
    obtain ⟨x13, q14, hh⟩ := db hh
    refine dq_aI 21 (by decide +kernel) rfl q14 ?_
    refine dq_iln 1 22 (by decide +kernel) rfl g4 ?_
    rcases di hh with ⟨q15, hh⟩ | ⟨q15, hh⟩
    · refine dq_2 .ne 16 true 38 q15 (by decide +kernel) ?_
      exact c307_38 hD hz _ _ _ _ _ g3 g5 hh
    · refine dq_2 .ne 16 false 25 q15 (by decide +kernel) ?_
      refine dq_aln 0 26 (by decide +kernel) rfl g3 ?_
      refine dq_dup 27 (by decide +kernel) rfl ?_
      obtain ⟨x16, q17, hh⟩ := db hh
      refine dq_gI 298 56 [15] 30 (by decide +kernel) rfl q17 ?_
      refine dq_S (.iconst 1) 1 [] 31 _ [.int 1, .int x16, va_rf o0] (by decide +kernel) rfl ?_
      refine dq_S (.iadd) 1 [] 32 _ [.int (x16 + 1), va_rf o0] (by decide +kernel) rfl ?_
      obtain ⟨h18, q19, hh⟩ := db hh
      refine dq_put 298 56 [15] 35 (by decide +kernel) rfl q19 ?_
      refine dq_S (.goto 7) 3 [] 42 _ [] (by decide +kernel) rfl ?_
      exact c307_42 hD hz _ _ _ _ g5 hh
def f307 (L : Nat) (xs : Nat → Int32) (zf : Value) (D : dD) (w : Nat) (As : List Value) (h : rm_H) : Option dR := match As with
  | [v0, .int i1] => (rm_rf v0).bind fun o0 => b307_0 L xs zf D w o0 i1 h
  | _ => none
theorem d307 {L : Nat} {xs : Nat → Int32} {zf : Value} {D : dD} {w k : Nat} (hD : dO L xs zf D k) (hz : zf.category = 1) (As : List Value) (h : rm_H) (r : dR) (hh : f307 L xs zf D w As h = some r) : dq L xs zf ah_M307 0 (lv_args 0 As) [] h (k + 1) r := by
  unfold f307 at hh
  split at hh
  · obtain ⟨o0, e0, hb0⟩ := db hh
    have e0 := rm_rf_v _ _ e0
    subst e0
    refine c307_0 hD hz _ _ _ _ _ ?_ ?_ hb0
    all_goals (simp only [la_r, la_i, la_j]; rfl)
  · cases hh
