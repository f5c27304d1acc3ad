/-! WHAT A RUN TAKES stands in the heap that it leaves: its cells and their slots. -/
def zs (x : rm_E) : Nat := match x with
  | .inl y => y.2.1
  | .inr y => y.2.length
def zh (h : rm_H) : Nat := (h.map zs).sum
theorem zh_app (h : rm_H) (x : rm_E) : zh (h ++ [x]) = zh h + zs x := by
  unfold zh
  rw [List.map_append, List.sum_append]
  simp
theorem zh_set {x y : rm_E} (hs : zs y = zs x) : ∀ {h : rm_H} {i : Nat}, h[i]? = some x → zh (h.set i y) = zh h
  | [], i, e => by cases i <;> cases e
  | z :: r, 0, e => by
    cases e
    show zs y + zh r = zs x + zh r
    rw [hs]
  | z :: r, i + 1, e => by
    have e : r[i]? = some x := by rw [List.getElem?_cons_succ] at e; exact e
    show zs z + zh (r.set i y) = zs z + zh r
    rw [zh_set hs e]
section ZC
variable {P : List rm_M} {g : Nat → Bool} {n0 : Nat} {O : Nat → Option rm_E} {Z : Nat → Value} {TY : List FieldType} {FT : Nat → Nat → FieldType} {DV : Nat → List Value} {CA : Nat → Nat → Bool}
theorem zc_sC {ins : Instr} {len : Nat} {lk : List Nat} {pc : Nat} {lv : rm_L} {st : List Value} {h : rm_H} {k : Nat × rm_L × List Value × rm_H × Nat × Nat} (hk : rm_sC n0 O TY FT DV CA ins len lk pc lv st h = some k) : k.2.2.2.1.length = h.length + k.2.2.2.2.1 ∧ zh k.2.2.2.1 = zh h + k.2.2.2.2.2 := by
  unfold rm_sC at hk
  repeat' (split at hk)
  all_goals (first | (cases hk; done) | skip)
  all_goals (cases hk)
  all_goals (first
    | (refine ⟨List.length_set, zh_set ?_ (by assumption)⟩; first | rfl | exact List.length_set)
    | exact ⟨List.length_append, zh_app _ _⟩)
theorem zc_sD {ins : Instr} {len : Nat} {lk : List Nat} {st : List Value} {h : rm_H} {k : List Value × rm_H} (hk : rm_sD n0 O TY ins len lk st h = some k) : k.2.length = h.length ∧ zh k.2 = zh h := by
  unfold rm_sD at hk
  repeat' (split at hk)
  all_goals (first | (cases hk; done) | skip)
  all_goals (cases hk)
  all_goals (first
    | exact ⟨rfl, rfl⟩
    | (refine ⟨List.length_set, zh_set ?_ (by assumption)⟩; rfl))
theorem zc_s {nL : Nat} {ins : Instr} {len : Nat} {lk : List Nat} {pc : Nat} {lv : rm_L} {st : List Value} {h : rm_H} {k : Nat × rm_L × List Value × rm_H × Nat × Nat} (hk : rm_s g n0 O Z TY FT DV CA nL ins len lk pc lv st h = some k) : k.2.2.2.1.length = h.length + k.2.2.2.2.1 ∧ zh k.2.2.2.1 = zh h + k.2.2.2.2.2 := by
  unfold rm_s at hk
  split at hk
  · cases hk; exact ⟨rfl, rfl⟩
  · split at hk
    · cases hk; exact ⟨rfl, rfl⟩
    · exact zc_sC hk
theorem zc_sE {ins : Instr} {len : Nat} {lk : List Nat} {st : List Value} {h : rm_H} {k : List Value × rm_H × Nat} (hk : rm_sE n0 O TY CA ins len lk st h = some k) : k.2.1.length = h.length + 1 ∧ zh k.2.1 = zh h + k.2.2 := by
  unfold rm_sE at hk
  repeat' (split at hk)
  all_goals (first | (cases hk; done) | skip)
  all_goals (cases hk)
  all_goals (exact ⟨List.length_append, zh_app _ _⟩)
theorem zc_run : ∀ (f : Nat) (M : rm_M) (pc : Nat) (lv : rm_L) (st : List Value) (h : rm_H) (r : rm_R), rm_run P g n0 O Z TY FT DV CA f M pc lv st h = some r → r.2.1.length = h.length + r.2.2.1 ∧ zh r.2.1 = zh h + r.2.2.2.1 := by
  intro f
  induction f with
  | zero =>
    intro M pc lv st h r hr
    simp [rm_run] at hr
  | succ f ih =>
    intro M pc lv st h r hr
    rw [rm_run] at hr
    cases hi : rm_fnd M.2.2.2.2 pc with
    | none => rw [hi] at hr; cases hr
    | some i =>
      rw [hi] at hr
      try dsimp only at hr
      cases hv : rm_ret M.2.2.2.1 i.1 i.2.1 st with
      | some v => rw [hv] at hr; cases hr; exact ⟨rfl, rfl⟩
      | none =>
        rw [hv] at hr
        try dsimp only at hr
        cases hk : rm_call P n0 O i.1 i.2.1 i.2.2 st h with
        | some k =>
          rw [hk] at hr
          try dsimp only at hr
          by_cases h8 : rm_ok8 k.1 k.2.1 k.2.2 = true
          · rw [if_pos h8] at hr
            cases ha : rm_run P g n0 O Z TY FT DV CA f k.1 0 (lv_args 0 k.2.1) [] h with
            | none => rw [ha] at hr; cases hr
            | some a =>
              rw [ha] at hr
              try dsimp only at hr
              cases hb : rm_run P g n0 O Z TY FT DV CA f M (pc + i.2.1) lv (a.1.toList ++ k.2.2) a.2.1 with
              | none => rw [hb] at hr; cases hr
              | some b =>
                rw [hb] at hr
                cases hr
                have h1 := ih _ _ _ _ _ _ ha
                have h2 := ih _ _ _ _ _ _ hb
                exact ⟨by show b.2.1.length = h.length + (a.2.2.1 + b.2.2.1); omega, by show zh b.2.1 = zh h + (a.2.2.2.1 + b.2.2.2.1); omega⟩
          · rw [if_neg h8] at hr; cases hr
        | none =>
          rw [hk] at hr
          try dsimp only at hr
          cases hd : rm_sD n0 O TY i.1 i.2.1 i.2.2 st h with
          | some k =>
            rw [hd] at hr
            try dsimp only at hr
            cases hb : rm_run P g n0 O Z TY FT DV CA f M (pc + 3) lv k.1 k.2 with
            | none => rw [hb] at hr; cases hr
            | some b =>
              rw [hb] at hr
              cases hr
              have h1 := zc_sD hd
              have h2 := ih _ _ _ _ _ _ hb
              exact ⟨by show b.2.1.length = h.length + b.2.2.1; omega, by show zh b.2.1 = zh h + b.2.2.2.1; omega⟩
          | none =>
            rw [hd] at hr
            try dsimp only at hr
            cases hq : rm_s g n0 O Z TY FT DV CA M.2.2.1 i.1 i.2.1 i.2.2 pc lv st h with
            | none =>
              rw [hq] at hr
              try dsimp only at hr
              cases he : rm_sE n0 O TY CA i.1 i.2.1 i.2.2 st h with
              | none => rw [he] at hr; cases hr
              | some k =>
                rw [he] at hr
                try dsimp only at hr
                cases hb : rm_run P g n0 O Z TY FT DV CA f M (pc + 3) lv k.1 k.2.1 with
                | none => rw [hb] at hr; cases hr
                | some b =>
                  rw [hb] at hr
                  cases hr
                  have h1 := zc_sE he
                  have h2 := ih _ _ _ _ _ _ hb
                  exact ⟨by show b.2.1.length = h.length + (1 + b.2.2.1); omega, by show zh b.2.1 = zh h + (k.2.2 + b.2.2.2.1); omega⟩
            | some k =>
              rw [hq] at hr
              try dsimp only at hr
              cases hb : rm_run P g n0 O Z TY FT DV CA f M k.1 k.2.1 k.2.2.1 k.2.2.2.1 with
              | none => rw [hb] at hr; cases hr
              | some b =>
                rw [hb] at hr
                cases hr
                have h1 := zc_s hq
                have h2 := ih _ _ _ _ _ _ hb
                exact ⟨by show b.2.1.length = h.length + (k.2.2.2.2.1 + b.2.2.1); omega, by show zh b.2.1 = zh h + (k.2.2.2.2.2 + b.2.2.2.1); omega⟩
end ZC
/-- what the machine answers, and how deep; the rest stands in the heap -/
theorem dq_R {L : Nat} {xs : Nat → Int32} {zf : Value} {M : rm_M} {pc : Nat} {lv : rm_L} {st : List Value} {h : rm_H} {k : Nat} {r : dR} (hq : dq L xs zf M pc lv st h k r) : mx_R L xs zf M pc lv st h (r.2.length - h.length) (zh r.2 - zh h) (k + 2) (60 * k + 100) (fun v h' => v = r.1 ∧ h' = r.2) := by
  obtain ⟨c, s, n, q, h1, h2, h3, h4, h5, h6, h7⟩ := hq
  have hc := zc_run _ _ _ _ _ _ _ h1
  refine ⟨n, q, h1, ?_, ?_, h4, h5, h6, h7⟩
  · rw [← h7]; omega
  · rw [← h7]; omega
