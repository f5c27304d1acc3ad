/-! A LOGIC OF RUNS: rm_Runs M pc lv st h c s f l post: from here the machine of the mind returns, within c cells, s slots, f frames and l words of locals, and 'post answer heap' holds. Contracts of methods are stated so, and proved without the real machine. -/
section RM_L
variable {P : List rm_M} {g : Nat → Bool} {n0 : Nat} {O : Nat → Option rm_E} {Z : Nat → Value} {TY : List FieldType} {FT : Nat → Nat → FieldType} {DV : Nat → List Value} {CA : Nat → Nat → Bool}
theorem rm_run_mono : ∀ (f : Nat) (M : rm_M) (pc : Nat) (lv : rm_L) (st : List Value) (h : rm_H) (r : rm_R), rm_run P g n0 O Z TY FT DV CA f M pc lv st h = some r → rm_run P g n0 O Z TY FT DV CA (f + 1) M pc lv st h = some r := by
  intro f
  induction f with
  | zero =>
    intro M pc lv st h r hr
    simp [rm_run] at hr
  | succ f ih =>
    intro M pc lv st h r hr
    rw [rm_run] at hr ⊢
    cases hi : rm_fnd M.2.2.2.2 pc with
    | none => rw [hi] at hr; cases hr
    | some i =>
      rw [hi] at hr
      try dsimp only at hr
      try dsimp only
      cases hv : rm_ret M.2.2.2.1 i.1 i.2.1 st with
      | some v => rw [hv] at hr; exact hr
      | none =>
        rw [hv] at hr
        try dsimp only at hr
        try dsimp only
        cases hk : rm_call P n0 O i.1 i.2.1 i.2.2 st h with
        | some k =>
          rw [hk] at hr
          try dsimp only at hr
          try dsimp only
          by_cases h8 : rm_ok8 k.1 k.2.1 k.2.2 = true
          · rw [if_pos h8] at hr
            rw [if_pos h8]
            cases ha : rm_run P g n0 O Z TY FT DV CA f k.1 0 (lv_args 0 k.2.1) [] h with
            | none => rw [ha] at hr; cases hr
            | some a =>
              rw [ha] at hr
              rw [ih _ _ _ _ _ _ ha]
              try dsimp only at hr
              try dsimp only
              cases hb : rm_run P g n0 O Z TY FT DV CA f M (pc + i.2.1) lv (a.1.toList ++ k.2.2) a.2.1 with
              | none => rw [hb] at hr; cases hr
              | some b => rw [hb] at hr; rw [ih _ _ _ _ _ _ hb]; exact hr
          · rw [if_neg h8] at hr; cases hr
        | none =>
          rw [hk] at hr
          try dsimp only at hr
          try dsimp only
          cases hd : rm_sD n0 O TY i.1 i.2.1 i.2.2 st h with
          | some k =>
            rw [hd] at hr
            try dsimp only at hr
            try dsimp only
            cases hb : rm_run P g n0 O Z TY FT DV CA f M (pc + 3) lv k.1 k.2 with
            | none => rw [hb] at hr; cases hr
            | some b => rw [hb] at hr; rw [ih _ _ _ _ _ _ hb]; exact hr
          | none =>
            rw [hd] at hr
            try dsimp only at hr
            try dsimp only
            cases hq : rm_s g n0 O Z TY FT DV CA M.2.2.1 i.1 i.2.1 i.2.2 pc lv st h with
            | none =>
              rw [hq] at hr
              try dsimp only at hr
              try dsimp only
              cases he : rm_sE n0 O TY CA i.1 i.2.1 i.2.2 st h with
              | none => rw [he] at hr; cases hr
              | some k =>
                rw [he] at hr
                try dsimp only at hr
                try dsimp only
                cases hb : rm_run P g n0 O Z TY FT DV CA f M (pc + 3) lv k.1 k.2.1 with
                | none => rw [hb] at hr; cases hr
                | some b => rw [hb] at hr; rw [ih _ _ _ _ _ _ hb]; exact hr
            | some k =>
              rw [hq] at hr
              try dsimp only at hr
              try dsimp only
              cases hb : rm_run P g n0 O Z TY FT DV CA f M k.1 k.2.1 k.2.2.1 k.2.2.2.1 with
              | none => rw [hb] at hr; cases hr
              | some b => rw [hb] at hr; rw [ih _ _ _ _ _ _ hb]; exact hr
theorem rm_run_more {f k : Nat} {M : rm_M} {pc : Nat} {lv : rm_L} {st : List Value} {h : rm_H} {r : rm_R} (hr : rm_run P g n0 O Z TY FT DV CA f M pc lv st h = some r) : rm_run P g n0 O Z TY FT DV CA (f + k) M pc lv st h = some r := by
  induction k with
  | zero => exact hr
  | succ k ih => exact rm_run_mono _ _ _ _ _ _ _ ih
def rm_Runs (P : List rm_M) (g : Nat → Bool) (n0 : Nat) (O : Nat → Option rm_E) (Z : Nat → Value) (TY : List FieldType) (FT : Nat → Nat → FieldType) (DV : Nat → List Value) (CA : Nat → Nat → Bool) (M : rm_M) (pc : Nat) (lv : rm_L) (st : List Value) (h : rm_H) (c s f l : Nat) (post : Option Value → rm_H → Prop) : Prop :=
  ∃ (n : Nat) (r : rm_R), rm_run P g n0 O Z TY FT DV CA n M pc lv st h = some r ∧ r.2.2.1 ≤ c ∧ r.2.2.2.1 ≤ s ∧ r.2.2.2.2.1 ≤ f ∧ r.2.2.2.2.2 ≤ l ∧ post r.1 r.2.1
variable {M : rm_M} {pc : Nat} {lv : rm_L} {st : List Value} {h : rm_H} {c s f l : Nat} {post : Option Value → rm_H → Prop} {i : Instr × Nat × List Nat}
theorem rm_Runs.mono {c2 s2 f2 l2 : Nat} {post2 : Option Value → rm_H → Prop} (hr : rm_Runs P g n0 O Z TY FT DV CA M pc lv st h c s f l post) (hc : c ≤ c2) (hs : s ≤ s2) (hf : f ≤ f2) (hl : l ≤ l2) (hp : ∀ v h', post v h' → post2 v h') : rm_Runs P g n0 O Z TY FT DV CA M pc lv st h c2 s2 f2 l2 post2 := by
  obtain ⟨n, r, h1, h2, h3, h4, h5, h6⟩ := hr
  exact ⟨n, r, h1, Nat.le_trans h2 hc, Nat.le_trans h3 hs, Nat.le_trans h4 hf, Nat.le_trans h5 hl, hp _ _ h6⟩
theorem rm_Runs.ret {v : Option Value} (hi : rm_fnd M.2.2.2.2 pc = some i) (hv : rm_ret M.2.2.2.1 i.1 i.2.1 st = some v) (hp : post v h) : rm_Runs P g n0 O Z TY FT DV CA M pc lv st h c s f l post := by
  refine ⟨1, (v, h, 0, 0, 0, 0), ?_, Nat.zero_le _, Nat.zero_le _, Nat.zero_le _, Nat.zero_le _, hp⟩
  rw [rm_run, hi]
  try dsimp only
  rw [hv]
theorem rm_Runs.step {k : Nat × rm_L × List Value × rm_H × Nat × Nat} (hi : rm_fnd M.2.2.2.2 pc = some i) (h1 : rm_ret M.2.2.2.1 i.1 i.2.1 st = none) (h2 : rm_call P n0 O i.1 i.2.1 i.2.2 st h = none) (h3 : rm_sD n0 O TY i.1 i.2.1 i.2.2 st h = none) (hk : rm_s g n0 O Z TY FT DV CA M.2.2.1 i.1 i.2.1 i.2.2 pc lv st h = some k) (hc : k.2.2.2.2.1 ≤ c) (hs : k.2.2.2.2.2 ≤ s)
    (hr : rm_Runs P g n0 O Z TY FT DV CA M k.1 k.2.1 k.2.2.1 k.2.2.2.1 (c - k.2.2.2.2.1) (s - k.2.2.2.2.2) f l post) : rm_Runs P g n0 O Z TY FT DV CA M pc lv st h c s f l post := by
  obtain ⟨n, b, g1, g2, g3, g4, g5, g6⟩ := hr
  refine ⟨n + 1, (b.1, b.2.1, k.2.2.2.2.1 + b.2.2.1, k.2.2.2.2.2 + b.2.2.2.1, b.2.2.2.2.1, b.2.2.2.2.2), ?_, by dsimp only; omega, by dsimp only; omega, g4, g5, g6⟩
  rw [rm_run, hi]
  try dsimp only
  rw [h1]
  try dsimp only
  rw [h2]
  try dsimp only
  rw [h3]
  try dsimp only
  rw [hk]
  try dsimp only
  rw [g1]
theorem rm_Runs.call {k : rm_M × List Value × List Value} {c1 s1 f1 l1 c2 s2 : Nat} {post1 : Option Value → rm_H → Prop} (hi : rm_fnd M.2.2.2.2 pc = some i) (h1 : rm_ret M.2.2.2.1 i.1 i.2.1 st = none) (hk : rm_call P n0 O i.1 i.2.1 i.2.2 st h = some k) (h8 : rm_ok8 k.1 k.2.1 k.2.2 = true)
    (ha : rm_Runs P g n0 O Z TY FT DV CA k.1 0 (lv_args 0 k.2.1) [] h c1 s1 f1 l1 post1) (hc : c1 + c2 ≤ c) (hs : s1 + s2 ≤ s) (hf : f1 + 1 ≤ f) (hl : 8 + (k.1.2.2.1 + 11) + l1 ≤ l)
    (hb : ∀ (v : Option Value) (h' : rm_H), post1 v h' → rm_Runs P g n0 O Z TY FT DV CA M (pc + i.2.1) lv (v.toList ++ k.2.2) h' c2 s2 f l post) : rm_Runs P g n0 O Z TY FT DV CA M pc lv st h c s f l post := by
  obtain ⟨n, a, g1, g2, g3, g4, g5, g6⟩ := ha
  obtain ⟨n2, b, e1, e2, e3, e4, e5, e6⟩ := hb _ _ g6
  refine ⟨(n + n2) + 1, (b.1, b.2.1, a.2.2.1 + b.2.2.1, a.2.2.2.1 + b.2.2.2.1, max (a.2.2.2.2.1 + 1) b.2.2.2.2.1, max (8 + (k.1.2.2.1 + 11) + a.2.2.2.2.2) b.2.2.2.2.2), ?_, by dsimp only; omega, by dsimp only; omega, by dsimp only; omega, by dsimp only; omega, e6⟩
  rw [rm_run, hi]
  try dsimp only
  rw [h1]
  try dsimp only
  rw [hk]
  try dsimp only
  rw [if_pos h8, rm_run_more (k := n2) g1]
  try dsimp only
  rw [Nat.add_comm n n2, rm_run_more (k := n) e1]
theorem rm_Runs.own {k : List Value × rm_H} (hi : rm_fnd M.2.2.2.2 pc = some i) (h1 : rm_ret M.2.2.2.1 i.1 i.2.1 st = none) (h2 : rm_call P n0 O i.1 i.2.1 i.2.2 st h = none) (hk : rm_sD n0 O TY i.1 i.2.1 i.2.2 st h = some k) (hf : 1 ≤ f) (hl : 100 ≤ l)
    (hr : rm_Runs P g n0 O Z TY FT DV CA M (pc + 3) lv k.1 k.2 c s f l post) : rm_Runs P g n0 O Z TY FT DV CA M pc lv st h c s f l post := by
  obtain ⟨n, b, g1, g2, g3, g4, g5, g6⟩ := hr
  refine ⟨n + 1, (b.1, b.2.1, b.2.2.1, b.2.2.2.1, max 1 b.2.2.2.2.1, max 100 b.2.2.2.2.2), ?_, g2, g3, by dsimp only; omega, by dsimp only; omega, g6⟩
  rw [rm_run, hi]
  try dsimp only
  rw [h1]
  try dsimp only
  rw [h2]
  try dsimp only
  rw [hk]
  try dsimp only
  rw [g1]
theorem rm_Runs.cpy {k : List Value × rm_H × Nat} (hi : rm_fnd M.2.2.2.2 pc = some i) (h1 : rm_ret M.2.2.2.1 i.1 i.2.1 st = none) (h2 : rm_call P n0 O i.1 i.2.1 i.2.2 st h = none) (h3 : rm_sD n0 O TY i.1 i.2.1 i.2.2 st h = none) (h4 : rm_s g n0 O Z TY FT DV CA M.2.2.1 i.1 i.2.1 i.2.2 pc lv st h = none) (hk : rm_sE n0 O TY CA i.1 i.2.1 i.2.2 st h = some k) (hc : 1 ≤ c) (hs : k.2.2 ≤ s) (hf : 3 ≤ f) (hl : 100 ≤ l)
    (hr : rm_Runs P g n0 O Z TY FT DV CA M (pc + 3) lv k.1 k.2.1 (c - 1) (s - k.2.2) f l post) : rm_Runs P g n0 O Z TY FT DV CA M pc lv st h c s f l post := by
  obtain ⟨n, b, g1, g2, g3, g4, g5, g6⟩ := hr
  refine ⟨n + 1, (b.1, b.2.1, 1 + b.2.2.1, k.2.2 + b.2.2.2.1, max 3 b.2.2.2.2.1, max 100 b.2.2.2.2.2), ?_, by dsimp only; omega, by dsimp only; omega, by dsimp only; omega, by dsimp only; omega, g6⟩
  rw [rm_run, hi]
  try dsimp only
  rw [h1]
  try dsimp only
  rw [h2]
  try dsimp only
  rw [h3]
  try dsimp only
  rw [h4]
  try dsimp only
  rw [hk]
  try dsimp only
  rw [g1]
end RM_L
