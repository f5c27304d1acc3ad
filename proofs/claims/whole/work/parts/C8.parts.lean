/-! THE PARTS OF AN OPEN NODE, one by one. -/
/-- a part: its Node, its node, its ranges -/
def prt (x m a b c d : Nat) : Nat → Nat := fun i => if i = 0 then x else if i = 1 then m else if i = 2 then a else if i = 3 then b else if i = 4 then c else d
/-- the last part's node -/
def lst (ks : List (Nat → Nat)) : Nat := match ks.getLast? with
  | none => 0
  | some a => a 1
/-- the rows of an open node: the first part X; the count, where there is one -/
def RR (c : Bool) (R : Nat → Int32) (X : Int32) (ct : Nat) : Nat → Int32 := fun r => if r = 45 then X else if c = true ∧ r = 52 then Int32.ofNat ct else R r
/-- the reference takes part m behind part j of node n -/
def lkP (s : rS) (c : Bool) (n m j : Nat) : rS := rs_wA (if c = true then rs_wA (rs_wA s 49 m (Int32.ofNat n)) 52 n (s.2.1 52 n + 1) else rs_wA s 49 m (Int32.ofNat n)) (if j = 0 then 45 else 48) (if j = 0 then n else j) (Int32.ofNat m)
/-- Node p and node n have parts ks -/
def AJ (L : Nat) (xs : Nat → Int32) (zm : Nat × Nat) (cx : Nat → Nat) (F : Nat → Nat → Int32) (N : Nat → Int64) (q : List Value) (c : Bool) (R : Nat → Int32) (J : Int64) (fp : Nat → Option Value) (p n : Nat) (h0 : rm_H) (g0 : Nat → Nat) (h : rm_H) (s : rS) (g : Nat → Nat) (ts : List Nat) (ks : List (Nat → Nat)) (cap : Nat) : Prop :=
  nW h p ∧ (∀ j, j ≠ 11 → fd h 12 p j = fp j) ∧ pW h (21 + h0.length) p (ks.map (fun a => a 0)) cap ∧ (∀ y ∈ ks.map (fun a => a 0), oK h y) ∧ (∀ a ∈ ks, a 1 < g 4)
  ∧ (SY cx F N q h s g ts → ∃ X, onR s n (RR c R X ks.length) J ∧ chn s ks X ∧ (∀ l, fd h 12 p 11 = some (.ref l) → KS L xs zm h s n l (g0 4) (g 4) (21 + h0.length) (21 + h.length) ks))
theorem l_cc (ks : List (Nat → Nat)) : ks = [] ∨ ∃ ini a, ks = ini ++ [a] := by
  rcases List.eq_nil_or_concat ks with e | ⟨ini, a, e⟩
  · exact Or.inl e
  · exact Or.inr ⟨ini, a, by rw [e, List.concat_eq_append]⟩
section AJS
variable {zm : Nat × Nat}
variable {L : Nat} {xs : Nat → Int32} {zf : Value} {w k : Nat} {cx : Nat → Nat} {F : Nat → Nat → Int32} {N : Nat → Int64} {q : List Value} {h0 h h' h1 h2 : rm_H} {s0 s s' s1 s2 : rS} {g0 g g' g1 g2 : Nat → Nat} {t0 ts ts' ts1 ts2 : List Nat} {p n m x c1 c2 cap : Nat} {c : Bool} {R : Nat → Int32} {J : Int64} {fp : Nat → Option Value} {ks : List (Nat → Nat)}
theorem lst_app (a : Nat → Nat) : lst (ks ++ [a]) = a 1 := by
  unfold lst
  rw [List.getLast?_append]
  rfl
theorem lkP_get (j r i : Nat) : (lkP s c n m j).2.1 r i = if r = (if j = 0 then 45 else 48) ∧ i = (if j = 0 then n else j) then Int32.ofNat m else if c = true ∧ r = 52 ∧ i = n then s.2.1 52 n + 1 else if r = 49 ∧ i = m then Int32.ofNat n else s.2.1 r i := by
  unfold lkP
  rw [wA_get]
  cases c with
  | true =>
    rw [if_pos rfl, wA_get, wA_get]
    simp only [true_and]
  | false =>
    rw [if_neg (show ¬ false = true by decide), wA_get]
    simp only [Bool.false_eq_true, false_and, if_false]
theorem lkP_1 {j : Nat} : (lkP s c n m j).1 = s.1 := by
  unfold lkP
  cases c <;> rfl
theorem lkP_J {j : Nat} : (lkP s c n m j).2.2 = s.2.2 := by
  unfold lkP
  cases c <;> rfl
theorem lkP_rF {j : Nat} : rF s (lkP s c n m j) := by
  unfold lkP
  have e : 44 ≤ (if j = 0 then 45 else 48) ∧ (if j = 0 then 45 else 48) ≤ 60 ∧ (if j = 0 then 45 else 48) ≠ 56 := by split <;> omega
  cases c with
  | true => exact rF_trans (rF_trans (rF_A (by omega)) (rF_A (by omega))) (rF_A e)
  | false => exact rF_trans (rF_A (by omega)) (rF_A e)
theorem lkP_rE {j : Nat} : rQ s (lkP s c n m j) := by
  refine ⟨fun p hp => ?_, ?_, ?_⟩
  · unfold lkP
    have e : p ≠ (if j = 0 then 45 else 48) := by split <;> omega
    rw [wA_ne _ _ _ e]
    cases c with
    | true => rw [if_pos rfl, wA_ne _ _ _ (show p ≠ 52 by omega), wA_ne _ _ _ (show p ≠ 49 by omega)]
    | false => rw [if_neg (show ¬ false = true by decide), wA_ne _ _ _ (show p ≠ 49 by omega)]
  · unfold lkP
    cases c <;> rfl
  · unfold lkP
    cases c <;> rfl
theorem lkP_yA {j : Nat} : yA s (lkP s c n m j) := by
  unfold lkP
  have e : (if j = 0 then 45 else 48) < 57 ∨ 59 < (if j = 0 then 45 else 48) := by split <;> omega
  cases c with
  | true => exact yA_trans (yA_trans (yA_A (by omega)) (yA_A (by omega))) (yA_A e)
  | false => exact yA_trans (yA_A (by omega)) (yA_A e)
/-- rows of other nodes -/
theorem lkP_ne {j r i : Nat} (hi : i ≠ n) (hm : i ≠ m) (hj : i ≠ j ∨ j = 0 ∨ r ≠ 48) : (lkP s c n m j).2.1 r i = s.2.1 r i := by
  rw [lkP_get, if_neg, if_neg (fun u => hi u.2.2), if_neg (fun u => hm u.2)]
  intro u
  by_cases j0 : j = 0
  · rw [if_pos j0, if_pos j0] at u
    exact hi u.2
  · rw [if_neg j0, if_neg j0] at u
    omega
theorem lkP_sX {j nd : Nat} (hm : nd ≤ m) (hj : j = 0 ∨ nd ≤ j) : sXn s (lkP s c n m j) nd n := fun i hi hne => ⟨fun r _ _ => lkP_ne hne (by omega) (by omega), by rw [lkP_J]⟩
theorem lkP_49 {j : Nat} : (lkP s c n m j).2.1 49 m = Int32.ofNat n := by
  rw [lkP_get, if_neg, if_neg (by omega), if_pos ⟨rfl, rfl⟩]
  intro u
  have := u.1
  split at this <;> omega
theorem lkP_sA {j lo hi r : Nat} (hn : n < lo ∨ hi ≤ n) (hm : m < lo ∨ hi ≤ m ∨ m = r) (hj : j = 0 ∨ j < lo ∨ hi ≤ j ∨ j = r) : sA s (lkP s c n m j) lo hi r := by
  intro i h1 h2
  have ne : i ≠ n := by omega
  have row : ∀ q, (q = 48 → i ≠ r) → (q = 49 → i ≠ r) → (lkP s c n m j).2.1 q i = s.2.1 q i := by
    intro q q48 q49
    rw [lkP_get, if_neg, if_neg (fun u => ne u.2.2), if_neg (fun u => by have := q49 u.1; omega)]
    intro u
    by_cases j0 : j = 0
    · rw [if_pos j0, if_pos j0] at u
      exact ne u.2
    · rw [if_neg j0, if_neg j0] at u
      have := q48 u.1
      omega
  exact ⟨fun q hq => row q (by omega) (by omega), by rw [lkP_J], fun hr => ⟨row 48 (fun _ => hr) (by omega), row 49 (by omega) (fun _ => hr)⟩, fun _ => row 53 (by omega) (by omega)⟩
theorem KS_wide {l lo hi pl ph hi2 ph2 : Nat} (K : KS L xs zm h s n l lo hi pl ph ks) (h1 : hi ≤ hi2) (h2 : ph ≤ ph2) : KS L xs zm h s n l lo hi2 pl ph2 ks := ⟨fun a ha => by
  obtain ⟨q0, q1, q2, q3, q4, q5⟩ := K.1 a ha
  exact ⟨q0, q1, by omega, q3, by omega, q5⟩, K.2⟩
theorem KS_nil {l lo hi pl ph : Nat} : KS L xs zm h s n l lo hi pl ph [] := ⟨fun a ha => (List.not_mem_nil ha).elim, List.Pairwise.nil⟩
theorem nW_c (e : nW h p) : ∃ fs, hc h p = some (.inr (12, fs)) := by
  obtain ⟨fs, e1, _⟩ := e
  exact ⟨fs, e1⟩
theorem nW_op (z : SY cx F N q h s g ts ∨ FLT cx F N q h s g ts) (b : OPR cx F N q h s g ts h' s' g' ts') (e : nW h p) : nW h' p ∧ ∀ j, fd h' 12 p j = fd h 12 p j := by
  obtain ⟨fs, e1, e2⟩ := e
  have e3 := on_keep z b e1
  exact ⟨⟨fs, e3, e2⟩, fun j => by rw [fd_of e3, fd_of e1]⟩
/-- both go on: the parts stay -/
theorem AJ_keep (b : OPR cx F N q h s g ts h' s' g' ts') (z : SY cx F N q h s g ts ∨ FLT cx F N q h s g ts) (hbl : bl cx (21 + h0.length)) (hn : n < g 4) (j : AJ L xs zm cx F N q c R J fp p n h0 g0 h s g ts ks cap) : AJ L xs zm cx F N q c R J fp p n h0 g0 h' s' g' ts' ks cap := by
  obtain ⟨j1, j2, j3, j4, j5, j6⟩ := j
  obtain ⟨fs, ep⟩ := nW_c j1
  obtain ⟨k1, k2⟩ := nW_op z b j1
  refine ⟨k1, fun i hi => (k2 i).trans (j2 i hi), pW_keep z b ep hbl j3, oK_keep b j4, fun a ha => by have := j5 a ha; have := b.2.2.2.2.2.1; omega, fun y => ?_⟩
  obtain ⟨X, x1, x2, x3⟩ := j6 (b.2.1 y).1
  refine ⟨X, onR_keep b y hn x1, ?_, fun l hl => ?_⟩
  · refine chn_keep ks X (fun a ha => ?_) x2
    exact ((b.2.1 y).2.1 (a 1) (j5 a ha)).1 48 (by omega) (by omega)
  · rw [k2 11] at hl
    exact KS_wide (KS_keep b y (x3 l hl) (Nat.le_refl _) hbl) b.2.2.2.2.2.1.2 (by have := b.2.2.1.1; omega)
/-- one more part -/
theorem AJ_add (hn : n < g0 4) (hg0 : 1 ≤ g0 4) (hp0 : p < 21 + h0.length) (hbl : bl cx (21 + h0.length)) (a : OPA cx F N q p n (c1 + 2) (c2 + 3) (4 * cap) h0 s0 g0 t0 h1 s1 g1 ts1) (zz : SY cx F N q h s g ts ∨ FLT cx F N q h s g ts) (b : OPR cx F N q h s g ts h1 s1 g1 ts1) (hg : g0 4 ≤ g 4) (hlen : h0.length ≤ h.length) (j : AJ L xs zm cx F N q c R J fp p n h0 g0 h s g ts ks cap) (nx : nW h1 x) (nl : m < g1 4) (hks : ks.length ≤ 2000) (nr : SY cx F N q h1 s1 g1 ts1 → s1.2.1 48 m = 0 ∧ NR L xs h1 s1 zm (g1 4 - g 4) (g 4) (g1 4) (21 + h.length) (21 + h1.length) m x) : ∃ h2 cap', dM L xs zf w (k + 7) 135 [.ref p, .ref x] h1 = some (none, h2) ∧ OPA cx F N q p n c1 c2 (4 * cap') h0 s0 g0 t0 h2 (lkP s1 c n m (lst ks)) g1 ts1 ∧ AJ L xs zm cx F N q c R J fp p n h0 g0 h2 (lkP s1 c n m (lst ks)) g1 ts1 (ks ++ [prt x m (g 4) (g1 4) (21 + h.length) (21 + h1.length)]) cap' ∧ (SY cx F N q h2 (lkP s1 c n m (lst ks)) g1 ts1 → SY cx F N q h1 s1 g1 ts1) := by
  obtain ⟨j1, j2, j3, j4, j5, j6⟩ := id j
  obtain ⟨fs, ep⟩ := nW_c j1
  obtain ⟨k1, k2⟩ := nW_op zz b j1
  obtain ⟨fs1, ep1⟩ := nW_c k1
  have b11 := hbl.2.2.1
  have lb1 := b.2.2.1.1
  have bg := b.2.2.2.2.2.1
  obtain ⟨h2, l, ar, cap', d1, d2, d3, d4, d5, d6, d7, d8, d9, d10, d11, d12, d13, d14, d15, d16⟩ := op_ap (L := L) (xs := xs) (zf := zf) (w := w) (k := k) b.1 k1 (pW_keep zz b ep hbl j3) (oK_keep b j4) (nW_oK nx) (by rw [List.length_map]; omega) ⟨b11, by omega, by omega⟩
  have lk : SY cx F N q h1 s1 g1 ts1 → lst ks = 0 ∧ ks = [] ∨ ∃ ini a0, ks = ini ++ [a0] ∧ lst ks = a0 1 ∧ g0 4 ≤ a0 1 ∧ a0 1 < g 4 := by
    intro y
    obtain ⟨X, x1, x2, x3⟩ := j6 (b.2.1 y).1
    rcases l_cc ks with e | ⟨ini, a0, e⟩
    · left
      rw [e]
      exact ⟨rfl, rfl⟩
    · right
      refine ⟨ini, a0, e, ?_, ?_⟩
      · rw [e, lst_app]
      · have mem : a0 ∈ ks := by rw [e]; simp
        rcases j3 with ⟨_, e2, _⟩ | ⟨l0, ar0, e1, _⟩
        · rw [e] at e2
          simp at e2
        · obtain ⟨q0, q1, q2, _⟩ := (x3 l0 e1).1 a0 mem
          have := NR_rg _ _ _ _ _ _ _ _ q0.1
          omega
  have hm2 : SY cx F N q h1 s1 g1 ts1 → g 4 ≤ m := fun u => (NR_rg _ _ _ _ _ _ _ _ (nr u).2).2.1
  obtain ⟨o1, o2, o3⟩ := OPA_ap (s2 := lkP s1 c n m (lst ks)) a d6 d10 d9 d11 d12 lkP_rF lkP_1 d14 d15 (fun y => ⟨lkP_sX (by have := hm2 y; omega) (by
    rcases lk y with e | ⟨ini, a0, _, e, e2⟩
    · exact Or.inl e.1
    · omega), lkP_yA⟩) lkP_rE
  refine ⟨h2, cap', d1, o1, ⟨d4, fun i hi => (d5 i hi).trans ((k2 i).trans (j2 i hi)), ?_, ?_, ?_, fun y2 => ?_⟩, o2⟩
  · rw [List.map_append]; exact d2
  · rw [List.map_append]; exact d3
  · intro a0 ha
    rcases List.mem_append.mp ha with u | u
    · have := j5 a0 u
      omega
    · rw [List.mem_singleton.mp u]
      exact nl
  · have y := o2 y2
    obtain ⟨v48, vN⟩ := nr y
    have rg := NR_rg _ _ _ _ _ _ _ _ vN
    obtain ⟨X, x1, x2, x3⟩ := j6 (b.2.1 y).1
    have on1 := onR_keep b y (by omega) x1
    -- the parts that there are, for the list l
    have K1 : KS L xs zm h1 s1 n l (g0 4) (g 4) (21 + h0.length) (21 + h.length) ks := by
      have far : 21 + h.length ≤ l → KS L xs zm h s n l (g0 4) (g 4) (21 + h0.length) (21 + h.length) ks := by
        intro far
        rcases j3 with ⟨_, e2, _⟩ | ⟨l0, ar0, e1, _⟩
        · rw [List.map_eq_nil_iff.mp e2]
          exact KS_nil
        · refine ⟨fun a0 ha => ?_, (x3 l0 e1).2⟩
          obtain ⟨q0, q1, q2, q3, q4, q5⟩ := (x3 l0 e1).1 a0 ha
          exact ⟨q0, q1, q2, q3, q4, Or.inl (by omega)⟩
      rcases d8 with e | e
      · rw [k2 11] at e
        exact KS_keep b y (x3 l e) (Nat.le_refl _) hbl
      · exact KS_keep b y (far (by omega)) (Nat.le_refl _) hbl
    have c1' : chn s1 ks X := chn_keep ks X (fun a0 ha => ((b.2.1 y).2.1 (a0 1) (j5 a0 ha)).1 48 (by omega) (by omega)) x2
    have lfar : l < 21 + h.length ∨ 21 + h1.length ≤ l := by
      rcases d8 with e | e
      · left
        rw [k2 11] at e
        rcases j3 with ⟨e1, _⟩ | ⟨l0, ar0, e1, e2, _⟩
        · rw [e1] at e; cases e
        · rw [e1] at e
          cases e
          exact (aL_lt e2).1
      · exact Or.inr e
    -- all parts, with the reference's rows
    have KN : KS L xs zm h1 (lkP s1 c n m (lst ks)) n l (g0 4) (g1 4) (21 + h0.length) (21 + h1.length) (ks ++ [prt x m (g 4) (g1 4) (21 + h.length) (21 + h1.length)]) := by
      refine ⟨fun a0 ha => ?_, ?_⟩
      · rcases List.mem_append.mp ha with u | u
        · obtain ⟨q0, q1, q2, q3, q4, q5⟩ := K1.1 a0 u
          have r0 := NR_rg _ _ _ _ _ _ _ _ q0.1
          have hj : lst ks = 0 ∨ lst ks < a0 2 ∨ a0 3 ≤ lst ks ∨ lst ks = a0 1 := by
            rcases lk y with e | ⟨ini, b0, e, e2, e3⟩
            · exact Or.inl e.1
            · rw [e] at u
              rcases List.mem_append.mp u with v | v
              · have pw := K1.2
                rw [e, List.pairwise_append] at pw
                have := pw.2.2 a0 v b0 (List.mem_singleton.mpr rfl)
                have mem : b0 ∈ ks := by rw [e]; simp
                have r1 := NR_rg _ _ _ _ _ _ _ _ (K1.1 b0 mem).1.1
                omega
              · rw [List.mem_singleton.mp v]
                exact Or.inr (Or.inr (Or.inr e2))
          refine ⟨⟨NR_fr (fr_refl (fun _ => False) h1) lkP_yA _ _ _ _ _ _ _ _ q0.1 (cA_of (fr_refl (fun _ => False) h1) (fun _ _ _ _ _ _ z => z) (fun _ _ _ _ _ _ _ _ z => z)) (lkP_sA (by omega) (by omega) hj), ?_⟩, q1, by omega, q3, by omega, q5⟩
          rw [lkP_ne (by omega) (by omega) (Or.inr (Or.inr (by omega)))]
          exact q0.2
        · rw [List.mem_singleton.mp u]
          have hj : lst ks = 0 ∨ lst ks < g 4 ∨ g1 4 ≤ lst ks ∨ lst ks = m := by
            rcases lk y with e | ⟨ini, b0, e, e2, e3⟩
            · exact Or.inl e.1
            · omega
          refine ⟨⟨NR_fr (fr_refl (fun _ => False) h1) lkP_yA _ _ _ _ _ _ _ _ vN (cA_of (fr_refl (fun _ => False) h1) (fun _ _ _ _ _ _ z => z) (fun _ _ _ _ _ _ _ _ z => z)) (lkP_sA (lo := g 4) (hi := g1 4) (r := m) (Or.inl (by omega)) (Or.inr (Or.inr rfl)) hj), lkP_49⟩, hg, Nat.le_refl _, ?_, Nat.le_refl _, ?_⟩
          · show 21 + h0.length ≤ 21 + h.length
            omega
          · show 21 + h1.length ≤ l ∨ l < 21 + h.length
            omega
      · rw [List.pairwise_append]
        refine ⟨K1.2, List.pairwise_singleton _ _, fun a0 ha b0 hb => ?_⟩
        rw [List.mem_singleton.mp hb]
        exact ⟨(K1.1 a0 ha).2.2.1, (K1.1 a0 ha).2.2.2.2.1⟩
    have KA := KS_ap k1 d16 d6 d7 hp0 (Nat.le_refl _) KN
    have lb2 := d6.1
    have on2 : ∀ X2, (lst ks = 0 → X2 = Int32.ofNat m) → (lst ks ≠ 0 → X2 = X) → onR (lkP s1 c n m (lst ks)) n (RR c R X2 (ks ++ [prt x m (g 4) (g1 4) (21 + h.length) (21 + h1.length)]).length) J := by
      intro X2 e0 e1
      refine ⟨fun r r1 r2 => ?_, by rw [lkP_J]; exact on1.2⟩
      rw [lkP_get]
      have hnj : lst ks ≠ 0 → n ≠ lst ks := by
        intro z
        rcases lk y with e | ⟨ini, b0, e, e2, e3⟩
        · exact absurd e.1 z
        · omega
      have old : ∀ r2, 44 ≤ r2 → r2 ≤ 55 → s1.2.1 r2 n = RR c R X ks.length r2 := on1.1
      by_cases r45 : r = 45
      · subst r45
        have e5 : RR c R X2 (ks ++ [prt x m (g 4) (g1 4) (21 + h.length) (21 + h1.length)]).length 45 = X2 := if_pos rfl
        rw [e5]
        by_cases j0 : lst ks = 0
        · rw [if_pos ⟨by rw [if_pos j0], by rw [if_pos j0]⟩]
          exact (e0 j0).symm
        · rw [if_neg (fun u => by rw [if_neg j0] at u; omega), if_neg (by omega), if_neg (by omega), old 45 (by omega) (by omega), e1 j0]
          exact if_pos rfl
      · rw [if_neg (fun u => by
          by_cases j0 : lst ks = 0
          · rw [if_pos j0] at u; exact r45 u.1
          · rw [if_neg j0, if_neg j0] at u; exact hnj j0 u.2)]
        by_cases r52 : c = true ∧ r = 52
        · obtain ⟨rfl, rfl⟩ := r52
          rw [if_pos ⟨rfl, rfl, rfl⟩, old 52 (by omega) (by omega)]
          show Int32.ofNat ks.length + 1 = Int32.ofNat (ks ++ [_]).length
          rw [List.length_append]
          exact of_add ks.length 1
        · rw [if_neg (fun u => r52 ⟨u.1, u.2.1⟩), if_neg (fun u => by omega), old r r1 r2]
          unfold RR
          rw [if_neg r45, if_neg r52, if_neg r45, if_neg r52]
    rcases lk y with ⟨e, e2⟩ | ⟨ini, b0, e, e2, e3⟩
    · refine ⟨Int32.ofNat m, on2 _ (fun _ => rfl) (fun z => absurd e z), ?_, fun l' hl' => ?_⟩
      · rw [e2]
        refine chn_one (a := prt x m (g 4) (g1 4) (21 + h.length) (21 + h1.length)) ?_
        show (lkP s1 c n m 0).2.1 48 m = 0
        rw [lkP_get, if_neg (fun u => absurd u.1 (by decide)), if_neg (by omega), if_neg (by omega)]
        exact v48
      · rw [d13] at hl'
        cases hl'
        exact KS_wide KA (Nat.le_refl _) (by omega)
    · have j0 : lst ks ≠ 0 := by omega
      refine ⟨X, on2 _ (fun z => absurd z j0) (fun _ => rfl), ?_, fun l' hl' => ?_⟩
      · have pre : chn (if c = true then rs_wA (rs_wA s1 49 m (Int32.ofNat n)) 52 n (s1.2.1 52 n + 1) else rs_wA s1 49 m (Int32.ofNat n)) ks X := by
          refine chn_keep ks X (fun a0 ha => ?_) c1'
          cases c with
          | true => rw [if_pos rfl, wA_get, if_neg (by omega), wA_get, if_neg (by omega)]
          | false => rw [if_neg (show ¬ false = true by decide), wA_get, if_neg (by omega)]
        have h48 : (if c = true then rs_wA (rs_wA s1 49 m (Int32.ofNat n)) 52 n (s1.2.1 52 n + 1) else rs_wA s1 49 m (Int32.ofNat n)).2.1 48 m = 0 := by
          cases c with
          | true => rw [if_pos rfl, wA_get, if_neg (by omega), wA_get, if_neg (by omega)]; exact v48
          | false => rw [if_neg (show ¬ false = true by decide), wA_get, if_neg (by omega)]; exact v48
        have pw := K1.2
        rw [e, List.pairwise_append] at pw
        have := chn_app (a := b0) (b := prt x m (g 4) (g1 4) (21 + h.length) (21 + h1.length)) (by show m ≠ b0 1; omega) h48 ini X (fun c0 hc0 => ?_) (by rw [← e]; exact pre)
        · unfold lkP
          rw [if_neg j0, if_neg j0, e2, e]
          exact this
        · have h3 := pw.2.2 c0 hc0 b0 (List.mem_singleton.mpr rfl)
          have m0 : c0 ∈ ks := by rw [e]; exact List.mem_append_left _ hc0
          have mb : b0 ∈ ks := by rw [e]; simp
          have r1 := NR_rg _ _ _ _ _ _ _ _ (K1.1 c0 m0).1.1
          have r2 := NR_rg _ _ _ _ _ _ _ _ (K1.1 b0 mb).1.1
          omega
      · rw [d13] at hl'
        cases hl'
        exact KS_wide KA (Nat.le_refl _) (by omega)
end AJS
