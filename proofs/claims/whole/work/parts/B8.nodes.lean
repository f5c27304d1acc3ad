/-! NODES: a field of an object; the class's Nodes against the reference's numbers. -/
/-- field k of the object of class ci at place p -/
def fd (h : rm_H) (ci p k : Nat) : Option Value := match hc h p with
  | some (.inr (c, fs)) => if c = ci then fs[k]? else none
  | _ => none
section FD
variable {L : Nat} {xs : Nat → Int32} {zf : Value} {w k : Nat} {h h1 : rm_H} {D : dD} {ci p j : Nat} {v u : Value}
theorem fd_of {fs : List Value} (e : hc h p = some (.inr (ci, fs))) : fd h ci p j = fs[j]? := by
  unfold fd
  rw [e]
  exact if_pos rfl
theorem fd_c (e : fd h ci p j = some v) : ∃ fs, hc h p = some (.inr (ci, fs)) ∧ fs[j]? = some v := by
  unfold fd at e
  split at e
  · rename_i c fs hx
    split at e
    · rename_i z
      subst z
      exact ⟨fs, hx, e⟩
    · cases e
  · cases e
theorem fd_I {x : Int32} {cis : List Nat} (e : fd h ci p j = some (.int x)) (hcn : cis.contains ci = true) : dgI L xs h j cis (some p) = some x := by
  obtain ⟨fs, e1, e2⟩ := fd_c e
  exact hc_gI e1 e2 hcn
theorem fd_R {o : Option Nat} {cis : List Nat} (e : fd h ci p j = some (va_rf o)) (hcn : cis.contains ci = true) : dgR L xs h j cis (some p) = some o := by
  obtain ⟨fs, e1, e2⟩ := fd_c e
  exact hc_gR e1 e2 hcn
theorem fd_v {mi : Nat} {cis : List Nat} {As : List Value} (e : fd h ci p j = some v) (hcn : cis.contains ci = true) : dcV L xs D mi cis (some p) As h = D mi (.ref p :: As) h := by
  obtain ⟨fs, e1, e2⟩ := fd_c e
  exact hc_v e1 hcn
theorem fd_lt (e : fd h ci p j = some v) : p < 21 + h.length ∧ 21 ≤ p := by
  obtain ⟨fs, e1, e2⟩ := fd_c e
  exact ⟨hc_lt e1, hc_ge e1⟩
/-- a field is written -/
theorem fd_w {cis : List Nat} (e : fd h ci p j = some u) (hcn : cis.contains ci = true) (hf : rm_fit (ah_FT ci j) v = true) (hci : ci ≠ 7 ∧ ci ≠ 16) : ∃ h', dpF h j cis (some p) v = some h' ∧ fd h' ci p j = some v ∧ (∀ i, i ≠ j → fd h' ci p i = fd h ci p i) ∧ st1 p h h' := by
  obtain ⟨fs, e1, e2⟩ := fd_c e
  obtain ⟨h', a1, a2, a3⟩ := pF_ex e1 e2 hcn hf hci
  refine ⟨h', a1, ?_, fun i hi => ?_, a3⟩
  · rw [fd_of a2, List.getElem?_set_self (List.getElem?_eq_some_iff.mp e2).1]
  · rw [fd_of a2, fd_of e1, List.getElem?_set_ne (fun z => hi z.symm)]
theorem fd_old {P : Nat → Prop} (a : fr P h h1) (e : fd h ci p j = some v) (hn : ¬ P p) : fd h1 ci p j = some v := by
  obtain ⟨fs, e1, e2⟩ := fd_c e
  rw [fd_of (fr_old a e1 hn)]
  exact e2
theorem fd_st {a : Nat} (s : st1 a h h1) (hp : p ≠ a) : fd h1 ci p j = fd h ci p j := by
  unfold fd
  rw [st1_ne s hp]
theorem fd_up {c : rm_E} (e : fd h ci p j = some v) : fd (h ++ [c]) ci p j = some v := fd_old (fr_app (fun _ => False) c) e id
theorem fd_new {fs : List Value} : fd (h ++ [.inr (ci, fs)]) ci (21 + h.length) j = fs[j]? := fd_of (hc_new _)
end FD
/-- the reference's kind of a node of the class's sort -/
def wK (W : Nat) : Nat := if W ≤ 13 then W else if W = 14 then 30 else W + 5
/-- which fields hold Nodes, where the reference has them, and whether they are linked back -/
def kids (W : Nat) : List (Nat × Nat × Bool) := match W with
  | 6 => [(8, 45, false)]
  | 7 => [(8, 45, false), (9, 46, false)]
  | 9 => [(8, 45, false)]
  | 10 => [(6, 45, true)]
  | 11 => [(6, 46, true)]
  | 12 => [(6, 46, true)]
  | 13 => [(6, 45, true), (8, 46, false)]
  | 15 => [(8, 45, false)]
  | 16 => [(8, 45, false), (9, 46, false)]
  | 17 => [(8, 45, false), (9, 46, false)]
  | 18 => [(8, 45, false)]
  | 19 => [(8, 45, false)]
  | 20 => [(8, 45, false)]
  | 21 => [(8, 45, false), (9, 46, false)]
  | 22 => [(8, 45, false)]
  | _ => []
/-- the sorts of nodes -/
def cW (c W : Nat) : Prop := (c = 0 ∧ W ≤ 13) ∨ (c = 1 ∧ W = 14) ∨ (c = 2 ∧ 15 ≤ W)
/-- the sort of a part -/
def kC : Nat → Nat → Nat
  | 9, 8 => 1
  | 16, 9 => 1
  | 17, 9 => 1
  | _, _ => 0
/-- the sign of an operator -/
def opS (x : Int32) (c : Int32) : Prop := (x = 15 ∧ c = 60) ∨ (x = 16 ∧ c = 43) ∨ (x = 17 ∧ c = 45) ∨ (x = 18 ∧ c = 42) ∨ (x = 19 ∧ c = 256)
section NRD
variable (L : Nat) (xs : Nat → Int32) (h : rm_H) (s : rS)
/-- a TYPE as it is written, against number y of the reference's types -/
def tyD (d y : Nat) : Prop := fd h 10 d 6 = some (.int 0) ∧ ((s.2.1 57 y = 6 ∧ fd h 10 d 4 = some .null) ∨ ∃ tq, fd h 10 d 4 = some (.ref tq) ∧ nS L xs h tq (s.2.2 61 y) ∧ fd h 10 d 5 = some (.int (s.2.1 59 y)) ∧ ((s.2.1 57 y = 5 ∧ fd h 10 d 2 = some (.int (-1))) ∨ ∃ c, c < 5 ∧ s.2.1 57 y = Int32.ofNat c ∧ fd h 10 d 2 = some (.int (Int32.ofNat c)) ∧ fd h 10 d 3 = some (.int (s.2.1 58 y))))
/-- what is behind new -/
def nwD (d n : Nat) : Prop := fd h 10 d 6 = some (.int 1) ∧ ∃ tq, fd h 10 d 4 = some (.ref tq) ∧ nS L xs h tq (s.2.2 56 n) ∧ fd h 10 d 5 = some (.int (s.2.1 51 n)) ∧ ((s.2.1 54 n = -1 ∧ fd h 10 d 2 = some (.int (-1))) ∨ ∃ c, c < 5 ∧ s.2.1 54 n = Int32.ofNat c ∧ fd h 10 d 2 = some (.int (Int32.ofNat c)) ∧ fd h 10 d 3 = some (.int (s.2.1 55 n)))
/-- what a var declares -/
def vrD (d n : Nat) : Prop := (∃ nq, fd h 10 d 0 = some (.ref nq) ∧ nS L xs h nq (s.2.2 56 n)) ∧ fd h 10 d 1 = some (.int (s.2.1 51 n)) ∧ fd h 10 d 8 = some (.int (s.2.1 53 n)) ∧ ∃ y : Nat, s.2.1 54 n = Int32.ofNat y ∧ (y : Int) < (s.1 26).toInt ∧ tyD L xs h s d y
/-- a part lies in its range, apart from the whole -/
def sub (lo hi pl ph n p lo' hi' pl' ph' : Nat) : Prop := lo ≤ lo' ∧ hi' ≤ hi ∧ pl ≤ pl' ∧ ph' ≤ ph ∧ (hi' ≤ n ∨ n < lo') ∧ (ph' ≤ p ∨ p < pl')
def kd (R : Nat → Nat → Nat → Nat → Nat → Nat → Prop) (lo hi pl ph n p : Nat) (c : Nat × Nat × Bool) : Prop := ∃ m x lo' hi' pl' ph', fd h 12 p c.1 = some (.ref x) ∧ s.2.1 c.2.1 n = Int32.ofNat m ∧ s.2.1 49 m = Int32.ofNat n ∧ R lo' hi' pl' ph' m x ∧ sub lo hi pl ph n p lo' hi' pl' ph' ∧ (c.2.2 = true → fd h 12 x 7 = some (.ref p) ∧ m < n ∧ x < p)
def sq (R : Nat → Nat → Nat → Nat → Nat → Nat → Prop) (hi ph n p : Nat) : Nat → Nat → List Nat → Int32 → Prop
  | _, _, [], x => x = 0
  | lo, pl, e :: r, x => ∃ m lo' hi' pl' ph', x = Int32.ofNat m ∧ s.2.1 49 m = Int32.ofNat n ∧ R lo' hi' pl' ph' m e ∧ sub lo hi pl ph n p lo' hi' pl' ph' ∧ sq R hi ph n p hi' ph' r (s.2.1 48 m)
/-- the parts of a Node in a list -/
def pts (pl ph p : Nat) (es : List Nat) : Prop := (fd h 12 p 11 = some .null ∧ es = []) ∨ ∃ l ar cap, fd h 12 p 11 = some (.ref l) ∧ aL h l ar cap es ∧ pl ≤ l ∧ l < ph
def NRb (cl : Nat) (R : Nat → Nat → Nat → Nat → Nat → Nat → Prop) (Q : Nat → Nat → Nat → Nat → Nat → Nat → Nat → Prop) (lo hi pl ph n p : Nat) : Prop :=
  (1 ≤ lo ∧ lo ≤ n ∧ n < hi ∧ pl ≤ p ∧ p < ph) ∧ ∃ W : Nat, (1 ≤ W ∧ W ≤ 22 ∧ fd h 12 p 0 = some (.int (Int32.ofNat W)) ∧ s.2.1 44 n = Int32.ofNat (wK W) ∧ fd h 12 p 1 = some (.int (s.2.1 50 n)) ∧ cW cl W ∧ (W ≤ 5 → s.2.1 45 n = 0))
  ∧ (W ≤ 9 → fd h 12 p 6 = some .null)
  ∧ (∀ c ∈ kids W, kd h s (if c.2.2 = true then R else Q (kC W c.1)) lo hi pl ph n p c)
  ∧ (W = 16 → ∃ a b a2 b2, kd h s (Q 0) lo a pl b n p (8, 45, false) ∧ kd h s (Q 1) a a2 b b2 n p (9, 46, false) ∧ ((fd h 12 p 10 = some .null ∧ s.2.1 47 n = 0 ∧ a2 ≤ hi ∧ b2 ≤ ph) ∨ kd h s (Q 1) a2 hi b2 ph n p (10, 47, false)))
  ∧ ((W = 8 ∨ W = 11 ∨ W = 12) → ∃ es, pts h pl ph p es ∧ sq s (Q 0) hi ph n p (n + 1) (p + 1) es (s.2.1 45 n) ∧ s.2.1 52 n = Int32.ofNat es.length ∧ es.length ≤ 6)
  ∧ (W = 14 → ∃ es, pts h pl ph p es ∧ sq s (Q 2) hi ph n p lo pl es (s.2.1 45 n) ∧ es.length ≤ 2000 ∧ fd h 12 p 3 = some (.int (s.2.1 55 n)))
  ∧ ((W = 4 ∨ W = 5 ∨ W = 10 ∨ W = 11 ∨ W = 12) → (∃ q, fd h 12 p 2 = some (.ref q) ∧ nS L xs h q (s.2.2 56 n)) ∧ fd h 12 p 3 = some (.int (s.2.1 51 n)))
  ∧ (W = 1 → fd h 12 p 4 = some (.int (s.2.1 54 n)))
  ∧ (W = 13 → ∃ x, fd h 12 p 4 = some (.int x) ∧ opS x (s.2.1 54 n))
  ∧ (W = 8 → ∃ d, fd h 12 p 5 = some (.ref d) ∧ pl ≤ d ∧ d < ph ∧ nwD L xs h s d n ∧ fd h 12 p 3 = some (.int (s.2.1 51 n)) ∧ s.2.1 46 n = 0)
  ∧ (W = 15 → ∃ d, fd h 12 p 5 = some (.ref d) ∧ pl ≤ d ∧ d < ph ∧ vrD L xs h s d n)
  ∧ (W = 4 → s.2.1 51 n = s.2.1 50 n)
  ∧ (W = 7 ∨ W = 17 ∨ W = 21 → ∃ a b, kd h s (Q (kC W 8)) lo a pl b n p (8, 45, false) ∧ kd h s (Q (kC W 9)) a hi b ph n p (9, 46, false))
  ∧ (W = 13 → kd h s (Q 0) (n + 1) hi (p + 1) ph n p (8, 46, false))
  ∧ (fd h 12 p 12).isSome = true
/-- a chain d long at most, its other parts by Q -/
def NRc (Q : Nat → Nat → Nat → Nat → Nat → Nat → Nat → Prop) : Nat → Nat → Nat → Nat → Nat → Nat → Nat → Nat → Prop
  | _, 0 => fun _ _ _ _ _ _ => False
  | cl, d + 1 => NRb L xs h s cl (NRc Q 0 d) Q
def NRz : Nat → Nat → Nat → Nat → Nat → Nat → Nat → Nat → Nat → Prop
  | 0 => fun _ _ _ _ _ _ _ _ => False
  | z + 1 => NRc L xs h s (fun c lo hi pl ph n p => NRz z c (hi - lo) lo hi pl ph n p)
/-- Node p is node n, of sort zc.1 (0 an expression, 1 a block, 2 a step), its chain d long at most, parts in parts zc.2 deep at most; nodes lo to hi, places pl to ph -/
def NR (zc : Nat × Nat) : Nat → Nat → Nat → Nat → Nat → Nat → Nat → Prop := NRz L xs h s zc.2 zc.1
/-- a part that is no link of the chain -/
def NRq (zc : Nat × Nat) : Nat → Nat → Nat → Nat → Nat → Nat → Prop := fun lo hi pl ph n p => NR L xs h s zc (hi - lo) lo hi pl ph n p
end NRD
/-- what later steps may change of the class's objects: the type of a Node and of a Decl, what is behind the root; lists keep what they hold -/
def cA (h h' : rm_H) (pl ph root : Nat) : Prop := (∀ p ci fs, pl ≤ p → p < ph → hc h p = some (.inr (ci, fs)) → hc h' p = some (.inr (ci, fs)) ∨ ∃ fs2, hc h' p = some (.inr (ci, fs2)) ∧ ((ci = 12 ∧ (∀ j, j ≠ 12 → (j = 7 → p ≠ root) → fs2[j]? = fs[j]?) ∧ (fs2[12]?).isSome = (fs[12]?).isSome) ∨ (ci = 10 ∧ ∀ j, j ≠ 7 → fs2[j]? = fs[j]?))) ∧ ∀ l ar cap es, pl ≤ l → l < ph → aL h l ar cap es → aL h' l ar cap es
/-- and of the reference's rows: slots but of vars, the root's parent and next -/
def sA (s s' : rS) (lo hi root : Nat) : Prop := ∀ i, lo ≤ i → i < hi → (∀ q, q = 44 ∨ q = 45 ∨ q = 46 ∨ q = 47 ∨ q = 50 ∨ q = 51 ∨ q = 52 ∨ q = 54 ∨ q = 55 → s'.2.1 q i = s.2.1 q i) ∧ s'.2.2 56 i = s.2.2 56 i ∧ (i ≠ root → s'.2.1 48 i = s.2.1 48 i ∧ s'.2.1 49 i = s.2.1 49 i) ∧ (s.2.1 44 i = 20 → s'.2.1 53 i = s.2.1 53 i)
def yA (s s' : rS) : Prop := (s.1 26).toInt ≤ (s'.1 26).toInt ∧ ∀ y : Nat, (y : Int) < (s.1 26).toInt → s'.2.1 57 y = s.2.1 57 y ∧ s'.2.1 58 y = s.2.1 58 y ∧ s'.2.1 59 y = s.2.1 59 y ∧ s'.2.2 61 y = s.2.2 61 y
section NRF
variable {L : Nat} {xs : Nat → Int32} {h h' : rm_H} {s s' : rS} {P : Nat → Prop}
theorem cA_sub {pl ph root pl' ph' r2 : Nat} (a : cA h h' pl ph root) (h1 : pl ≤ pl') (h2 : ph' ≤ ph) (h3 : ph' ≤ root ∨ root < pl') : cA h h' pl' ph' r2 := by
  refine ⟨fun p ci fs hp hq e => ?_, fun l ar cap es hp hq e => a.2 l ar cap es (by omega) (by omega) e⟩
  rcases a.1 p ci fs (by omega) (by omega) e with e | ⟨fs2, e2, e3⟩
  · exact Or.inl e
  · refine Or.inr ⟨fs2, e2, ?_⟩
    rcases e3 with ⟨e3, e4⟩ | e3
    · exact Or.inl ⟨e3, fun j hj _ => e4.1 j hj (fun _ => by omega), e4.2⟩
    · exact Or.inr e3
theorem sA_sub {lo hi root lo' hi' r2 : Nat} (a : sA s s' lo hi root) (h1 : lo ≤ lo') (h2 : hi' ≤ hi) (h3 : hi' ≤ root ∨ root < lo') : sA s s' lo' hi' r2 := by
  intro i hi hj
  obtain ⟨e1, e2, e3, e4⟩ := a i (by omega) (by omega)
  exact ⟨e1, e2, fun _ => e3 (by omega), e4⟩
theorem cA_12 {pl ph root p j : Nat} {v : Value} (a : cA h h' pl ph root) (hp : pl ≤ p ∧ p < ph) (hj : j ≠ 12) (hr : j = 7 → p ≠ root) (e : fd h 12 p j = some v) : fd h' 12 p j = some v := by
  obtain ⟨gs, g1, g2⟩ := fd_c e
  rcases a.1 p _ _ hp.1 hp.2 g1 with e0 | ⟨fs2, e2, e3⟩
  · rw [fd_of e0]; exact g2
  · rcases e3 with ⟨_, e4⟩ | ⟨z, _⟩
    · rw [fd_of e2, e4.1 j hj hr]; exact g2
    · exact absurd z (by decide)
/-- the same within a narrower range -/
theorem cA_r {pl ph root pl' ph' : Nat} (a : cA h h' pl ph root) (h1 : pl ≤ pl') (h2 : ph' ≤ ph) : cA h h' pl' ph' root := ⟨fun p ci fs hp hq e => a.1 p ci fs (by omega) (by omega) e, fun l ar cap es hp hq e => a.2 l ar cap es (by omega) (by omega) e⟩
theorem cA_ty {pl ph root p : Nat} (a : cA h h' pl ph root) (hp : pl ≤ p ∧ p < ph) (e : (fd h 12 p 12).isSome = true) : (fd h' 12 p 12).isSome = true := by
  obtain ⟨v, hv⟩ := Option.isSome_iff_exists.mp e
  obtain ⟨gs, g1, g2⟩ := fd_c hv
  rcases a.1 p _ _ hp.1 hp.2 g1 with e0 | ⟨fs2, e2, e3⟩
  · rw [fd_of e0, g2]; rfl
  · rcases e3 with ⟨_, _, e5⟩ | ⟨z, _⟩
    · rw [fd_of e2, e5, g2]; rfl
    · exact absurd z (by decide)
theorem cA_10 {pl ph root p j : Nat} {v : Value} (a : cA h h' pl ph root) (hp : pl ≤ p ∧ p < ph) (hj : j ≠ 7) (e : fd h 10 p j = some v) : fd h' 10 p j = some v := by
  obtain ⟨gs, g1, g2⟩ := fd_c e
  rcases a.1 p _ _ hp.1 hp.2 g1 with e0 | ⟨fs2, e2, e3⟩
  · rw [fd_of e0]; exact g2
  · rcases e3 with ⟨z, _⟩ | ⟨_, e4⟩
    · exact absurd z (by decide)
    · rw [fd_of e2, e4 j hj]; exact g2
theorem tyD_fr {pl ph root d y : Nat} (hf : fr P h h') (a : cA h h' pl ph root) (hY : yA s s') (hd : pl ≤ d ∧ d < ph) (hy : (y : Int) < (s.1 26).toInt) (e : tyD L xs h s d y) : tyD L xs h' s' d y := by
  obtain ⟨y1, y2, y3, y4⟩ := hY.2 y hy
  obtain ⟨e1, e2⟩ := e
  refine ⟨cA_10 a hd (by decide) e1, ?_⟩
  rw [y1, y2, y3, y4]
  rcases e2 with ⟨g1, g2⟩ | ⟨tq, g1, g2, g3, g4⟩
  · exact Or.inl ⟨g1, cA_10 a hd (by decide) g2⟩
  · refine Or.inr ⟨tq, cA_10 a hd (by decide) g1, nS_fr hf g2, cA_10 a hd (by decide) g3, ?_⟩
    rcases g4 with ⟨g4, g5⟩ | ⟨c, g4, g5, g6, g7⟩
    · exact Or.inl ⟨g4, cA_10 a hd (by decide) g5⟩
    · exact Or.inr ⟨c, g4, g5, cA_10 a hd (by decide) g6, cA_10 a hd (by decide) g7⟩
theorem nwD_fr {pl ph root lo hi d n r2 : Nat} (hf : fr P h h') (a : cA h h' pl ph root) (b : sA s s' lo hi r2) (hd : pl ≤ d ∧ d < ph) (hn : lo ≤ n ∧ n < hi) (e : nwD L xs h s d n) : nwD L xs h' s' d n := by
  obtain ⟨b1, b2, _, _⟩ := b n hn.1 hn.2
  obtain ⟨e1, tq, g1, g2, g3, g4⟩ := e
  refine ⟨cA_10 a hd (by decide) e1, tq, cA_10 a hd (by decide) g1, ?_, ?_, ?_⟩
  · rw [b2]; exact nS_fr hf g2
  · rw [b1 51 (by omega)]; exact cA_10 a hd (by decide) g3
  · rw [b1 54 (by omega), b1 55 (by omega)]
    rcases g4 with ⟨g4, g5⟩ | ⟨c, g4, g5, g6, g7⟩
    · exact Or.inl ⟨g4, cA_10 a hd (by decide) g5⟩
    · exact Or.inr ⟨c, g4, g5, cA_10 a hd (by decide) g6, cA_10 a hd (by decide) g7⟩
theorem vrD_fr {pl ph root lo hi d n r2 : Nat} (hf : fr P h h') (a : cA h h' pl ph root) (b : sA s s' lo hi r2) (hY : yA s s') (hd : pl ≤ d ∧ d < ph) (hn : lo ≤ n ∧ n < hi) (hk : s.2.1 44 n = 20) (e : vrD L xs h s d n) : vrD L xs h' s' d n := by
  obtain ⟨b1, b2, _, b4⟩ := b n hn.1 hn.2
  obtain ⟨⟨nq, e1, e2⟩, e3, e4, y, e5, e6, e7⟩ := e
  refine ⟨⟨nq, cA_10 a hd (by decide) e1, by rw [b2]; exact nS_fr hf e2⟩, by rw [b1 51 (by omega)]; exact cA_10 a hd (by decide) e3, by rw [b4 hk]; exact cA_10 a hd (by decide) e4, y, by rw [b1 54 (by omega)]; exact e5, by have := hY.1; omega, tyD_fr hf a hY hd e6 e7⟩
theorem pts_fr {pl ph p : Nat} {es : List Nat} {root : Nat} (a : cA h h' pl ph root) (hp : pl ≤ p ∧ p < ph) (e : pts h pl ph p es) : pts h' pl ph p es := by
  rcases e with ⟨e1, e2⟩ | ⟨l, ar, cap, e1, e2, e3, e4⟩
  · exact Or.inl ⟨cA_12 a hp (by decide) (fun z => absurd z (by decide)) e1, e2⟩
  · exact Or.inr ⟨l, ar, cap, cA_12 a hp (by decide) (fun z => absurd z (by decide)) e1, a.2 l ar cap es e3 e4 e2, e3, e4⟩
end NRF
