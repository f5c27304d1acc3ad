/-! THE LIST OF TYPES AGAINST THE REFERENCE'S TYPES AND MADE NODES. -/
section LX
variable {L L2 : Nat} {xs xs2 : Nat → Int32} {h : rm_H} {s : rS}
theorem O_L : ∀ p : Nat, p ≠ 0 → p < 21 → ah_O L xs p = ah_O L2 xs2 p
  | 0, h, _ => absurd rfl h
  | 1, _, _ => rfl
  | 2, _, _ => rfl
  | 3, _, _ => rfl
  | 4, _, _ => rfl
  | 5, _, _ => rfl
  | 6, _, _ => rfl
  | 7, _, _ => rfl
  | 8, _, _ => rfl
  | 9, _, _ => rfl
  | 10, _, _ => rfl
  | 11, _, _ => rfl
  | 12, _, _ => rfl
  | 13, _, _ => rfl
  | 14, _, _ => rfl
  | 15, _, _ => rfl
  | 16, _, _ => rfl
  | 17, _, _ => rfl
  | 18, _, _ => rfl
  | 19, _, _ => rfl
  | 20, _, _ => rfl
  | n + 21, _, h => absurd h (by omega)
theorem look_L {p : Nat} {c : rm_E} (hp : p ≠ 0) (e : rm_look 21 (ah_O L xs) h p = some c) : rm_look 21 (ah_O L2 xs2) h p = some c := by
  unfold rm_look at e ⊢
  split
  · next q =>
    rw [if_pos q, O_L (L2 := L2) (xs2 := xs2) p hp q] at e
    exact e
  · next q =>
    rw [if_neg q] at e
    exact e
theorem nS_L {q : Nat} {c : Int64} (e : nS L xs h q c) : nS L2 xs2 h q c := by
  obtain ⟨n, g, ⟨ci, a, fs, f, e1, e2, e3, e4, e5, e6⟩, e7⟩ := e
  refine ⟨n, g, ⟨ci, a, fs, f, e1, look_L (fun z => ?_) e2, e3, e4, look_L (fun z => ?_) e5, e6⟩, e7⟩
  · subst z
    have : rm_look 21 (ah_O L xs) h 0 = some (.inl (0, L, .inl xs)) := rfl
    rw [this] at e2
    cases e2
  · subst z
    have : rm_look 21 (ah_O L xs) h 0 = some (.inl (0, L, .inl xs)) := rfl
    rw [this] at e5
    cases e5
theorem tyD_L {d y : Nat} (e : tyD L xs h s d y) : tyD L2 xs2 h s d y := by
  obtain ⟨e1, e2⟩ := e
  refine ⟨e1, ?_⟩
  rcases e2 with e2 | ⟨tq, e2, e3, e4⟩
  · exact Or.inl e2
  · exact Or.inr ⟨tq, e2, nS_L e3, e4⟩
theorem nwD_L {d n : Nat} (e : nwD L xs h s d n) : nwD L2 xs2 h s d n := by
  obtain ⟨e1, tq, e2, e3, e4⟩ := e
  exact ⟨e1, tq, e2, nS_L e3, e4⟩
end LX
/-- a Decl against type y -/
def tyZ (h : rm_H) (s : rS) (d y : Nat) : Prop := tyD 0 (fun _ => 0) h s d y
/-- a Decl against MADE node n -/
def nwZ (h : rm_H) (s : rS) (d n : Nat) : Prop := nwD 0 (fun _ => 0) h s d n
/-- every Decl made since the program is in the list of types; it is a type or what is behind a new, and each of these is there; a var's slot is below the count of locals (nodes from cx 18 on), and that is cx 19 at least -/
def TSI (cx : Nat → Nat) (h : rm_H) (s : rS) (g : Nat → Nat) (ts : List Nat) : Prop :=
  (∀ d fs, cx 8 ≤ d → hc h d = some (.inr (10, fs)) → d ∈ ts)
  ∧ (∀ d ∈ ts, cx 8 ≤ d ∧ (∃ fs, hc h d = some (.inr (10, fs)) ∧ fs.length = 9 ∧ fs[7]? = some (.int 0)) ∧ ((∃ y, y < g 5 ∧ tyZ h s d y) ∨ ∃ n, 1 ≤ n ∧ n < g 4 ∧ s.2.1 44 n = 8 ∧ nwZ h s d n))
  ∧ (∀ y, y < g 5 → ∃ d ∈ ts, tyZ h s d y)
  ∧ (∀ n, 1 ≤ n → n < g 4 → s.2.1 44 n = 8 → ∃ d ∈ ts, nwZ h s d n)
  ∧ (cx 14 ≠ 0 → cx 19 ≤ g 3 ∧ ∀ n, cx 18 ≤ n → n < g 4 → s.2.1 44 n = 20 → ∃ sl, sl < g 3 ∧ s.2.1 53 n = Int32.ofNat sl ∧ cx 19 ≤ sl ∧ sl < 16 ∧ ∀ n', cx 18 ≤ n' → n' < n → s.2.1 44 n' = 20 → (s.2.1 53 n').toInt < (s.2.1 53 n).toInt)
section TI
variable {cx : Nat → Nat} {F : Nat → Nat → Int32} {N : Nat → Int64} {q : List Value} {h h1 : rm_H} {s s1 : rS} {g g1 : Nat → Nat} {ts : List Nat} {v : Nat → Int32} {pt vr : Int32} {P : Nat → Prop}
theorem tyZ_k {d y : Nat} (f : fr P h h1) (e : hc h1 d = hc h d) (r57 : s1.2.1 57 y = s.2.1 57 y) (r58 : s1.2.1 58 y = s.2.1 58 y) (r59 : s1.2.1 59 y = s.2.1 59 y) (r61 : s1.2.2 61 y = s.2.2 61 y) (t : tyZ h s d y) : tyZ h1 s1 d y := by
  have k : ∀ j, fd h1 10 d j = fd h 10 d j := fun j => by unfold fd; rw [e]
  unfold tyZ tyD at t ⊢
  rw [r57, r58, r59, r61]
  simp only [k]
  obtain ⟨t1, t2⟩ := t
  refine ⟨t1, ?_⟩
  rcases t2 with t2 | ⟨tq, t2, t3, t4⟩
  · exact Or.inl t2
  · exact Or.inr ⟨tq, t2, nS_fr f t3, t4⟩
theorem nwZ_k {d n : Nat} (f : fr P h h1) (e : hc h1 d = hc h d) (r51 : s1.2.1 51 n = s.2.1 51 n) (r54 : s1.2.1 54 n = s.2.1 54 n) (r55 : s1.2.1 55 n = s.2.1 55 n) (r56 : s1.2.2 56 n = s.2.2 56 n) (t : nwZ h s d n) : nwZ h1 s1 d n := by
  have k : ∀ j, fd h1 10 d j = fd h 10 d j := fun j => by unfold fd; rw [e]
  unfold nwZ nwD at t ⊢
  rw [r51, r54, r55, r56]
  simp only [k]
  obtain ⟨t1, tq, t2, t3, t4⟩ := t
  exact ⟨t1, tq, t2, nS_fr f t3, t4⟩
/-- rows of nodes that the list of types speaks of stay -/
def tR (s s2 : rS) (m : Nat) : Prop := ∀ n, n < m → s2.2.1 44 n = s.2.1 44 n ∧ (s.2.1 44 n = 8 → s2.2.1 51 n = s.2.1 51 n ∧ s2.2.1 54 n = s.2.1 54 n ∧ s2.2.1 55 n = s.2.1 55 n ∧ s2.2.2 56 n = s.2.2 56 n) ∧ (s.2.1 44 n = 20 → s2.2.1 53 n = s.2.1 53 n)
theorem tR_of {m : Nat} (e : ∀ p, p = 44 ∨ p = 51 ∨ p = 53 ∨ p = 54 ∨ p = 55 → s1.2.1 p = s.2.1 p) (e56 : s1.2.2 56 = s.2.2 56) : tR s s1 m := fun n _ => ⟨by rw [e 44 (by omega)], fun _ => ⟨by rw [e 51 (by omega)], by rw [e 54 (by omega)], by rw [e 55 (by omega)], by rw [e56]⟩, fun _ => by rw [e 53 (by omega)]⟩
theorem tR_2 {m : Nat} (e : s1.2 = s.2) : tR s s1 m := tR_of (fun p _ => by rw [e]) (by rw [e])
theorem tR_sX {m : Nat} (sx : sX s s1 m) : tR s s1 m := fun n hn => ⟨(sx n hn).1 44 (by omega) (by omega), fun _ => ⟨(sx n hn).1 51 (by omega) (by omega), (sx n hn).1 54 (by omega) (by omega), (sx n hn).1 55 (by omega) (by omega), (sx n hn).2⟩, fun _ => (sx n hn).1 53 (by omega) (by omega)⟩
theorem tR_trans {m m2 : Nat} {s2 : rS} (a : tR s s1 m) (b : tR s1 s2 m2) (hm : m ≤ m2) : tR s s2 m := by
  intro n hn
  obtain ⟨a1, a2, a3⟩ := a n hn
  obtain ⟨b1, b2, b3⟩ := b n (by omega)
  rw [a1] at b2 b3
  refine ⟨b1.trans a1, fun z => ?_, fun z => (b3 z).trans (a3 z)⟩
  obtain ⟨c1, c2, c3, c4⟩ := a2 z
  obtain ⟨d1, d2, d3, d4⟩ := b2 z
  exact ⟨d1.trans c1, d2.trans c2, d3.trans c3, d4.trans c4⟩
/-- a row of one node that is neither MADE nor a var -/
theorem tR_A {m p i : Nat} {x : Int32} (hp : p ≠ 44) (hk : i < m → (s.2.1 44 i ≠ 8 ∨ (p ≠ 51 ∧ p ≠ 54 ∧ p ≠ 55)) ∧ (s.2.1 44 i ≠ 20 ∨ p ≠ 53)) : tR s (rs_wA s p i x) m := by
  intro n hn
  refine ⟨by rw [wA_get, if_neg (by omega)], fun z => ?_, fun z => ?_⟩
  · rw [wA_get, wA_get, wA_get]
    by_cases e : n = i
    · subst e
      rcases (hk hn).1 with k | ⟨k1, k2, k3⟩
      · exact absurd z k
      · rw [if_neg (by omega), if_neg (by omega), if_neg (by omega)]
        exact ⟨rfl, rfl, rfl, rfl⟩
    · rw [if_neg (by omega), if_neg (by omega), if_neg (by omega)]
      exact ⟨rfl, rfl, rfl, rfl⟩
  · rw [wA_get]
    by_cases e : n = i
    · subst e
      rcases (hk hn).2 with k | k
      · exact absurd z k
      · rw [if_neg (by omega)]
    · rw [if_neg (by omega)]
theorem tR_B {m i : Nat} {x : Int64} (hk : i < m → s.2.1 44 i ≠ 8) : tR s (rs_wB s 56 i x) m := by
  intro n hn
  refine ⟨rfl, fun z => ⟨rfl, rfl, rfl, ?_⟩, fun _ => rfl⟩
  rw [wB_get, if_neg]
  rintro ⟨_, e⟩
  subst e
  exact hk hn z
theorem TSI_gen {us : List Nat} (t : TSI cx h s g ts) (f : fr P h h1) (hP : ∀ d fs, hc h d = some (.inr (10, fs)) → ¬ P d) (nd : ∀ x fs, hc h1 x = some (.inr (10, fs)) → x < 21 + h.length ∨ x ∈ us) (sx : tR s s1 (g 4)) (ya : ∀ y, y < g 5 → s1.2.1 57 y = s.2.1 57 y ∧ s1.2.1 58 y = s.2.1 58 y ∧ s1.2.1 59 y = s.2.1 59 y ∧ s1.2.2 61 y = s.2.2 61 y) (g3 : g 3 ≤ g1 3) (g4 : g 4 ≤ g1 4) (g5 : g 5 ≤ g1 5) (u : ∀ d ∈ us, cx 8 ≤ d ∧ (∃ fs, hc h1 d = some (.inr (10, fs)) ∧ fs.length = 9 ∧ fs[7]? = some (.int 0)) ∧ ((∃ y, y < g1 5 ∧ tyZ h1 s1 d y) ∨ ∃ n, 1 ≤ n ∧ n < g1 4 ∧ s1.2.1 44 n = 8 ∧ nwZ h1 s1 d n)) (ny : ∀ y, g 5 ≤ y → y < g1 5 → ∃ d ∈ us, tyZ h1 s1 d y) (nn : ∀ n, g 4 ≤ n → n < g1 4 → s1.2.1 44 n = 8 → ∃ d ∈ us, nwZ h1 s1 d n) (nv : ∀ n, g 4 ≤ n → n < g1 4 → s1.2.1 44 n = 20 → n = g 4 ∧ g 3 < 16 ∧ g 3 < g1 3 ∧ s1.2.1 53 n = Int32.ofNat (g 3)) : TSI cx h1 s1 g1 (ts ++ us) := by
  obtain ⟨t1, t2, t3, t4, t5⟩ := t
  have kp : ∀ d fs, hc h d = some (.inr (10, fs)) → hc h1 d = hc h d := fun d fs e => (fr_old f e (hP d fs e)).trans e.symm
  have ky : ∀ d ∈ ts, ∀ y, y < g 5 → tyZ h s d y → tyZ h1 s1 d y := by
    intro d hd y hy e
    obtain ⟨_, ⟨fs, e1, _⟩, _⟩ := t2 d hd
    obtain ⟨y1, y2, y3, y4⟩ := ya y hy
    exact tyZ_k f (kp d fs e1) y1 y2 y3 y4 e
  have kn : ∀ d ∈ ts, ∀ n, n < g 4 → s.2.1 44 n = 8 → nwZ h s d n → nwZ h1 s1 d n := by
    intro d hd n hn e8 e
    obtain ⟨_, ⟨fs, e1, _⟩, _⟩ := t2 d hd
    obtain ⟨r1, r2, r3, r4⟩ := (sx n hn).2.1 e8
    exact nwZ_k f (kp d fs e1) r1 r2 r3 r4 e
  refine ⟨fun d fs hd e => ?_, fun d hd => ?_, fun y hy => ?_, fun n n1 hn e => ?_, fun hc14 => ⟨by have := (t5 hc14).1; omega, fun n n1 hn e => ?_⟩⟩
  · rcases nd d fs e with z | z
    · obtain ⟨fs1, e1⟩ := fr_back f e z
      exact List.mem_append_left _ (t1 d fs1 hd e1)
    · exact List.mem_append_right _ z
  · rcases List.mem_append.mp hd with z | z
    · obtain ⟨a1, ⟨fs, a2, a3⟩, a4⟩ := t2 d z
      refine ⟨a1, ⟨fs, (kp d fs a2).trans a2, a3⟩, ?_⟩
      rcases a4 with ⟨y, b1, b2⟩ | ⟨n, b0, b1, b2, b3⟩
      · exact Or.inl ⟨y, by omega, ky d z y b1 b2⟩
      · exact Or.inr ⟨n, b0, by omega, by rw [(sx n b1).1]; exact b2, kn d z n b1 b2 b3⟩
    · exact u d z
  · by_cases c : y < g 5
    · obtain ⟨d, hd, e⟩ := t3 y c
      exact ⟨d, List.mem_append_left _ hd, ky d hd y c e⟩
    · obtain ⟨d, hd, e⟩ := ny y (by omega) hy
      exact ⟨d, List.mem_append_right _ hd, e⟩
  · by_cases c : n < g 4
    · rw [(sx n c).1] at e
      obtain ⟨d, hd, e2⟩ := t4 n n1 c e
      exact ⟨d, List.mem_append_left _ hd, kn d hd n c e e2⟩
    · obtain ⟨d, hd, e⟩ := nn n (by omega) hn e
      exact ⟨d, List.mem_append_right _ hd, e⟩
  · by_cases c : n < g 4
    · rw [(sx n c).1] at e
      obtain ⟨sl, e1, e2, e3, e4, e5⟩ := (t5 hc14).2 n n1 c e
      refine ⟨sl, by omega, by rw [(sx n c).2.2 e]; exact e2, e3, e4, fun n' m1 m2 m3 => ?_⟩
      have c' : n' < g 4 := by omega
      rw [(sx n' c').1] at m3
      rw [(sx n' c').2.2 m3, (sx n c).2.2 e]
      exact e5 n' m1 m2 m3
    · obtain ⟨v1, v2, v3, v4⟩ := nv n (by omega) hn e
      refine ⟨g 3, v3, v4, (t5 hc14).1, v2, fun n' m1 m2 m3 => ?_⟩
      have c' : n' < g 4 := by omega
      rw [(sx n' c').1] at m3
      obtain ⟨sl, e1, e2, _, e4, _⟩ := (t5 hc14).2 n' m1 c' m3
      rw [(sx n' c').2.2 m3, e2, v4, of_int (by omega), of_int (by omega)]
      omega
/-- nothing of it changes, but for nodes that are neither MADE nor vars -/
theorem TSI_n (t : TSI cx h s g ts) (f : fr P h h1) (hP : ∀ d fs, hc h d = some (.inr (10, fs)) → ¬ P d) (nd : nD h h1) (sx : tR s s1 (g 4)) (ya : ∀ y, y < g 5 → s1.2.1 57 y = s.2.1 57 y ∧ s1.2.1 58 y = s.2.1 58 y ∧ s1.2.1 59 y = s.2.1 59 y ∧ s1.2.2 61 y = s.2.2 61 y) (g3 : g 3 ≤ g1 3) (g4 : g 4 ≤ g1 4) (g5 : g1 5 = g 5) (nn : ∀ n, g 4 ≤ n → n < g1 4 → s1.2.1 44 n ≠ 8 ∧ s1.2.1 44 n ≠ 20) : TSI cx h1 s1 g1 ts := by
  have := TSI_gen (us := []) t f hP (fun x fs e => Or.inl (nd x fs e)) sx ya g3 g4 (by omega) (fun d hd => (List.not_mem_nil hd).elim) (fun y h1 h2 => by omega) (fun n h1 h2 e => absurd e (nn n h1 h2).1) (fun n h1 h2 e => absurd e (nn n h1 h2).2)
  rwa [List.append_nil] at this
theorem yA_n (h26 : s.1 26 = Int32.ofNat (g 5)) (hg : g 5 ≤ 100000) (ya : yA s s1) : ∀ y, y < g 5 → s1.2.1 57 y = s.2.1 57 y ∧ s1.2.1 58 y = s.2.1 58 y ∧ s1.2.1 59 y = s.2.1 59 y ∧ s1.2.2 61 y = s.2.2 61 y := by
  intro y hy
  refine ya.2 y ?_
  rw [h26, of_int (by omega)]
  omega
/-- the rows are the same -/
theorem TSI_0 (t : TSI cx h s g ts) (f : fr P h h1) (hP : ∀ d fs, hc h d = some (.inr (10, fs)) → ¬ P d) (nd : nD h h1) (e2 : s1.2 = s.2) (g3 : g1 3 = g 3) (g4 : g1 4 = g 4) (g5 : g1 5 = g 5) : TSI cx h1 s1 g1 ts := TSI_n t f hP nd (tR_2 e2) (fun y _ => by rw [e2]; exact ⟨rfl, rfl, rfl, rfl⟩) (by omega) (by omega) g5 (fun n h1 h2 => by omega)
/-- one object is written that is no Decl -/
theorem TSI_w {a ci : Nat} {fs : List Value} (t : TSI cx h s g ts) (e : hc h a = some (.inr (ci, fs))) (hci : ci ≠ 10) (w : st1 a h h1) (e2 : s1.2 = s.2) (g3 : g1 3 = g 3) (g4 : g1 4 = g 4) (g5 : g1 5 = g 5) : TSI cx h1 s1 g1 ts := TSI_0 t w.1 (fun d gs ed z => by
  have z : d = a := z
  rw [z, e] at ed
  cases ed
  exact hci rfl) (nD_0 w.2.1) e2 g3 g4 g5
/-- one object is written that is no Decl, and rows -/
theorem TSI_wr {a ci : Nat} {fs : List Value} (t : TSI cx h s g ts) (e : hc h a = some (.inr (ci, fs))) (hci : ci ≠ 10) (w : st1 a h h1) (r : tR s s1 (g 4)) (ya : ∀ y, y < g 5 → s1.2.1 57 y = s.2.1 57 y ∧ s1.2.1 58 y = s.2.1 58 y ∧ s1.2.1 59 y = s.2.1 59 y ∧ s1.2.2 61 y = s.2.2 61 y) (g3 : g1 3 = g 3) (g4 : g1 4 = g 4) (g5 : g1 5 = g 5) : TSI cx h1 s1 g1 ts := TSI_n t w.1 (fun d gs ed z => by
  have z : d = a := z
  rw [z, e] at ed
  cases ed
  exact hci rfl) (nD_0 w.2.1) r ya (by omega) (by omega) g5 (fun n h1 h2 => by omega)
theorem TSI_rows (t : TSI cx h s g ts) (r : tR s s1 (g 4)) (ya : ∀ y, y < g 5 → s1.2.1 57 y = s.2.1 57 y ∧ s1.2.1 58 y = s.2.1 58 y ∧ s1.2.1 59 y = s.2.1 59 y ∧ s1.2.2 61 y = s.2.2 61 y) (g3 : g1 3 = g 3) (g4 : g1 4 = g 4) (g5 : g1 5 = g 5) : TSI cx h s1 g1 ts := TSI_n t (fr_refl (fun _ => False) h) (fun _ _ _ z => z) (nD_0 rfl) r ya (by omega) (by omega) g5 (fun n h1 h2 => by omega)
/-- rows that the list of types doesn't speak of -/
def rQ (s s1 : rS) : Prop := (∀ p, p = 44 ∨ p = 51 ∨ (53 ≤ p ∧ p ≤ 60) → s1.2.1 p = s.2.1 p) ∧ s1.2.2 56 = s.2.2 56 ∧ s1.2.2 61 = s.2.2 61
theorem rQ_sym (r : rQ s s1) : rQ s1 s := ⟨fun p hp => (r.1 p hp).symm, r.2.1.symm, r.2.2.symm⟩
theorem rQ_trans {s2 : rS} (r : rQ s s1) (r2 : rQ s1 s2) : rQ s s2 := ⟨fun p hp => (r2.1 p hp).trans (r.1 p hp), r2.2.1.trans r.2.1, r2.2.2.trans r.2.2⟩
theorem rQ_A {p i : Nat} {x : Int32} (hp : p ≠ 44 ∧ p ≠ 51 ∧ (p < 53 ∨ 60 < p)) : rQ s (rs_wA s p i x) := ⟨fun r hr => wA_ne _ _ _ (by omega), rfl, rfl⟩
theorem rQ_B {p i : Nat} {x : Int64} (hp : p ≠ 56 ∧ p ≠ 61) : rQ s (rs_wB s p i x) := ⟨fun _ _ => rfl, wB_ne _ _ _ (by omega), wB_ne _ _ _ (by omega)⟩
theorem rQ_w {j : Nat} {x : Int32} : rQ s (rs_w s j x) := ⟨fun _ _ => rfl, rfl, rfl⟩
theorem rQ_2 (e : s1.2 = s.2) : rQ s s1 := ⟨fun _ _ => by rw [e], by rw [e], by rw [e]⟩
theorem TSI_e (t : TSI cx h s g ts) (r : rQ s s1) : TSI cx h s1 g ts := TSI_rows t (tR_of (fun p hp => r.1 p (by omega)) r.2.1) (fun y _ => ⟨by rw [r.1 57 (by omega)], by rw [r.1 58 (by omega)], by rw [r.1 59 (by omega)], by rw [r.2.2]⟩) rfl rfl rfl
theorem TSI_s (t : TSI cx h s g ts) (e2 : s1.2 = s.2) (g3 : g1 3 = g 3) (g4 : g1 4 = g 4) (g5 : g1 5 = g 5) : TSI cx h s1 g1 ts := TSI_0 t (fr_refl (fun _ => False) h) (fun _ _ _ z => z) (nD_0 rfl) e2 g3 g4 g5
/-- what may change is no Decl -/
theorem M4_10 (p : pC h cx F v) (ch : CH cx q h g ts pt vr) : ∀ d fs, hc h d = some (.inr (10, fs)) → ¬ M4 cx (g 1) d := by
  intro d fs e u
  rcases u with u | u | u | u | u
  · rw [u, pC_r p] at e; cases e
  · rw [u, ch.1] at e; cases e
  · obtain ⟨mc, e1, _⟩ := ch.2.1
    rw [u, e1] at e; cases e
  · rcases ch.2.2.2.2 with e1 | ⟨_, e1⟩
    · have := hc_ge e
      omega
    · rw [u, e1] at e; cases e
  · obtain ⟨mc, _, _, _, e3⟩ := ch.2.1
    rcases e3 with ⟨e3, _⟩ | ⟨f0, e3, _⟩
    · have := hc_ge e
      omega
    · rw [u, e3] at e; cases e
theorem cx0_10 (p : pC h cx F v) : ∀ d fs, hc h d = some (.inr (10, fs)) → ¬ d = cx 0 := by
  intro d fs e u
  rw [u, pC_r p] at e
  cases e
end TI
