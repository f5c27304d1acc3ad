/-! PARTS IN A LIST: the reference's chain (row 48), the class's list. A part is told by numbers: 0 its place, 1 its node, 2, 3 its nodes, 4, 5 its places. -/
def chn (s : rS) : List (Nat → Nat) → Int32 → Prop
  | [], x => x = 0
  | a :: r, x => x = Int32.ofNat (a 1) ∧ chn s r (s.2.1 48 (a 1))
/-- the parts of node n, Node p, with a list at l -/
def KS (L : Nat) (xs : Nat → Int32) (zz : Nat × Nat) (h : rm_H) (s : rS) (n l lo hi pl ph : Nat) (ks : List (Nat → Nat)) : Prop := (∀ a ∈ ks, KD L xs zz h s n (a 1) (a 0) (a 2) (a 3) (a 4) (a 5) ∧ lo ≤ a 2 ∧ a 3 ≤ hi ∧ pl ≤ a 4 ∧ a 5 ≤ ph ∧ (a 5 ≤ l ∨ l < a 4)) ∧ ks.Pairwise (fun a b => a 3 ≤ b 2 ∧ a 5 ≤ b 4)
section CN
variable {zz : Nat × Nat}
variable {L : Nat} {xs : Nat → Int32} {zf : Value} {w k : Nat} {cx : Nat → Nat} {F : Nat → Nat → Int32} {N : Nat → Int64} {q : List Value} {h h' : rm_H} {s s' : rS} {g g' : Nat → Nat} {ts ts' : List Nat} {n p l lo hi pl ph : Nat} {ks : List (Nat → Nat)}
theorem chn_keep : ∀ (ks : List (Nat → Nat)) (x : Int32), (∀ a ∈ ks, s'.2.1 48 (a 1) = s.2.1 48 (a 1)) → chn s ks x → chn s' ks x := by
  intro ks
  induction ks with
  | nil => intro x _ e; exact e
  | cons a r ih =>
    intro x hs e
    refine ⟨e.1, ?_⟩
    rw [hs a (List.mem_cons_self ..)]
    exact ih _ (fun b hb => hs b (List.mem_cons_of_mem _ hb)) e.2
theorem chn_one {a : Nat → Nat} (e : s.2.1 48 (a 1) = 0) : chn s [a] (Int32.ofNat (a 1)) := ⟨rfl, e⟩
theorem chn_app {a b : Nat → Nat} (hb : b 1 ≠ a 1) (h0 : s.2.1 48 (b 1) = 0) : ∀ (ini : List (Nat → Nat)) (x : Int32), (∀ c ∈ ini, c 1 ≠ a 1) → chn s (ini ++ [a]) x → chn (rs_wA s 48 (a 1) (Int32.ofNat (b 1))) (ini ++ [a] ++ [b]) x := by
  intro ini
  induction ini with
  | nil =>
    intro x _ e
    refine ⟨e.1, ?_, ?_⟩
    · rw [wA_get, if_pos ⟨rfl, rfl⟩]
    · rw [wA_get, if_neg (fun u => hb u.2)]
      exact h0
  | cons c r ih =>
    intro x hs e
    refine ⟨e.1, ?_⟩
    rw [wA_get, if_neg (fun u => hs c (List.mem_cons_self ..) u.2)]
    exact ih _ (fun d hd => hs d (List.mem_cons_of_mem _ hd)) e.2
theorem sq_of {d hi0 ph0 : Nat} (hd : hi - lo ≤ d) (h2 : hi ≤ hi0) (h4 : ph ≤ ph0) (hn : n < lo) (hp : p < pl) : ∀ (ks : List (Nat → Nat)) (lo0 pl0 : Nat) (x : Int32), (∀ a ∈ ks, KD L xs zz h s n (a 1) (a 0) (a 2) (a 3) (a 4) (a 5) ∧ lo ≤ a 2 ∧ a 3 ≤ hi ∧ pl ≤ a 4 ∧ a 5 ≤ ph ∧ lo0 ≤ a 2 ∧ pl0 ≤ a 4) → ks.Pairwise (fun a b => a 3 ≤ b 2 ∧ a 5 ≤ b 4) → chn s ks x → sq s (NRq L xs h s zz) hi0 ph0 n p lo0 pl0 (ks.map (fun a => a 0)) x := by
  intro ks
  induction ks with
  | nil => intro lo0 pl0 x _ _ e; exact e
  | cons a r ih =>
    intro lo0 pl0 x hs pw e
    obtain ⟨K, q1, q2, q3, q4, q5, q6⟩ := hs a (List.mem_cons_self ..)
    obtain ⟨pw1, pw2⟩ := List.pairwise_cons.mp pw
    refine ⟨a 1, a 2, a 3, a 4, a 5, e.1, K.2, NR_le K.1 (by omega), ?_, ih _ _ _ (fun b hb => ?_) pw2 e.2⟩
    · unfold sub
      omega
    · obtain ⟨K2, r1, r2, r3, r4, _⟩ := hs b (List.mem_cons_of_mem _ hb)
      exact ⟨K2, r1, r2, r3, r4, (pw1 b hb).1, (pw1 b hb).2⟩
theorem KS_sq {d lo0 hi0 pl0 ph0 : Nat} {x : Int32} (K : KS L xs zz h s n l lo hi pl ph ks) (c : chn s ks x) (hd : hi - lo ≤ d) (h1 : lo0 ≤ lo) (h2 : hi ≤ hi0) (h3 : pl0 ≤ pl) (h4 : ph ≤ ph0) (hn : n < lo) (hp : p < pl) : sq s (NRq L xs h s zz) hi0 ph0 n p lo0 pl0 (ks.map (fun a => a 0)) x := sq_of hd h2 h4 hn hp ks lo0 pl0 x (fun a ha => by
  obtain ⟨q0, q1, q2, q3, q4, _⟩ := K.1 a ha
  exact ⟨q0, q1, q2, q3, q4, by omega, by omega⟩) K.2 c
theorem KS_keep (b : OPR cx F N q h s g ts h' s' g' ts') (y : SY cx F N q h' s' g' ts') (K : KS L xs zz h s n l lo hi pl ph ks) (hhi : hi ≤ g 4) (hpl : bl cx pl) : KS L xs zz h' s' n l lo hi pl ph ks := by
  refine ⟨fun a ha => ?_, K.2⟩
  obtain ⟨q0, q1, q2, q3, q4, q5⟩ := K.1 a ha
  exact ⟨KD_keep b y q0 (by omega) (bl_le hpl q3), q1, q2, q3, q4, q5⟩
theorem KS_chn {x : Int32} (b : OPR cx F N q h s g ts h' s' g' ts') (y : SY cx F N q h' s' g' ts') (K : KS L xs zz h s n l lo hi pl ph ks) (hhi : hi ≤ g 4) (c : chn s ks x) : chn s' ks x := by
  refine chn_keep ks x (fun a ha => ?_) c
  obtain ⟨q0, q1, q2, _⟩ := K.1 a ha
  have rg := NR_rg _ _ _ _ _ _ _ _ q0.1
  exact ((b.2.1 y).2.1 (a 1) (by omega)).1 48 (by omega) (by omega)
/-- the list behind the node takes one more -/
theorem KS_ap {ar : Nat} (hp : nW h p) (u : uA h) (f : fr (fun y => y = p ∨ y = l ∨ y = ar) h h') (hl : (∃ fs, hc h l = some (.inr (5, .ref ar :: fs)) ∧ ∀ ci fs, hc h ar ≠ some (.inr (ci, fs))) ∨ (21 + h.length ≤ l ∧ ar = 5)) (hpp : p < pl) (hph : ph ≤ 21 + h.length) (K : KS L xs zz h s n l lo hi pl ph ks) : KS L xs zz h' s n l lo hi pl ph ks := by
  obtain ⟨gs, ep, _⟩ := id hp
  refine ⟨fun a ha => ?_, K.2⟩
  obtain ⟨q0, q1, q2, q3, q4, q5⟩ := K.1 a ha
  refine ⟨⟨NR_fr f (yA_refl s) _ _ _ _ _ _ _ _ q0.1 (cA_of f (fun y ci fs y1 y2 e z => ?_) (fun l2 ar2 cap es y1 y2 e h5 z => ?_)) (sA_refl _ _ _ _), q0.2⟩, q1, q2, q3, q4, q5⟩
  · rcases z with z | z | z
    · omega
    · omega
    · rcases hl with ⟨_, _, h2⟩ | ⟨_, h2⟩
      · exact h2 ci fs (z ▸ e)
      · have := hc_ge e
        omega
  · obtain ⟨mc, e1, _, _, e3⟩ := e
    rcases e3 with ⟨e3, _⟩ | ⟨f0, e3, _⟩
    · exact h5 e3
    · rcases z with z | z | z
      · rw [z, ep] at e3; cases e3
      · rcases hl with ⟨fs, h1, _⟩ | ⟨h1, _⟩
        · rw [z, h1] at e3; cases e3
        · have := hc_lt e3
          omega
      · rcases hl with ⟨fs, h1, _⟩ | ⟨_, h2⟩
        · rw [z] at e1
          rcases u.2 _ _ _ _ _ e1 h1 with w | w
          · exact h5 (z.trans w)
          · omega
        · exact h5 (z.trans h2)
end CN
