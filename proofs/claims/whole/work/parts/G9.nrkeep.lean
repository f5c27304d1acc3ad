/-! NODES STAY WHAT THEY ARE while types are declared and bodies are checked. -/
/-- the class's side: but the types of Nodes and of Decls -/
def nb7 (L : Nat) (xs : Nat → Int32) (h h' : rm_H) : Prop := (∀ p j v, j ≠ 12 → fd h 12 p j = some v → fd h' 12 p j = some v) ∧ (∀ l ar cap es, aL h l ar cap es → aL h' l ar cap es) ∧ (∀ q c, nS L xs h q c → nS L xs h' q c) ∧ (∀ p j v, j ≠ 7 → fd h 10 p j = some v → fd h' 10 p j = some v) ∧ ∀ p, (fd h 12 p 12).isSome = true → (fd h' 12 p 12).isSome = true
/-- the reference's side -/
def rN (LO HI : Nat) (s s' : rS) : Prop := (∀ q, 44 ≤ q → q ≤ 61 → q ≠ 53 → q ≠ 60 → s'.2.1 q = s.2.1 q) ∧ s'.2.2 56 = s.2.2 56 ∧ s'.2.2 61 = s.2.2 61 ∧ s'.1 26 = s.1 26 ∧ ∀ i, LO ≤ i → i < HI → s.2.1 44 i = 20 → s'.2.1 53 i = s.2.1 53 i
section NKP
variable {L : Nat} {xs : Nat → Int32} {h h' : rm_H} {s s' : rS} {LO HI : Nat} {R R' : Nat → Nat → Nat → Nat → Nat → Nat → Prop} {Q Q' : Nat → Nat → Nat → Nat → Nat → Nat → Nat → Prop} {cl : Nat}
theorem tyD_nb {d y : Nat} (nb : nb7 L xs h h') (rn : rN LO HI s s') (e : tyD L xs h s d y) : tyD L xs h' s' d y := by
  obtain ⟨e1, e2⟩ := e
  have k := nb.2.2.2.1 d
  unfold tyD
  rw [rn.1 57 (by omega) (by omega) (by omega) (by omega), rn.1 58 (by omega) (by omega) (by omega) (by omega), rn.1 59 (by omega) (by omega) (by omega) (by omega), rn.2.2.1]
  refine ⟨k 6 _ (by decide) e1, ?_⟩
  rcases e2 with ⟨g1, g2⟩ | ⟨tq, g1, g2, g3, g4⟩
  · exact Or.inl ⟨g1, k 4 _ (by decide) g2⟩
  · refine Or.inr ⟨tq, k 4 _ (by decide) g1, nb.2.2.1 _ _ g2, k 5 _ (by decide) g3, ?_⟩
    rcases g4 with ⟨g4, g5⟩ | ⟨c, g4, g5, g6, g7⟩
    · exact Or.inl ⟨g4, k 2 _ (by decide) g5⟩
    · exact Or.inr ⟨c, g4, g5, k 2 _ (by decide) g6, k 3 _ (by decide) g7⟩
theorem nwD_nb {d n : Nat} (nb : nb7 L xs h h') (rn : rN LO HI s s') (e : nwD L xs h s d n) : nwD L xs h' s' d n := by
  obtain ⟨e1, tq, e2, e3, e4, e5⟩ := e
  have k := nb.2.2.2.1 d
  unfold nwD
  rw [rn.1 51 (by omega) (by omega) (by omega) (by omega), rn.1 54 (by omega) (by omega) (by omega) (by omega), rn.1 55 (by omega) (by omega) (by omega) (by omega), rn.2.1]
  refine ⟨k 6 _ (by decide) e1, tq, k 4 _ (by decide) e2, nb.2.2.1 _ _ e3, k 5 _ (by decide) e4, ?_⟩
  rcases e5 with ⟨g4, g5⟩ | ⟨c, g4, g5, g6, g7⟩
  · exact Or.inl ⟨g4, k 2 _ (by decide) g5⟩
  · exact Or.inr ⟨c, g4, g5, k 2 _ (by decide) g6, k 3 _ (by decide) g7⟩
theorem vrD_nb {d n : Nat} (nb : nb7 L xs h h') (rn : rN LO HI s s') (hn : LO ≤ n ∧ n < HI) (h44 : s.2.1 44 n = 20) (e : vrD L xs h s d n) : vrD L xs h' s' d n := by
  obtain ⟨⟨nq, e1, e2⟩, e3, e4, y, e5, e6, e7⟩ := e
  have k := nb.2.2.2.1 d
  unfold vrD
  rw [rn.1 51 (by omega) (by omega) (by omega) (by omega), rn.1 54 (by omega) (by omega) (by omega) (by omega), rn.2.1, rn.2.2.2.1, rn.2.2.2.2 n hn.1 hn.2 h44]
  exact ⟨⟨nq, k 0 _ (by decide) e1, nb.2.2.1 _ _ e2⟩, k 1 _ (by decide) e3, k 8 _ (by decide) e4, y, e5, e6, tyD_nb nb rn e7⟩
theorem kd_nb {n p lo2 hi2 pl2 ph2 : Nat} {c : Nat × Nat × Bool} (nb : nb7 L xs h h') (rn : rN LO HI s s') (hR : rgR R) (IH : ∀ lo' hi' pl' ph' m x, R lo' hi' pl' ph' m x → LO ≤ lo' → hi' ≤ HI → R' lo' hi' pl' ph' m x) (h1 : c.1 = 6 ∨ c.1 = 8 ∨ c.1 = 9 ∨ c.1 = 10) (h2 : c.2.1 = 45 ∨ c.2.1 = 46 ∨ c.2.1 = 47) (e : kd h s R lo2 hi2 pl2 ph2 n p c) (hw : LO ≤ lo2 ∧ hi2 ≤ HI) : kd h' s' R' lo2 hi2 pl2 ph2 n p c := by
  obtain ⟨m, x, lo', hi', pl', ph', e1, e2, e3, e4, e5, e6⟩ := e
  obtain ⟨u1, u2, u3, u4, u5, u6⟩ := id e5
  refine ⟨m, x, lo', hi', pl', ph', nb.1 _ _ _ (by omega) e1, ?_, ?_, IH _ _ _ _ _ _ e4 (by omega) (by omega), e5, fun z => ⟨nb.1 _ _ _ (by decide) (e6 z).1, (e6 z).2⟩⟩
  · rw [rn.1 c.2.1 (by omega) (by omega) (by omega) (by omega)]
    exact e2
  · rw [rn.1 49 (by omega) (by omega) (by omega) (by omega)]
    exact e3
theorem sq_nb {hi ph n p : Nat} (rn : rN LO HI s s') (hR : rgR R) (IH : ∀ lo' hi' pl' ph' m x, R lo' hi' pl' ph' m x → LO ≤ lo' → hi' ≤ HI → R' lo' hi' pl' ph' m x) (hh : hi ≤ HI) : ∀ (es : List Nat) (lo pl : Nat) (x : Int32), LO ≤ lo → sq s R hi ph n p lo pl es x → sq s' R' hi ph n p lo pl es x
  | [], _, _, _, _, e => e
  | y :: r, lo, pl, x, h1, e => by
    obtain ⟨m, lo', hi', pl', ph', e2, e3, e4, e5, e6⟩ := e
    obtain ⟨q0, q1, q2, q3, q4⟩ := hR _ _ _ _ _ _ e4
    obtain ⟨u1, u2, u3, u4, u5, u6⟩ := id e5
    refine ⟨m, lo', hi', pl', ph', e2, by rw [rn.1 49 (by omega) (by omega) (by omega) (by omega)]; exact e3, IH _ _ _ _ _ _ e4 (by omega) (by omega), e5, ?_⟩
    rw [rn.1 48 (by omega) (by omega) (by omega) (by omega)]
    exact sq_nb rn hR IH hh r hi' ph' _ (by omega) e6
theorem pts_nb {pl ph p : Nat} {es : List Nat} (nb : nb7 L xs h h') (e : pts h pl ph p es) : pts h' pl ph p es := by
  rcases e with ⟨z1, z2⟩ | ⟨l, ar, cap, z1, z2, z3⟩
  · exact Or.inl ⟨nb.1 _ _ _ (by decide) z1, z2⟩
  · exact Or.inr ⟨l, ar, cap, nb.1 _ _ _ (by decide) z1, nb.2.1 _ _ _ _ z2, z3⟩
theorem NRb_nb {lo hi pl ph n p : Nat} (nb : nb7 L xs h h') (rn : rN LO HI s s') (hR : rgR R) (IH : ∀ lo' hi' pl' ph' m x, R lo' hi' pl' ph' m x → LO ≤ lo' → hi' ≤ HI → R' lo' hi' pl' ph' m x) (hQ : ∀ c, rgR (Q c)) (IQ : ∀ c lo' hi' pl' ph' m x, Q c lo' hi' pl' ph' m x → LO ≤ lo' → hi' ≤ HI → Q' c lo' hi' pl' ph' m x) (hLO : LO ≤ lo) (hHI : hi ≤ HI) (e : NRb L xs h s cl R Q lo hi pl ph n p) : NRb L xs h' s' cl R' Q' lo hi pl ph n p := by
  obtain ⟨rg, W, ⟨w1, w2, w3, w4, w5, w6, w7⟩, e1, e2, e3, e4, e5, e6, e7, e8, e9, e10, e11, e12, e13, e14⟩ := e
  obtain ⟨r0, r1, r2, r3, r4⟩ := id rg
  have c12 : ∀ j v, j ≠ 12 → fd h 12 p j = some v → fd h' 12 p j = some v := fun j v h1 e => nb.1 p j v h1 e
  have b44 : s'.2.1 44 = s.2.1 44 := rn.1 44 (by omega) (by omega) (by omega) (by omega)
  have b45 : s'.2.1 45 = s.2.1 45 := rn.1 45 (by omega) (by omega) (by omega) (by omega)
  have b47 : s'.2.1 47 = s.2.1 47 := rn.1 47 (by omega) (by omega) (by omega) (by omega)
  have b50 : s'.2.1 50 = s.2.1 50 := rn.1 50 (by omega) (by omega) (by omega) (by omega)
  have b51 : s'.2.1 51 = s.2.1 51 := rn.1 51 (by omega) (by omega) (by omega) (by omega)
  have b52 : s'.2.1 52 = s.2.1 52 := rn.1 52 (by omega) (by omega) (by omega) (by omega)
  have b54 : s'.2.1 54 = s.2.1 54 := rn.1 54 (by omega) (by omega) (by omega) (by omega)
  have b55 : s'.2.1 55 = s.2.1 55 := rn.1 55 (by omega) (by omega) (by omega) (by omega)
  refine ⟨rg, W, ⟨w1, w2, c12 _ _ (by decide) w3, by rw [b44]; exact w4, by rw [b50]; exact c12 _ _ (by decide) w5, w6, fun z => by rw [b45]; exact w7 z⟩, fun z => c12 _ _ (by decide) (e1 z), fun c hc => ?_, fun z => ?_, fun z => ?_, fun z => ?_, fun z => ?_, fun z => ?_, fun z => ?_, fun z => ?_, fun z => ?_, fun z => ?_, fun z => ?_, fun z => ?_, nb.2.2.2.2 _ e14⟩
  · have := kids_ok W c hc
    have e2c := e2 c hc
    by_cases y : c.2.2 = true
    · rw [if_pos y] at e2c ⊢
      exact kd_nb nb rn hR IH (by omega) (by omega) e2c ⟨hLO, hHI⟩
    · rw [if_neg y] at e2c ⊢
      exact kd_nb nb rn (hQ _) (IQ _) (by omega) (by omega) e2c ⟨hLO, hHI⟩
  · obtain ⟨ka, kb, ka2, kb2, k1, k2, k3⟩ := e3 z
    have q1 := kd_rg (hQ _) k1
    have q2 := kd_rg (hQ _) k2
    have q3 : ka2 ≤ hi ∧ kb2 ≤ ph := by
      rcases k3 with ⟨_, _, g3, g4⟩ | g
      · exact ⟨g3, g4⟩
      · have := kd_rg (hQ _) g
        omega
    refine ⟨ka, kb, ka2, kb2, kd_nb nb rn (hQ _) (IQ _) (by decide) (by decide) k1 (by omega), kd_nb nb rn (hQ _) (IQ _) (by decide) (by decide) k2 (by omega), ?_⟩
    rcases k3 with ⟨g1, g2, g3⟩ | g
    · exact Or.inl ⟨c12 _ _ (by decide) g1, by rw [b47]; exact g2, g3⟩
    · exact Or.inr (kd_nb nb rn (hQ _) (IQ _) (by decide) (by decide) g (by omega))
  · obtain ⟨es, g1, g2, g3, g4⟩ := e4 z
    refine ⟨es, pts_nb nb g1, ?_, by rw [b52]; exact g3, g4⟩
    rw [b45]
    exact sq_nb rn (hQ _) (IQ _) hHI es _ _ _ (by omega) g2
  · obtain ⟨es, g1, g2, g3, g4⟩ := e5 z
    refine ⟨es, pts_nb nb g1, ?_, g3, by rw [b55]; exact c12 _ _ (by decide) g4⟩
    rw [b45]
    exact sq_nb rn (hQ _) (IQ _) hHI es _ _ _ hLO g2
  · obtain ⟨⟨q, g1, g2⟩, g3⟩ := e6 z
    exact ⟨⟨q, c12 _ _ (by decide) g1, by rw [rn.2.1]; exact nb.2.2.1 _ _ g2⟩, by rw [b51]; exact c12 _ _ (by decide) g3⟩
  · rw [b54]; exact c12 _ _ (by decide) (e7 z)
  · obtain ⟨x, g1, g2⟩ := e8 z
    exact ⟨x, c12 _ _ (by decide) g1, by rw [b54]; exact g2⟩
  · obtain ⟨d, g1, g2, g3, g4, g5, g6⟩ := e9 z
    exact ⟨d, c12 _ _ (by decide) g1, g2, g3, nwD_nb nb rn g4, by rw [b51]; exact c12 _ _ (by decide) g5, by rw [rn.1 46 (by omega) (by omega) (by omega) (by omega)]; exact g6⟩
  · obtain ⟨d, g1, g2, g3, g4⟩ := e10 z
    exact ⟨d, c12 _ _ (by decide) g1, g2, g3, vrD_nb nb rn ⟨by omega, by omega⟩ (by rw [w4, z]; decide) g4⟩
  · rw [b51, b50]; exact e11 z
  · obtain ⟨ka, kb, k1, k2⟩ := e12 z
    have q1 := kd_rg (hQ _) k1
    have q2 := kd_rg (hQ _) k2
    exact ⟨ka, kb, kd_nb nb rn (hQ _) (IQ _) (by decide) (by decide) k1 (by omega), kd_nb nb rn (hQ _) (IQ _) (by decide) (by decide) k2 (by omega)⟩
  · exact kd_nb nb rn (hQ _) (IQ _) (by decide) (by decide) (e13 z) (by omega)
theorem NRz_nb (nb : nb7 L xs h h') (rn : rN LO HI s s') : ∀ z c d lo hi pl ph n p, NRz L xs h s z c d lo hi pl ph n p → LO ≤ lo → hi ≤ HI → NRz L xs h' s' z c d lo hi pl ph n p := by
  intro z
  induction z with
  | zero => intro c d lo hi pl ph n p e; exact e.elim
  | succ z iz =>
    intro c d
    induction d generalizing c with
    | zero => intro lo hi pl ph n p e; exact e.elim
    | succ d ih =>
      intro lo hi pl ph n p e a b
      have e' : NRb L xs h s c (NRc L xs h s (fun c lo hi pl ph n p => NRz L xs h s z c (hi - lo) lo hi pl ph n p) 0 d) (fun c lo hi pl ph n p => NRz L xs h s z c (hi - lo) lo hi pl ph n p) lo hi pl ph n p := e
      have r := NRb_nb (R' := NRc L xs h' s' (fun c lo hi pl ph n p => NRz L xs h' s' z c (hi - lo) lo hi pl ph n p) 0 d) (Q' := (fun c lo hi pl ph n p => NRz L xs h' s' z c (hi - lo) lo hi pl ph n p)) nb rn (NRc_rg 0 d) (fun lo' hi' pl' ph' m x e4 a2 b2 => ih 0 lo' hi' pl' ph' m x e4 a2 b2) (fun c lo' hi' pl' ph' m x e4 => NR_rg (c, z) _ _ _ _ _ _ _ e4) (fun c lo' hi' pl' ph' m x e4 a2 b2 => iz c _ lo' hi' pl' ph' m x e4 a2 b2) a b e'
      exact r
end NKP
