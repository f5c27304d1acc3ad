/-! NODES: what the relation bears. -/
section NRG
variable {L : Nat} {xs : Nat → Int32} {h h' : rm_H} {s s' : rS} {P : Nat → Prop} {R R' : Nat → Nat → Nat → Nat → Nat → Nat → Prop} {Q Q' : Nat → Nat → Nat → Nat → Nat → Nat → Nat → Prop} {cl : Nat}
def rgR (R : Nat → Nat → Nat → Nat → Nat → Nat → Prop) : Prop := ∀ lo hi pl ph n p, R lo hi pl ph n p → 1 ≤ lo ∧ lo ≤ n ∧ n < hi ∧ pl ≤ p ∧ p < ph
theorem NRc_rg : ∀ c d, rgR (NRc L xs h s Q c d) := by
  intro c d
  cases d with
  | zero => intro lo hi pl ph n p e; exact e.elim
  | succ d => intro lo hi pl ph n p e; exact e.1
theorem NR_rg : ∀ z d, rgR (NR L xs h s z d) := by
  rintro ⟨c, z⟩ d
  cases z with
  | zero => intro lo hi pl ph n p e; exact e.elim
  | succ z => exact NRc_rg c d
theorem kids_ok : ∀ W c, c ∈ kids W → (c.1 = 6 ∨ c.1 = 8 ∨ c.1 = 9) ∧ (c.2.1 = 45 ∨ c.2.1 = 46) := by
  intro W c hc
  unfold kids at hc
  split at hc <;> simp only [List.mem_cons, List.not_mem_nil, or_false] at hc
  all_goals first
    | exact hc.elim
    | (rcases hc with e | e <;> subst e <;> simp)
    | (subst hc; simp)
theorem kd_fr {lo hi pl ph n p lo2 hi2 pl2 ph2 : Nat} {c : Nat × Nat × Bool} (hR : rgR R) (IH : ∀ lo' hi' pl' ph' m x, R lo' hi' pl' ph' m x → cA h h' pl' ph' x → sA s s' lo' hi' m → R' lo' hi' pl' ph' m x) (a : cA h h' pl ph p) (b : sA s s' lo hi n) (hn : lo ≤ n ∧ n < hi) (hp : pl ≤ p ∧ p < ph) (h1 : c.1 = 6 ∨ c.1 = 8 ∨ c.1 = 9 ∨ c.1 = 10) (h2 : c.2.1 = 45 ∨ c.2.1 = 46 ∨ c.2.1 = 47) (e : kd h s R lo2 hi2 pl2 ph2 n p c) (hw : lo ≤ lo2 ∧ hi2 ≤ hi ∧ pl ≤ pl2 ∧ ph2 ≤ ph) : kd h' s' R' lo2 hi2 pl2 ph2 n p c := by
  obtain ⟨m, x, lo', hi', pl', ph', e1, e2, e3, e4, e5, e6⟩ := e
  obtain ⟨q0, q1, q2, q3, q4⟩ := hR _ _ _ _ _ _ e4
  obtain ⟨u1, u2, u3, u4, u5, u6⟩ := id e5
  obtain ⟨v1, v2, v3, v4⟩ := hw
  refine ⟨m, x, lo', hi', pl', ph', cA_12 a hp (by omega) (fun z => by omega) e1, ?_, ?_, IH _ _ _ _ _ _ e4 (cA_sub a (by omega) (by omega) u6) (sA_sub b (by omega) (by omega) u5), e5, fun z => ⟨cA_12 a ⟨by omega, by omega⟩ (by decide) (fun _ => by omega) (e6 z).1, (e6 z).2⟩⟩
  · rw [(b n hn.1 hn.2).1 c.2.1 (by omega)]
    exact e2
  · rw [((b m (by omega) (by omega)).2.2.1 (by omega)).2]
    exact e3
theorem kd_rg {lo hi pl ph n p : Nat} {c : Nat × Nat × Bool} (hR : rgR R) (e : kd h s R lo hi pl ph n p c) : lo < hi ∧ pl < ph := by
  obtain ⟨m, x, lo', hi', pl', ph', e1, e2, e3, e4, e5, e6⟩ := e
  obtain ⟨q0, q1, q2, q3, q4⟩ := hR _ _ _ _ _ _ e4
  obtain ⟨u1, u2, u3, u4, u5, u6⟩ := id e5
  omega
theorem sq_fr {hi ph n p : Nat} (hR : rgR R) (IH : ∀ lo' hi' pl' ph' m x, R lo' hi' pl' ph' m x → cA h h' pl' ph' x → sA s s' lo' hi' m → R' lo' hi' pl' ph' m x) : ∀ (es : List Nat) (lo pl : Nat) (x : Int32), cA h h' pl ph p → sA s s' lo hi n → sq s R hi ph n p lo pl es x → sq s' R' hi ph n p lo pl es x := by
  intro es
  induction es with
  | nil => intro lo pl x _ _ e; exact e
  | cons y r ih =>
    intro lo pl x a b e
    obtain ⟨m, lo', hi', pl', ph', e2, e3, e4, e5, e6⟩ := e
    obtain ⟨q0, q1, q2, q3, q4⟩ := hR _ _ _ _ _ _ e4
    obtain ⟨u1, u2, u3, u4, u5, u6⟩ := id e5
    have bm := (b m (by omega) (by omega)).2.2.1 (by omega)
    refine ⟨m, lo', hi', pl', ph', e2, by rw [bm.2]; exact e3, IH _ _ _ _ _ _ e4 (cA_sub a u3 u4 u6) (sA_sub b u1 u2 u5), e5, ?_⟩
    rw [bm.1]
    exact ih _ _ _ (cA_r a (by omega) (Nat.le_refl _)) (fun i h1 h2 => b i (by omega) h2) e6
theorem wK_15 : ∀ W, W < 23 → Int32.ofNat (wK W) = 20 → W = 15 := by decide +kernel
theorem wk_k : ∀ W, W < 23 → W ≠ 8 → W ≠ 15 → Int32.ofNat (wK W) ≠ 8 ∧ Int32.ofNat (wK W) ≠ 20 := by decide +kernel
theorem NRb_fr {lo hi pl ph n p : Nat} (hf : fr P h h') (hY : yA s s') (hR : rgR R) (IH : ∀ lo' hi' pl' ph' m x, R lo' hi' pl' ph' m x → cA h h' pl' ph' x → sA s s' lo' hi' m → R' lo' hi' pl' ph' m x) (hQ : ∀ c, rgR (Q c)) (IQ : ∀ c lo' hi' pl' ph' m x, Q c lo' hi' pl' ph' m x → cA h h' pl' ph' x → sA s s' lo' hi' m → Q' c lo' hi' pl' ph' m x) (a : cA h h' pl ph p) (b : sA s s' lo hi n) (e : NRb L xs h s cl R Q lo hi pl ph n p) : NRb L xs h' s' cl R' Q' lo hi pl ph n p := by
  obtain ⟨rg, W, ⟨w1, w2, w3, w4, w5, w6, w7⟩, e1, e2, e3, e4, e5, e6, e7, e8, e9, e10, e11, e12, e13, e14⟩ := e
  obtain ⟨r0, r1, r2, r3, r4⟩ := id rg
  have bn := b n r1 r2
  have c12 : ∀ j v, j ≠ 12 → j ≠ 7 → fd h 12 p j = some v → fd h' 12 p j = some v := fun j v h1 h2 e => cA_12 a ⟨r3, r4⟩ h1 (fun z => absurd z h2) e
  refine ⟨rg, W, ⟨w1, w2, c12 _ _ (by decide) (by decide) w3, ?_, ?_, w6, fun z => by rw [bn.1 45 (by omega)]; exact w7 z⟩, fun z => c12 _ _ (by decide) (by decide) (e1 z), fun c hc => ?_, fun z => ?_, fun z => ?_, fun z => ?_, fun z => ?_, fun z => ?_, fun z => ?_, fun z => ?_, fun z => ?_, fun z => ?_, fun z => ?_, fun z => ?_, cA_ty a ⟨r3, r4⟩ e14⟩
  · rw [bn.1 44 (by omega)]; exact w4
  · rw [bn.1 50 (by omega)]; exact c12 _ _ (by decide) (by decide) w5
  · have := kids_ok W c hc
    have e2c := e2 c hc
    by_cases y : c.2.2 = true
    · rw [if_pos y] at e2c ⊢
      exact kd_fr hR IH a b ⟨r1, r2⟩ ⟨r3, r4⟩ (by omega) (by omega) e2c ⟨Nat.le_refl _, Nat.le_refl _, Nat.le_refl _, Nat.le_refl _⟩
    · rw [if_neg y] at e2c ⊢
      exact kd_fr (hQ _) (IQ _) a b ⟨r1, r2⟩ ⟨r3, r4⟩ (by omega) (by omega) e2c ⟨Nat.le_refl _, Nat.le_refl _, Nat.le_refl _, Nat.le_refl _⟩
  · obtain ⟨ka, kb, ka2, kb2, k1, k2, k3⟩ := e3 z
    have q1 := kd_rg (hQ _) k1
    have q2 := kd_rg (hQ _) k2
    have q3 : ka2 ≤ hi ∧ kb2 ≤ ph := by
      rcases k3 with ⟨_, _, g3, g4⟩ | g
      · exact ⟨g3, g4⟩
      · have := kd_rg (hQ _) g
        omega
    refine ⟨ka, kb, ka2, kb2, kd_fr (hQ _) (IQ _) a b ⟨r1, r2⟩ ⟨r3, r4⟩ (by decide) (by decide) k1 (by omega), kd_fr (hQ _) (IQ _) a b ⟨r1, r2⟩ ⟨r3, r4⟩ (by decide) (by decide) k2 (by omega), ?_⟩
    rcases k3 with ⟨g1, g2, g3⟩ | g
    · exact Or.inl ⟨c12 _ _ (by decide) (by decide) g1, by rw [bn.1 47 (by omega)]; exact g2, g3⟩
    · exact Or.inr (kd_fr (hQ _) (IQ _) a b ⟨r1, r2⟩ ⟨r3, r4⟩ (by decide) (by decide) g (by omega))
  · obtain ⟨es, g1, g2, g3, g4⟩ := e4 z
    refine ⟨es, pts_fr a ⟨r3, r4⟩ g1, ?_, by rw [bn.1 52 (by omega)]; exact g3, g4⟩
    rw [bn.1 45 (by omega)]
    exact sq_fr (hQ _) (IQ _) es _ _ _ (cA_r a (by omega) (Nat.le_refl _)) (fun i h1 h2 => b i (by omega) h2) g2
  · obtain ⟨es, g1, g2, g3, g4⟩ := e5 z
    refine ⟨es, pts_fr a ⟨r3, r4⟩ g1, ?_, g3, by rw [bn.1 55 (by omega)]; exact c12 _ _ (by decide) (by decide) g4⟩
    rw [bn.1 45 (by omega)]
    exact sq_fr (hQ _) (IQ _) es _ _ _ a b g2
  · obtain ⟨⟨q, g1, g2⟩, g3⟩ := e6 z
    exact ⟨⟨q, c12 _ _ (by decide) (by decide) g1, by rw [bn.2.1]; exact nS_fr hf g2⟩, by rw [bn.1 51 (by omega)]; exact c12 _ _ (by decide) (by decide) g3⟩
  · rw [bn.1 54 (by omega)]; exact c12 _ _ (by decide) (by decide) (e7 z)
  · obtain ⟨x, g1, g2⟩ := e8 z
    exact ⟨x, c12 _ _ (by decide) (by decide) g1, by rw [bn.1 54 (by omega)]; exact g2⟩
  · obtain ⟨d, g1, g2, g3, g4, g5, g6⟩ := e9 z
    exact ⟨d, c12 _ _ (by decide) (by decide) g1, g2, g3, nwD_fr hf a b ⟨g2, g3⟩ ⟨r1, r2⟩ g4, by rw [bn.1 51 (by omega)]; exact c12 _ _ (by decide) (by decide) g5, by rw [bn.1 46 (by omega)]; exact g6⟩
  · obtain ⟨d, g1, g2, g3, g4⟩ := e10 z
    exact ⟨d, c12 _ _ (by decide) (by decide) g1, g2, g3, vrD_fr hf a b hY ⟨g2, g3⟩ ⟨r1, r2⟩ (by rw [w4, z]; decide) g4⟩
  · rw [bn.1 51 (by omega), bn.1 50 (by omega)]; exact e11 z
  · obtain ⟨ka, kb, k1, k2⟩ := e12 z
    have q1 := kd_rg (hQ _) k1
    have q2 := kd_rg (hQ _) k2
    exact ⟨ka, kb, kd_fr (hQ _) (IQ _) a b ⟨r1, r2⟩ ⟨r3, r4⟩ (by decide) (by decide) k1 (by omega), kd_fr (hQ _) (IQ _) a b ⟨r1, r2⟩ ⟨r3, r4⟩ (by decide) (by decide) k2 (by omega)⟩
  · exact kd_fr (hQ _) (IQ _) a b ⟨r1, r2⟩ ⟨r3, r4⟩ (by decide) (by decide) (e13 z) (by omega)
/-- what is changed elsewhere doesn't touch it -/
theorem NRz_fr (hf : fr P h h') (hY : yA s s') : ∀ z c d lo hi pl ph n p, NRz L xs h s z c d lo hi pl ph n p → cA h h' pl ph p → sA s s' lo hi n → NRz L xs h' s' z c d lo hi pl ph n p := by
  intro z
  induction z with
  | zero => intro c d lo hi pl ph n p e; exact e.elim
  | succ z iz =>
    intro c d
    induction d generalizing c with
    | zero => intro lo hi pl ph n p e; exact e.elim
    | succ d ih =>
      intro lo hi pl ph n p e a b
      have e' : NRb L xs h s c (NRc L xs h s (fun c lo hi pl ph n p => NRz L xs h s z c (hi - lo) lo hi pl ph n p) 0 d) (fun c lo hi pl ph n p => NRz L xs h s z c (hi - lo) lo hi pl ph n p) lo hi pl ph n p := e
      have r := NRb_fr (R' := NRc L xs h' s' (fun c lo hi pl ph n p => NRz L xs h' s' z c (hi - lo) lo hi pl ph n p) 0 d) (Q' := (fun c lo hi pl ph n p => NRz L xs h' s' z c (hi - lo) lo hi pl ph n p)) hf hY (NRc_rg 0 d) (fun lo' hi' pl' ph' m x e4 a2 b2 => ih 0 lo' hi' pl' ph' m x e4 a2 b2) (fun c lo' hi' pl' ph' m x e4 => NR_rg (c, z) _ _ _ _ _ _ _ e4) (fun c lo' hi' pl' ph' m x e4 a2 b2 => iz c _ lo' hi' pl' ph' m x e4 a2 b2) a b e'
      exact r
theorem NR_fr (hf : fr P h h') (hY : yA s s') : ∀ z d lo hi pl ph n p, NR L xs h s z d lo hi pl ph n p → cA h h' pl ph p → sA s s' lo hi n → NR L xs h' s' z d lo hi pl ph n p := fun z d lo hi pl ph n p e a b => NRz_fr hf hY z.2 z.1 d lo hi pl ph n p e a b
theorem kd_mono {lo hi pl ph n p : Nat} {c : Nat × Nat × Bool} (IH : ∀ lo' hi' pl' ph' m x, R lo' hi' pl' ph' m x → R' lo' hi' pl' ph' m x) (e : kd h s R lo hi pl ph n p c) : kd h s R' lo hi pl ph n p c := by
  obtain ⟨m, x, lo', hi', pl', ph', e1, e2, e3, e4, e5⟩ := e
  exact ⟨m, x, lo', hi', pl', ph', e1, e2, e3, IH _ _ _ _ _ _ e4, e5⟩
theorem sq_mono {hi ph n p : Nat} (IH : ∀ lo' hi' pl' ph' m x, R lo' hi' pl' ph' m x → R' lo' hi' pl' ph' m x) : ∀ (es : List Nat) (lo pl : Nat) (x : Int32), sq s R hi ph n p lo pl es x → sq s R' hi ph n p lo pl es x := by
  intro es
  induction es with
  | nil => intro lo pl x e; exact e
  | cons y r ih =>
    intro lo pl x e
    obtain ⟨m, lo', hi', pl', ph', e2, e3, e4, e5, e6⟩ := e
    exact ⟨m, lo', hi', pl', ph', e2, e3, IH _ _ _ _ _ _ e4, e5, ih _ _ _ e6⟩
theorem NRb_mono {lo hi pl ph n p : Nat} (IH : ∀ lo' hi' pl' ph' m x, R lo' hi' pl' ph' m x → R' lo' hi' pl' ph' m x) (IQ : ∀ c lo' hi' pl' ph' m x, Q c lo' hi' pl' ph' m x → Q' c lo' hi' pl' ph' m x) (e : NRb L xs h s cl R Q lo hi pl ph n p) : NRb L xs h s cl R' Q' lo hi pl ph n p := by
  obtain ⟨rg, W, w0, e1, e2, e3, e4, e5, e6, e7, e8, e9, e10, e11, e12, e13⟩ := e
  refine ⟨rg, W, w0, e1, fun c hc => ?_, fun z => ?_, fun z => ?_, fun z => ?_, e6, e7, e8, e9, e10, e11, fun z => ?_, fun z => kd_mono (IQ _) (e13.1 z), e13.2⟩
  · have e2c := e2 c hc
    by_cases y : c.2.2 = true
    · rw [if_pos y] at e2c ⊢
      exact kd_mono IH e2c
    · rw [if_neg y] at e2c ⊢
      exact kd_mono (IQ _) e2c
  · obtain ⟨ka, kb, ka2, kb2, k1, k2, k3⟩ := e3 z
    refine ⟨ka, kb, ka2, kb2, kd_mono (IQ _) k1, kd_mono (IQ _) k2, ?_⟩
    rcases k3 with g | g
    · exact Or.inl g
    · exact Or.inr (kd_mono (IQ _) g)
  · obtain ⟨es, g1, g2, g3⟩ := e4 z
    exact ⟨es, g1, sq_mono (IQ _) es _ _ _ g2, g3⟩
  · obtain ⟨es, g1, g2, g3⟩ := e5 z
    exact ⟨es, g1, sq_mono (IQ _) es _ _ _ g2, g3⟩
  · obtain ⟨ka, kb, k1, k2⟩ := e12 z
    exact ⟨ka, kb, kd_mono (IQ _) k1, kd_mono (IQ _) k2⟩
theorem NR_suc : ∀ z d lo hi pl ph n p, NR L xs h s z d lo hi pl ph n p → NR L xs h s z (d + 1) lo hi pl ph n p := by
  rintro ⟨c, z⟩
  cases z with
  | zero => intro d lo hi pl ph n p e; exact e.elim
  | succ z =>
    intro d
    induction d generalizing c with
    | zero => intro lo hi pl ph n p e; exact e.elim
    | succ d ih =>
      intro lo hi pl ph n p e
      have e' : NRb L xs h s c (NRc L xs h s (fun c lo hi pl ph n p => NRz L xs h s z c (hi - lo) lo hi pl ph n p) 0 d) (fun c lo hi pl ph n p => NRz L xs h s z c (hi - lo) lo hi pl ph n p) lo hi pl ph n p := e
      have r := NRb_mono (R' := NRc L xs h s (fun c lo hi pl ph n p => NRz L xs h s z c (hi - lo) lo hi pl ph n p) 0 (d + 1)) (Q' := (fun c lo hi pl ph n p => NRz L xs h s z c (hi - lo) lo hi pl ph n p)) (fun lo' hi' pl' ph' m x e4 => ih 0 lo' hi' pl' ph' m x e4) (fun _ _ _ _ _ _ _ e4 => e4) e'
      exact r
theorem NR_le {z : Nat × Nat} {d d2 lo hi pl ph n p : Nat} (e : NR L xs h s z d lo hi pl ph n p) (hd : d ≤ d2) : NR L xs h s z d2 lo hi pl ph n p := by
  obtain ⟨j, rfl⟩ : ∃ j, d2 = d + j := ⟨d2 - d, by omega⟩
  clear hd
  induction j with
  | zero => exact e
  | succ j ih => exact NR_suc _ _ _ _ _ _ _ _ ih
theorem NR_zs : ∀ z c d lo hi pl ph n p, NRz L xs h s z c d lo hi pl ph n p → NRz L xs h s (z + 1) c d lo hi pl ph n p := by
  intro z
  induction z with
  | zero => intro c d lo hi pl ph n p e; exact e.elim
  | succ z iz =>
    intro c d
    induction d generalizing c with
    | zero => intro lo hi pl ph n p e; exact e.elim
    | succ d ih =>
      intro lo hi pl ph n p e
      have e' : NRb L xs h s c (NRc L xs h s (fun c lo hi pl ph n p => NRz L xs h s z c (hi - lo) lo hi pl ph n p) 0 d) (fun c lo hi pl ph n p => NRz L xs h s z c (hi - lo) lo hi pl ph n p) lo hi pl ph n p := e
      have r := NRb_mono (R' := NRc L xs h s (fun c lo hi pl ph n p => NRz L xs h s (z + 1) c (hi - lo) lo hi pl ph n p) 0 d) (Q' := (fun c lo hi pl ph n p => NRz L xs h s (z + 1) c (hi - lo) lo hi pl ph n p)) (fun lo' hi' pl' ph' m x e4 => ih 0 lo' hi' pl' ph' m x e4) (fun c lo' hi' pl' ph' m x e4 => iz c _ lo' hi' pl' ph' m x e4) e'
      exact r
theorem NR_lz {c z z2 d lo hi pl ph n p : Nat} (e : NR L xs h s (c, z) d lo hi pl ph n p) (hd : z ≤ z2) : NR L xs h s (c, z2) d lo hi pl ph n p := by
  obtain ⟨j, rfl⟩ : ∃ j, z2 = z + j := ⟨z2 - z, by omega⟩
  clear hd
  induction j with
  | zero => exact e
  | succ j ih => exact NR_zs _ _ _ _ _ _ _ _ _ ih
/-- a wider range -/
theorem sub_wide {lo hi pl ph n p lo' hi' pl' ph' lo2 hi2 pl2 ph2 : Nat} (e : sub lo hi pl ph n p lo' hi' pl' ph') (h1 : lo2 ≤ lo) (h2 : hi ≤ hi2) (h3 : pl2 ≤ pl) (h4 : ph ≤ ph2) : sub lo2 hi2 pl2 ph2 n p lo' hi' pl' ph' := by
  unfold sub at e ⊢
  omega
end NRG
