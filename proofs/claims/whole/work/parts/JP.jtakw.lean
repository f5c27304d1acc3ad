/-! A MESSAGE IS TAKEN: the world. -/
/-- the mailboxes without a's first message -/
def msT (ms : mSg) (a wt : Nat) : mSg := (fun c => if c = a then wt else ms.1 c, fun c => if c = a then (ms.2.1 a + 1) % 6 else ms.2.1 c, fun c k => if c = a then ms.2.2.1 a (k + 1) else ms.2.2.1 c k, ms.2.2.2.1, ms.2.2.2.2)
/-- a knows what the message knew -/
def omT (om1 : oMg) (a s0 : Nat) : oMg := (om1.1, om1.2.1, om1.2.2.1, fun d o => if d = a then om1.2.2.2.1 a o ∨ om1.2.2.2.1 (12 + s0) o else if d = 12 + s0 then False else om1.2.2.2.1 d o, om1.2.2.2.2)
section JTW
variable {sB : rS} {A B : Nat → Int32} {mi : Nat → Nat × Nat × Nat × Nat × Nat} {kc : kCi} {om om' : oMg} {ka ka' : kAp} {la : lAy} {ms : mSg} {N N' cn : Nat} {sg sg' sg2 : cS} {s s' s2 S1 : rS} {a b d e lo q0 J l t r i n p q k k2 f0 w P L sz lv : Nat} {xs : Nat → Int32} {zf : Value} {Z : Nat → Prop} {hB h h' : rm_H} {es : List Nat} {x : Nat → Nat → fDs} {D : Nat → Nat} {S S0 X : List stE} {v : Int64} {y : Int32}
variable {E Pq : Nat → Prop} {om1 : oMg} {wt M : Nat} {od : Nat → Int32} {g : Nat → Int64}
theorem wAl_tk (w : wAl sB kc om ka la ms N cn sg s D) (ac : a < ka.2.2.2) (ewt : ms.1 a = wt + 1) (ob : ∀ o, 1 ≤ o → o ≤ ka.2.2.1 → OBJ s o (ka.1 o) (la.2.2.1 o) (kc (ka.1 o)).1)
    (gi' : GI ka.2.2.1 N om1.1 om1.2.1 om1.2.2.1) (eK : om1.2.2.2 = om.2.2.2) (st : rSt a a E Pq (rlb om.2.2.1 (12 + (6 * a + ms.2.2.1 a 0)) a) om1.2.2.1) (hE : ∀ y, y = 0 ∨ (y < N ∧ om.2.2.1.2.2.2.2 y ≠ a ∧ om.2.2.1.2.2.2.2 y ≠ 12 + (6 * a + ms.2.2.1 a 0)) ∨ y = om.2.2.2.2 a → E y) (hP : ∀ l, Pq l → l % 6 = 2) (cW : ∀ l, l % 6 = 0 ∨ l % 6 = 1 ∨ (l % 6 = 5 ∧ l / 36 ≠ (6 * a + ms.2.2.1 a 0)) → om1.1 l = om.1 l ∧ om1.2.1 l = om.2.1 l)
    (od1 : ∀ j, j < wt → od (6 * a + j) = s.2.1 102 (6 * a + j + 1)) (od2 : ∀ j, (j < 6 * a ∨ 6 * a + wt ≤ j) → od j = s.2.1 102 j) (g1 : ∀ o', 1 ≤ o' → o' ≤ ka.2.2.1 → s.2.1 105 (401 * (6 * a + ms.2.2.1 a 0) + o') ≠ 0 → ∀ c bs nf, OBJ s o' c bs nf → ∀ f, f < nf → g (400 * a + bs + f) = s.2.2 107 (400 * (6 * a + ms.2.2.1 a 0) + bs + f)) (g2 : ∀ j, (j < 400 * a ∨ 400 * a + 400 ≤ j) → g j = s.2.2 96 j) (g3 : ∀ x, (∀ o', 1 ≤ o' → o' ≤ ka.2.2.1 → s.2.1 105 (401 * (6 * a + ms.2.2.1 a 0) + o') ≠ 0 → ∀ c bs nf, OBJ s o' c bs nf → x < bs ∨ bs + nf ≤ x) → g (400 * a + x) = s.2.2 96 (400 * a + x)) :
    wAl sB kc (omT om1 a (6 * a + ms.2.2.1 a 0)) ka la (msT ms a wt) N cn (sA' (sA' sg a 11 (Int32.ofNat ((ms.2.1 a + 1) % 6))) a 4 (Int32.ofNat wt)) (sT1 s a wt (6 * a + ms.2.2.1 a 0) od g) D := by
  have bd := w_bd w
  obtain ⟨⟨x1, x2⟩, gi, wn, wo, wd, wa⟩ := w
  have ac12 : ka.2.2.2 ≤ 12 := by obtain ⟨_, _, _, _, _, ⟨_, _, z⟩, _⟩ := wn; exact z
  have ob4 : ka.2.2.1 ≤ 400 := by
    obtain ⟨clm, mb, tn, ⟨_, _, n1⟩, _, _, _, ⟨_, _, n2⟩, ⟨_, n3⟩, _⟩ := wn
    omega
  obtain ⟨_, wacA, hmsA⟩ := wa a ac
  have m60 := hmsA.2.2.1 0 (by omega)
  obtain ⟨q1, q2, q3, q4, ⟨qM1, qM2, qM3⟩, q6, qK, qB⟩ := m60
  have aM : a ≠ 12 + (6 * a + ms.2.2.1 a 0) := by omega
  -- the states
  have rI : ∀ p i, (sT1 s a wt (6 * a + ms.2.2.1 a 0) od g).2.1 p i = if p = 104 ∧ i = (6 * a + ms.2.2.1 a 0) then 0 else if p = 102 then od i else if p = 94 ∧ i = a then Int32.ofNat wt else s.2.1 p i := by
    intro p i
    show (rs_wA (rsI (rs_wA s 94 a (Int32.ofNat wt)) 102 od) 104 (6 * a + ms.2.2.1 a 0) 0).2.1 p i = _
    rw [wA_get]
    by_cases c1 : p = 104 ∧ i = (6 * a + ms.2.2.1 a 0)
    · rw [if_pos c1, if_pos c1]
    · rw [if_neg c1, if_neg c1]
      show (if p = 102 then od else (rs_wA s 94 a (Int32.ofNat wt)).2.1 p) i = _
      by_cases c2 : p = 102
      · rw [if_pos c2, if_pos c2]
      · rw [if_neg c2, if_neg c2, wA_get]
  have rr : ∀ p i, p ≠ 104 → p ≠ 102 → p ≠ 94 → (sT1 s a wt (6 * a + ms.2.2.1 a 0) od g).2.1 p i = s.2.1 p i := fun p i h1 h2 h3 => by
    rw [rI, if_neg (fun z => h1 z.1), if_neg h2, if_neg (fun z => h3 z.1)]
  have rL : ∀ p, (sT1 s a wt (6 * a + ms.2.2.1 a 0) od g).2.2 p = if p = 96 then g else s.2.2 p := fun p => rfl
  have rl : ∀ p i, p ≠ 96 → (sT1 s a wt (6 * a + ms.2.2.1 a 0) od g).2.2 p i = s.2.2 p i := fun p i h => by rw [rL, if_neg h]
  have r1 : (sT1 s a wt (6 * a + ms.2.2.1 a 0) od g).1 = s.1 := rfl
  have gA : ∀ c j, ¬ (c = a ∧ (j = 11 ∨ j = 4)) → (sA' (sA' sg a 11 (Int32.ofNat ((ms.2.1 a + 1) % 6))) a 4 (Int32.ofNat wt)).2.2.1 c j = sg.2.2.1 c j := fun c j h => (if_neg (fun z => h ⟨z.1, Or.inr z.2⟩)).trans (if_neg (fun z => h ⟨z.1, Or.inl z.2⟩))
  have g4 : (sA' (sA' sg a 11 (Int32.ofNat ((ms.2.1 a + 1) % 6))) a 4 (Int32.ofNat wt)).2.2.1 a 4 = Int32.ofNat wt := if_pos ⟨rfl, rfl⟩
  have g11 : (sA' (sA' sg a 11 (Int32.ofNat ((ms.2.1 a + 1) % 6))) a 4 (Int32.ofNat wt)).2.2.1 a 11 = Int32.ofNat ((ms.2.1 a + 1) % 6) := (if_neg (fun z => absurd z.2 (by decide))).trans (if_pos ⟨rfl, rfl⟩)
  have eKn : om1.2.2.2.1 = om.2.2.2.1 := by rw [eK]
  have eRm : om1.2.2.2.2 = om.2.2.2.2 := by rw [eK]
  have kA : ∀ o, (omT om1 a (6 * a + ms.2.2.1 a 0)).2.2.2.1 a o ↔ (om.2.2.2.1 a o ∨ om.2.2.2.1 (12 + (6 * a + ms.2.2.1 a 0)) o) := fun o => by
    show (if a = a then om1.2.2.2.1 a o ∨ om1.2.2.2.1 (12 + (6 * a + ms.2.2.1 a 0)) o else _) ↔ _
    rw [if_pos rfl, eKn]
  have kO : ∀ d' o, d' ≠ 12 + (6 * a + ms.2.2.1 a 0) → d' ≠ a → ((omT om1 a (6 * a + ms.2.2.1 a 0)).2.2.2.1 d' o ↔ om.2.2.2.1 d' o) := fun d' o h1 h2 => by
    show (if d' = a then om1.2.2.2.1 a o ∨ om1.2.2.2.1 (12 + (6 * a + ms.2.2.1 a 0)) o else if d' = 12 + (6 * a + ms.2.2.1 a 0) then False else om1.2.2.2.1 d' o) ↔ _
    rw [if_neg h2, if_neg h1, eKn]
  -- the regions
  have E0 : E 0 := hE 0 (Or.inl rfl)
  have Em : E (om.2.2.2.2 a) := hE _ (Or.inr (Or.inr rfl))
  have Es : ∀ y, y < N → om.2.2.1.2.2.2.2 y ≠ a → om.2.2.1.2.2.2.2 y ≠ 12 + (6 * a + ms.2.2.1 a 0) → E y := fun y h1 h2 h3 => hE y (Or.inr (Or.inl ⟨h1, h2, h3⟩))
  have rw0 : ∀ y, (rlb om.2.2.1 (12 + (6 * a + ms.2.2.1 a 0)) a).2.2.2.2 y = if om.2.2.1.2.2.2.2 y = 12 + (6 * a + ms.2.2.1 a 0) then a else om.2.2.1.2.2.2.2 y := fun y => rfl
  have owE : ∀ y, E y → om.2.2.1.2.2.2.2 y ≠ 12 + (6 * a + ms.2.2.1 a 0) → om1.2.2.1.2.2.2.2 y = om.2.2.1.2.2.2.2 y := fun y hy h => by
    rw [(st.1 y hy).2.1, rw0, if_neg h]
  have ownA : ∀ o, (om.2.2.1.2.1 o = 0 ∨ om.2.2.1.2.2.2.2 (om.2.2.1.2.1 o) = a ∨ om.2.2.1.2.2.2.2 (om.2.2.1.2.1 o) = 12 + (6 * a + ms.2.2.1 a 0)) → (om1.2.2.1.2.1 o = 0 ∨ om1.2.2.1.2.2.2.2 (om1.2.2.1.2.1 o) = a) := by
    intro o h
    rcases h with h | h
    · left
      rw [st.2.2.1 o (by show E (om.2.2.1.2.1 o); rw [h]; exact E0)]
      exact h
    · have : (rlb om.2.2.1 (12 + (6 * a + ms.2.2.1 a 0)) a).2.2.2.2 ((rlb om.2.2.1 (12 + (6 * a + ms.2.2.1 a 0)) a).2.1 o) = a := by
        rw [rw0]
        show (if om.2.2.1.2.2.2.2 (om.2.2.1.2.1 o) = 12 + (6 * a + ms.2.2.1 a 0) then a else om.2.2.1.2.2.2.2 (om.2.2.1.2.1 o)) = a
        rcases h with h | h
        · rw [h, if_neg aM]
        · rw [if_pos h]
      rcases st.2.2.2 o this with z | z | z
      · exact Or.inl z
      · exact Or.inr z
      · exact Or.inr z
  have ownO : ∀ d' o, d' ≠ a → d' ≠ 12 + (6 * a + ms.2.2.1 a 0) → (om.2.2.1.2.1 o = 0 ∨ om.2.2.1.2.2.2.2 (om.2.2.1.2.1 o) = d') → (om1.2.2.1.2.1 o = 0 ∨ om1.2.2.1.2.2.2.2 (om1.2.2.1.2.1 o) = d') := by
    intro d' o h1 h2 h
    rcases h with h | h
    · left
      rw [st.2.2.1 o (by show E (om.2.2.1.2.1 o); rw [h]; exact E0)]
      exact h
    · right
      have e := Es _ (gi.2.1.2.1 o) (by rw [h]; exact h1) (by rw [h]; exact h2)
      have e2 : om1.2.2.1.2.1 o = om.2.2.1.2.1 o := st.2.2.1 o e
      rw [e2, owE _ e (by rw [h]; exact h2), h]
  have hrE : ∀ l, l % 6 ≠ 2 → E (om.2.2.1.1 l) → om1.2.2.1.1 l = om.2.2.1.1 l := fun l h1 h2 => st.2.1 l (fun z => h1 (hP l z)) h2
  have cWO : ∀ o f, om1.1 (pO o f) = om.1 (pO o f) ∧ om1.2.1 (pO o f) = om.2.1 (pO o f) := fun o f => cW _ (Or.inl (by unfold pO; omega))
  have cWF : ∀ o f, om1.1 (pF o f) = om.1 (pF o f) ∧ om1.2.1 (pF o f) = om.2.1 (pF o f) := fun o f => cW _ (Or.inr (Or.inl (by unfold pF; omega)))
  have cpO : ∀ d' y, y < 400 → d' ≠ a → cPy (sT1 s a wt (6 * a + ms.2.2.1 a 0) od g) d' y = cPy s d' y := by
    intro d' y hy hd
    unfold cPy
    by_cases c : d' < 12
    · rw [if_pos c, if_pos c, rL, if_pos rfl]
      exact g2 _ (by omega)
    · rw [if_neg c, if_neg c, rl 107 _ (by decide)]
  have knO : ∀ d', d' ≠ 12 + (6 * a + ms.2.2.1 a 0) → d' ≠ a → wKn kc om ka la s d' → wKn kc (omT om1 a (6 * a + ms.2.2.1 a 0)) ka la (sT1 s a wt (6 * a + ms.2.2.1 a 0) od g) d' := by
    intro d' h1 h2 h o ho
    obtain ⟨z1, z2, z3⟩ := h o ((kO d' o h1 h2).mp ho)
    refine ⟨z1, ownO d' o h2 h1 z2, fun f hf => ?_⟩
    obtain ⟨y1, y2⟩ := z3 f hf
    show cPy (sT1 s a wt (6 * a + ms.2.2.1 a 0) od g) d' (la.2.2.1 o + f) = om1.1 (pO o f) ∧ (oV (om1.1 (pO o f)) ≠ 0 → (omT om1 a (6 * a + ms.2.2.1 a 0)).2.2.2.1 d' (oV (om1.1 (pO o f))))
    rw [(cWO o f).1, cpO _ _ (bd o f z1.1 z1.2 hf) h2]
    exact ⟨y1, fun z => (kO d' _ h1 h2).mpr (y2 z)⟩
  have knA : wKn kc (omT om1 a (6 * a + ms.2.2.1 a 0)) ka la (sT1 s a wt (6 * a + ms.2.2.1 a 0) od g) a := by
    intro o ho
    by_cases br : om.2.2.2.1 (12 + (6 * a + ms.2.2.1 a 0)) o
    · obtain ⟨z1, z2, z3⟩ := qK o br
      refine ⟨z1, ownA o (by
        rcases z2 with y | y
        · exact Or.inl y
        · exact Or.inr (Or.inr y)), fun f hf => ?_⟩
      obtain ⟨y1, y2⟩ := z3 f hf
      show cPy (sT1 s a wt (6 * a + ms.2.2.1 a 0) od g) a (la.2.2.1 o + f) = om1.1 (pO o f) ∧ (oV (om1.1 (pO o f)) ≠ 0 → (omT om1 a (6 * a + ms.2.2.1 a 0)).2.2.2.1 a (oV (om1.1 (pO o f))))
      rw [(cWO o f).1]
      refine ⟨?_, fun z => (kA _).mpr (Or.inr (y2 z))⟩
      have b5 := (qB o z1.1 (by omega)).mpr br
      have := g1 o z1.1 z1.2 b5 _ _ _ (ob o z1.1 z1.2) f hf
      unfold cPy at y1
      rw [if_neg (by omega), show 12 + (6 * a + ms.2.2.1 a 0) - 12 = (6 * a + ms.2.2.1 a 0) from by omega, ← Nat.add_assoc] at y1
      unfold cPy
      rw [if_pos (by omega), rL, if_pos rfl, ← Nat.add_assoc, this]
      exact y1
    · have ko : om.2.2.2.1 a o := by
        rcases (kA o).mp ho with y | y
        · exact y
        · exact absurd y br
      obtain ⟨z1, z2, z3⟩ := (wa a ac).1 o ko
      refine ⟨z1, ownA o (by
        rcases z2 with y | y
        · exact Or.inl y
        · exact Or.inr (Or.inl y)), fun f hf => ?_⟩
      obtain ⟨y1, y2⟩ := z3 f hf
      show cPy (sT1 s a wt (6 * a + ms.2.2.1 a 0) od g) a (la.2.2.1 o + f) = om1.1 (pO o f) ∧ (oV (om1.1 (pO o f)) ≠ 0 → (omT om1 a (6 * a + ms.2.2.1 a 0)).2.2.2.1 a (oV (om1.1 (pO o f))))
      rw [(cWO o f).1]
      refine ⟨?_, fun z => (kA _).mpr (Or.inl (y2 z))⟩
      unfold cPy at y1 ⊢
      rw [if_pos (by omega)] at y1 ⊢
      rw [rL, if_pos rfl, g3 _ (fun o' h1 h2 h3 c bs nf h4 => ?_)]
      · exact y1
      · obtain ⟨e1, e2, e3⟩ := OBJ_u h4 (ob o' h1 h2)
        rw [e2, e3]
        have ne : o' ≠ o := fun z => by
          rw [z] at h3
          exact br ((qB o z1.1 (by omega)).mp h3)
        rcases Nat.lt_trichotomy o' o with z | z | z
        · have := (wd.1 o' o h1 z z1.2).2; omega
        · exact absurd z ne
        · have := (wd.1 o o' z1.1 z h2).2; omega
  refine ⟨⟨fun p hp => ?_, fun p hp => ?_⟩, gi', ?_, fun o h1 h2 => ?_, wd, fun c hc => ?_⟩
  · funext i; rw [rr p i (by omega) (by omega) (by omega), x1 p hp]
  · funext i; rw [rl p i (by omega), x2 p hp]
  · obtain ⟨clm, mb, tn, n1, n2, n3, n4, n5, n6, n7, ⟨n8, n8b, n8c, n8d⟩, n9, n10, n11⟩ := wn
    refine ⟨clm, mb, tn, n1, n2, n3, n4, n5, n6, n7, ⟨n8, n8b, n8c, fun i h1 h2 => by rw [rr 108 i (by decide) (by decide) (by decide), rr 109 i (by decide) (by decide) (by decide)]; exact n8d i h1 h2⟩, n9, n10, fun c hc => ?_, fun b h1 h2 => by rw [gA b 0 (by omega)]; exact n11.2 b h1 h2⟩
    show (if c = a then wt else ms.1 c) ≤ mb
    by_cases e : c = a
    · rw [if_pos e]
      have := n11.1 a ac
      omega
    · rw [if_neg e]; exact n11.1 c hc
  · obtain ⟨o1, o2, o3, o4, o5, o6, o7, o8⟩ := wo o h1 h2
    unfold wO1
    rw [rr 87 o (by decide) (by decide) (by decide), rr 88 o (by decide) (by decide) (by decide)]
    refine ⟨o1, o2, o3, o4, o5, o6, o7, fun f hf => ?_⟩
    show om1.2.1 (pO o f) = _ ∧ vTy ka 0 _ (om1.1 (pO o f)) ∧ _ = cvl (om1.1 (pO o f))
    rw [(cWO o f).1, (cWO o f).2]
    exact o8 f hf
  · obtain ⟨k1, k2, k3⟩ := wa c hc
    have c12 : c < 12 := by omega
    have kc' : ∀ o, om.2.2.2.1 c o → (omT om1 a (6 * a + ms.2.2.1 a 0)).2.2.2.1 c o := by
      intro o h1
      by_cases e : c = a
      · rw [e] at h1 ⊢
        exact (kA o).mpr (Or.inl h1)
      · exact (kO c o (by omega) e).mpr h1
    -- the messages that stay: k of them were k + 1 for a
    have oldM : ∀ k k0, (c = a ∧ k0 = k + 1 ∧ k < wt) ∨ (c ≠ a ∧ k0 = k ∧ k < ms.1 c) → wM1 sB kc (omT om1 a (6 * a + ms.2.2.1 a 0)) ka la (msT ms a wt) N (sA' (sA' sg a 11 (Int32.ofNat ((ms.2.1 a + 1) % 6))) a 4 (Int32.ofNat wt)) (sT1 s a wt (6 * a + ms.2.2.1 a 0) od g) c k := by
      intro k k0 hk
      have hk0 : k0 < ms.1 c := by
        rcases hk with ⟨z1, z2, z3⟩ | ⟨z1, z2, z3⟩
        · rw [z1]; omega
        · omega
      obtain ⟨p1, p2, p3, ⟨p4, p5, p6', p7, p8⟩, ⟨p9, p10, p11⟩, ⟨ts, t1, t2, t3, t4⟩, p12, p13⟩ := k3.2.2.1 k0 hk0
      have f6 := k3.2.1.1
      have c6 := k3.1.1
      have eo : (msT ms a wt).2.2.1 c k = ms.2.2.1 c k0 := by
        rcases hk with ⟨z1, z2, z3⟩ | ⟨z1, z2, z3⟩
        · show (if c = a then ms.2.2.1 a (k + 1) else ms.2.2.1 c k) = _
          rw [if_pos z1, z2, z1]
        · show (if c = a then ms.2.2.1 a (k + 1) else ms.2.2.1 c k) = _
          rw [if_neg z1, z2]
      have sne : 6 * c + ms.2.2.1 c k0 ≠ (6 * a + ms.2.2.1 a 0) := by
        rcases hk with ⟨z1, z2, z3⟩ | ⟨z1, z2, z3⟩
        · intro z
          rw [z1] at z
          have := hmsA.2.2.2.1 k0 0 (by omega) (by omega) (by omega)
          omega
        · omega
      have em : (msT ms a wt).2.2.2.1 = ms.2.2.2.1 := rfl
      have er : (msT ms a wt).2.2.2.2 = ms.2.2.2.2 := rfl
      have erow : ((msT ms a wt).2.1 c + k) % 6 = (ms.2.1 c + k0) % 6 := by
        rcases hk with ⟨z1, z2, z3⟩ | ⟨z1, z2, z3⟩
        · show ((if c = a then (ms.2.1 a + 1) % 6 else ms.2.1 c) + k) % 6 = _
          rw [if_pos z1, z1, z2]
          omega
        · show ((if c = a then (ms.2.1 a + 1) % 6 else ms.2.1 c) + k) % 6 = _
          rw [if_neg z1, z2]
      have nd : 12 + (6 * c + ms.2.2.1 c k0) ≠ 12 + (6 * a + ms.2.2.1 a 0) := by omega
      have na : 12 + (6 * c + ms.2.2.1 c k0) ≠ a := by omega
      have Eme : E (ms.2.2.2.2 (6 * c + ms.2.2.1 c k0)) := Es _ p10 (by rw [p11]; omega) (by rw [p11]; omega)
      unfold wM1
      rw [eo, em, er, erow]
      refine ⟨p1, ?_, ?_, ⟨p4, ?_, p6', p7, p8⟩, ⟨p9, p10, ?_⟩, ⟨ts, t1, t2, t3, fun i t ht => ?_⟩, knO _ nd na p12, fun o h1 h2 => ?_⟩
      · rw [rI, if_neg (fun z => absurd z.1 (by decide)), if_pos rfl]
        rcases hk with ⟨z1, z2, z3⟩ | ⟨z1, z2, z3⟩
        · rw [z1, od1 k z3]
          rw [z1, z2, ← Nat.add_assoc] at p2
          rw [z2]
          exact p2
        · have wa6 := hmsA.1.1
          rw [od2 _ (by omega)]
          rw [z2] at p2
          rw [z2]
          exact p2
      · rw [rI, if_neg (fun z => sne z.2), if_neg (by decide), if_neg (fun z => absurd z.1 (by decide))]
        exact p3
      · rw [rr 103 _ (by decide) (by decide) (by decide)]
        exact p5
      · show om1.2.2.1.2.2.2.2 _ = _
        rw [owE _ Eme (by rw [p11]; omega)]
        exact p11
      · obtain ⟨u1, u2, u3, u4, u5⟩ := t4 i t ht
        have hi : i < 6 := by
          obtain ⟨z, _⟩ := List.getElem?_eq_some_iff.mp ht
          omega
        have l36 : pM (6 * c + ms.2.2.1 c k0) i / 36 = 6 * c + ms.2.2.1 c k0 := by unfold pM; omega
        have l5 : pM (6 * c + ms.2.2.1 c k0) i % 6 = 5 := by unfold pM; omega
        have e := cW (pM (6 * c + ms.2.2.1 c k0) i) (Or.inr (Or.inr ⟨l5, by rw [l36]; exact sne⟩))
        refine ⟨e.2.trans u1, ?_, ?_, ?_, ?_⟩
        · show om1.2.2.1.1 _ = _
          rw [hrE _ (by omega) (by rw [u2]; exact Eme)]
          exact u2
        · show vAl (omT om1 a (6 * a + ms.2.2.1 a 0)) ka _ t (om1.1 _)
          rw [e.1]
          exact ⟨u3.1, fun z => (kO _ _ nd na).mpr (u3.2 z)⟩
        · show _ = cvl (om1.1 _)
          rw [e.1]
          exact u4
        · show _ = om1.1 _
          rw [e.1, rl 106 _ (by decide)]
          exact u5
      · rw [rr 105 _ (by decide) (by decide) (by decide)]
        exact (p13 o h1 h2).trans (kO _ o nd na).symm
    refine ⟨?_, ?_, ?_⟩
    · by_cases e : c = a
      · rw [e]; exact knA
      · exact knO c (by omega) e k1
    · obtain ⟨⟨a1, a2, a3⟩, ⟨a4, a5⟩, ⟨a6, a7⟩, ⟨a8, a9⟩, a10, ⟨a11, a12, a13⟩, a14⟩ := k2
      have eb : E (om.2.2.2.2 c) := by
        by_cases e : c = a
        · rw [e]; exact Em
        · exact Es _ a12 (by rw [a13]; exact e) (by rw [a13]; omega)
      have rm : (omT om1 a (6 * a + ms.2.2.1 a 0)).2.2.2.2 = om.2.2.2.2 := eRm
      have cn' : ∀ j, j ≠ 11 → j ≠ 4 → (sA' (sA' sg a 11 (Int32.ofNat ((ms.2.1 a + 1) % 6))) a 4 (Int32.ofNat wt)).2.2.1 c j = sg.2.2.1 c j := fun j h1 h2 => gA c j (by omega)
      have rc : ∀ p, p ≤ 92 → (sT1 s a wt (6 * a + ms.2.2.1 a 0) od g).2.1 p c = s.2.1 p c := fun p hp => rr p c (by omega) (by omega) (by omega)
      refine ⟨⟨?_, a2, a3⟩, ⟨?_, ?_⟩, ⟨?_, ?_⟩, ⟨?_, ?_⟩, a10, ⟨by rw [rm]; exact a11, by rw [rm]; exact a12, ?_⟩, fun f hf => ?_⟩
      · rw [cn' 0 (by decide) (by decide)]; exact a1
      · rw [cn' 2 (by decide) (by decide)]; exact a4
      · rw [rc 89 (by decide)]; exact a5
      · rw [cn' 3 (by decide) (by decide)]; exact a6
      · rw [rc 92 (by decide)]; exact a7
      · rw [cn' 5 (by decide) (by decide), rc 90 (by decide)]; exact a8
      · rw [cn' 6 (by decide) (by decide), rc 91 (by decide)]; exact a9
      · rw [rm]
        show om1.2.2.1.2.2.2.2 _ = _
        rw [owE _ eb (by rw [a13]; omega)]; exact a13
      · obtain ⟨f1, f2, f3, f4, f5⟩ := a14 f hf
        have e := cWF c f
        refine ⟨e.2.trans f1, ?_, ?_, ?_, ?_⟩
        · rw [rm]
          show om1.2.2.1.1 (pF c f) = _
          rw [hrE _ (by unfold pF; omega) (by rw [f2]; exact eb)]; exact f2
        · show vAl (omT om1 a (6 * a + ms.2.2.1 a 0)) ka c _ (om1.1 (pF c f))
          rw [e.1]
          exact ⟨f3.1, fun z => kc' _ (f3.2 z)⟩
        · show _ = cvl (om1.1 (pF c f))
          rw [e.1]; exact f4
        · show _ = om1.1 (pF c f)
          rw [e.1, rl 95 _ (by decide)]; exact f5
    · obtain ⟨⟨m1, m2, m3⟩, ⟨m4, m5⟩, m6, m7, m8⟩ := k3
      by_cases e : c = a
      · have e1 : (msT ms a wt).1 c = wt := if_pos e
        have e2 : (msT ms a wt).2.1 c = (ms.2.1 a + 1) % 6 := if_pos e
        have eo : ∀ k, (msT ms a wt).2.2.1 c k = ms.2.2.1 a (k + 1) := fun k => if_pos e
        unfold wMs
        rw [e1, e2]
        refine ⟨⟨?_, ?_, ?_⟩, ⟨Nat.mod_lt _ (by decide), ?_⟩, fun k hk => oldM k (k + 1) (Or.inl ⟨e, rfl, hk⟩), fun k k' hk hk' he => ?_, fun j hj hz => ?_⟩
        · rw [e] at m1; omega
        · rw [e]; exact g4
        · rw [e, rI, if_neg (fun z => absurd z.1 (by decide)), if_neg (by decide), if_pos ⟨rfl, rfl⟩]
        · rw [e]; exact g11
        · rw [eo, eo] at he
          have := hmsA.2.2.2.1 (k + 1) (k' + 1) (by omega) (by omega) he
          omega
        · rw [rI]
          by_cases cj : j = ms.2.2.1 a 0
          · rw [if_pos ⟨rfl, by rw [e, cj]⟩]
          · rw [if_neg (fun z => cj (by have := z.2; rw [e] at this; omega)), if_neg (by decide), if_neg (fun z => absurd z.1 (by decide))]
            refine m8 j hj (fun k hk => ?_)
            rw [e] at hk ⊢
            by_cases k0 : k = 0
            · rw [k0]; exact fun z => cj z.symm
            · have := hz (k - 1) (by omega)
              rw [eo, show k - 1 + 1 = k from by omega] at this
              exact this
      · have e1 : (msT ms a wt).1 c = ms.1 c := if_neg e
        have e2 : (msT ms a wt).2.1 c = ms.2.1 c := if_neg e
        have eo : ∀ k, (msT ms a wt).2.2.1 c k = ms.2.2.1 c k := fun k => if_neg e
        unfold wMs
        rw [e1, e2]
        refine ⟨⟨m1, ?_, ?_⟩, ⟨m4, ?_⟩, fun k hk => oldM k k (Or.inr ⟨e, rfl, hk⟩), fun k k' hk hk' he => ?_, fun j hj hz => ?_⟩
        · rw [gA c 4 (fun z => e z.1)]; exact m2
        · rw [rI, if_neg (fun z => absurd z.1 (by decide)), if_neg (by decide), if_neg (fun z => e z.2)]; exact m3
        · rw [gA c 11 (fun z => e z.1)]; exact m5
        · rw [eo, eo] at he
          exact m7 k k' hk hk' he
        · rw [rI, if_neg (fun z => by have := z.2; omega), if_neg (by decide), if_neg (fun z => absurd z.1 (by decide))]
          refine m8 j hj (fun k hk => ?_)
          have := hz k hk
          rw [eo] at this
          exact this
end JTW
