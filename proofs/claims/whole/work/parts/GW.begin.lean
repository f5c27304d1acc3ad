/-! A NODE WHOSE CONTEXT STANDS BEGINS AT A POINT. -/
section FEX
variable (s : rS) (A B : Nat → Int32) (m F lo hi np : Nat)
def GO (lv : Nat) (G : List scN) : Prop := (∀ x ∈ G, x.2.1 < 16 ∧ (x.2.1 < np ∨ ∃ n' : Nat, lo ≤ n' ∧ n' < hi ∧ s.2.1 44 n' = 20 ∧ s.2.2 56 n' = x.1 ∧ s.2.1 53 n' = Int32.ofNat x.2.1)) ∧ ∀ x ∈ G, x.2.2.2 ≤ lv
/-- slots of variables -/
def DSL : Prop := (∀ n n' : Nat, lo ≤ n' → n' < n → n < hi → s.2.1 44 n = 20 → s.2.1 44 n' = 20 → s.2.1 53 n' ≠ s.2.1 53 n) ∧ (∀ n sl : Nat, lo ≤ n → n < hi → s.2.1 44 n = 20 → sl < 16 → s.2.1 53 n = Int32.ofNat sl → np ≤ sl)
def PTf (f : Nat) : Nat → Nat → Nat → List scN → Int32 → List stE → Prop := PTb s A B m F lo hi (CT s A B m F lo hi f).1 (CT s A B m F lo hi f).2.1
/-- behind the arguments -/
def FN (f K p c lv : Nat) (G : List scN) (g1 : Int32) (Sx : List stE) : Prop := (K = 8 ∧ PTf s A B m F lo hi f c p lv G g1 Sx) ∨ ((K = 11 ∨ K = 12) ∧ ∃ (l tl d : Nat) (g' : Int32), s.2.1 46 p = Int32.ofNat l ∧ 1 ≤ l ∧ l < 4400 ∧ (TU s (s.2.1 53) A B m F).1 lv G g1 l tl g' c d ∧ PTf s A B m F lo hi f d p lv G g' ((tl, isPl (s.2.1 44 l), lv) :: Sx))
/-- behind a step -/
def AFT (u e c lv : Nat) (G' : List scN) (g1 : Int32) (tg : Nat) (St : List stE) : Prop := (s.2.1 44 e ≠ 24 ∧ s.2.1 44 e ≠ 25 ∧ SC s A B m F lo hi u e c lv G' g1 St) ∨ (s.2.1 44 e = 24 ∧ lv = 0 ∧ St = []) ∨ (s.2.1 44 e = 25 ∧ ∃ (c' R lv0 : Nat) (Go gx : List scN), s.2.1 49 e = Int32.ofNat c' ∧ 1 ≤ c' ∧ c' < 4400 ∧ s.2.1 49 c' = Int32.ofNat R ∧ 1 ≤ R ∧ R < 4400 ∧ (lv = lv0 + 1 ∧ (∀ x ∈ Go, x.2.2.2 ≤ lv0) ∧ s.2.1 44 R = 9) ∧ G' = Go ++ gx ∧ EC s A B m F lo hi R c lv0 Go g1 (rqT tg) St)
def FEr (f : Nat) : Prop := ∀ (lv : Nat) (G : List scN) (g : Int32) (n t : Nat) (g' : Int32) (a b : Nat) (St : List stE), 1 ≤ n → n < 4400 → GO s lo hi np lv G → PKA s lo hi n → (TU s (s.2.1 53) A B m f).1 lv G g n t g' a b → EC s A B m F lo hi n b lv G g' t St → ∃ q lv', fI s (f + 2) n q ∧ lv ≤ lv' ∧ PT s A B m F lo hi a q lv' G g St
end FEX
section FEL
variable {s : rS} {A B : Nat → Int32} {m F lo hi np : Nat}
theorem GO_up {lv lv2 : Nat} {G : List scN} (h : GO s lo hi np lv G) (hl : lv ≤ lv2) : GO s lo hi np lv2 G := ⟨h.1, fun x hx => Nat.le_trans (h.2 x hx) hl⟩
theorem fI_mono {N N' n q : Nat} (e : fI s N n q) (h : N ≤ N') : fI s N' n q := fun s' w k N2 r h2 => e s' w k N2 r (Nat.le_trans h h2)
theorem n30_of {f lv : Nat} {G : List scN} {g g' : Int32} {n t a b : Nat} (h : (TU s (s.2.1 53) A B m f).1 lv G g n t g' a b) : s.2.1 44 n ≠ 30 := by
  obtain ⟨K, e, _, h2⟩ := TU_13 h
  have : ∀ K, K ≤ 13 → Int32.ofNat K ≠ 30 := by decide
  rw [e]
  exact this K h2
theorem vl_1 (pl : Bool) : vlF pl 1 = (0, 1) := by cases pl <;> rfl
theorem TUF {f lv : Nat} {G : List scN} {g g' : Int32} {n t a b : Nat} (hf : f ≤ F) (h : (TU s (s.2.1 53) A B m f).1 lv G g n t g' a b) : (TU s (s.2.1 53) A B m F).1 lv G g n t g' a b := TU_e h hf
theorem EC_ns {f n b lv t : Nat} {G : List scN} {g : Int32} {St : List stE} (h : (CT s A B m F lo hi f).1 n b lv G g t St) (hn : n < 4400) (e10 : s.2.1 44 n = 10) : ¬ isSet s n := by
  cases f with
  | zero => exact absurd h id
  | succ f =>
    intro ⟨P, p1, p2, p3, p4, p5⟩
    obtain ⟨p, h1, h2, h3, _, _, K, h4, h5, h6⟩ := h
    have : P = p := ofn_inj p3 h3 (p1.symm.trans h1)
    subst this
    have k7 : ∀ K, K ≤ 31 → (Int32.ofNat K = 7 ∨ Int32.ofNat K = 26) → K = 7 ∨ K = 26 := by decide
    have hK := k7 K h5 (h4 ▸ p4)
    rcases h6 with ⟨h6, _⟩ | ⟨h6, _⟩ | ⟨h6, _⟩ | ⟨e, te, d, g', t', h6, _⟩ | ⟨t', u, c, ts, g1, _, _, _, _, h6⟩
    · omega
    · rcases h6 with h6 | h6 | h6 | h6 | ⟨_, _, q, q1, q2, q3, q4⟩
      · omega
      · omega
      · omega
      · omega
      · have : q = n := ofn_inj q3 hn (q1.symm.trans p5)
        rw [this] at q4
        exact q4 e10
    · omega
    · rcases h6 with h6 | h6 | ⟨_, _, q, q1, q2, q3, q4, q5, q6, q7, q8⟩
      · omega
      · omega
      · exact q8 (ofn_inj q3 hn (q1.symm.trans p5))
    · omega
theorem ARGC {f f0 p K lv u c a : Nat} {ts : List Nat} {St : List stE} {G : List scN} {g g1 x : Int32} (hp : 1 ≤ p ∧ p < 4400) (eK : s.2.1 44 p = Int32.ofNat K) (kk : K = 8 ∨ K = 11 ∨ K = 12) (pkp : PKA s lo hi p) (hf : f0 ≤ F) (ch : CHA s lo hi p K x) (h46 : K = 8 → s.2.1 46 p = 0) (h11 : K = 11 ∨ K = 12 → ∀ y, y < 4400 → s.2.1 46 p = Int32.ofNat y → y < p) (ag : AG s (TU s (s.2.1 53) A B m f0).1 lv G (u :: ts) g x g1 a c) (fn : FN s A B m F lo hi f K p c lv G g1 (vE lv (u :: ts) ++ St)) :
    ∃ (e t0 : Nat) (g2 : Int32) (c' : Nat), x = Int32.ofNat e ∧ 1 ≤ e ∧ e < 4400 ∧ PKA s lo hi e ∧ (TU s (s.2.1 53) A B m f0).1 lv G g e t0 g2 a c' ∧ (CT s A B m F lo hi (f + 1)).1 e c' lv G g2 t0 St := by
  obtain ⟨e, g2, c', e1, e2, e3, ⟨t0, q, vl⟩, rest⟩ := ag
  obtain ⟨p49, pk, lt, ch'⟩ := cha_hd ch e3 e1 e2
  have n46 : s.2.1 46 p ≠ Int32.ofNat e := by
    intro z
    rcases kk with k | k | k
    · exact ofn_0 e2 e1 (z.symm.trans (h46 k))
    · have := h11 (Or.inl k) e e2 z
      have := lt (by omega)
      omega
    · have := h11 (Or.inr k) e e2 z
      have := lt (by omega)
      omega
  refine ⟨e, t0, g2, c', e3, e1, e2, pk, q, p, p49, hp.1, hp.2, pkp, n30_of q, K, eK, by omega, ?_⟩
  cases ts with
  | nil =>
    obtain ⟨r1, r2, r3⟩ := rest
    subst r2
    subst r3
    have ev : vE lv [u] ++ St = (u, false, lv) :: St := rfl
    rw [ev] at fn
    rcases fn with ⟨k, fn⟩ | ⟨k, l, tl, d, g', l1, l2, l3, l4, l5⟩
    · exact Or.inr (Or.inl ⟨Or.inr (Or.inr (Or.inr (Or.inl ⟨k, r1⟩))), u, vl, fn⟩)
    · exact Or.inr (Or.inr (Or.inr (Or.inl ⟨l, tl, d, g', u, Or.inr (Or.inl ⟨k, n46, r1, l1⟩), l2, l3, l4, vl, l5⟩)))
  | cons v ts =>
    rw [vE_cons] at fn
    refine Or.inr (Or.inr (Or.inr (Or.inr ⟨u, v, c, ts, g1, vl, n46, ch', AG_m (fun _ _ _ _ _ _ _ _ z => TUF hf z) _ _ _ _ _ _ rest, ?_⟩)))
    rcases fn with ⟨k, fn⟩ | ⟨k, l, tl, d, g', l1, l2, l3, l4, l5⟩
    · exact Or.inl ⟨k, fn⟩
    · exact Or.inr ⟨k, l, tl, d, g', l1, l2, l3, l4, l5⟩
theorem gl_w {G : List scN} {g g2 : Int32} (h : ∀ x ∈ G, g2 &&& (g ^^^ (-1)) &&& bt x.2.1 = 0) : gl G g2 g := by
  intro x hx e
  have h := h x hx
  rw [bi_z] at h e ⊢
  intro i hi
  have h := h i hi
  have e := e i hi
  rw [bi_and, bi_and, bi_xor, bi_m i hi] at h
  rw [bi_and] at e ⊢
  cases h1 : bi g2 i <;> cases h2 : bi g i <;> cases h3 : bi (bt x.2.1) i <;> rw [h1, h2, h3] at h <;> rw [h2, h3] at e <;> first | rfl | exact h | exact e
theorem gl_o1 {G : List scN} {g g2 : Int32} : gl G g (g ||| g2) := by
  intro x _ e
  rw [bi_z] at e ⊢
  intro i hi
  have e := e i hi
  rw [bi_and, bi_or] at e
  rw [bi_and]
  cases h1 : bi g i <;> cases h2 : bi g2 i <;> cases h3 : bi (bt x.2.1) i <;> rw [h1, h2, h3] at e <;> first | rfl | exact e
theorem gl_o2 {G : List scN} {g g2 : Int32} : gl G g2 (g ||| g2) := by
  intro x _ e
  rw [bi_z] at e ⊢
  intro i hi
  have e := e i hi
  rw [bi_and, bi_or] at e
  rw [bi_and]
  cases h1 : bi g i <;> cases h2 : bi g2 i <;> cases h3 : bi (bt x.2.1) i <;> rw [h1, h2, h3] at e <;> first | rfl | exact e
theorem new_sl {n sl lv : Nat} {G : List scN} (ds : DSL s lo hi np) (go : GO s lo hi np lv G) (pk : PKA s lo hi n) (e20 : s.2.1 44 n = 20) (hs : sl < 16) (es : s.2.1 53 n = Int32.ofNat sl) (nm : ∀ x ∈ G, x.1 ≠ s.2.2 56 n) : ∀ x ∈ G, x.2.1 ≠ sl := by
  intro x hx z
  have rg := pka_rg pk
  rcases (go.1 x hx).2 with h | ⟨n', h1, h2, h3, h4, h5⟩
  · have := ds.2 n sl rg.1 rg.2 e20 hs es
    omega
  · have hne : n' ≠ n := by
      intro y
      subst y
      exact nm x hx h4.symm
    rw [z, ← es] at h5
    rcases Nat.lt_or_gt_of_ne hne with y | y
    · exact ds.1 n n' h1 y rg.2 e20 h3 h5
    · exact ds.1 n' n rg.1 y h2 h3 e20 h5.symm
end FEL
