/-! AN INSTRUCTION THAT TOUCHES ITS OWN BODY ALONE. -/
/-- what the class may change: the stack of a above lo, where its body d goes on -/
def kCl (a d lo : Nat) (sg sg' : cS) : Prop := sg'.1 = sg.1 ∧ sg'.2.1 = sg.2.1 ∧ (∀ b j, ¬ (b = a ∧ j = 13) → sg'.2.2.1 b j = sg.2.2.1 b j) ∧ (∀ b j, b ≠ a ∨ (j ≠ 12 ∧ j ≠ 7) → sg'.2.2.2.1 b j = sg.2.2.2.1 b j) ∧ (∀ e, e ≠ d → sg'.2.2.2.1 a 7 e = sg.2.2.2.1 a 7 e) ∧ (∀ i, i < lo → sg'.2.2.2.1 a 12 i = sg.2.2.2.1 a 12 i) ∧ ∀ b j, b ≠ a ∨ (j ≠ 12 ∧ j ≠ 13) → sg'.2.2.2.2 b j = sg.2.2.2.2 b j
/-- what the reference may change -/
def kRf (a d q0 : Nat) (s s' : rS) : Prop := s'.1 = s.1 ∧ (∀ p i, ¬ (p = 99 ∧ i = 10 * a + d) → ¬ (p = 93 ∧ i = a) → s'.2.1 p i = s.2.1 p i) ∧ ∀ p i, ¬ (p = 97 ∧ 10100 * a + q0 ≤ i ∧ i < 10100 * a + 10100) → ¬ (p = 101 ∧ 16 * (10 * a + d) ≤ i ∧ i < 16 * (10 * a + d) + 16) → s'.2.2 p i = s.2.2 p i
/-- its places -/
def cHg (a d q0 l : Nat) : Prop := (∃ sl, sl < 16 ∧ l = pN (10 * a + d) sl) ∨ (∃ k, q0 ≤ k ∧ k < 10100 ∧ l = pS a k) ∨ l = pH (120 + a) ∨ l = pH (132 + a)
section SIM
variable {sB : rS} {A B : Nat → Int32} {mi : Nat → Nat × Nat × Nat × Nat × Nat} {kc : kCi} {om om' : oMg} {ka : kAp} {la : lAy} {ms : mSg} {N N' cn : Nat} {sg sg' sg2 : cS} {s s' s2 : rS} {a b d e lo q0 : Nat} {E P : Nat → Prop} {x : Nat → Nat → fDs} {D : Nat → Nat} {S : List stE} {v : Int64}
theorem kCl_t (h : kCl a d lo sg sg') (h2 : kCl a d lo sg' sg2) : kCl a d lo sg sg2 := ⟨h2.1.trans h.1, h2.2.1.trans h.2.1, fun b j z => (h2.2.2.1 b j z).trans (h.2.2.1 b j z), fun b j z => (h2.2.2.2.1 b j z).trans (h.2.2.2.1 b j z), fun e z => (h2.2.2.2.2.1 e z).trans (h.2.2.2.2.1 e z), fun i z => (h2.2.2.2.2.2.1 i z).trans (h.2.2.2.2.2.1 i z), fun b j z => (h2.2.2.2.2.2.2 b j z).trans (h.2.2.2.2.2.2 b j z)⟩
theorem kCl_q {z c ht : Nat} {f : Nat → Int32} (hf : ∀ i, i < lo → f i = sg.2.2.2.1 a 12 i) : kCl a d lo sg (sQ sg a z c f ht) := ⟨rfl, rfl, fun b j z => sQ_A (by
  by_cases c : j = 13
  · exact Or.inr (fun y => z ⟨y, c⟩)
  · exact Or.inl c), fun b j z => sQ_R (by rcases z with z | z; exact Or.inr z; exact Or.inl z.1), fun e _ => by rw [sQ_R (Or.inl (by decide))], fun i hi => by rw [sQ_f]; exact hf i hi, fun b j z => sQ_P (by rcases z with z | z; exact Or.inr z; exact Or.inl z)⟩
theorem kCl_7 {v : Int32} : kCl a d lo sg (sR sg a 7 d v) := by
  refine ⟨rfl, rfl, fun _ _ _ => rfl, fun b j z => ?_, fun e he => ?_, fun i _ => ?_, fun _ _ _ => rfl⟩
  · exact if_neg (fun y => by rcases z with z | z; exact z y.1; exact z.2 y.2)
  · show (if a = a ∧ 7 = 7 then upd (sg.2.2.2.1 a 7) d v else sg.2.2.2.1 a 7) e = _
    rw [if_pos ⟨rfl, rfl⟩, upd_ne' he]
  · show (if a = a ∧ 12 = 7 then upd (sg.2.2.2.1 a 12) d v else sg.2.2.2.1 a 12) i = _
    rw [if_neg (fun y => absurd y.2 (by decide))]
theorem kRf_t (h : kRf a d q0 s s') (h2 : kRf a d q0 s' s2) : kRf a d q0 s s2 := ⟨h2.1.trans h.1, fun p i y z => (h2.2.1 p i y z).trans (h.2.1 p i y z), fun p i y z => (h2.2.2 p i y z).trans (h.2.2 p i y z)⟩
theorem kRf_A {p i : Nat} {v : Int32} (hp : (p = 99 ∧ i = 10 * a + d) ∨ (p = 93 ∧ i = a)) : kRf a d q0 s (rs_wA s p i v) := by
  refine ⟨rfl, fun p' i' y z => ?_, fun _ _ _ _ => rfl⟩
  rw [wA_get, if_neg (by omega)]
theorem kRf_B {p i : Nat} {v : Int64} (hp : (p = 97 ∧ 10100 * a + q0 ≤ i ∧ i < 10100 * a + 10100) ∨ (p = 101 ∧ 16 * (10 * a + d) ≤ i ∧ i < 16 * (10 * a + d) + 16)) : kRf a d q0 s (rs_wB s p i v) := by
  refine ⟨rfl, fun _ _ _ _ => rfl, fun p' i' y z => ?_⟩
  rw [wB_get, if_neg (by omega)]
theorem kRf_p {t : Nat} {v : Int64} (h1 : q0 ≤ t) (h2 : t < 10100) : kRf a d q0 s (sPsh s a t v) := kRf_t (kRf_B (Or.inl ⟨rfl, by omega, by omega⟩)) (kRf_A (Or.inr ⟨rfl, rfl⟩))
theorem nS_ne {i sl k : Nat} : pN i sl ≠ pS a k := by unfold pN pS; omega
theorem nH_ne {i sl k : Nat} : pN i sl ≠ pH k := by unfold pN pH; omega
theorem hS_ne {i k : Nat} : pH i ≠ pS a k := by unfold pH pS; omega
theorem sS_ne {k k' : Nat} (h : k ≠ k') : pS a k ≠ pS a k' := by unfold pS; omega
theorem hH_ne {k k' : Nat} (h : k ≠ k') : pH k ≠ pH k' := by unfold pH; omega
theorem nN_ne {i sl sl' : Nat} (h : sl ≠ sl') : pN i sl ≠ pN i sl' := by unfold pN; omega
theorem oS_ne {o f k : Nat} : pO o f ≠ pS a k := by unfold pO pS; omega
theorem oN_ne {o f i k : Nat} : pO o f ≠ pN i k := by unfold pO pN; omega
theorem oH_ne {o f k : Nat} : pO o f ≠ pH k := by unfold pO pH; omega
theorem fS_ne {o f k : Nat} : pF o f ≠ pS a k := by unfold pF pS; omega
theorem fN_ne {o f i k : Nat} : pF o f ≠ pN i k := by unfold pF pN; omega
theorem fH_ne {o f k : Nat} : pF o f ≠ pH k := by unfold pF pH; omega
theorem oF_ne {o f i k : Nat} : pO o f ≠ pF i k := by unfold pO pF; omega
theorem ob_S {k : Nat} : obP (pS a k) = 0 := ob_n (by unfold pS; omega)
theorem ob_N {i k : Nat} : obP (pN i k) = 0 := ob_n (by unfold pN; omega)
theorem ob_H {k : Nat} : obP (pH k) = 0 := ob_n (by unfold pH; omega)
theorem ob_F {i k : Nat} : obP (pF i k) = 0 := ob_n (by unfold pF; omega)
theorem cHg_6 {l : Nat} (d10 : d < 10) (h : cHg a d q0 l) : (l % 6 = 2 ∧ l / 960 = a) ∨ l % 6 = 3 ∨ l = pH (120 + a) ∨ l = pH (132 + a) := by
  rcases h with ⟨sl, h1, h2⟩ | ⟨k, h1, h2, h3⟩ | h
  · unfold pN at h2
    omega
  · unfold pS at h3
    omega
  · exact Or.inr (Or.inr h)
/-- what others see stays -/
theorem sEe_k {t r u : Nat} (gi : GI ka.2.2.1 N om.1 om.2.1 om.2.2.1) (h : sEe om b t r u) (rb : om.2.2.1.2.2.2.2 r = b) (hW : ∀ lx, lOf b lx → om.2.1 lx ≠ 0 → om.2.2.1.1 lx = r → om'.1 lx = om.1 lx ∧ om'.2.1 lx = om.2.1 lx ∧ ¬ P lx) (st : rSt a a E P om.2.2.1 om'.2.2.1) (hE : ∀ x, x < N → x ≠ 0 → om.2.2.1.2.2.2.2 x = b → E x) (r0 : r ≠ 0) (rN : r < N) : sEe om' b t r u := by
  obtain ⟨h1, h2, lx, l1, l2, l3, l4, l5⟩ := h
  obtain ⟨w1, w2, w3⟩ := hW lx l1 (tgF_n l2) l4
  have et : tgF om'.2.1 om'.1 lx = tgF om.2.1 om.1 lx := by
    unfold tgF
    rw [w1, w2]
  have i1 := inR_e gi.1 l2 (by rw [l4]; exact r0) l3
  rw [l4] at i1
  have o1 : om.2.2.1.2.2.2.2 (om.2.2.1.2.1 (tgF om.2.1 om.1 lx)) = b := by rw [inR_ow gi.1 i1.1]; exact rb
  have n1 : om.2.2.1.2.1 (tgF om.2.1 om.1 lx) ≠ 0 := (rg_ent gi.1 lx l2 (by rw [l4]; exact r0) l3).1
  have o2 : om.2.2.1.2.2.2.2 (om.2.2.1.2.1 u) = b := by rw [inR_ow gi.1 l5]; exact o1
  have bd := gi.2.1.2.1
  have E1 := hE _ (bd _) n1 o1
  have E2 := hE _ (bd _) h1 o2
  have e1 := st.2.2.1 _ E1
  have e2 := st.2.2.1 _ E2
  refine ⟨by rw [e2]; exact h1, fun z => ?_, lx, l1, by rw [et]; exact l2, by rw [w2]; exact l3, ?_, ?_⟩
  · obtain ⟨y1, y2⟩ := h2 z
    rw [e2]
    obtain ⟨x1, _, x3, _⟩ := st.1 _ E2
    exact ⟨by rw [x1]; exact y1, by rw [x3 (by rw [y1]; decide)]; exact y2⟩
  · rw [st.2.1 lx w3 (by rw [l4]; exact hE r rN r0 rb), l4]
  · rw [et, e1, e2]
    exact ((st.1 _ E2).2.2.2 _).mpr l5
/-- frames lie one above the other -/
theorem fr_lay (su : fSu sB A B mi om ka N sg s a (x a) d) : ∀ e, e < d → (∃ d', d = d' + 1 ∧ fLk sB mi om.2.2.1 (x a) d') → ∀ S0 t, fSt (x a e) = t :: S0 → fBs (x a e) + (mi (fMe (x a e))).2.2.2.2 + S0.length ≤ fBs (x a d) ∧ fQ (x a e) + S0.length ≤ fQ (x a d) := by
  have key : ∀ j, ∀ e, e + j + 1 = d → (∃ d', d = d' + 1 ∧ fLk sB mi om.2.2.1 (x a) d') → ∀ S0 t, fSt (x a e) = t :: S0 → fBs (x a e) + (mi (fMe (x a e))).2.2.2.2 + S0.length ≤ fBs (x a d) ∧ fQ (x a e) + S0.length ≤ fQ (x a d) := by
    intro j
    induction j with
    | zero =>
      intro e he ⟨d', hd, lk⟩ S0 t hS
      have : d' = e := by omega
      subst this
      subst hd
      obtain ⟨t', le, S1, l1, _, l3, l4, _⟩ := lk
      rw [hS] at l1
      injection l1 with _ l1
      rw [l3, l4, l1]
      exact ⟨Nat.le_refl _, Nat.le_refl _⟩
    | succ j ih =>
      intro e he lk S0 t hS
      obtain ⟨S1, t1, hS1, ok⟩ := su (e + 1) (by omega)
      have i := ih (e + 1) (by omega) lk S1 t1 hS1
      rcases ok.2.2.2.2.2 with ⟨z, _⟩ | ⟨d', hd, t', le, S2, l1, _, l3, l4, _⟩
      · omega
      · have : d' = e := by omega
        subst this
        rw [hS] at l1
        injection l1 with _ l1
        rw [← l1] at l3 l4
        omega
  intro e he
  exact key (d - e - 1) e (by omega)
end SIM
