/-! AN INSTRUCTION THAT TOUCHES ITS OWN BODY ALONE: bodies. -/
def xU (x : Nat → Nat → fDs) (a d : Nat) (y : fDs) : Nat → Nat → fDs := fun b e => if b = a ∧ e = d then y else x b e
section SI3
variable {sB : rS} {A B : Nat → Int32} {mi : Nat → Nat × Nat × Nat × Nat × Nat} {kc : kCi} {om om' : oMg} {ka ka' : kAp} {la : lAy} {ms : mSg} {N N' cn : Nat} {sg sg' sg2 : cS} {s s' s2 : rS} {a b d e lo q0 : Nat} {E P : Nat → Prop} {x : Nat → Nat → fDs} {xb xc : Nat → fDs} {D : Nat → Nat} {S : List stE} {v : Int64}
theorem fLk_x {g : rGt} (h : fLk sB mi g xb d) (hx : ∀ e, e ≤ d + 1 → xc e = xb e) : fLk sB mi g xc d := by
  unfold fLk at h ⊢
  rw [hx d (by omega), hx (d + 1) (by omega)]
  obtain ⟨t, le, S0, l1, l2, l3, l4, l5⟩ := h
  refine ⟨t, le, S0, l1, l2, l3, l4, ?_⟩
  rcases l5 with l5 | ⟨m1, m2, k, cp, m3, m4, m5, m6, m7, m8⟩
  · exact Or.inl l5
  · refine Or.inr ⟨m1, m2, k, cp, m3, m4, m5, m6, m7, ?_⟩
    rcases m8 with m8 | ⟨m8, m9, m10⟩
    · exact Or.inl m8
    · refine Or.inr ⟨m8, m9, fun d' j h1 h2 => ?_⟩
      rw [hx d' (by omega)] at h2 ⊢
      exact m10 d' j h1 h2
theorem fOk_x (h : fOk sB A B mi om ka N sg s a xb d S) (hx : ∀ e, e ≤ d → xc e = xb e) : fOk sB A B mi om ka N sg s a xc d S := by
  obtain ⟨h1, h2, h3, h4, h5, h6⟩ := h
  unfold fOk
  rw [hx d (Nat.le_refl d)]
  refine ⟨h1, h2, h3, h4, fun d' j' j hd hj => ?_, ?_⟩
  · have e' : xc d' = xb d' := hx d' (by omega)
    rw [hx d (Nat.le_refl d)] at hj ⊢
    rw [e'] at hd ⊢
    exact h5 d' j' j hd hj
  · rcases h6 with ⟨h0, h6⟩ | ⟨d', hd, h6⟩
    · left
      refine ⟨h0, ?_⟩
      unfold fB0 at h6 ⊢
      rw [hx 0 (Nat.zero_le _)]
      exact h6
    · exact Or.inr ⟨d', hd, fLk_x h6 (fun e he => hx e (by omega))⟩
theorem fSu_x (h : fSu sB A B mi om ka N sg s a xb d) (hx : ∀ e, e < d → xc e = xb e) : fSu sB A B mi om ka N sg s a xc d := by
  intro e he
  obtain ⟨S0, t, h1, h2⟩ := h e he
  exact ⟨S0, t, by rw [hx e he]; exact h1, fOk_x h2 (fun e' h' => hx e' (by omega))⟩
theorem lOf_n {lx : Nat} (l1 : lOf b lx) (hb : b ≠ a) (b12 : b < 12) (h : (lx % 6 = 2 ∧ lx / 960 = a) ∨ lx % 6 = 3 ∨ lx = pH (120 + a) ∨ lx = pH (132 + a)) : False := by
  unfold lOf pH at l1
  unfold pH at h
  omega
/-- fields of a's own -/
def xCh (om : oMg) (a l : Nat) : Prop := (l % 6 = 0 ∧ om.2.2.1.2.2.2.2 (om.2.2.1.1 l) = a) ∨ (l % 6 = 1 ∧ l / 48 = a)
theorem xC_N {i sl : Nat} : ¬ xCh om a (pN i sl) := by
  intro z
  rcases z with ⟨z, _⟩ | ⟨z, _⟩ <;> (unfold pN at z; omega)
theorem xC_H {i : Nat} : ¬ xCh om a (pH i) := by
  intro z
  rcases z with ⟨z, _⟩ | ⟨z, _⟩ <;> (unfold pH at z; omega)
theorem xC_S {i : Nat} : ¬ xCh om a (pS b i) := by
  intro z
  rcases z with ⟨z, _⟩ | ⟨z, _⟩ <;> (unfold pS at z; omega)
theorem xC_l {lx : Nat} (l1 : lOf b lx) (hb : b ≠ a) (ho : om.2.2.1.2.2.2.2 (om.2.2.1.1 lx) = b) : ¬ xCh om a lx := by
  intro z
  rcases z with ⟨z1, z2⟩ | ⟨z1, z2⟩
  · exact hb (ho.symm.trans z2)
  · unfold lOf at l1
    omega
/-- a body of another actor -/
theorem fOk_o (gi : GI ka.2.2.1 N om.1 om.2.1 om.2.2.1) (h : fOk sB A B mi om ka N sg s b xb e S) (hb : b ≠ a) (b12 : b < 12) (bc : b < ka.2.2.2) (cl : kCl a d lo sg sg') (rf : kRf a d q0 s s') (ch : ∀ l, ¬ cHg a d q0 l → ¬ xCh om a l → om'.1 l = om.1 l ∧ om'.2.1 l = om.2.1 l) (st : rSt a a E (cHg a d q0) om.2.2.1 om'.2.2.1) (hE : ∀ y, y = 0 ∨ (y < N ∧ om.2.2.1.2.2.2.2 y ≠ a) → E y) (hN : N ≤ N') (eK : om'.2.2.2 = om.2.2.2) (e10 : e < 10) (d10 : d < 10) (hR : ∀ e' j, e' ≤ e → j ≤ fL (xb e') → fRe (xb e') j < N ∧ om.2.2.1.2.2.2.2 (fRe (xb e') j) = b) (hs : ∀ y ∈ S, y ∈ fSt (xb e)) (hl : S.length ≤ (fSt (xb e)).length) : fOk sB A B mi om' ka N' sg' s' b xb e S := by
  have h0 := h
  obtain ⟨⟨p, q, b', j, z1, z2, z3, z4, z5, z6, z7, z8⟩, _, ⟨g1, _⟩, _⟩ := h0
  have lv := LV_PT z2
  have Eb : ∀ y, y < N → om.2.2.1.2.2.2.2 y = b → E y := fun y h1 h2 => hE y (Or.inr ⟨h1, by rw [h2]; exact hb⟩)
  have rr : ∀ p i, p ≠ 99 → p ≠ 93 → s'.2.1 p i = s.2.1 p i := fun p i h1 h2 => rf.2.1 p i (fun z => h1 z.1) (fun z => h2 z.1)
  have ra : ∀ j, sg'.2.2.2.1 b j = sg.2.2.2.1 b j := fun j => cl.2.2.2.1 b j (Or.inl hb)
  have k10 : ∀ k, k < fQ (xb e) + S.length → k < 10100 := by
    intro k hk
    have h1 : fQ (xb e) ≤ 1010 * 9 := Nat.le_trans z6 (Nat.mul_le_mul_left _ (by omega))
    omega
  refine fOk_k (P := cHg a d q0) h (by rw [ra]) (by rw [ra]) (by rw [ra]) (fun i _ => by rw [ra]) ?_ ?_ (fun sl hsl => ?_) (fun k hk => ?_) (fun sl hsl => ?_) ?_ (fun k hk => ?_) st (fun e' j h1 h2 => ?_) (knK_of (fun o ho => by rw [eK]; exact ho)) kaX_r (by rw [eK]) bc hN (fun y hy => lv.1 y (hs y hy)) (Or.inr ⟨fun o ho => by rw [eK]; exact ho, fun t j u hj se => ?_⟩)
  · exact rf.2.1 99 _ (by omega) (by omega)
  · exact rf.2.2 100 _ (by omega) (by omega)
  · exact rf.2.2 101 _ (by omega) (by omega)
  · have := k10 k hk
    exact rf.2.2 97 _ (by omega) (by omega)
  · have : ¬ cHg a d q0 (pN (10 * b + e) sl) := ch_N hsl (by omega)
    exact ⟨(ch _ this xC_N).1, (ch _ this xC_N).2, this⟩
  · have : ¬ cHg a d q0 (pH (10 * b + e)) := ch_H (by omega)
    exact ⟨(ch _ this xC_H).1, (ch _ this xC_H).2, this⟩
  · have : ¬ cHg a d q0 (pS b k) := ch_S (k10 k hk) (Or.inl hb)
    exact ⟨(ch _ this xC_S).1, (ch _ this xC_S).2, this⟩
  · exact Eb _ (hR e' j h1 h2).1 (hR e' j h1 h2).2
  · obtain ⟨r0, rN, ro⟩ := g1 j hj
    refine sEe_k gi se ro (fun lx l1 l2 l3 => ?_) st (fun y h1 _ h3 => Eb y h1 h3) r0 rN
    have : ¬ cHg a d q0 lx := by
      intro z
      exact lOf_n l1 hb b12 (cHg_6 d10 z)
    have nx : ¬ xCh om a lx := xC_l l1 hb (by rw [l3, ro])
    exact ⟨(ch _ this nx).1, (ch _ this nx).2, this⟩
/-- the bodies of another actor -/
theorem aBd_o {D' : Nat} (gi : GI ka.2.2.1 N om.1 om.2.1 om.2.2.1) (h : aBd sB A B mi om ka N sg s b xb D') (hb : b ≠ a) (b12 : b < 12) (bc : b < ka.2.2.2) (cl : kCl a d lo sg sg') (rf : kRf a d q0 s s') (ch : ∀ l, ¬ cHg a d q0 l → ¬ xCh om a l → om'.1 l = om.1 l ∧ om'.2.1 l = om.2.1 l) (st : rSt a a E (cHg a d q0) om.2.2.1 om'.2.2.1) (hE : ∀ y, y = 0 ∨ (y < N ∧ om.2.2.1.2.2.2.2 y ≠ a) → E y) (hN : N ≤ N') (eK : om'.2.2.2 = om.2.2.2) (d10 : d < 10) : aBd sB A B mi om' ka N' sg' s' b xb D' := by
  have s13 : sg'.2.2.1 b 13 = sg.2.2.1 b 13 := cl.2.2.1 b 13 (by omega)
  have p13 : sg'.2.2.2.2 b 13 = sg.2.2.2.2 b 13 := cl.2.2.2.2.2.2 b 13 (Or.inl hb)
  have so : ∀ ht, SOK sg b ht → SOK sg' b ht := fun ht h => by unfold SOK at h ⊢; rw [s13, p13]; exact h
  have r93 : s'.2.1 93 b = s.2.1 93 b := rf.2.1 93 b (by omega) (by omega)
  rcases h with ⟨h1, h2, h3⟩ | ⟨d0, h1, h2, h3, h4, h5, h6⟩
  · exact Or.inl ⟨h1, so _ h2, by rw [r93]; exact h3⟩
  · have hR : ∀ e' j, e' ≤ d0 → j ≤ fL (xb e') → fRe (xb e') j < N ∧ om.2.2.1.2.2.2.2 (fRe (xb e') j) = b := by
      intro e' j he hj
      by_cases c : e' = d0
      · rw [c] at hj ⊢
        exact (h4.2.2.1.1 j hj).2
      · obtain ⟨S0, t, _, k⟩ := h3 e' (by omega)
        exact (k.2.2.1.1 j hj).2
    refine Or.inr ⟨d0, h1, h2, fun e he => ?_, ?_, so _ h5, by rw [r93]; exact h6⟩
    · obtain ⟨S0, t, hS, k⟩ := h3 e he
      exact ⟨S0, t, hS, fOk_o gi k hb b12 bc cl rf ch st hE hN eK (by omega) d10 (fun e' j h1 h2 => hR e' j (by omega) h2) (fun y hy => by rw [hS]; exact List.mem_cons_of_mem _ hy) (by rw [hS]; exact Nat.le_succ _)⟩
    · exact fOk_o gi h4 hb b12 bc cl rf ch st hE hN eK h2 d10 hR (fun y hy => hy) (Nat.le_refl _)
/-- the bodies that wait -/
theorem fSu_k (su : fSu sB A B mi om ka N sg s a (x a) d) (a12 : a < 12) (ac : a < ka.2.2.2) (lay : d = 0 ∨ ∃ d', d = d' + 1 ∧ fLk sB mi om.2.2.1 (x a) d') (cl : kCl a d (fBs (x a d)) sg sg') (rf : kRf a d (fQ (x a d)) s s') (ch : ∀ l, ¬ cHg a d (fQ (x a d)) l → ¬ xCh om a l → om'.1 l = om.1 l ∧ om'.2.1 l = om.2.1 l) (st : rSt a a E (cHg a d (fQ (x a d))) om.2.2.1 om'.2.2.1) (hEl : ∀ e j, e < d → j ≤ fL (x a e) → E (fRe (x a e) j)) (hN : N ≤ N') (kn : knK om om' a) (rm : om'.2.2.2.2 a = om.2.2.2.2 a) (d10 : d < 10) : fSu sB A B mi om' ka N' sg' s' a (x a) d := by
  intro e he
  obtain ⟨S0, t, hS, k⟩ := su e he
  have ly := fr_lay su e he (by
    rcases lay with z | z
    · omega
    · exact z) S0 t hS
  have k0 := k
  obtain ⟨⟨p, q, b', j, z1, z2, z3, z4, z5, z6, z7, z8⟩, _⟩ := k0
  have lv := LV_PT z2
  rw [hS] at lv
  refine ⟨S0, t, hS, fOk_k (P := cHg a d (fQ (x a d))) k (cl.2.2.2.2.1 e (by omega)) (by rw [cl.2.2.2.1 a 8 (Or.inr (by decide))]) (by rw [cl.2.2.2.1 a 9 (Or.inr (by decide))]) (fun i hi => cl.2.2.2.2.2.1 i (by omega)) (rf.2.1 99 _ (by omega) (by omega)) (rf.2.2 100 _ (by omega) (by omega)) (fun sl hsl => rf.2.2 101 _ (by omega) (by omega)) (fun k hk => rf.2.2 97 _ (by omega) (by omega)) (fun sl hsl => ?_) ⟨(ch _ (ch_H (by omega)) xC_H).1, (ch _ (ch_H (by omega)) xC_H).2, ch_H (by omega)⟩ (fun k hk => ?_) st (fun e' j h1 h2 => hEl e' j (by omega) h2) kn kaX_r rm ac hN (fun y hy => lv.1 y (List.mem_cons_of_mem _ hy)) (Or.inl (fun y hy => lv.2 y hy))⟩
  · have : ¬ cHg a d (fQ (x a d)) (pN (10 * a + e) sl) := ch_N hsl (by omega)
    exact ⟨(ch _ this xC_N).1, (ch _ this xC_N).2, this⟩
  · have h1 : fQ (x a e) ≤ 1010 * 9 := Nat.le_trans z6 (Nat.mul_le_mul_left _ (by omega))
    have h2 : S0.length ≤ 1010 := by rw [hS] at z8; exact Nat.le_trans (Nat.le_succ _) z8
    have : ¬ cHg a d (fQ (x a d)) (pS a k) := ch_S (by omega) (Or.inr (by omega))
    exact ⟨(ch _ this xC_S).1, (ch _ this xC_S).2, this⟩
theorem xU_eq {y : fDs} : xU x a d y a d = y := if_pos ⟨rfl, rfl⟩
theorem xU_e {y : fDs} (h : e ≠ d) : xU x a d y a e = x a e := if_neg (fun z => h z.2)
theorem xU_b {y : fDs} (h : b ≠ a) : xU x a d y b = x b := by
  funext e
  exact if_neg (fun z => h z.1)
/-- THE END OF SUCH AN INSTRUCTION -/
theorem eNd {y : fDs} (w : wAl sB kc om ka la ms N cn sg s D) (bo : ∀ b, b < ka.2.2.2 → b ≠ a → aBd sB A B mi om ka N sg s b (x b) (D b)) (su : fSu sB A B mi om ka N sg s a (x a) d) (hD : D a = d + 1) (ac : a < ka.2.2.2) (d10 : d < 10) (lay : d = 0 ∨ ∃ d', d = d' + 1 ∧ fLk sB mi om.2.2.1 (x a) d') (cl : kCl a d (fBs (x a d)) sg sg') (rf : kRf a d (fQ (x a d)) s s') (ch : ∀ l, ¬ cHg a d (fQ (x a d)) l → om'.1 l = om.1 l ∧ om'.2.1 l = om.2.1 l) (st : rSt a a E (cHg a d (fQ (x a d))) om.2.2.1 om'.2.2.1) (hE : ∀ y, y = 0 ∨ (y < N ∧ om.2.2.1.2.2.2.2 y ≠ a) → E y) (hEl : ∀ e j, e < d → j ≤ fL (x a e) → E (fRe (x a e) j)) (hEm : E (om.2.2.2.2 a)) (gi' : GI ka.2.2.1 N' om'.1 om'.2.1 om'.2.2.1) (hN : N ≤ N') (eK : om'.2.2.2 = om.2.2.2)
    (top : fOk sB A B mi om' ka N' sg' s' a (xU x a d y a) d (fSt y)) (so : SOK sg' a (fBs y + (mi (fMe y)).2.2.2.2 + (fSt y).length)) (r93 : s'.2.1 93 a = Int32.ofNat (fQ y + (fSt y).length)) : rUn sB A B mi kc om' ka la ms N' cn sg' s' D (xU x a d y) := by
  have ac12 : ka.2.2.2 ≤ 12 := by obtain ⟨_, _, ⟨_, _, _, _, _, ⟨_, _, z⟩, _⟩, _⟩ := w; exact z
  refine ⟨wAl_k w cl rf ch st hE hEm (by omega) gi' hN eK, fun b hb => ?_⟩
  by_cases c : b = a
  · rw [c, hD]
    have su' := fSu_k su (by omega) ac lay cl rf (fun l h _ => ch l h) st hEl hN (knK_of (fun o ho => by rw [eK]; exact ho)) (by rw [eK]) d10
    refine Or.inr ⟨d, rfl, d10, fSu_x su' (fun e he => xU_e (by omega)), ?_, ?_, ?_⟩
    · rw [xU_eq]; exact top
    · rw [xU_eq]; exact so
    · rw [xU_eq]; exact r93
  · rw [xU_b c]
    exact aBd_o w.2.1 (bo b hb c) c (by omega) hb cl rf (fun l h _ => ch l h) st hE hN eK d10
end SI3
