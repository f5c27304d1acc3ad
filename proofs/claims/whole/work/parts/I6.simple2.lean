/-! AN INSTRUCTION THAT TOUCHES ITS OWN BODY ALONE: all the rest stays. -/
section SI2
variable {sB : rS} {A B : Nat → Int32} {mi : Nat → Nat × Nat × Nat × Nat × Nat} {kc : kCi} {om om' : oMg} {ka : kAp} {la : lAy} {ms : mSg} {N N' cn : Nat} {sg sg' sg2 : cS} {s s' s2 : rS} {a b d e lo q0 : Nat} {E P : Nat → Prop} {x : Nat → Nat → fDs} {D : Nat → Nat} {S : List stE} {v : Int64}
theorem own_k (gi : GI ka.2.2.1 N om.1 om.2.1 om.2.2.1) (st : rSt a a E P om.2.2.1 om'.2.2.1) (hE : ∀ y, y = 0 ∨ (y < N ∧ om.2.2.1.2.2.2.2 y ≠ a) → E y) {o d : Nat} (h : om.2.2.1.2.1 o = 0 ∨ om.2.2.1.2.2.2.2 (om.2.2.1.2.1 o) = d) : om'.2.2.1.2.1 o = 0 ∨ om'.2.2.1.2.2.2.2 (om'.2.2.1.2.1 o) = d := by
  rcases h with h | h
  · left
    rw [st.2.2.1 o (by rw [h]; exact hE 0 (Or.inl rfl)), h]
  · by_cases c : d = a
    · rw [c] at h ⊢
      rcases st.2.2.2 o h with z | z | z
      · exact Or.inl z
      · exact Or.inr z
      · exact Or.inr z
    · right
      have e := hE _ (Or.inr ⟨gi.2.1.2.1 o, by rw [h]; exact c⟩)
      rw [st.2.2.1 o e, (st.1 _ e).2.1, h]
theorem ch_O {o f : Nat} : ¬ cHg a d q0 (pO o f) := by
  intro z
  rcases z with ⟨sl, h1, h2⟩ | ⟨k, h1, h2, h3⟩ | h | h
  · unfold pN pO at h2; omega
  · unfold pS pO at h3; omega
  · unfold pH pO at h; omega
  · unfold pH pO at h; omega
theorem ch_F {o f : Nat} : ¬ cHg a d q0 (pF o f) := by
  intro z
  rcases z with ⟨sl, h1, h2⟩ | ⟨k, h1, h2, h3⟩ | h | h
  · unfold pN pF at h2; omega
  · unfold pS pF at h3; omega
  · unfold pH pF at h; omega
  · unfold pH pF at h; omega
theorem ch_H {o : Nat} (ho : o < 120) : ¬ cHg a d q0 (pH o) := by
  intro z
  rcases z with ⟨sl, h1, h2⟩ | ⟨k, h1, h2, h3⟩ | h | h
  · unfold pN pH at h2; omega
  · unfold pS pH at h3; omega
  · unfold pH at h; omega
  · unfold pH at h; omega
theorem ch_M {o f : Nat} : ¬ cHg a d q0 (pM o f) := by
  intro z
  rcases z with ⟨sl, h1, h2⟩ | ⟨k, h1, h2, h3⟩ | h | h
  · unfold pN pM at h2; omega
  · unfold pS pM at h3; omega
  · unfold pH pM at h; omega
  · unfold pH pM at h; omega
theorem ch_N {i f : Nat} (hf : f < 16) (hi : i ≠ 10 * a + d) : ¬ cHg a d q0 (pN i f) := by
  intro z
  rcases z with ⟨sl, h1, h2⟩ | ⟨k, h1, h2, h3⟩ | h | h
  · unfold pN at h2; omega
  · unfold pN pS at h3; omega
  · unfold pH pN at h; omega
  · unfold pH pN at h; omega
theorem ch_S {k : Nat} (hk : k < 10100) (h : b ≠ a ∨ k < q0) : ¬ cHg a d q0 (pS b k) := by
  intro z
  rcases z with ⟨sl, h1, h2⟩ | ⟨k', h1, h2, h3⟩ | h2 | h2
  · unfold pN pS at h2; omega
  · unfold pS at h3; omega
  · unfold pH pS at h2; omega
  · unfold pH pS at h2; omega
theorem wKn_k {d' : Nat} (h : wKn kc om ka la s d') (hc : ∀ y, y < 400 → cPy s' d' y = cPy s d' y) (hW : ∀ o f, 1 ≤ o → o ≤ ka.2.2.1 → f < (kc (ka.1 o)).1 → om'.1 (pO o f) = om.1 (pO o f)) (ho : ∀ o, om.2.2.1.2.1 o = 0 ∨ om.2.2.1.2.2.2.2 (om.2.2.1.2.1 o) = d' → om'.2.2.1.2.1 o = 0 ∨ om'.2.2.1.2.2.2.2 (om'.2.2.1.2.1 o) = d') (eK : om'.2.2.2 = om.2.2.2) (bd : ∀ o f, 1 ≤ o → o ≤ ka.2.2.1 → f < (kc (ka.1 o)).1 → la.2.2.1 o + f < 400) : wKn kc om' ka la s' d' := by
  intro o hk
  rw [eK] at hk
  obtain ⟨h1, h2, h3⟩ := h o hk
  refine ⟨h1, ho o h2, fun f hf => ?_⟩
  obtain ⟨z1, z2⟩ := h3 f hf
  rw [hc _ (bd o f h1.1 h1.2 hf), hW o f h1.1 h1.2 hf, eK]
  exact ⟨z1, z2⟩
theorem vAl_e {t : Nat} (h : vAl om ka b t v) (eK : om'.2.2.2 = om.2.2.2) : vAl om' ka b t v := ⟨h.1, fun z => by rw [eK]; exact h.2 z⟩
/-- fields of objects lie within the row -/
theorem w_bd (w : wAl sB kc om ka la ms N cn sg s D) : ∀ o f, 1 ≤ o → o ≤ ka.2.2.1 → f < (kc (ka.1 o)).1 → la.2.2.1 o + f < 400 := by
  obtain ⟨_, _, ⟨clm, mb, tn, ⟨_, _, n1⟩, _, _, _, ⟨_, _, n2⟩, ⟨_, n3⟩, _⟩, wo, _⟩ := w
  intro o f h1 h2 hf
  obtain ⟨_, _, _, _, _, _, z, _⟩ := wo o h1 h2
  omega
theorem wAl_k (w : wAl sB kc om ka la ms N cn sg s D) (cl : kCl a d lo sg sg') (rf : kRf a d q0 s s') (ch : ∀ l, ¬ cHg a d q0 l → om'.1 l = om.1 l ∧ om'.2.1 l = om.2.1 l) (st : rSt a a E (cHg a d q0) om.2.2.1 om'.2.2.1) (hE : ∀ y, y = 0 ∨ (y < N ∧ om.2.2.1.2.2.2.2 y ≠ a) → E y) (hEm : E (om.2.2.2.2 a)) (ha : a < 12 ∧ a < ka.2.2.2) (gi' : GI ka.2.2.1 N' om'.1 om'.2.1 om'.2.2.1) (hN : N ≤ N') (eK : om'.2.2.2 = om.2.2.2) : wAl sB kc om' ka la ms N' cn sg' s' D := by
  have bd := w_bd w
  obtain ⟨⟨x1, x2⟩, gi, wn, wo, wd, wa⟩ := w
  have ow := fun (d' o : Nat) h => own_k (o := o) (d := d') gi st hE h
  have ac12 : ka.2.2.2 ≤ 12 := by obtain ⟨_, _, _, _, _, ⟨_, _, z⟩, _⟩ := wn; exact z
  have c1 := cl.1
  have c2 := cl.2.1
  have r1 := rf.1
  have rr : ∀ p i, p ≠ 99 → p ≠ 93 → s'.2.1 p i = s.2.1 p i := fun p i h1 h2 => rf.2.1 p i (fun z => h1 z.1) (fun z => h2 z.1)
  have rl : ∀ p i, p ≠ 97 → p ≠ 101 → s'.2.2 p i = s.2.2 p i := fun p i h1 h2 => rf.2.2 p i (fun z => h1 z.1) (fun z => h2 z.1)
  have cp : ∀ d' y, cPy s' d' y = cPy s d' y := by
    intro d' y
    unfold cPy
    rw [rl 96 _ (by decide) (by decide), rl 107 _ (by decide) (by decide)]
  have Es : ∀ y, y < N → om.2.2.1.2.2.2.2 y ≠ a → E y := fun y h1 h2 => hE y (Or.inr ⟨h1, h2⟩)
  refine ⟨⟨fun p hp => ?_, fun p hp => ?_⟩, gi', ?_, fun o h1 h2 => ?_, wd, fun b hb => ?_⟩
  · funext i; rw [rr p i (by omega) (by omega), x1 p hp]
  · funext i; rw [rl p i (by omega) (by omega), x2 p hp]
  · obtain ⟨clm, mb, tn, n1, n2, n3, n4, n5, n6, n7, ⟨n8, n8b, n8c, n8d⟩, n9, n10⟩ := wn
    unfold wNm
    rw [c1, c2, r1]
    exact ⟨clm, mb, tn, n1, n2, n3, n4, n5, n6, n7, ⟨n8, n8b, n8c, fun i h1 h2 => by rw [rr 108 i (by decide) (by decide), rr 109 i (by decide) (by decide)]; exact n8d i h1 h2⟩, n9, n10.1, n10.2.1, fun b h1 h2 => by rw [cl.2.2.1 b 0 (by omega), cl.2.2.2.2.2.2 b 13 (Or.inl (by omega))]; exact n10.2.2 b h1 h2⟩
  · obtain ⟨o1, o2, o3, o4, o5, o6, o7, o8⟩ := wo o h1 h2
    unfold wO1
    rw [c2, rr 87 o (by decide) (by decide), rr 88 o (by decide) (by decide)]
    refine ⟨o1, o2, o3, o4, o5, o6, o7, fun f hf => ?_⟩
    rw [(ch (pO o f) ch_O).1, (ch (pO o f) ch_O).2]
    exact o8 f hf
  · obtain ⟨k1, k2, k3⟩ := wa b hb
    refine ⟨wKn_k k1 (fun y _ => cp b y) (fun o f _ _ _ => (ch _ ch_O).1) (ow b) eK bd, ?_, ?_⟩
    · obtain ⟨⟨a1, a2, a3⟩, ⟨a4, a5⟩, ⟨a6, a7⟩, ⟨a8, a9⟩, a10, ⟨a11, a12, a13⟩, a14⟩ := k2
      have eb : E (om.2.2.2.2 b) := by
        by_cases c : b = a
        · rw [c]; exact hEm
        · exact Es _ a12 (by rw [a13]; exact c)
      have rm : om'.2.2.2.2 = om.2.2.2.2 := by rw [eK]
      refine ⟨⟨?_, ?_, a3⟩, ⟨?_, ?_⟩, ⟨?_, ?_⟩, ⟨?_, ?_⟩, a10, ⟨by rw [rm]; exact a11, by rw [rm]; exact Nat.lt_of_lt_of_le a12 hN, by rw [rm, (st.1 _ eb).2.1]; exact a13⟩, fun f hf => ?_⟩
      · rw [cl.2.2.1 b 0 (by omega)]; exact a1
      · rw [cl.2.2.2.2.2.2 b 1 (Or.inr (by decide))]; exact a2
      · rw [cl.2.2.1 b 2 (by omega)]; exact a4
      · rw [rr 89 b (by decide) (by decide)]; exact a5
      · rw [cl.2.2.1 b 3 (by omega)]; exact a6
      · rw [rr 92 b (by decide) (by decide)]; exact a7
      · rw [cl.2.2.1 b 5 (by omega), rr 90 b (by decide) (by decide)]; exact a8
      · rw [cl.2.2.1 b 6 (by omega), rr 91 b (by decide) (by decide)]; exact a9
      · obtain ⟨f1, f2, f3, f4, f5⟩ := a14 f hf
        rw [(ch (pF b f) ch_F).1, (ch (pF b f) ch_F).2, c2, rl 95 _ (by decide) (by decide), rm]
        exact ⟨f1, by rw [st.2.1 _ ch_F (by rw [f2]; exact eb)]; exact f2, vAl_e f3 eK, f4, f5⟩
    · obtain ⟨⟨m1, m2, m3⟩, ⟨m4, m5⟩, m6, m7, m8⟩ := k3
      refine ⟨⟨m1, ?_, ?_⟩, ⟨m4, ?_⟩, fun k hk => ?_, m7, fun j hj hz => ?_⟩
      · rw [cl.2.2.1 b 4 (by omega)]; exact m2
      · rw [rr 94 b (by decide) (by decide)]; exact m3
      · rw [cl.2.2.1 b 11 (by omega)]; exact m5
      · obtain ⟨p1, p2, p3, ⟨p4, p5, p6, p7, p8⟩, ⟨p9, p10, p11⟩, ⟨ts, t1, t2, t3, t4⟩, p12, p13⟩ := m6 k hk
        have c10 : sg'.2.2.2.1 b 10 = sg.2.2.2.1 b 10 := cl.2.2.2.1 b 10 (Or.inr (by decide))
        have em : E (ms.2.2.2.2 (6 * b + ms.2.2.1 b k)) := Es _ p10 (by rw [p11]; omega)
        refine ⟨p1, by rw [rr 102 _ (by decide) (by decide)]; exact p2, by rw [rr 104 _ (by decide) (by decide)]; exact p3, ⟨p4, by rw [rr 103 _ (by decide) (by decide)]; exact p5, by rw [c10]; exact p6, p7, p8⟩, ⟨p9, Nat.lt_of_lt_of_le p10 hN, by rw [(st.1 _ em).2.1]; exact p11⟩, ⟨ts, t1, t2, t3, fun i t ht => ?_⟩, wKn_k p12 (fun y _ => cp _ y) (fun o f _ _ _ => (ch _ ch_O).1) (ow _) eK bd, fun o h1 h2 => ?_⟩
        · obtain ⟨u1, u2, u3, u4, u5⟩ := t4 i t ht
          rw [(ch (pM (6 * b + ms.2.2.1 b k) i) ch_M).1, (ch (pM (6 * b + ms.2.2.1 b k) i) ch_M).2, c10, rl 106 _ (by decide) (by decide)]
          exact ⟨u1, by rw [st.2.1 _ ch_M (by rw [u2]; exact em)]; exact u2, vAl_e u3 eK, u4, u5⟩
        · rw [rr 105 _ (by decide) (by decide), eK]; exact p13 o h1 h2
      · rw [rr 104 _ (by decide) (by decide)]; exact m8 j hj hz
end SI2
