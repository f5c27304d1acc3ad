/-! WHAT IS LEFT ALONE STAYS. -/
/-- more objects, more actors -/
def kaX (ka ka' : kAp) : Prop := (∀ o, o ≤ ka.2.2.1 → ka'.1 o = ka.1 o) ∧ (∀ b, b < ka.2.2.2 → ka'.2.1 b = ka.2.1 b) ∧ ka.2.2.1 ≤ ka'.2.2.1 ∧ ka.2.2.2 ≤ ka'.2.2.2
section KEP
variable {sB : rS} {A B : Nat → Int32} {mi : Nat → Nat × Nat × Nat × Nat × Nat} {om om' : oMg} {ka ka' : kAp} {N N' : Nat} {sg sg' : cS} {s s' : rS} {a a1 a2 b d e t : Nat} {E P : Nat → Prop} {x : Nat → fDs} {S : List stE} {v : Int64}
theorem kaX_r : kaX ka ka := ⟨fun _ _ => rfl, fun _ _ => rfl, Nat.le_refl _, Nat.le_refl _⟩
theorem vTy_k (h : vTy ka a t v) (k : kaX ka ka') : vTy ka' a t v := by
  obtain ⟨k1, k2, k3, k4⟩ := k
  rcases h with h | h | ⟨h1, h2, h3⟩ | ⟨h1, h2, h3⟩ | ⟨h1, h2, h3, h4, h5⟩
  · exact Or.inl h
  · exact Or.inr (Or.inl h)
  · refine Or.inr (Or.inr (Or.inl ⟨h1, h2, ?_⟩))
    rcases h3 with h3 | ⟨o, o1, o2, o3, o4⟩
    · exact Or.inl h3
    · exact Or.inr ⟨o, o1, Nat.le_trans o2 k3, o3, by rw [k1 o o2]; exact o4⟩
  · refine Or.inr (Or.inr (Or.inr (Or.inl ⟨h1, h2, ?_⟩)))
    rcases h3 with h3 | ⟨o, o1, o2, o3⟩
    · exact Or.inl h3
    · exact Or.inr ⟨o, Nat.lt_of_lt_of_le o1 k4, o2, by rw [k2 o o1]; exact o3⟩
  · exact Or.inr (Or.inr (Or.inr (Or.inr ⟨h1, h2, h3, Nat.lt_of_lt_of_le h4 k4, by rw [k2 a h4]; exact h5⟩)))
/-- only values of a class's type hold objects -/
theorem vTy_o (h : vTy ka a t v) (ho : oV v ≠ 0) : isO t = true ∧ t ≠ 0 := by
  rcases h with ⟨_, y, h⟩ | ⟨_, h⟩ | ⟨h1, h2, _⟩ | ⟨_, _, h | ⟨b, _, h, _⟩⟩ | ⟨_, _, h, _⟩
  · rw [h, oV_1] at ho; exact absurd rfl ho
  · rw [h, oV_0] at ho; exact absurd rfl ho
  · refine ⟨?_, by omega⟩
    unfold isO
    rw [decide_eq_true h1, decide_eq_true h2]
    rfl
  · rw [h, oV_0] at ho; exact absurd rfl ho
  · rw [h, oV_3] at ho; exact absurd rfl ho
  · rw [h, oV_3] at ho; exact absurd rfl ho
theorem sVl_m {P Q : stE → Nat → Prop} : ∀ (S : List stE), sVl P S → (∀ y j, y ∈ S → j < S.length → P y j → Q y j) → sVl Q S
  | [], _, _ => trivial
  | y :: r, h, k => ⟨k y r.length (List.mem_cons_self ..) (Nat.lt_succ_self _) h.1, sVl_m r h.2 (fun z j hz hj hp => k z j (List.mem_cons_of_mem _ hz) (Nat.lt_succ_of_lt hj) hp)⟩
/-- what is known goes on to be known -/
def knK (om om' : oMg) (b : Nat) : Prop := ∀ l, om'.2.1 l ≠ 0 → om'.2.2.1.1 l ≠ 0 → om'.2.2.1.2.2.2.2 (om'.2.2.1.1 l) = b → oV (om'.1 l) ≠ 0 → om.2.2.2.1 b (oV (om'.1 l)) → om'.2.2.2.1 b (oV (om'.1 l))
theorem knK_of (h : ∀ o, om.2.2.2.1 b o → om'.2.2.2.1 b o) : knK om om' b := fun _ _ _ _ _ h2 => h _ h2
theorem vAl_k {l : Nat} (h : vAl om ka b t (om.1 l)) (k : kaX ka ka') (kn : knK om om' b) (hT : om.2.1 l = t) (hR : om'.2.2.1.1 l ≠ 0 ∨ t = 0) (ho : om'.2.2.1.2.2.2.2 (om'.2.2.1.1 l) = b ∨ t = 0) (eW : om'.1 l = om.1 l) (eT : om'.2.1 l = om.2.1 l) : vAl om' ka' b t (om'.1 l) := by
  rw [eW]
  refine ⟨vTy_k h.1 k, fun o0 => ?_⟩
  have ot := vTy_o h.1 o0
  have r0 : om'.2.2.1.1 l ≠ 0 := by
    rcases hR with z | z
    · exact z
    · exact absurd z ot.2
  have rb : om'.2.2.1.2.2.2.2 (om'.2.2.1.1 l) = b := by
    rcases ho with z | z
    · exact z
    · exact absurd z ot.2
  have := kn l (by rw [eT, hT]; exact ot.2) r0 rb (by rw [eW]; exact o0) (by rw [eW]; exact h.2 o0)
  rw [eW] at this
  exact this
theorem fOk_k (h : fOk sB A B mi om ka N sg s b x e S) (c7 : sg'.2.2.2.1 b 7 e = sg.2.2.2.1 b 7 e) (c8 : sg'.2.2.2.1 b 8 e = sg.2.2.2.1 b 8 e) (c9 : sg'.2.2.2.1 b 9 e = sg.2.2.2.1 b 9 e)
    (c12 : ∀ i, i < fBs (x e) + (mi (fMe (x e))).2.2.2.2 + S.length → sg'.2.2.2.1 b 12 i = sg.2.2.2.1 b 12 i) (r99 : s'.2.1 99 (10 * b + e) = s.2.1 99 (10 * b + e)) (r100 : s'.2.2 100 (10 * b + e) = s.2.2 100 (10 * b + e)) (r101 : ∀ sl, sl < 16 → s'.2.2 101 (16 * (10 * b + e) + sl) = s.2.2 101 (16 * (10 * b + e) + sl)) (r97 : ∀ k, k < fQ (x e) + S.length → s'.2.2 97 (10100 * b + k) = s.2.2 97 (10100 * b + k))
    (hN : ∀ sl, sl < 16 → om'.1 (pN (10 * b + e) sl) = om.1 (pN (10 * b + e) sl) ∧ om'.2.1 (pN (10 * b + e) sl) = om.2.1 (pN (10 * b + e) sl) ∧ ¬ P (pN (10 * b + e) sl)) (hH : om'.1 (pH (10 * b + e)) = om.1 (pH (10 * b + e)) ∧ om'.2.1 (pH (10 * b + e)) = om.2.1 (pH (10 * b + e)) ∧ ¬ P (pH (10 * b + e))) (hS : ∀ k, k < fQ (x e) + S.length → om'.1 (pS b k) = om.1 (pS b k) ∧ om'.2.1 (pS b k) = om.2.1 (pS b k) ∧ ¬ P (pS b k))
    (st : rSt a a1 E P om.2.2.1 om'.2.2.1) (hE : ∀ e' j, e' ≤ e → j ≤ fL (x e') → E (fRe (x e') j)) (kn : knK om om' b) (k : kaX ka ka') (rm : om'.2.2.2.2 b = om.2.2.2.2 b) (bc : b < ka.2.2.2) (hNN : N ≤ N') (sl : ∀ y ∈ S, y.2.2 ≤ fL (x e))
    (see : (∀ y ∈ S, y.2.1 = false) ∨ ((∀ o, om.2.2.2.1 b o → om'.2.2.2.1 b o) ∧ ∀ t j u, j ≤ fL (x e) → sEe om b t (fRe (x e) j) u → sEe om' b t (fRe (x e) j) u)) : fOk sB A B mi om' ka' N' sg' s' b x e S := by
  obtain ⟨⟨p, q, b', j, z1, z2, z3, z4, z5⟩, ⟨v1, v2, v3, v4⟩, ⟨g1, g2⟩, nm, od, lk⟩ := h
  have hEe : ∀ j, j ≤ fL (x e) → E (fRe (x e) j) := fun j hj => hE e j (Nat.le_refl e) hj
  have own : ∀ j, j ≤ fL (x e) → om'.2.2.1.2.2.2.2 (fRe (x e) j) = b := fun j hj => by rw [(st.1 _ (hEe j hj)).2.1]; exact (g1 j hj).2.2
  refine ⟨⟨p, q, b', j, z1, z2, by rw [c7]; exact z3, by rw [r99]; exact z4, z5⟩, ⟨by rw [c8]; exact v1, fun y hy gy => ?_, ?_, ?_⟩, ⟨fun j hj => ?_, fun j h1 hj => ?_⟩, nm, fun d' j' j hd hj => ?_, ?_⟩
  · -- names
    obtain ⟨w1, w2, w3, w4, w5⟩ := v2 y hy gy
    have s16 := (nm.1.1 y hy).1
    have lv := nm.1.2 y hy
    have sl := nm.2.2.1 y hy
    obtain ⟨n1, n2, n3⟩ := hN _ s16
    have hr : om'.2.2.1.1 (pN (10 * b + e) y.2.1) = fRe (x e) y.2.2.2 := by
      rw [st.2.1 _ n3 (by rw [w3]; exact hEe _ lv), w3]
    refine ⟨vAl_k w1 k kn w2 (Or.inl (by rw [hr]; exact (g1 _ lv).1)) (Or.inl (by rw [hr]; exact own _ lv)) n1 n2, by rw [n2]; exact w2, hr, ?_, ?_⟩
    · rw [c12 _ (by omega), n1]; exact w4
    · rw [r101 _ s16, n1]; exact w5
  · -- this
    obtain ⟨tt, t1, t2, t3, t4, t5, t6, t7, t8⟩ := v3
    obtain ⟨n1, n2, n3⟩ := hH
    have hr : om'.2.2.1.1 (pH (10 * b + e)) = fRe (x e) 0 := by
      rw [st.2.1 _ n3 (by rw [t5]; exact hEe _ (Nat.zero_le _)), t5]
    exact ⟨tt, t1, vAl_k t2 k kn t4 (Or.inl (by rw [hr]; exact (g1 0 (Nat.zero_le _)).1)) (Or.inl (by rw [hr]; exact own 0 (Nat.zero_le _))) n1 n2, by rw [n1]; exact t3, by rw [n2]; exact t4, hr, by rw [c9, n1]; exact t6, by rw [r100, n1]; exact t7, fun z => by rw [rm]; exact t8 z⟩
  · -- stack
    refine sVl_m S v4 (fun y j hy hj pe => ?_)
    obtain ⟨w1, w2, w3, w4, w6⟩ := pe
    obtain ⟨n1, n2, n3⟩ := hS (fQ (x e) + j) (by omega)
    have lv := sl y hy
    refine ⟨?_, ?_, ?_, ?_, w6.1, fun z1 z2 => by rw [rm]; exact w6.2 z1 z2⟩
    · rcases w4 with ⟨u1, u2⟩ | ⟨u1, u2, u3, u4, u5⟩
      · by_cases y0 : y.1 = 0
        · exact vAl_k w1 k kn u1 (Or.inr y0) (Or.inr y0) n1 n2
        · have hr : om'.2.2.1.1 (pS b (fQ (x e) + j)) = fRe (x e) y.2.2 := by
            rw [st.2.1 _ n3 (by rw [u2 y0]; exact hEe _ lv), u2 y0]
          exact vAl_k w1 k kn u1 (Or.inl (by rw [hr]; exact (g1 _ lv).1)) (Or.inl (by rw [hr]; exact own _ lv)) n1 n2
      · rcases see with z | z
        · exact absurd u1 (by rw [z y hy]; decide)
        · rw [n1]
          exact ⟨vTy_k w1.1 k, fun o0 => z.1 _ (w1.2 o0)⟩
    · rw [c12 _ (by omega), n1]; exact w2
    · rw [r97 _ (by omega), n1]; exact w3
    · rcases w4 with ⟨u1, u2⟩ | ⟨u1, u2, u3, u4, u5⟩
      · left
        refine ⟨by rw [n2]; exact u1, fun y0 => ?_⟩
        rw [st.2.1 _ n3 (by rw [u2 y0]; exact hEe _ lv), u2 y0]
      · rcases see with z | z
        · exact absurd u1 (by rw [z y hy]; decide)
        · right
          refine ⟨u1, u2, u3, by rw [n2]; exact u4, fun o0 => ?_⟩
          rw [n1] at o0 ⊢
          exact z.2 _ _ _ lv (u5 o0)
  · exact ⟨(g1 j hj).1, Nat.lt_of_lt_of_le (g1 j hj).2.1 hNN, own j hj⟩
  · rw [(st.1 _ (hEe j hj)).1]; exact g2 j h1 hj
  · obtain ⟨o1, o2⟩ := od d' j' j hd hj
    refine ⟨fun hne hin => o1 hne ?_, o2⟩
    have : E (fRe (x d') j') := by
      rcases hd with z | z
      · exact hE d' j' (by omega) z.2
      · rw [z.1]; exact hEe j' (by omega)
    exact ((st.1 _ this).2.2.2 _).mp hin
  · rcases lk with ⟨h0, f1, f2, f3, f4⟩ | ⟨d', hd, t, le, S0, l1, l2, l3, l4, l5⟩
    · exact Or.inl ⟨h0, f1, f2, by rw [rm]; exact f3, by rw [k.2.1 b bc]; exact f4⟩
    · refine Or.inr ⟨d', hd, t, le, S0, l1, l2, l3, l4, ?_⟩
      rcases l5 with l5 | ⟨m1, m2, kk, cp, m3, m4, m5, m6, m7, m8⟩
      · exact Or.inl l5
      · refine Or.inr ⟨m1, m2, kk, cp, m3, m4, m5, m6, m7, ?_⟩
        rcases m8 with m8 | ⟨m8, m9, m10⟩
        · exact Or.inl m8
        · refine Or.inr ⟨?_, m9, m10⟩
          have : E (fRe (x (d' + 1)) 0) := by
            have := hE e 0 (Nat.le_refl e) (Nat.zero_le _)
            rw [hd] at this
            exact this
          rw [(st.1 _ this).1]
          exact m8
end KEP
