/-! BOTH CHECK: a name is declared. -/
/-- pigeons -/
theorem pig : ∀ (N len : Nat) (g : Nat → Nat), (∀ i, i < len → g i < N) → (∀ i j, i < len → j < len → g i = g j → i = j) → len ≤ N := by
  intro N
  induction N with
  | zero =>
    intro len g h1 _
    cases len with
    | zero => exact Nat.le_refl _
    | succ len => exact absurd (h1 0 (by omega)) (by omega)
  | succ N ih =>
    intro len g h1 h2
    by_cases c : ∃ i0, i0 < len ∧ g i0 = N
    · obtain ⟨i0, c1, c2⟩ := c
      have := ih (len - 1) (fun i => if i < i0 then g i else g (i + 1)) (fun i hi => by
        by_cases d : i < i0
        · rw [if_pos d]
          have := h1 i (by omega)
          have ne : g i ≠ N := fun z => by
            have := h2 i i0 (by omega) c1 (z.trans c2.symm)
            omega
          omega
        · rw [if_neg d]
          have := h1 (i + 1) (by omega)
          have ne : g (i + 1) ≠ N := fun z => by
            have := h2 (i + 1) i0 (by omega) c1 (z.trans c2.symm)
            omega
          omega) (fun i j hi hj => by
        intro e
        by_cases d : i < i0
        · by_cases d2 : j < i0
          · rw [if_pos d, if_pos d2] at e
            exact h2 i j (by omega) (by omega) e
          · rw [if_pos d, if_neg d2] at e
            have := h2 i (j + 1) (by omega) (by omega) e
            omega
        · by_cases d2 : j < i0
          · rw [if_neg d, if_pos d2] at e
            have := h2 (i + 1) j (by omega) (by omega) e
            omega
          · rw [if_neg d, if_neg d2] at e
            have := h2 (i + 1) (j + 1) (by omega) (by omega) e
            omega)
      omega
    · have := ih len g (fun i hi => by
        have := h1 i hi
        have ne : g i ≠ N := fun z => c ⟨i, hi, z⟩
        omega) h2
      omega
section JDC
variable {L : Nat} {xs : Nat → Int32} {zf : Value} {w C Sc M Pl Ph LO HI nk m lv n p q i d lo hi k k2 td sn : Nat} {cx : Nat → Nat} {hB h h1 h2 : rm_H} {s0 s s1 s2 : rS} {pt vr gn gn1 a b a1 b1 x y rc t v : Int32} {mv : Value} {ds kl ml : List Nat} {G : List scN} {u u1 u2 : Nat → Nat} {A B A1 B1 : Nat → Int32} {c : Int64} {X : scN} {f f' : Nat → Int64} {sl ty sl' ty' : Nat → Int32}
/-- there is room for one name more -/
theorem G_room (gw : GW s0 nk G lv k) (hs : sn < 16) (hG : ∀ (i : Nat) (x : scN), G[i]? = some x → x.2.1 ≠ sn) : G.length < 16 := by
  have := pig 16 (G.length + 1) (fun i => if i < G.length then (gAt G i).2.1 else sn) (fun i hi => by
    by_cases c : i < G.length
    · rw [if_pos c]
      have hX : G[i]? = some (G[i]'c) := List.getElem?_eq_getElem c
      rw [gAt_of hX]
      exact (gw.2.2.1 i _ hX).1
    · rw [if_neg c]
      exact hs) (fun i j hi hj => by
    intro e
    by_cases c : i < G.length
    · have hX : G[i]? = some (G[i]'c) := List.getElem?_eq_getElem c
      rw [if_pos c, gAt_of hX] at e
      by_cases c2 : j < G.length
      · have hY : G[j]? = some (G[j]'c2) := List.getElem?_eq_getElem c2
        rw [if_pos c2, gAt_of hY] at e
        exact gw.1.2 i j _ _ hX hY e
      · rw [if_neg c2] at e
        exact absurd e (hG i _ hX)
    · by_cases c2 : j < G.length
      · have hY : G[j]? = some (G[j]'c2) := List.getElem?_eq_getElem c2
        rw [if_neg c, if_pos c2, gAt_of hY] at e
        exact absurd e.symm (hG j _ hY)
      · omega)
  omega
theorem KH_cg (kh : KH L xs cx C Sc M pt vr mv h ds f sl ty gn rc a b u A B) (e : ∀ i, i < ds.length → f' i = f i ∧ sl' i = sl i ∧ ty' i = ty i) : KH L xs cx C Sc M pt vr mv h ds f' sl' ty' gn rc a b u A B := by
  obtain ⟨k1, k2, k3, k4, k5, k6⟩ := kh
  refine ⟨k1, k2, k3, k4, fun i d hd => ?_, k6⟩
  obtain ⟨e1, e2, e3⟩ := e i (List.getElem?_eq_some_iff.mp hd).1
  rw [e1, e2, e3]
  exact k5 i d hd
/-- both declare -/
theorem CK_se (e : CKJ L xs cx C Sc M pt vr mv hB s0 nk m h s ds G lv gn 0 b u A B) (hs : sn < 16) (ht : dTy td = true) (hv : vT s0 nk td) (hN : ∀ X ∈ G, X.1 ≠ c) (hG : ∀ (i : Nat) (x : scN), G[i]? = some x → x.2.1 ≠ sn) (h0 : gn &&& (bt sn ^^^ (-1)) = gn) (kh : KH L xs cx C Sc M pt vr mv h1 (ds ++ [d]) (pu (gN G) ds.length c) (pu (gSl G) ds.length (Int32.ofNat sn)) (pu (gTp G) ds.length (cT td)) gn (if lv = 0 then 0 else 1) 0 b u1 A1 B1) (u0 : u1 0 = u 0) (wf : wF cx C Sc Pl Ph u h h1) : CKJ L xs cx C Sc M pt vr mv hB s0 nk m h1 (seS s G.length c (Int32.ofNat sn) (rTp td)) (ds ++ [d]) (G ++ [(c, sn, td, lv)]) lv gn 0 b u1 A1 B1 := by
  obtain ⟨e1, e2, e3, e4, e5, e6, e7, e8⟩ := e
  obtain ⟨r62, r63, r64, r66, rr⟩ := e7 rfl
  have room := G_room e8 hs hG
  have uo : u 0 ≤ ds.length := e1.2.2.2.2.2.2.2.2.2
  have old : ∀ i, i < G.length → (G ++ [(c, sn, td, lv)])[i]? = G[i]? := fun i hi => List.getElem?_append_left hi
  have new : (G ++ [(c, sn, td, lv)])[G.length]? = some (c, sn, td, lv) := by
    rw [List.getElem?_append_right (Nat.le_refl _), Nat.sub_self]
    rfl
  have cs : ∀ i X, (G ++ [(c, sn, td, lv)])[i]? = some X → (i < G.length ∧ G[i]? = some X) ∨ (i = G.length ∧ X = (c, sn, td, lv)) := by
    intro i X hX
    by_cases q : i < G.length
    · rw [old i q] at hX
      exact Or.inl ⟨q, hX⟩
    · have := (List.getElem?_eq_some_iff.mp hX).1
      rw [List.length_append, List.length_singleton] at this
      have ei : i = G.length := by omega
      subst ei
      rw [new] at hX
      exact Or.inr ⟨rfl, (Option.some.inj hX).symm⟩
  have gat : ∀ i, i < G.length → gAt (G ++ [(c, sn, td, lv)]) i = gAt G i := fun i hi => by
    have hX : G[i]? = some (G[i]'hi) := List.getElem?_eq_getElem hi
    rw [gAt_of hX, gAt_of ((old i hi).trans hX)]
  have gat2 : gAt (G ++ [(c, sn, td, lv)]) G.length = (c, sn, td, lv) := gAt_of new
  refine ⟨KH_cg kh (fun i hi => ?_), by rw [List.length_append, List.length_append, e2]; rfl, bH_w e1 wf e3, rK_trans e4 ?_, ?_, fun z => absurd rfl z, fun _ => ⟨?_, ?_, ?_, ?_, fun i X hX => ?_⟩, ?_⟩
  · rw [List.length_append, List.length_singleton] at hi
    unfold gN gSl gTp pu
    by_cases q : i = ds.length
    · have q2 : i = G.length := q.trans e2
      rw [if_pos q, if_pos q, if_pos q, q2, gat2]
      exact ⟨rfl, rfl, rfl⟩
    · rw [if_neg q, if_neg q, if_neg q, gat i (by omega)]
      exact ⟨rfl, rfl, rfl⟩
  · unfold seS
    refine ⟨fun j hj => ?_, fun p q1 q2 q3 q4 q5 => ?_, fun p q1 => ?_⟩
    · rw [w_ne _ _ (by omega), w_ne _ _ (by omega)]
      rfl
    · show (rs_wA (rs_wA (rs_wA (rs_wB s 82 G.length c) 83 G.length (Int32.ofNat sn)) 84 G.length (rTp td)) 85 G.length (s.1 63)).2.1 p = _
      rw [wA_ne _ _ _ q4, wA_ne _ _ _ q3, wA_ne _ _ _ q2]
      rfl
    · show (rs_wB s 82 G.length c).2.2 p = _
      rw [wB_ne _ _ _ q1]
  · unfold seS
    rw [w_ne _ _ (by decide), w_ne _ _ (by decide)]
    exact e5
  · unfold seS
    rw [w_eq, List.length_append]
    rfl
  · unfold seS
    rw [w_ne _ _ (by decide), w_ne _ _ (by decide)]
    exact r63
  · unfold seS
    rw [w_ne _ _ (by decide), w_eq, r64]
    exact h0
  · unfold seS
    rw [w_ne _ _ (by decide), w_ne _ _ (by decide), w_ne _ _ (by decide), w_ne _ _ (by decide)]
    exact r66
  · have rA : ∀ p, (seS s G.length c (Int32.ofNat sn) (rTp td)).2.1 p i = if p = 85 ∧ i = G.length then s.1 63 else if p = 84 ∧ i = G.length then rTp td else if p = 83 ∧ i = G.length then Int32.ofNat sn else s.2.1 p i := by
      intro p
      show (rs_wA (rs_wA (rs_wA (rs_wB s 82 G.length c) 83 G.length (Int32.ofNat sn)) 84 G.length (rTp td)) 85 G.length (s.1 63)).2.1 p i = _
      rw [wA_get, wA_get, wA_get]
      rfl
    have rB : (seS s G.length c (Int32.ofNat sn) (rTp td)).2.2 82 i = if i = G.length then c else s.2.2 82 i := by
      show (rs_wB s 82 G.length c).2.2 82 i = _
      rw [wB_get]
      simp
    rw [rA, rA, rA, rB]
    rcases cs i X hX with ⟨q1, q2⟩ | ⟨q1, q2⟩
    · obtain ⟨x1, x2, x3, x4⟩ := rr i X q2
      have ne : ¬ i = G.length := by omega
      rw [if_neg ne, if_neg (fun z => ne z.2), if_neg (fun z => ne z.2), if_neg (fun z => ne z.2), if_neg (fun z => ne z.2), if_neg (fun z => ne z.2), if_neg (fun z => ne z.2), if_neg (fun z => ne z.2), if_neg (fun z => ne z.2), if_neg (fun z => ne z.2)]
      exact ⟨x1, x2, x3, x4⟩
    · subst q1
      subst q2
      simp
      exact r63
  · obtain ⟨⟨g1, g1'⟩, g2, g3, g4⟩ := e8
    refine ⟨⟨by rw [List.length_append, List.length_singleton]; omega, fun i j X Y hX hY eq => ?_⟩, g2, fun i X hX => ?_, fun i j X Y hX hY eq => ?_⟩
    · rcases cs i X hX with ⟨q1, q2⟩ | ⟨q1, q2⟩
      · rcases cs j Y hY with ⟨q3, q4⟩ | ⟨q3, q4⟩
        · exact g1' i j X Y q2 q4 eq
        · subst q4
          exact absurd eq (hG i X q2)
      · rcases cs j Y hY with ⟨q3, q4⟩ | ⟨q3, q4⟩
        · subst q2
          exact absurd eq.symm (hG j Y q4)
        · omega
    · rcases cs i X hX with ⟨q1, q2⟩ | ⟨q1, q2⟩
      · rw [u0]
        exact g3 i X q2
      · subst q2
        refine ⟨hs, ht, hv, Nat.le_refl _, ?_⟩
        rw [u0]
        show lv < lv ↔ i < u 0
        omega
    · rcases cs i X hX with ⟨q1, q2⟩ | ⟨q1, q2⟩
      · rcases cs j Y hY with ⟨q3, q4⟩ | ⟨q3, q4⟩
        · exact g4 i j X Y q2 q4 eq
        · subst q4
          exact absurd eq (hN X (List.mem_of_getElem? q2))
      · rcases cs j Y hY with ⟨q3, q4⟩ | ⟨q3, q4⟩
        · subst q2
          exact absurd eq.symm (hN Y (List.mem_of_getElem? q4))
        · omega
end JDC
