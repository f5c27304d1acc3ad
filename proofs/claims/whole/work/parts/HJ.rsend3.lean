/-! THE REFERENCE SENDS: the whole. -/
section RS3
variable {s s' : rS} {w k : Nat} {br wl : Nat → Int32} {bt ag : Nat → Int64} {row i a s0 to m first np p0 wt : Nat} {L : List Nat} {Kn : Nat → Prop}
/-- arguments -/
theorem r_send_a (ha : a < 12) (h0 : s0 < 72) (hw : 500 ≤ w) (n6 : np ≤ 6) (hf : first + np ≤ 10100) (vk : ∀ j, j < np → vKn Kn (s.2.2 97 (10100 * a + first + j))) : ∀ (r : Nat) (br wl : Nat → Int32) (ag : Nat → Int64) (L : List Nat) (j N : Nat), j + r = np → WLI Kn (401 * s0) br wl L → r < N → ∃ (br' wl' : Nat → Int32) (ag' : Nat → Int64) (X : List Nat), s377_135 (rM w (k + 2)) w N (Int32.ofNat a) (Int32.ofNat first) (Int32.ofNat s0) (Int32.ofNat (401 * s0)) (Int32.ofNat L.length) (Int32.ofNat np) (Int32.ofNat j) (sSd s br wl bt ag) = s377_196 (rM w (k + 2)) w w (Int32.ofNat a) (Int32.ofNat s0) (Int32.ofNat (401 * s0)) (Int32.ofNat (L ++ X).length) 0 (sSd s br' wl' bt ag') ∧ WLI Kn (401 * s0) br' wl' (L ++ X) ∧ (∀ i, j ≤ i → i < np → ag' (6 * s0 + i) = s.2.2 97 (10100 * a + first + i) ∧ vIn (L ++ X) (s.2.2 97 (10100 * a + first + i))) ∧ (∀ i, (i < 6 * s0 + j ∨ 6 * s0 + np ≤ i) → ag' i = ag i) ∧ ∀ j, (j < 401 * s0 ∨ 401 * s0 + 401 ≤ j) → br' j = br j := by
  intro r
  induction r with
  | zero =>
    intro br wl ag L j N hj wi hN
    obtain ⟨N', rfl⟩ : ∃ N', N = N' + 1 := ⟨N - 1, by omega⟩
    have ej : j = np := by omega
    subst ej
    refine ⟨br, wl, ag, [], ?_, by rw [List.append_nil]; exact wi, fun i h1 h2 => by omega, fun _ _ => rfl, fun _ _ => rfl⟩
    rw [List.append_nil]
    show (if mx_f2 .ge (Int32.ofNat j) (Int32.ofNat j) = true then _ else _) = _
    rw [if_pos (by rw [f2_ge]; exact decide_eq_true (Int.le_refl _))]
  | succ r ih =>
    intro br wl ag L j N hj wi hN
    obtain ⟨N', rfl⟩ : ∃ N', N = N' + 1 := ⟨N - 1, by omega⟩
    obtain ⟨br1, wl1, X1, g1, g2, g3, g4⟩ := r_fol (s := s) (w := w) (k := k) (bt := bt) (ag := vp_updL ag (6 * s0 + j) (s.2.2 97 (10100 * a + first + j))) (row := 401 * s0) (by omega) wi (vk j (by omega))
    obtain ⟨br', wl', ag', X2, r1, r2, r3, r4, r5⟩ := ih br1 wl1 (vp_updL ag (6 * s0 + j) (s.2.2 97 (10100 * a + first + j))) (L ++ X1) (j + 1) N' (by omega) g2 (by omega)
    rw [List.append_assoc] at r1 r2 r3
    refine ⟨br', wl', ag', X1 ++ X2, ?_, r2, fun i h1 h2 => ?_, fun i hi => ?_, fun j hj => (r5 j hj).trans (g4 j hj)⟩
    · show (if mx_f2 .ge (Int32.ofNat j) (Int32.ofNat np) = true then _ else _) = _
      rw [if_neg (by rw [f2_ge, of_int (by omega), of_int (by omega)]; exact fun z => absurd (of_decide_eq_true z) (by omega)), show (10100 : Int32) = Int32.ofNat 10100 from rfl, mul_of, of_add, of_add]
      refine bsq (aJ_at (s := sSd s br wl bt ag) (p := 97) (i := 10100 * a + first + j) (n := 121200) (by decide) rfl (by omega) (by decide)) ?_
      rw [show (6 : Int32) = Int32.ofNat 6 from rfl, mul_of, of_add]
      refine bsq (sJ_at (p := 106) (i := 6 * s0 + j) (n := 432) (by decide) rfl (by omega) (by decide)) ?_
      rw [sd_106]
      refine bsq (a := (Int32.ofNat (L ++ X1).length, _)) (by rw [show (sSd s br wl bt ag).2.2 97 (10100 * a + first + j) = s.2.2 97 (10100 * a + first + j) from rfl, g1]; rfl) ?_
      rw [of_inc]
      exact r1
    · by_cases e : i = j
      · subst e
        refine ⟨?_, by rw [← List.append_assoc]; exact vIn_up g3⟩
        rw [r4 _ (by omega), updL_eq]
      · exact r3 i (by omega) h2
    · rw [r4 i (by omega), updL_ne (by omega)]
theorem r_send_c (h0 : s0 < 72) (a1 a2 a3 a4 : Int32) : ∀ (r : Nat) (g : Nat → Int32) (o N : Nat), o + r = 401 → r < N → ∃ g' : Nat → Int32, s377_87 (rM w k) w N a1 a2 a3 a4 (Int32.ofNat (401 * s0)) (Int32.ofNat o) (rsI s 105 g) = (rs_aI (rsI s 105 g') 77 (a1 + 1)).bind (fun x2 => (rs_aI (rsI s 105 g') 77 a1).bind fun x4 => s377_135 (rM w k) w w a2 a3 a4 (Int32.ofNat (401 * s0)) 0 (x2 - x4) 0 (rsI s 105 g')) ∧ (∀ j, o ≤ j → j ≤ 400 → g' (401 * s0 + j) = 0) ∧ ∀ j, (j < 401 * s0 + o ∨ 401 * s0 + 401 ≤ j) → g' j = g j := by
  intro r
  induction r with
  | zero =>
    intro g o N ho hN
    obtain ⟨N', rfl⟩ : ∃ N', N = N' + 1 := ⟨N - 1, by omega⟩
    have : o = 401 := by omega
    subst this
    refine ⟨g, ?_, fun j h1 h2 => by omega, fun _ _ => rfl⟩
    show (if mx_f2 .gt (Int32.ofNat 401) 400 = true then _ else _) = _
    rw [if_pos (by decide)]
  | succ r ih =>
    intro g o N ho hN
    obtain ⟨N', rfl⟩ : ∃ N', N = N' + 1 := ⟨N - 1, by omega⟩
    obtain ⟨g', r1, r2, r3⟩ := ih (upd g (401 * s0 + o) 0) (o + 1) N' (by omega) (by omega)
    refine ⟨g', ?_, fun j h1 h2 => ?_, fun j hj => ?_⟩
    · show (if mx_f2 .gt (Int32.ofNat o) 400 = true then _ else _) = _
      rw [if_neg (by rw [f2_gt, of_int (by omega), show (400 : Int32).toInt = 400 from by decide]; exact fun z => absurd (of_decide_eq_true z) (by omega)), of_add]
      refine bsq (sB_at (p := 105) (i := 401 * s0 + o) (n := 28872) (by decide) rfl (by omega) (by decide)) ?_
      rw [rsI_w, of_inc]
      exact r1
    · by_cases e : j = o
      · rw [e, r3 _ (by omega), upd_eq']
      · exact r2 j (by omega) h2
    · rw [r3 j (by omega), upd_ne' (by omega)]
/-- the state of a message that begins -/
def sS1 (s : rS) (to wt s0 m : Nat) : rS := rs_wA (rs_w (rs_wA (rs_wA (rs_wA s 104 s0 1) 102 (6 * to + wt) (Int32.ofNat s0)) 94 to (Int32.ofNat (wt + 1))) 82 (s.1 82 + 1)) 103 s0 (Int32.ofNat m)
theorem r_send_s (i1 : Int32) (i2 i3 i4 : Int32) : ∀ (r j N : Nat) (x : Nat), x + r = s0 → s0 < 72 → (∀ i, x ≤ i → i < s0 → s.2.1 104 i = 1) → r < N → s377_6 (rM w k) w N i1 i2 i3 i4 (Int32.ofNat x) s = s377_6 (rM w k) w (N - r) i1 i2 i3 i4 (Int32.ofNat s0) s := by
  intro r
  induction r with
  | zero =>
    intro j N x hx _ _ hN
    have : x = s0 := by omega
    subst this
    rfl
  | succ r ih =>
    intro j N x hx h7 hu hN
    obtain ⟨N', rfl⟩ : ∃ N', N = N' + 1 := ⟨N - 1, by omega⟩
    have := ih j N' (x + 1) (by omega) h7 (fun i h1 h2 => hu i (by omega) h2) (by omega)
    rw [show N' + 1 - (r + 1) = N' - r from by omega, ← this]
    show (rs_aB s 104 (Int32.ofNat x)).bind _ = _
    refine bsq ((aB_at (p := 104) (i := x) (n := 72) (by decide) rfl (by omega) (by decide)).trans (congrArg some (hu x (by omega) (by omega)))) ?_
    rw [if_neg (by decide), of_inc]
theorem r_sendM {j : Nat} (ht : to < 12) (ha : a < 12) (hm : m < 72) (hj : j < 6) (hfr : s.2.1 104 (6 * to + j) = 0) (hus : ∀ i, i < j → s.2.1 104 (6 * to + i) = 1) (h94 : s.2.1 94 to = Int32.ofNat wt) (w6 : wt < 6) (h77 : s.2.1 77 m = Int32.ofNat p0) (h77' : s.2.1 77 (m + 1) = Int32.ofNat (p0 + np)) (hp : p0 + np ≤ 500) (n6 : np ≤ 6) (hf : first + np ≤ 10100) (hw : 500 ≤ w) (vk : ∀ j, j < np → vKn Kn (s.2.2 97 (10100 * a + first + j))) (kn : KNc s a Kn) : ∃ (br wl : Nat → Int32) (bt ag : Nat → Int64) (L : List Nat), rM w (k + 3) 377 [.ref 36, .int (Int32.ofNat to), .int (Int32.ofNat m), .int (Int32.ofNat a), .int (Int32.ofNat first)] s = some (none, sSd (sS1 s to wt (6 * to + j) m) br wl bt ag) ∧ WLI Kn (401 * (6 * to + j)) br wl L ∧ DON s a (6 * to + j) bt L L.length ∧ (∀ i, i < np → ag (6 * (6 * to + j) + i) = s.2.2 97 (10100 * a + first + i) ∧ vIn L (s.2.2 97 (10100 * a + first + i))) ∧ (∀ i, (i < 6 * (6 * to + j) ∨ 6 * (6 * to + j) + np ≤ i) → ag i = s.2.2 106 i) ∧ (∀ x, (x < 400 * (6 * to + j) ∨ 400 * (6 * to + j) + 400 ≤ x) → bt x = s.2.2 107 x) ∧ ∀ x, (x < 401 * (6 * to + j) ∨ 401 * (6 * to + j) + 401 ≤ x) → br x = s.2.1 105 x := by
  have e1 : ∀ S : rS, S = sS1 s to wt (6 * to + j) m → S.2.2 = s.2.2 ∧ S.2.1 87 = s.2.1 87 ∧ S.2.1 88 = s.2.1 88 ∧ S.2.1 64 = s.2.1 64 ∧ S.2.1 69 = s.2.1 69 ∧ S.2.1 60 = s.2.1 60 ∧ S.2.1 77 = s.2.1 77 ∧ S.2.1 105 = s.2.1 105 := fun S e => by rw [e]; exact ⟨rfl, rfl, rfl, rfl, rfl, rfl, rfl, rfl⟩
  generalize hS : sS1 s to wt (6 * to + j) m = S at *
  obtain ⟨E2, E87, E88, E64, E69, E60, E77, E105⟩ := e1 S rfl
  have obj : ∀ o c bs nf, OBJ S o c bs nf ↔ OBJ s o c bs nf := by
    intro o c bs nf
    unfold OBJ
    rw [E87, E88]
    refine ⟨fun ⟨z1, z2, z3, em, z4⟩ => ⟨z1, z2, z3, em, kf_k z4 E64.symm E69.symm E60.symm⟩, fun ⟨z1, z2, z3, em, z4⟩ => ⟨z1, z2, z3, em, kf_k z4 E64 E69 E60⟩⟩
  have kn' : KNc S a Kn := by
    intro o h1 h2 h3
    obtain ⟨c, bs, nf, z1, z2⟩ := kn o h1 h2 h3
    exact ⟨c, bs, nf, (obj o c bs nf).mpr z1, fun f hf => by rw [E2]; exact z2 f hf⟩
  obtain ⟨g, c1, c2, c3⟩ := r_send_c (s := S) (w := w) (k := k + 2) (s0 := 6 * to + j) (by omega) (Int32.ofNat m) (Int32.ofNat a) (Int32.ofNat first) (Int32.ofNat (6 * to + j)) 401 (S.2.1 105) 0 w (by omega) (by omega)
  rw [rsI_id] at c1
  have esd : rsI S 105 g = sSd S g (S.2.1 110) (S.2.2 107) (S.2.2 106) := by
    refine Prod.ext rfl (Prod.ext (funext fun q => ?_) (funext fun q => ?_))
    · show (if q = 105 then g else S.2.1 q) = if q = 110 then S.2.1 110 else if q = 105 then g else S.2.1 q
      by_cases c : q = 110
      · subst c
        rw [if_neg (by decide), if_pos rfl]
      · rw [if_neg c]
    · show S.2.2 q = if q = 106 then S.2.2 106 else if q = 107 then S.2.2 107 else S.2.2 q
      by_cases c : q = 106
      · rw [if_pos c, c]
      · rw [if_neg c]
        by_cases c2 : q = 107
        · rw [if_pos c2, c2]
        · rw [if_neg c2]
  have wi0 : WLI Kn (401 * (6 * to + j)) g (S.2.1 110) [] := ⟨List.nodup_nil, (fun i o h => absurd h (by simp)), (fun o ho => by rw [c2 o (by omega) ho]; simp), (fun o h => absurd h (by simp))⟩
  obtain ⟨br1, wl1, ag, X1, a1, a2, a3, a4, a5⟩ := r_send_a (s := S) (w := w) (k := k) (bt := S.2.2 107) (s0 := 6 * to + j) (first := first) ha (by omega) hw n6 hf (fun i hi => by rw [E2]; exact vk i hi) np g (S.2.1 110) (S.2.2 106) [] 0 w (by omega) wi0 (by omega)
  obtain ⟨br, wl, bt, X2, b1, b2, b3, b4, b5⟩ := r_send_w (s := S) (w := w) (k := k) (ag := ag) (s0 := 6 * to + j) ha (by omega) hw kn' w br1 wl1 (S.2.2 107) ([] ++ X1) 0 (by omega) (by omega) a2 (fun i o hi => by omega)
  refine ⟨br, wl, bt, ag, [] ++ X1 ++ X2, ?_, b2, ?_, fun i hi => ?_, fun i hi => ?_, fun x hx => ?_, fun x hx => ?_⟩
  · rw [y377]
    show s377_0 (rM w (k + 2)) w (Int32.ofNat to) (Int32.ofNat m) (Int32.ofNat a) (Int32.ofNat first) s = _
    unfold s377_0
    rw [show (6 : Int32) = Int32.ofNat 6 from rfl, mul_of, r_send_s (s0 := 6 * to + j) (Int32.ofNat to) (Int32.ofNat m) (Int32.ofNat a) (Int32.ofNat first) j 0 w (6 * to) rfl (by omega) (fun i h1 h2 => by have := hus (i - 6 * to) (by omega); rw [show 6 * to + (i - 6 * to) = i from by omega] at this; exact this) (by omega)]
    obtain ⟨N', hN⟩ : ∃ N', w - j = N' + 1 := ⟨w - j - 1, by omega⟩
    rw [hN]
    show (rs_aB s 104 (Int32.ofNat (6 * to + j))).bind _ = _
    refine bse ((aB_at (p := 104) (i := 6 * to + j) (n := 72) (by decide) rfl (by omega) (by decide)).trans (congrArg some hfr)) ?_
    refine ift (by decide) ?_
    refine bse (sB_at (p := 104) (i := 6 * to + j) (n := 72) (by decide) rfl (by omega) (by decide)) ?_
    rw [show ((1 : Int32) &&& 1) = 1 from by decide]
    refine bse ((aI_at (p := 94) (i := to) (n := 12) (by decide) rfl (by omega) (by decide)).trans (congrArg some h94)) ?_
    rw [show (6 : Int32) = Int32.ofNat 6 from rfl, mul_of, of_add]
    refine bse (sI_at (p := 102) (i := 6 * to + wt) (n := 72) (by decide) rfl (by omega) (by decide)) ?_
    refine bse ((aI_at (p := 94) (i := to) (n := 12) (by decide) rfl (by omega) (by decide)).trans (congrArg some h94)) ?_
    rw [of_inc]
    refine bse (sI_at (p := 94) (i := to) (n := 12) (by decide) rfl (by omega) (by decide)) ?_
    refine bse (rs_p rfl) ?_
    refine bse (sI_at (p := 103) (i := 6 * to + j) (n := 72) (by decide) rfl (by omega) (by decide)) ?_
    show s377_87 (rM w (k + 2)) w w (Int32.ofNat m) (Int32.ofNat a) (Int32.ofNat first) (Int32.ofNat (6 * to + j)) (401 * Int32.ofNat (6 * to + j)) 0 (sS1 s to wt (6 * to + j) m) = _
    rw [hS, show (401 : Int32) = Int32.ofNat 401 from rfl, mul_of, show (0 : Int32) = Int32.ofNat 0 from rfl, c1, of_inc]
    refine bse ((aI_at (s := rsI S 105 g) (p := 77) (i := m + 1) (n := 73) (by decide) rfl (by omega) (by decide)).trans (congrArg some (show (rsI S 105 g).2.1 77 (m + 1) = Int32.ofNat (p0 + np) from by show S.2.1 77 (m + 1) = _; rw [E77]; exact h77'))) ?_
    refine bse ((aI_at (s := rsI S 105 g) (p := 77) (i := m) (n := 73) (by decide) rfl (by omega) (by decide)).trans (congrArg some (show (rsI S 105 g).2.1 77 m = Int32.ofNat p0 from by show S.2.1 77 m = _; rw [E77]; exact h77))) ?_
    rw [of_dif _ _ (by omega), esd]
    exact a1.trans b1
  · intro i o h1 h2 c bs nf ob f hf
    have := b3 i o h1 h2 c bs nf ((obj o c bs nf).mpr ob) f hf
    rw [E2] at this
    exact this
  · obtain ⟨z1, z2⟩ := a3 i (by omega) hi
    rw [E2] at z1 z2
    exact ⟨z1, vIn_up z2⟩
  · rw [a4 i (by omega), E2]
  · rw [b4 x hx, E2]
  · rw [b5 x hx, a5 x hx, c3 x (by omega), E105]
end RS3
