/-! ACTORS ARE ADDED AND FOUND; THE CODE IS READ. -/
section ADA
variable {L : Nat} {xs : Nat → Int32} {zf : Value} {w k : Nat} {cd : Value} {n : Nat} {sg sg' sg2 : cS} {Z : Nat → Prop} {hB h h' h2 : rm_H} {a b r j i z c K ac : Nat} {v st : Int32} {f g : Nat → Int32}
theorem aR5 {p m : Nat} {F : Nat → Option Nat} (e : hc h p = some (.inl (5, m, .inr (.inr (.inr (.inr F)))))) (hi : i < m) (hm : m ≤ 1000) : daR L xs h (some p) (Int32.ofNat i) = some (F i) := by
  unfold daR
  dsimp only
  rw [hc_look e]
  dsimp only
  show (if rm_in (Int32.ofNat i) m = true then _ else _) = _
  rw [if_pos (of_in hi (by omega)), of_clamp (by omega)]
theorem sR5 {p m x : Nat} {F : Nat → Option Nat} {fs : List Value} (e : hc h p = some (.inl (5, m, .inr (.inr (.inr (.inr F)))))) (hi : i < m) (hm : m ≤ 1000) (ex : hc h x = some (.inr (14, fs))) : dsR L xs h (some p) (Int32.ofNat i) (some x) = some (h.set (p - 21) (.inl (5, m, .inr (.inr (.inr (.inr (va_up F i (some x)))))))) := by
  unfold dsR
  dsimp only
  rw [if_pos (hc_ge e), hc_at e, hc_look ex]
  dsimp only
  rw [if_pos ⟨rfl, of_in hi (by omega)⟩, of_clamp (by omega)]
theorem st_rf {p m : Nat} {F F' : Nat → Option Nat} (e : hc h p = some (.inl (5, m, .inr (.inr (.inr (.inr F)))))) : st1 p h (h.set (p - 21) (.inl (5, m, .inr (.inr (.inr (.inr F')))))) := ⟨fr_setA (fun q => q = p) e rfl (show (5 : Nat) ≠ 1 by decide), by simp, zh_set (x := .inl (5, m, .inr (.inr (.inr (.inr F))))) (y := .inl (5, m, .inr (.inr (.inr (.inr F'))))) rfl (hc_at e)⟩
theorem RH_27 (q : RH cd n sg Z hB h) (hi : i < 12) : daR L xs h (some 27) (Int32.ofNat i) = some (if i < n then some (sg.2.2.2.2 i 0) else none) := aR5 (RH_wd (x := 3) q (by decide)) hi (by decide)
theorem pKd (q : RH cd n sg Z hB h) (ha : a < n) (hK : K ≠ 0) : ∃ h', dpF h 1 [14] (some (sg.2.2.2.2 a 0)) (.ref K) = some h' ∧ RH cd n (sK sg a K) Z hB h' ∧ st1 (sg.2.2.2.2 a 0) h h' := by
  have e : hc h (sg.2.2.2.2 a 0) = some (aCel sg a) := RH_a (r := 0) q ha (by decide)
  obtain ⟨h', p1, p2, p3⟩ := pF_ex (j := 1) (cis := [14]) (v := .ref K) e rfl rfl rfl (by decide)
  have e0 : adr sg (6 * a + 6 + 0) = sg.2.2.2.2 a 0 := by
    rw [adr_a (by decide)]
    rfl
  have eP : ∀ b j, ¬ (b = a ∧ j = 1) → (sK sg a K).2.2.2.2 b j = sg.2.2.2.2 b j := fun b j hj => if_neg hj
  have eK : (sK sg a K).2.2.2.2 a 1 = K := if_pos ⟨rfl, rfl⟩
  refine ⟨h', p1, RH_w (x := 6 * a + 6 + 0) q (by omega) ?_ (by rw [e0]; exact p3) (fun y hy => ?_) (fun y hy hne => ?_), p3⟩
  · rw [e0, vcl_a (by decide), p2]
    show some _ = some (aCel (sK sg a K) a)
    unfold aCel
    rw [eK, eP a 0 (by omega), eP a 12 (by omega)]
    unfold kV
    rw [if_neg hK]
    rfl
  · unfold adr pA
    rw [eP _ 12 (by omega), eP _ 0 (by omega)]
  · unfold vcl
    by_cases c : y < 6
    · rw [if_pos c, if_pos c]
      have : y = 0 ∨ y = 1 ∨ y = 2 ∨ y = 3 ∨ y = 4 ∨ y = 5 := by omega
      rcases this with rfl | rfl | rfl | rfl | rfl | rfl
      · rfl
      · rfl
      · rfl
      · have : ∀ b, (sK sg a K).2.2.2.2 b 0 = sg.2.2.2.2 b 0 := fun b => eP b 0 (by omega)
        show (Sum.inl (5, 12, Sum.inr (Sum.inr (Sum.inr (Sum.inr fun b => if b < n then some ((sK sg a K).2.2.2.2 b 0) else none)))) : rm_E) = Sum.inl (5, 12, Sum.inr (Sum.inr (Sum.inr (Sum.inr fun b => if b < n then some (sg.2.2.2.2 b 0) else none))))
        simp only [this]
      · rfl
      · rfl
    · rw [if_neg c, if_neg c]
      have hr : (y - 6) % 6 = 0 ∨ (y - 6) % 6 = 1 ∨ (y - 6) % 6 = 2 ∨ (y - 6) % 6 = 3 ∨ (y - 6) % 6 = 4 ∨ (y - 6) % 6 = 5 := by omega
      rcases hr with e5 | e5 | e5 | e5 | e5 | e5 <;> rw [e5]
      · have hb : (y - 6) / 6 ≠ a := by omega
        show aCel (sK sg a K) ((y - 6) / 6) = aCel sg ((y - 6) / 6)
        unfold aCel
        rw [eP _ 1 (by omega), eP _ 0 (by omega), eP _ 12 (by omega)]
        rfl
      · rfl
      · rfl
      · rfl
      · rfl
      · show iaA _ _ = iaA _ _
        rw [eP _ 13 (by omega)]
        rfl
theorem k_reset (q : RH cd n sg Z hB h) (ha : a < n) (hK : K ≠ 0) : ∃ h', dM L xs zf w (k + 2) 228 [.ref (sg.2.2.2.2 a 0), .ref K, .int st] h = some (none, h') ∧ RH cd n (sZr sg a K st) Z hB h' ∧ h'.length = h.length ∧ zh h' = zh h := by
  obtain ⟨h1, a1, a2, a3⟩ := pKd q ha hK
  obtain ⟨h2, b1, b2, b3⟩ := pA' (j := 2) (v := st) a2 ha (by decide)
  obtain ⟨h3, c1, c2, c3⟩ := pA' (j := 4) (v := 0) b2 ha (by decide)
  obtain ⟨h4, d1, d2, d3⟩ := pA' (j := 5) (v := 0) c2 ha (by decide)
  obtain ⟨h5, e1, e2, e3⟩ := pA' (j := 6) (v := 0) d2 ha (by decide)
  obtain ⟨h6, f1, f2, f3⟩ := pA' (j := 11) (v := 0) e2 ha (by decide)
  obtain ⟨h7, g1, g2, g3, g4⟩ := k_idle (L := L) (xs := xs) (zf := zf) (w := w) (k := k) f2 ha
  have e0 : (sK sg a K).2.2.2.2 a 0 = sg.2.2.2.2 a 0 := if_neg (fun z => absurd z.2 (by decide))
  refine ⟨h7, ?_, g2, by rw [g3, f3.2.1, e3.2.1, d3.2.1, c3.2.1, b3.2.1, a3.2.1], by rw [g4, f3.2.2, e3.2.2, d3.2.2, c3.2.2, b3.2.2, a3.2.2]⟩
  rw [e228]
  show b228_0 L xs zf (dM L xs zf w (k + 1)) w (some (sg.2.2.2.2 a 0)) (some K) st h = _
  unfold b228_0
  have b1' : dpF h1 2 [14] (some (sg.2.2.2.2 a 0)) (.int st) = some h2 := by rw [← e0]; exact b1
  have c1' : dpF h2 4 [14] (some (sg.2.2.2.2 a 0)) (.int 0) = some h3 := by rw [← e0]; exact c1
  have d1' : dpF h3 5 [14] (some (sg.2.2.2.2 a 0)) (.int 0) = some h4 := by rw [← e0]; exact d1
  have e1' : dpF h4 6 [14] (some (sg.2.2.2.2 a 0)) (.int 0) = some h5 := by rw [← e0]; exact e1
  have f1' : dpF h5 11 [14] (some (sg.2.2.2.2 a 0)) (.int 0) = some h6 := by rw [← e0]; exact f1
  have g1' : (dcV L xs (dM L xs zf w (k + 1)) 229 [14] (some (sg.2.2.2.2 a 0)) [] h6).bind dxV = some h7 := by
    have := cV_a (L := L) (xs := xs) (D := dM L xs zf w (k + 1)) (mi := 229) (As := []) f2 ha
    rw [show (sA' (sA' (sA' (sA' (sA' (sK sg a K) a 2 st) a 4 0) a 5 0) a 6 0) a 11 0).2.2.2.2 a 0 = sg.2.2.2.2 a 0 from e0] at this g1
    rw [this, g1]
    rfl
  exact bse a1 (bse b1' (bse c1' (bse d1' (bse e1' (bse f1' (bse g1' rfl))))))
theorem k_add33 (q : RH cd n sg Z hB h) (ha : ac < n) (h11 : ac ≤ 11) (hK : K ≠ 0) : ∃ h', b226_33 L xs zf (dM L xs zf w (k + 2)) w (some 24) (some K) st (Int32.ofNat ac) h = some (some (.ref (sg.2.2.2.2 ac 0)), h') ∧ RH cd n (sXc (sZr sg ac K st) 8 (Int32.ofNat (ac + 1))) Z hB h' ∧ h'.length = h.length ∧ zh h' = zh h := by
  obtain ⟨h1, r1, r2, r3, r4⟩ := k_reset (L := L) (xs := xs) (zf := zf) (w := w) (k := k) (st := st) q ha hK
  obtain ⟨h2, p1, p2, p3⟩ := pX (j := 8) (v := Int32.ofNat (ac + 1)) r2 (by decide)
  have e0 : (sZr sg ac K st).2.2.2.2 ac 0 = sg.2.2.2.2 ac 0 := if_neg (fun z => absurd z.2 (by decide))
  have d1 : daR L xs h (some 27) (Int32.ofNat ac) = some (some (sg.2.2.2.2 ac 0)) := by rw [RH_27 q (by omega), if_pos ha]
  have d2 : daR L xs h2 (some 27) (Int32.ofNat ac) = some (some (sg.2.2.2.2 ac 0)) := by
    rw [RH_27 p2 (by omega), if_pos ha]
    show some (some ((sZr sg ac K st).2.2.2.2 ac 0)) = _
    rw [e0]
  refine ⟨h2, ?_, p2, p3.2.1.trans r3, p3.2.2.trans r4⟩
  unfold b226_33
  refine bse (gXr (L := L) (xs := xs) q (j := 2) (by decide)) (bse d1 ?_)
  refine bse (a := h1) ?_ ?_
  · rw [cV_a q ha, show (va_rf (some K) : Value) = .ref K from rfl, r1]
    rfl
  rw [of_inc]
  refine bse p1 (bse (gXr (L := L) (xs := xs) p2 (j := 2) (by decide)) (bse d2 rfl))
/-- an actor is added -/
theorem k_add (q : RH cd n sg Z hB h) (h8 : sg.1 8 = Int32.ofNat ac) (hn : ac ≤ n) (h11 : ac ≤ 11) (hK : K ≠ 0) : ∃ (h' : rm_H) (n' : Nat) (sg0 : cS), dM L xs zf w (k + 3) 226 [.ref 24, .ref K, .int st] h = some (some (.ref (sg0.2.2.2.2 ac 0)), h') ∧ RH cd n' (sXc (sZr sg0 ac K st) 8 (Int32.ofNat (ac + 1))) Z hB h' ∧ ac < n' ∧ ((ac < n ∧ n' = n ∧ sg0 = sg ∧ h'.length = h.length ∧ zh h' = zh h) ∨ (ac = n ∧ n' = n + 1 ∧ sg0 = sN sg n (21 + h.length) ∧ h'.length = h.length + 6 ∧ zh h' = zh h + 150)) := by
  have hd : dM L xs zf w (k + 3) 226 [.ref 24, .ref K, .int st] h = b226_0 L xs zf (dM L xs zf w (k + 2)) w (some 24) (some K) st h := by
    rw [e226]
    rfl
  have x1 := (gX (L := L) (xs := xs) q (j := 8) (by decide)).trans (congrArg some h8)
  have x3 : (dM L xs zf w (k + 2) 21 [.int (Int32.ofNat ac), .int 11] h).bind dxI = some (Int32.ofNat ac, h) := by
    rw [show (11 : Int32) = Int32.ofNat 11 from rfl, mx_min _ _ h11 (by decide)]
    rfl
  have d1 := RH_27 (L := L) (xs := xs) (i := ac) q (by omega)
  by_cases hlt : ac < n
  · obtain ⟨h', r1, r2, r3, r4⟩ := k_add33 (L := L) (xs := xs) (zf := zf) (w := w) (k := k) (st := st) q hlt h11 hK
    refine ⟨h', n, sg, ?_, r2, hlt, Or.inl ⟨hlt, rfl, rfl, r3, r4⟩⟩
    rw [hd]
    unfold b226_0
    rw [if_pos hlt] at d1
    refine bse x1 (bse x3 (bse (gXr (L := L) (xs := xs) q (j := 2) (by decide)) (bse d1 ?_)))
    exact ifn (fun z => by cases z) r1
  · have he : ac = n := by omega
    subst he
    have e27 : hc (h ++ nAc (Int32.ofNat ac) (21 + h.length)) 27 = some (vW cd ac sg 3) := by
      rw [hc_apl (hc_lt (RH_wd (x := 3) q (by decide)))]
      exact RH_wd (x := 3) q (by decide)
    have s24 := st_rf (F' := va_up (fun a => if a < ac then some (sg.2.2.2.2 a 0) else none) ac (some (21 + h.length))) e27
    have ex : hc (h ++ nAc (Int32.ofNat ac) (21 + h.length)) (21 + h.length) = some (.inr (14, [.int (Int32.ofNat ac), .null, .int 0, .int 0, .int 0, .int 0, .int 0, .ref (21 + h.length + 1), .ref (21 + h.length + 2), .ref (21 + h.length + 3), .ref (21 + h.length + 4), .int 0, .ref (21 + h.length + 5), .int 0])) := hc_mid (i := 0)
    have w24 := sR5 (L := L) (xs := xs) (i := ac) e27 (by omega) (by decide) ex
    have q24 := RH_new q (by omega) s24 (hc_set e27)
    obtain ⟨h', r1, r2, r3, r4⟩ := k_add33 (L := L) (xs := xs) (zf := zf) (w := w) (k := k) (st := st) q24 (Nat.lt_succ_self _) h11 hK
    refine ⟨h', ac + 1, _, ?_, r2, Nat.lt_succ_self _, Or.inr ⟨rfl, rfl, rfl, ?_, ?_⟩⟩
    · rw [hd]
      unfold b226_0
      rw [if_neg hlt] at d1
      refine bse x1 (bse x3 (bse (gXr (L := L) (xs := xs) q (j := 2) (by decide)) (bse d1 ?_)))
      refine ift rfl ?_
      refine bse (gXr (L := L) (xs := xs) q (j := 2) (by decide)) ?_
      refine bse rfl ?_
      refine bse (a := h ++ nAc (Int32.ofNat ac) (21 + h.length)) ?_ ?_
      · show ((dM L xs zf w (k + 2) 227 [.ref (21 + h.length), .int (Int32.ofNat ac)] (h ++ [.inr (14, ah_DV 14)])).bind dxV) = _
        rw [k_init (k := k + 1)]
        rfl
      · exact bse w24 r1
    · rw [r3, s24.2.1, List.length_append]
      rfl
    · rw [r4, s24.2.2]
      have : ∀ (l : List rm_E) (h : rm_H), zh (h ++ l) = zh h + zh l := by
        intro l
        induction l with
        | nil => intro h; rw [List.append_nil]; rfl
        | cons c l ih =>
          intro h
          rw [show h ++ c :: l = (h ++ [c]) ++ l from by rw [List.append_assoc]; rfl, ih, zh_app]
          show _ = zh h + (zs c + zh l)
          omega
      rw [this]
      rfl
theorem k_find (q : RH cd n sg Z hB h) (h8 : sg.1 8 = Int32.ofNat ac) (hn : ac ≤ n) (h12 : ac ≤ 12) (hi : i < 1000) : dM L xs zf w (k + 1) 236 [.ref 24, .int (Int32.ofNat i)] h = some (some (va_rf (if i < ac then some (sg.2.2.2.2 i 0) else none)), h) := by
  rw [e236]
  show b236_0 L xs zf (dM L xs zf w k) w (some 24) (Int32.ofNat i) h = _
  unfold b236_0
  refine ifn (by rw [f1_lt, of_int (by omega)]; exact fun z => absurd (of_decide_eq_true z) (by omega)) ?_
  refine bse ((gX (L := L) (xs := xs) q (j := 8) (by decide)).trans (congrArg some h8)) ?_
  by_cases c : i < ac
  · rw [if_pos c]
    refine ift (by rw [f2_lt, of_int (by omega), of_int (by omega)]; exact decide_eq_true (by omega)) ?_
    refine bse (gXr (L := L) (xs := xs) q (j := 2) (by decide)) ?_
    refine bse ((RH_27 q (by omega)).trans (congrArg some (if_pos (by omega)))) rfl
  · rw [if_neg c]
    exact ifn (by rw [f2_lt, of_int (by omega), of_int (by omega)]; exact fun z => absurd (of_decide_eq_true z) (by omega)) rfl
end ADA
