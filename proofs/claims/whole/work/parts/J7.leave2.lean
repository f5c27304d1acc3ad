/-! A BODY IS LEFT: by both. -/
section LEW
variable {sB : rS} {A B : Nat → Int32} {mi : Nat → Nat × Nat × Nat × Nat × Nat} {kc : kCi} {om om' : oMg} {ka ka' : kAp} {la : lAy} {ms : mSg} {N N' cn : Nat} {sg sg' sg2 : cS} {s s' s2 S1 : rS} {a b d e lo q0 J l t r i n p q k k2 f0 w P L sz lv : Nat} {xs : Nat → Int32} {zf : Value} {Z : Nat → Prop} {hB h h' : rm_H} {es : List Nat} {x : Nat → Nat → fDs} {D : Nat → Nat} {S S0 X : List stE} {v : Int64} {y : Int32}

theorem J_lv {le z c : Nat} {f : Nat → Int32} (it : iTm sB A B mi kc om ka la ms N cn sg s D x a (d + 1)) (eS : fSt (x a d) = (t, false, le) :: S0) (eB : fBs (x a (d + 1)) = fBs (x a d) + (mi (fMe (x a d))).2.2.2.2 + S0.length) (eQ : fQ (x a (d + 1)) = fQ (x a d) + S0.length)
    (ch : ∀ l, ¬ (fun l => (∃ k, fQ (x a (d + 1)) ≤ k ∧ k < 10100 ∧ l = pS a k) ∨ l = pH (120 + a) ∨ l = pH (132 + a)) l → om'.1 l = om.1 l ∧ om'.2.1 l = om.2.1 l) (st : rSt a a (eSu om N a (d + 1) (x a)) (fun l => (∃ k, fQ (x a (d + 1)) ≤ k ∧ k < 10100 ∧ l = pS a k) ∨ l = pH (120 + a) ∨ l = pH (132 + a)) om.2.2.1 om'.2.2.1) (gi' : GI ka.2.2.1 N om'.1 om'.2.1 om'.2.2.1) (eK : om'.2.2.2 = om.2.2.2) (val : vAl om' ka a t v) (hv : om'.1 (pS a (fQ (x a d) + S0.length)) = v) (hT : om'.2.1 (pS a (fQ (x a d) + S0.length)) = t) (hr : t ≠ 0 → om'.2.2.1.1 (pS a (fQ (x a d) + S0.length)) = fRe (x a d) le) (gt : gTy t = true) (t6 : t % 8 ≠ 6)
    (hf : ∀ i, i < fBs (x a (d + 1)) → f i = sg.2.2.2.1 a 12 i) (fv : f (fBs (x a (d + 1))) = cvl v) (c1 : fBs (x a (d + 1)) < c) (c2 : 64 ≤ c) (c3 : c ≤ 40000) :
    rUn sB A B mi kc om' ka la ms N cn (sQ (sA' (sA' sg a 13 (Int32.ofNat (fBs (x a (d + 1))))) a 3 (Int32.ofNat (d + 1))) a z c f (fBs (x a (d + 1)) + 1)) (sPsh (rs_wA s 92 a (Int32.ofNat (d + 1))) a (fQ (x a (d + 1))) v) (fun b => if b = a then d + 1 else D b) x := by
  obtain ⟨⟨a12, d10, u1, u2, u3, u4⟩, _⟩ := it_f it
  have s1 : ∀ p' i', (sPsh (rs_wA s 92 a (Int32.ofNat (d + 1))) a (fQ (x a (d + 1))) v).2.1 p' i' = if p' = 93 ∧ i' = a then Int32.ofNat (fQ (x a (d + 1)) + 1) else if p' = 92 ∧ i' = a then Int32.ofNat (d + 1) else s.2.1 p' i' := by
    intro p' i'
    unfold sPsh
    rw [wA_get]
    show (if _ then _ else (rs_wA s 92 a (Int32.ofNat (d + 1))).2.1 p' i') = _
    rw [wA_get]
  have s2 : ∀ p' i', (sPsh (rs_wA s 92 a (Int32.ofNat (d + 1))) a (fQ (x a (d + 1))) v).2.2 p' i' = if p' = 97 ∧ i' = 10100 * a + fQ (x a (d + 1)) then v else s.2.2 p' i' := by
    intro p' i'
    unfold sPsh
    show (rs_wB (rs_wA s 92 a (Int32.ofNat (d + 1))) 97 (10100 * a + fQ (x a (d + 1))) v).2.2 p' i' = _
    rw [wB_get]
    rfl
  refine lEv (E := eSu om N a (d + 1) (x a)) (Pl := (fun l => (∃ k, fQ (x a (d + 1)) ≤ k ∧ k < 10100 ∧ l = pS a k) ∨ l = pH (120 + a) ∨ l = pH (132 + a))) it eS eB eQ (fun y h => h) ?cl ?rf ?c7 ?c12 ?r99 ?r97 ?hP ?hPe ?hPs ch st gi' eK ?pe ?so ?r93 ?g3 ?r92
  case cl =>
    refine ⟨rfl, rfl, fun b' j' h => ?_, fun b' j' h => ?_, fun b' j' h => ?_⟩
    · rw [sQ_A (by omega), sA_ne (by omega), sA_ne (by omega)]
    · rw [sQ_R (by omega)]
      rfl
    · rw [sQ_P (by rcases h with y | y; exact Or.inr y; exact Or.inl y)]
      rfl
  case rf =>
    refine ⟨rfl, fun p' i' h1 h2 => ?_, fun p' i' h1 h2 h3 => ?_⟩
    · rw [s1, if_neg (by omega), if_neg (by omega)]
    · rw [s2, if_neg (by omega)]
  case c7 =>
    intro e he
    rw [sQ_R (Or.inl (by decide)), sQ_R (Or.inl (by decide)), sQ_R (Or.inl (by decide))]
    exact ⟨rfl, rfl, rfl⟩
  case c12 =>
    intro i hi
    rw [sQ_f]
    exact hf i hi
  case r99 =>
    intro e he
    refine ⟨?_, ?_, fun sl hsl => ?_⟩
    · rw [s1, if_neg (by omega), if_neg (by omega)]
    · rw [s2, if_neg (by omega)]
    · rw [s2, if_neg (by omega)]
  case r97 =>
    intro k hk
    rw [s2, if_neg (by omega)]
  case hP =>
    intro l hl
    rcases hl with ⟨k, h1, h2, h3⟩ | h | h
    · right; left; unfold pS at h3; omega
    · right; right; exact ⟨by rw [h]; unfold pH; omega, Or.inr (Or.inl h)⟩
    · right; right; exact ⟨by rw [h]; unfold pH; omega, Or.inr (Or.inr h)⟩
  case hPe =>
    intro e he
    refine ⟨fun y => ?_, fun sl hsl y => ?_⟩
    · rcases y with ⟨k, h1, h2, h3⟩ | h | h
      · exact hS_ne h3
      · unfold pH at h; omega
      · unfold pH at h; omega
    · rcases y with ⟨k, h1, h2, h3⟩ | h | h
      · exact nS_ne h3
      · exact nH_ne h
      · exact nH_ne h
  case hPs =>
    intro k h1 h2 y
    rcases y with ⟨k', h1', h2', h3⟩ | h | h
    · unfold pS at h3; omega
    · exact hS_ne h.symm
    · exact hS_ne h.symm
  case pe =>
    refine ⟨by rw [hv]; exact val, ?_, ?_, Or.inl ⟨hT, hr⟩, gt, fun _ z => absurd z t6⟩
    · rw [hv, sQ_f, ← eB]
      exact fv
    · rw [hv, s2, ← eQ, if_pos ⟨rfl, rfl⟩]
  case so => exact SOK_q c1 c2 c3
  case r93 => rw [s1, if_pos ⟨rfl, rfl⟩]
  case g3 => rw [sQ_A (Or.inl (by decide)), sA_at]
  case r92 => rw [s1, if_neg (by omega), if_pos ⟨rfl, rfl⟩]
/-- the first body is left -/
theorem J_l0 {t0 : Int32} (it : iTm sB A B mi kc om ka la ms N cn sg s D x a 0) (h93 : s.2.1 93 a = 0) : rUn sB A B mi kc om ka la ms N cn (sA' (sA' (sA' sg a 13 t0) a 3 0) a 13 0) (rs_wA s 92 a 0) (fun b => if b = a then 0 else D b) x := by
  obtain ⟨⟨a12, d10, u1, u2, u3, u4⟩, _⟩ := it_f it
  have it0 := it
  obtain ⟨_, _, _, _, _, _, _, _, _, so, _⟩ := it0
  refine lE0 it ⟨rfl, rfl, fun b' j' h => ?_, fun _ _ _ => rfl, fun _ _ _ => rfl⟩ ⟨rfl, fun p' i' h1 h2 => ?_, fun _ _ _ _ _ => rfl⟩ ?_ ?_ ⟨sA_at, Nat.zero_le _, so.2.2⟩ ?_
  · rw [sA_ne (by omega), sA_ne (by omega), sA_ne (by omega)]
  · rw [wA_get, if_neg (by omega)]
  · rw [sA_ne (Or.inl (by decide)), sA_at]
  · rw [wA_get, if_pos ⟨rfl, rfl⟩]
  · rw [wA_get, if_neg (by omega)]
    exact h93
end LEW
