/-! A MESSAGE IS TAKEN. -/
section TAK
variable {L : Nat} {xs : Nat → Int32} {zf : Value} {w k : Nat} {cd : Value} {n : Nat} {sg sg' sg2 : cS} {Z : Nat → Prop} {hB h h' h2 : rm_H} {a b r j i z c ht M np loc fr0 wt : Nat} {v num en : Int32} {f g : Nat → Int32}
def sTk (sg : cS) (a z c : Nat) (f : Nat → Int32) (loc : Nat) (en : Int32) (fr0 wt : Nat) : cS := sA' (sA' (sE (sQ sg a z c f loc) a 0 en 0 (sg.2.2.1 a 0 + 1)) a 11 (Int32.ofNat ((fr0 + 1) % 6))) a 4 (Int32.ofNat wt)
theorem k_take_l (mb : MB hB Z M num np loc en) (ha : a < n) (l16 : loc ≤ 1000) (hnp : np ≤ loc) (n6 : np ≤ 6) (f6 : fr0 < 6) (w6 : wt < 6) (hw : 2000 ≤ w) : ∀ (r : Nat) (sg : cS) (h : rm_H) (i N : Nat), i + r = np → RH cd n sg Z hB h → sg.2.2.1 a 13 = Int32.ofNat i → i ≤ sg.2.2.2.2 a 13 → 64 ≤ sg.2.2.2.2 a 13 → sg.2.2.2.2 a 13 ≤ 40000 → sg.2.2.1 a 3 = 0 → sg.2.2.1 a 11 = Int32.ofNat fr0 → sg.2.2.1 a 4 = Int32.ofNat (wt + 1) → r < N → ∃ (h' : rm_H) (z c : Nat) (f : Nat → Int32), b241_2 L xs zf (dM L xs zf w (k + 4)) w N (some (sg.2.2.2.2 a 0)) (some M) (Int32.ofNat i) h = some (none, h') ∧ RH cd n (sTk sg a z c f loc en fr0 wt) Z hB h' ∧ (∀ j, j < i → f j = sg.2.2.2.1 a 12 j) ∧ (∀ j, i ≤ j → j < np → f j = sg.2.2.2.1 a 10 (fr0 * 7 + 1 + j)) ∧ (∀ j, np ≤ j → j < loc → f j = 0) ∧ loc ≤ c ∧ 64 ≤ c ∧ (c ≤ sg.2.2.2.2 a 13 ∨ c ≤ 2 * loc) ∧ CST n sg h (sTk sg a z c f loc en fr0 wt) h' := by
  intro r
  induction r with
  | zero =>
    intro sg h i N hi q hh hl c64 hm hb hf hw4 hN
    obtain ⟨N', rfl⟩ : ∃ N', N = N' + 1 := ⟨N - 1, by omega⟩
    have ei : i = np := by omega
    subst ei
    obtain ⟨h1, z, c, f, p1, p2, p3, p4, p5, p6, p7, p8⟩ := k_enter (L := L) (xs := xs) (zf := zf) (w := w) (k := k) (ht := 0) (b := 0) (self := sg.2.2.1 a 0 + 1) mb q ha hb (by decide) l16 (by rw [Nat.zero_add]; exact hh) hnp (by omega) c64 hm (by omega) hw
    rw [Nat.zero_add] at p2 p5 p7 p8
    have e11 : (sE (sQ sg a z c f loc) a 0 en (Int32.ofNat 0) (sg.2.2.1 a 0 + 1)).2.2.1 a 11 = Int32.ofNat fr0 := by
      show (sA' (sQ sg a z c f loc) a 3 _).2.2.1 a 11 = _
      rw [sA_ne (Or.inl (by decide)), sQ_A (Or.inl (by decide))]
      exact hf
    have e4 : (sE (sQ sg a z c f loc) a 0 en (Int32.ofNat 0) (sg.2.2.1 a 0 + 1)).2.2.1 a 4 = Int32.ofNat (wt + 1) := by
      show (sA' (sQ sg a z c f loc) a 3 _).2.2.1 a 4 = _
      rw [sA_ne (Or.inl (by decide)), sQ_A (Or.inl (by decide))]
      exact hw4
    have e0 : (sE (sQ sg a z c f loc) a 0 en (Int32.ofNat 0) (sg.2.2.1 a 0 + 1)).2.2.2.2 a 0 = sg.2.2.2.2 a 0 := (show (sQ sg a z c f loc).2.2.2.2 a 0 = sg.2.2.2.2 a 0 from sQ_P (Or.inl (by decide)))
    obtain ⟨h2, r1, r2, r3⟩ := pA' (j := 11) (v := Int32.ofNat ((fr0 + 1) % 6)) p2 ha (by decide)
    rw [e0] at r1
    obtain ⟨h3, t1, t2, t3⟩ := pA' (j := 4) (v := Int32.ofNat wt) r2 ha (by decide)
    have g11 := gA (L := L) (xs := xs) p2 ha (j := 11) (by omega)
    have g4 := gA (L := L) (xs := xs) r2 ha (j := 4) (by omega)
    rw [e0, e11] at g11
    rw [show (sA' (sE (sQ sg a z c f loc) a 0 en (Int32.ofNat 0) (sg.2.2.1 a 0 + 1)) a 11 (Int32.ofNat ((fr0 + 1) % 6))).2.2.2.2 a 0 = sg.2.2.2.2 a 0 from e0] at g4 t1
    rw [sA_ne (Or.inl (by decide)), e4] at g4
    refine ⟨h3, z, c, f, ?_, t2, fun j hj => p3 j (by omega), fun j h1 h2 => by omega, fun j h1 h2 => p4 j (by omega) (by omega), p5, p6, p7, ?_⟩
    · show (dgR L xs h 5 [11] (some M)).bind _ = _
      obtain ⟨pl, s1, s2⟩ := mb_np (L := L) (xs := xs) (zf := zf) (w := w) (k := k + 3) (mb_k mb q)
      refine bse s1 (bse s2 ?_)
      refine ift (by rw [f2_ge]; exact decide_eq_true (Int.le_refl _)) ?_
      refine bse (gA (L := L) (xs := xs) q ha (j := 0) (by omega)) ?_
      refine bse (a := h1) ?_ ?_
      · rw [cV_a q ha, show (va_rf (some M) : Value) = .ref M from rfl, p1]
        rfl
      refine bse g11 ?_
      rw [of_inc]
      refine bse (a := (Int32.ofNat ((fr0 + 1) % 6), h1)) ?_ ?_
      · rw [k_233 (by omega)]
        rfl
      refine bse r1 (bse g4 ?_)
      refine bse (a := (Int32.ofNat wt, h2)) ?_ (bse t1 rfl)
      show ((dM L xs zf w (k + 4) 18 [.int 0, .int (Int32.ofNat (wt + 1) - 1)] h2).bind dxI) = _
      rw [of_dec, show (0 : Int32) = Int32.ofNat 0 from rfl, mx_max _ _ (by omega) (by omega)]
      rfl
    · exact CST_t p8 (CST_0 (fun _ => rfl) (t3.2.1.trans r3.2.1) (t3.2.2.trans r3.2.2))
  | succ r ih =>
    intro sg h i N hi q hh hl c64 hm hb hf hw4 hN
    obtain ⟨N', rfl⟩ : ∃ N', N = N' + 1 := ⟨N - 1, by omega⟩
    have km := k_ma (L := L) (xs := xs) (zf := zf) (w := w) (k := k + 1) (j := 0) (i := i) q ha hf f6 (by omega) (by omega)
    rw [show (fr0 + 0) % 6 * 7 + 1 + i = fr0 * 7 + 1 + i from by omega] at km
    obtain ⟨h1, z, c, f, p1, p2, p3, p4, p5, p6, p7⟩ := k_push (L := L) (xs := xs) (zf := zf) (w := w) (k := k + 1) (v := sg.2.2.2.1 a 10 (fr0 * 7 + 1 + i)) q ha hh hl c64 hm
    have e0 : (sQ sg a z c f (i + 1)).2.2.2.2 a 0 = sg.2.2.2.2 a 0 := sQ_P (Or.inl (by decide))
    obtain ⟨h', z2, c2, f2, r1, r2, r3, r4, r5, r6, r7, r8, r9⟩ := ih (sQ sg a z c f (i + 1)) h1 (i + 1) N' (by omega) p2 sQ_h (by rw [sQ_c]; omega) (by rw [sQ_c]; omega) (by rw [sQ_c]; omega) ((sQ_A (Or.inl (by decide))).trans hb) ((sQ_A (Or.inl (by decide))).trans hf) ((sQ_A (Or.inl (by decide))).trans hw4) (by omega)
    rw [e0] at r1
    have es : sTk (sQ sg a z c f (i + 1)) a z2 c2 f2 loc en fr0 wt = sTk sg a z2 c2 f2 loc en fr0 wt := by
      unfold sTk
      rw [sQ_sQ, sQ_A (Or.inl (by decide))]
    rw [es] at r2 r9
    rw [sQ_c] at r8
    refine ⟨h', z2, c2, f2, ?_, r2, fun j hj => ?_, fun j g1 g2 => ?_, r5, r6, r7, by omega, CST_t p7 r9⟩
    · show (dgR L xs h 5 [11] (some M)).bind _ = _
      obtain ⟨pl, s1, s2⟩ := mb_np (L := L) (xs := xs) (zf := zf) (w := w) (k := k + 3) (mb_k mb q)
      refine bse s1 (bse s2 ?_)
      refine ifn (by rw [f2_ge, of_int (by omega), of_int (by omega)]; exact fun z => absurd (of_decide_eq_true z) (by omega)) ?_
      refine bse (a := (sg.2.2.2.1 a 10 (fr0 * 7 + 1 + i), h)) ?_ ?_
      · rw [cV_a q ha, show (0 : Int32) = Int32.ofNat 0 from rfl, km]
        rfl
      refine bse (a := h1) ?_ ?_
      · show ((dcV L xs (dM L xs zf w (k + 4)) 243 [14] (some (sg.2.2.2.2 a 0)) [.int (sg.2.2.2.1 a 10 (fr0 * 7 + 1 + i))] h).bind dxV) = _
        rw [cV_a q ha, p1]
        rfl
      rw [of_inc]
      exact r1
    · rw [r3 j (by omega), sQ_f, p3 j hj]
    · by_cases e : j = i
      · rw [r3 j (by omega), sQ_f, e, p4]
      · rw [r4 j (by omega) g2, sQ_R (Or.inl (by decide))]
theorem k_take (mb : MB hB Z M num np loc en) (q : RH cd n sg Z hB h) (ha : a < n) (l16 : loc ≤ 1000) (hnp : np ≤ loc) (n6 : np ≤ 6) (f6 : fr0 < 6) (w6 : wt < 6) (hw : 2000 ≤ w) (hh : sg.2.2.1 a 13 = 0) (c64 : 64 ≤ sg.2.2.2.2 a 13) (hm : sg.2.2.2.2 a 13 ≤ 40000) (hb : sg.2.2.1 a 3 = 0) (hf : sg.2.2.1 a 11 = Int32.ofNat fr0) (hw4 : sg.2.2.1 a 4 = Int32.ofNat (wt + 1)) : ∃ (h' : rm_H) (z c : Nat) (f : Nat → Int32), dM L xs zf w (k + 5) 241 [.ref (sg.2.2.2.2 a 0), .ref M] h = some (none, h') ∧ RH cd n (sTk sg a z c f loc en fr0 wt) Z hB h' ∧ (∀ j, j < np → f j = sg.2.2.2.1 a 10 (fr0 * 7 + 1 + j)) ∧ (∀ j, np ≤ j → j < loc → f j = 0) ∧ loc ≤ c ∧ 64 ≤ c ∧ (c ≤ sg.2.2.2.2 a 13 ∨ c ≤ 2 * loc) ∧ CST n sg h (sTk sg a z c f loc en fr0 wt) h' := by
  obtain ⟨h', z, c, f, r1, r2, r3, r4, r5, r6, r7, r8, r9⟩ := k_take_l (L := L) (xs := xs) (zf := zf) (w := w) (k := k) mb ha l16 hnp n6 f6 w6 hw np sg h 0 w (by omega) q hh (by omega) c64 hm hb hf hw4 (by omega)
  refine ⟨h', z, c, f, ?_, r2, fun j hj => r4 j (by omega) hj, r5, r6, r7, r8, r9⟩
  rw [e241]
  exact r1
end TAK
