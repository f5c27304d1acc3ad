/-! HOW HIGH A STACK GROWS: all points. -/
section HGC
variable {s : rS} {A B : Nat → Int32} {m F lo hi N : Nat}
theorem cP_1 {p K c : Nat} (h : cPt s p K c) (k : K ≠ 13 ∧ K ≠ 7 ∧ K ≠ 26 ∧ K ≠ 8 ∧ K ≠ 11 ∧ K ≠ 12) : c ≤ 1 := by
  rcases h with ⟨h, -⟩ | ⟨h, -⟩ | ⟨h, -⟩ | ⟨h, -⟩ | ⟨-, h⟩
  · omega
  · omega
  · omega
  · omega
  · exact h
theorem cP_8 {p c : Nat} (h : cPt s p 8 c) : c ≤ 6 ∧ s.2.1 52 p = Int32.ofNat c := by
  rcases h with ⟨h, -⟩ | ⟨h, -⟩ | ⟨-, h⟩ | ⟨h, -⟩ | ⟨h, -⟩
  · exact absurd h (by decide)
  · exact absurd h (by decide)
  · exact h
  · exact absurd h (by decide)
  · exact absurd rfl h.2.2.2.1
theorem cP_11 {p K c : Nat} (k : K = 11 ∨ K = 12) (h : cPt s p K c) : ∃ l : Nat, c = l + 1 ∧ l ≤ 6 ∧ s.2.1 52 p = Int32.ofNat l := by
  rcases h with ⟨h, -⟩ | ⟨h, -⟩ | ⟨h, -⟩ | ⟨-, h⟩ | ⟨h, -⟩
  · omega
  · omega
  · omega
  · exact h
  · omega
theorem cP_13 {p c : Nat} (h : cPt s p 13 c) : c ≤ 2 := by
  rcases h with ⟨-, h⟩ | ⟨h, -⟩ | ⟨h, -⟩ | ⟨h, -⟩ | ⟨h, -⟩
  · exact h
  · exact absurd h (by decide)
  · exact absurd h (by decide)
  · exact absurd h (by decide)
  · exact absurd rfl h.1
theorem cP_7 {p K c : Nat} (k : K = 7 ∨ K = 26) (h : cPt s p K c) : ∃ x : Nat, s.2.1 45 p = Int32.ofNat x ∧ x < 4400 ∧ ((s.2.1 44 x = 4 ∧ c ≤ 1) ∨ (s.2.1 44 x = 10 ∧ c ≤ 2)) := by
  rcases h with ⟨h, -⟩ | ⟨-, h⟩ | ⟨h, -⟩ | ⟨h, -⟩ | ⟨h, -⟩
  · omega
  · exact h
  · omega
  · omega
  · omega
theorem cP_7c {p K c : Nat} (k : K = 7 ∨ K = 26) (h : cPt s p K c) : c ≤ 2 := by
  obtain ⟨_, _, _, ⟨_, h⟩ | ⟨_, h⟩⟩ := cP_7 k h
  · omega
  · exact h
theorem cP_le {p K c : Nat} (h : cPt s p K c) : c ≤ 7 := by
  rcases h with ⟨_, h⟩ | ⟨_, _, _, _, ⟨_, h⟩ | ⟨_, h⟩⟩ | ⟨_, h, _⟩ | ⟨_, l, h, h', _⟩ | ⟨_, h⟩ <;> omega
/-- an expression is done -/
theorem hE_b {f : Nat} (h4 : hi ≤ 4400) (hN : hi ≤ N) (l1 : 1 ≤ lo) (iE : ∀ n b lv G g t St, (CT s A B m F lo hi f).1 n b lv G g t St → s.2.1 44 n ≠ 31 → bEn s N n St.length) (iS : ∀ u n b lv G g St, (CT s A B m F lo hi f).2.1 u n b lv G g St → s.2.1 44 n ≠ 31 → bSn s N n St.length) {n b lv t : Nat} {G : List scN} {g : Int32} {St : List stE} (h : ECb s A B m F lo hi (PTb s A B m F lo hi (CT s A B m F lo hi f).1 (CT s A B m F lo hi f).2.1) n b lv G g t St) (n31 : s.2.1 44 n ≠ 31) : bEn s N n St.length := by
  obtain ⟨p, e49, p1, p4, pk, _, K, eK, hK, h⟩ := h
  obtain ⟨k, up⟩ := pka_up pk
  have ua := up_A h4 _ _ up
  have rg := pka_rg pk
  have pN : p < N := by omega
  have up0 := W_up (N := N) e49 p1 p4 n31
  have call : ∀ {l : Nat}, K = 8 ∨ K = 11 ∨ K = 12 → s.2.1 52 p = Int32.ofNat l → l ≤ 6 → WT s N n + 2 * l ≤ WT s N p := fun kk h52 l6 => W_call hN pk eK kk h52 l6 e49 p1 p4 n31 ua
  rcases h with ⟨hk, pt⟩ | ⟨hk, t', _, pt⟩ | ⟨k10, P, P49, _, P1, P4, Pk, P45, pt⟩ | ⟨e, te, d, g', t', hk, _, _, _, _, pt⟩ | ⟨t', u, c', ts, g1, _, _, _, _, h⟩
  · obtain ⟨c, l0, el, _, bp, cp⟩ := pt_b h4 iE iS eK hK pt
    have el : St.length + 1 = c + l0 := el
    have bp := bp ⟨k, up⟩
    by_cases k13 : K = 13
    · subst k13
      have c2 := cP_13 cp
      have ne : s.2.1 45 p ≠ Int32.ofNat n := by
        rcases hk with h | h | h | h | h | h | h | h
        · omega
        · omega
        · omega
        · omega
        · omega
        · exact absurd h.1 (by decide)
        · exact h.2
        · exact absurd h.1 (by decide)
      obtain ⟨x, x1, x4, x45⟩ := pka_l13 pk eK
      obtain ⟨x49, pkx⟩ := pka_45 pk eK (by decide) rfl x4 x45
      have rgx := pka_rg pkx
      obtain ⟨kx, ux⟩ := pka_up pkx
      exact bE_fin e49 p1 p4 n31 bp (d := 1) (by omega) (W_two e49 p1 p4 n31 ua pN x49 ux.1.1 (fun z => ne (by rw [x45, z])) x1 (by omega))
    · by_cases k11 : K = 11 ∨ K = 12
      · obtain ⟨l, ec, l6, h52⟩ := cP_11 k11 cp
        exact bE_fin e49 p1 p4 n31 bp (d := l) (by omega) (call (by omega) h52 l6)
      · have c1 := cP_1 cp (by
          rcases hk with h | h | h | h | h | h | h | h
          · omega
          · omega
          · omega
          · omega
          · omega
          · have := h.1; omega
          · exact absurd h.1 k13
          · exact absurd h.1 k11)
        exact bE_fin e49 p1 p4 n31 bp (d := 0) (by omega) (by omega)
  · obtain ⟨c, l0, el, _, bp, cp⟩ := pt_b h4 iE iS eK hK pt
    have el : St.length + 1 = c + l0 := el
    have bp := bp ⟨k, up⟩
    rcases hk with h | h | h | ⟨h, _⟩ | ⟨h, _, q, q45, _, q4, q10⟩
    · have c1 := cP_1 cp (by omega)
      exact bE_fin e49 p1 p4 n31 bp (d := 0) (by omega) (by omega)
    · have c1 := cP_1 cp (by omega)
      exact bE_fin e49 p1 p4 n31 bp (d := 0) (by omega) (by omega)
    · have c1 := cP_1 cp (by omega)
      exact bE_fin e49 p1 p4 n31 bp (d := 0) (by omega) (by omega)
    · subst h
      obtain ⟨c6, h52⟩ := cP_8 cp
      exact bE_fin e49 p1 p4 n31 bp (d := c) (by omega) (call (Or.inl rfl) h52 c6)
    · obtain ⟨x, x45, x4, z⟩ := cP_7 h cp
      have ex : x = q := ofn_inj x4 q4 (x45.symm.trans q45)
      subst ex
      rcases z with ⟨_, c1⟩ | ⟨z, _⟩
      · exact bE_fin e49 p1 p4 n31 bp (d := 0) (by omega) (by omega)
      · exact absurd z q10
  · subst k10
    obtain ⟨K2, e2, k2⟩ : ∃ K2 : Nat, s.2.1 44 P = Int32.ofNat K2 ∧ (K2 = 7 ∨ K2 = 26) := by
      rcases Pk with h | h
      · exact ⟨7, h, Or.inl rfl⟩
      · exact ⟨26, h, Or.inr rfl⟩
    obtain ⟨c, l0, el, _, bp, cp⟩ := pt_b h4 iE iS e2 (by omega) pt
    have el : St.length + 1 = c + l0 := el
    have c2 := cP_7c k2 cp
    obtain ⟨⟨_, u30⟩, P', _, PN, Pe, uP⟩ := id up
    have eP : P' = P := ofn_inj (by omega) P4 (Pe.symm.trans P49)
    subst eP
    cases k with
    | zero =>
      have := u30 rfl
      rw [eK] at this
      exact absurd this (by decide)
    | succ k =>
      have bp := bp ⟨k, uP⟩
      have w1 := W_own (N := N) e49 p1 p4 n31 ua pN
      have w2 := W_own (N := N) P49 P1 P4 (k31 eK (by decide)) (up_A h4 _ _ uP) (by omega)
      obtain ⟨_, bq⟩ := bp
      exact ⟨⟨k + 1 + 1, n31, p, p1, p4, e49, ua⟩, by omega⟩
  · obtain ⟨c, l0, el, _, bp, cp⟩ := pt_b h4 iE iS eK hK pt
    have el : St.length + 1 + 1 = c + l0 := el
    have bp := bp ⟨k, up⟩
    rcases hk with ⟨h, -⟩ | ⟨h, -⟩ | ⟨h, -⟩
    · subst h
      have c2 := cP_13 cp
      exact bE_fin e49 p1 p4 n31 bp (d := 0) (by omega) (by omega)
    · obtain ⟨l, ec, l6, h52⟩ := cP_11 h cp
      exact bE_fin e49 p1 p4 n31 bp (d := l) (by omega) (call (by omega) h52 l6)
    · have c2 := cP_7c h cp
      exact bE_fin e49 p1 p4 n31 bp (d := 0) (by omega) (by omega)
  · rcases h with ⟨h, pt⟩ | ⟨h, l, tl, d, g', _, _, _, _, pt⟩
    · obtain ⟨c, l0, el, _, bp, cp⟩ := pt_b h4 iE iS eK hK pt
      rw [List.length_append] at el
      have el : (vE lv (u :: ts)).length + (St.length + 1) = c + l0 := el
      subst h
      obtain ⟨c6, h52⟩ := cP_8 cp
      exact bE_fin e49 p1 p4 n31 (bp ⟨k, up⟩) (d := c) (by omega) (call (Or.inl rfl) h52 c6)
    · obtain ⟨c, l0, el, _, bp, cp⟩ := pt_b h4 iE iS eK hK pt
      rw [List.length_cons, List.length_append] at el
      have el : (vE lv (u :: ts)).length + (St.length + 1) + 1 = c + l0 := el
      obtain ⟨l', ec, l6, h52⟩ := cP_11 h cp
      exact bE_fin e49 p1 p4 n31 (bp ⟨k, up⟩) (d := l') (by omega) (call (by omega) h52 l6)
theorem h_all (h4 : hi ≤ 4400) (hN : hi ≤ N) (l1 : 1 ≤ lo) : ∀ f, (∀ n b lv G g t St, (CT s A B m F lo hi f).1 n b lv G g t St → s.2.1 44 n ≠ 31 → bEn s N n St.length) ∧ (∀ u n b lv G g St, (CT s A B m F lo hi f).2.1 u n b lv G g St → s.2.1 44 n ≠ 31 → bSn s N n St.length) ∧ ∀ u n b lv G g St, (CT s A B m F lo hi f).2.2 u n b lv G g St → bSn s N n St.length
  | 0 => ⟨fun _ _ _ _ _ _ _ h => absurd h id, fun _ _ _ _ _ _ _ h => absurd h id, fun _ _ _ _ _ _ _ h => absurd h id⟩
  | f + 1 => by
    obtain ⟨i1, i2, i3⟩ := h_all h4 hN l1 f
    refine ⟨fun n b lv G g t St h n31 => hE_b h4 hN l1 i1 i2 h n31, fun u n b lv G g St h n31 => ?_, fun u n b lv G g St h => ?_⟩
    · obtain ⟨c, c49, c1, c4, _, _, c30, how, tg, d, dd, es, g', Go, gx, _, _, _, _, fin⟩ := h
      have c31 : s.2.1 44 c ≠ 31 := by rw [c30]; decide
      rcases fin with ⟨_, u', _, bc⟩ | ⟨_, _, e⟩ | ⟨_, R, lv0, R49, R1, R4, ⟨_, _, R9⟩, e⟩
      · exact bS_up c49 c1 c4 n31 (i3 _ _ _ _ _ _ _ bc)
      · rw [e]; exact Or.inl rfl
      · exact Or.inr (bE_up c49 c1 c4 n31 (bE_up R49 R1 R4 c31 (i1 _ _ _ _ _ _ _ e (by rw [R9]; decide))))
    · obtain ⟨n30, _, p, e49, p1, p4, ⟨e31, pt⟩ | ⟨e21, g', u', _, _, h | ⟨b2, _, _, _, h⟩⟩ | ⟨e22, pk, l, a, c, g0, g1, _, _, _, _, _, _, _, pt⟩⟩ := h
      · rw [(LV_p (LV_c f).1 (LV_c f).2.1 pt).2 e31]; exact Or.inl rfl
      · exact bS_up e49 p1 p4 (by rw [n30]; decide) (i2 _ _ _ _ _ _ _ h (by rw [e21]; decide))
      · exact bS_up e49 p1 p4 (by rw [n30]; decide) (i2 _ _ _ _ _ _ _ h (by rw [e21]; decide))
      · obtain ⟨c, l0, el, _, bp, cp⟩ := pt_b h4 i1 i2 (K := 22) e22 (by decide) pt
        have el : St.length + 1 = c + l0 := el
        have c1 := cP_1 cp (by decide)
        have w := W_up (N := N) e49 p1 p4 (by rw [n30]; decide)
        exact Or.inr (bE_fin e49 p1 p4 (by rw [n30]; decide) (bp (pka_up pk)) (d := 0) (by omega) (by omega))
/-- THE HEIGHT OF A STACK -/
theorem PT_len (h4 : hi ≤ 4400) (hN : hi ≤ N) (l1 : 1 ≤ lo) {i q lv : Nat} {G : List scN} {g : Int32} {St : List stE} (h : PT s A B m F lo hi i q lv G g St) : 2 * St.length ≤ tTl s N + 14 := by
  obtain ⟨f, h⟩ := h
  obtain ⟨i1, i2, _⟩ := h_all (s := s) (A := A) (B := B) (m := m) (F := F) h4 hN l1 f
  obtain ⟨_, K, eK, hK, _⟩ := id h
  obtain ⟨c, l0, el, e2, _, cp⟩ := pt_b h4 i1 i2 eK hK h
  have := cP_le cp
  omega
theorem mQ_len {L : Nat} {xs : Nat → Int32} {h : rm_H} {gn u2 M : Nat} {q : Nat × Nat × Nat × Nat × Nat} (mq : mQ L xs h s gn u2 A B m M q) (tk : nTk s ∧ s.1 10 = Int32.ofNat gn) {i q' lv : Nat} {G : List scN} {g : Int32} {St : List stE} (pt : PT s A B m q.1 q.2.1 q.2.2.1 i q' lv G g St) : St.length ≤ 1010 := by
  obtain ⟨-, c, bb, a0, e0, pl, ph, Bn, -, ⟨x1, x2, x3, x4, x5⟩, -⟩ := mq
  obtain ⟨⟨t1, t2, t3⟩, t4⟩ := tk
  have a := PT_len (N := gn) (by omega) x4 (by omega) pt
  have e : (s.1 10).toInt = (gn : Int) := by rw [t4, of_int (by omega)]
  rw [e] at t3
  have e3 : (gn : Int).toNat = gn := by omega
  rw [e3] at t3
  unfold tTl at a
  omega
end HGC
