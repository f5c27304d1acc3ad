/-! A KIND IS MADE by the class. -/
/-- its cell -/
abbrev kdC (nm : Nat) (pl ac ix : Int32) (fl ml : Nat) : List Value := [.ref nm, .int pl, .int ac, .int ix, .ref fl, .ref ml, .null]
/-- the class behind the name of a kind -/
def b93_r (L : Nat) (xs : Nat → Int32) (D : dD) (o0 : Option Nat) (K : Nat) (s0 x11 : Int32) (nm : Option Nat) (h : rm_H) : Option dR :=
  (dgR L xs h 1 [8] o0).bind fun p22 =>
  (dgR L xs h 1 [4] p22).bind fun p24 =>
  ((dcV L xs D 101 [5] p24 [] h).bind dxI).bind fun x26 =>
  ((dcN D 102 (some K) [va_rf nm, .int x11, .int s0, .int x26.1] x26.2).bind dxV).bind fun h30 =>
  (dgR L xs h30 1 [8] o0).bind fun p38 =>
  (dgR L xs h30 1 [4] p38).bind fun p40 =>
  ((dcV L xs D 103 [5] p40 [va_rf (some K)] h30).bind dxI).bind fun x42 =>
  ((dcV L xs D 109 [8] o0 [.int 5] x42.2).bind dxV).bind fun h46 =>
  some (some (va_rf (some K)), h46)
section KA
variable {L : Nat} {xs : Nat → Int32} {zf : Value} {w k : Nat} {cx : Nat → Nat} {F : Nat → Nat → Int32} {N : Nat → Int64} {q : List Value} {h h' h1 h2 : rm_H} {s s' s1 : rS} {g g' : Nat → Nat} {ts : List Nat} {K nm a9 c9 : Nat} {v : Nat → Int32} {pt vr pl ac ix : Int32} {kl : List Nat}
theorem c_102 (hK : hc h K = some (.inr (9, ah_DV 9))) (hac : ac = 0 ∨ ac = 1) : ∃ h', dM L xs zf w (k + 4) 102 [.ref K, .ref nm, .int pl, .int ac, .int ix] h = some (none, h') ∧ hc h' K = some (.inr (9, kdC nm pl ac ix (21 + h.length) (22 + h.length))) ∧ aL h' (21 + h.length) 5 0 [] ∧ aL h' (22 + h.length) 5 0 [] ∧ fr (fun y => y = K) h h' ∧ h'.length = h.length + 2 ∧ zh h' = zh h + 6 ∧ (uA h → uA h') := by
  obtain ⟨a1, b1, c1, d1⟩ := pF_ex (j := 0) (cis := [9]) (v := .ref nm) (u := .null) hK rfl (by decide) rfl (by decide)
  obtain ⟨a2, b2, c2, d2⟩ := pF_ex (j := 1) (cis := [9]) (v := .int pl) (u := .int 0) c1 rfl (by decide) rfl (by decide)
  obtain ⟨a3, b3, c3, d3⟩ := pF_ex (j := 2) (cis := [9]) (v := .int ac) (u := .int 0) c2 rfl (by decide) (by rcases hac with e | e <;> subst e <;> decide) (by decide)
  obtain ⟨a4, b4, c4, d4⟩ := pF_ex (j := 3) (cis := [9]) (v := .int ix) (u := .int 0) c3 rfl (by decide) rfl (by decide)
  have s4 := st1_trans (st1_trans (st1_trans d1 d2) d3) d4
  have l4 := s4.2.1
  have y4 := s4.2.2
  have e5 := hc_up (c2 := .inr (5, [.ref 5, .int 0, .int 0])) c4
  obtain ⟨a5, b5, c5, d5⟩ := pF_ex (j := 4) (cis := [9]) (v := .ref (21 + h.length)) (u := .null) e5 rfl (by decide) rfl (by decide)
  have l5 : a5.length = h.length + 1 := by rw [d5.2.1, List.length_append, l4]; rfl
  have y5 : zh a5 = zh h + 3 := by rw [d5.2.2, zh_app, y4]; rfl
  have e6 := hc_up (c2 := .inr (5, [.ref 5, .int 0, .int 0])) c5
  obtain ⟨a6, b6, c6, d6⟩ := pF_ex (j := 5) (cis := [9]) (v := .ref (22 + h.length)) (u := .null) e6 rfl (by decide) rfl (by decide)
  obtain ⟨a7, b7, c7, d7⟩ := pF_ex (j := 6) (cis := [9]) (v := .null) (u := .null) c6 rfl (by decide) rfl (by decide)
  have s7 := st1_trans d6 d7
  have hKl := hc_lt hK
  have dl : 21 + a4.length = 21 + h.length := by omega
  have dl5 : 21 + a5.length = 22 + h.length := by omega
  have n1 : hc (a4 ++ [.inr (5, [.ref 5, .int 0, .int 0])]) (21 + h.length) = some (.inr (5, [.ref 5, .int 0, .int 0])) := by rw [← dl]; exact hc_new _
  have n2 : hc (a5 ++ [.inr (5, [.ref 5, .int 0, .int 0])]) (22 + h.length) = some (.inr (5, [.ref 5, .int 0, .int 0])) := by rw [← dl5]; exact hc_new _
  refine ⟨a7, ?_, c7, aL_nil (st1_old s7 (hc_up (st1_old d5 n1 (by omega))) (by omega)), aL_nil (st1_old s7 n2 (by omega)), ?_, ?_, ?_, fun u => ?_⟩
  · rw [e102]
    show b102_0 L xs zf (dM L xs zf w (k + 3)) w (some K) (some nm) pl ac ix h = _
    unfold b102_0
    refine ifn (dnl_s _) (bse b1 (bse b2 (bse b3 (bse b4 (bse rfl ?_)))))
    refine bse (a := a4 ++ [.inr (5, [.ref 5, .int 0, .int 0])]) ?_ ?_
    · show (dM L xs zf w (k + 3) 45 [.ref (21 + a4.length)] (a4 ++ [.inr (5, ah_DV 5)])).bind dxV = _
      rw [al_new (k := k)]
      rfl
    · rw [show va_rf (some (21 + a4.length)) = .ref (21 + h.length) from by rw [dl]; rfl]
      refine bse b5 (bse rfl ?_)
      refine bse (a := a5 ++ [.inr (5, [.ref 5, .int 0, .int 0])]) ?_ ?_
      · show (dM L xs zf w (k + 3) 45 [.ref (21 + a5.length)] (a5 ++ [.inr (5, ah_DV 5)])).bind dxV = _
        rw [al_new (k := k)]
        rfl
      · rw [show va_rf (some (21 + a5.length)) = .ref (22 + h.length) from by rw [dl5]; rfl]
        exact bse b6 (bse b7 rfl)
  · exact fr_trans (fr_trans (fr_trans (fr_trans s4.1 (fr_app _ _) (fun _ _ u => u)) d5.1 (fun _ _ u => u)) (fr_app _ _) (fun _ _ u => u)) s7.1 (fun _ _ u => u)
  · rw [s7.2.1, List.length_append, l5]; rfl
  · rw [s7.2.2, zh_app, y5]; rfl
  · exact uA_st e6 (by decide) s7 (uA_ap (Or.inr rfl) (uA_st e5 (by decide) d5 (uA_ap (Or.inr rfl) (uA_st hK (by decide) s4 u))))
theorem nD_ll {ar cap ar2 cap2 : Nat} {es es2 : List Nat} (l : h'.length ≤ h.length + 2) (e1 : aL h' (21 + h.length) ar cap es) (e2 : aL h' (22 + h.length) ar2 cap2 es2) : nD h h' := by
  intro d fs ed
  have ld := hc_lt ed
  obtain ⟨_, r1, _⟩ := e1
  obtain ⟨_, r2, _⟩ := e2
  by_cases q1 : d = 21 + h.length
  · rw [q1, r1] at ed; cases ed
  · by_cases q2 : d = 22 + h.length
    · rw [q2, r2] at ed; cases ed
    · omega
theorem c_kind (h14 : cx 14 = 0) (p : pC h cx F v) (ch : CH cx q h g ts pt vr) (hK : hc h K = some (.inr (9, ah_DV 9))) (hac : ac = 0 ∨ ac = 1) (e9 : aL h (cx 9) a9 c9 kl) (ho : ∀ y ∈ kl, oK h y) (n9 : cx 9 ≠ cx 11) (sz : kl.length ≤ 1000) : ∃ h9 a9' c9', b93_r L xs (dM L xs zf w (k + 6)) (some (cx 7)) K ac pl (some nm) h = (((dcV L xs (dM L xs zf w (k + 6)) 109 [8] (some (cx 7)) [.int 5] h9).bind dxV).bind fun h46 => some (some (.ref K), h46)) ∧ (∀ v, pC h cx F v → pC h9 cx F v) ∧ (∀ pt vr, CH cx q h g ts pt vr → CH cx q h9 g ts pt vr) ∧ hc h9 K = some (.inr (9, kdC nm pl ac (Int32.ofNat kl.length) (21 + h.length) (22 + h.length))) ∧ aL h9 (21 + h.length) 5 0 [] ∧ aL h9 (22 + h.length) 5 0 [] ∧ aL h9 (cx 9) a9' c9' (kl ++ [K]) ∧ (∀ y ∈ kl ++ [K], oK h9 y) ∧ fr (fun y => y = K ∨ y = cx 9 ∨ (y = a9 ∧ 21 ≤ y)) h h9 ∧ (h.length + 2 ≤ h9.length ∧ h9.length ≤ h.length + 3 ∧ nD h h9) ∧ zh h9 + 4 * c9 ≤ zh h + 4 * c9' + 6 ∧ (a9' = a9 ∨ 21 + h.length ≤ a9') ∧ (∀ l2 ar2 cap2 es2, l2 ≠ cx 9 → aL h l2 ar2 cap2 es2 → aL h9 l2 ar2 cap2 es2) := by
  obtain ⟨h2, a1, a2, a3, a3', a4, a5, a6, a7⟩ := c_102 (L := L) (xs := xs) (zf := zf) (w := w) (k := k + 2) (nm := nm) (pl := pl) (ix := Int32.ofNat kl.length) hK hac
  obtain ⟨sp, sc⟩ := SY_fr1 (cx := cx) (F := F) (q := q) (g := g) (ts := ts) h14 hK (by decide) a4 a7
  have lk : ∀ l2 ar2 cap2 es2, aL h l2 ar2 cap2 es2 → aL h2 l2 ar2 cap2 es2 := fun l2 ar2 cap2 es2 e => aL_fr1 hK (by decide) a4 e
  have oM : oK h2 K := ⟨9, _, a2, Or.inl rfl⟩
  obtain ⟨h5, a9', c9', c1, c2, c3, c4, c5⟩ := al_add (L := L) (xs := xs) (zf := zf) (w := w) (k := k) (lk _ _ _ _ e9) (fun y hy => oK_fr a4 (ho y hy)) oM (by omega)
  have nol : ∀ y ci fs, ci ≠ 5 → hc h2 y = some (.inr (ci, fs)) → ¬ (y = cx 9 ∨ y = a9) := by
    intro y ci fs hci ey u
    obtain ⟨mc, r1, _, _, r3⟩ := id (lk _ _ _ _ e9)
    rcases u with u | u
    · rw [u, r1] at ey; cases ey; exact hci rfl
    · rcases r3 with ⟨r3, _⟩ | ⟨f0, r3, _⟩
      · have := hc_ge ey
        omega
      · rw [u, r3] at ey; cases ey
  have ch2 := sc pt vr ch
  have p2 := sp v p
  have lk5 : ∀ l2 ar2 cap2 es2, l2 ≠ cx 9 → aL h2 l2 ar2 cap2 es2 → aL h5 l2 ar2 cap2 es2 := fun l2 ar2 cap2 es2 ne e => aL_oth ch2.2.2.2.1 (lk _ _ _ _ e9) c4 ne e
  have lt9 := (aL_lt e9).1
  refine ⟨h5, a9', c9', ?_, fun v pv => (CH_l (sp v pv) ch2 (lk _ _ _ _ e9) n9 c2 c4 c3).1, fun pt vr c => (CH_l p2 (sc pt vr c) (lk _ _ _ _ e9) n9 c2 c4 c3).2, fr_old c4 a2 (nol _ _ _ (by decide) a2), lk5 _ _ _ _ (by omega) a3, lk5 _ _ _ _ (by omega) a3', c2, fun y hy => ?_, ?_, ⟨by omega, by omega, nD_trans (nD_ll (by omega) a3 a3') c4 (nD_add c2 c3)⟩, by omega, by omega, fun l2 ar2 cap2 es2 n1 e => lk5 _ _ _ _ n1 (lk _ _ _ _ e)⟩
  · unfold b93_r
    rw [c_out p, Option.bind_some, show dgR L xs h 1 [4] (some (cx 8)) = some (some (cx 9)) from hc_gR (p := some (cx 9)) ch.1 rfl (by decide), Option.bind_some, show (dcV L xs (dM L xs zf w (k + 6)) 101 [5] (some (cx 9)) [] h).bind dxI = some (Int32.ofNat kl.length, h) from by rw [al_v e9, al_size (k := k + 5) e9]; rfl, Option.bind_some, show (dcN (dM L xs zf w (k + 6)) 102 (some K) [va_rf (some nm), .int pl, .int ac, .int (Int32.ofNat kl.length)] h).bind dxV = some h2 from by
      show (dM L xs zf w (k + 6) 102 [.ref K, .ref nm, .int pl, .int ac, .int (Int32.ofNat kl.length)] h).bind dxV = _
      rw [a1]
      rfl, Option.bind_some, c_out p2, Option.bind_some, show dgR L xs h2 1 [4] (some (cx 8)) = some (some (cx 9)) from hc_gR (p := some (cx 9)) ch2.1 rfl (by decide), Option.bind_some, show (dcV L xs (dM L xs zf w (k + 6)) 103 [5] (some (cx 9)) [va_rf (some K)] h2).bind dxI = some (1, h5) from by rw [al_v (lk _ _ _ _ e9), va_s, c1]; rfl, Option.bind_some]
    rfl
  · rcases List.mem_append.mp hy with u | u
    · exact oK_fr c4 (oK_fr a4 (ho y u))
    · rw [List.mem_singleton.mp u]; exact oK_fr c4 oM
  · exact fr_trans (fr_mono a4 (fun _ _ u => Or.inl u)) (fr_21 c4) (fun y hy u => by
      obtain ⟨u, u21⟩ := u
      rcases u with u | u
      · exact Or.inr (Or.inl u)
      · exact Or.inr (Or.inr ⟨u, u21⟩))
end KA
