/-! A METHOD IS MADE by the class and put into its lists. -/
/-- the class from the new Method on -/
def b142_r (L : Nat) (xs : Nat → Int32) (zf : Value) (D : dD) (w : Nat) (o0 o1 : Option Nat) (i2 i3 s0 : Int32) (M : Nat) (x22 : Int32) (nm : Option Nat) (x8 : Int32) (h : rm_H) : Option dR :=
  ((dcN D 116 (some M) [.int i2, va_rf o1, .int x22, va_rf nm, .int x8] h).bind dxV).bind fun h30 =>
  (dpF h30 6 [11] (some M) (.int s0)).bind fun h41 =>
  (dpF h41 7 [11] (some M) (.int i3)).bind fun h43 =>
  (dgR L xs h43 5 [9] o1).bind fun p45 =>
  ((dcV L xs D 103 [5] p45 [va_rf (some M)] h43).bind dxI).bind fun x47 =>
  (dgR L xs x47.2 1 [8] o0).bind fun p51 =>
  (dgR L xs x47.2 2 [4] p51).bind fun p53 =>
  ((dcV L xs D 103 [5] p53 [va_rf (some M)] x47.2).bind dxI).bind fun x55 =>
  ((dcV L xs D 117 [8] o0 [va_rf (some M)] x55.2).bind dxV).bind fun h59 =>
  mtl L xs zf D w o0 i2 (some M) h59
/-- a method's cell -/
abbrev mtD (so : Int32) (K : Nat) (m : Int32) (nm : Nat) (pl : Int32) (l : Nat) (cv cp : Int32) : List Value := [.int so, .ref K, .int m, .ref nm, .int pl, .ref l, .int cv, .int cp, .null, .null, .int 0, .int 0, .int 1, .int 1]
section MD
variable {L : Nat} {xs : Nat → Int32} {zf : Value} {w k k2 i m np kk t : Nat} {cx : Nat → Nat} {F : Nat → Nat → Int32} {N : Nat → Int64} {q : List Value} {h h' h1 h2 : rm_H} {s s' s1 : rS} {g g' : Nat → Nat} {ts ts' : List Nat} {M K l a10 c10 am cm mlK nm d : Nat} {v : Nat → Int32} {pt vr so cv cp x8 : Int32} {fsK : List Value} {ml mks : List Nat}
theorem b142_79r {i2 i3 s0 : Int32} {h6 : rm_H} {v6 : Nat → Int32} (p : pC h cx F v) (e10 : aL h (cx 10) a10 c10 ml) (ch : CH cx q h g ts pt vr) (e94 : dM L xs zf w (k + 1) 94 [.ref (cx 7), .int 2] (h ++ [.inr (11, ah_DV 11)]) = some (some (.ref nm), h6)) : b142_79 L xs zf (dM L xs zf w (k + 1)) w (some (cx 7)) (some K) i2 i3 s0 h = b142_r L xs zf (dM L xs zf w (k + 1)) w (some (cx 7)) (some K) i2 i3 s0 (21 + h.length) (Int32.ofNat ml.length) (some nm) (v 7) h6 := by
  have p1 : pC (h ++ [.inr (11, ah_DV 11)]) cx F v := pC_ap p
  unfold b142_79
  rw [c_in p, Option.bind_some, c_I p 7 (by omega), Option.bind_some, Option.bind_some, c_out p1, Option.bind_some, show dgR L xs (h ++ [.inr (11, ah_DV 11)]) 2 [4] (some (cx 8)) = some (some (cx 10)) from hc_gR (p := some (cx 10)) (hc_up ch.1) rfl (by decide), Option.bind_some, show (dcV L xs (dM L xs zf w (k + 1)) 101 [5] (some (cx 10)) [] (h ++ [.inr (11, ah_DV 11)])).bind dxI = some (Int32.ofNat ml.length, h ++ [.inr (11, ah_DV 11)]) from by rw [al_v (aL_app e10), al_size (k := k) (aL_app e10)]; rfl, Option.bind_some, show (dcV L xs (dM L xs zf w (k + 1)) 94 [8] (some (cx 7)) [.int 2] (h ++ [.inr (11, ah_DV 11)])).bind dxR = some (some nm, h6) from by rw [c_pv p1, e94]; rfl, Option.bind_some]
  rfl
theorem c_meth0 (h14 : cx 14 = 0) (p : pC h cx F v) (ch : CH cx q h g ts pt vr) (hM : hc h M = some (.inr (11, ah_DV 11))) (hK : hc h K = some (.inr (9, fsK))) (k5 : fsK[5]? = some (.ref mlK)) (em : aL h mlK am cm mks) (hom : ∀ y ∈ mks, oK h y) (e10 : aL h (cx 10) a10 c10 ml) (ho : ∀ y ∈ ml, oK h y) (nm1 : mlK ≠ cx 11) (n10 : cx 10 ≠ cx 11) (nmm : mlK ≠ cx 10) (sz : mks.length ≤ 1000 ∧ ml.length ≤ 1000) (x22 : Int32) : ∃ h9 am' cm' a10' c10', b142_r L xs zf (dM L xs zf w (k + 6)) w (some (cx 7)) (some K) so cp cv M x22 (some nm) x8 h = (((dcV L xs (dM L xs zf w (k + 6)) 117 [8] (some (cx 7)) [.ref M] h9).bind dxV).bind fun h59 => mtl L xs zf (dM L xs zf w (k + 6)) w (some (cx 7)) so (some M) h59) ∧ (∀ v, pC h cx F v → pC h9 cx F v) ∧ (∀ pt vr, CH cx q h g ts pt vr → CH cx q h9 g ts pt vr) ∧ hc h9 M = some (.inr (11, mtD so K x22 nm x8 (21 + h.length) cv cp)) ∧ aL h9 (21 + h.length) 5 0 [] ∧ hc h9 K = some (.inr (9, fsK)) ∧ aL h9 mlK am' cm' (mks ++ [M]) ∧ (∀ y ∈ mks ++ [M], oK h9 y) ∧ aL h9 (cx 10) a10' c10' (ml ++ [M]) ∧ (∀ y ∈ ml ++ [M], oK h9 y) ∧ fr (fun y => y = M ∨ y = mlK ∨ (y = am ∧ 21 ≤ y) ∨ y = cx 10 ∨ (y = a10 ∧ 21 ≤ y)) h h9 ∧ (h9.length ≤ h.length + 3 ∧ nD h h9) ∧ zh h9 + 4 * cm + 4 * c10 ≤ zh h + 4 * cm' + 4 * c10' + 3 ∧ (am' = am ∨ 21 + h.length ≤ am') ∧ (a10' = a10 ∨ 21 + h.length ≤ a10') ∧ (∀ l2 ar2 cap2 es2, l2 ≠ mlK → l2 ≠ cx 10 → aL h l2 ar2 cap2 es2 → aL h9 l2 ar2 cap2 es2) ∧ 21 + h.length < 21 + h9.length := by
  obtain ⟨h2, a1, a2, a3, a4, a5, a6, a7⟩ := c_116 (L := L) (xs := xs) (zf := zf) (w := w) (k := k + 2) (so := so) (K := K) (m := x22) (nm := nm) (pl := x8) hM
  obtain ⟨sp, sc⟩ := SY_fr1 (cx := cx) (F := F) (q := q) (g := g) (ts := ts) h14 hM (by decide) a4 a7
  obtain ⟨h3, b1, b2, b3⟩ := pF_ex (j := 6) (cis := [11]) (v := .int cv) (u := .int 2) a2 rfl (by decide) rfl (by decide)
  obtain ⟨h4, d1, d2, d3⟩ := pF_ex (j := 7) (cis := [11]) (v := .int cp) (u := .int (-1)) b2 rfl (by decide) rfl (by decide)
  have d2 : hc h4 M = some (.inr (11, mtD so K x22 nm x8 (21 + h.length) cv cp)) := d2
  have s4 := st1_trans b3 d3
  have f4 : fr (fun y => y = M) h h4 := fr_trans a4 s4.1 (fun _ _ u => u)
  have KM : K ≠ M := fun e => by rw [e, hM] at hK; cases hK
  have hK4 := fr_old f4 hK KM
  have fp4 : ∀ v, pC h cx F v → pC h4 cx F v := fun v pv => pC_w a2 (by decide) s4 (sp v pv)
  have fc4 : ∀ pt vr, CH cx q h g ts pt vr → CH cx q h4 g ts pt vr := fun pt vr c => CH_w0 h14 a2 (by decide) s4 (sc pt vr c)
  have lk4 : ∀ l2 ar2 cap2 es2, aL h l2 ar2 cap2 es2 → aL h4 l2 ar2 cap2 es2 := fun l2 ar2 cap2 es2 e => aL_fr1 hM (by decide) f4 e
  have l4 : aL h4 (21 + h.length) 5 0 [] := aL_st a2 (by decide) s4 a3
  have p4 := fp4 v p
  have ch4 := fc4 pt vr ch
  have oM : ∀ hh fs, hc hh M = some (.inr (11, fs)) → oK hh M := fun hh fs e => ⟨11, _, e, Or.inr (Or.inr (Or.inl rfl))⟩
  obtain ⟨h5, am', cm', c1, c2, c3, c4, c5⟩ := al_add (L := L) (xs := xs) (zf := zf) (w := w) (k := k) (lk4 _ _ _ _ em) (fun y hy => oK_fr f4 (hom y hy)) (oM h4 _ d2) (by omega)
  have nol : ∀ (hh : rm_H) (ll ar cap : Nat) (es : List Nat), aL hh ll ar cap es → ∀ y ci fs, ci ≠ 5 → hc hh y = some (.inr (ci, fs)) → ¬ (y = ll ∨ y = ar) := by
    intro hh ll ar cap es e y ci fs hci ey u
    obtain ⟨mc, r1, _, _, r3⟩ := id e
    rcases u with u | u
    · rw [u, r1] at ey; cases ey; exact hci rfl
    · rcases r3 with ⟨r3, _⟩ | ⟨f0, r3, _⟩
      · have := hc_ge ey
        omega
      · rw [u, r3] at ey; cases ey
  have fp5 : ∀ v, pC h cx F v → pC h5 cx F v := fun v pv => (CH_l (fp4 v pv) ch4 (lk4 _ _ _ _ em) nm1 c2 c4 c3).1
  have fc5 : ∀ pt vr, CH cx q h g ts pt vr → CH cx q h5 g ts pt vr := fun pt vr c => (CH_l p4 (fc4 pt vr c) (lk4 _ _ _ _ em) nm1 c2 c4 c3).2
  have p5 := fp5 v p
  have ch5 := fc5 pt vr ch
  have M5 := fr_old c4 d2 (nol _ _ _ _ _ (lk4 _ _ _ _ em) _ _ _ (by decide) d2)
  have K5 := fr_old c4 hK4 (nol _ _ _ _ _ (lk4 _ _ _ _ em) _ _ _ (by decide) hK4)
  have lk5 : ∀ l2 ar2 cap2 es2, l2 ≠ mlK → aL h4 l2 ar2 cap2 es2 → aL h5 l2 ar2 cap2 es2 := fun l2 ar2 cap2 es2 ne e => aL_oth ch4.2.2.2.1 (lk4 _ _ _ _ em) c4 ne e
  have e105 := lk5 _ _ _ _ nmm.symm (lk4 _ _ _ _ e10)
  obtain ⟨h6, a10', c10', g1, g2, g3, g4, g5⟩ := al_add (L := L) (xs := xs) (zf := zf) (w := w) (k := k) e105 (fun y hy => oK_fr c4 (oK_fr f4 (ho y hy))) (oM h5 _ M5) (by omega)
  have lk6 : ∀ l2 ar2 cap2 es2, l2 ≠ cx 10 → aL h5 l2 ar2 cap2 es2 → aL h6 l2 ar2 cap2 es2 := fun l2 ar2 cap2 es2 ne e => aL_oth ch5.2.2.2.1 e105 g4 ne e
  have ln4 := s4.2.1
  have zz4 := s4.2.2
  have nlm : 21 + h.length ≠ mlK := by have := (aL_lt em).1; omega
  have nl10 : 21 + h.length ≠ cx 10 := by have := (aL_lt e10).1; omega
  refine ⟨h6, am', cm', a10', c10', ?_, fun v pv => (CH_l (fp5 v pv) ch5 e105 n10 g2 g4 g3).1, fun pt vr c => (CH_l p5 (fc5 pt vr c) e105 n10 g2 g4 g3).2, fr_old g4 M5 (nol _ _ _ _ _ e105 _ _ _ (by decide) M5), lk6 _ _ _ _ nl10 (lk5 _ _ _ _ nlm l4), fr_old g4 K5 (nol _ _ _ _ _ e105 _ _ _ (by decide) K5), lk6 _ _ _ _ nmm c2, fun y hy => ?_, g2, fun y hy => ?_, ?_, ⟨by omega, nD_trans (nD_trans (nD_st (nD_l (by omega) a3) s4) c4 (nD_add c2 c3)) g4 (nD_add g2 g3)⟩, by omega, by omega, by omega, fun l2 ar2 cap2 es2 n1 n2 e => lk6 _ _ _ _ n2 (lk5 _ _ _ _ n1 (lk4 _ _ _ _ e)), ?_⟩
  · unfold b142_r
    rw [show (dcN (dM L xs zf w (k + 6)) 116 (some M) [.int so, va_rf (some K), .int x22, va_rf (some nm), .int x8] h).bind dxV = some h2 from by
      show (dM L xs zf w (k + 6) 116 [.ref M, .int so, .ref K, .int x22, .ref nm, .int x8] h).bind dxV = _
      rw [a1]
      rfl, Option.bind_some, b1, Option.bind_some, d1, Option.bind_some, hc_gR (p := some mlK) hK4 k5 (by decide), Option.bind_some, show (dcV L xs (dM L xs zf w (k + 6)) 103 [5] (some mlK) [va_rf (some M)] h4).bind dxI = some (1, h5) from by rw [al_v (lk4 _ _ _ _ em), va_s, c1]; rfl, Option.bind_some, c_out p5, Option.bind_some, show dgR L xs h5 2 [4] (some (cx 8)) = some (some (cx 10)) from hc_gR (p := some (cx 10)) ch5.1 rfl (by decide), Option.bind_some, show (dcV L xs (dM L xs zf w (k + 6)) 103 [5] (some (cx 10)) [va_rf (some M)] h5).bind dxI = some (1, h6) from by rw [al_v e105, va_s, g1]; rfl, Option.bind_some]
    rfl
  · rcases List.mem_append.mp hy with u | u
    · exact oK_fr g4 (oK_fr c4 (oK_fr f4 (hom y u)))
    · rw [List.mem_singleton.mp u]; exact oK_fr g4 (oM h5 _ M5)
  · rcases List.mem_append.mp hy with u | u
    · exact oK_fr g4 (oK_fr c4 (oK_fr f4 (ho y u)))
    · rw [List.mem_singleton.mp u]; exact oK_fr g4 (oM h5 _ M5)
  · refine fr_trans (fr_trans (fr_mono f4 (fun _ _ u => Or.inl u)) (fr_21 c4) (fun y hy u => ?_)) (fr_21 g4) (fun y hy u => ?_)
    · obtain ⟨u, u21⟩ := u
      rcases u with u | u
      · exact Or.inr (Or.inl u)
      · exact Or.inr (Or.inr (Or.inl ⟨u, u21⟩))
    · obtain ⟨u, u21⟩ := u
      rcases u with u | u
      · exact Or.inr (Or.inr (Or.inr (Or.inl u)))
      · exact Or.inr (Or.inr (Or.inr (Or.inr ⟨u, u21⟩)))
  · have := c4.1
    have := g4.1
    omega
end MD
