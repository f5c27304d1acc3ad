/-! A MAKER, by both. -/
/-- the reference has begun method m of kind k at token i -/
def mhS (s : rS) (m kk i : Nat) (so : Int32) : rS := nxS (rs_wA (rs_wB (rs_wA (rs_wA (rs_wA (rs_wA (rs_w s 42 (Int32.ofNat (m + 1))) 70 m so) 71 m (Int32.ofNat kk)) 72 m (-1)) 75 m (-1)) 78 m 0) 74 m (s.2.1 41 i)) i
/-- what the reference's method m leaves alone, with its head -/
def rMm (s s' : rS) (m np : Nat) : Prop := (∀ j, j ≠ 10 → j ≠ 24 → j ≠ 25 → j ≠ 26 → j ≠ 42 → j ≠ 52 → j ≠ 56 → j ≠ 57 → j ≠ 58 → j ≠ 59 → s'.1 j = s.1 j) ∧ (∀ p, p < 44 ∨ (60 < p ∧ p < 70) ∨ 81 < p → s'.2.1 p = s.2.1 p) ∧ (∀ p i, 70 ≤ p → p ≤ 76 → i ≠ m → s'.2.1 p i = s.2.1 p i) ∧ (∀ i, i ≠ m → i ≠ m + 1 → s'.2.1 77 i = s.2.1 77 i) ∧ (∀ p, p ≠ 56 → p ≠ 61 → p ≠ 78 → p ≠ 79 → s'.2.2 p = s.2.2 p) ∧ (∀ i, i ≠ m → s'.2.2 78 i = s.2.2 78 i) ∧ ∀ f, f < np → s'.2.2 79 f = s.2.2 79 f ∧ s'.2.1 80 f = s.2.1 80 f ∧ s'.2.1 81 f = s.2.1 81 f
section MA
variable {L : Nat} {xs : Nat → Int32} {zf : Value} {w k k2 i m np kk t : Nat} {cx : Nat → Nat} {F : Nat → Nat → Int32} {N : Nat → Int64} {q : List Value} {h h' h1 h2 : rm_H} {s s' s1 : rS} {g g' : Nat → Nat} {ts ts' : List Nat} {M K l a10 c10 : Nat} {v : Nat → Int32} {pt vr so : Int32} {fsK : List Value} {ml : List Nat}
theorem t78 : rs_t 78 = (2, 72, true) := by decide
theorem mWJ {i : Nat} {x : Int64} (hi : i < 72) : rs_sJ s 78 (Int32.ofNat i) x = some (rs_wB s 78 i x) := sJ_at (by omega) t78 hi (by omega)
theorem mh_get (p j : Nat) : (mhS s m kk i so).2.1 p j = if p = 74 ∧ j = m then s.2.1 41 i else if p = 75 ∧ j = m then -1 else if p = 72 ∧ j = m then -1 else if p = 71 ∧ j = m then Int32.ofNat kk else if p = 70 ∧ j = m then so else s.2.1 p j := by
  unfold mhS
  show (rs_wA _ 74 m (s.2.1 41 i)).2.1 p j = _
  rw [wA_get]
  show (if p = 74 ∧ j = m then s.2.1 41 i else (rs_wA _ 75 m (-1)).2.1 p j) = _
  rw [wA_get, wA_get, wA_get, wA_get]
  rfl
theorem mh_J (p j : Nat) : (mhS s m kk i so).2.2 p j = if p = 78 ∧ j = m then 0 else s.2.2 p j := by
  unfold mhS
  show (rs_wB _ 78 m 0).2.2 p j = _
  rw [wB_get]
  rfl
theorem mh_1 : (mhS s m kk i so).1 56 = Int32.ofNat (i + 1) ∧ (mhS s m kk i so).1 42 = Int32.ofNat (m + 1) ∧ ∀ j, j ≠ 42 → j ≠ 56 → (mhS s m kk i so).1 j = s.1 j := by
  refine ⟨rfl, rfl, fun j h1 h2 => ?_⟩
  show upd (upd s.1 42 (Int32.ofNat (m + 1))) 56 (Int32.ofNat (i + 1)) j = _
  rw [upd_ne _ _ h2, upd_ne _ _ h1]
theorem rMm_refl (s : rS) (m np : Nat) : rMm s s m np := ⟨fun _ _ _ _ _ _ _ _ _ _ _ => rfl, fun _ _ => rfl, fun _ _ _ _ _ => rfl, fun _ _ _ => rfl, fun _ _ _ _ _ => rfl, fun _ _ => rfl, fun _ _ => ⟨rfl, rfl, rfl⟩⟩
theorem rMm_st : rMm s (stS s i) m np := ⟨fun j _ _ _ _ _ _ _ h8 h9 _ => by
  show upd (upd s.1 57 1) 58 (s.2.1 41 i) j = _
  rw [upd_ne _ _ h9, upd_ne _ _ h8], fun _ _ => rfl, fun _ _ _ _ _ => rfl, fun _ _ _ => rfl, fun _ _ _ _ _ => rfl, fun _ _ => rfl, fun _ _ => ⟨rfl, rfl, rfl⟩⟩
theorem rMm_of (b : rMt (mhS s m kk i so) s' m np) : rMm s s' m np := by
  obtain ⟨b1, b2, b3, b4, b5⟩ := b
  refine ⟨fun j h1 h2 h3 h4 h5 h6 h7 h8 h9 h10 => ?_, fun p hp => ?_, fun p j h1 h2 hi => ?_, fun j hi hi1 => ?_, fun p h1 h2 h3 h4 => ?_, fun j hi => ?_, fun f hf => ⟨?_, ?_, ?_⟩⟩
  · rw [b1 j h1 h2 h3 h4 h6 h7 h8 h9 h10, mh_1.2.2 j h5 h7]
  · rw [b2 p (by omega)]
    funext j
    rw [mh_get, if_neg (by omega), if_neg (by omega), if_neg (by omega), if_neg (by omega), if_neg (by omega)]
  · have base : (mhS s m kk i so).2.1 p j = s.2.1 p j := by
      rw [mh_get, if_neg (fun u => hi u.2), if_neg (fun u => hi u.2), if_neg (fun u => hi u.2), if_neg (fun u => hi u.2), if_neg (fun u => hi u.2)]
    by_cases p75 : p = 75
    · subst p75; rw [(b3 j hi).1, base]
    · by_cases p76 : p = 76
      · subst p76; rw [(b3 j hi).2.1, base]
      · rw [b2 p (by omega), base]
  · rw [(b3 j hi).2.2 hi1, mh_get, if_neg (by omega), if_neg (by omega), if_neg (by omega), if_neg (by omega), if_neg (by omega)]
  · rw [b4 p h1 h2 h4]
    funext j
    rw [mh_J, if_neg (by omega)]
  · rw [b4 78 (by decide) (by decide) (by decide), mh_J, if_neg (fun u => hi u.2)]
  · rw [(b5 f hf).1, mh_J, if_neg (by omega)]
  · rw [(b5 f hf).2.1, mh_get, if_neg (by omega), if_neg (by omega), if_neg (by omega), if_neg (by omega), if_neg (by omega)]
  · rw [(b5 f hf).2.2, mh_get, if_neg (by omega), if_neg (by omega), if_neg (by omega), if_neg (by omega), if_neg (by omega)]
/-- the head of the reference's method -/
theorem r_314h (hm : m < 72) (h42 : s.1 42 = Int32.ofNat m) (ht : s.1 56 = Int32.ofNat t) (hl : t ≤ 2000) : rM w (k + 1) 314 [.ref 36, .int (Int32.ofNat kk), .int so] s = if mx_f2 .ne so 1 = true then s314_141 (rM w k) w so (Int32.ofNat m) (mhS s m kk t so) else ((rM w k 313 [.ref 36] (mhS s m kk t so)).bind rxI).bind fun x44 => if mx_f1 .ne x44.1 = true then s314_91 (rM w k) w so (Int32.ofNat m) x44.2 else ((rM w k 304 [.ref 36] x44.2).bind rxV).bind fun s50 => s314_91 (rM w k) w so (Int32.ofNat m) s50 := by
  rw [y314]
  show s314_0 (rM w k) w (Int32.ofNat kk) so s = _
  unfold s314_0
  rw [h42, show Int32.ofNat m + 1 = Int32.ofNat (m + 1) from of_add m 1]
  show (rs_sI (rs_w s 42 (Int32.ofNat (m + 1))) 70 (Int32.ofNat m) so).bind _ = _
  rw [mWt (by omega) hm, Option.bind_some, mWt (by omega) hm, Option.bind_some, mWt (by omega) hm, Option.bind_some, mWt (by omega) hm, Option.bind_some, mWJ hm, Option.bind_some]
  show (rs_aI (rs_wB (rs_wA (rs_wA (rs_wA (rs_wA (rs_w s 42 (Int32.ofNat (m + 1))) 70 m so) 71 m (Int32.ofNat kk)) 72 m (-1)) 75 m (-1)) 78 m 0) 41 (s.1 56)).bind _ = _
  rw [ht, aTi (by omega) hl, Option.bind_some, mWt (by omega) hm, Option.bind_some, pI_nx (s := rs_wA (rs_wB (rs_wA (rs_wA (rs_wA (rs_wA (rs_w s 42 (Int32.ofNat (m + 1))) 70 m so) 71 m (Int32.ofNat kk)) 72 m (-1)) 75 m (-1)) 78 m 0) 74 m _) (t := t) ht, Option.bind_some]
  rfl
/-- the class makes a maker -/
theorem c_mk0 (h14 : cx 14 = 0) (p : pC h cx F v) (ch : CH cx q h g ts pt vr) (hK : hc h K = some (.inr (9, fsK))) (k6 : ∃ u, fsK[6]? = some u) (e10 : aL h (cx 10) a10 c10 ml) (ho : ∀ y ∈ ml, oK h y) (n10 : cx 10 ≠ cx 11) (hml : ml.length ≤ 99000) : ∃ h4 a10' c10', dM L xs zf w (k + 7) 115 [.ref (cx 7), .ref K] h = (((dcV L xs (dM L xs zf w (k + 6)) 109 [8] (some (cx 7)) [.int 22] h4).bind dxV).bind fun h32 => ((dcV L xs (dM L xs zf w (k + 6)) 117 [8] (some (cx 7)) [.ref (21 + h.length)] h32).bind dxV).bind fun h36 => b142_220 L xs zf (dM L xs zf w (k + 6)) w (some (cx 7)) (some (21 + h.length)) h36) ∧ (∀ v, pC h cx F v → pC h4 cx F v) ∧ (∀ pt vr, CH cx q h g ts pt vr → CH cx q h4 g ts pt vr) ∧ hc h4 (21 + h.length) = some (.inr (11, mtC 0 K (Int32.ofNat ml.length) 10 (v 7) (22 + h.length))) ∧ aL h4 (22 + h.length) 5 0 [] ∧ hc h4 K = some (.inr (9, fsK.set 6 (.ref (21 + h.length)))) ∧ aL h4 (cx 10) a10' c10' (ml ++ [21 + h.length]) ∧ (∀ y ∈ ml ++ [21 + h.length], oK h4 y) ∧ fr (fun y => y = K ∨ y = cx 10 ∨ (y = a10 ∧ 21 ≤ y)) h h4 ∧ (h4.length ≤ h.length + 3 ∧ nD h h4) ∧ zh h4 + 4 * c10 ≤ zh h + 4 * c10' + 17 ∧ (a10' = a10 ∨ 21 + h.length ≤ a10') ∧ (∀ l2 ar2 cap2 es2, l2 ≠ cx 10 → aL h l2 ar2 cap2 es2 → aL h4 l2 ar2 cap2 es2) ∧ 22 + h.length < 21 + h4.length := by
  have p1 : pC (h ++ [.inr (11, ah_DV 11)]) cx F v := pC_ap p
  have hM1 : hc (h ++ [.inr (11, ah_DV 11)]) (21 + h.length) = some (.inr (11, ah_DV 11)) := hc_new _
  have l1 : (h ++ [Sum.inr (11, ah_DV 11)] : rm_H).length = h.length + 1 := by rw [List.length_append]; rfl
  have y1 : zh (h ++ [.inr (11, ah_DV 11)]) = zh h + 14 := zh_app h _
  obtain ⟨h2, a1, a2, a3, a4, a5, a6, a7⟩ := c_116 (L := L) (xs := xs) (zf := zf) (w := w) (k := k + 2) (so := 0) (K := K) (m := Int32.ofNat ml.length) (nm := 10) (pl := v 7) hM1
  rw [l1] at a2 a3 a5
  have ll : 21 + (h.length + 1) = 22 + h.length := by omega
  rw [ll] at a2 a3
  obtain ⟨sp, sc⟩ := SY_fr1 (cx := cx) (F := F) (q := q) (g := g) (ts := ts) h14 hM1 (by decide) a4 a7
  have hKl := hc_lt hK
  have hK2 : hc h2 K = some (.inr (9, fsK)) := fr_old a4 (hc_up hK) (by omega)
  obtain ⟨u6, k6⟩ := k6
  obtain ⟨h3, b1, b2, b3⟩ := pF_ex (j := 6) (cis := [9]) (v := .ref (21 + h.length)) hK2 k6 (by decide) rfl (by decide)
  have e3 : aL h3 (cx 10) a10 c10 ml := aL_st hK2 (by decide) b3 (aL_fr1 hM1 (by decide) a4 (aL_app e10))
  have M3 : hc h3 (21 + h.length) = some (.inr (11, mtC 0 K (Int32.ofNat ml.length) 10 (v 7) (22 + h.length))) := st1_old b3 a2 (by omega)
  have f3 : fr (fun y => y = K) h h3 := fr_trans (fr_trans (fr_app _ _) a4 (fun y hy u => by omega)) b3.1 (fun _ _ u => u)
  obtain ⟨h4, a10', c10', c1, c2, c3, c4, c5⟩ := al_add (L := L) (xs := xs) (zf := zf) (w := w) (k := k) e3 (fun y hy => oK_fr f3 (ho y hy)) ⟨11, _, M3, Or.inr (Or.inr (Or.inl rfl))⟩ hml
  have fp3 : ∀ v, pC h cx F v → pC h3 cx F v := fun v pv => pC_w hK2 (by decide) b3 (sp v (pC_ap pv))
  have fc3 : ∀ pt vr, CH cx q h g ts pt vr → CH cx q h3 g ts pt vr := fun pt vr c => CH_w hK2 (by decide) b3 (sc pt vr (CH_ap (Or.inl (fun fs z => by cases z)) c))
  have p3 := fp3 v p
  have ch3 := fc3 pt vr ch
  have nol : ∀ y ci fs, ci ≠ 5 → hc h3 y = some (.inr (ci, fs)) → ¬ (y = cx 10 ∨ y = a10) := by
    intro y ci fs hci ey u
    obtain ⟨mc, r1, _, _, r3⟩ := id e3
    rcases u with u | u
    · rw [u, r1] at ey; cases ey; exact hci rfl
    · rcases r3 with ⟨r3, _⟩ | ⟨f0, r3, _⟩
      · have := hc_ge ey
        omega
      · rw [u, r3] at ey; cases ey
  have l3 := b3.2.1
  have y3 := b3.2.2
  have nl10 : 22 + h.length ≠ cx 10 := by have := (aL_lt e10).1; omega
  refine ⟨h4, a10', c10', ?_, fun v pv => (CH_l (fp3 v pv) ch3 e3 n10 c2 c4 c3).1, fun pt vr c => (CH_l p3 (fc3 pt vr c) e3 n10 c2 c4 c3).2, fr_old c4 M3 (nol _ _ _ (by decide) M3), ?_, fr_old c4 b2 (nol _ _ _ (by decide) b2), c2, fun y hy => ?_, ?_, ⟨by omega, nD_trans (nD_st (nD_trans (nD_ap (fun _ z => by cases z)) a4 (nD_l (by omega) (by rw [l1, ll]; exact a3))) b3) c4 (nD_add c2 c3)⟩, by omega, by omega, fun l2 ar2 cap2 es2 ne e => aL_oth ch3.2.2.2.1 e3 c4 ne (aL_st hK2 (by decide) b3 (aL_fr1 hM1 (by decide) a4 (aL_app e))), ?_⟩
  · rw [e115]
    show b115_0 L xs zf (dM L xs zf w (k + 6)) w (some (cx 7)) (some K) h = _
    unfold b115_0
    rw [Option.bind_some, c_out p1, Option.bind_some, show dgR L xs (h ++ [.inr (11, ah_DV 11)]) 2 [4] (some (cx 8)) = some (some (cx 10)) from hc_gR (p := some (cx 10)) (hc_up ch.1) rfl (by decide), Option.bind_some, show (dcV L xs (dM L xs zf w (k + 6)) 101 [5] (some (cx 10)) [] (h ++ [.inr (11, ah_DV 11)])).bind dxI = some (Int32.ofNat ml.length, h ++ [.inr (11, ah_DV 11)]) from by rw [al_v (aL_app e10), al_size (k := k + 5) (aL_app e10)]; rfl, Option.bind_some, c_in p1, Option.bind_some, c_I p1 7 (by omega), Option.bind_some, show (dcN (dM L xs zf w (k + 6)) 116 (some (21 + List.length h)) [.int 0, va_rf (some K), .int (Int32.ofNat ml.length), va_rf (some 10), .int (v 7)] (h ++ [.inr (11, ah_DV 11)])).bind dxV = some h2 from by
      show (dM L xs zf w (k + 6) 116 [.ref (21 + h.length), .int 0, .ref K, .int (Int32.ofNat ml.length), .ref 10, .int (v 7)] (h ++ [.inr (11, ah_DV 11)])).bind dxV = _
      rw [a1]
      rfl, Option.bind_some, va_s, b1, Option.bind_some, c_out p3, Option.bind_some, show dgR L xs h3 2 [4] (some (cx 8)) = some (some (cx 10)) from hc_gR (p := some (cx 10)) ch3.1 rfl (by decide), Option.bind_some, show (dcV L xs (dM L xs zf w (k + 6)) 103 [5] (some (cx 10)) [.ref (21 + h.length)] h3).bind dxI = some (1, h4) from by rw [al_v e3, c1]; rfl, Option.bind_some]
    rfl
  · exact aL_oth ch3.2.2.2.1 e3 c4 nl10 (aL_st hK2 (by decide) b3 a3)
  · rcases List.mem_append.mp hy with u | u
    · exact oK_fr c4 (oK_fr f3 (ho y u))
    · rw [List.mem_singleton.mp u]; exact oK_fr c4 ⟨11, _, M3, Or.inr (Or.inr (Or.inl rfl))⟩
  · refine fr_trans (fr_mono f3 (fun _ _ u => Or.inl u)) (fr_21 c4) (fun y hy u => ?_)
    obtain ⟨u, u21⟩ := u
    rcases u with u | u
    · exact Or.inr (Or.inl u)
    · exact Or.inr (Or.inr ⟨u, u21⟩)
  · have := c4.1
    omega
end MA
