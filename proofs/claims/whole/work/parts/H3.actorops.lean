/-! WHAT AN ACTOR DOES WITH ITS STACK AND ITS BODIES. -/
section ACO
variable {L : Nat} {xs : Nat → Int32} {zf : Value} {w k : Nat} {cd : Value} {n : Nat} {sg : cS} {Z : Nat → Prop} {hB h : rm_H} {a b r j i : Nat} {v : Int32}
theorem of_dec (m : Nat) : Int32.ofNat (m + 1) - 1 = Int32.ofNat m := by
  rw [show (1 : Int32) = Int32.ofNat 1 from rfl, Int32.ofNat_add]
  exact Int32.add_sub_cancel _ _
theorem of_inc (m : Nat) : Int32.ofNat m + 1 = Int32.ofNat (m + 1) := of_add m 1
/-- which array is which -/
def rj (r : Nat) : Nat × Nat := if r = 1 then (7, 10) else if r = 2 then (8, 10) else if r = 3 then (9, 10) else if r = 4 then (10, 42) else (12, 0)
theorem RH_ar (q : RH cd n sg Z hB h) (ha : a < n) (hr : 1 ≤ r ∧ r ≤ 4) : hc h (pA sg a r) = some (iaA (rj r).2 (sg.2.2.2.1 a (rj r).1)) := by
  have := RH_a (r := r) q ha (by omega)
  have hr' : r = 1 ∨ r = 2 ∨ r = 3 ∨ r = 4 := by omega
  rcases hr' with rfl | rfl | rfl | rfl <;> exact this
theorem RH_st (q : RH cd n sg Z hB h) (ha : a < n) : hc h (pA sg a 5) = some (iaA (sg.2.2.2.2 a 13) (sg.2.2.2.1 a 12)) := RH_a (r := 5) q ha (by decide)
theorem rI_at {p m : Nat} {f : Nat → Int32} (e : hc h p = some (iaA m f)) (hi : i < m) (hm : m ≤ 100000) : daI L xs h (some p) (Int32.ofNat i) = some (f i) := by
  rw [aI_of (hc_ge e) (hc_at e) (of_in hi (by omega)), of_clamp (by omega)]
theorem wI_at {p m : Nat} {f : Nat → Int32} (e : hc h p = some (iaA m f)) (hi : i < m) (hm : m ≤ 100000) : ∃ h', dsI h (some p) (Int32.ofNat i) v = some h' ∧ hc h' p = some (iaA m (upd f i v)) ∧ st1 p h h' := ⟨_, sI_of (hc_ge e) (hc_at e) hi (by omega), hc_set e, st_ia e⟩
theorem k_top (q : RH cd n sg Z hB h) (ha : a < n) (hb : sg.2.2.1 a 3 = Int32.ofNat (b + 1)) (b10 : b + 1 ≤ 10) : dM L xs zf w (k + 2) 245 [.ref (sg.2.2.2.2 a 0)] h = some (some (.int (Int32.ofNat b)), h) := by
  rw [e245]
  show b245_0 L xs zf (dM L xs zf w (k + 1)) w (some (sg.2.2.2.2 a 0)) h = _
  unfold b245_0
  refine bse ((gA (L := L) (xs := xs) q ha (j := 3) (by omega)).trans (congrArg some hb)) ?_
  refine bse (a := (Int32.ofNat (b + 1), h)) ?_ ?_
  · rw [show (10 : Int32) = Int32.ofNat 10 from rfl, mx_min _ _ b10 (by decide)]
    rfl
  refine bse (a := (Int32.ofNat b, h)) ?_ rfl
  show ((dM L xs zf w (k + 1) 18 [.int 0, .int (Int32.ofNat (b + 1) - 1)] h).bind dxI) = _
  rw [of_dec, show (0 : Int32) = Int32.ofNat 0 from rfl, mx_max _ _ (by omega) (by omega)]
  rfl
theorem k_top0 (q : RH cd n sg Z hB h) (ha : a < n) (hb : sg.2.2.1 a 3 = Int32.ofNat (b + 1)) (b10 : b + 1 ≤ 10) : (dcV L xs (dM L xs zf w (k + 2)) 245 [14] (some (sg.2.2.2.2 a 0)) [] h).bind dxI = some (Int32.ofNat b, h) := by
  rw [cV_a q ha, k_top q ha hb b10]
  rfl
/-- next and self -/
theorem k_next (q : RH cd n sg Z hB h) (ha : a < n) (hb : sg.2.2.1 a 3 = Int32.ofNat (b + 1)) (b10 : b + 1 ≤ 10) : dM L xs zf w (k + 3) 246 [.ref (sg.2.2.2.2 a 0)] h = some (some (.int (sg.2.2.2.1 a 7 b)), h) := by
  rw [e246]
  show b246_0 L xs zf (dM L xs zf w (k + 2)) w (some (sg.2.2.2.2 a 0)) h = _
  unfold b246_0
  refine bse (gAr (r := 1) q ha (by decide)) ?_
  refine bse (k_top0 q ha hb b10) ?_
  exact bse (rI_at (RH_ar (r := 1) q ha (by decide)) (by show b < 10; omega) (by decide)) rfl
theorem k_self (q : RH cd n sg Z hB h) (ha : a < n) (hb : sg.2.2.1 a 3 = Int32.ofNat (b + 1)) (b10 : b + 1 ≤ 10) : dM L xs zf w (k + 3) 252 [.ref (sg.2.2.2.2 a 0)] h = some (some (.int (sg.2.2.2.1 a 9 b)), h) := by
  rw [e252]
  show b252_0 L xs zf (dM L xs zf w (k + 2)) w (some (sg.2.2.2.2 a 0)) h = _
  unfold b252_0
  refine bse (gAr (r := 3) q ha (by decide)) ?_
  refine bse (k_top0 q ha hb b10) ?_
  exact bse (rI_at (RH_ar (r := 3) q ha (by decide)) (by show b < 10; omega) (by decide)) rfl
theorem k_goTo (q : RH cd n sg Z hB h) (ha : a < n) (hb : sg.2.2.1 a 3 = Int32.ofNat (b + 1)) (b10 : b + 1 ≤ 10) : ∃ h', dM L xs zf w (k + 3) 250 [.ref (sg.2.2.2.2 a 0), .int v] h = some (none, h') ∧ RH cd n (sR sg a 7 b v) Z hB h' ∧ h'.length = h.length ∧ zh h' = zh h := by
  obtain ⟨h', w1, w2, w3⟩ := wI_at (i := b) (v := v) (RH_ar (r := 1) q ha (by decide)) (by show b < 10; omega) (by decide)
  refine ⟨h', ?_, RH_R q ha (Or.inl ⟨rfl, rfl, rfl⟩) w2 w3, w3.2.1, w3.2.2⟩
  rw [e250]
  show b250_0 L xs zf (dM L xs zf w (k + 2)) w (some (sg.2.2.2.2 a 0)) v h = _
  unfold b250_0
  refine bse (gAr (r := 1) q ha (by decide)) ?_
  refine bse (k_top0 q ha hb b10) ?_
  exact bse w1 rfl
theorem k_local {bs sl : Nat} (q : RH cd n sg Z hB h) (ha : a < n) (hb : sg.2.2.1 a 3 = Int32.ofNat (b + 1)) (b10 : b + 1 ≤ 10) (hs : sg.2.2.2.1 a 8 b = Int32.ofNat bs) (hl : bs + sl < sg.2.2.2.2 a 13) (hm : sg.2.2.2.2 a 13 ≤ 100000) : dM L xs zf w (k + 3) 253 [.ref (sg.2.2.2.2 a 0), .int (Int32.ofNat sl)] h = some (some (.int (sg.2.2.2.1 a 12 (bs + sl))), h) := by
  rw [e253]
  show b253_0 L xs zf (dM L xs zf w (k + 2)) w (some (sg.2.2.2.2 a 0)) (Int32.ofNat sl) h = _
  unfold b253_0
  refine bse (gAr (r := 2) q ha (by decide)) ?_
  refine bse (k_top0 q ha hb b10) ?_
  refine bse ((rI_at (RH_ar (r := 2) q ha (by decide)) (by show b < 10; omega) (by decide)).trans (congrArg some hs)) ?_
  rw [of_add]
  refine ifn (by rw [f1_lt, of_int (by omega)]; simp; omega) ?_
  refine bse (gAr (r := 5) q ha (by decide)) ?_
  refine bse (hc_aN (RH_st q ha) (by decide)) ?_
  refine ift (by rw [f2_lt, of_int (by omega), of_int (by omega)]; simp; omega) ?_
  refine bse (gAr (r := 5) q ha (by decide)) ?_
  exact bse (rI_at (RH_st q ha) hl hm) rfl
theorem k_setLocal {bs sl : Nat} (q : RH cd n sg Z hB h) (ha : a < n) (hb : sg.2.2.1 a 3 = Int32.ofNat (b + 1)) (b10 : b + 1 ≤ 10) (hs : sg.2.2.2.1 a 8 b = Int32.ofNat bs) (hl : bs + sl < sg.2.2.2.2 a 13) (hm : sg.2.2.2.2 a 13 ≤ 100000) : ∃ h', dM L xs zf w (k + 3) 254 [.ref (sg.2.2.2.2 a 0), .int (Int32.ofNat sl), .int v] h = some (none, h') ∧ RH cd n (sR sg a 12 (bs + sl) v) Z hB h' ∧ h'.length = h.length ∧ zh h' = zh h := by
  obtain ⟨h', w1, w2, w3⟩ := wI_at (i := bs + sl) (v := v) (RH_st q ha) hl hm
  refine ⟨h', ?_, RH_R q ha (Or.inr (Or.inr (Or.inr (Or.inr ⟨rfl, rfl, rfl⟩)))) w2 w3, w3.2.1, w3.2.2⟩
  rw [e254]
  show b254_0 L xs zf (dM L xs zf w (k + 2)) w (some (sg.2.2.2.2 a 0)) (Int32.ofNat sl) v h = _
  unfold b254_0
  refine bse (gAr (r := 2) q ha (by decide)) ?_
  refine bse (k_top0 q ha hb b10) ?_
  refine bse ((rI_at (RH_ar (r := 2) q ha (by decide)) (by show b < 10; omega) (by decide)).trans (congrArg some hs)) ?_
  rw [of_add]
  refine ifn (by rw [f1_lt, of_int (by omega)]; simp; omega) ?_
  refine bse (gAr (r := 5) q ha (by decide)) ?_
  refine bse (hc_aN (RH_st q ha) (by decide)) ?_
  refine ifn (by rw [f2_ge, of_int (by omega), of_int (by omega)]; simp; omega) ?_
  refine bse (gAr (r := 5) q ha (by decide)) ?_
  exact bse w1 rfl
theorem k_pop {ht : Nat} (q : RH cd n sg Z hB h) (ha : a < n) (hh : sg.2.2.1 a 13 = Int32.ofNat (ht + 1)) (hl : ht < sg.2.2.2.2 a 13) (hm : sg.2.2.2.2 a 13 ≤ 100000) : ∃ h', dM L xs zf w (k + 1) 234 [.ref (sg.2.2.2.2 a 0)] h = some (some (.int (sg.2.2.2.1 a 12 ht)), h') ∧ RH cd n (sA' sg a 13 (Int32.ofNat ht)) Z hB h' ∧ h'.length = h.length ∧ zh h' = zh h := by
  obtain ⟨h', w1, w2, w3⟩ := pA' (j := 13) (v := Int32.ofNat ht) q ha (by decide)
  refine ⟨h', ?_, w2, w3.2.1, w3.2.2⟩
  rw [e234]
  show b234_0 L xs zf (dM L xs zf w k) w (some (sg.2.2.2.2 a 0)) h = _
  unfold b234_0
  refine bse ((gA (L := L) (xs := xs) q ha (j := 13) (by omega)).trans (congrArg some hh)) ?_
  refine ift (by rw [f1_gt, of_int (by omega)]; exact decide_eq_true (by omega)) ?_
  refine bse ((gA (L := L) (xs := xs) q ha (j := 13) (by omega)).trans (congrArg some hh)) ?_
  rw [of_dec]
  refine bse w1 ?_
  refine bse (gAr (L := L) (xs := xs) (r := 5) (j := 12) w2 ha (by decide)) ?_
  refine bse ((gA (L := L) (xs := xs) w2 ha (j := 13) (by omega)).trans (congrArg some (show (sA' sg a 13 (Int32.ofNat ht)).2.2.1 a 13 = Int32.ofNat ht from if_pos ⟨rfl, rfl⟩))) ?_
  exact bse (rI_at (RH_st w2 ha) hl hm) rfl
end ACO
