/-! A READER IS MADE by the class. -/
/-- a new reader's numbers -/
def vR0 : Nat → Int32 := fun x => if x = 4 then 0 else if x = 5 then -1 else if x = 6 then 0 else if x = 7 then 0 else -1
section RA
variable {L : Nat} {xs : Nat → Int32} {zf : Value} {w k : Nat} {h h' h1 h2 : rm_H} {r t a n : Nat} {f : Nat → Int32} {x y : Int32}
theorem nI_n (hn : n ≤ 2000) : dnI 0 (Int32.ofNat n + 1) h = some (h ++ [iN0 (n + 1)]) := by
  rw [show Int32.ofNat n + 1 = Int32.ofNat (n + 1) from of_add n 1]
  unfold dnI
  rw [of_clamp (by omega), if_pos]
  refine ⟨fun u => ?_, by omega⟩
  rw [Int32.lt_iff_toInt_lt, of_int (by omega), show (0 : Int32).toInt = 0 from by decide] at u
  omega
theorem c_59 (hr : hc h r = some (.inr (6, ah_DV 6))) (ht : hc h t = some (.inr (7, [.ref a, .int 0, .int x, .int y]))) (ha : hc h a = some (byA n f)) (hn : n ≤ 2000) : ∃ h', dM L xs zf w (k + 3) 59 [.ref r, .ref t] h = some (none, h') ∧ rP h' r t a (21 + h.length) (22 + h.length) (23 + h.length) n f vR0 (fun _ => 0) (fun _ => 0) (fun _ => 0) ∧ fr (fun y => y = r) h h' ∧ h'.length = h.length + 3 ∧ zh h' = zh h + 3 * zs (iN0 (n + 1)) ∧ (uA h → uA h') := by
  have hrl := hc_lt hr
  have htl := hc_lt ht
  have hal := hc_lt ha
  have tr : t ≠ r := fun e => by rw [e, hr] at ht; cases ht
  have ar : a ≠ r := fun e => by rw [e, hr] at ha; cases ha
  have ta : t ≠ a := fun e => by rw [e, ha] at ht; cases ht
  have len : ∀ hh : rm_H, hc hh t = some (.inr (7, [.ref a, .int 0, .int x, .int y])) → hc hh a = some (byA n f) → (dcV L xs (dM L xs zf w (k + 2)) 60 [7, 16] (some t) [] hh).bind dxI = some (Int32.ofNat n, hh) := fun hh e1 e2 => st_l (g := fun i => f i &&& 255) ⟨7, a, _, f, by decide, (rs_look (hc_ge e1)).trans (hc_at e1), rfl, rfl, (rs_look (hc_ge e2)).trans (hc_at e2), by omega, fun _ _ => rfl⟩
  obtain ⟨a0, b0, c0, d0⟩ := pF_ex (j := 0) (cis := [6]) (v := .ref t) (u := .null) hr rfl (by decide) rfl (by decide)
  have l0 := d0.2.1
  have y0 := d0.2.2
  have t0 := st1_old d0 ht tr
  have q0 := st1_old d0 ha ar
  have e1 := hc_up (c2 := iN0 (n + 1)) c0
  obtain ⟨a1, b1, c1, d1⟩ := pF_ex (j := 1) (cis := [6]) (v := .ref (21 + h.length)) (u := .null) e1 rfl (by decide) rfl (by decide)
  have l1 : a1.length = h.length + 1 := by rw [d1.2.1, List.length_append, l0]; rfl
  have y1 : zh a1 = zh h + zs (iN0 (n + 1)) := by rw [d1.2.2, zh_app, y0]
  have t1 := st1_old d1 (hc_up (c2 := iN0 (n + 1)) t0) tr
  have q1 := st1_old d1 (hc_up (c2 := iN0 (n + 1)) q0) ar
  have e2 := hc_up (c2 := iN0 (n + 1)) c1
  obtain ⟨a2, b2, c2, d2⟩ := pF_ex (j := 2) (cis := [6]) (v := .ref (22 + h.length)) (u := .null) e2 rfl (by decide) rfl (by decide)
  have l2 : a2.length = h.length + 2 := by rw [d2.2.1, List.length_append, l1]; rfl
  have y2 : zh a2 = zh h + 2 * zs (iN0 (n + 1)) := by rw [d2.2.2, zh_app, y1]; omega
  have t2 := st1_old d2 (hc_up (c2 := iN0 (n + 1)) t1) tr
  have q2 := st1_old d2 (hc_up (c2 := iN0 (n + 1)) q1) ar
  have e3 := hc_up (c2 := iN0 (n + 1)) c2
  obtain ⟨a3, b3, c3, d3⟩ := pF_ex (j := 3) (cis := [6]) (v := .ref (23 + h.length)) (u := .null) e3 rfl (by decide) rfl (by decide)
  obtain ⟨a4, b4, c4, d4⟩ := pF_ex (j := 4) (cis := [6]) (v := .int 0) (u := .int 0) c3 rfl (by decide) rfl (by decide)
  obtain ⟨a5, b5, c5, d5⟩ := pF_ex (j := 5) (cis := [6]) (v := .int (-1)) (u := .int 0) c4 rfl (by decide) rfl (by decide)
  obtain ⟨a6, b6, c6, d6⟩ := pF_ex (j := 6) (cis := [6]) (v := .int 0) (u := .int 0) c5 rfl (by decide) rfl (by decide)
  obtain ⟨a7, b7, c7, d7⟩ := pF_ex (j := 7) (cis := [6]) (v := .int 0) (u := .int 0) c6 rfl (by decide) rfl (by decide)
  obtain ⟨a8, b8, c8, d8⟩ := pF_ex (j := 8) (cis := [6]) (v := .int (-1)) (u := .int 0) c7 rfl (by decide) rfl (by decide)
  have s8 := st1_trans (st1_trans (st1_trans (st1_trans (st1_trans d3 d4) d5) d6) d7) d8
  have k0 : 21 + a0.length = 21 + h.length := by omega
  have k1 : 21 + a1.length = 22 + h.length := by omega
  have k2 : 21 + a2.length = 23 + h.length := by omega
  have n1 : hc (a0 ++ [iN0 (n + 1)]) (21 + h.length) = some (iN0 (n + 1)) := by rw [← k0]; exact hc_new _
  have n2 : hc (a1 ++ [iN0 (n + 1)]) (22 + h.length) = some (iN0 (n + 1)) := by rw [← k1]; exact hc_new _
  have n3 : hc (a2 ++ [iN0 (n + 1)]) (23 + h.length) = some (iN0 (n + 1)) := by rw [← k2]; exact hc_new _
  have up : ∀ p c, p ≠ r → hc (a2 ++ [iN0 (n + 1)]) p = some c → hc a8 p = some c := fun p c hp e => st1_old s8 e hp
  have w1 := up _ _ (by omega) (hc_up (c2 := iN0 (n + 1)) (st1_old d2 (hc_up (c2 := iN0 (n + 1)) (st1_old d1 n1 (by omega))) (by omega)))
  have w2 := up _ _ (by omega) (hc_up (c2 := iN0 (n + 1)) (st1_old d2 n2 (by omega)))
  have w3 := up _ _ (by omega) n3
  have wt := up _ _ tr (hc_up (c2 := iN0 (n + 1)) t2)
  have wa := up _ _ ar (hc_up (c2 := iN0 (n + 1)) q2)
  refine ⟨a8, ?_, ⟨⟨hc_ge hr, hc_ge ht, hc_ge ha, by omega, by omega, by omega⟩, ?_, hn, hc_at c8, ⟨x, y, hc_at wt⟩, hc_at wa, hc_at w1, hc_at w2, hc_at w3⟩, ?_, ?_, ?_, fun u => ?_⟩
  · rw [e59]
    show b59_0 L xs zf (dM L xs zf w (k + 2)) w (some r) (some t) h = _
    unfold b59_0
    rw [if_neg (dnl_s _), va_s, b0, Option.bind_some, len a0 t0 q0, Option.bind_some, nI_n hn, Option.bind_some, k0, va_s, b1, Option.bind_some, len a1 t1 q1, Option.bind_some, nI_n hn, Option.bind_some, k1, va_s, b2, Option.bind_some, len a2 t2 q2, Option.bind_some, nI_n hn, Option.bind_some, k2, va_s, b3, Option.bind_some, b4, Option.bind_some, b5, Option.bind_some, b6, Option.bind_some, b7, Option.bind_some, b8, Option.bind_some]
  · simp only [List.nodup_cons, List.mem_cons, List.not_mem_nil, or_false, not_or, List.nodup_nil, and_true, not_false_eq_true]
    omega
  · exact fr_trans (fr_trans (fr_trans (fr_trans (fr_trans (fr_trans d0.1 (fr_app (fun _ => False) _) (fun _ _ u => u.elim)) d1.1 (fun _ _ u => u)) (fr_app (fun _ => False) _) (fun _ _ u => u.elim)) d2.1 (fun _ _ u => u)) (fr_app (fun _ => False) _) (fun _ _ u => u.elim)) s8.1 (fun _ _ u => u)
  · rw [s8.2.1, List.length_append, l2]; rfl
  · rw [s8.2.2, zh_app, y2]; omega
  · exact uA_st e3 (by decide) s8 (uA_ap (Or.inl (fun _ z => by cases z)) (uA_st e2 (by decide) d2 (uA_ap (Or.inl (fun _ z => by cases z)) (uA_st e1 (by decide) d1 (uA_ap (Or.inl (fun _ z => by cases z)) (uA_st hr (by decide) d0 u))))))
/-- a parser is made -/
theorem c_90 {ps rd pg : Nat} (hP : hc h ps = some (.inr (8, ah_DV 8))) : ∃ h', dM L xs zf w (k + 1) 90 [.ref ps, .ref rd, .ref pg] h = some (none, h') ∧ hc h' ps = some (.inr (8, [.ref rd, .ref pg])) ∧ st1 ps h h' := by
  obtain ⟨a0, b0, c0, d0⟩ := pF_ex (j := 0) (cis := [8]) (v := .ref rd) (u := .null) hP rfl (by decide) rfl (by decide)
  obtain ⟨a1, b1, c1, d1⟩ := pF_ex (j := 1) (cis := [8]) (v := .ref pg) (u := .null) c0 rfl (by decide) rfl (by decide)
  refine ⟨a1, ?_, c1, st1_trans d0 d1⟩
  rw [e90]
  show b90_0 L xs zf (dM L xs zf w k) w (some ps) (some rd) (some pg) h = _
  unfold b90_0
  rw [if_neg (dnl_s _), va_s, b0, Option.bind_some, va_s, b1, Option.bind_some]
end RA
