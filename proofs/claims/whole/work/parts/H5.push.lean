/-! PUSH, ENTER, LEAVE. -/
section PSH
variable {L : Nat} {xs : Nat → Int32} {zf : Value} {w k : Nat} {cd : Value} {n : Nat} {sg sg' sg2 : cS} {Z : Nat → Prop} {hB h h' h2 : rm_H} {a b r j i z c ht : Nat} {v : Int32} {f : Nat → Int32}
theorem upd_eq' {g : Nat → Int32} : upd g i v i = v := by
  unfold upd
  rw [if_pos rfl]
theorem upd_ne' {g : Nat → Int32} (hj : j ≠ i) : upd g i v j = g j := by
  unfold upd
  rw [if_neg hj]
theorem k_push1 (q : RH cd n sg Z hB h) (ha : a < n) (hh : sg.2.2.1 a 13 = Int32.ofNat ht) (hl : ht < sg.2.2.2.2 a 13) (hm : sg.2.2.2.2 a 13 ≤ 100000) : ∃ h', b243_30 L xs zf (dM L xs zf w k) w (some (sg.2.2.2.2 a 0)) v h = some (none, h') ∧ RH cd n (sQ sg a (sg.2.2.2.2 a 12) (sg.2.2.2.2 a 13) (upd (sg.2.2.2.1 a 12) ht v) (ht + 1)) Z hB h' ∧ h'.length = h.length ∧ zh h' = zh h := by
  obtain ⟨h1, w1, w2, w3⟩ := wI_at (i := ht) (v := v) (RH_st q ha) hl hm
  have q1 := RH_R q ha (Or.inr (Or.inr (Or.inr (Or.inr ⟨rfl, rfl, rfl⟩)))) w2 w3
  rw [sR_T hh] at q1
  have e0 : (sQ sg a (sg.2.2.2.2 a 12) (sg.2.2.2.2 a 13) (upd (sg.2.2.2.1 a 12) ht v) ht).2.2.2.2 a 0 = sg.2.2.2.2 a 0 := sQ_P (Or.inl (by decide))
  obtain ⟨h2, p1, p2, p3⟩ := pA' (j := 13) (v := Int32.ofNat (ht + 1)) q1 ha (by decide)
  rw [e0] at p1
  rw [sQ_pop, sQ_sQ, sQ_z, sQ_c, sQ_f] at p2
  refine ⟨h2, ?_, p2, p3.2.1.trans w3.2.1, p3.2.2.trans w3.2.2⟩
  unfold b243_30
  refine bse (gAr (r := 5) q ha (by decide)) ?_
  refine bse ((gA (L := L) (xs := xs) q ha (j := 13) (by omega)).trans (congrArg some hh)) ?_
  refine bse w1 ?_
  have g13 := gA (L := L) (xs := xs) q1 ha (j := 13) (by omega)
  rw [e0, sQ_h] at g13
  refine bse g13 ?_
  rw [of_inc]
  exact bse p1 rfl
theorem k_push (q : RH cd n sg Z hB h) (ha : a < n) (hh : sg.2.2.1 a 13 = Int32.ofNat ht) (hl : ht ≤ sg.2.2.2.2 a 13) (c64 : 64 ≤ sg.2.2.2.2 a 13) (hm : sg.2.2.2.2 a 13 ≤ 40000) : ∃ (h' : rm_H) (z c : Nat) (f : Nat → Int32), dM L xs zf w (k + 3) 243 [.ref (sg.2.2.2.2 a 0), .int v] h = some (none, h') ∧ RH cd n (sQ sg a z c f (ht + 1)) Z hB h' ∧ (∀ i, i < ht → f i = sg.2.2.2.1 a 12 i) ∧ f ht = v ∧ ht < c ∧ (c = sg.2.2.2.2 a 13 ∨ (c = 2 * sg.2.2.2.2 a 13 ∧ ht = sg.2.2.2.2 a 13)) ∧ CST n sg h (sQ sg a z c f (ht + 1)) h' := by
  rw [e243]
  show ∃ (h' : rm_H) (z c : Nat) (f : Nat → Int32), b243_0 L xs zf (dM L xs zf w (k + 2)) w (some (sg.2.2.2.2 a 0)) v h = some (none, h') ∧ _
  unfold b243_0
  have x1 := (gA (L := L) (xs := xs) q ha (j := 13) (by omega)).trans (congrArg some hh)
  have x2 := gAr (L := L) (xs := xs) (r := 5) (j := 12) q ha (by decide)
  have x3 := hc_aN (L := L) (xs := xs) (RH_st q ha) (by decide)
  by_cases hlt : ht < sg.2.2.2.2 a 13
  · obtain ⟨h', p1, p2, p3, p4⟩ := k_push1 (L := L) (xs := xs) (zf := zf) (w := w) (k := k + 2) (v := v) q ha hh hlt (by omega)
    refine ⟨h', _, _, _, ?_, p2, fun i hi => upd_ne' (by omega), upd_eq', hlt, Or.inl rfl, CST_0 (fun b => ?_) p3 p4⟩
    · refine bse x1 (bse x2 (bse x3 ?_))
      exact ift (by rw [f2_lt, of_int (by omega), of_int (by omega)]; exact decide_eq_true (by omega)) p1
    · by_cases e : b = a
      · rw [e, sQ_c]
      · exact sQ_P (Or.inr e)
  · have he : ht = sg.2.2.2.2 a 13 := by omega
    have cp := c_copy (L := L) (xs := xs) (zf := zf) (w := w) (k := k) (RH_st q ha) (by omega) (by omega)
    generalize hf : va_cpy (sg.2.2.2.1 a 12) (fun _ => 0) 0 0 (sg.2.2.2.2 a 13) = F at cp
    have fF : ∀ i, i < ht → F i = sg.2.2.2.1 a 12 i := by
      intro i hi
      rw [← hf]
      exact va_cpy_lt (by omega)
    have e : hc (h ++ [iaA (2 * sg.2.2.2.2 a 13) F]) (sg.2.2.2.2 a 0) = some (aCel sg a) := hc_up (RH_a (r := 0) q ha (by decide))
    obtain ⟨h2, p1, p2, p3⟩ := pF_ex (j := 12) (cis := [14]) (v := .ref (21 + h.length)) e rfl rfl rfl (by decide)
    have q2 : RH cd n (sG sg a (21 + h.length) (2 * sg.2.2.2.2 a 13) F) Z hB h2 := by
      refine RH_G q ha rfl ?_ p3
      rw [p2]
      have z0 : (sG sg a (21 + h.length) (2 * sg.2.2.2.2 a 13) F).2.2.2.2 a 0 = sg.2.2.2.2 a 0 := (if_neg (fun q => absurd q.2 (by decide))).trans (if_neg (fun q => absurd q.2 (by decide)))
      have z1 : (sG sg a (21 + h.length) (2 * sg.2.2.2.2 a 13) F).2.2.2.2 a 1 = sg.2.2.2.2 a 1 := (if_neg (fun q => absurd q.2 (by decide))).trans (if_neg (fun q => absurd q.2 (by decide)))
      have z2 : (sG sg a (21 + h.length) (2 * sg.2.2.2.2 a 13) F).2.2.2.2 a 12 = 21 + h.length := if_pos ⟨rfl, rfl⟩
      unfold aCel
      rw [z0, z1, z2]
      rfl
    have y0 : (sG sg a (21 + h.length) (2 * sg.2.2.2.2 a 13) F).2.2.2.2 a 0 = sg.2.2.2.2 a 0 := (if_neg (fun q => absurd q.2 (by decide))).trans (if_neg (fun q => absurd q.2 (by decide)))
    have y12 : (sG sg a (21 + h.length) (2 * sg.2.2.2.2 a 13) F).2.2.2.2 a 12 = 21 + h.length := if_pos ⟨rfl, rfl⟩
    have y13 : (sG sg a (21 + h.length) (2 * sg.2.2.2.2 a 13) F).2.2.2.2 a 13 = 2 * sg.2.2.2.2 a 13 := (if_neg (fun q => absurd q.2 (by decide))).trans (if_pos ⟨rfl, rfl⟩)
    have yf : (sG sg a (21 + h.length) (2 * sg.2.2.2.2 a 13) F).2.2.2.1 a 12 = F := if_pos ⟨rfl, rfl⟩
    obtain ⟨h', r1, r2, r3, r4⟩ := k_push1 (L := L) (xs := xs) (zf := zf) (w := w) (k := k + 2) (v := v) q2 ha hh (by rw [y13]; omega) (by rw [y13]; omega)
    rw [y0] at r1
    rw [y12, y13, yf] at r2
    have eq : sQ (sG sg a (21 + h.length) (2 * sg.2.2.2.2 a 13) F) a (21 + h.length) (2 * sg.2.2.2.2 a 13) (upd F ht v) (ht + 1) = sQ sg a (21 + h.length) (2 * sg.2.2.2.2 a 13) (upd F ht v) (ht + 1) := by
      have : sG sg a (21 + h.length) (2 * sg.2.2.2.2 a 13) F = sQ sg a (21 + h.length) (2 * sg.2.2.2.2 a 13) F ht := by
        unfold sQ sA'
        refine Prod.ext rfl (Prod.ext rfl (Prod.ext (funext fun b => funext fun p => ?_) rfl))
        show sg.2.2.1 b p = if b = a ∧ p = 13 then Int32.ofNat ht else sg.2.2.1 b p
        by_cases c : b = a ∧ p = 13
        · rw [if_pos c, c.1, c.2, hh]
        · rw [if_neg c]
      rw [this, sQ_sQ]
    rw [eq] at r2
    refine ⟨h', _, _, _, ?_, r2, fun i hi => (upd_ne' (by omega)).trans (fF i hi), upd_eq', by omega, Or.inr ⟨rfl, he⟩, ?_⟩
    · refine bse x1 (bse x2 (bse x3 ?_))
      refine ifn (by rw [f2_lt, of_int (by omega), of_int (by omega)]; exact of_decide_eq_false (decide_eq_false (fun z => absurd (of_decide_eq_true z) (by omega)))) ?_
      refine bse x2 (bse x2 (bse x3 ?_))
      refine bse (a := (some (21 + h.length), h ++ [iaA (2 * sg.2.2.2.2 a 13) F])) ?_ ?_
      · show ((dM L xs zf w (k + 2) 176 [.ref (pA sg a 5), .int (Int32.ofNat (sg.2.2.2.2 a 13) * 2)] h).bind dxR) = _
        rw [cp]
        rfl
      · exact bse p1 r1
    · have pt := pot_T (sg := sg) (z := 21 + h.length) (c := 2 * sg.2.2.2.2 a 13) (f := upd F ht v) (ht := ht + 1) n ha
      have l2 := p3.2.1
      have l3 := p3.2.2
      rw [zh_app] at l3
      have l4 : (h ++ [iaA (2 * sg.2.2.2.2 a 13) F]).length = h.length + 1 := by simp
      have l5 : zs (iaA (2 * sg.2.2.2.2 a 13) F) = 2 * sg.2.2.2.2 a 13 := rfl
      unfold CST
      omega
end PSH
