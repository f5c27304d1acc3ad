/-! THE LAW'S START, 4: everything that a method's entry asks. -/
def ah_adr (b t1 t2 t3 t4 t5 tz : Nat) (adK adV : Nat → Nat) (a : Nat) : Nat := match a with
  | 0 => b
  | 1 => t1
  | 2 => t2
  | 3 => t3
  | 4 => t4
  | 5 => t5
  | 6 => tz
  | 7 => adK 0
  | 8 => adK 1
  | 9 => adK 2
  | 10 => adK 3
  | 11 => adK 4
  | 12 => adK 5
  | 13 => adK 6
  | 14 => adV 0
  | 15 => adV 1
  | 16 => adV 2
  | 17 => adV 3
  | 18 => adV 4
  | 19 => adV 5
  | _ => adV 6
def ah_rho (b0 : Nat) (ad : Nat → Nat) (a : Nat) : Nat := if a < 21 then ad a else b0 + (a - 21)
theorem ah_rho_new (b0 : Nat) (ad : Nat → Nat) (k : Nat) : ah_rho b0 ad (21 + k) = b0 + k := by
  unfold ah_rho
  rw [if_neg (by omega)]
  omega
theorem ah_vT {s : State} {ty : FieldType} {t N : Nat} {f : Nat → Value} (h : va_T ty t N f (fun q => s.heap.size ≤ q) s s.heap) : t < s.heap.size ∧ rm_RA s s.heap t ty N f := by
  obtain ⟨cell, h1, h2, h3, h4, h5, h6, -⟩ := h
  exact ⟨(Array.getElem?_eq_some_iff.mp h1).1, cell, h1, h2, h3, h4, h5, h6⟩
theorem ah_vS {s : State} {A : Nat → Prop} {q v : Nat} (h1 : va_O "java/lang/String" q A s s.heap) (h2 : va_OF "java/lang/String" "coder" "B" (.int 0) q A s s.heap) (h3 : va_OF "java/lang/String" "value" "[B" (.ref v) q A s s.heap) : q < s.heap.size ∧ rm_RO s s.heap q "java/lang/String" ah_T16 2 [.ref v, .int 0] := by
  obtain ⟨cell, o1, o2, o3, -⟩ := h1
  obtain ⟨cf1, k1, i1, f1, c1, p1, p2, p3, p4, p5, -⟩ := h2
  obtain ⟨cf2, k2, i2, f2, c2, q1, q2, q3, q4, q5, -⟩ := h3
  cases o1.symm.trans p3
  cases o1.symm.trans q3
  refine ⟨(Array.getElem?_eq_some_iff.mp o1).1, cell, o1, o2, p4, o3, fun k w hk hw => ?_⟩
  match k, hk, hw with
  | 0, _, hw => cases hw; exact ⟨cf2, k2, i2, f2, q1, q2, q5⟩
  | 1, _, hw => cases hw; exact ⟨cf1, k1, i1, f1, p1, p2, p5⟩
  | k + 2, hk, _ => exact absurd hk (by omega)
theorem ah_eqr {args : Array Value} {s : State} {t1 t2 : Term} {a : Nat} (h : (Cond.eq t1 t2).before args s = true) (h1 : t1.eval args s none [] s = some (.ref a)) : t2.eval args s none [] s = some (.ref a) := by
  cases hv : t2.eval args s none [] s with
  | none => simp [Cond.before, Cond.holds, Cond.value, hv, h1] at h
  | some w =>
    simp only [Cond.before, Cond.holds, Cond.value, hv, h1] at h
    cases w <;> simp_all
theorem ah_inj {s : State} {D : va_G} {tys : List (ClassId × FieldType)} {ad : Nat → Nat} {t5 : Nat} {adK : Nat → Nat} (hK : va_K D ah_cl tys s) (e5 : ad 5 = t5) (eK : ∀ i, i < 7 → ad (7 + i) = adK i) (h5 : va_T (.object "java/lang/Object") t5 0 (fun _ => .null) (fun q => s.heap.size ≤ q) s s.heap) (hO : ∀ i, i < 7 → va_O "java/lang/String" (adK i) (fun q => s.heap.size ≤ q) s s.heap) (hd : ∀ i j : Nat, i < 7 → j < 7 → adK i = adK j → i = j) :
    ∀ a b, ah_gc a = true → ah_gc b = true → ah_rho s.heap.size ad a = ah_rho s.heap.size ad b → a = b := by
  have hold : ∀ a, a < 21 → ah_gc a = true → a = 5 ∨ ∃ i, i < 7 ∧ a = 7 + i := by
    intro a ha hg
    simp only [ah_gc, Bool.or_eq_true, Bool.and_eq_true, Nat.ble_eq, Nat.beq_eq_true_eq] at hg
    rcases hg with (h | h) | h
    · omega
    · exact Or.inl (Nat.eq_of_beq_eq_true h)
    · exact Or.inr ⟨a - 7, by omega, by omega⟩
  have hlt : ∀ a, a < 21 → ah_gc a = true → ad a < s.heap.size := by
    intro a ha hg
    rcases hold a ha hg with rfl | ⟨i, hi, rfl⟩
    · rw [e5]; exact (ah_vT h5).1
    · rw [eK i hi]
      obtain ⟨cell, o1, -⟩ := hO i hi
      exact (Array.getElem?_eq_some_iff.mp o1).1
  have h5K : ∀ i, i < 7 → t5 ≠ adK i := by
    intro i hi e
    obtain ⟨cell, h1, ⟨-, k, hk, comp, hkk⟩, -⟩ := h5
    obtain ⟨cell2, o1, o2, o3, -⟩ := hO i hi
    rw [← e] at o1
    cases h1.symm.trans o1
    obtain ⟨hfc, kC, hkC, hord⟩ := (hK.1 7 ("java/lang/String", ah_T7, 4) rfl).2
    have e9 := Option.some.inj (hfc.symm.trans o3)
    rw [e9] at hkC
    cases hk.symm.trans hkC
    rw [hord] at hkk
    cases hkk
  intro a b ha hb h
  unfold ah_rho at h
  by_cases h1 : a < 21 <;> by_cases h2 : b < 21
  · rw [if_pos h1, if_pos h2] at h
    rcases hold a h1 ha with rfl | ⟨i, hi, rfl⟩ <;> rcases hold b h2 hb with rfl | ⟨j, hj, rfl⟩
    · rfl
    · rw [e5, eK j hj] at h; exact absurd h (h5K j hj)
    · rw [e5, eK i hi] at h; exact absurd h.symm (h5K i hi)
    · rw [eK i hi, eK j hj] at h; rw [hd i j hi hj h]
  · rw [if_pos h1, if_neg h2] at h; have := hlt a h1 ha; omega
  · rw [if_neg h1, if_pos h2] at h; have := hlt b h2 hb; omega
  · rw [if_neg h1, if_neg h2] at h; omega
set_option maxRecDepth 40000 in
set_option maxHeartbeats 4000000 in
theorem ah_env {args : Array Value} {s : State} {b L : Nat} {xs : Nat → Int32} (hw : ∀ w ∈ lw_tbl, w.before args s = true) (hs : ah_Hs args s) (hX : va_X b L xs s s.heap) (hbl : b < s.heap.size) :
    ∃ (D : va_G) (cA : Nat → ClassId) (ρ : Nat → Nat) (zf : Value), (zf = .null ∨ zf = .ref 6) ∧ (∀ k : Nat, ρ (21 + k) = s.heap.size + k) ∧ (∀ a b, ah_gc a = true → ah_gc b = true → ρ a = ρ b → a = b) ∧ ρ 0 = b ∧ rm_Env D ah_cl cA ah_TY ρ s.heap.size 21 (ah_O L xs) (ah_Z zf) s.heap ah_strs ah_stats ah_Tb s := by
  have hT : ∀ w ∈ ah_Tg ++ ah_Tb, w.before args s = true := fun w h => (List.mem_append.mp h).elim (fun h => hw w (List.mem_filter.mp h).1) (fun h => hw w (List.mem_append_right _ (List.mem_filter.mp h).1))
  obtain ⟨D, cA, hK⟩ := ah_K hT
  obtain ⟨t1, v1, T1⟩ := ah_a0 hs
  obtain ⟨t2, v2, T2⟩ := ah_a1 hs
  obtain ⟨t3, v3, T3⟩ := ah_a2 hs
  obtain ⟨t4, v4, T4⟩ := ah_a3 hs
  obtain ⟨t5, v5, T5⟩ := ah_a5 hs
  obtain ⟨adK, adV, hS, hv⟩ := ah_S hs
  have hA : ∀ a : Nat, a < s.heap.size → ¬ (fun q => s.heap.size ≤ q) a := fun a h => Nat.not_le.mpr h
  obtain ⟨tz, zf, hzf, hz⟩ : ∃ (tz : Nat) (zf : Value), (zf = .null ∨ zf = .ref 6) ∧ ∀ ρ : Nat → Nat, ρ 6 = tz → va_Z "jdk/internal/util/Preconditions" "SIOOBE_FORMATTER" "Ljava/util/function/BiFunction;" (rm_v ρ zf) (fun q => s.heap.size ≤ q) s s.heap := by
    rcases va_Zqof (hw _ (List.mem_append_right _ (ah_c2 (List.mem_of_getElem? (i := 33) rfl)))) (hw _ (List.mem_append_right _ (ah_c1 (List.mem_of_getElem? (i := 10) rfl)))) (hs _ (List.mem_of_getElem? (i := 5) rfl)) hA with h | ⟨t, h⟩
    · exact ⟨0, .null, Or.inl rfl, fun _ _ => h⟩
    · exact ⟨t, .ref 6, Or.inr rfl, fun ρ e => by show va_Z _ _ _ (.ref (ρ 6)) _ _ _; rw [e]; exact h⟩
  generalize had : ah_adr b t1 t2 t3 t4 t5 tz adK adV = ad
  have e0 : ah_rho s.heap.size ad 0 = b := by rw [← had]; rfl
  have e1 : ah_rho s.heap.size ad 1 = t1 := by rw [← had]; rfl
  have e2 : ah_rho s.heap.size ad 2 = t2 := by rw [← had]; rfl
  have e3 : ah_rho s.heap.size ad 3 = t3 := by rw [← had]; rfl
  have e4 : ah_rho s.heap.size ad 4 = t4 := by rw [← had]; rfl
  have e5 : ah_rho s.heap.size ad 5 = t5 := by rw [← had]; rfl
  have e6 : ah_rho s.heap.size ad 6 = tz := by rw [← had]; rfl
  have e7 : ah_rho s.heap.size ad 7 = adK 0 := by rw [← had]; rfl
  have e8 : ah_rho s.heap.size ad 8 = adK 1 := by rw [← had]; rfl
  have e9 : ah_rho s.heap.size ad 9 = adK 2 := by rw [← had]; rfl
  have e10 : ah_rho s.heap.size ad 10 = adK 3 := by rw [← had]; rfl
  have e11 : ah_rho s.heap.size ad 11 = adK 4 := by rw [← had]; rfl
  have e12 : ah_rho s.heap.size ad 12 = adK 5 := by rw [← had]; rfl
  have e13 : ah_rho s.heap.size ad 13 = adK 6 := by rw [← had]; rfl
  have e14 : ah_rho s.heap.size ad 14 = adV 0 := by rw [← had]; rfl
  have e15 : ah_rho s.heap.size ad 15 = adV 1 := by rw [← had]; rfl
  have e16 : ah_rho s.heap.size ad 16 = adV 2 := by rw [← had]; rfl
  have e17 : ah_rho s.heap.size ad 17 = adV 3 := by rw [← had]; rfl
  have e18 : ah_rho s.heap.size ad 18 = adV 4 := by rw [← had]; rfl
  have e19 : ah_rho s.heap.size ad 19 = adV 5 := by rw [← had]; rfl
  have e20 : ah_rho s.heap.size ad 20 = adV 6 := by rw [← had]; rfl
  have eK : ∀ i, i < 7 → ad (7 + i) = adK i := by
    rw [← had]
    exact lt_s (lt_s (lt_s (lt_s (lt_s (lt_s (lt_s lt_0 rfl) rfl) rfl) rfl) rfl) rfl) rfl
  have f5 : ad 5 = t5 := by rw [← had]; rfl
  refine ⟨D, cA, ah_rho s.heap.size ad, zf, hzf, ah_rho_new _ _, ah_inj hK f5 eK T5 (fun i hi => (hS.1 i hi).1) hS.2, e0, hK, ?_, ?_, ?_, ?_⟩
  · intro a x ha hx
    match a, ha, hx with
    | 0, _, hx =>
      cases hx
      rw [e0]
      refine ⟨hbl, fun ty hty => ?_⟩
      cases hty
      obtain ⟨scr, h1, h2, h3, h4, h5⟩ := hX
      exact ⟨scr, h1, h2, h3, Nat.le_of_eq h4.symm, by rw [h4]; rfl, h5⟩
    | 1, _, hx =>
      cases hx
      rw [e1]
      exact ⟨(ah_vT T1).1, fun ty hty => by cases hty; exact (ah_vT T1).2⟩
    | 2, _, hx =>
      cases hx
      rw [e2]
      exact ⟨(ah_vT T2).1, fun ty hty => by cases hty; exact (ah_vT T2).2⟩
    | 3, _, hx =>
      cases hx
      rw [e3]
      exact ⟨(ah_vT T3).1, fun ty hty => by cases hty; exact (ah_vT T3).2⟩
    | 4, _, hx =>
      cases hx
      rw [e4]
      exact ⟨(ah_vT T4).1, fun ty hty => by cases hty; exact (ah_vT T4).2⟩
    | 5, _, hx =>
      cases hx
      rw [e5]
      exact ⟨(ah_vT T5).1, fun ty hty => by cases hty; exact (ah_vT T5).2⟩
    | 6, _, hx => cases hx
    | 7, _, hx =>
      cases hx
      rw [e7]
      obtain ⟨g1, g2, g3, -⟩ := hS.1 0 (by decide)
      refine ⟨(ah_vS g1 g2 g3).1, fun r hr => ?_⟩
      cases hr
      show rm_RO s s.heap (adK 0) "java/lang/String" ah_T16 2 [.ref (ah_rho s.heap.size ad 14), .int 0]
      rw [e14]
      exact (ah_vS g1 g2 g3).2
    | 8, _, hx =>
      cases hx
      rw [e8]
      obtain ⟨g1, g2, g3, -⟩ := hS.1 1 (by decide)
      refine ⟨(ah_vS g1 g2 g3).1, fun r hr => ?_⟩
      cases hr
      show rm_RO s s.heap (adK 1) "java/lang/String" ah_T16 2 [.ref (ah_rho s.heap.size ad 15), .int 0]
      rw [e15]
      exact (ah_vS g1 g2 g3).2
    | 9, _, hx =>
      cases hx
      rw [e9]
      obtain ⟨g1, g2, g3, -⟩ := hS.1 2 (by decide)
      refine ⟨(ah_vS g1 g2 g3).1, fun r hr => ?_⟩
      cases hr
      show rm_RO s s.heap (adK 2) "java/lang/String" ah_T16 2 [.ref (ah_rho s.heap.size ad 16), .int 0]
      rw [e16]
      exact (ah_vS g1 g2 g3).2
    | 10, _, hx =>
      cases hx
      rw [e10]
      obtain ⟨g1, g2, g3, -⟩ := hS.1 3 (by decide)
      refine ⟨(ah_vS g1 g2 g3).1, fun r hr => ?_⟩
      cases hr
      show rm_RO s s.heap (adK 3) "java/lang/String" ah_T16 2 [.ref (ah_rho s.heap.size ad 17), .int 0]
      rw [e17]
      exact (ah_vS g1 g2 g3).2
    | 11, _, hx =>
      cases hx
      rw [e11]
      obtain ⟨g1, g2, g3, -⟩ := hS.1 4 (by decide)
      refine ⟨(ah_vS g1 g2 g3).1, fun r hr => ?_⟩
      cases hr
      show rm_RO s s.heap (adK 4) "java/lang/String" ah_T16 2 [.ref (ah_rho s.heap.size ad 18), .int 0]
      rw [e18]
      exact (ah_vS g1 g2 g3).2
    | 12, _, hx =>
      cases hx
      rw [e12]
      obtain ⟨g1, g2, g3, -⟩ := hS.1 5 (by decide)
      refine ⟨(ah_vS g1 g2 g3).1, fun r hr => ?_⟩
      cases hr
      show rm_RO s s.heap (adK 5) "java/lang/String" ah_T16 2 [.ref (ah_rho s.heap.size ad 19), .int 0]
      rw [e19]
      exact (ah_vS g1 g2 g3).2
    | 13, _, hx =>
      cases hx
      rw [e13]
      obtain ⟨g1, g2, g3, -⟩ := hS.1 6 (by decide)
      refine ⟨(ah_vS g1 g2 g3).1, fun r hr => ?_⟩
      cases hr
      show rm_RO s s.heap (adK 6) "java/lang/String" ah_T16 2 [.ref (ah_rho s.heap.size ad 20), .int 0]
      rw [e20]
      exact (ah_vS g1 g2 g3).2
    | 14, _, hx =>
      cases hx
      rw [e14]
      obtain ⟨-, -, -, g4⟩ := hS.1 0 (by decide)
      exact ⟨(ah_vT g4).1, fun ty hty => by cases hty; exact (ah_vT g4).2⟩
    | 15, _, hx =>
      cases hx
      rw [e15]
      obtain ⟨-, -, -, g4⟩ := hS.1 1 (by decide)
      exact ⟨(ah_vT g4).1, fun ty hty => by cases hty; exact (ah_vT g4).2⟩
    | 16, _, hx =>
      cases hx
      rw [e16]
      obtain ⟨-, -, -, g4⟩ := hS.1 2 (by decide)
      exact ⟨(ah_vT g4).1, fun ty hty => by cases hty; exact (ah_vT g4).2⟩
    | 17, _, hx =>
      cases hx
      rw [e17]
      obtain ⟨-, -, -, g4⟩ := hS.1 3 (by decide)
      exact ⟨(ah_vT g4).1, fun ty hty => by cases hty; exact (ah_vT g4).2⟩
    | 18, _, hx =>
      cases hx
      rw [e18]
      obtain ⟨-, -, -, g4⟩ := hS.1 4 (by decide)
      exact ⟨(ah_vT g4).1, fun ty hty => by cases hty; exact (ah_vT g4).2⟩
    | 19, _, hx =>
      cases hx
      rw [e19]
      obtain ⟨-, -, -, g4⟩ := hS.1 5 (by decide)
      exact ⟨(ah_vT g4).1, fun ty hty => by cases hty; exact (ah_vT g4).2⟩
    | 20, _, hx =>
      cases hx
      rw [e20]
      obtain ⟨-, -, -, g4⟩ := hS.1 6 (by decide)
      exact ⟨(ah_vT g4).1, fun ty hty => by cases hty; exact (ah_vT g4).2⟩
    | a + 21, ha, _ => exact absurd ha (by omega)
  · have h : ∀ x ∈ ah_strs, vk_R x.1 x.2.1 x.2.2.1 (ah_rho s.heap.size ad x.2.2.2) s := rm_co (by show vk_R _ _ _ (ah_rho s.heap.size ad 7) s; rw [e7]; exact vk_R.of (hw _ (List.mem_append_right _ (ah_c3 (List.mem_of_getElem? (i := 71) rfl)))) (hv 0 (by decide))) (rm_co (by show vk_R _ _ _ (ah_rho s.heap.size ad 8) s; rw [e8]; exact vk_R.of (hw _ (List.mem_append_right _ (ah_c3 (List.mem_of_getElem? (i := 80) rfl)))) (hv 1 (by decide))) (rm_co (by show vk_R _ _ _ (ah_rho s.heap.size ad 9) s; rw [e9]; exact vk_R.of (hw _ (List.mem_append_right _ (ah_c3 (List.mem_of_getElem? (i := 171) rfl)))) (hv 2 (by decide))) (rm_co (by show vk_R _ _ _ (ah_rho s.heap.size ad 9) s; rw [e9]; exact vk_R.of (hw _ (List.mem_append_right _ (ah_c3 (List.mem_of_getElem? (i := 176) rfl)))) (ah_eqr (hs _ (List.mem_of_getElem? (i := 293) rfl)) (hv 2 (by decide)))) (rm_co (by show vk_R _ _ _ (ah_rho s.heap.size ad 9) s; rw [e9]; exact vk_R.of (hw _ (List.mem_append_right _ (ah_c3 (List.mem_of_getElem? (i := 185) rfl)))) (ah_eqr (hs _ (List.mem_of_getElem? (i := 300) rfl)) (hv 2 (by decide)))) (rm_co (by show vk_R _ _ _ (ah_rho s.heap.size ad 9) s; rw [e9]; exact vk_R.of (hw _ (List.mem_append_right _ (ah_c3 (List.mem_of_getElem? (i := 194) rfl)))) (ah_eqr (hs _ (List.mem_of_getElem? (i := 308) rfl)) (hv 2 (by decide)))) (rm_co (by show vk_R _ _ _ (ah_rho s.heap.size ad 10) s; rw [e10]; exact vk_R.of (hw _ (List.mem_append_right _ (ah_c4 (List.mem_of_getElem? (i := 152) rfl)))) (hv 3 (by decide))) (rm_co (by show vk_R _ _ _ (ah_rho s.heap.size ad 9) s; rw [e9]; exact vk_R.of (hw _ (List.mem_append_right _ (ah_c5 (List.mem_of_getElem? (i := 15) rfl)))) (ah_eqr (hs _ (List.mem_of_getElem? (i := 330) rfl)) (hv 2 (by decide)))) (rm_co (by show vk_R _ _ _ (ah_rho s.heap.size ad 11) s; rw [e11]; exact vk_R.of (hw _ (List.mem_append_right _ (ah_c6 (List.mem_of_getElem? (i := 15) rfl)))) (hv 4 (by decide))) (rm_co (by show vk_R _ _ _ (ah_rho s.heap.size ad 12) s; rw [e12]; exact vk_R.of (hw _ (List.mem_append_right _ (ah_c8 (List.mem_of_getElem? (i := 148) rfl)))) (hv 5 (by decide))) (rm_co (by show vk_R _ _ _ (ah_rho s.heap.size ad 13) s; rw [e13]; exact vk_R.of (hw _ (List.mem_append_right _ (ah_c8 (List.mem_of_getElem? (i := 209) rfl)))) (hv 6 (by decide))) (rm_nl)))))))))))
    exact fun w i tx a hm => h (w, i, tx, a) hm
  · have h : ∀ x ∈ ah_stats, va_Z x.1 x.2.1 x.2.2.1 (rm_v (ah_rho s.heap.size ad) (ah_Z zf x.2.2.2)) (fun q => s.heap.size ≤ q) s s.heap := rm_co (va_Zof (hw _ (List.mem_append_right _ (ah_c1 (List.mem_of_getElem? (i := 47) rfl)))) (hw _ (List.mem_append_right _ (ah_c1 (List.mem_of_getElem? (i := 4) rfl)))) (va_eqi (hs _ (List.mem_of_getElem? (i := 4) rfl))) hA) (rm_co (hz _ e6) (rm_co (va_Zof (hw _ (List.mem_append_right _ (ah_c2 (List.mem_of_getElem? (i := 41) rfl)))) (hw _ (List.mem_append_right _ (ah_c1 (List.mem_of_getElem? (i := 5) rfl)))) (va_eqi (hs _ (List.mem_of_getElem? (i := 6) rfl))) hA) (rm_co (va_Zof (hw _ (List.mem_append_right _ (ah_c2 (List.mem_of_getElem? (i := 43) rfl)))) (hw _ (List.mem_append_right _ (ah_c1 (List.mem_of_getElem? (i := 5) rfl)))) (va_eqi (hs _ (List.mem_of_getElem? (i := 7) rfl))) hA) (rm_co (va_Zof (hw _ (List.mem_append_right _ (ah_c2 (List.mem_of_getElem? (i := 45) rfl)))) (hw _ (List.mem_append_right _ (ah_c1 (List.mem_of_getElem? (i := 5) rfl)))) (va_eqi (hs _ (List.mem_of_getElem? (i := 8) rfl))) hA) (rm_co (by show va_Z _ _ _ (.ref (ah_rho s.heap.size ad 5)) _ _ _; rw [e5]; exact va_Zof (hw _ (List.mem_append_right _ (ah_c2 (List.mem_of_getElem? (i := 105) rfl)))) (hw _ (List.mem_append_right _ (ah_c1 (List.mem_of_getElem? (i := 18) rfl)))) v5 hA) (rm_co (by show va_Z _ _ _ (.ref (ah_rho s.heap.size ad 1)) _ _ _; rw [e1]; exact va_Zof (hw _ (List.mem_append_right _ (ah_c6 (List.mem_of_getElem? (i := 181) rfl)))) (hw _ (List.mem_append_right _ (ah_c1 (List.mem_of_getElem? (i := 1) rfl)))) v1 hA) (rm_co (by show va_Z _ _ _ (.ref (ah_rho s.heap.size ad 2)) _ _ _; rw [e2]; exact va_Zof (hw _ (List.mem_append_right _ (ah_c6 (List.mem_of_getElem? (i := 207) rfl)))) (hw _ (List.mem_append_right _ (ah_c1 (List.mem_of_getElem? (i := 1) rfl)))) v2 hA) (rm_co (by show va_Z _ _ _ (.ref (ah_rho s.heap.size ad 3)) _ _ _; rw [e3]; exact va_Zof (hw _ (List.mem_append_right _ (ah_c6 (List.mem_of_getElem? (i := 213) rfl)))) (hw _ (List.mem_append_right _ (ah_c1 (List.mem_of_getElem? (i := 1) rfl)))) v3 hA) (rm_co (by show va_Z _ _ _ (.ref (ah_rho s.heap.size ad 4)) _ _ _; rw [e4]; exact va_Zof (hw _ (List.mem_append_right _ (ah_c7 (List.mem_of_getElem? (i := 5) rfl)))) (hw _ (List.mem_append_right _ (ah_c1 (List.mem_of_getElem? (i := 1) rfl)))) v4 hA) (rm_nl))))))))))
    exact fun C n d z hm => h (C, n, d, z) hm
  · exact ⟨fun w h => rm_bw_any (List.mem_filter.mp h).2 (hw w (List.mem_append_right _ (List.mem_filter.mp h).1)), va_Mi.of (hs _ (List.mem_of_getElem? (i := 140) rfl))⟩
