/-! THE CLASS DOES AN INSTRUCTION: operators, swaps, tests, what is told, ends. -/
/-- what an operator gives, by the class's sign -/
def opC (o x y : Int32) : Int32 := if o = 16 then x + y else if o = 17 then x - y else if o = 18 then x * y else if o = 19 then (if x = y then 1 else 0) else (if x.toInt < y.toInt then 1 else 0)
section EX2
variable {L : Nat} {xs : Nat → Int32} {zf : Value} {w k : Nat} {n : Nat} {sg : cS} {Z : Nat → Prop} {hB h : rm_H} {a b i ht P sz bs sl : Nat} {A B : Nat → Int32} {es : List Nat} {v : Int32}
theorem opC_V {o c x y : Int32} (h : opS o c) : opC o x y = opV c x y := by
  unfold opC opV
  rcases h with ⟨rfl, rfl⟩ | ⟨rfl, rfl⟩ | ⟨rfl, rfl⟩ | ⟨rfl, rfl⟩ | ⟨rfl, rfl⟩
  · rfl
  · rfl
  · rfl
  · rfl
  · rfl
theorem k_operate (q : RH (.ref P) n sg Z hB h) (ha : a < n) (so : SOK sg a (ht + 2)) {o : Int32} (ho : o = 15 ∨ o = 16 ∨ o = 17 ∨ o = 18 ∨ o = 19) : ∃ (h' : rm_H) (z c : Nat) (f : Nat → Int32), dM L xs zf w (k + 4) 256 [.ref 24, .ref (sg.2.2.2.2 a 0), .int o] h = some (none, h') ∧ RH (.ref P) n (sQ sg a z c f (ht + 1)) Z hB h' ∧ STN sg a ht z c f (ht + 1) ∧ f ht = opC o (sg.2.2.2.1 a 12 ht) (sg.2.2.2.1 a 12 (ht + 1)) ∧ CST n sg h (sQ sg a z c f (ht + 1)) h' := by
  obtain ⟨h1, p1, p2, p3, p4⟩ := k_pop0 (L := L) (xs := xs) (zf := zf) (w := w) (k := k + 2) q ha so
  obtain ⟨s1, s2, s3, s4⟩ := so
  obtain ⟨h2, t1, tp⟩ := k_pp (L := L) (xs := xs) (zf := zf) (w := w) (k := k) p2 ha (SOK_q (by omega) s3 s4)
  have e0 : (sQ sg a (sg.2.2.2.2 a 12) (sg.2.2.2.2 a 13) (sg.2.2.2.1 a 12) (ht + 1)).2.2.2.2 a 0 = sg.2.2.2.2 a 0 := sQ_P (Or.inl (by decide))
  rw [e0, sQ_f] at t1
  obtain ⟨h', z, c, f, r1, r2, r3, r4, r5⟩ := tp (opC o (sg.2.2.2.1 a 12 ht) (sg.2.2.2.1 a 12 (ht + 1)))
  rw [e0] at r1
  rw [sQ_sQ] at r2 r5
  obtain ⟨y1, y2, y3, y4⟩ := r3
  rw [sQ_c] at y4
  refine ⟨h', z, c, f, ?_, r2, ⟨fun i hi => by rw [y1 i hi, sQ_f], y2, y3, y4⟩, r4, CST_t (CST_q p3 p4) r5⟩
  rw [e256]
  show b256_0 L xs zf (dM L xs zf w (k + 3)) w (some (sg.2.2.2.2 a 0)) o h = _
  unfold b256_0
  refine bse p1 (bse t1 ?_)
  dsimp only
  rcases ho with rfl | rfl | rfl | rfl | rfl
  · refine ift (by decide) ?_
    have ev : opC 15 (sg.2.2.2.1 a 12 ht) (sg.2.2.2.1 a 12 (ht + 1)) = if (sg.2.2.2.1 a 12 ht).toInt < (sg.2.2.2.1 a 12 (ht + 1)).toInt then 1 else 0 := rfl
    rw [ev] at r1
    by_cases cc : (sg.2.2.2.1 a 12 ht).toInt < (sg.2.2.2.1 a 12 (ht + 1)).toInt
    · rw [if_pos cc] at r1
      exact ifn (by rw [f2_ge]; exact fun z => absurd (of_decide_eq_true z) (by omega)) (bse r1 rfl)
    · rw [if_neg cc] at r1
      exact ift (by rw [f2_ge]; exact decide_eq_true (by omega)) (bse r1 rfl)
  · exact ifn (by decide) (ift rfl (bse r1 rfl))
  · exact ifn (by decide) (ifn (by decide) (ift rfl (bse r1 rfl)))
  · exact ifn (by decide) (ifn (by decide) (ifn (by decide) (ift rfl (bse r1 rfl))))
  · refine ifn (by decide) (ifn (by decide) (ifn (by decide) (ifn (by decide) (ift rfl ?_))))
    have ev : opC 19 (sg.2.2.2.1 a 12 ht) (sg.2.2.2.1 a 12 (ht + 1)) = if sg.2.2.2.1 a 12 ht = sg.2.2.2.1 a 12 (ht + 1) then 1 else 0 := rfl
    rw [ev] at r1
    by_cases cc : sg.2.2.2.1 a 12 ht = sg.2.2.2.1 a 12 (ht + 1)
    · rw [if_pos cc] at r1
      exact ifn (ne_f cc) (bse r1 rfl)
    · rw [if_neg cc] at r1
      exact ift (ne_t cc) (bse r1 rfl)
theorem k_swapN (q : RH (.ref P) n sg Z hB h) (ha : a < n) (so : SOK sg a (ht + 1)) (hb : sg.2.2.1 a 3 = Int32.ofNat (b + 1)) (b10 : b + 1 ≤ 10) (hs : sg.2.2.2.1 a 8 b = Int32.ofNat bs) (hl : bs + sl < ht) : ∃ (h' : rm_H) (z c : Nat) (f : Nat → Int32), dM L xs zf w (k + 4) 255 [.ref 24, .ref (sg.2.2.2.2 a 0), .int (Int32.ofNat sl)] h = some (none, h') ∧ RH (.ref P) n (sQ sg a z c f (ht + 1)) Z hB h' ∧ (∀ i, i < ht → f i = if i = bs + sl then sg.2.2.2.1 a 12 ht else sg.2.2.2.1 a 12 i) ∧ f ht = sg.2.2.2.1 a 12 (bs + sl) ∧ (ht + 1 ≤ c ∧ 64 ≤ c ∧ (c ≤ sg.2.2.2.2 a 13 ∨ c ≤ 2 * (ht + 1))) ∧ CST n sg h (sQ sg a z c f (ht + 1)) h' := by
  obtain ⟨h1, p1, p2, p3, p4⟩ := k_pop0 (L := L) (xs := xs) (zf := zf) (w := w) (k := k + 2) q ha so
  obtain ⟨s1, s2, s3, s4⟩ := so
  have kl := k_local (L := L) (xs := xs) (zf := zf) (w := w) (k := k) (bs := bs) (sl := sl) q ha hb b10 hs (by omega) (by omega)
  have e0 : (sQ sg a (sg.2.2.2.2 a 12) (sg.2.2.2.2 a 13) (sg.2.2.2.1 a 12) ht).2.2.2.2 a 0 = sg.2.2.2.2 a 0 := sQ_P (Or.inl (by decide))
  obtain ⟨h2, u1, u2, u3, u4⟩ := k_setLocal (L := L) (xs := xs) (zf := zf) (w := w) (k := k) (v := sg.2.2.2.1 a 12 ht) (bs := bs) (sl := sl) p2 ha ((sQ_A (Or.inl (by decide))).trans hb) b10 ((congrFun (sQ_R (Or.inl (by decide))) b).trans hs) (by rw [sQ_c]; omega) (by rw [sQ_c]; omega)
  rw [sR_T sQ_h, sQ_sQ, sQ_z, sQ_c, sQ_f] at u2
  have cv := cV_a (L := L) (xs := xs) (D := dM L xs zf w (k + 3)) (mi := 254) (As := [.int (Int32.ofNat sl), .int (sg.2.2.2.1 a 12 ht)]) p2 ha
  rw [e0] at u1 cv
  obtain ⟨h', z, c, f, r1, r2, r3, r4, r5⟩ := k_push0 (L := L) (xs := xs) (zf := zf) (w := w) (k := k) (v := sg.2.2.2.1 a 12 (bs + sl)) u2 ha (SOK_q (by omega) s3 s4)
  rw [show (sQ sg a (sg.2.2.2.2 a 12) (sg.2.2.2.2 a 13) (upd (sg.2.2.2.1 a 12) (bs + sl) (sg.2.2.2.1 a 12 ht)) ht).2.2.2.2 a 0 = sg.2.2.2.2 a 0 from sQ_P (Or.inl (by decide))] at r1
  rw [sQ_sQ] at r2 r5
  obtain ⟨y1, y2, y3, y4⟩ := r3
  rw [sQ_c] at y4
  refine ⟨h', z, c, f, ?_, r2, fun i hi => ?_, r4, ⟨y2, y3, y4⟩, CST_t (CST_q (u3.trans p3) (u4.trans p4)) r5⟩
  · rw [e255]
    show b255_0 L xs zf (dM L xs zf w (k + 3)) w (some (sg.2.2.2.2 a 0)) (Int32.ofNat sl) h = _
    unfold b255_0
    refine bse (a := (sg.2.2.2.1 a 12 (bs + sl), h)) (by rw [cV_a q ha, kl]; rfl) ?_
    refine bse p1 ?_
    refine bse (a := h2) ?_ (bse r1 rfl)
    show (dcV L xs (dM L xs zf w (k + 3)) 254 [14] (some (sg.2.2.2.2 a 0)) [.int (Int32.ofNat sl), .int (sg.2.2.2.1 a 12 ht)] h1).bind dxV = _
    rw [cv, u1]
    rfl
  · rw [y1 i hi, sQ_f]
    by_cases e : i = bs + sl
    · rw [if_pos e, e, upd_eq']
    · rw [if_neg e, upd_ne' e]
theorem k_test (q : RH (.ref P) n sg Z hB h) (ha : a < n) (so : SOK sg a (ht + 1)) (hb : sg.2.2.1 a 3 = Int32.ofNat (b + 1)) (b10 : b + 1 ≤ 10) : ∃ h' : rm_H, dM L xs zf w (k + 4) 258 [.ref 24, .ref (sg.2.2.2.2 a 0), .int v] h = some (none, h') ∧ RH (.ref P) n (if sg.2.2.2.1 a 12 ht = 0 then sR (sQ sg a (sg.2.2.2.2 a 12) (sg.2.2.2.2 a 13) (sg.2.2.2.1 a 12) ht) a 7 b v else sQ sg a (sg.2.2.2.2 a 12) (sg.2.2.2.2 a 13) (sg.2.2.2.1 a 12) ht) Z hB h' ∧ h'.length = h.length ∧ zh h' = zh h := by
  obtain ⟨h1, p1, p2, p3, p4⟩ := k_pop0 (L := L) (xs := xs) (zf := zf) (w := w) (k := k + 2) q ha so
  have hd : ∀ X, (if mx_f1 .ne (sg.2.2.2.1 a 12 ht) = true then b258_12 L xs zf (dM L xs zf w (k + 3)) w h1 else ((dcV L xs (dM L xs zf w (k + 3)) 250 [14] (some (sg.2.2.2.2 a 0)) [.int v] h1).bind dxV).bind fun h6 => b258_12 L xs zf (dM L xs zf w (k + 3)) w h6) = X → dM L xs zf w (k + 4) 258 [.ref 24, .ref (sg.2.2.2.2 a 0), .int v] h = X := by
    intro X hX
    rw [e258]
    show b258_0 L xs zf (dM L xs zf w (k + 3)) w (some (sg.2.2.2.2 a 0)) v h = _
    unfold b258_0
    exact bsq p1 hX
  by_cases c0 : sg.2.2.2.1 a 12 ht = 0
  · have e0 : (sQ sg a (sg.2.2.2.2 a 12) (sg.2.2.2.2 a 13) (sg.2.2.2.1 a 12) ht).2.2.2.2 a 0 = sg.2.2.2.2 a 0 := sQ_P (Or.inl (by decide))
    obtain ⟨h2, r1, r2, r3, r4⟩ := k_goTo (L := L) (xs := xs) (zf := zf) (w := w) (k := k) (v := v) p2 ha ((sQ_A (Or.inl (by decide))).trans hb) b10
    have cv := cV_a (L := L) (xs := xs) (D := dM L xs zf w (k + 3)) (mi := 250) (As := [.int v]) p2 ha
    rw [e0] at r1 cv
    refine ⟨h2, hd _ ?_, by rw [if_pos c0]; exact r2, r3.trans p3, r4.trans p4⟩
    refine ifn (ne1_f c0) ?_
    refine bse (a := h2) (by rw [cv, r1]; rfl) rfl
  · refine ⟨h1, hd _ ?_, by rw [if_neg c0]; exact p2, p3, p4⟩
    exact ift (ne1_t c0) rfl
end EX2
