/-! THE CLASS DOES AN INSTRUCTION. -/
/-- an Actor's stack is in order -/
def SOK (sg : cS) (a ht : Nat) : Prop := sg.2.2.1 a 13 = Int32.ofNat ht ∧ ht ≤ sg.2.2.2.2 a 13 ∧ 64 ≤ sg.2.2.2.2 a 13 ∧ sg.2.2.2.2 a 13 ≤ 40000
/-- the stack of a is f now, ht high; below lo it is as it was -/
def STN (sg : cS) (a lo z c : Nat) (f : Nat → Int32) (ht : Nat) : Prop := (∀ i, i < lo → f i = sg.2.2.2.1 a 12 i) ∧ ht ≤ c ∧ 64 ≤ c ∧ (c ≤ sg.2.2.2.2 a 13 ∨ c ≤ 2 * ht)
section EXE
variable {L : Nat} {xs : Nat → Int32} {zf : Value} {w k : Nat} {n : Nat} {sg : cS} {Z : Nat → Prop} {hB h : rm_H} {a b i ht P sz bs sl : Nat} {A B : Nat → Int32} {es : List Nat} {v : Int32}
theorem k_push0 (q : RH (.ref P) n sg Z hB h) (ha : a < n) (so : SOK sg a ht) : ∃ (h' : rm_H) (z c : Nat) (f : Nat → Int32), (dcV L xs (dM L xs zf w (k + 3)) 243 [14] (some (sg.2.2.2.2 a 0)) [.int v] h).bind dxV = some h' ∧ RH (.ref P) n (sQ sg a z c f (ht + 1)) Z hB h' ∧ STN sg a ht z c f (ht + 1) ∧ f ht = v ∧ CST n sg h (sQ sg a z c f (ht + 1)) h' := by
  obtain ⟨s1, s2, s3, s4⟩ := so
  obtain ⟨h', z, c, f, r1, r2, r3, r4, r5, r6, r7⟩ := k_push (L := L) (xs := xs) (zf := zf) (w := w) (k := k) (v := v) q ha s1 s2 s3 s4
  refine ⟨h', z, c, f, ?_, r2, ⟨r3, by omega, by omega, by omega⟩, r4, r7⟩
  rw [cV_a q ha, r1]
  rfl
theorem k_pop0 (q : RH (.ref P) n sg Z hB h) (ha : a < n) (so : SOK sg a (ht + 1)) : ∃ h', (dcV L xs (dM L xs zf w (k + 1)) 234 [14] (some (sg.2.2.2.2 a 0)) [] h).bind dxI = some (sg.2.2.2.1 a 12 ht, h') ∧ RH (.ref P) n (sQ sg a (sg.2.2.2.2 a 12) (sg.2.2.2.2 a 13) (sg.2.2.2.1 a 12) ht) Z hB h' ∧ h'.length = h.length ∧ zh h' = zh h := by
  obtain ⟨s1, s2, s3, s4⟩ := so
  obtain ⟨h', r1, r2, r3, r4⟩ := k_pop (L := L) (xs := xs) (zf := zf) (w := w) (k := k) q ha s1 (by omega) (by omega)
  rw [sQ_pop] at r2
  refine ⟨h', ?_, r2, r3, r4⟩
  rw [cV_a q ha, r1]
  rfl
theorem CST_q {z : Nat} {f : Nat → Int32} {h' : rm_H} (h1 : h'.length = h.length) (hz : zh h' = zh h) : CST n sg h (sQ sg a z (sg.2.2.2.2 a 13) f ht) h' := CST_0 (fun b => by
  by_cases e : b = a
  · rw [e, sQ_c]
  · exact sQ_P (Or.inr e)) h1 hz
theorem SOK_q {z c : Nat} {f : Nat → Int32} (h1 : ht ≤ c) (h2 : 64 ≤ c) (h3 : c ≤ 40000) : SOK (sQ sg a z c f ht) a ht := ⟨sQ_h, by rw [sQ_c]; exact h1, by rw [sQ_c]; exact h2, by rw [sQ_c]; exact h3⟩
/-- pop, then push -/
theorem k_pp (q : RH (.ref P) n sg Z hB h) (ha : a < n) (so : SOK sg a (ht + 1)) : ∃ h1, (dcV L xs (dM L xs zf w (k + 3)) 234 [14] (some (sg.2.2.2.2 a 0)) [] h).bind dxI = some (sg.2.2.2.1 a 12 ht, h1) ∧ ∀ v : Int32, ∃ (h' : rm_H) (z c : Nat) (f : Nat → Int32), (dcV L xs (dM L xs zf w (k + 3)) 243 [14] (some (sg.2.2.2.2 a 0)) [.int v] h1).bind dxV = some h' ∧ RH (.ref P) n (sQ sg a z c f (ht + 1)) Z hB h' ∧ STN sg a ht z c f (ht + 1) ∧ f ht = v ∧ CST n sg h (sQ sg a z c f (ht + 1)) h' := by
  obtain ⟨h1, p1, p2, p3, p4⟩ := k_pop0 (L := L) (xs := xs) (zf := zf) (w := w) (k := k + 2) q ha so
  obtain ⟨s1, s2, s3, s4⟩ := so
  refine ⟨h1, p1, fun v => ?_⟩
  obtain ⟨h', z, c, f, r1, r2, r3, r4, r5⟩ := k_push0 (L := L) (xs := xs) (zf := zf) (w := w) (k := k) (v := v) p2 ha (SOK_q (by omega) s3 s4)
  rw [show (sQ sg a (sg.2.2.2.2 a 12) (sg.2.2.2.2 a 13) (sg.2.2.2.1 a 12) ht).2.2.2.2 a 0 = sg.2.2.2.2 a 0 from sQ_P (Or.inl (by decide))] at r1
  rw [sQ_sQ] at r2 r5
  obtain ⟨t1, t2, t3, t4⟩ := r3
  rw [sQ_c] at t4
  exact ⟨h', z, c, f, r1, r2, ⟨fun i hi => by rw [t1 i hi, sQ_f], t2, t3, t4⟩, r4, CST_t (CST_q p3 p4) r5⟩
theorem x_hd {o : Nat} (cb : CB hB Z P A B sz es) (q : RH (.ref P) n sg Z hB h) (hA : A i = Int32.ofNat o) (ho : o ≤ 19) : dgR L xs h 7 [2] (some 24) = some (some P) ∧ (dcV L xs (dM L xs zf w (k + 1)) 249 [4] (some P) [.int (Int32.ofNat i)] h).bind dxI = some (B i, h) ∧ (dcV L xs (dM L xs zf w (k + 1)) 248 [4] (some P) [.int (Int32.ofNat i)] h).bind dxI = some (Int32.ofNat o, h) := by
  have cb' := cb_k cb q
  have n99 : A i ≠ 99 := by
    rw [hA]
    have : ∀ o, o ≤ 19 → Int32.ofNat o ≠ 99 := by decide
    exact this o ho
  obtain ⟨vs, p1, _⟩ := cb_P cb'
  refine ⟨hc_gR (RH_wd (x := 0) q (by decide)) rfl rfl, ?_, ?_⟩
  · rw [dcV_of (hc_ge p1) (hc_at p1) rfl, k_oper cb' n99]
    rfl
  · rw [dcV_of (hc_ge p1) (hc_at p1) rfl, k_code cb' n99, hA]
    rfl
theorem x_0 (cb : CB hB Z P A B sz es) (q : RH (.ref P) n sg Z hB h) (ha : a < n) (hA : A i = 0) (so : SOK sg a ht) : ∃ (h' : rm_H) (z c : Nat) (f : Nat → Int32), dM L xs zf w (k + 5) 251 [.ref 24, .ref (sg.2.2.2.2 a 0), .int (Int32.ofNat i)] h = some (none, h') ∧ RH (.ref P) n (sQ sg a z c f (ht + 1)) Z hB h' ∧ STN sg a ht z c f (ht + 1) ∧ f ht = B i ∧ CST n sg h (sQ sg a z c f (ht + 1)) h' := by
  obtain ⟨e7, e9, e8⟩ := x_hd (L := L) (xs := xs) (zf := zf) (w := w) (k := k + 3) (o := 0) cb q hA (by decide)
  obtain ⟨h', z, c, f, r1, r2, r3, r4, r5⟩ := k_push0 (L := L) (xs := xs) (zf := zf) (w := w) (k := k + 1) (v := B i) q ha so
  refine ⟨h', z, c, f, ?_, r2, r3, r4, r5⟩
  rw [e251]
  show b251_0 L xs zf (dM L xs zf w (k + 4)) w (some 24) (some (sg.2.2.2.2 a 0)) (Int32.ofNat i) h = _
  unfold b251_0
  refine bse e7 (bse e9 (bse e7 (bse e8 ?_)))
  dsimp only
  refine ifn (by decide) (ift rfl ?_)
  exact bse r1 rfl
theorem x_1 (cb : CB hB Z P A B sz es) (q : RH (.ref P) n sg Z hB h) (ha : a < n) (hA : A i = 1) (so : SOK sg a ht) (hb : sg.2.2.1 a 3 = Int32.ofNat (b + 1)) (b10 : b + 1 ≤ 10) : ∃ (h' : rm_H) (z c : Nat) (f : Nat → Int32), dM L xs zf w (k + 5) 251 [.ref 24, .ref (sg.2.2.2.2 a 0), .int (Int32.ofNat i)] h = some (none, h') ∧ RH (.ref P) n (sQ sg a z c f (ht + 1)) Z hB h' ∧ STN sg a ht z c f (ht + 1) ∧ f ht = sg.2.2.2.1 a 9 b ∧ CST n sg h (sQ sg a z c f (ht + 1)) h' := by
  obtain ⟨e7, e9, e8⟩ := x_hd (L := L) (xs := xs) (zf := zf) (w := w) (k := k + 3) (o := 1) cb q hA (by decide)
  obtain ⟨h', z, c, f, r1, r2, r3, r4, r5⟩ := k_push0 (L := L) (xs := xs) (zf := zf) (w := w) (k := k + 1) (v := sg.2.2.2.1 a 9 b) q ha so
  refine ⟨h', z, c, f, ?_, r2, r3, r4, r5⟩
  rw [e251]
  show b251_0 L xs zf (dM L xs zf w (k + 4)) w (some 24) (some (sg.2.2.2.2 a 0)) (Int32.ofNat i) h = _
  unfold b251_0
  refine bse e7 (bse e9 (bse e7 (bse e8 ?_)))
  dsimp only
  refine ifn (by decide) (ifn (by decide) (ift rfl ?_))
  refine bse (a := (sg.2.2.2.1 a 9 b, h)) (by rw [cV_a q ha, k_self (k := k + 1) q ha hb b10]; rfl) ?_
  exact bse r1 rfl
theorem x_2 (cb : CB hB Z P A B sz es) (q : RH (.ref P) n sg Z hB h) (ha : a < n) (hA : A i = 2) (so : SOK sg a ht) (hb : sg.2.2.1 a 3 = Int32.ofNat (b + 1)) (b10 : b + 1 ≤ 10) (hs : sg.2.2.2.1 a 8 b = Int32.ofNat bs) (hB' : B i = Int32.ofNat sl) (hl : bs + sl < sg.2.2.2.2 a 13) : ∃ (h' : rm_H) (z c : Nat) (f : Nat → Int32), dM L xs zf w (k + 5) 251 [.ref 24, .ref (sg.2.2.2.2 a 0), .int (Int32.ofNat i)] h = some (none, h') ∧ RH (.ref P) n (sQ sg a z c f (ht + 1)) Z hB h' ∧ STN sg a ht z c f (ht + 1) ∧ f ht = sg.2.2.2.1 a 12 (bs + sl) ∧ CST n sg h (sQ sg a z c f (ht + 1)) h' := by
  obtain ⟨e7, e9, e8⟩ := x_hd (L := L) (xs := xs) (zf := zf) (w := w) (k := k + 3) (o := 2) cb q hA (by decide)
  obtain ⟨h', z, c, f, r1, r2, r3, r4, r5⟩ := k_push0 (L := L) (xs := xs) (zf := zf) (w := w) (k := k + 1) (v := sg.2.2.2.1 a 12 (bs + sl)) q ha so
  refine ⟨h', z, c, f, ?_, r2, r3, r4, r5⟩
  rw [e251]
  show b251_0 L xs zf (dM L xs zf w (k + 4)) w (some 24) (some (sg.2.2.2.2 a 0)) (Int32.ofNat i) h = _
  unfold b251_0
  refine bse e7 (bse e9 (bse e7 (bse e8 ?_)))
  dsimp only
  refine ifn (by decide) (ifn (by decide) (ifn (by decide) (ift rfl ?_)))
  rw [hB']
  refine bse (a := (sg.2.2.2.1 a 12 (bs + sl), h)) (by rw [cV_a q ha, k_local (k := k + 1) q ha hb b10 hs hl (by have := so.2.2.2; omega)]; rfl) ?_
  exact bse r1 rfl
theorem x_8 (cb : CB hB Z P A B sz es) (q : RH (.ref P) n sg Z hB h) (ha : a < n) (hA : A i = 8) (so : SOK sg a (ht + 1)) : ∃ (h' : rm_H) (z c : Nat) (f : Nat → Int32), dM L xs zf w (k + 5) 251 [.ref 24, .ref (sg.2.2.2.2 a 0), .int (Int32.ofNat i)] h = some (none, h') ∧ RH (.ref P) n (sQ sg a z c f (ht + 1)) Z hB h' ∧ STN sg a ht z c f (ht + 1) ∧ f ht = (if sg.2.2.2.1 a 12 ht = 0 then 0 else 1) ∧ CST n sg h (sQ sg a z c f (ht + 1)) h' := by
  obtain ⟨e7, e9, e8⟩ := x_hd (L := L) (xs := xs) (zf := zf) (w := w) (k := k + 3) (o := 8) cb q hA (by decide)
  obtain ⟨h1, p1, pp⟩ := k_pp (L := L) (xs := xs) (zf := zf) (w := w) (k := k + 1) q ha so
  obtain ⟨h', z, c, f, r1, r2, r3, r4, r5⟩ := pp (if sg.2.2.2.1 a 12 ht = 0 then 0 else 1)
  refine ⟨h', z, c, f, ?_, r2, r3, r4, r5⟩
  rw [e251]
  show b251_0 L xs zf (dM L xs zf w (k + 4)) w (some 24) (some (sg.2.2.2.2 a 0)) (Int32.ofNat i) h = _
  unfold b251_0
  refine bse e7 (bse e9 (bse e7 (bse e8 ?_)))
  dsimp only
  refine ifn (by decide) (ifn (by decide) (ifn (by decide) (ifn (by decide) (ifn (by decide) (ifn (by decide) (ifn (by decide) (ifn (by decide) (ifn (by decide) (ift rfl ?_)))))))))
  refine bse p1 ?_
  by_cases c0 : sg.2.2.2.1 a 12 ht = 0
  · rw [if_pos c0] at r1
    exact ifn (ne1_f c0) (bse r1 rfl)
  · rw [if_neg c0] at r1
    exact ift (ne1_t c0) (bse r1 rfl)
theorem x_17 (cb : CB hB Z P A B sz es) (q : RH (.ref P) n sg Z hB h) (ha : a < n) (hA : A i = 17) (so : SOK sg a (ht + 1)) : ∃ h' : rm_H, dM L xs zf w (k + 5) 251 [.ref 24, .ref (sg.2.2.2.2 a 0), .int (Int32.ofNat i)] h = some (none, h') ∧ RH (.ref P) n (sQ sg a (sg.2.2.2.2 a 12) (sg.2.2.2.2 a 13) (sg.2.2.2.1 a 12) ht) Z hB h' ∧ h'.length = h.length ∧ zh h' = zh h := by
  obtain ⟨e7, e9, e8⟩ := x_hd (L := L) (xs := xs) (zf := zf) (w := w) (k := k + 3) (o := 17) cb q hA (by decide)
  obtain ⟨h', p1, p2, p3, p4⟩ := k_pop0 (L := L) (xs := xs) (zf := zf) (w := w) (k := k + 3) q ha so
  refine ⟨h', ?_, p2, p3, p4⟩
  rw [e251]
  show b251_0 L xs zf (dM L xs zf w (k + 4)) w (some 24) (some (sg.2.2.2.2 a 0)) (Int32.ofNat i) h = _
  unfold b251_0
  refine bse e7 (bse e9 (bse e7 (bse e8 ?_)))
  dsimp only
  refine ifn (by decide) (ifn (by decide) (ifn (by decide) (ifn (by decide) (ifn (by decide) (ifn (by decide) (ifn (by decide) (ifn (by decide) (ifn (by decide) (ifn (by decide) (ifn (by decide) (ifn (by decide) (ifn (by decide) (ifn (by decide) (ifn (by decide) (ifn (by decide) (ifn (by decide) (ifn (by decide) (ift rfl ?_))))))))))))))))))
  exact bse p1 rfl
theorem x_16 (cb : CB hB Z P A B sz es) (q : RH (.ref P) n sg Z hB h) (ha : a < n) (hA : A i = 16)  : dM L xs zf w (k + 5) 251 [.ref 24, .ref (sg.2.2.2.2 a 0), .int (Int32.ofNat i)] h = some (none, h) := by
  obtain ⟨e7, e9, e8⟩ := x_hd (L := L) (xs := xs) (zf := zf) (w := w) (k := k + 3) (o := 16) cb q hA (by decide)


  rw [e251]
  show b251_0 L xs zf (dM L xs zf w (k + 4)) w (some 24) (some (sg.2.2.2.2 a 0)) (Int32.ofNat i) h = _
  unfold b251_0
  refine bse e7 (bse e9 (bse e7 (bse e8 ?_)))
  dsimp only
  refine ifn (by decide) (ifn (by decide) (ifn (by decide) (ifn (by decide) (ifn (by decide) (ifn (by decide) (ifn (by decide) (ifn (by decide) (ifn (by decide) (ifn (by decide) (ifn (by decide) (ifn (by decide) (ifn (by decide) (ifn (by decide) (ifn (by decide) (ifn (by decide) (ifn (by decide) (ift rfl ?_)))))))))))))))))
  rfl
theorem x_11 (cb : CB hB Z P A B sz es) (q : RH (.ref P) n sg Z hB h) (ha : a < n) (hA : A i = 11) (so : SOK sg a (ht + 1)) (hb : sg.2.2.1 a 3 = Int32.ofNat (b + 1)) (b10 : b + 1 ≤ 10) (hs : sg.2.2.2.1 a 8 b = Int32.ofNat bs) (hB' : B i = Int32.ofNat sl) (hl : bs + sl < sg.2.2.2.2 a 13) : ∃ h' : rm_H, dM L xs zf w (k + 5) 251 [.ref 24, .ref (sg.2.2.2.2 a 0), .int (Int32.ofNat i)] h = some (none, h') ∧ RH (.ref P) n (sQ sg a (sg.2.2.2.2 a 12) (sg.2.2.2.2 a 13) (upd (sg.2.2.2.1 a 12) (bs + sl) (sg.2.2.2.1 a 12 ht)) ht) Z hB h' ∧ h'.length = h.length ∧ zh h' = zh h := by
  obtain ⟨e7, e9, e8⟩ := x_hd (L := L) (xs := xs) (zf := zf) (w := w) (k := k + 3) (o := 11) cb q hA (by decide)
  obtain ⟨h1, p1, p2, p3, p4⟩ := k_pop0 (L := L) (xs := xs) (zf := zf) (w := w) (k := k + 3) q ha so
  have e0 : (sQ sg a (sg.2.2.2.2 a 12) (sg.2.2.2.2 a 13) (sg.2.2.2.1 a 12) ht).2.2.2.2 a 0 = sg.2.2.2.2 a 0 := sQ_P (Or.inl (by decide))
  obtain ⟨h', r1, r2, r3, r4⟩ := k_setLocal (L := L) (xs := xs) (zf := zf) (w := w) (k := k + 1) (v := sg.2.2.2.1 a 12 ht) (bs := bs) (sl := sl) p2 ha ((sQ_A (Or.inl (by decide))).trans hb) b10 ((congrFun (sQ_R (Or.inl (by decide))) b).trans hs) (by rw [sQ_c]; exact hl) (by rw [sQ_c]; have := so.2.2.2; omega)
  rw [sR_T sQ_h, sQ_sQ, sQ_z, sQ_c, sQ_f] at r2
  have cv := cV_a (L := L) (xs := xs) (D := dM L xs zf w (k + 4)) (mi := 254) (As := [.int (Int32.ofNat sl), .int (sg.2.2.2.1 a 12 ht)]) p2 ha
  rw [e0] at r1 cv
  refine ⟨h', ?_, r2, r3.trans p3, r4.trans p4⟩
  rw [e251]
  show b251_0 L xs zf (dM L xs zf w (k + 4)) w (some 24) (some (sg.2.2.2.2 a 0)) (Int32.ofNat i) h = _
  unfold b251_0
  refine bse e7 (bse e9 (bse e7 (bse e8 ?_)))
  dsimp only
  refine ifn (by decide) (ifn (by decide) (ifn (by decide) (ifn (by decide) (ifn (by decide) (ifn (by decide) (ifn (by decide) (ifn (by decide) (ifn (by decide) (ifn (by decide) (ifn (by decide) (ifn (by decide) (ift rfl ?_))))))))))))
  refine bse p1 ?_
  rw [hB']
  refine bse (a := h') ?_ rfl
  show (dcV L xs (dM L xs zf w (k + 4)) 254 [14] (some (sg.2.2.2.2 a 0)) [.int (Int32.ofNat sl), .int (sg.2.2.2.1 a 12 ht)] h1).bind dxV = _
  rw [cv, r1]
  rfl
end EXE
