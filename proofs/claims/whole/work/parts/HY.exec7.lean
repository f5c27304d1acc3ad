/-! THE CLASS DOES AN INSTRUCTION: those that other methods do. -/
section EX7
variable {L : Nat} {xs : Nat → Int32} {zf : Value} {w k : Nat} {n : Nat} {sg : cS} {Z : Nat → Prop} {hB h : rm_H} {a b i ht P sz bs sl M : Nat} {A B : Nat → Int32} {es : List Nat} {v : Int32}
/-- op 9 is done by method 255 -/
theorem x_9s {h' : rm_H} (cb : CB hB Z P A B sz es) (q : RH (.ref P) n sg Z hB h) (ha : a < n) (hA : A i = 9) (hm : dM L xs zf w (k + 1) 255 (.ref 24 :: .ref (sg.2.2.2.2 a 0) :: [.int (B i)]) h = some (none, h')) : dM L xs zf w (k + 2) 251 [.ref 24, .ref (sg.2.2.2.2 a 0), .int (Int32.ofNat i)] h = some (none, h') := by
  obtain ⟨e7, e9, e8⟩ := x_hd (L := L) (xs := xs) (zf := zf) (w := w) (k := k) (o := 9) cb q hA (by decide)
  rw [e251]
  show b251_0 L xs zf (dM L xs zf w (k + 1)) w (some 24) (some (sg.2.2.2.2 a 0)) (Int32.ofNat i) h = _
  unfold b251_0
  refine bse e7 (bse e9 (bse e7 (bse e8 ?_)))
  dsimp only
  refine ifn (by decide) (ifn (by decide) (ifn (by decide) (ifn (by decide) (ifn (by decide) (ifn (by decide) (ifn (by decide) (ifn (by decide) (ifn (by decide) (ifn (by decide) (ift rfl ?_))))))))))
  refine bse (a := h') ?_ rfl
  rw [cV_w q]
  show (dM L xs zf w (k + 1) 255 (.ref 24 :: .ref (sg.2.2.2.2 a 0) :: [.int (B i)]) h).bind dxV = _
  rw [hm]
  rfl
/-- op 13 is done by method 256 -/
theorem x_13s {h' : rm_H} (cb : CB hB Z P A B sz es) (q : RH (.ref P) n sg Z hB h) (ha : a < n) (hA : A i = 13) (hm : dM L xs zf w (k + 1) 256 (.ref 24 :: .ref (sg.2.2.2.2 a 0) :: [.int (B i)]) h = some (none, h')) : dM L xs zf w (k + 2) 251 [.ref 24, .ref (sg.2.2.2.2 a 0), .int (Int32.ofNat i)] h = some (none, h') := by
  obtain ⟨e7, e9, e8⟩ := x_hd (L := L) (xs := xs) (zf := zf) (w := w) (k := k) (o := 13) cb q hA (by decide)
  rw [e251]
  show b251_0 L xs zf (dM L xs zf w (k + 1)) w (some 24) (some (sg.2.2.2.2 a 0)) (Int32.ofNat i) h = _
  unfold b251_0
  refine bse e7 (bse e9 (bse e7 (bse e8 ?_)))
  dsimp only
  refine ifn (by decide) (ifn (by decide) (ifn (by decide) (ifn (by decide) (ifn (by decide) (ifn (by decide) (ifn (by decide) (ifn (by decide) (ifn (by decide) (ifn (by decide) (ifn (by decide) (ifn (by decide) (ifn (by decide) (ifn (by decide) (ift rfl ?_))))))))))))))
  refine bse (a := h') ?_ rfl
  rw [cV_w q]
  show (dM L xs zf w (k + 1) 256 (.ref 24 :: .ref (sg.2.2.2.2 a 0) :: [.int (B i)]) h).bind dxV = _
  rw [hm]
  rfl
/-- op 14 is done by method 257 -/
theorem x_14s {h' : rm_H} (cb : CB hB Z P A B sz es) (q : RH (.ref P) n sg Z hB h) (ha : a < n) (hA : A i = 14) (hm : dM L xs zf w (k + 1) 257 (.ref 24 :: .ref (sg.2.2.2.2 a 0) :: []) h = some (none, h')) : dM L xs zf w (k + 2) 251 [.ref 24, .ref (sg.2.2.2.2 a 0), .int (Int32.ofNat i)] h = some (none, h') := by
  obtain ⟨e7, e9, e8⟩ := x_hd (L := L) (xs := xs) (zf := zf) (w := w) (k := k) (o := 14) cb q hA (by decide)
  rw [e251]
  show b251_0 L xs zf (dM L xs zf w (k + 1)) w (some 24) (some (sg.2.2.2.2 a 0)) (Int32.ofNat i) h = _
  unfold b251_0
  refine bse e7 (bse e9 (bse e7 (bse e8 ?_)))
  dsimp only
  refine ifn (by decide) (ifn (by decide) (ifn (by decide) (ifn (by decide) (ifn (by decide) (ifn (by decide) (ifn (by decide) (ifn (by decide) (ifn (by decide) (ifn (by decide) (ifn (by decide) (ifn (by decide) (ifn (by decide) (ifn (by decide) (ifn (by decide) (ift rfl ?_)))))))))))))))
  refine bse (a := h') ?_ rfl
  rw [cV_w q]
  show (dM L xs zf w (k + 1) 257 (.ref 24 :: .ref (sg.2.2.2.2 a 0) :: []) h).bind dxV = _
  rw [hm]
  rfl
/-- op 18 is done by method 258 -/
theorem x_18s {h' : rm_H} (cb : CB hB Z P A B sz es) (q : RH (.ref P) n sg Z hB h) (ha : a < n) (hA : A i = 18) (hm : dM L xs zf w (k + 1) 258 (.ref 24 :: .ref (sg.2.2.2.2 a 0) :: [.int (B i)]) h = some (none, h')) : dM L xs zf w (k + 2) 251 [.ref 24, .ref (sg.2.2.2.2 a 0), .int (Int32.ofNat i)] h = some (none, h') := by
  obtain ⟨e7, e9, e8⟩ := x_hd (L := L) (xs := xs) (zf := zf) (w := w) (k := k) (o := 18) cb q hA (by decide)
  rw [e251]
  show b251_0 L xs zf (dM L xs zf w (k + 1)) w (some 24) (some (sg.2.2.2.2 a 0)) (Int32.ofNat i) h = _
  unfold b251_0
  refine bse e7 (bse e9 (bse e7 (bse e8 ?_)))
  dsimp only
  refine ifn (by decide) (ifn (by decide) (ifn (by decide) (ifn (by decide) (ifn (by decide) (ifn (by decide) (ifn (by decide) (ifn (by decide) (ifn (by decide) (ifn (by decide) (ifn (by decide) (ifn (by decide) (ifn (by decide) (ifn (by decide) (ifn (by decide) (ifn (by decide) (ifn (by decide) (ifn (by decide) (ifn (by decide) (ift rfl ?_)))))))))))))))))))
  refine bse (a := h') ?_ rfl
  rw [cV_w q]
  show (dM L xs zf w (k + 1) 258 (.ref 24 :: .ref (sg.2.2.2.2 a 0) :: [.int (B i)]) h).bind dxV = _
  rw [hm]
  rfl
/-- op 3 is done by method 265 -/
theorem x_3s {h' : rm_H} (cb : CB hB Z P A B sz es) (q : RH (.ref P) n sg Z hB h) (ha : a < n) (hA : A i = 3) (hm : dM L xs zf w (k + 1) 265 (.ref 24 :: .ref (sg.2.2.2.2 a 0) :: [.int 3, .int (B i)]) h = some (none, h')) : dM L xs zf w (k + 2) 251 [.ref 24, .ref (sg.2.2.2.2 a 0), .int (Int32.ofNat i)] h = some (none, h') := by
  obtain ⟨e7, e9, e8⟩ := x_hd (L := L) (xs := xs) (zf := zf) (w := w) (k := k) (o := 3) cb q hA (by decide)
  rw [e251]
  show b251_0 L xs zf (dM L xs zf w (k + 1)) w (some 24) (some (sg.2.2.2.2 a 0)) (Int32.ofNat i) h = _
  unfold b251_0
  refine bse e7 (bse e9 (bse e7 (bse e8 ?_)))
  dsimp only
  refine ifn (by decide) (ifn (by decide) (ifn (by decide) (ifn (by decide) (ift rfl ?_))))
  refine bse e7 (bse e8 ?_)
  refine bse (a := h') ?_ rfl
  rw [cV_w q]
  show (dM L xs zf w (k + 1) 265 (.ref 24 :: .ref (sg.2.2.2.2 a 0) :: [.int 3, .int (B i)]) h).bind dxV = _
  rw [hm]
  rfl
/-- op 10 is done by method 265 -/
theorem x_10s {h' : rm_H} (cb : CB hB Z P A B sz es) (q : RH (.ref P) n sg Z hB h) (ha : a < n) (hA : A i = 10) (hm : dM L xs zf w (k + 1) 265 (.ref 24 :: .ref (sg.2.2.2.2 a 0) :: [.int 10, .int (B i)]) h = some (none, h')) : dM L xs zf w (k + 2) 251 [.ref 24, .ref (sg.2.2.2.2 a 0), .int (Int32.ofNat i)] h = some (none, h') := by
  obtain ⟨e7, e9, e8⟩ := x_hd (L := L) (xs := xs) (zf := zf) (w := w) (k := k) (o := 10) cb q hA (by decide)
  rw [e251]
  show b251_0 L xs zf (dM L xs zf w (k + 1)) w (some 24) (some (sg.2.2.2.2 a 0)) (Int32.ofNat i) h = _
  unfold b251_0
  refine bse e7 (bse e9 (bse e7 (bse e8 ?_)))
  dsimp only
  refine ifn (by decide) (ifn (by decide) (ifn (by decide) (ifn (by decide) (ifn (by decide) (ifn (by decide) (ifn (by decide) (ifn (by decide) (ifn (by decide) (ifn (by decide) (ifn (by decide) (ift rfl ?_)))))))))))
  refine bse e7 (bse e8 ?_)
  refine bse (a := h') ?_ rfl
  rw [cV_w q]
  show (dM L xs zf w (k + 1) 265 (.ref 24 :: .ref (sg.2.2.2.2 a 0) :: [.int 10, .int (B i)]) h).bind dxV = _
  rw [hm]
  rfl
/-- op 12 is done by method 265 -/
theorem x_12s {h' : rm_H} (cb : CB hB Z P A B sz es) (q : RH (.ref P) n sg Z hB h) (ha : a < n) (hA : A i = 12) (hm : dM L xs zf w (k + 1) 265 (.ref 24 :: .ref (sg.2.2.2.2 a 0) :: [.int 12, .int (B i)]) h = some (none, h')) : dM L xs zf w (k + 2) 251 [.ref 24, .ref (sg.2.2.2.2 a 0), .int (Int32.ofNat i)] h = some (none, h') := by
  obtain ⟨e7, e9, e8⟩ := x_hd (L := L) (xs := xs) (zf := zf) (w := w) (k := k) (o := 12) cb q hA (by decide)
  rw [e251]
  show b251_0 L xs zf (dM L xs zf w (k + 1)) w (some 24) (some (sg.2.2.2.2 a 0)) (Int32.ofNat i) h = _
  unfold b251_0
  refine bse e7 (bse e9 (bse e7 (bse e8 ?_)))
  dsimp only
  refine ifn (by decide) (ifn (by decide) (ifn (by decide) (ifn (by decide) (ifn (by decide) (ifn (by decide) (ifn (by decide) (ifn (by decide) (ifn (by decide) (ifn (by decide) (ifn (by decide) (ifn (by decide) (ifn (by decide) (ift rfl ?_)))))))))))))
  refine bse e7 (bse e8 ?_)
  refine bse (a := h') ?_ rfl
  rw [cV_w q]
  show (dM L xs zf w (k + 1) 265 (.ref 24 :: .ref (sg.2.2.2.2 a 0) :: [.int 12, .int (B i)]) h).bind dxV = _
  rw [hm]
  rfl
/-- 15: the body gives what is on top -/
theorem x_15 {h1 h' : rm_H} (cb : CB hB Z P A B sz es) (q : RH (.ref P) n sg Z hB h) (ha : a < n) (hA : A i = 15) (hp : (dcV L xs (dM L xs zf w (k + 1)) 234 [14] (some (sg.2.2.2.2 a 0)) [] h).bind dxI = some (v, h1)) (hm : (dcV L xs (dM L xs zf w (k + 1)) 259 [14] (some (sg.2.2.2.2 a 0)) [.int v] h1).bind dxV = some h') : dM L xs zf w (k + 2) 251 [.ref 24, .ref (sg.2.2.2.2 a 0), .int (Int32.ofNat i)] h = some (none, h') := by
  obtain ⟨e7, e9, e8⟩ := x_hd (L := L) (xs := xs) (zf := zf) (w := w) (k := k) (o := 15) cb q hA (by decide)
  rw [e251]
  show b251_0 L xs zf (dM L xs zf w (k + 1)) w (some 24) (some (sg.2.2.2.2 a 0)) (Int32.ofNat i) h = _
  unfold b251_0
  refine bse e7 (bse e9 (bse e7 (bse e8 ?_)))
  dsimp only
  refine ifn (by decide) (ifn (by decide) (ifn (by decide) (ifn (by decide) (ifn (by decide) (ifn (by decide) (ifn (by decide) (ifn (by decide) (ifn (by decide) (ifn (by decide) (ifn (by decide) (ifn (by decide) (ifn (by decide) (ifn (by decide) (ifn (by decide) (ifn (by decide) (ift rfl ?_))))))))))))))))
  exact bse hp (bse hm rfl)
/-- 19: the body ends -/
theorem x_19 {h' : rm_H} (cb : CB hB Z P A B sz es) (q : RH (.ref P) n sg Z hB h) (ha : a < n) (hA : A i = 19) (hv : (B i ≠ 1 ∧ v = 0) ∨ (B i = 1 ∧ (dcV L xs (dM L xs zf w (k + 1)) 252 [14] (some (sg.2.2.2.2 a 0)) [] h).bind dxI = some (v, h))) (hm : (dcV L xs (dM L xs zf w (k + 1)) 259 [14] (some (sg.2.2.2.2 a 0)) [.int v] h).bind dxV = some h') : dM L xs zf w (k + 2) 251 [.ref 24, .ref (sg.2.2.2.2 a 0), .int (Int32.ofNat i)] h = some (none, h') := by
  obtain ⟨e7, e9, e8⟩ := x_hd (L := L) (xs := xs) (zf := zf) (w := w) (k := k) (o := 19) cb q hA (by decide)
  rw [e251]
  show b251_0 L xs zf (dM L xs zf w (k + 1)) w (some 24) (some (sg.2.2.2.2 a 0)) (Int32.ofNat i) h = _
  unfold b251_0
  refine bse e7 (bse e9 (bse e7 (bse e8 ?_)))
  dsimp only
  refine ifn (by decide) (ifn (by decide) (ifn (by decide) (ifn (by decide) (ifn (by decide) (ifn (by decide) (ifn (by decide) (ifn (by decide) (ifn (by decide) (ifn (by decide) (ifn (by decide) (ifn (by decide) (ifn (by decide) (ifn (by decide) (ifn (by decide) (ifn (by decide) (ifn (by decide) (ifn (by decide) (ifn (by decide) (ifn (by decide) (ift rfl ?_))))))))))))))))))))
  rcases hv with ⟨c, e⟩ | ⟨c, e⟩
  · subst e
    exact ift (ne_t c) (bse hm rfl)
  · exact ifn (ne_f c) (bse e (bse hm rfl))
/-- op 4 is done by method 262, with Method M -/
theorem x_4s {h' : rm_H} {m : Nat} (cb : CB hB Z P A B sz es) (q : RH (.ref P) n sg Z hB h) (ha : a < n) (hA : A i = 4) (hB' : B i = Int32.ofNat m) (hM : es[m]? = some M) (hf : ∃ fs, hc h M = some (.inr (11, fs))) (m1 : m < 1000) (hm : dM L xs zf w (k + 4) 262 (.ref 24 :: .ref (sg.2.2.2.2 a 0) :: [.ref M]) h = some (none, h')) : dM L xs zf w (k + 5) 251 [.ref 24, .ref (sg.2.2.2.2 a 0), .int (Int32.ofNat i)] h = some (none, h') := by
  obtain ⟨e7, e9, e8⟩ := x_hd (L := L) (xs := xs) (zf := zf) (w := w) (k := k + 3) (o := 4) cb q hA (by decide)
  have cb' := cb_k cb q
  obtain ⟨vs, p1, _⟩ := cb_P cb'
  rw [e251]
  show b251_0 L xs zf (dM L xs zf w (k + 4)) w (some 24) (some (sg.2.2.2.2 a 0)) (Int32.ofNat i) h = _
  unfold b251_0
  refine bse e7 (bse e9 (bse e7 (bse e8 ?_)))
  dsimp only
  refine ifn (by decide) (ifn (by decide) (ifn (by decide) (ifn (by decide) (ifn (by decide) (ift rfl ?_)))))
  refine bse e7 ?_
  refine bse (a := (some M, h)) ?_ ?_
  · rw [hB', dcV_of (hc_ge p1) (hc_at p1) rfl, k_meth cb' hM hf m1]
    rfl
  refine bse (a := h') ?_ rfl
  rw [cV_w q]
  show (dM L xs zf w (k + 4) 262 (.ref 24 :: .ref (sg.2.2.2.2 a 0) :: [.ref M]) h).bind dxV = _
  rw [hm]
  rfl
/-- op 6 is done by method 263, with Method M -/
theorem x_6s {h' : rm_H} {m : Nat} (cb : CB hB Z P A B sz es) (q : RH (.ref P) n sg Z hB h) (ha : a < n) (hA : A i = 6) (hB' : B i = Int32.ofNat m) (hM : es[m]? = some M) (hf : ∃ fs, hc h M = some (.inr (11, fs))) (m1 : m < 1000) (hm : dM L xs zf w (k + 4) 263 (.ref 24 :: .ref (sg.2.2.2.2 a 0) :: [.ref M]) h = some (none, h')) : dM L xs zf w (k + 5) 251 [.ref 24, .ref (sg.2.2.2.2 a 0), .int (Int32.ofNat i)] h = some (none, h') := by
  obtain ⟨e7, e9, e8⟩ := x_hd (L := L) (xs := xs) (zf := zf) (w := w) (k := k + 3) (o := 6) cb q hA (by decide)
  have cb' := cb_k cb q
  obtain ⟨vs, p1, _⟩ := cb_P cb'
  rw [e251]
  show b251_0 L xs zf (dM L xs zf w (k + 4)) w (some 24) (some (sg.2.2.2.2 a 0)) (Int32.ofNat i) h = _
  unfold b251_0
  refine bse e7 (bse e9 (bse e7 (bse e8 ?_)))
  dsimp only
  refine ifn (by decide) (ifn (by decide) (ifn (by decide) (ifn (by decide) (ifn (by decide) (ifn (by decide) (ifn (by decide) (ift rfl ?_)))))))
  refine bse e7 ?_
  refine bse (a := (some M, h)) ?_ ?_
  · rw [hB', dcV_of (hc_ge p1) (hc_at p1) rfl, k_meth cb' hM hf m1]
    rfl
  refine bse (a := h') ?_ rfl
  rw [cV_w q]
  show (dM L xs zf w (k + 4) 263 (.ref 24 :: .ref (sg.2.2.2.2 a 0) :: [.ref M]) h).bind dxV = _
  rw [hm]
  rfl
/-- op 7 is done by method 264, with Method M -/
theorem x_7s {h' : rm_H} {m : Nat} (cb : CB hB Z P A B sz es) (q : RH (.ref P) n sg Z hB h) (ha : a < n) (hA : A i = 7) (hB' : B i = Int32.ofNat m) (hM : es[m]? = some M) (hf : ∃ fs, hc h M = some (.inr (11, fs))) (m1 : m < 1000) (hm : dM L xs zf w (k + 4) 264 (.ref 24 :: .ref (sg.2.2.2.2 a 0) :: [.ref M]) h = some (none, h')) : dM L xs zf w (k + 5) 251 [.ref 24, .ref (sg.2.2.2.2 a 0), .int (Int32.ofNat i)] h = some (none, h') := by
  obtain ⟨e7, e9, e8⟩ := x_hd (L := L) (xs := xs) (zf := zf) (w := w) (k := k + 3) (o := 7) cb q hA (by decide)
  have cb' := cb_k cb q
  obtain ⟨vs, p1, _⟩ := cb_P cb'
  rw [e251]
  show b251_0 L xs zf (dM L xs zf w (k + 4)) w (some 24) (some (sg.2.2.2.2 a 0)) (Int32.ofNat i) h = _
  unfold b251_0
  refine bse e7 (bse e9 (bse e7 (bse e8 ?_)))
  dsimp only
  refine ifn (by decide) (ifn (by decide) (ifn (by decide) (ifn (by decide) (ifn (by decide) (ifn (by decide) (ifn (by decide) (ifn (by decide) (ift rfl ?_))))))))
  refine bse e7 ?_
  refine bse (a := (some M, h)) ?_ ?_
  · rw [hB', dcV_of (hc_ge p1) (hc_at p1) rfl, k_meth cb' hM hf m1]
    rfl
  refine bse (a := h') ?_ rfl
  rw [cV_w q]
  show (dM L xs zf w (k + 4) 264 (.ref 24 :: .ref (sg.2.2.2.2 a 0) :: [.ref M]) h).bind dxV = _
  rw [hm]
  rfl
/-- op 5 is done by method 260, with Method M -/
theorem x_5s {h' : rm_H} {m : Nat} (cb : CB hB Z P A B sz es) (q : RH (.ref P) n sg Z hB h) (ha : a < n) (hA : A i = 5) (hB' : B i = Int32.ofNat m) (hM : es[m]? = some M) (hf : ∃ fs, hc h M = some (.inr (11, fs))) (m1 : m < 1000) (hm : dM L xs zf w (k + 4) 260 (.ref 24 :: .ref (sg.2.2.2.2 a 0) :: [.ref M, .int (Int32.ofNat i)]) h = some (none, h')) : dM L xs zf w (k + 5) 251 [.ref 24, .ref (sg.2.2.2.2 a 0), .int (Int32.ofNat i)] h = some (none, h') := by
  obtain ⟨e7, e9, e8⟩ := x_hd (L := L) (xs := xs) (zf := zf) (w := w) (k := k + 3) (o := 5) cb q hA (by decide)
  have cb' := cb_k cb q
  obtain ⟨vs, p1, _⟩ := cb_P cb'
  rw [e251]
  show b251_0 L xs zf (dM L xs zf w (k + 4)) w (some 24) (some (sg.2.2.2.2 a 0)) (Int32.ofNat i) h = _
  unfold b251_0
  refine bse e7 (bse e9 (bse e7 (bse e8 ?_)))
  dsimp only
  refine ifn (by decide) (ifn (by decide) (ifn (by decide) (ifn (by decide) (ifn (by decide) (ifn (by decide) (ift rfl ?_))))))
  refine bse e7 ?_
  refine bse (a := (some M, h)) ?_ ?_
  · rw [hB', dcV_of (hc_ge p1) (hc_at p1) rfl, k_meth cb' hM hf m1]
    rfl
  refine bse (a := h') ?_ rfl
  rw [cV_w q]
  show (dM L xs zf w (k + 4) 260 (.ref 24 :: .ref (sg.2.2.2.2 a 0) :: [.ref M, .int (Int32.ofNat i)]) h).bind dxV = _
  rw [hm]
  rfl
end EX7
