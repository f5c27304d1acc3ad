/-! BEHIND A FAULT: the class's checker goes on without harm; what is not recursive. -/
/-- behind fault a: u are the numbers -/
def KZ (L : Nat) (xs : Nat → Int32) (cx : Nat → Nat) (C Sc M : Nat) (pt vr : Int32) (mv : Value) (ds : List Nat) (f : Nat → Int64) (sl ty : Nat → Int32) (rc a b : Int32) (h : rm_H) (u : Nat → Nat) : Prop := ∃ gn A B, KH L xs cx C Sc M pt vr mv h ds f sl ty gn rc a b u A B
/-- a step behind it, with n instructions at most -/
def ZR (L : Nat) (xs : Nat → Int32) (cx : Nat → Nat) (C Sc M pl ph : Nat) (pt vr : Int32) (mv : Value) (ds : List Nat) (f : Nat → Int64) (sl ty : Nat → Int32) (rc a b : Int32) (h : rm_H) (u : Nat → Nat) (n : Nat) (h' : rm_H) (u' : Nat → Nat) : Prop := KZ L xs cx C Sc M pt vr mv ds f sl ty rc a b h' u' ∧ wF cx C Sc pl ph u h h' ∧ wK2 u u' h h' ∧ u' 0 = u 0 ∧ u' 2 ≤ u 2 + n
/-- the method that is checked -/
def mSf (h : rm_H) (M : Nat) : Prop := ∃ K ac nb cp, fd h 11 M 1 = some (.ref K) ∧ fd h 9 K 2 = some (.int ac) ∧ fd h 9 K 3 = some (.int nb) ∧ fd h 11 M 6 = some (.int cp)
section ZZ
variable {L : Nat} {xs : Nat → Int32} {zf : Value} {w k C Sc M pl ph K p n m : Nat} {cx : Nat → Nat} {h h1 h2 : rm_H} {pt vr gn rc a b x y t : Int32} {mv : Value} {ds kl : List Nat} {f : Nat → Int64} {sl ty : Nat → Int32} {u u1 u2 : Nat → Nat} {A B : Nat → Int32}
theorem ZR_refl (z : KZ L xs cx C Sc M pt vr mv ds f sl ty rc a b h u) : ZR L xs cx C Sc M pl ph pt vr mv ds f sl ty rc a b h u n h u := ⟨z, wF_refl, wK2_refl, rfl, by omega⟩
theorem ZR_trans (a1 : ZR L xs cx C Sc M pl ph pt vr mv ds f sl ty rc a b h u n h1 u1) (b1 : ZR L xs cx C Sc M pl ph pt vr mv ds f sl ty rc a b h1 u1 m h2 u2) : ZR L xs cx C Sc M pl ph pt vr mv ds f sl ty rc a b h u (n + m) h2 u2 := by
  obtain ⟨x1, x2, x3, x4, x5⟩ := a1
  obtain ⟨y1, y2, y3, y4, y5⟩ := b1
  exact ⟨y1, wF_trans x2 x3 y2, wK2_trans x3 y3 x2.1.1, y4.trans x4, by omega⟩
theorem ZR_le (a1 : ZR L xs cx C Sc M pl ph pt vr mv ds f sl ty rc a b h u n h1 u1) (hn : n ≤ m) : ZR L xs cx C Sc M pl ph pt vr mv ds f sl ty rc a b h u m h1 u1 := by
  obtain ⟨x1, x2, x3, x4, x5⟩ := a1
  exact ⟨x1, x2, x3, x4, by omega⟩
theorem zk_emit (z : KZ L xs cx C Sc M pt vr mv ds f sl ty rc a b h u) (hz : u 2 ≤ 9000) (x y : Int32) : ∃ h' u', (dcV L xs (dM L xs zf w (k + 3)) 175 [4] (some (cx 8)) [.int x, .int y] h).bind dxI = some (Int32.ofNat (u 2), h') ∧ ZR L xs cx C Sc M pl ph pt vr mv ds f sl ty rc a b h u 1 h' u' := by
  obtain ⟨gn, A, B, kh⟩ := z
  obtain ⟨h', u', A', B', e1, e2, e3, e4, e5, e6, _⟩ := ck_emit (pl := pl) (ph := ph) (L := L) (xs := xs) (zf := zf) (w := w) (k := k) kh hz x y
  exact ⟨h', u', e1, ⟨gn, A', B', e2⟩, e3, e4, e6, by omega⟩
theorem zk_ref (z : KZ L xs cx C Sc M pt vr mv ds f sl ty rc a b h u) (ha : a ≠ 0) (x y : Int32) : (dcV L xs (dM L xs zf w (k + 1)) 178 [13] (some C) [.int x, .int y] h).bind dxV = some h := by
  obtain ⟨gn, A, B, kh⟩ := z
  exact ck_refB kh ha x y
theorem zk_0 (z : KZ L xs cx C Sc M pt vr mv ds f sl ty rc a b h u) : dgR L xs h 0 [13] (some C) = some (some (cx 8)) := by
  obtain ⟨gn, A, B, kh⟩ := z
  exact ck_0 kh
theorem zk_1 (z : KZ L xs cx C Sc M pt vr mv ds f sl ty rc a b h u) : dgR L xs h 1 [13] (some C) = some (some Sc) := by
  obtain ⟨gn, A, B, kh⟩ := z
  exact ck_1 kh
theorem zk_2 (z : KZ L xs cx C Sc M pt vr mv ds f sl ty rc a b h u) : dgR L xs h 2 [13] (some C) = some (some M) := by
  obtain ⟨gn, A, B, kh⟩ := z
  exact ck_2 kh
theorem zk_5 (z : KZ L xs cx C Sc M pt vr mv ds f sl ty rc a b h u) : dgI L xs h 5 [13] (some C) = some (Int32.ofNat (u 0)) := by
  obtain ⟨gn, A, B, kh⟩ := z
  exact ck_5 kh
theorem zk_v {mi : Nat} {As : List Value} {D : dD} (z : KZ L xs cx C Sc M pt vr mv ds f sl ty rc a b h u) : dcV L xs D mi [13] (some C) As h = D mi (.ref C :: As) h := by
  obtain ⟨gn, A, B, kh⟩ := z
  exact ck_v kh
/-- a name, behind a fault: nowhere, or somewhere -/
theorem zk_180 {q : Nat} {c : Int64} {spl : Int32} (z : KZ L xs cx C Sc M pt vr mv ds f sl ty rc a b h u) (ha : a ≠ 0) (e2 : fd h 12 p 2 = some (.ref q)) (hq : nS L xs h q c) (e3 : fd h 12 p 3 = some (.int spl)) (hw : 200 ≤ w) : ∃ r, (dcV L xs (dM L xs zf w (k + 4)) 180 [13] (some C) [va_rf (some p)] h).bind dxI = some (r, h) ∧ (r = -1 ∨ ∃ i d, ds[i]? = some d ∧ r = Int32.ofNat i) := by
  have rf := fun x y => zk_ref (zf := zf) (w := w) (k := k + 2) z ha x y
  obtain ⟨gn, A, B, kh⟩ := z
  have fn := ck_find (zf := zf) (w := w) (k := k) kh hq hw
  obtain ⟨_, _, _, ⟨l16, _⟩, k5, _⟩ := id kh
  rw [ck_v kh, e180]
  show ∃ r, (b180_0 L xs zf (dM L xs zf w (k + 3)) w (some C) (some p) h).bind dxI = some (r, h) ∧ _
  have g2 : dgR L xs h 2 [12] (some p) = some (some q) := fd_R (o := some q) e2 (by decide)
  have g3 : dgI L xs h 3 [12] (some p) = some spl := fd_I e3 (by decide)
  generalize hkf : kF f c ds.length 0 = kf at fn
  cases kf with
  | none =>
    refine ⟨-1, bsq (a := (some (.int (-1)), h)) ?_ rfl, Or.inl rfl⟩
    unfold b180_0
    exact bsq g2 (bsq fn (inq (show ¬ mx_f2 .ne (kI none) (-1) = true by decide) (bsq g3 (bsq (rf _ _) rfl))))
  | some i =>
    obtain ⟨_, i2, _, _⟩ := kF_some hkf
    obtain ⟨d, hd⟩ : ∃ d, ds[i]? = some d := ⟨ds[i]'(by omega), List.getElem?_eq_getElem (by omega)⟩
    have ne : mx_f2 .ne (kI (some i)) (-1) = true := by
      rw [f2_ne]
      refine decide_eq_true (fun q => ?_)
      have : (Int32.ofNat i).toInt = (-1 : Int32).toInt := congrArg Int32.toInt q
      rw [of_int (by omega), show (-1 : Int32).toInt = -1 from by decide] at this
      omega
    have ig := ck_isg (zf := zf) (w := w) (k := k + 2) kh (k5 i d hd)
    by_cases g0 : (gn >>> (sl i &&& 31)) &&& 1 = 0
    · rw [if_pos g0] at ig
      refine ⟨Int32.ofNat i, bsq (a := (some (.int (Int32.ofNat i)), h)) ?_ rfl, Or.inr ⟨i, d, hd, rfl⟩⟩
      unfold b180_0
      exact bsq g2 (bsq fn (itq ne (bsq (ck_1 kh) (bsq (ck_at kh hd) (bsq ig (itq (show mx_f1 .eq (0 : Int32) = true by decide) rfl))))))
    · rw [if_neg g0] at ig
      refine ⟨-1, bsq (a := (some (.int (-1)), h)) ?_ rfl, Or.inl rfl⟩
      unfold b180_0
      exact bsq g2 (bsq fn (itq ne (bsq (ck_1 kh) (bsq (ck_at kh hd) (bsq ig (inq (show ¬ mx_f1 .eq (1 : Int32) = true by decide) (bsq g3 (bsq (rf _ _) rfl))))))))
/-- a NAME's value -/
theorem zk_179 {q : Nat} {c : Int64} {spl : Int32} (z : KZ L xs cx C Sc M pt vr mv ds f sl ty rc a b h u) (ha : a ≠ 0) (hz : u 2 ≤ 9000) (e2 : fd h 12 p 2 = some (.ref q)) (hq : nS L xs h q c) (e3 : fd h 12 p 3 = some (.int spl)) (hw : 200 ≤ w) : ∃ t h' u', (dcV L xs (dM L xs zf w (k + 5)) 179 [13] (some C) [va_rf (some p)] h).bind dxI = some (t, h') ∧ ZR L xs cx C Sc M pl ph pt vr mv ds f sl ty rc a b h u 1 h' u' := by
  obtain ⟨r, r1, r2⟩ := zk_180 (zf := zf) (w := w) (k := k) z ha e2 hq e3 hw
  have rf := fun x y => zk_ref (zf := zf) (w := w) (k := k + 3) z ha x y
  rw [zk_v z, e179]
  show ∃ t h' u', (b179_0 L xs zf (dM L xs zf w (k + 4)) w (some C) (some p) h).bind dxI = some (t, h') ∧ _
  have g3 : dgI L xs h 3 [12] (some p) = some spl := fd_I e3 (by decide)
  rcases r2 with r2 | ⟨i, d, hd, r2⟩
  · subst r2
    refine ⟨2, h, u, bsq (a := (some (.int 2), h)) ?_ rfl, ZR_refl z⟩
    unfold b179_0
    exact bsq r1 (inq (show ¬ mx_f2 .ne (-1 : Int32) (-1) = true by decide) rfl)
  · subst r2
    obtain ⟨h', u', m1, m2⟩ := zk_emit (pl := pl) (ph := ph) (zf := zf) (w := w) (k := k + 1) z hz 2 (sl i)
    obtain ⟨gn, A, B, kh⟩ := id z
    obtain ⟨_, _, _, ⟨l16, _⟩, k5, _⟩ := id kh
    obtain ⟨_, d8, d7⟩ := id (k5 i d hd)
    have lt := (List.getElem?_eq_some_iff.mp hd).1
    have ne : mx_f2 .ne (Int32.ofNat i) (-1) = true := by
      rw [f2_ne]
      refine decide_eq_true (fun q => ?_)
      have : (Int32.ofNat i).toInt = (-1 : Int32).toInt := congrArg Int32.toInt q
      rw [of_int (by omega), show (-1 : Int32).toInt = -1 from by decide] at this
      omega
    have d7' : fd h' 10 d 7 = some (.int (ty i)) := wF_f kh m2.2.1 (by decide) d7
    have fin : b179_49 L xs zf (dM L xs zf w (k + 4)) w (some C) (some d) h = some (some (.int (ty i)), h') := by
      unfold b179_49
      exact bsq (zk_0 z) (bsq (fd_I d8 (by decide)) (bsq m1 (bsq (fd_I d7' (by decide)) rfl)))
    refine ⟨ty i, h', u', bsq (a := (some (.int (ty i)), h')) ?_ rfl, m2⟩
    unfold b179_0
    refine bsq r1 (itq ne (bsq (zk_1 z) (bsq (ck_at kh hd) (bsq (zk_5 z) ?_))))
    by_cases c1 : mx_f2 .ge (Int32.ofNat i) (Int32.ofNat (u 0)) = true
    · exact itq c1 fin
    · refine inq c1 (bsq (fd_I d7 (by decide)) (bsq (ck_use (k := k + 2) kh (ty i)) ?_))
      by_cases c2 : mx_f1 .ne (usO (ty i)) = true
      · exact itq c2 fin
      · exact inq c2 (bsq g3 (bsq (rf _ _) fin))
/-- this -/
theorem zk_177 {spl : Int32} (z : KZ L xs cx C Sc M pt vr mv ds f sl ty rc a b h u) (ha : a ≠ 0) (hz : u 2 ≤ 9000) (ms : mSf h M) (e1 : fd h 12 p 1 = some (.int spl)) : ∃ t h' u', (dcV L xs (dM L xs zf w (k + 4)) 177 [13] (some C) [va_rf (some p)] h).bind dxI = some (t, h') ∧ ZR L xs cx C Sc M pl ph pt vr mv ds f sl ty rc a b h u 1 h' u' := by
  obtain ⟨h', u', m1, m2⟩ := zk_emit (pl := pl) (ph := ph) (zf := zf) (w := w) (k := k) z hz 1 0
  obtain ⟨z', w1, _⟩ := id m2
  have rf := fun x y => zk_ref (zf := zf) (w := w) (k := k + 2) z' ha x y
  obtain ⟨gn, A, B, kh⟩ := id z
  obtain ⟨gn', A', B', kh'⟩ := id z'
  obtain ⟨K, ac, nb, cp, q1, q2, q3, q4⟩ := ms
  have q1' : dgR L xs h' 1 [11] (some M) = some (some K) := fd_R (o := some K) (wF_f kh w1 (by decide) q1) (by decide)
  have q2' : dgI L xs h' 2 [9] (some K) = some ac := fd_I (wF_f kh w1 (by decide) q2) (by decide)
  have q3' : dgI L xs h' 3 [9] (some K) = some nb := fd_I (wF_f kh w1 (by decide) q3) (by decide)
  have q4' : dgI L xs h' 6 [11] (some M) = some cp := fd_I (wF_f kh w1 (by decide) q4) (by decide)
  have e1' : dgI L xs h' 1 [12] (some p) = some spl := fd_I (wF_12 w1 (by decide) e1) (by decide)
  have f80 : b177_80 L xs zf (dM L xs zf w (k + 3)) w (some C) nb h' = some (some (.int (tO 5 nb cp)), h') := by
    unfold b177_80
    exact bsq (zk_2 z') (bsq q4' (bsq (t_of (k := k + 2) _ _ _ h') rfl))
  have f46 : ∀ s0, b177_46 L xs zf (dM L xs zf w (k + 3)) w nb s0 h' = some (some (.int (tO s0 nb 2)), h') := by
    intro s0
    unfold b177_46
    exact bsq (t_of (k := k + 2) _ _ _ h') rfl
  have go : ∀ t, b177_0 L xs zf (dM L xs zf w (k + 3)) w (some C) (some p) h = some (some (.int t), h') → ∃ t h' u', (dcV L xs (dM L xs zf w (k + 4)) 177 [13] (some C) [va_rf (some p)] h).bind dxI = some (t, h') ∧ ZR L xs cx C Sc M pl ph pt vr mv ds f sl ty rc a b h u 1 h' u' := by
    intro t e
    refine ⟨t, h', u', ?_, m2⟩
    rw [zk_v z, e177]
    show (b177_0 L xs zf (dM L xs zf w (k + 3)) w (some C) (some p) h).bind dxI = _
    rw [e]
    rfl
  have hd : ∀ r, (if mx_f1 .eq ac = true then (dgI L xs h' 6 [13] (some C)).bind fun x23 => if mx_f1 .eq x23 = true then b177_80 L xs zf (dM L xs zf w (k + 3)) w (some C) nb h' else (dgR L xs h' 2 [13] (some C)).bind fun p26 => (dgI L xs h' 6 [11] p26).bind fun x28 => if mx_f2 .eq x28 3 = true then b177_80 L xs zf (dM L xs zf w (k + 3)) w (some C) nb h' else (dgI L xs h' 1 [12] (some p)).bind fun x31 => ((dcV L xs (dM L xs zf w (k + 3)) 178 [13] (some C) [.int 6, .int x31] h').bind dxV).bind fun h33 => b177_80 L xs zf (dM L xs zf w (k + 3)) w (some C) nb h33 else (dgI L xs h' 6 [13] (some C)).bind fun x37 => if mx_f1 .eq x37 = true then b177_46 L xs zf (dM L xs zf w (k + 3)) w nb 4 h' else b177_46 L xs zf (dM L xs zf w (k + 3)) w nb 3 h') = r → b177_0 L xs zf (dM L xs zf w (k + 3)) w (some C) (some p) h = r := by
    intro r er
    unfold b177_0
    exact bsq (zk_0 z) (bsq m1 (bsq (zk_2 z') (bsq q1' (bsq q3' (bsq (zk_2 z') (bsq q1' (bsq q2' er)))))))
  have g6 := ck_6 kh'
  by_cases c1 : mx_f1 .eq ac = true
  · by_cases c2 : mx_f1 .eq rc = true
    · exact go _ (hd _ (itq c1 (bsq g6 (itq c2 f80))))
    · by_cases c3 : mx_f2 .eq cp 3 = true
      · exact go _ (hd _ (itq c1 (bsq g6 (inq c2 (bsq (zk_2 z') (bsq q4' (itq c3 f80)))))))
      · exact go _ (hd _ (itq c1 (bsq g6 (inq c2 (bsq (zk_2 z') (bsq q4' (inq c3 (bsq e1' (bsq (rf _ _) f80)))))))))
  · by_cases c2 : mx_f1 .eq rc = true
    · exact go _ (hd _ (inq c1 (bsq g6 (itq c2 (f46 4)))))
    · exact go _ (hd _ (inq c1 (bsq g6 (inq c2 (f46 3)))))
end ZZ
