/-! BEHIND A FAULT: what is seen through a right; fields' values; consume; arguments fit. -/
/-- what is behind a CAP, by table q -/
def bhC (q : Nat) (i t : Int32) : Int32 := if t &&& 15 = 5 then (if lkV q i ((t >>> ((8 : Int32) &&& 31)) &&& 7) = -1 then -1 else tO 5 ((t >>> ((4 : Int32) &&& 31)) &&& 15) (lkV q i ((t >>> ((8 : Int32) &&& 31)) &&& 7))) else t
/-- the operand of a field -/
def slB (t s0 : Int32) : Int32 := if t &&& 15 = 4 then s0 * 2 + 1 else s0 * 2 + 0
section ZM
variable {L : Nat} {xs : Nat → Int32} {zf : Value} {w k C Sc M pl ph K p n m : Nat} {cx : Nat → Nat} {h h1 h2 : rm_H} {pt vr gn rc a b x y t : Int32} {mv : Value} {ds kl : List Nat} {f : Nat → Int64} {sl ty : Nat → Int32} {u u1 u2 : Nat → Nat} {A B : Nat → Int32}
theorem t_bh {q : Nat} (hq : 1 ≤ q ∧ q ≤ 4) (i t : Int32) (h : rm_H) : (dM L xs zf w (k + 2) 197 [.ref q, .int i, .int t] h).bind dxI = some (bhC q i t, h) := by
  rw [e197]
  show (b197_0 L xs zf (dM L xs zf w (k + 1)) w (some q) i t h).bind dxI = _
  refine bsq (a := (some (.int (bhC q i t)), h)) ?_ rfl
  unfold b197_0 bhC
  refine bsq (t_so t h) ?_
  dsimp only
  rw [f2_eqd]
  by_cases c : t &&& 15 = 5
  · rw [if_pos (decide_eq_true c), if_pos c]
    refine bsq (t_cp t h) (bsq (lk_tb hq _ _ h) ?_)
    dsimp only
    rw [f2_ne]
    generalize lkV q i ((t >>> ((8 : Int32) &&& 31)) &&& 7) = v
    by_cases c2 : v = -1
    · rw [if_neg (fun z => absurd c2 (of_decide_eq_true z)), if_pos c2]
      rfl
    · rw [if_pos (decide_eq_true c2), if_neg c2]
      exact bsq (t_kd t h) (bsq (t_of _ _ _ h) rfl)
  · rw [if_neg (fun z => c (of_decide_eq_true z)), if_neg c]
    rfl
theorem ck_slB {d : Nat} {c : Int64} {s0 x0 : Int32} (z : KZ L xs cx C Sc M pt vr mv ds f sl ty rc a b h u) (e : dSn L xs h d c s0 x0) (t : Int32) : (dcV L xs (dM L xs zf w (k + 2)) 196 [13] (some C) [.int t, va_rf (some d)] h).bind dxI = some (slB t s0, h) := by
  rw [zk_v z, e196]
  show (b196_0 L xs zf (dM L xs zf w (k + 1)) w t (some d) h).bind dxI = _
  refine bsq (a := (some (.int (slB t s0)), h)) ?_ rfl
  unfold b196_0 slB
  refine bsq (fd_I e.2.1 (by decide)) (bsq (t_so t h) ?_)
  dsimp only
  rw [f2_ne]
  by_cases c : t &&& 15 = 4
  · rw [if_neg (fun z => absurd c (of_decide_eq_true z)), if_pos c]
    rfl
  · rw [if_pos (decide_eq_true c), if_neg c]
    rfl
/-- a field's value -/
theorem zk_203 {q pa : Nat} {c : Int64} {spl s1 : Int32} (z : KZ L xs cx C Sc M pt vr mv ds f sl ty rc a b h u) (ha : a ≠ 0) (hz : u 2 ≤ 9000) (ge : GE L xs cx h kl) (e6 : fd h 12 p 6 = some (.ref pa)) (ea : fd h 12 pa 1 = some (.int s1)) (e2 : fd h 12 p 2 = some (.ref q)) (hq : nS L xs h q c) (e3 : fd h 12 p 3 = some (.int spl)) (t : Int32) (hw : 200 ≤ w) : ∃ t' h' u', (dcV L xs (dM L xs zf w (k + 7)) 203 [13] (some C) [va_rf (some p), .int t] h).bind dxI = some (t', h') ∧ ZR L xs cx C Sc M pl ph pt vr mv ds f sl ty rc a b h u 1 h' u' := by
  obtain ⟨o, r1, r2⟩ := zk_192 (zf := zf) (w := w) (k := k) z ha ge e6 ea e2 hq e3 t hw
  have rf := fun x y => zk_ref (zf := zf) (w := w) (k := k + 5) z ha x y
  rw [zk_v z, e203]
  show ∃ t' h' u', (b203_0 L xs zf (dM L xs zf w (k + 6)) w (some C) (some p) t h).bind dxI = some (t', h') ∧ _
  cases o with
  | none =>
    refine ⟨2, h, u, bsq (a := (some (.int 2), h)) ?_ rfl, ZR_refl z⟩
    unfold b203_0
    exact bsq r1 (itq rfl rfl)
  | some d =>
    obtain ⟨c0, s0, x0, ed⟩ := r2 d rfl
    have bh := t_bh (L := L) (xs := xs) (zf := zf) (w := w) (k := k + 4) (q := 4) (by decide) ((t >>> ((8 : Int32) &&& 31)) &&& 7) x0 h
    obtain ⟨h', u', m1, m2⟩ := zk_emit (pl := pl) (ph := ph) (zf := zf) (w := w) (k := k + 3) z hz 3 (slB t s0)
    have g7 : dgI L xs h 7 [10] (some d) = some x0 := fd_I ed.2.2 (by decide)
    generalize bhC 4 ((t >>> ((8 : Int32) &&& 31)) &&& 7) x0 = g at bh
    by_cases c1 : mx_f2 .ne g (-1) = true
    · refine ⟨g, h', u', bsq (a := (some (.int g), h')) ?_ rfl, m2⟩
      unfold b203_0
      exact bsq r1 (inq (dnl_s d) (bsq (t_cp (k := k + 5) t h) (bsq g7 (bsq bh (itq c1 (bsq (zk_0 z) (bsq (ck_slB (k := k + 4) z ed t) (bsq m1 rfl))))))))
    · refine ⟨2, h, u, bsq (a := (some (.int 2), h)) ?_ rfl, ZR_refl z⟩
      unfold b203_0
      exact bsq r1 (inq (dnl_s d) (bsq (t_cp (k := k + 5) t h) (bsq g7 (bsq bh (inq c1 (bsq (fd_I e3 (by decide)) (bsq (rf _ _) rfl)))))))
/-- consume -/
theorem zk_184 {q : Nat} {c : Int64} {spl : Int32} (z : KZ L xs cx C Sc M pt vr mv ds f sl ty rc a b h u) (ha : a ≠ 0) (hz : u 2 ≤ 9000) (e2 : fd h 12 p 2 = some (.ref q)) (hq : nS L xs h q c) (e3 : fd h 12 p 3 = some (.int spl)) (hw : 200 ≤ w) : ∃ t h' u', (dcV L xs (dM L xs zf w (k + 5)) 184 [13] (some C) [va_rf (some p)] h).bind dxI = some (t, h') ∧ ZR L xs cx C Sc M pl ph pt vr mv ds f sl ty rc a b h u 1 h' u' := by
  obtain ⟨r, r1, r2⟩ := zk_180 (zf := zf) (w := w) (k := k) z ha e2 hq e3 hw
  have rf := fun x y => zk_ref (zf := zf) (w := w) (k := k + 3) z ha x y
  rw [zk_v z, e184]
  show ∃ t h' u', (b184_0 L xs zf (dM L xs zf w (k + 4)) w (some C) (some p) h).bind dxI = some (t, h') ∧ _
  have g3 : dgI L xs h 3 [12] (some p) = some spl := fd_I e3 (by decide)
  rcases r2 with r2 | ⟨i, d, hd, r2⟩
  · subst r2
    refine ⟨2, h, u, bsq (a := (some (.int 2), h)) ?_ rfl, ZR_refl z⟩
    unfold b184_0
    exact bsq r1 (inq (show ¬ mx_f2 .ne (-1 : Int32) (-1) = true by decide) rfl)
  · subst r2
    obtain ⟨gn, A, B, kh⟩ := id z
    obtain ⟨_, _, _, ⟨l16, _⟩, k5, _⟩ := id kh
    obtain ⟨_, d8, d7⟩ := id (k5 i d hd)
    have lt := (List.getElem?_eq_some_iff.mp hd).1
    have ne : mx_f2 .ne (Int32.ofNat i) (-1) = true := by
      rw [f2_ne]
      refine decide_eq_true (fun q => ?_)
      have : (Int32.ofNat i).toInt = (-1 : Int32).toInt := congrArg Int32.toInt q
      rw [of_int (by omega), show (-1 : Int32).toInt = -1 from by decide] at this
      omega
    obtain ⟨h2, v1, v2, v3, v4⟩ := ck_gone (pl := pl) (ph := ph) kh (gn ||| ((1 : Int32) <<< (sl i &&& 31)))
    have z2 : KZ L xs cx C Sc M pt vr mv ds f sl ty rc a b h2 u := ⟨_, A, B, v2⟩
    obtain ⟨h', u', m1, m2⟩ := zk_emit (pl := pl) (ph := ph) (zf := zf) (w := w) (k := k + 1) z2 hz 2 (sl i)
    have d8' : dgI L xs h2 8 [10] (some d) = some (sl i) := fd_I (wF_f kh v3 (by decide) d8) (by decide)
    have d7' : dgI L xs h' 7 [10] (some d) = some (ty i) := fd_I (wF_f v2 m2.2.1 (by decide) (wF_f kh v3 (by decide) d7)) (by decide)
    have fin : b184_82 L xs zf (dM L xs zf w (k + 4)) w (some C) (some d) h = some (some (.int (ty i)), h') := by
      unfold b184_82
      exact bsq (ck_4 kh) (bsq (fd_I d8 (by decide)) (bsq v1 (bsq (zk_0 z2) (bsq d8' (bsq m1 (bsq d7' rfl))))))
    have f46 : ∀ s0, b184_46 L xs zf (dM L xs zf w (k + 4)) w (some C) (some p) (Int32.ofNat i) (some d) s0 h = some (some (.int (ty i)), h') := by
      intro s0
      unfold b184_46
      refine bsq (zk_5 z) ?_
      by_cases c1 : mx_f2 .ge (Int32.ofNat i) (Int32.ofNat (u 0)) = true
      · exact itq c1 fin
      · refine inq c1 ?_
        by_cases c2 : mx_f1 .ne s0 = true
        · exact itq c2 fin
        · refine inq c2 (bsq (fd_I d7 (by decide)) (bsq (ck_use (k := k + 2) kh (ty i)) ?_))
          by_cases c3 : mx_f1 .ne (usO (ty i)) = true
          · exact itq c3 fin
          · exact inq c3 (bsq g3 (bsq (rf _ _) fin))
    refine ⟨ty i, h', u', bsq (a := (some (.int (ty i)), h')) ?_ rfl, ?_⟩
    · unfold b184_0
      refine bsq r1 (itq ne (bsq (zk_1 z) (bsq (ck_at kh hd) (bsq (fd_I d7 (by decide)) (bsq (t_so (k := k + 3) (ty i) h) ?_)))))
      by_cases c1 : mx_f2 .ne (ty i &&& 15) 5 = true
      · exact itq c1 (f46 0)
      · refine inq c1 (bsq (fd_I d7 (by decide)) (bsq (t_cp (k := k + 3) (ty i) h) ?_))
        dsimp only
        split
        · exact f46 0
        · exact f46 1
    · have t2 := ZR_trans (n := 0) ⟨z2, v3, v4, rfl, by omega⟩ m2
      exact ZR_le t2 (by omega)
end ZM
