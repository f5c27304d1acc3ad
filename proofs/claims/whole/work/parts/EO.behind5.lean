/-! BEHIND A FAULT: calls, messages, what is made. -/
section ZO
variable {L : Nat} {xs : Nat → Int32} {zf : Value} {w k C Sc M pl ph K p n m q0 q1 : Nat} {cx : Nat → Nat} {h h1 h2 : rm_H} {pt vr gn rc a b x y t : Int32} {mv : Value} {ds kl es : List Nat} {f : Nat → Int64} {sl ty : Nat → Int32} {u u1 u2 : Nat → Nat} {A B : Nat → Int32}
/-- a method of a Kind, by name and sort -/
theorem ck_fm {q : Nat} {c : Int64} (ko : kOk L xs h K) (hq : nS L xs h q c) (i : Int32) (hw : 200 ≤ w) : ∃ o, (dcV L xs (dM L xs zf w (k + 4)) 156 [9] (some K) [va_rf (some q), .int i] h).bind dxR = some (o, h) ∧ ∀ M', o = some M' → ∃ so nb cp np pty res tk hm, mOk h M' so nb cp np pty res tk hm := by
  obtain ⟨ac, nb, _, _, _, ⟨ml, ar2, cap2, ms, mf, so, g, mb, b1, b2, b6⟩, _⟩ := ko
  refine ⟨_, c_fm (zf := zf) (w := w) (k := k) b1 b2 hq hw, fun M' hM => b6 M' ?_⟩
  unfold fM at hM
  split at hM
  · cases hM
  · split at hM
    · exact List.mem_of_getElem? hM
    · cases hM
theorem zk_204 {q pa : Nat} {c : Int64} {s spl s1 x0 : Int32} (z : KZ L xs cx C Sc M pt vr mv ds f sl ty rc a b h u) (ha : a ≠ 0) (hz : u 2 ≤ 9000) (ge : GE L xs cx h kl) (e1 : fd h 12 p 1 = some (.int s)) (e6 : fd h 12 p 6 = some (.ref pa)) (ea0 : fd h 12 pa 0 = some (.int x0)) (ea : fd h 12 pa 1 = some (.int s1)) (e2 : fd h 12 p 2 = some (.ref q)) (hq : nS L xs h q c) (e3 : fd h 12 p 3 = some (.int spl)) (ep : pts h q0 q1 p es) (hl : es.length ≤ 6) (at' : aTy h es) (t : Int32) (hw : 200 ≤ w) : ∃ t' h' u', (dcV L xs (dM L xs zf w (k + 7)) 204 [13] (some C) [va_rf (some p), .int t] h).bind dxI = some (t', h') ∧ ZR L xs cx C Sc M pl ph pt vr mv ds f sl ty rc a b h u 1 h' u' := by
  obtain ⟨o1, r1, r2⟩ := zk_193 (zf := zf) (w := w) (k := k + 1) z ha ge ea t
  have rf := fun x y => zk_ref (zf := zf) (w := w) (k := k + 5) z ha x y
  rw [zk_v z, e204]
  show ∃ t' h' u', (b204_0 L xs zf (dM L xs zf w (k + 6)) w (some C) (some p) t h).bind dxI = some (t', h') ∧ _
  have g6 : dgR L xs h 6 [12] (some p) = some (some pa) := fd_R (o := some pa) e6 (by decide)
  have g2 : dgR L xs h 2 [12] (some p) = some (some q) := fd_R (o := some q) e2 (by decide)
  have g3 : dgI L xs h 3 [12] (some p) = some spl := fd_I e3 (by decide)
  cases o1 with
  | none =>
    refine ⟨2, h, u, bsq (a := (some (.int 2), h)) ?_ rfl, ZR_refl z⟩
    unfold b204_0
    exact bsq g6 (bsq r1 (itq rfl rfl))
  | some K =>
    obtain ⟨o2, m1, m2⟩ := ck_fm (zf := zf) (w := w) (k := k + 2) (ge.2.2 K (r2 K rfl)) hq 1 hw
    cases o2 with
    | none =>
      refine ⟨2, h, u, bsq (a := (some (.int 2), h)) ?_ rfl, ZR_refl z⟩
      unfold b204_0
      exact bsq g6 (bsq r1 (inq (dnl_s K) (bsq g2 (bsq m1 (itq rfl (bsq g3 (bsq (rf _ _) rfl)))))))
    | some M' =>
      obtain ⟨so, nb, cp, np, pty, res, tk, hm, mo⟩ := m2 M' rfl
      have f9 := zk_199 (zf := zf) (w := w) (k := k + 1) z ha ep e1 e3 hl at' mo hw
      obtain ⟨h', u', v1, v2⟩ := zk_emit (pl := pl) (ph := ph) (zf := zf) (w := w) (k := k + 3) z hz 4 nb
      obtain ⟨gn, A, B, kh⟩ := id z
      have mo' := mOk_w kh v2.2.1 mo
      obtain ⟨_, o2, _, _, _, _, _⟩ := id mo
      obtain ⟨_, _, _, _, o5, _, _⟩ := id mo'
      have fin : ∃ t', b204_88 L xs zf (dM L xs zf w (k + 6)) w (some C) (some M') h = some (some (.int t'), h') := by
        unfold b204_88
        rcases o5 with ⟨_, y⟩ | ⟨d, x, _, y1, y2⟩
        · exact ⟨0, bsq (zk_0 z) (bsq (fd_I o2 (by decide)) (bsq v1 (bsq (fd_R (o := none) y (by decide)) (itq rfl rfl))))⟩
        · have g8 : dgR L xs h' 8 [11] (some M') = some (some d) := fd_R (o := some d) y1 (by decide)
          exact ⟨x, bsq (zk_0 z) (bsq (fd_I o2 (by decide)) (bsq v1 (bsq g8 (inq (dnl_s d) (bsq g8 (bsq (fd_I y2 (by decide)) rfl))))))⟩
      obtain ⟨t', fin⟩ := fin
      refine ⟨t', h', u', bsq (a := (some (.int t'), h')) ?_ rfl, v2⟩
      unfold b204_0
      refine bsq g6 (bsq r1 (inq (dnl_s K) (bsq g2 (bsq m1 (inq (dnl_s M') (bsq f9 (bsq (t_so (k := k + 5) t h) ?_)))))))
      by_cases c1 : mx_f2 .ne (t &&& 15) 5 = true
      · exact itq c1 fin
      · obtain ⟨r, y⟩ := ck_205 (zf := zf) (w := w) (k := k + 4) z ea0 mo ((t >>> ((8 : Int32) &&& 31)) &&& 7)
        refine inq c1 (bsq g6 (bsq (t_cp (k := k + 5) t h) (bsq y ?_)))
        by_cases c2 : mx_f1 .ne r = true
        · exact itq c2 fin
        · exact inq c2 (bsq g6 (bsq (fd_I ea (by decide)) (bsq (rf _ _) fin)))
theorem zk_207 {q pa : Nat} {c : Int64} {s spl s1 : Int32} (z : KZ L xs cx C Sc M pt vr mv ds f sl ty rc a b h u) (ha : a ≠ 0) (hz : u 2 ≤ 9000) (ge : GE L xs cx h kl) (e1 : fd h 12 p 1 = some (.int s)) (e6 : fd h 12 p 6 = some (.ref pa)) (ea : fd h 12 pa 1 = some (.int s1)) (e2 : fd h 12 p 2 = some (.ref q)) (hq : nS L xs h q c) (e3 : fd h 12 p 3 = some (.int spl)) (ep : pts h q0 q1 p es) (hl : es.length ≤ 6) (at' : aTy h es) (t : Int32) (hw : 200 ≤ w) : ∃ t' h' u', (dcV L xs (dM L xs zf w (k + 7)) 207 [13] (some C) [va_rf (some p), .int t] h).bind dxI = some (t', h') ∧ ZR L xs cx C Sc M pl ph pt vr mv ds f sl ty rc a b h u 1 h' u' := by
  have rf := fun x y => zk_ref (zf := zf) (w := w) (k := k + 5) z ha x y
  have g6 : dgR L xs h 6 [12] (some p) = some (some pa) := fd_R (o := some pa) e6 (by decide)
  have g2 : dgR L xs h 2 [12] (some p) = some (some q) := fd_R (o := some q) e2 (by decide)
  have g3 : dgI L xs h 3 [12] (some p) = some spl := fd_I e3 (by decide)
  have f30 : ∀ s0, b207_30 L xs zf (dM L xs zf w (k + 6)) w (some p) s0 (some C) h = some (some (.int 0), h) := by
    intro s0
    unfold b207_30
    exact bsq g6 (bsq (fd_I ea (by decide)) (bsq (rf _ _) rfl))
  have f71n : b207_71 L xs zf (dM L xs zf w (k + 6)) w (some C) (some p) none h = some (some (.int 0), h) := by
    unfold b207_71
    exact itq rfl (bsq g3 (bsq (rf _ _) rfl))
  have f42 : ∃ h' u', b207_42 L xs zf (dM L xs zf w (k + 6)) w (some C) (some p) t h = some (some (.int 0), h') ∧ ZR L xs cx C Sc M pl ph pt vr mv ds f sl ty rc a b h u 1 h' u' := by
    have kd : (dcV L xs (dM L xs zf w (k + 6)) 194 [4] (some (cx 8)) [.int ((t >>> ((4 : Int32) &&& 31)) &&& 15)] h).bind dxR = some (kNo kl ((t >>> ((4 : Int32) &&& 31)) &&& 15), h) := by
      obtain ⟨gn, A, B, kh⟩ := z
      exact ck_kind (k := k + 2) kh ge _
    unfold b207_42
    generalize hk : kNo kl ((t >>> ((4 : Int32) &&& 31)) &&& 15) = o at kd
    cases o with
    | none => exact ⟨h, u, bsq (zk_0 z) (bsq (t_kd (k := k + 5) t h) (bsq kd (itq rfl f71n))), ZR_refl z⟩
    | some K =>
      have hK : K ∈ kl := by
        unfold kNo at hk
        split at hk
        · cases hk
        · exact List.mem_of_getElem? hk
      obtain ⟨o2, m1, m2⟩ := ck_fm (zf := zf) (w := w) (k := k + 2) (ge.2.2 K hK) hq 2 hw
      cases o2 with
      | none => exact ⟨h, u, bsq (zk_0 z) (bsq (t_kd (k := k + 5) t h) (bsq kd (inq (dnl_s K) (bsq g2 (bsq m1 f71n))))), ZR_refl z⟩
      | some M' =>
        obtain ⟨so, nb, cp, np, pty, res, tk, hm, mo⟩ := m2 M' rfl
        have f9 := zk_199 (zf := zf) (w := w) (k := k + 1) z ha ep e1 e3 hl at' mo hw
        obtain ⟨h', u', v1, v2⟩ := zk_emit (pl := pl) (ph := ph) (zf := zf) (w := w) (k := k + 3) z hz 5 nb
        obtain ⟨_, o2, _⟩ := id mo
        refine ⟨h', u', bsq (zk_0 z) (bsq (t_kd (k := k + 5) t h) (bsq kd (inq (dnl_s K) (bsq g2 (bsq m1 ?_))))), v2⟩
        unfold b207_71
        exact inq (dnl_s M') (bsq f9 (bsq (zk_0 z) (bsq (fd_I o2 (by decide)) (bsq v1 rfl))))
  rw [zk_v z, e207]
  show ∃ t' h' u', (b207_0 L xs zf (dM L xs zf w (k + 6)) w (some C) (some p) t h).bind dxI = some (t', h') ∧ _
  obtain ⟨h', u', y1, y2⟩ := f42
  have so : (dM L xs zf w (k + 6) 159 [.int t] h).bind dxI = some (t &&& 15, h) := t_so (k := k + 5) t h
  by_cases c1 : mx_f2 .eq (t &&& 15) 3 = true
  · refine ⟨0, h', u', bsq (a := (some (.int 0), h')) ?_ rfl, y2⟩
    unfold b207_0
    exact bsq so (itq c1 y1)
  · by_cases c2 : mx_f2 .eq (t &&& 15) 4 = true
    · refine ⟨0, h', u', bsq (a := (some (.int 0), h')) ?_ rfl, y2⟩
      unfold b207_0
      exact bsq so (inq c1 (bsq so (itq c2 y1)))
    · refine ⟨0, h, u, bsq (a := (some (.int 0), h)) ?_ rfl, ZR_refl z⟩
      unfold b207_0
      refine bsq so (inq c1 (bsq so (inq c2 (bsq so ?_))))
      dsimp only
      split
      · exact f30 5
      · exact f30 8
end ZO
