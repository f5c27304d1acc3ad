/-! BEHIND A FAULT: operators, has, what is made. -/
section ZT
variable {L : Nat} {xs : Nat → Int32} {zf : Value} {w k C Sc M pl ph K p p0 n m ke q0 q1 : Nat} {cx : Nat → Nat} {hB h h1 h2 : rm_H} {pt vr gn rc a b x y t : Int32} {mv : Value} {ds kl es : List Nat} {f : Nat → Int64} {sl ty : Nat → Int32} {u u1 u2 : Nat → Nat} {A B : Nat → Int32}
/-- an operator: its right side is a premise -/
theorem zx_208 {pa pr : Nat} {s1 s2 op : Int32} (IH : ZX L xs zf w cx C Sc M pl ph pt vr mv ds f sl ty rc a b kl hB 172 pr n ke) (e6 : fd hB 12 p 6 = some (.ref pa)) (ea : fd hB 12 pa 1 = some (.int s1)) (e8 : fd hB 12 p 8 = some (.ref pr)) (er : fd hB 12 pr 1 = some (.int s2)) (e4 : fd hB 12 p 4 = some (.int op)) (hk : 3 ≤ ke) (j : Nat) (ev : EV L xs cx C Sc M pt vr mv ds f sl ty rc a b kl hB h u) (hz : u 2 + (n + 1) ≤ 9000) (t : Int32) : ∃ t' h' u', (dcV L xs (dM L xs zf w (ke + 1 + j)) 208 [13] (some C) [va_rf (some p), .int t] h).bind dxI = some (t', h') ∧ ZR L xs cx C Sc M pl ph pt vr mv ds f sl ty rc a b h u (n + 1) h' u' := by
  obtain ⟨k', rfl⟩ : ∃ k', ke = k' + 3 := ⟨ke - 3, by omega⟩
  obtain ⟨tr, h1, u1, r1, r2⟩ := IH j h u ev (by omega)
  have ev1 := EV_s ev r2
  obtain ⟨z1, _, _, nb1, ha⟩ := id ev1
  have nb := ev.2.2.2.1
  have u12 : u1 2 ≤ u 2 + n := r2.2.2.2.2
  obtain ⟨h2, u2, v1, v2⟩ := zk_emit (pl := pl) (ph := ph) (zf := zf) (w := w) (k := k' + j) z1 (by omega) 13 op
  rw [show k' + j + 3 = k' + 3 + j from by omega] at v1
  have f1 := zk_209 (zf := zf) (w := w) (k := k' + j) z1 ha (nb1.1 _ _ _ (by decide) ea) t
  have f2 := zk_209 (zf := zf) (w := w) (k := k' + j) z1 ha (nb1.1 _ _ _ (by decide) er) tr
  rw [show k' + j + 3 = k' + 3 + j from by omega] at f1 f2
  refine ⟨1, h2, u2, ?_, ZR_trans r2 v2⟩
  rw [zk_v ev.1, show k' + 3 + 1 + j = k' + 3 + j + 1 from by omega, e208]
  show (b208_0 L xs zf (dM L xs zf w (k' + 3 + j)) w (some C) (some p) t h).bind dxI = _
  refine bsq (a := (some (.int 1), h2)) ?_ rfl
  unfold b208_0
  exact bsq (fd_R (o := some pr) (nb.1 _ _ _ (by decide) e8) (by decide)) (bsq r1 (bsq (fd_R (o := some pa) (nb1.1 _ _ _ (by decide) e6) (by decide)) (bsq f1 (bsq (fd_R (o := some pr) (nb1.1 _ _ _ (by decide) e8) (by decide)) (bsq f2 (bsq (zk_0 z1) (bsq (fd_I (nb1.1 _ _ _ (by decide) e4) (by decide)) (bsq v1 rfl))))))))
/-- has -/
theorem zx_185 {pr : Nat} {s2 : Int32} (IH : ZX L xs zf w cx C Sc M pl ph pt vr mv ds f sl ty rc a b kl hB 172 pr n ke) (e8 : fd hB 12 p 8 = some (.ref pr)) (er : fd hB 12 pr 1 = some (.int s2)) (hk : 3 ≤ ke) : ZX L xs zf w cx C Sc M pl ph pt vr mv ds f sl ty rc a b kl hB 185 p (n + 1) (ke + 1) := by
  intro j h u ev hz
  obtain ⟨k', rfl⟩ : ∃ k', ke = k' + 3 := ⟨ke - 3, by omega⟩
  obtain ⟨tr, h1, u1, r1, r2⟩ := IH j h u ev (by omega)
  have ev1 := EV_s ev r2
  obtain ⟨z1, _, _, nb1, ha⟩ := id ev1
  have nb := ev.2.2.2.1
  have u12 : u1 2 ≤ u 2 + n := r2.2.2.2.2
  obtain ⟨h2, u2, v1, v2⟩ := zk_emit (pl := pl) (ph := ph) (zf := zf) (w := w) (k := k' + j) z1 (by omega) 8 0
  rw [show k' + j + 3 = k' + 3 + j from by omega] at v1
  have rf := fun x y => zk_ref (zf := zf) (w := w) (k := k' + 2 + j) z1 ha x y
  rw [show k' + 2 + j + 1 = k' + 3 + j from by omega] at rf
  have so : (dM L xs zf w (k' + 3 + j) 159 [.int tr] h1).bind dxI = some (tr &&& 15, h1) := by rw [show k' + 3 + j = k' + 2 + j + 1 from by omega]; exact t_so tr h1
  have f48 : b185_48 L xs zf (dM L xs zf w (k' + 3 + j)) w (some C) h1 = some (some (.int 1), h2) := by
    unfold b185_48
    exact bsq (zk_0 z1) (bsq v1 rfl)
  have f38 : ∀ s0, b185_38 L xs zf (dM L xs zf w (k' + 3 + j)) w (some C) (some p) s0 (some C) h1 = some (some (.int 1), h2) := by
    intro s0
    unfold b185_38
    exact bsq (fd_R (o := some pr) (nb1.1 _ _ _ (by decide) e8) (by decide)) (bsq (fd_I (nb1.1 _ _ _ (by decide) er) (by decide)) (bsq (rf _ _) f48))
  have f24 : b185_24 L xs zf (dM L xs zf w (k' + 3 + j)) w (some C) (some p) tr h1 = some (some (.int 1), h2) := by
    unfold b185_24
    refine bsq so ?_
    dsimp only
    split
    · exact f38 5
    · exact f38 8
  refine ⟨1, h2, u2, ?_, ZR_trans r2 v2⟩
  rw [zk_v ev.1, show k' + 3 + 1 + j = k' + 3 + j + 1 from by omega, e185]
  show (b185_0 L xs zf (dM L xs zf w (k' + 3 + j)) w (some C) (some p) h).bind dxI = _
  refine bsq (a := (some (.int 1), h2)) ?_ rfl
  unfold b185_0
  refine bsq (fd_R (o := some pr) (nb.1 _ _ _ (by decide) e8) (by decide)) (bsq r1 (bsq so ?_))
  dsimp only
  split
  · exact f24
  · refine bsq so ?_
    dsimp only
    split
    · exact f48
    · exact f24
/-- new: behind its arguments -/
theorem zk_198 {d : Nat} {s spl : Int32} {c0 : Int64} (ev : EV L xs cx C Sc M pt vr mv ds f sl ty rc a b kl hB h u) (hz : u 2 ≤ 9000) (hp : pts hB q0 q1 p es) (hl : es.length ≤ 6) (at' : aTy h es) (e1 : fd hB 12 p 1 = some (.int s)) (e3 : fd hB 12 p 3 = some (.int spl)) (e5 : fd hB 12 p 5 = some (.ref d)) (d7 : fd hB 10 d 7 = some (.int x)) (hw : 200 ≤ w) {h0 : rm_H} (r : (dcV L xs (dM L xs zf w (k + 6)) 173 [13] (some C) [va_rf (some p)] h0).bind dxV = some h) (v0 : dcV L xs (dM L xs zf w (k + 7)) 198 [13] (some C) [va_rf (some p)] h0 = dM L xs zf w (k + 7) 198 (.ref C :: [va_rf (some p)]) h0) : ∃ t' h' u', (dcV L xs (dM L xs zf w (k + 7)) 198 [13] (some C) [va_rf (some p)] h0).bind dxI = some (t', h') ∧ ZR L xs cx C Sc M pl ph pt vr mv ds f sl ty rc a b h u 1 h' u' := by
  obtain ⟨z, ge, _, nb, ha⟩ := id ev
  have rf := fun x y => zk_ref (zf := zf) (w := w) (k := k + 5) z ha x y
  have g5 : dgR L xs h 5 [12] (some p) = some (some d) := fd_R (o := some d) (nb.1 _ _ _ (by decide) e5) (by decide)
  have g7 : dgI L xs h 7 [10] (some d) = some x := fd_I (nb.2.2.2.1 _ _ _ d7) (by decide)
  have g1 : dgI L xs h 1 [12] (some p) = some s := fd_I (nb.1 _ _ _ (by decide) e1) (by decide)
  have kd : (dcV L xs (dM L xs zf w (k + 6)) 194 [4] (some (cx 8)) [.int ((x >>> ((4 : Int32) &&& 31)) &&& 15)] h).bind dxR = some (kNo kl ((x >>> ((4 : Int32) &&& 31)) &&& 15), h) := by
    obtain ⟨gn, A, B, kh⟩ := z
    exact ck_kind (k := k + 2) kh ge _
  rw [v0, e198]
  show ∃ t' h' u', (b198_0 L xs zf (dM L xs zf w (k + 6)) w (some C) (some p) h0).bind dxI = some (t', h') ∧ _
  generalize hk : kNo kl ((x >>> ((4 : Int32) &&& 31)) &&& 15) = o at kd
  cases o with
  | none =>
    refine ⟨x, h, u, bsq (a := (some (.int x), h)) ?_ rfl, ZR_refl z⟩
    unfold b198_0
    exact bsq r (bsq g5 (bsq g7 (bsq (zk_0 z) (bsq (t_kd (k := k + 5) x h) (bsq kd (itq rfl rfl))))))
  | some K =>
    have hK : K ∈ kl := by
      unfold kNo at hk
      split at hk
      · cases hk
      · exact List.mem_of_getElem? hk
    obtain ⟨ac, nb', q2, _, _, _, mk, so, mn, cp, np, pty, res, tk, hm, q6, mo⟩ := ge.2.2 K hK
    have g6 : dgR L xs h 6 [9] (some K) = some (some mk) := fd_R (o := some mk) q6 (by decide)
    have hp' : pts h q0 q1 p es := by
      rcases hp with ⟨z1, z2⟩ | ⟨l, ar, cap, z1, z2, z3⟩
      · exact Or.inl ⟨nb.1 _ _ _ (by decide) z1, z2⟩
      · exact Or.inr ⟨l, ar, cap, nb.1 _ _ _ (by decide) z1, nb.2.1 _ _ _ _ z2, z3⟩
    have f9 := zk_199 (zf := zf) (w := w) (k := k + 1) z ha hp' (nb.1 _ _ _ (by decide) e1) (nb.1 _ _ _ (by decide) e3) hl at' mo hw
    have o2 : dgI L xs h 2 [11] (some mk) = some mn := fd_I mo.2.1 (by decide)
    have o12 : dgI L xs h 12 [11] (some mk) = some tk := fd_I mo.2.2.2.2.2.1 (by decide)
    have g2 : dgI L xs h 2 [9] (some K) = some ac := fd_I q2 (by decide)
    have fin : ∃ h' u', b198_86 L xs zf (dM L xs zf w (k + 6)) w (some C) x (some K) h = some (some (.int x), h') ∧ ZR L xs cx C Sc M pl ph pt vr mv ds f sl ty rc a b h u 1 h' u' := by
      by_cases c1 : mx_f1 .eq ac = true
      · obtain ⟨h', u', v1, v2⟩ := zk_emit (pl := pl) (ph := ph) (zf := zf) (w := w) (k := k + 3) z hz 6 mn
        refine ⟨h', u', ?_, v2⟩
        unfold b198_86
        refine bsq (zk_0 z) (bsq g2 (itq c1 ?_))
        unfold b198_104
        exact bsq g6 (bsq o2 (bsq v1 rfl))
      · obtain ⟨h', u', v1, v2⟩ := zk_emit (pl := pl) (ph := ph) (zf := zf) (w := w) (k := k + 3) z hz 7 mn
        refine ⟨h', u', ?_, v2⟩
        unfold b198_86
        refine bsq (zk_0 z) (bsq g2 (inq c1 ?_))
        unfold b198_104
        exact bsq g6 (bsq o2 (bsq v1 rfl))
    obtain ⟨h', u', fin, zz⟩ := fin
    refine ⟨x, h', u', bsq (a := (some (.int x), h')) ?_ rfl, zz⟩
    unfold b198_0
    refine bsq r (bsq g5 (bsq g7 (bsq (zk_0 z) (bsq (t_kd (k := k + 5) x h) (bsq kd (inq (dnl_s K) (bsq g6 (inq (dnl_s mk) (bsq g6 (bsq f9 (bsq (t_so (k := k + 5) x h) ?_)))))))))))
    dsimp only
    split
    · exact fin
    · refine bsq (t_cp (k := k + 5) x h) ?_
      have cl : ∃ r0, (dcV L xs (dM L xs zf w (k + 6)) 200 [13] (some C) [.int ((x >>> ((8 : Int32) &&& 31)) &&& 7)] h).bind dxI = some (r0, h) := by
        rw [zk_v z, e200]
        show ∃ r0, (b200_0 L xs zf (dM L xs zf w (k + 5)) w ((x >>> ((8 : Int32) &&& 31)) &&& 7) h).bind dxI = some (r0, h)
        unfold b200_0
        split
        · exact ⟨1, rfl⟩
        · split
          · exact ⟨1, rfl⟩
          · split
            · exact ⟨0, rfl⟩
            · exact ⟨1, rfl⟩
      obtain ⟨r0, cl⟩ := cl
      refine bsq cl ?_
      dsimp only
      split
      · exact fin
      · refine bsq g6 (bsq o12 ?_)
        split
        · exact fin
        · exact bsq g1 (bsq (rf _ _) fin)
end ZT
