/-! BEHIND A FAULT: a field is given a value; put; recover. -/
section ZV
variable {L : Nat} {xs : Nat → Int32} {zf : Value} {w k C Sc M pl ph K p p0 n m ke q0 q1 : Nat} {cx : Nat → Nat} {hB h h1 h2 : rm_H} {pt vr gn rc a b x y t : Int32} {mv : Value} {ds kl es : List Nat} {f : Nat → Int64} {sl ty : Nat → Int32} {u u1 u2 : Nat → Nat} {A B : Nat → Int32}
/-- what is ahead of the dot is a premise -/
theorem zx_191 {q pa ps : Nat} {c : Int64} {spl s1 s2 : Int32} (IH : ZX L xs zf w cx C Sc M pl ph pt vr mv ds f sl ty rc a b kl hB 172 pa n ke) (e6 : fd hB 12 p 6 = some (.ref pa)) (ea : fd hB 12 pa 1 = some (.int s1)) (e2 : fd hB 12 p 2 = some (.ref q)) (hq : nS L xs hB q c) (e3 : fd hB 12 p 3 = some (.int spl)) (es1 : fd hB 12 ps 1 = some (.int s2)) (hk : 6 ≤ ke) (hw : 200 ≤ w) (j : Nat) (ev : EV L xs cx C Sc M pt vr mv ds f sl ty rc a b kl hB h u) (hz : u 2 + (n + 1) ≤ 9000) (t sw : Int32) : ∃ t' h' u', (dcV L xs (dM L xs zf w (ke + 1 + j)) 191 [13] (some C) [va_rf (some p), va_rf (some ps), .int t, .int sw] h).bind dxI = some (t', h') ∧ ZR L xs cx C Sc M pl ph pt vr mv ds f sl ty rc a b h u (n + 1) h' u' := by
  obtain ⟨k', rfl⟩ : ∃ k', ke = k' + 6 := ⟨ke - 6, by omega⟩
  obtain ⟨ta, h1, u1, r1, r2⟩ := IH j h u ev (by omega)
  have ev1 := EV_s ev r2
  obtain ⟨z1, ge1, _, nb1, ha⟩ := id ev1
  have nb := ev.2.2.2.1
  have u12 : u1 2 ≤ u 2 + n := r2.2.2.2.2
  generalize hkk : k' + 6 + j = kk at r1
  have kk6 : kk = (k' + j) + 6 := by omega
  have rf : ∀ x y, (dcV L xs (dM L xs zf w kk) 178 [13] (some C) [.int x, .int y] h1).bind dxV = some h1 := fun x y => by
    rw [kk6]
    exact zk_ref (k := k' + j + 5) z1 ha x y
  obtain ⟨o, o1, o2⟩ := zk_192 (zf := zf) (w := w) (k := k' + j) z1 ha ge1 (nb1.1 _ _ _ (by decide) e6) (nb1.1 _ _ _ (by decide) ea) (nb1.1 _ _ _ (by decide) e2) (nb1.2.2.1 _ _ hq) (nb1.1 _ _ _ (by decide) e3) ta hw
  rw [← kk6] at o1
  have g3 : dgI L xs h1 3 [12] (some p) = some spl := fd_I (nb1.1 _ _ _ (by decide) e3) (by decide)
  have wrap : ∀ t' h', b191_0 L xs zf (dM L xs zf w kk) w (some C) (some p) (some ps) t sw h = some (some (.int t'), h') → (dcV L xs (dM L xs zf w (k' + 6 + 1 + j)) 191 [13] (some C) [va_rf (some p), va_rf (some ps), .int t, .int sw] h).bind dxI = some (t', h') := by
    intro t' h' e
    rw [zk_v ev.1, show k' + 6 + 1 + j = kk + 1 from by omega, e191]
    show (b191_0 L xs zf (dM L xs zf w kk) w (some C) (some p) (some ps) t sw h).bind dxI = _
    rw [e]
    rfl
  have g6 : dgR L xs h 6 [12] (some p) = some (some pa) := fd_R (o := some pa) (nb.1 _ _ _ (by decide) e6) (by decide)
  cases o with
  | none =>
    refine ⟨2, h1, u1, wrap _ _ ?_, ZR_le r2 (by omega)⟩
    unfold b191_0
    exact bsq g6 (bsq r1 (bsq o1 (itq rfl rfl)))
  | some d =>
    obtain ⟨c0, s0, x0, ed⟩ := o2 d rfl
    obtain ⟨gn, A, B, kh⟩ := id z1
    have so : (dM L xs zf w kk 159 [.int t] h1).bind dxI = some (t &&& 15, h1) := by rw [kk6]; exact t_so (k := k' + j + 5) t h1
    have cp : ∀ t, (dM L xs zf w kk 160 [.int t] h1).bind dxI = some ((t >>> ((8 : Int32) &&& 31)) &&& 7, h1) := fun t => by rw [kk6]; exact t_cp (k := k' + j + 5) t h1
    generalize hi7 : (ta >>> ((8 : Int32) &&& 31)) &&& 7 = i7
    have slb : (dcV L xs (dM L xs zf w kk) 196 [13] (some C) [.int ta, va_rf (some d)] h1).bind dxI = some (slB ta s0, h1) := by rw [kk6]; exact ck_slB (k := k' + j + 4) z1 ed ta
    have fit : (dcV L xs (dM L xs zf w kk) 188 [13] (some C) [va_rf (some ps), .int t, .int x0] h1).bind dxV = some h1 := by rw [kk6]; exact zk_188 (k := k' + j + 3) z1 ha (nb1.1 _ _ _ (by decide) es1) t x0
    have g7 : dgI L xs h1 7 [10] (some d) = some x0 := fd_I ed.2.2 (by decide)
    have f100 : ∃ t' h' u', b191_100 L xs zf (dM L xs zf w kk) w (some C) (some p) sw ta (some d) i7 h1 = some (some (.int t'), h') ∧ ZR L xs cx C Sc M pl ph pt vr mv ds f sl ty rc a b h1 u1 1 h' u' := by
      have f116 : ∀ op, ∃ t' h' u', b191_116 L xs zf (dM L xs zf w kk) w (some C) (some p) sw ta (some d) i7 op (some (cx 8)) h1 = some (some (.int t'), h') ∧ ZR L xs cx C Sc M pl ph pt vr mv ds f sl ty rc a b h1 u1 1 h' u' := by
        intro op
        obtain ⟨h', u', m1, m2⟩ := zk_emit (pl := pl) (ph := ph) (zf := zf) (w := w) (k := k' + j + 3) z1 (by omega) op (slB ta s0)
        rw [show k' + j + 3 + 3 = kk from by omega] at m1
        have ev2 := EV_s ev1 m2
        have rf2 : ∀ x y, (dcV L xs (dM L xs zf w kk) 178 [13] (some C) [.int x, .int y] h').bind dxV = some h' := fun x y => by
          rw [kk6]
          exact zk_ref (k := k' + j + 5) ev2.1 ha x y
        have g7' : dgI L xs h' 7 [10] (some d) = some x0 := fd_I (wF_dSn kh m2.2.1 ed).2.2 (by decide)
        have bh : (dM L xs zf w kk 197 [va_rf (some 3), .int i7, .int x0] h').bind dxI = some (bhC 3 i7 x0, h') := by rw [kk6]; exact t_bh (k := k' + j + 4) (q := 3) (by decide) i7 x0 h'
        have g3' : dgI L xs h' 3 [12] (some p) = some spl := fd_I (ev2.2.2.2.1.1 _ _ _ (by decide) e3) (by decide)
        have hd' : ∀ r, (if mx_f2 .ne (bhC 3 i7 x0) (-1) = true then drI (some .int) (bhC 3 i7 x0) h' else if mx_f1 .eq sw = true then b191_164 L xs zf (dM L xs zf w kk) w h' else (dgI L xs h' 3 [12] (some p)).bind fun x24 => ((dcV L xs (dM L xs zf w kk) 178 [13] (some C) [.int 6, .int x24] h').bind dxV).bind fun h26 => b191_164 L xs zf (dM L xs zf w kk) w h26) = r → b191_116 L xs zf (dM L xs zf w kk) w (some C) (some p) sw ta (some d) i7 op (some (cx 8)) h1 = r := by
          intro r er
          unfold b191_116
          exact bsq slb (bsq m1 (bsq g7' (bsq bh er)))
        by_cases c1 : mx_f2 .ne (bhC 3 i7 x0) (-1) = true
        · exact ⟨bhC 3 i7 x0, h', u', hd' _ (itq c1 rfl), m2⟩
        · by_cases c2 : mx_f1 .eq sw = true
          · exact ⟨2, h', u', hd' _ (inq c1 (itq c2 rfl)), m2⟩
          · exact ⟨2, h', u', hd' _ (inq c1 (inq c2 (bsq g3' (bsq (rf2 _ _) rfl)))), m2⟩
      by_cases c1 : mx_f1 .eq sw = true
      · obtain ⟨t', h', u', m1, m2⟩ := f116 12
        refine ⟨t', h', u', ?_, m2⟩
        unfold b191_100
        exact bsq (zk_0 z1) (itq c1 m1)
      · obtain ⟨t', h', u', m1, m2⟩ := f116 10
        refine ⟨t', h', u', ?_, m2⟩
        unfold b191_100
        exact bsq (zk_0 z1) (inq c1 m1)
    obtain ⟨t', h', u', f100, zz⟩ := f100
    have f55 : b191_55 L xs zf (dM L xs zf w kk) w (some C) (some p) (some ps) t sw ta (some d) i7 h1 = some (some (.int t'), h') := by
      unfold b191_55
      refine bsq g7 (bsq fit (bsq so ?_))
      dsimp only
      split
      · exact f100
      · have lk : (dM L xs zf w kk 190 [va_rf (some 2), .int i7, .int ((t >>> ((8 : Int32) &&& 31)) &&& 7)] h1).bind dxI = some (lkV 2 i7 ((t >>> ((8 : Int32) &&& 31)) &&& 7), h1) := by rw [kk6]; exact lk_tb (k := k' + j + 5) (q := 2) (by decide) _ _ h1
        refine bsq (cp t) (bsq lk ?_)
        dsimp only
        split
        · exact f100
        · exact bsq (fd_I (nb1.1 _ _ _ (by decide) es1) (by decide)) (bsq (rf _ _) f100)
    have f45 : b191_45 L xs zf (dM L xs zf w kk) w (some C) (some p) (some ps) t sw ta (some d) i7 h1 = some (some (.int t'), h') := by
      unfold b191_45
      exact bsq g3 (bsq (rf _ _) f55)
    refine ⟨t', h', u', wrap _ _ ?_, ZR_trans r2 zz⟩
    unfold b191_0
    refine bsq g6 (bsq r1 (bsq o1 (inq (dnl_s d) (bsq (cp ta) ?_))))
    dsimp only
    rw [hi7]
    split
    · exact f45
    · split
      · exact f55
      · exact f45
end ZV
