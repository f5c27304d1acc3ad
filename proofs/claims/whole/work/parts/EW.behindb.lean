/-! BEHIND A FAULT: put, recover. -/
section ZW
variable {L : Nat} {xs : Nat → Int32} {zf : Value} {w k C Sc M pl ph K p p0 n m ke q0 q1 : Nat} {cx : Nat → Nat} {hB h h1 h2 : rm_H} {pt vr gn rc a b x y t : Int32} {mv : Value} {ds kl es : List Nat} {f : Nat → Int64} {sl ty : Nat → Int32} {u u1 u2 : Nat → Nat} {A B : Nat → Int32}
/-- what is put is a premise, and what is ahead of a field -/
theorem zx_186 {ps : Nat} {w0 s s2 : Int32} {n2 : Nat} (IH : ZX L xs zf w cx C Sc M pl ph pt vr mv ds f sl ty rc a b kl hB 171 ps n ke) (e0 : fd hB 12 p 0 = some (.int w0)) (e1 : fd hB 12 p 1 = some (.int s)) (es1 : fd hB 12 ps 1 = some (.int s2)) (nm : w0 = 4 ∨ w0 = 10 → ∃ q c spl, fd hB 12 p 2 = some (.ref q) ∧ nS L xs hB q c ∧ fd hB 12 p 3 = some (.int spl)) (fl : w0 = 10 → ∃ pa s1, fd hB 12 p 6 = some (.ref pa) ∧ fd hB 12 pa 1 = some (.int s1) ∧ ZX L xs zf w cx C Sc M pl ph pt vr mv ds f sl ty rc a b kl hB 172 pa n2 (ke - 1)) (hk : 7 ≤ ke) (hw : 200 ≤ w) (j : Nat) (ev : EV L xs cx C Sc M pt vr mv ds f sl ty rc a b kl hB h u) (hz : u 2 + (n + (n2 + 1)) ≤ 9000) (sw : Int32) : ∃ t' h' u', (dcV L xs (dM L xs zf w (ke + 1 + j)) 186 [13] (some C) [va_rf (some p), va_rf (some ps), .int sw] h).bind dxI = some (t', h') ∧ ZR L xs cx C Sc M pl ph pt vr mv ds f sl ty rc a b h u (n + (n2 + 1)) h' u' := by
  obtain ⟨tv, h1, u1, r1, r2⟩ := IH j h u ev (by omega)
  have ev1 := EV_s ev r2
  obtain ⟨z1, _, _, nb1, ha⟩ := id ev1
  have u12 : u1 2 ≤ u 2 + n := r2.2.2.2.2
  have g0 : dgI L xs h1 0 [12] (some p) = some w0 := fd_I (nb1.1 _ _ _ (by decide) e0) (by decide)
  have wrap : ∀ t' h', b186_0 L xs zf (dM L xs zf w (ke + j)) w (some C) (some p) (some ps) sw h = some (some (.int t'), h') → (dcV L xs (dM L xs zf w (ke + 1 + j)) 186 [13] (some C) [va_rf (some p), va_rf (some ps), .int sw] h).bind dxI = some (t', h') := by
    intro t' h' e
    rw [zk_v ev.1, show ke + 1 + j = ke + j + 1 from by omega, e186]
    show (b186_0 L xs zf (dM L xs zf w (ke + j)) w (some C) (some p) (some ps) sw h).bind dxI = _
    rw [e]
    rfl
  by_cases c4 : w0 = 4
  · obtain ⟨q, c, spl, y1, y2, y3⟩ := nm (Or.inl c4)
    obtain ⟨t', h', u', m1, m2⟩ := zk_187 (pl := pl) (ph := ph) (zf := zf) (w := w) (k := ke + j - 5) ev1 (by omega) y1 y2 y3 es1 tv sw hw
    rw [show ke + j - 5 + 5 = ke + j from by omega] at m1
    refine ⟨t', h', u', wrap _ _ ?_, ZR_le (ZR_trans r2 m2) (by omega)⟩
    unfold b186_0
    exact bsq r1 (bsq g0 (inq (by rw [c4]; decide) (bsq m1 rfl)))
  · have n4 : mx_f2 .ne w0 4 = true := by rw [f2_ne]; exact decide_eq_true c4
    by_cases c10 : w0 = 10
    · obtain ⟨q, c, spl, y1, y2, y3⟩ := nm (Or.inr c10)
      obtain ⟨pa, s1, y4, y5, y6⟩ := fl c10
      obtain ⟨t', h', u', m1, m2⟩ := zx_191 (pl := pl) (ph := ph) y6 y4 y5 y1 y2 y3 es1 (by omega) hw j ev1 (by omega) tv sw
      rw [show ke - 1 + 1 + j = ke + j from by omega] at m1
      refine ⟨t', h', u', wrap _ _ ?_, ZR_trans r2 m2⟩
      unfold b186_0
      exact bsq r1 (bsq g0 (itq n4 (bsq g0 (inq (by rw [c10]; decide) (bsq m1 rfl)))))
    · have rf := fun x y => zk_ref (zf := zf) (w := w) (k := ke + j - 1) z1 ha x y
      rw [show ke + j - 1 + 1 = ke + j from by omega] at rf
      refine ⟨2, h1, u1, wrap _ _ ?_, ZR_le r2 (by omega)⟩
      unfold b186_0
      exact bsq r1 (bsq g0 (itq n4 (bsq g0 (itq (by rw [f2_ne]; exact decide_eq_true c10) (bsq (fd_I (nb1.1 _ _ _ (by decide) e1) (by decide)) (bsq (rf _ _) rfl))))))
theorem gu_gu {i v v2 : Nat} : gu (gu u i v) i v2 = gu u i v2 := by
  funext j
  unfold gu
  by_cases z : j = i
  · simp [z]
  · simp [z]
/-- recover: its block is not walked -/
theorem zx_201 {pb : Nat} {s1 s3 : Int32} (ev : EV L xs cx C Sc M pt vr mv ds f sl ty rc a b kl hB h u) (e8 : fd hB 12 p 8 = some (.ref pb)) (hp : pts hB q0 q1 pb es) (hl : es.length ≤ 2000) (fa : ∀ e0 ∈ es, ∃ s w0, fd hB 12 e0 1 = some (.int s) ∧ fd hB 12 e0 0 = some (.int w0)) (e1 : fd hB 12 pb 1 = some (.int s1)) (e3 : fd hB 12 pb 3 = some (.int s3)) (hrc : rc = 0 ∨ rc = 1) (hw : 200 ≤ w) : ∃ t' h', (dcV L xs (dM L xs zf w (k + 6)) 201 [13] (some C) [va_rf (some p)] h).bind dxI = some (t', h') ∧ ZR L xs cx C Sc M pl ph pt vr mv ds f sl ty rc a b h u 0 h' u := by
  obtain ⟨z, ge, ms, nb, ha⟩ := id ev
  obtain ⟨gn, A, B, kh⟩ := id z
  have o14 := kh.2.2.2.2.2.2.2.2.2
  obtain ⟨hA, a1, a2, a3⟩ := pF_ex (v := .int (Int32.ofNat ds.length)) (j := 5) (cis := [13]) kh.1 rfl (by decide) rfl (by decide)
  obtain ⟨kA1, kA2, kA3⟩ := KH_C (pl := pl) (ph := ph) (ds' := ds) (gn' := gn) (rc' := rc) (ou' := ds.length) kh a3 a2 (fun _ _ => rfl) (Nat.le_refl _) (Nat.le_refl _)
  obtain ⟨hB', b1, b2, b3⟩ := pF_ex (v := .int 1) (j := 6) (cis := [13]) kA1.1 rfl (by decide) rfl (by decide)
  obtain ⟨kB1, kB2, kB3⟩ := KH_C (pl := pl) (ph := ph) (ds' := ds) (gn' := gn) (rc' := 1) (ou' := ds.length) kA1 b3 b2 (fun _ _ => rfl) (Nat.le_refl _) (Nat.le_refl _)
  rw [gu_gu] at kB1 kB3
  have lA : hA.length = h.length := a3.2.1
  have wfB := wF_trans kA2 kA3 kB2
  have wkB := wK2_trans kA3 kB3 (by omega)
  have evB : EV L xs cx C Sc M pt vr mv ds f sl ty 1 a b kl hB hB' (gu u 0 ds.length) := by
    refine ⟨⟨gn, A, B, kB1⟩, GE_w kh wfB ge, ?_, nbH_w z wfB nb, ha⟩
    obtain ⟨K, ac, nb', cp, q1, q2, q3, q4⟩ := ms
    exact ⟨K, ac, nb', cp, wF_f kh wfB (by decide) q1, wF_f kh wfB (by decide) q2, wF_f kh wfB (by decide) q3, wF_f kh wfB (by decide) q4⟩
  obtain ⟨t0, hC, c1, c2⟩ := zk_166 (pl := pl) (ph := ph) (zf := zf) (w := w) (k := k) evB hp hl fa e1 e3 20 hw
  obtain ⟨⟨gn2, A2, B2, kC⟩, wfC, wkC, _⟩ := id c2
  obtain ⟨hD, d1, d2, d3⟩ := pF_ex (v := .int (Int32.ofNat (u 0))) (j := 5) (cis := [13]) kC.1 rfl (by decide) rfl (by decide)
  obtain ⟨kD1, kD2, kD3⟩ := KH_C (pl := pl) (ph := ph) (ds' := ds) (gn' := gn2) (rc' := 1) (ou' := u 0) kC d3 d2 (fun _ _ => rfl) (Nat.le_refl _) o14
  rw [gu_gu, gu_0] at kD1 kD3
  obtain ⟨hE, f1, f2, f3⟩ := pF_ex (v := .int rc) (j := 6) (cis := [13]) kD1.1 rfl (by decide) (by rcases hrc with e | e <;> rw [e] <;> rfl) (by decide)
  obtain ⟨kE1, kE2, kE3⟩ := KH_C (pl := pl) (ph := ph) (ds' := ds) (gn' := gn2) (rc' := rc) (ou' := u 0) kD1 f3 f2 (fun _ _ => rfl) (Nat.le_refl _) o14
  rw [gu_0] at kE1 kE3
  have lB : hB'.length = h.length := b3.2.1.trans lA
  have lC := wfC.1.1
  have lD : hD.length = hC.length := d3.2.1
  have w1 := wF_trans wfB wkB wfC
  have k1 := wK2_trans wkB wkC (by omega)
  have w2 := wF_trans w1 k1 kD2
  have k2 := wK2_trans k1 kD3 (by omega)
  have w3 := wF_trans w2 k2 kE2
  have k3 := wK2_trans k2 kE3 (by omega)
  have so : (dM L xs zf w (k + 5) 159 [.int t0] hE).bind dxI = some (t0 &&& 15, hE) := t_so (k := k + 4) t0 hE
  have cp : (dM L xs zf w (k + 5) 160 [.int t0] hE).bind dxI = some ((t0 >>> ((8 : Int32) &&& 31)) &&& 7, hE) := t_cp (k := k + 4) t0 hE
  have kd : (dM L xs zf w (k + 5) 189 [.int t0] hE).bind dxI = some ((t0 >>> ((4 : Int32) &&& 31)) &&& 15, hE) := t_kd (k := k + 4) t0 hE
  have f80 : ∀ s0, ∃ t', b201_80 L xs zf (dM L xs zf w (k + 5)) w t0 s0 hE = some (some (.int t'), hE) := by
    intro s0
    unfold b201_80
    rw [kd, Option.bind_some]
    dsimp only
    split
    · exact ⟨_, by unfold b201_98; exact bsq (t_of (k := k + 4) _ _ _ hE) rfl⟩
    · exact ⟨_, by unfold b201_98; exact bsq (t_of (k := k + 4) _ _ _ hE) rfl⟩
  have tail : ∃ t', (if mx_f2 .eq (t0 &&& 15) 5 = true then ((dM L xs zf w (k + 5) 160 [.int t0] hE).bind dxI).bind fun x38 => if mx_f2 .eq x38.1 3 = true then b201_79 L xs zf (dM L xs zf w (k + 5)) w t0 x38.2 else ((dM L xs zf w (k + 5) 160 [.int t0] x38.2).bind dxI).bind fun x43 => if mx_f2 .eq x43.1 4 = true then b201_79 L xs zf (dM L xs zf w (k + 5)) w t0 x43.2 else b201_80 L xs zf (dM L xs zf w (k + 5)) w t0 1 x43.2 else drI (some .int) t0 hE) = some (some (.int t'), hE) := by
    split
    · rw [cp, Option.bind_some]
      dsimp only
      split
      · exact f80 0
      · rw [cp, Option.bind_some]
        dsimp only
        split
        · exact f80 0
        · exact f80 1
    · exact ⟨t0, rfl⟩
  obtain ⟨t', tail⟩ := tail
  refine ⟨t', hE, ?_, ⟨gn2, A2, B2, kE1⟩, w3, k3, rfl, by omega⟩
  rw [zk_v z, e201]
  show (b201_0 L xs zf (dM L xs zf w (k + 5)) w (some C) (some p) h).bind dxI = _
  refine bsq (a := (some (.int t'), hE)) ?_ rfl
  unfold b201_0
  exact bsq (ck_5 kh) (bsq (ck_6 kh) (bsq (ck_3 kh) (bsq a1 (bsq b1 (bsq (fd_R (o := some pb) (evB.2.2.2.1.1 _ _ _ (by decide) e8) (by decide)) (bsq c1 (bsq d1 (bsq f1 (bsq so tail)))))))))
end ZW
