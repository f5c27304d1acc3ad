/-! BEHIND A FAULT: primaries and links, by their sort. -/
section ZXx
variable {L : Nat} {xs : Nat → Int32} {zf : Value} {w k C Sc M pl ph K p p0 n m ke q0 q1 : Nat} {cx : Nat → Nat} {hB h h1 h2 : rm_H} {pt vr gn rc a b x y t : Int32} {mv : Value} {ds kl es : List Nat} {f : Nat → Int64} {sl ty : Nat → Int32} {u u1 u2 : Nat → Nat} {A B : Nat → Int32}
theorem zx_177 {s : Int32} (e1 : fd hB 12 p 1 = some (.int s)) : ZX L xs zf w cx C Sc M pl ph pt vr mv ds f sl ty rc a b kl hB 177 p 1 4 := by
  intro j h u ev hz
  obtain ⟨z, _, ms, nb, ha⟩ := id ev
  have := zk_177 (pl := pl) (ph := ph) (zf := zf) (w := w) (k := j) z ha (by omega) ms (nb.1 _ _ _ (by decide) e1)
  rw [show j + 4 = 4 + j from by omega] at this
  exact this
theorem zx_179 {q : Nat} {c : Int64} {spl : Int32} (e2 : fd hB 12 p 2 = some (.ref q)) (hq : nS L xs hB q c) (e3 : fd hB 12 p 3 = some (.int spl)) (hw : 200 ≤ w) : ZX L xs zf w cx C Sc M pl ph pt vr mv ds f sl ty rc a b kl hB 179 p 1 5 := by
  intro j h u ev hz
  obtain ⟨z, _, ms, nb, ha⟩ := id ev
  have := zk_179 (pl := pl) (ph := ph) (zf := zf) (w := w) (k := j) z ha (by omega) (nb.1 _ _ _ (by decide) e2) (nb.2.2.1 _ _ hq) (nb.1 _ _ _ (by decide) e3) hw
  rw [show j + 5 = 5 + j from by omega] at this
  exact this
theorem zx_184 {q : Nat} {c : Int64} {spl : Int32} (e2 : fd hB 12 p 2 = some (.ref q)) (hq : nS L xs hB q c) (e3 : fd hB 12 p 3 = some (.int spl)) (hw : 200 ≤ w) : ZX L xs zf w cx C Sc M pl ph pt vr mv ds f sl ty rc a b kl hB 184 p 1 5 := by
  intro j h u ev hz
  obtain ⟨z, _, ms, nb, ha⟩ := id ev
  have := zk_184 (pl := pl) (ph := ph) (zf := zf) (w := w) (k := j) z ha (by omega) (nb.1 _ _ _ (by decide) e2) (nb.2.2.1 _ _ hq) (nb.1 _ _ _ (by decide) e3) hw
  rw [show j + 5 = 5 + j from by omega] at this
  exact this
theorem ZX_le {mi n2 ke2 : Nat} (e : ZX L xs zf w cx C Sc M pl ph pt vr mv ds f sl ty rc a b kl hB mi p n ke) (hn : n ≤ n2) (hk : ke ≤ ke2) : ZX L xs zf w cx C Sc M pl ph pt vr mv ds f sl ty rc a b kl hB mi p n2 ke2 := by
  intro j h u ev hz
  obtain ⟨t, h', u', r1, r2⟩ := e (ke2 - ke + j) h u ev (by omega)
  rw [show ke + (ke2 - ke + j) = ke2 + j from by omega] at r1
  exact ⟨t, h', u', r1, ZR_le r2 hn⟩
/-- a primary that one method of its own checks -/
theorem zx_174 {W mi : Nat} (hW : (W = 3 ∧ mi = 177) ∨ (W = 4 ∧ mi = 179) ∨ (W = 5 ∧ mi = 184) ∨ (W = 6 ∧ mi = 185) ∨ (W = 8 ∧ mi = 198) ∨ (W = 9 ∧ mi = 201)) (e0 : fd hB 12 p 0 = some (.int (Int32.ofNat W))) (e : ZX L xs zf w cx C Sc M pl ph pt vr mv ds f sl ty rc a b kl hB mi p n ke) : ZX L xs zf w cx C Sc M pl ph pt vr mv ds f sl ty rc a b kl hB 174 p n (ke + 1) := by
  intro j h u ev hz
  obtain ⟨t, h', u', r1, r2⟩ := e j h u ev hz
  obtain ⟨z, _, _, nb, _⟩ := id ev
  refine ⟨t, h', u', ?_, r2⟩
  rw [zk_v z, show ke + 1 + j = ke + j + 1 from by omega, e174]
  show (b174_0 L xs zf (dM L xs zf w (ke + j)) w (some C) (some p) h).bind dxI = _
  refine bsq (a := (some (.int t), h')) ?_ rfl
  unfold b174_0
  refine bsq (fd_I (nb.1 _ _ _ (by decide) e0) (by decide)) ?_
  rcases hW with ⟨e, e'⟩ | ⟨e, e'⟩ | ⟨e, e'⟩ | ⟨e, e'⟩ | ⟨e, e'⟩ | ⟨e, e'⟩ <;> subst e <;> subst e'
  · exact inq (by decide) (inq (by decide) (inq (by decide) (itq (by decide) (bsq r1 rfl))))
  · exact inq (by decide) (inq (by decide) (inq (by decide) (inq (by decide) (itq (by decide) (bsq r1 rfl)))))
  · exact inq (by decide) (inq (by decide) (inq (by decide) (inq (by decide) (inq (by decide) (itq (by decide) (bsq r1 rfl))))))
  · exact inq (by decide) (inq (by decide) (inq (by decide) (inq (by decide) (inq (by decide) (inq (by decide) (itq (by decide) (bsq r1 rfl)))))))
  · exact inq (by decide) (inq (by decide) (inq (by decide) (inq (by decide) (inq (by decide) (inq (by decide) (inq (by decide) (inq (by decide) (itq (by decide) (bsq r1 rfl)))))))))
  · exact itq (by decide) (bsq r1 rfl)
/-- a number, or none -/
theorem zx_174_12 {W : Nat} {nv : Int32} (hW : W = 1 ∨ W = 2) (e0 : fd hB 12 p 0 = some (.int (Int32.ofNat W))) (e4 : W = 1 → fd hB 12 p 4 = some (.int nv)) : ZX L xs zf w cx C Sc M pl ph pt vr mv ds f sl ty rc a b kl hB 174 p 1 4 := by
  intro j h u ev hz
  obtain ⟨z, _, _, nb, _⟩ := id ev
  have g0 := fd_I (L := L) (xs := xs) (cis := [12]) (nb.1 _ _ _ (by decide) e0) (by decide)
  rcases hW with e | e
  · subst e
    obtain ⟨h', u', m1, m2⟩ := zk_emit (pl := pl) (ph := ph) (zf := zf) (w := w) (k := j) z (by omega) 0 nv
    refine ⟨1, h', u', ?_, m2⟩
    rw [zk_v z, show 4 + j = j + 3 + 1 from by omega, e174]
    show (b174_0 L xs zf (dM L xs zf w (j + 3)) w (some C) (some p) h).bind dxI = _
    refine bsq (a := (some (.int 1), h')) ?_ rfl
    unfold b174_0
    exact bsq g0 (inq (by decide) (itq (by decide) (bsq (zk_0 z) (bsq (fd_I (nb.1 _ _ _ (by decide) (e4 rfl)) (by decide)) (bsq m1 rfl)))))
  · subst e
    obtain ⟨h', u', m1, m2⟩ := zk_emit (pl := pl) (ph := ph) (zf := zf) (w := w) (k := j) z (by omega) 0 0
    refine ⟨2, h', u', ?_, m2⟩
    rw [zk_v z, show 4 + j = j + 3 + 1 from by omega, e174]
    show (b174_0 L xs zf (dM L xs zf w (j + 3)) w (some C) (some p) h).bind dxI = _
    refine bsq (a := (some (.int 2), h')) ?_ rfl
    unfold b174_0
    exact bsq g0 (inq (by decide) (inq (by decide) (itq (by decide) (bsq (zk_0 z) (bsq m1 rfl)))))
end ZXx
