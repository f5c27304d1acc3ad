/-! BEHIND A FAULT: links, by their sort. -/
section ZZz
variable {L : Nat} {xs : Nat → Int32} {zf : Value} {w k C Sc M pl ph K p p0 n m ke q0 q1 : Nat} {cx : Nat → Nat} {hB h h1 h2 : rm_H} {pt vr gn rc a b x y t : Int32} {mv : Value} {ds kl es : List Nat} {f : Nat → Int64} {sl ty : Nat → Int32} {u u1 u2 : Nat → Nat} {A B : Nat → Int32}
theorem zx_202 {W mi : Nat} {h' : rm_H} {t t' : Int32} (hW : (W = 10 ∧ mi = 203) ∨ (W = 11 ∧ mi = 204) ∨ (W = 12 ∧ mi = 207) ∨ (W = 13 ∧ mi = 208)) (ev : EV L xs cx C Sc M pt vr mv ds f sl ty rc a b kl hB h u) (e0 : fd hB 12 p 0 = some (.int (Int32.ofNat W))) (r1 : (dcV L xs (dM L xs zf w k) mi [13] (some C) [va_rf (some p), .int t] h).bind dxI = some (t', h')) : (dcV L xs (dM L xs zf w (k + 1)) 202 [13] (some C) [va_rf (some p), .int t] h).bind dxI = some (t', h') := by
  obtain ⟨z, _, _, nb, _⟩ := id ev
  rw [zk_v z, e202]
  show (b202_0 L xs zf (dM L xs zf w k) w (some C) (some p) t h).bind dxI = _
  refine bsq (a := (some (.int t'), h')) ?_ rfl
  unfold b202_0
  refine bsq (fd_I (nb.1 _ _ _ (by decide) e0) (by decide)) ?_
  rcases hW with ⟨e, e'⟩ | ⟨e, e'⟩ | ⟨e, e'⟩ | ⟨e, e'⟩ <;> subst e <;> subst e'
  · exact inq (by decide) (itq (by decide) (bsq r1 rfl))
  · exact inq (by decide) (inq (by decide) (itq (by decide) (bsq r1 rfl)))
  · exact inq (by decide) (inq (by decide) (inq (by decide) (itq (by decide) (bsq r1 rfl))))
  · exact itq (by decide) (bsq r1 rfl)
/-- swap, as a primary -/
theorem zx_174_7 {pf ps : Nat} {n : Nat} (e0 : fd hB 12 p 0 = some (.int 7)) (e8 : fd hB 12 p 8 = some (.ref pf)) (e9 : fd hB 12 p 9 = some (.ref ps)) (r : ∀ j h u, EV L xs cx C Sc M pt vr mv ds f sl ty rc a b kl hB h u → u 2 + n ≤ 9000 → ∃ t' h' u', (dcV L xs (dM L xs zf w (ke + j)) 186 [13] (some C) [va_rf (some pf), va_rf (some ps), .int 1] h).bind dxI = some (t', h') ∧ ZR L xs cx C Sc M pl ph pt vr mv ds f sl ty rc a b h u n h' u') : ZX L xs zf w cx C Sc M pl ph pt vr mv ds f sl ty rc a b kl hB 174 p n (ke + 1) := by
  intro j h u ev hz
  obtain ⟨t, h', u', r1, r2⟩ := r j h u ev hz
  obtain ⟨z, _, _, nb, _⟩ := id ev
  refine ⟨t, h', u', ?_, r2⟩
  rw [zk_v z, show ke + 1 + j = ke + j + 1 from by omega, e174]
  show (b174_0 L xs zf (dM L xs zf w (ke + j)) w (some C) (some p) h).bind dxI = _
  refine bsq (a := (some (.int t), h')) ?_ rfl
  unfold b174_0
  refine bsq (fd_I (nb.1 _ _ _ (by decide) e0) (by decide)) ?_
  exact inq (by decide) (inq (by decide) (inq (by decide) (inq (by decide) (inq (by decide) (inq (by decide) (inq (by decide) (itq (by decide) (bsq (fd_R (o := some pf) (nb.1 _ _ _ (by decide) e8) (by decide)) (bsq (fd_R (o := some ps) (nb.1 _ _ _ (by decide) e9) (by decide)) (bsq r1 rfl))))))))))
end ZZz
