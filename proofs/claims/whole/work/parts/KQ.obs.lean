/-! THE CALLS THAT CHANGE NOTHING, BY BOTH. -/
section OB1
variable {L : Nat} {xs : Nat → Int32} {zf : Value} {w k j : Nat} {h h1 h2 : rm_H} {s s' sB : rS} {bp cd : Option Nat} {fn fp : Int32} {b0 n0 m0 b m n P : Nat} {cdv : Value} {sg : cS} {Z Zy : Nat → Prop} {y : Nat}
theorem RH_up (r : RH cdv n sg (Zr n sg) h h) (e : ∀ y, Zr n sg y → Zy y) : RH cdv n sg Zy h h := ⟨fr_refl _ _, fun x hx => ⟨(r.2.1 x hx).1, Or.inl (e _ ⟨x, hx, rfl⟩)⟩, r.2.2.1, r.2.2.2⟩
theorem iZ_21 (hz : ∀ y, Zr n sg y → (24 ≤ y ∧ y < 30) ∨ 115 ≤ y) (hb0 : b0 = 23 ∨ 115 ≤ b0) (hb : b = 32 ∨ 115 ≤ b) : ¬ Zb (zX b0 n sg) b 21 := fun z => by
  rcases z with (z | z | z | z) | z | z
  · have := hz _ z
    omega
  · omega
  · omega
  · omega
  · omega
  · omega
theorem ob_fault (x : Int32) : lw_ob L xs zf w (k + 400) (iNV L xs) 218 370 [.int x] := ob_same (fun j h s y => by
  obtain ⟨bp, fn, fp, b0, n0, m0, b, m, cd, n, sg, ⟨⟨ml0, f0, t1, _⟩, hF, _⟩, _⟩ := y
  exact ez_fault (k := k + 399) t1.1 hF x)
theorem ob_rights (x y z : Int32) : lw_ob L xs zf w (k + 400) (iNV L xs) 221 289 [.int x, .int y, .int z] := ob_same (fun j h s _ => ez_rights (k := k + 398) x y z)
theorem ob_world (x : Int32) : lw_ob L xs zf w (k + 400) (iNV L xs) 267 402 [.int x] := ob_same (fun j h s y => by
  obtain ⟨bp, fn, fp, b0, n0, m0, b, m, cd, n, sg, ⟨⟨ml0, f0, t1, _⟩, _, _, _, _, _, ⟨w1, _, _, w4⟩, rn⟩, _⟩ := y
  exact ez_world (k := k + 399) t1.1 (iNV_W w1) (iNV_N w4 rn) x)
theorem ob_told (x z : Int32) : lw_ob L xs zf w (k + 400) (iNV L xs) 269 404 [.int x, .int z] := ob_same (fun j h s y => by
  obtain ⟨bp, fn, fp, b0, n0, m0, b, m, cd, n, sg, ⟨⟨ml0, f0, t1, _⟩, _, _, _, _, _, ⟨w1, _, _, w4⟩, rn⟩, _⟩ := y
  exact ez_told (k := k + 399) t1.1 (iNV_W w1) (iNV_N w4 rn) (iNV_T w1 rn) x z)
theorem ob_letter (x : Int32) : lw_ob L xs zf w (k + 400) (iNV L xs) 282 413 [.int x] := ob_same (fun j h s y => by
  obtain ⟨bp, fn, fp, b0, n0, m0, b, m, cd, n, sg, ⟨⟨ml0, f0, t1, _⟩, _, _, _, ⟨c, st, dep, mk, sa, sc, sn, ⟨h30, _, _, _, _, n', ml', f', hS, hl⟩, _⟩, _⟩, _⟩ := y
  have e30 : iO h (Int32.ofNat c) st dep := by
    unfold hc at h30
    rw [if_pos (by decide)] at h30
    exact h30
  obtain ⟨v2, e5, e6⟩ := ez_letter (L := L) (xs := xs) (zf := zf) (w := w) (k := k + 394) t1.1 e30 hS hl x
  have g0 : ∀ E E' : rE, g413 E w [.ref 36, .int x] s = g413 E' w [.ref 36, .int x] s := fun _ _ => rfl
  have e7 : rM w (k + 399 + 1) 413 [.ref 36, .int x] s = rM w (k + 394 + 1) 413 [.ref 36, .int x] s := by rw [y413, y413]; exact g0 _ _
  exact ⟨v2, e5, e7.trans e6⟩)
theorem ob_prog (hw : 200 ≤ w) (x : Int32) : lw_ob L xs zf w (k + 400) (iNV L xs) 219 371 [.int x] := ob_same (fun j h s y => by
  obtain ⟨bp, fn, fp, b0, n0, m0, b, m, cd, n, sg, ⟨t, _, _, _, _, _, _, rn⟩, _⟩ := y
  have h21 := iNV_21 t
  rcases rn with ⟨rfl, s73, _⟩ | ⟨P, sB, A, B, mi, kc, es, sz, kk, mm, rfl, s73, fx, fi, st, _⟩
  · obtain ⟨e1, e2⟩ := b_prog0 (L := L) (xs := xs) (zf := zf) (w := w) (k := k + 399) h21 rfl s73 x
    exact ⟨-1, e1, e2⟩
  · obtain ⟨_, _, _, _, _, _, _, ⟨x9, x10, ar, cap, ar2, cap2, kl, ml, vs, F, a1, a2, a3, a4, a5, a6, a7, a8, a9, a10, a11, a12, a13, _⟩, _⟩ := st
    obtain ⟨v, e1, e2⟩ := b_prog (L := L) (xs := xs) (zf := zf) (w := w) (k := k + 395) h21 rfl a1 a2 a3 a4 a5 a6 a7 a8 a9 (fun i K hK => by
      obtain ⟨fl, af, cf, fs, gs, g1, g2, g3, g4, _⟩ := a10 i K hK
      exact ⟨fl, af, cf, fs, by rw [fd_of g1]; exact g2, g3, g4⟩) hw s73 (by rw [fi 32 (by omega)]; exact a11) (by rw [fi 42 (by omega)]; exact a12) (by rw [fi 38 (by omega)]; exact a13) (fi 24 (by omega)) (fi 25 (by omega)) x
    have g0 : ∀ E E' : rE, g371 E w [.ref 36, .int x] s = g371 E' w [.ref 36, .int x] s := fun _ _ => rfl
    have e7 : rM w (k + 399 + 1) 371 [.ref 36, .int x] s = rM w (k + 395 + 1) 371 [.ref 36, .int x] s := by rw [y371, y371]; exact g0 _ _
    exact ⟨v, e1, e7.trans e2⟩)
theorem ob_actor (x z : Int32) : lw_ob L xs zf w (k + 400) (iNV L xs) 268 403 [.int x, .int z] := ob_same (fun j h s y => by
  obtain ⟨bp, fn, fp, b0, n0, m0, b, m, cd, n, sg, ⟨t, _, _, _, ⟨_, _, _, _, _, _, _, _, _, _, o4, _⟩, _, ⟨w1, w2, _, w4⟩, rn⟩, _⟩ := y
  have h21 := iNV_21 t
  obtain ⟨ml0, f0, t1, _⟩ := t
  have no : s.1 74 = 0 → ∃ v : Int32, dM L xs zf w (k + 400) 268 [.ref 21, .int x, .int z] h = some (some (.int v), h) ∧ rM w (k + 400) 403 [.ref 36, .int x, .int z] s = some (some (.int v), s) := fun z74 => by
    have hW := RH_wd (x := 0) w1 (by decide)
    obtain ⟨e1, e2⟩ := n_actor (L := L) (xs := xs) (zf := zf) (w := w) (k := k + 398) (k2 := k + 398) h21 rfl hW (by show some (Value.int (sg.1 8)) = _; rw [w4 z74 8 (by decide) (by decide)]) z74 x z
    exact ⟨-1, e1, e2⟩
  rcases rn with ⟨_, _, z74⟩ | ⟨P, sB, A, B, mi, kc, es, sz, kk, mm, _, _, _, _, st, z74 | ⟨_, ecd, om, ka, la, ms, N, cn, D, x', hn, _, ru⟩⟩
  · exact no z74
  · exact no z74
  · obtain ⟨_, _, _, kba, _⟩ := st
    rw [ecd] at w1
    obtain ⟨v, e1, e2⟩ := b_actor (L := L) (xs := xs) (zf := zf) (w := w) (k := k + 398) (k2 := k + 398) kba ⟨_, h21, rfl, iZ_21 w2 t1.2.2.1 o4⟩ (RH_up w1 (fun y hy => Or.inl (Or.inl hy))) hn ru x z
    exact ⟨v, e1, e2⟩)
end OB1
