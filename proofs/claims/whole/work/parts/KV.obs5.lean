/-! START, OVER THE INVARIANT. -/
section OB5
variable {L : Nat} {xs : Nat → Int32} {zf : Value} {w k : Nat}
theorem ob_start (hw : 2000 ≤ w) (i1 i2 : Int32) : lw_ob L xs zf w (k + 400) (iNV L xs) 222 372 [.int i1, .int i2] := by
  intro j h s hj y r
  have y0 := y
  obtain ⟨bp, fn, fp, b0, n0, m0, b, m, cd, n, sg, ial, bu⟩ := y
  obtain ⟨t, a2, a3, a4, ⟨c, st, dep, mk, sa, sc, sn, o1, o2, o3, o4, o5⟩, a6, ⟨w1, w2, w3, w4⟩, rn⟩ := id ial
  have h21 := iNV_21 t
  obtain ⟨ml0, f0, t1, t2, t3, t4, t5⟩ := id t
  have h94 := t1.2.2.2
  have hb0 := t1.2.2.1
  rcases rn with ⟨ebp, s73, z74⟩ | ⟨P, sB, A, B, mi, kc, es, sz, kk, mm, ebp, s73, fx, fi, st', _⟩
  · subst ebp
    obtain ⟨e1, e2⟩ := n_start (L := L) (xs := xs) (zf := zf) (w := w) (k := k + 399) (k2 := k + 399) h21 rfl s73 i1 i2
    exact ⟨0, h, s, e1, r, e2, fun h2 r2 f2 => iNV_F f2 r2 (iNV_j y0)⟩
  subst ebp
  obtain ⟨h30, h33, h34, h35, s111, nt, mlt, ft, hS, hl⟩ := id o1
  have zs : ∀ y, (Zr n sg y ∨ y = 30 ∨ y = 31) → Zb (zX b0 n sg) b y := fun y z => by
    rcases z with z | z | z
    · exact Or.inl (Or.inl z)
    · exact Or.inr (Or.inl (by omega))
    · exact Or.inr (Or.inl (by omega))
  have n30 : ¬ Zr n sg 30 := fun z => by have := w2 _ z; omega
  have n31 : ¬ Zr n sg 31 := fun z => by have := w2 _ z; omega
  have stS := stQ_m (Z2 := fun y => Zr n sg y ∨ y = 30 ∨ y = 31) (fun z => by
    rcases z with z | z | z
    · have := w2 _ z; omega
    · omega
    · omega) (fun y c e nz => ⟨e, fun z => nz (zs y z)⟩) st'
  obtain ⟨_, q2, _, _, q5, _, _, _, nk, q9, q10, q11⟩ := stS
  have hm : rM w (k + 395 + 4) 328 [.ref 36, .long 1298229614] s = some (some (.int (Int32.ofNat kk)), s) := by
    rw [r_find (k := k + 398) (n := nk) (by rw [fi 32 (by omega)]; exact q9) q10 (by omega), fx.2 62 (by decide), q11]
    rfl
  rcases b_start (Z := fun y => Zr n sg y ∨ y = 30 ∨ y = 31) (L := L) (xs := xs) (zf := zf) (w := w) (k := k + 394) (k2 := k + 395) (A := A) (B := B) (mi := mi) h21 h30 hS (RH_up w1 (fun y hy => Or.inl hy)) (Or.inr (Or.inl rfl)) (Or.inr (Or.inr rfl)) n30 n31 q2 q5 fx (by rw [s73]; decide) hm w3 hw i1 i2 with ⟨e1, e2⟩ | ⟨h1, h', n', sg', s1, s', om', ka', la', ms', N', x', ml', e1, e2, e3, ⟨e4, e4b⟩, e5, e6, e7, e8, e9, e10, e11, e12, e13, e14, e15, e16, e17⟩
  · exact ⟨0, h, s, e1, r, e2, fun h2 r2 f2 => iNV_F f2 r2 (iNV_j y0)⟩
  have q := fE5_all L xs zf w (k + 400) 222 (by decide) _ _ _ _ e1
  have I : ∀ p, p < 74 → s'.1 p = s.1 p := fun p hp => by
    rw [e15.1 p (by omega)]
    have e : (stR s1 i1 i2).1 p = s1.1 p := by
      unfold stR
      rw [w_ne _ _ (by omega), w_ne _ _ (by omega), w_ne _ _ (by omega), w_ne _ _ (by omega), w_ne _ _ (by omega), w_ne _ _ (by omega), w_ne _ _ (by omega), w_ne _ _ (by omega), w_ne _ _ (by omega), w_ne _ _ (by omega), w_ne _ _ (by omega), w_ne _ _ (by omega), w_ne _ _ (by omega)]
    rw [e]
    exact e14.1 p (by omega)
  have Rr : ∀ p, p ≤ 86 → s'.2.1 p = s.2.1 p ∧ s'.2.2 p = s.2.2 p := fun p hp => ⟨((e15.2 p (Or.inl hp)).1).trans ((e14.2 p (Or.inl hp)).1), ((e15.2 p (Or.inl hp)).2).trans ((e14.2 p (Or.inl hp)).2)⟩
  have i74 : s'.1 74 = 1 := (e15.1 74 (by decide)).trans rfl
  have i111 : s'.1 111 = 0 := (e15.1 111 (by decide)).trans rfl
  have eb0 := hc_of (p := b0) t1.2.1.2.1 t1.2.1.2.2.2.2.2.2.2
  have zb0 := Zr_nb w1 eb0
  obtain ⟨bb21, fb, hb⟩ := oTx_b o1
  have zb := Zr_nb w1 hb
  have e22 := hc_of (p := 22) (by decide) t1.2.1.2.2.2.2.2.2.1
  have lo : ∀ y, y < 24 ∨ (30 ≤ y ∧ y ≤ 114) → ¬ Zr n sg y := fun y hy z => by
    have := w2 y z
    omega
  have hz' : ∀ y, Zr n' sg' y → (24 ≤ y ∧ y < 30) ∨ 115 ≤ y := fun y ⟨x2, hx, ex⟩ => by
    rcases (e3.2.1 x2 hx).2 with z | z
    · rw [ex] at z
      rcases z with z | z | z
      · exact w2 y z
      · exact absurd ⟨x2, hx, ex.trans z⟩ e11
      · exact absurd ⟨x2, hx, ex.trans z⟩ e13
    · omega
  have stay : ∀ y c, hc h y = some c → y ≠ 30 → y ≠ 31 → ¬ Zr n sg y → hc h' y = hc h y := fun y c e n1 n2 nz => (e9 y c e n1 n2 nz).1.trans e.symm
  have sf : sFx h (Zb (zX b0 n sg) b) h' (Zb (zX b0 n' sg') b) := fun y c e nz => by
    obtain ⟨u1, u2⟩ := e9 y c e (fun z => nz (zs y (Or.inr (Or.inl z)))) (fun z => nz (zs y (Or.inr (Or.inr z)))) (fun z => nz (zs y (Or.inl z)))
    refine ⟨u1, fun z => ?_⟩
    rcases z with (z | z) | z
    · exact u2 z
    · exact nz (Or.inl (Or.inr z))
    · exact nz (Or.inr z)
  have ot' : oTx h' s' b m 0 (st + 1) dep mk sa sc := by
    refine ⟨e10, by rw [stay 33 _ h33 (by decide) (by decide) (lo 33 (by decide))]; exact h33, by rw [stay 34 _ h34 (by decide) (by decide) (lo 34 (by decide))]; exact h34, by rw [stay 35 _ h35 (by decide) (by decide) (lo 35 (by decide))]; exact h35, i111, 0, ml', ft, e12, by decide, ?_, ?_, fun i hi => absurd hi (by omega)⟩
    · rw [i111]; decide
    · rw [i111]; decide
  have rn' : iRn L xs h' s' (Zb (zX b0 n' sg') b) (some P) (.ref P) n' sg' (j + 1) := Or.inr ⟨P, sB, A, B, mi, kc, es, sz, kk, mm, rfl, by rw [I 73 (by decide)]; exact s73, e5.1.1, fun p hp => by rw [I p (by omega)]; exact fi p hp, stQ_m (iZ_5 hz' hb0 o4) sf st', Or.inr ⟨i74, rfl, om', ka', la', ms', N', 0, _, x', e4, Nat.zero_le _, e5⟩⟩
  have hl' : h.length ≤ h'.length := e3.1.1
  have ial' : iAl L xs (j + 1) h' s' (some P) fn fp b0 n0 m0 b m (.ref P) n' sg' := by
    refine ⟨⟨ml0, f0, tX_f (fun y hy => ?_) (by omega) t1, t2, by rw [I 2 (by decide)]; exact t3, by rw [(Rr 37 (by decide)).1]; exact t4, t5⟩, ?_, by rw [(Rr 39 (by decide)).2]; exact a3, uA_of q.1 q.2 a4, ⟨0, st + 1, dep, mk, sa, sc, sn + 1, ot', (cMk_n o2 (by omega)).1, by omega, o4, o5⟩, a6, ⟨RH_own e3, hz', rUn_ao e5, fun z => ?_⟩, rn'⟩
    · rcases hy with rfl | rfl | rfl
      · exact stay _ _ h21 (by decide) (by decide) (lo _ (by decide))
      · exact stay _ _ e22 (by decide) (by decide) (lo _ (by decide))
      · exact stay _ _ eb0 (by omega) (by omega) zb0
    · unfold iF at a2 ⊢
      rw [I 72 (by decide), I 57 (by decide), I 58 (by decide)]
      exact a2
    · rw [i74] at z
      exact absurd z (by decide)
  refine ⟨1, h', s', e1, RS_k (fun y y1 y2 => ?_) r, e2, fun h2 r2 f2 => iNV_F f2 r2 ⟨some P, fn, fp, b0, n0, m0, b, m, some P, n', sg', ial', ?_⟩⟩
  · have lt : y - 21 < h.length := by omega
    exact stay y _ (hc_of (by omega) (List.getElem?_eq_getElem lt)) (by omega) (by omega) (lo y (by omega))
  · obtain ⟨c1, c2⟩ := e6
    rw [e8] at c1
    rw [e7] at c2
    exact bud_rn (h := h) bu ⟨c1, c2⟩
end OB5
