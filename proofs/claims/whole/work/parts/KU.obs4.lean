/-! STEP AND START, OVER THE INVARIANT. -/
section OB4
variable {L : Nat} {xs : Nat → Int32} {zf : Value} {w k j : Nat} {h h' h1 h2 : rm_H} {s s' s1 sB : rS} {bp cd : Option Nat} {fn fp : Int32} {b0 n0 m0 b m n n' P y : Nat} {cdv : Value} {sg sg' : cS} {A B : Nat → Int32} {mi : Nat → Nat × Nat × Nat × Nat × Nat} {kc : kCi} {om : oMg} {ka : kAp} {la : lAy} {ms : mSg} {N cn : Nat} {D : Nat → Nat} {x : Nat → Nat → fDs} {Z Z2 : Nat → Prop}
theorem Zr_nb {f : Nat → Int32} (w1 : RH cdv n sg (Zr n sg) h h) (e : hc h y = some (.inl (1, m, .inl f))) : ¬ Zr n sg y := fun ⟨x', hx, ex⟩ => by
  have q := (w1.2.1 x' hx).1
  rw [ex, e] at q
  have q := Option.some.inj q
  unfold vcl at q
  have nA : ∀ a r, vA sg a r ≠ .inl (1, m, .inl f) := fun a r z => by
    unfold vA at z
    split at z <;> cases z
  have nW : ∀ r, vW cdv n sg r ≠ .inl (1, m, .inl f) := fun r z => by
    unfold vW at z
    split at z <;> cases z
  split at q
  · exact nW _ q.symm
  · exact nA _ _ q.symm
theorem rUn_ao (ru : rUn sB A B mi kc om ka la ms N cn sg s D x) : aOk sg := fun b hb => by
  by_cases lt : b < ka.2.2.2
  · obtain ⟨_, ⟨⟨e, _⟩, _⟩, _⟩ := ru.1.2.2.2.2.2 b lt
    rcases ru.2 b lt with ⟨_, so, _⟩ | ⟨d, _, _, _, _, so, _⟩
    · exact ⟨e, so.2.2.1, so.2.2.2⟩
    · exact ⟨e, so.2.2.1, so.2.2.2⟩
  · obtain ⟨cl, mb, tn, _, _, _, _, _, _, _, _, _, _, _, q⟩ := ru.1.2.2.1
    exact q b (by omega) hb
/-- a run has gone on -/
theorem iAl_rn {s' : rS} (y : iAl L xs j h s bp fn fp b0 n0 m0 b m cdv n sg) (rh' : RH (.ref P) n' sg' (Zr n sg) h h') (kp : ∀ y, y < 21 + h.length → ¬ Zr n sg y → hc h' y = hc h y) (st : ∀ p c, hc h p = some c → ¬ Zr n sg p → hc h' p = some c ∧ ¬ Zr n' sg' p) (u : uA h') (i2 : s'.1 2 = s.1 2) (r37 : s'.2.1 37 = s.2.1 37) (i57 : s'.1 57 = s.1 57 ∧ s'.1 58 = s.1 58 ∧ s'.1 72 = s.1 72) (r39 : s'.2.2 39 = s.2.2 39) (i111 : s'.1 111 = s.1 111) (r111 : s'.2.1 111 = s.2.1 111) (ao : aOk sg') (n74 : s'.1 74 ≠ 0) (rn : iRn L xs h' s' (Zb (zX b0 n' sg') b) bp (.ref P) n' sg' (j + 1)) : iAl L xs (j + 1) h' s' bp fn fp b0 n0 m0 b m (.ref P) n' sg' := by
  obtain ⟨⟨ml0, f0, t1, t2, t3, t4, t5⟩, a2, a3, a4, ⟨c, st0, dep0, mk0, sa0, sc0, sn0, o1, o2, o3, o4, o5⟩, a6, ⟨w1, w2, w3, w4⟩, a8⟩ := y
  have hb0 := t1.2.2.1
  have h94 := t1.2.2.2
  have eb0 := hc_of (p := b0) t1.2.1.2.1 t1.2.1.2.2.2.2.2.2.2
  have lb0 := hc_lt eb0
  have zb0 := Zr_nb w1 eb0
  obtain ⟨bb21, fb, hb⟩ := oTx_b o1
  have zb := Zr_nb w1 hb
  have lb := hc_lt hb
  have n30 : ∀ y, 21 ≤ y → y < 24 ∨ (30 ≤ y ∧ y ≤ 114) → ¬ Zr n sg y := fun y h1 h2 z => by
    have := w2 y z
    omega
  have hl : h.length ≤ h'.length := rh'.1.1
  refine ⟨⟨ml0, f0, tX_f (fun y hy => ?_) (by omega) t1, t2, by rw [i2]; exact t3, by rw [r37]; exact t4, t5⟩, ?_, by rw [r39]; exact a3, u, ⟨c, st0, dep0, mk0, sa0, sc0, sn0, oTx_s (oTx_f (fun y hy => ?_) o1) i111 r111, o2, by omega, o4, o5⟩, a6, ⟨RH_own rh', fun y ⟨x', hx, ex⟩ => ?_, ao, fun z => absurd z n74⟩, rn⟩
  · rcases hy with rfl | rfl | rfl
    · exact kp _ (by omega) (n30 _ (by decide) (by decide))
    · exact kp _ (by omega) (n30 _ (by decide) (by decide))
    · exact kp _ lb0 zb0
  · unfold iF at a2 ⊢
    rw [i57.1, i57.2.1, i57.2.2]
    exact a2
  · rcases hy with hy | rfl
    · exact kp y (by omega) (n30 y (by omega) (by omega))
    · exact kp _ lb zb
  · rcases (rh'.2.1 x' hx).2 with q | q
    · rw [ex] at q
      exact w2 y q
    · omega
theorem sFx_rn (st : ∀ p c, hc h p = some c → ¬ Zr n sg p → hc h' p = some c ∧ ¬ Zr n' sg' p) : sFx h (Zb (zX b0 n sg) b) h' (Zb (zX b0 n' sg') b) := fun y c e nz => by
  obtain ⟨q1, q2⟩ := st y c e (fun z => nz (Or.inl (Or.inl z)))
  refine ⟨q1, fun z => ?_⟩
  rcases z with (z | z) | z
  · exact q2 z
  · exact nz (Or.inl (Or.inr z))
  · exact nz (Or.inr z)
theorem bud_rn (y : bud j h n0 m0 m n sg) (ct : cNt n sg h n' sg' h') : bud (j + 1) h' n0 m0 m n' sg' := by
  obtain ⟨a1, a2⟩ := y
  obtain ⟨c1, c2⟩ := ct
  exact ⟨by omega, by omega⟩
/-- STEP -/
theorem ob_step (hw : 10000 ≤ w) (i1 i2 : Int32) : lw_ob L xs zf w (k + 400) (iNV L xs) 235 380 [.int i1, .int i2] := by
  intro j h s hj y r
  have y0 := y
  obtain ⟨bp, fn, fp, b0, n0, m0, b, m, cd, n, sg, ial, bu⟩ := y
  obtain ⟨t, _, _, a4, ⟨c, st, dep, mk, sa, sc, sn, o1, o2, o3, o4, o5⟩, _, ⟨w1, w2, w3, w4⟩, rn⟩ := id ial
  have h21 := iNV_21 t
  obtain ⟨ml0, f0, t1, _⟩ := id t
  have h94 := t1.2.2.2
  have no : s.1 74 = 0 → ∃ (v : Int32) (h1 : rm_H) (s1 : rS), dM L xs zf w (k + 400) 235 [.ref 21, .int i1, .int i2] h = some (some (.int v), h1) ∧ RS h1 s ∧ rM w (k + 400) 380 [.ref 36, .int i1, .int i2] s = some (some (.int v), s1) ∧ ∀ h2, RS h2 s1 → Fr h1 h2 → iNV L xs (j + 1) h2 s1 := fun z74 => by
    have hW := RH_wd (x := 0) w1 (by decide)
    obtain ⟨e1, e2⟩ := n_step (L := L) (xs := xs) (zf := zf) (w := w) (k := k + 398) (k2 := k + 398) h21 rfl hW (by show some (Value.int (sg.1 8)) = _; rw [w4 z74 8 (by decide) (by decide)]) z74 i1 i2
    exact ⟨-1, h, s, e1, r, e2, fun h2 r2 f2 => iNV_F f2 r2 (iNV_j y0)⟩
  rcases rn with ⟨_, _, z74⟩ | ⟨P, sB, A, B, mi, kc, es, sz, kk, mm, ebp, s73, fx, fi, st', z74 | ⟨s74, ecd, om, ka, la, ms, N, cn, D, x', hn, hcn, ru⟩⟩
  · exact no z74
  · exact no z74
  · rw [ecd] at w1
    have n21 : ¬ Zr n sg 21 := fun z => by have := w2 _ z; omega
    have n5 : ¬ Zr n sg 5 := fun z => by have := w2 _ z; omega
    have stR := stQ_m (Z2 := Zr n sg) n5 (fun y c e nz => ⟨e, fun z => nz (Or.inl (Or.inl z))⟩) st'
    obtain ⟨q1, q2, q3, _⟩ := stR
    obtain ⟨v, h', n', sg', s', om', ka', la', ms', N', D', x2, e1, e2, e3, ⟨e4, e4b⟩, e5, e6, e7, e8, e9⟩ := b_stepF (L := L) (xs := xs) (zf := zf) (w := w) (k := k + 385) (k2 := k + 385) q3 ⟨_, h21, rfl, n21⟩ q1 q2 hw w1 hn ru (by omega) i1 i2
    have q := fE5_all L xs zf w (k + 400) 235 (by decide) _ _ _ _ e1
    have kp : ∀ y, y < 21 + h.length → ¬ Zr n sg y → hc h' y = hc h y := fun y h1 h2 => e7.2.1 y h1 h2
    have hz' : ∀ y, Zr n' sg' y → (24 ≤ y ∧ y < 30) ∨ 115 ≤ y := fun y ⟨x', hx, ex⟩ => by
      rcases (e3.2.1 x' hx).2 with z | z
      · rw [ex] at z
        exact w2 y z
      · omega
    have rn' : iRn L xs h' s' (Zb (zX b0 n' sg') b) bp (.ref P) n' sg' (j + 1) := Or.inr ⟨P, sB, A, B, mi, kc, es, sz, kk, mm, ebp, by rw [e9.1 73 (by decide)]; exact s73, e5.1.1, fun p hp => by rw [e9.1 p (by omega)]; exact fi p hp, stQ_m (iZ_5 hz' t1.2.2.1 o4) (sFx_rn e8) st', Or.inr ⟨by rw [e9.1 74 (by decide)]; exact s74, rfl, om', ka', la', ms', N', cn + 200, D', x2, e4, by omega, e5⟩⟩
    have ial' := iAl_rn ial e3 kp e8 (uA_of q.1 q.2 a4) (e9.1 2 (by decide)) ((e9.2 37 (by decide)).1) ⟨e9.1 57 (by decide), e9.1 58 (by decide), e9.1 72 (by decide)⟩ ((e9.2 39 (by decide)).2) (e9.1 111 (by decide)) ((e9.2 111 (by decide)).1) (rUn_ao e5) (by rw [e9.1 74 (by decide), s74]; decide) rn'
    refine ⟨v, h', s', e1, RS_k (fun y y1 y2 => kp y (by omega) (fun z => by have := w2 y z; omega)) r, e2, fun h2 r2 f2 => iNV_F f2 r2 ⟨bp, fn, fp, b0, n0, m0, b, m, some P, n', sg', ial', bud_rn bu e6⟩⟩
end OB4
