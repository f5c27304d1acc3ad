/-! SHOW AND PEEK, OVER THE INVARIANT. -/
section OB3
variable {L : Nat} {xs : Nat → Int32} {zf : Value} {w k j : Nat} {h h' h1 h2 : rm_H} {s s' s1 sB : rS} {bp cd : Option Nat} {fn fp : Int32} {b0 n0 m0 b b' m m' n P c' : Nat} {cdv : Value} {sg : cS} {A B : Nat → Int32} {mi : Nat → Nat × Nat × Nat × Nat × Nat} {kc : kCi} {om : oMg} {ka : kAp} {la : lAy} {ms : mSg} {N cn : Nat} {D : Nat → Nat} {x : Nat → Nat → fDs} {Z Z2 : Nat → Prop} {st dep : Int32} {mk sa sc : Nat → Int32}
/-- what was told has changed, in the reference's state -/
def sTd (s : rS) (v : Int32) (r : Nat → Nat → Int32) : rS := (upd s.1 111 v, fun p => if p < 111 then s.2.1 p else r p, s.2.2)
theorem sTd_of (l : oL4 s s') : s' = sTd s (s'.1 111) s'.2.1 := by
  refine Prod.ext ?_ (Prod.ext ?_ l.2.2)
  · funext p
    show s'.1 p = upd s.1 111 (s'.1 111) p
    by_cases q : p = 111
    · rw [q, upd_eq']
    · rw [upd_ne' q, l.1 p q]
  · funext p
    show s'.2.1 p = if p < 111 then s.2.1 p else s'.2.1 p
    by_cases q : p < 111
    · rw [if_pos q, l.2.1 p q]
    · rw [if_neg q]
theorem rUn_d {v : Int32} {r : Nat → Nat → Int32} (ru : rUn sB A B mi kc om ka la ms N cn sg s D x) : rUn sB A B mi kc om ka la ms N cn sg (sTd s v r) D x := by
  have fx : fxR sB (sTd s v r) := ⟨fun p hp => (if_pos (by omega)).trans (ru.1.1.1 p hp), ru.1.1.2⟩
  exact ⟨⟨fx, ru.1.2⟩, ru.2⟩
theorem iRn_d (l : oL4 s s') (y : iRn L xs h s Z bp cdv n sg j) : iRn L xs h s' Z bp cdv n sg j := by
  rcases y with ⟨y1, y2, y3⟩ | ⟨P, sB, A, B, mi, kc, es, sz, kk, mm, a1, a2, a3, a4, a5, a6⟩
  · exact Or.inl ⟨y1, by rw [l.1 73 (by decide)]; exact y2, by rw [l.1 74 (by decide)]; exact y3⟩
  · refine Or.inr ⟨P, sB, A, B, mi, kc, es, sz, kk, mm, a1, by rw [l.1 73 (by decide)]; exact a2, fxR_4 a3 l, fun p hp => by rw [l.1 p (by omega)]; exact a4 p hp, a5, ?_⟩
    rcases a6 with a6 | ⟨b1, b2, om, ka, la, ms, N, cn, D, x, b3, b4, b5⟩
    · exact Or.inl (by rw [l.1 74 (by decide)]; exact a6)
    · refine Or.inr ⟨by rw [l.1 74 (by decide)]; exact b1, b2, om, ka, la, ms, N, cn, D, x, b3, b4, ?_⟩
      rw [sTd_of l]
      exact rUn_d b5
/-- the class and the reference have told -/
theorem iAl_td (y : iAl L xs j h s bp fn fp b0 n0 m0 b m cdv n sg) (t : tCh h b m h' b' m') (l : oL4 s s') (u : uA h') (o : oTx h' s' b' m' c' st dep mk sa sc) {sn : Nat} (cm : cMk st mk sn) (hs : sn ≤ j + 1) : iAl L xs (j + 1) h' s' bp fn fp b0 n0 m0 b' m' cdv n sg := by
  obtain ⟨⟨ml0, f0, t1, t2, t3, t4, t5⟩, a2, a3, a4, ⟨c, st0, dep0, mk0, sa0, sc0, sn0, o1, o2, o3, o4, o5⟩, a6, ⟨w1, w2, w3, w4⟩, a8⟩ := y
  have hb0 := t1.2.2.1
  have h94 := t1.2.2.2
  obtain ⟨bb21, fb, hb⟩ := oTx_b o1
  have b04 : b' = 32 ∨ 115 ≤ b' := by
    rcases t.2.2.2.2.2 with q | q
    · rw [q]; exact o4
    · omega
  have e21 : hc h 21 = some (.inr (0, [.ref 22, .ref 24, .ref 30, va_rf bp, .int fn, .int fp])) := hc_of (by decide) t1.1
  have e22 := hc_of (p := 22) (by decide) t1.2.1.2.2.2.2.2.2.1
  have eb0 := hc_of (p := b0) t1.2.1.2.1 t1.2.1.2.2.2.2.2.2.2
  have lb0 := hc_lt eb0
  refine ⟨⟨ml0, f0, tX_f (fun y hy => ?_) (by have := t.2.2.2.2.1; omega) t1, t2, by rw [l.1 2 (by decide)]; exact t3, by rw [l.2.1 37 (by decide)]; exact t4, t5⟩, ?_, by rw [l.2.2]; exact a3, u, ⟨c', st, dep, mk, sa, sc, sn, o, cm, hs, b04, Nat.le_trans o5 t.2.1⟩, fun z => ?_, ⟨RH_tl w1 (fun y hy => by have := w2 y hy; omega) o1 t, w2, w3, fun z => w4 (by rw [← l.1 74 (by decide)]; exact z)⟩, iRn_d l (iRn_j (Nat.le_succ j) (iRn_m (iZ_5 w2 hb0 b04) (tCh_f t) a8))⟩
  · rcases hy with rfl | rfl | rfl
    · rw [t.1 _ _ e21 (by omega) (by omega)]
      exact e21.symm
    · rw [t.1 _ _ e22 (by omega) (by omega)]
      exact e22.symm
    · rw [t.1 _ _ eb0 (by omega) (fun z => a6 z.symm)]
      exact eb0.symm
  · unfold iF at a2 ⊢
    rw [l.1 72 (by decide), l.1 57 (by decide), l.1 58 (by decide)]
    exact a2
  · rcases t.2.2.2.2.2 with q | q
    · exact a6 (q.symm.trans z)
    · omega
theorem bud_td (y : bud j h n0 m0 m n sg) (t : tCh h b m h' b' m') : bud (j + 1) h' n0 m0 m' n sg := by
  obtain ⟨a1, a2⟩ := y
  obtain ⟨_, t2, t3, t4, _⟩ := t
  exact ⟨by omega, by omega⟩
theorem RS_td (y : iAl L xs j h s bp fn fp b0 n0 m0 b m cdv n sg) (t : tCh h b m h' b' m') (r : RS h s) : RS h' s := by
  obtain ⟨⟨ml0, f0, t1, _⟩, _, _, _, ⟨c, st0, dep0, mk0, sa0, sc0, sn0, o1, o2, o3, o4, o5⟩, _⟩ := y
  have h94 := t1.2.2.2
  refine RS_k (fun y y1 y2 => ?_) r
  have lt : y - 21 < h.length := by omega
  have e : hc h y = some (h[y - 21]'lt) := hc_of (by omega) (List.getElem?_eq_getElem lt)
  rw [e]
  exact t.1 y _ e (by omega) (by omega)
theorem iAl_so (t : iTx h s bp fn fp b0 n0 m0) : hSo h := ⟨_, iNV_21 t, rfl, rfl⟩
/-- SHOW -/
theorem ob_show (hw : 500 ≤ w) (i1 i2 : Int32) : lw_ob L xs zf w (k + 400) (iNV L xs) 270 405 [.int i1, .int i2] := by
  intro j h s hj y r
  obtain ⟨bp, fn, fp, b0, n0, m0, b, m, cd, n, sg, ial, bu⟩ := y
  obtain ⟨t, _, _, a4, ⟨c, st, dep, mk, sa, sc, sn, o1, o2, o3, o4, o5⟩, _, ⟨w1, w2, w3, w4⟩, rn⟩ := id ial
  obtain ⟨ml0, f0, t1, _⟩ := id t
  have fin : ∀ (v : Int32) (h' : rm_H) (s' : rS) (b' m' c' : Nat) (dep' : Int32) (mk' sa' sc' : Nat → Int32), dM L xs zf w (k + 400) 270 [.ref 21, .int i1, .int i2] h = some (some (.int v), h') → rM w (k + 400) 405 [.ref 36, .int i1, .int i2] s = some (some (.int v), s') → oTx h' s' b' m' c' (st + 1) dep' mk' sa' sc' → cMk (st + 1) mk' (sn + 1) → tCh h b m h' b' m' → oL4 s s' → ∃ (v : Int32) (h1 : rm_H) (s1 : rS), dM L xs zf w (k + 400) 270 [.ref 21, .int i1, .int i2] h = some (some (.int v), h1) ∧ RS h1 s ∧ rM w (k + 400) 405 [.ref 36, .int i1, .int i2] s = some (some (.int v), s1) ∧ ∀ h2, RS h2 s1 → Fr h1 h2 → iNV L xs (j + 1) h2 s1 := by
    intro v h' s' b' m' c' dep' mk' sa' sc' e1 e2 e3 e4 e5 e6
    have q := fE5_all L xs zf w (k + 400) 270 (by decide) _ _ _ _ e1
    exact ⟨v, h', s', e1, RS_td ial e5 r, e2, fun h2 r2 f2 => iNV_F f2 r2 ⟨bp, fn, fp, b0, n0, m0, b', m', cd, n, sg, iAl_td ial e5 e6 (uA_of q.1 q.2 a4) e3 e4 (by omega), bud_td bu e5⟩⟩
  have no : s.1 74 = 0 → ∃ (v : Int32) (h1 : rm_H) (s1 : rS), dM L xs zf w (k + 400) 270 [.ref 21, .int i1, .int i2] h = some (some (.int v), h1) ∧ RS h1 s ∧ rM w (k + 400) 405 [.ref 36, .int i1, .int i2] s = some (some (.int v), s1) ∧ ∀ h2, RS h2 s1 → Fr h1 h2 → iNV L xs (j + 1) h2 s1 := fun z74 => by
    have hW := RH_wd (x := 0) w1 (by decide)
    obtain ⟨h', s', e1, e2, e3, e4, e5, e6⟩ := n_show (L := L) (xs := xs) (zf := zf) (w := w) (k := k + 388) (k2 := k + 395) (by omega) (iAl_so t) hW (by show some (Value.int (sg.1 8)) = _; rw [w4 z74 8 (by decide) (by decide)]) z74 o1 o2 (by omega) i1 i2
    exact fin (-1) h' s' b m 0 dep mk sa sc e1 e2 e3 e4 e5 e6
  rcases rn with ⟨_, _, z74⟩ | ⟨P, sB, A, B, mi, kc, es, sz, kk, mm, _, _, _, _, st', z74 | ⟨_, ecd, om, ka, la, ms, N, cn, D, x', hn, _, ru⟩⟩
  · exact no z74
  · exact no z74
  · obtain ⟨_, _, _, _, _, ks, _⟩ := st'
    rw [ecd] at w1
    obtain ⟨v, h', s', b', m', c', dep', mk', sa', sc', e1, e2, e3, e4, e5, e6, _⟩ := b_show (L := L) (xs := xs) (zf := zf) (w := w) (k := k + 388) (k2 := k + 395) hw (iAl_so t) (iZx_5 w2 t1.2.2.1) (fun y hy => by have := w2 y hy; omega) ks w1 hn ru o1 o2 (by omega) i1 i2
    exact fin v h' s' b' m' c' dep' mk' sa' sc' e1 e2 e3 e4 e5 e6
/-- PEEK -/
theorem ob_peek (hw : 500 ≤ w) (i1 i2 : Int32) : lw_ob L xs zf w (k + 400) (iNV L xs) 280 412 [.int i1, .int i2] := by
  intro j h s hj y r
  obtain ⟨bp, fn, fp, b0, n0, m0, b, m, cd, n, sg, ial, bu⟩ := y
  obtain ⟨t, _, _, a4, ⟨c, st, dep, mk, sa, sc, sn, o1, o2, o3, o4, o5⟩, _, ⟨w1, w2, w3, w4⟩, rn⟩ := id ial
  obtain ⟨ml0, f0, t1, _⟩ := id t
  have fin : ∀ (v : Int32) (h' : rm_H) (s' : rS) (b' m' c' : Nat) (dep' : Int32) (mk' sa' sc' : Nat → Int32), dM L xs zf w (k + 400) 280 [.ref 21, .int i1, .int i2] h = some (some (.int v), h') → rM w (k + 400) 412 [.ref 36, .int i1, .int i2] s = some (some (.int v), s') → oTx h' s' b' m' c' (st + 1) dep' mk' sa' sc' → cMk (st + 1) mk' (sn + 1) → tCh h b m h' b' m' → oL4 s s' → ∃ (v : Int32) (h1 : rm_H) (s1 : rS), dM L xs zf w (k + 400) 280 [.ref 21, .int i1, .int i2] h = some (some (.int v), h1) ∧ RS h1 s ∧ rM w (k + 400) 412 [.ref 36, .int i1, .int i2] s = some (some (.int v), s1) ∧ ∀ h2, RS h2 s1 → Fr h1 h2 → iNV L xs (j + 1) h2 s1 := by
    intro v h' s' b' m' c' dep' mk' sa' sc' e1 e2 e3 e4 e5 e6
    have q := fE5_all L xs zf w (k + 400) 280 (by decide) _ _ _ _ e1
    exact ⟨v, h', s', e1, RS_td ial e5 r, e2, fun h2 r2 f2 => iNV_F f2 r2 ⟨bp, fn, fp, b0, n0, m0, b', m', cd, n, sg, iAl_td ial e5 e6 (uA_of q.1 q.2 a4) e3 e4 (by omega), bud_td bu e5⟩⟩
  have no : s.1 74 = 0 → ∃ (v : Int32) (h1 : rm_H) (s1 : rS), dM L xs zf w (k + 400) 280 [.ref 21, .int i1, .int i2] h = some (some (.int v), h1) ∧ RS h1 s ∧ rM w (k + 400) 412 [.ref 36, .int i1, .int i2] s = some (some (.int v), s1) ∧ ∀ h2, RS h2 s1 → Fr h1 h2 → iNV L xs (j + 1) h2 s1 := fun z74 => by
    have hW := RH_wd (x := 0) w1 (by decide)
    obtain ⟨h', s', e1, e2, e3, e4, e5, e6⟩ := n_peek (L := L) (xs := xs) (zf := zf) (w := w) (k := k + 388) (k2 := k + 395) (by omega) (iAl_so t) hW (by show some (Value.int (sg.1 8)) = _; rw [w4 z74 8 (by decide) (by decide)]) z74 o1 o2 (by omega) i1 i2
    exact fin (-1) h' s' b m 0 dep mk sa sc e1 e2 e3 e4 e5 e6
  rcases rn with ⟨_, _, z74⟩ | ⟨P, sB, A, B, mi, kc, es, sz, kk, mm, _, _, _, _, st', z74 | ⟨_, ecd, om, ka, la, ms, N, cn, D, x', hn, _, ru⟩⟩
  · exact no z74
  · exact no z74
  · obtain ⟨_, _, cb, _, _, ks, msh, _⟩ := st'
    rw [ecd] at w1
    obtain ⟨v, h', s', b', m', c', dep', mk', sa', sc', e1, e2, e3, e4, e5, e6, _⟩ := b_peek (L := L) (xs := xs) (zf := zf) (w := w) (k := k + 388) (k2 := k + 395) hw (iAl_so t) (iZx_5 w2 t1.2.2.1) (fun y hy => by have := w2 y hy; omega) ks msh cb w1 hn ru o1 o2 (by omega) i1 i2
    exact fin v h' s' b' m' c' dep' mk' sa' sc' e1 e2 e3 e4 e5 e6
end OB3
