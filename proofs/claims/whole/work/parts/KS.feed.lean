/-! FEED AND END BY BOTH, OVER THE INVARIANT. -/
section OB2
variable {L : Nat} {xs : Nat → Int32} {zf : Value} {w k j : Nat} {h h' h1 h2 : rm_H} {s s' s1 sB : rS} {bp cd : Option Nat} {fn fp : Int32} {b0 b0' n0 m0 m0' b m n P : Nat} {cdv : Value} {sg : cS} {A B : Nat → Int32} {mi : Nat → Nat × Nat × Nat × Nat × Nat} {kc : kCi} {om : oMg} {ka : kAp} {la : lAy} {ms : mSg} {N cn : Nat} {D : Nat → Nat} {x : Nat → Nat → fDs} {Z Z2 : Nat → Prop}
/-- the text has changed, in the reference's state -/
def sTx (s : rS) (v : Int32) (r : Nat → Int32) : rS := (upd s.1 2 v, fun p => if p = 37 then r else s.2.1 p, s.2.2)
theorem rUn_2 {v : Int32} {r : Nat → Int32} (ru : rUn sB A B mi kc om ka la ms N cn sg s D x) : rUn sB A B mi kc om ka la ms N cn sg (sTx s v r) D x := by
  have fx : fxR sB (sTx s v r) := ⟨fun p hp => (if_neg hp.2).trans (ru.1.1.1 p hp), ru.1.1.2⟩
  exact ⟨⟨fx, ru.1.2⟩, ru.2⟩
theorem iRn_2 {v : Int32} {r : Nat → Int32} (y : iRn L xs h s Z bp cdv n sg j) : iRn L xs h (sTx s v r) Z bp cdv n sg j := by
  rcases y with ⟨y1, y2, y3⟩ | ⟨P, sB, A, B, mi, kc, es, sz, kk, mm, a1, a2, a3, a4, a5, a6⟩
  · exact Or.inl ⟨y1, y2, y3⟩
  · refine Or.inr ⟨P, sB, A, B, mi, kc, es, sz, kk, mm, a1, a2, ⟨fun p hp => (if_neg hp.2).trans (a3.1 p hp), a3.2⟩, fun p hp => ?_, a5, ?_⟩
    · show upd s.1 2 v p = _
      rw [upd_ne' (by omega)]
      exact a4 p hp
    · rcases a6 with a6 | ⟨b1, b2, om, ka, la, ms, N, cn, D, x, b3, b4, b5⟩
      · exact Or.inl a6
      · exact Or.inr ⟨b1, b2, om, ka, la, ms, N, cn, D, x, b3, b4, rUn_2 b5⟩
theorem oTx_2 {v : Int32} {r : Nat → Int32} {c : Nat} {st dep : Int32} {mk sa sc : Nat → Int32} (o : oTx h s b m c st dep mk sa sc) : oTx h (sTx s v r) b m c st dep mk sa sc := oTx_s o (show upd s.1 2 v 111 = s.1 111 from upd_ne' (by decide)) (show (if (111 : Nat) = 37 then r else s.2.1 111) = s.2.1 111 from if_neg (by decide))
/-- the class's heap with another text -/
theorem iAl_tx {v : Int32} {r : Nat → Int32} (y : iAl L xs j h s bp fn fp b0 n0 m0 b m cdv n sg) (hl : h.length ≤ h'.length) (bb : b0' = b0 ∨ 21 + h.length ≤ b0') (e : ∀ y c, hc h y = some c → y ≠ 22 → y ≠ b0 → hc h' y = some c) (u : uA h') {n1 : Nat} (t : iTx h' (sTx s v r) bp fn fp b0' n1 m0') : iAl L xs j h' (sTx s v r) bp fn fp b0' n1 m0' b m cdv n sg := by
  obtain ⟨⟨ml0, f0, t1, _⟩, a2, a3, a4, ⟨c, st, dep, mk, sa, sc, sn, o1, o2, o3, o4, o5⟩, a6, ⟨w1, w2, w3, w4⟩, a8⟩ := y
  have hb0 := t1.2.2.1
  have h94 := t1.2.2.2
  have hb0' : b0' = 23 ∨ 115 ≤ b0' := by omega
  obtain ⟨bb21, fb, hb⟩ := oTx_b o1
  have bl := hc_lt hb
  have tb0 : hc h b0 = some (.inl (1, m0, .inl f0)) := hc_of t1.2.1.2.1 t1.2.1.2.2.2.2.2.2.2
  have o1' : oTx h' s b m c st dep mk sa sc := by
    refine oTx_f (fun y hy => ?_) o1
    obtain ⟨h30, h33, h34, h35, _, _, _, _, hS, _⟩ := id o1
    have e31 : hc h 31 = some _ := hc_of (by decide) hS.2.2.2.2.2.2.1
    have none32 : ∀ y, hc h' y = hc h y ∨ (∃ c, hc h y = some c ∧ hc h' y = some c) → hc h' y = hc h y := fun y q => q.elim id (fun ⟨c, q1, q2⟩ => q2.trans q1.symm)
    cases hq : hc h y with
    | some c' => exact e y c' hq (by omega) (fun z => by
        rw [z] at hq hy
        rcases hy with hy | hy
        · omega
        · exact a6 hy.symm)
    | none =>
      exfalso
      unfold hc at hq
      have lt : y - 21 < h.length := by
        rcases hy with hy | hy
        · omega
        · rw [hy]; omega
      rw [if_pos (by rcases hy with hy | hy; omega; rw [hy]; exact bb21), List.getElem?_eq_getElem lt] at hq
      cases hq
  refine ⟨t, a2, a3, u, ⟨c, st, dep, mk, sa, sc, sn, oTx_2 o1', o2, o3, o4, o5⟩, fun z => ?_, ⟨?_, w2, w3, w4⟩, iRn_2 (iRn_m (iZ_5 w2 hb0' o4) (fun y c' hy nz => ?_) a8)⟩
  · rcases bb with q | q
    · exact a6 (z.trans q)
    · omega
  · refine RH_f (fun y hy => ?_) w1
    obtain ⟨x', hx, rfl⟩ := hy
    have q := (w1.2.1 x' hx).1
    rw [q]
    have := w2 _ ⟨x', hx, rfl⟩
    refine e _ _ q (by omega) (fun z => ?_)
    rw [z, tb0] at q
    have q := Option.some.inj q
    unfold vcl at q
    have nA : ∀ a r, vA sg a r ≠ .inl (1, m0, .inl f0) := fun a r z => by
      unfold vA at z
      split at z <;> cases z
    have nW : ∀ r, vW cdv n sg r ≠ .inl (1, m0, .inl f0) := fun r z => by
      unfold vW at z
      split at z <;> cases z
    split at q
    · exact nW _ q.symm
    · exact nA _ _ q.symm
  · have lt := hc_lt hy
    have n22 : y ≠ 22 := fun z => nz (Or.inl (Or.inr (Or.inl z)))
    have nb0 : y ≠ b0 := fun z => nz (Or.inl (Or.inr (Or.inr (Or.inl z))))
    refine ⟨e y c' hy n22 nb0, fun z => ?_⟩
    rcases z with (z | z | z | z) | z | z
    · exact nz (Or.inl (Or.inl z))
    · exact n22 z
    · rcases bb with q | q
      · exact nb0 (z.trans q)
      · omega
    · exact nz (Or.inl (Or.inr (Or.inr (Or.inr z))))
    · exact nz (Or.inr (Or.inl z))
    · exact nz (Or.inr (Or.inr z))
theorem by20_b (a b c d e : Int32) (i : Nat) : bv (by20 a b c d e i) &&& 255 = by20 a b c d e i := by
  unfold by20 by4
  exact bv_255 _
/-- FEED -/
theorem ob_feed (hw : 21 ≤ w) (a0 a1 a2 a3 a4 : Int32) : lw_ob L xs zf w (k + 400) (iNV L xs) 9 286 [.int a0, .int a1, .int a2, .int a3, .int a4] := by
  intro j h s hj y r
  have y0 := y
  obtain ⟨bp, fn, fp, b0, n0, m0, b, m, cd, n, sg, ial, bu⟩ := y
  obtain ⟨ml0, f0, t1, t2, t3, t4, t5⟩ := id ial.1
  have cf := cf_feed (L := L) (xs := xs) (zf := zf) (w := w) (k := k + 392) t1 t2 (by omega) a0 a1 a2 a3 a4
  have rf := rf_feed (w := w) (k := k + 399) (s := s) a0 a1 a2 a3 a4 n0 t3 t2 hw
  by_cases full : n0 + 20 ≤ 2000
  · obtain ⟨h', b', m', f', c1, c2, c3, c4, ⟨l1, l2, l3, l4, l5, l6⟩⟩ := cf.1 full
    obtain ⟨s1, r1, ⟨x1, x2, x3, x4, x5⟩⟩ := rf.1 full
    have es : rs_w s1 2 (Int32.ofNat (n0 + 20)) = sTx s (Int32.ofNat (n0 + 20)) (s1.2.1 37) := by
      refine Prod.ext ?_ (Prod.ext ?_ x2)
      · show upd s1.1 2 _ = upd s.1 2 _
        rw [x1]
      · funext p
        show s1.2.1 p = if p = 37 then s1.2.1 37 else s.2.1 p
        by_cases q : p = 37
        · rw [if_pos q, q]
        · rw [if_neg q, x3 p q]
    rw [es] at r1
    have keep : ∀ y c, hc h y = some c → y ≠ 22 → y ≠ b0 → hc h' y = some c := fun y c e n22 nb => by
      have q1 := hc_ge e
      have q2 := hc_lt e
      have q3 := t1.2.1.2.1
      exact hc_of q1 ((l6 _ (by omega) (by omega) (by omega)).trans (hc_at e))
    have itx : iTx h' (sTx s (Int32.ofNat (n0 + 20)) (s1.2.1 37)) bp fn fp b' (n0 + 20) m' := by
      refine ⟨ml0, f', c2, full, (show upd s.1 2 (Int32.ofNat (n0 + 20)) 2 = _ from upd_eq'), fun i hi => ?_, by omega⟩
      show s1.2.1 37 i = _
      by_cases lt : i < n0
      · rw [x4 i lt, t4 i lt, c3 i lt]
      · obtain ⟨d, rfl⟩ : ∃ d, i = n0 + d := ⟨i - n0, by omega⟩
        rw [x5 d (by omega), c4 d (by omega), by20_b]
    have u' : uA h' := by
      have e1 : dM L xs zf w (k + 400) 9 [.ref 21, .int a0, .int a1, .int a2, .int a3, .int a4] h = some (some (.int (Int32.ofNat (n0 + 20))), h') := c1
      have q := fE5_all L xs zf w (k + 400) 9 (by decide) _ _ _ _ e1
      exact uA_of q.1 q.2 ial.2.2.2.1
    have ial' := iAl_tx (v := Int32.ofNat (n0 + 20)) (r := s1.2.1 37) ial l1 l5 keep u' itx
    refine ⟨Int32.ofNat (n0 + 20), h', sTx s (Int32.ofNat (n0 + 20)) (s1.2.1 37), c1, RS_k (fun y y1 y2 => ?_) r, r1, fun h2 r2 f2 => iNV_F f2 r2 ⟨bp, fn, fp, b', n0 + 20, m', b, m, cd, n, sg, iAl_j (Nat.le_succ j) ial', ?_⟩⟩
    · have hb0 := t1.2.2.1
      have h94 := t1.2.2.2
      have q := l6 (y - 21) (by omega) (by omega) (by omega)
      unfold hc
      rw [if_pos (by omega), if_pos (by omega)]
      exact q
    · obtain ⟨u1, u2⟩ := bu
      refine ⟨by omega, ?_⟩
      rw [if_neg (by omega)]
      by_cases z : n0 = 0
      · rw [if_pos z] at u2
        omega
      · rw [if_neg z] at u2
        omega
  · exact ⟨-1, h, s, cf.2 (by omega), r, rf.2 (by omega), fun h2 r2 f2 => iNV_F f2 r2 (iNV_j y0)⟩
/-- END -/
theorem ob_end (a0 : Int32) : lw_ob L xs zf w (k + 400) (iNV L xs) 36 287 [.int a0] := by
  intro j h s hj y r
  have y0 := y
  obtain ⟨bp, fn, fp, b0, n0, m0, b, m, cd, n, sg, ial, bu⟩ := y
  obtain ⟨ml0, f0, t1, t2, t3, t4, t5⟩ := id ial.1
  have cf := cf_end (L := L) (xs := xs) (zf := zf) (w := w) (k := k + 396) t1 t2 a0
  have rf := rf_end (w := w) (k := k + 399) (s := s) n0 t3 t2 a0
  by_cases ok : 0 ≤ a0.toInt ∧ a0.toInt ≤ n0
  · obtain ⟨h', ml', c1, c2, c3, c4, c5⟩ := cf.1 ok
    have r1 := rf.1 ok
    have ea : a0 = Int32.ofNat a0.toNatClampNeg := by
      apply i32_of
      rw [of_int (by show a0.toInt.toNat ≤ _; omega)]
      show _ = ((a0.toInt.toNat : Nat) : Int)
      omega
    have len : a0.toNatClampNeg ≤ n0 := by show a0.toInt.toNat ≤ n0; omega
    have es : rs_w s 2 a0 = sTx s a0 (s.2.1 37) := by
      refine Prod.ext rfl (Prod.ext ?_ rfl)
      funext p
      show s.2.1 p = if p = 37 then s.2.1 37 else s.2.1 p
      by_cases q : p = 37
      · rw [if_pos q, q]
      · rw [if_neg q]
    rw [es] at r1
    have keep : ∀ y, y ≠ 22 → hc h' y = hc h y := fun y n22 => by
      unfold hc
      by_cases q : 21 ≤ y
      · rw [if_pos q, if_pos q]
        exact c5 _ (by omega)
      · rw [if_neg q, if_neg q]
    have itx : iTx h' (sTx s a0 (s.2.1 37)) bp fn fp b0 a0.toNatClampNeg m0 := ⟨ml', f0, c2, by omega, by show upd s.1 2 a0 2 = _; rw [upd_eq']; exact ea, fun i hi => t4 i (by omega), t5⟩
    have u' : uA h' := by
      have e1 : dM L xs zf w (k + 400) 36 [.ref 21, .int a0] h = some (some (.int a0), h') := c1
      have q := fE5_all L xs zf w (k + 400) 36 (by decide) _ _ _ _ e1
      exact uA_of q.1 q.2 ial.2.2.2.1
    have ial' := iAl_tx (v := a0) (r := s.2.1 37) ial (by omega) (Or.inl rfl) (fun y c e n22 _ => (keep y n22).trans e) u' itx
    refine ⟨a0, h', sTx s a0 (s.2.1 37), c1, RS_k (fun y y1 y2 => keep y (by omega)) r, r1, fun h2 r2 f2 => iNV_F f2 r2 ⟨bp, fn, fp, b0, a0.toNatClampNeg, m0, b, m, cd, n, sg, iAl_j (Nat.le_succ j) ial', ?_⟩⟩
    obtain ⟨u1, u2⟩ := bu
    refine ⟨by rw [c3]; omega, ?_⟩
    rw [c4]
    by_cases z : n0 = 0
    · rw [if_pos z] at u2
      rw [if_pos (by omega)]
      omega
    · rw [if_neg z] at u2
      split <;> omega
  · exact ⟨-1, h, s, cf.2 ok, r, rf.2 ok, fun h2 r2 f2 => iNV_F f2 r2 (iNV_j y0)⟩
end OB2
