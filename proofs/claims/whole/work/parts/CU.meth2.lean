/-! A METHOD from its parameters to its end, by both. -/
section M2
variable {L : Nat} {xs : Nat → Int32} {zf : Value} {w k k2 i y m np kk : Nat} {cx : Nat → Nat} {F : Nat → Nat → Int32} {N : Nat → Int64} {q qm : List Value} {h h' h1 h2 : rm_H} {s s' s1 s2 : rS} {g g' g1 g2 : Nat → Nat} {ts ts' : List Nat} {M K l d : Nat} {v : Nat → Int32} {pt vr : Int32}
theorem set_same {qs : List Value} {j : Nat} {x : Value} (e : qs[j]? = some x) : qs.set j x = qs := by
  apply List.ext_getElem?
  intro i
  by_cases hi : i = j
  · subst hi
    rw [List.getElem?_set_self (List.getElem?_eq_some_iff.mp e).1, e]
  · rw [List.getElem?_set_ne (fun u => hi u.symm)]
theorem x_mth (hT : TF cx F N) (hw : 2100 ≤ w) (h14 : cx 14 = 0) (z : SY cx F N q h s g ts ∨ FLT cx F N q h s g ts) (hg : g 6 ≤ 2000) (hM : hc h M = some (.inr (11, qm))) (h5m : qm[5]? = some (.ref l)) (q8 : qm[8]? = some .null) (hq : qm.length = 14) (q1x : qm[11]? = some (.int 0) ∧ qm[12]? = some (.int 1) ∧ qm[13]? = some (.int 1)) (hl : l ≠ cx 11) (el : aL h l 5 0 []) (hm : m < 72) (hnp : np + 7 < 440) (so : Nat) (hso : so < 3) (hsy : SY cx F N q h s g ts → s.1 52 = Int32.ofNat np ∧ g 4 ≤ g 0 + 1 ∧ s.2.1 75 m = -1 ∧ MHD L xs h s m M kk K ∧ s.2.1 70 m = Int32.ofNat so) : ∃ h2 h' s' g' ts' fsM, dM L xs zf w (200 + k) 117 [.ref (cx 7), .ref M] h = some (none, h2) ∧ mtl L xs zf (dM L xs zf w (200 + k)) w (some (cx 7)) (Int32.ofNat so) (some M) h2 = some (none, h') ∧ s314_178 (rM w (99 + k2)) w (Int32.ofNat so) (Int32.ofNat m) s = some (none, s') ∧ OPY (fun y => y = l ∨ y = M) cx F N q 0 0 0 h s g ts h' s' g' ts' ∧ (g' 6 ≤ 962 ∨ g' 6 ≤ g 6 + 20) ∧ rMt s s' m np ∧ hc h' M = some (.inr (11, fsM)) ∧ (∀ j, j ≤ 7 → fsM[j]? = qm[j]?) ∧ (∀ l2 ar2 cap2 es2, l2 ≠ l → l2 ≠ cx 11 → aL h l2 ar2 cap2 es2 → aL h' l2 ar2 cap2 es2) ∧ (∃ v, pC h2 cx F v) ∧ (SY cx F N q h' s' g' ts' → g 0 < g' 0 ∧ MTR L xs h' s' (g 4) (g' 4) l (21 + h'.length) m M kk K ∧ ∃ np', np ≤ np' ∧ np' ≤ np + 6 ∧ s'.1 52 = Int32.ofNat np' ∧ s'.2.1 77 (m + 1) = Int32.ofNat np' ∧ s'.2.1 77 m = Int32.ofNat np) := by
  have nl := n_lt hT z
  -- where the parameters begin
  have z1 : SY cx F N q h (rs_wA s 77 m (s.1 52)) g ts ∨ FLT cx F N q h (rs_wA s 77 m (s.1 52)) g ts := z.elim (fun u => Or.inl (SY_s3 (s := s) u.1.2.2.1 rfl (rQ_A (by omega)) u)) (fun u => Or.inr (FLT_s3 (s := s) u.2.2.1 rfl u))
  have z1b : SY cx F N q h (rs_wA s 77 m (s.1 52)) g ts → SY cx F N q h s g ts := fun u => SY_s3 (s := rs_wA s 77 m (s.1 52)) u.1.2.2.1 rfl (rQ_sym (rQ_A (by omega))) u
  obtain ⟨h2, s6, g2, ts2, ds, ar, cap, a1, a2, a3, a4, a5, a6, a7, a8, a9⟩ := x_pars (L := L) (xs := xs) (zf := zf) (w := w) (k := 189 + k) (k2 := 94 + k2) hT (by omega) h14 z1 (by omega) h5m hq hl hnp hM el (fun u => (hsy (z1b u)).1)
  rw [show 189 + k + 11 = 200 + k from by omega] at a1
  rw [show 94 + k2 + 5 = 99 + k2 from by omega] at a2
  obtain ⟨j1, j2, j3, j4, j5, j6⟩ := a7
  have z2 : SY cx F N q h2 (rs_wA s6 77 (m + 1) (s6.1 52)) g2 ts2 ∨ FLT cx F N q h2 (rs_wA s6 77 (m + 1) (s6.1 52)) g2 ts2 := a3.1.elim (fun u => Or.inl (SY_s3 (s := s6) u.1.2.2.1 rfl (rQ_A (by omega)) u)) (fun u => Or.inr (FLT_s3 (s := s6) u.2.2.1 rfl u))
  have z2b : SY cx F N q h2 (rs_wA s6 77 (m + 1) (s6.1 52)) g2 ts2 → SY cx F N q h2 s6 g2 ts2 := fun u => SY_s3 (s := rs_wA s6 77 (m + 1) (s6.1 52)) u.1.2.2.1 rfl (rQ_sym (rQ_A (by omega))) u
  have q8' : (qm.set 10 (.int (Int32.ofNat ds.length)))[8]? = some .null := by rw [List.getElem?_set_ne (by decide)]; exact q8
  obtain ⟨h3, s12, g3, ts3, qm', b1, b2, b3, b4, b5, b6, b7, b8, b9, b10, b11⟩ := x_mid (L := L) (xs := xs) (zf := zf) (w := w) (k := 191 + k) (k2 := 95 + k2) (m := m) hT h14 z2 j1 q8' hm so hso
  rw [show 191 + k + 9 = 200 + k from by omega] at b1
  rw [show 95 + k2 + 4 = 99 + k2 from by omega] at b2
  have q10 : qm'[10]? = some (.int (Int32.ofNat ds.length)) := by
    rw [b8 10 (by decide)]
    exact List.getElem?_set_self (by omega)
  have lq : qm'.length = 14 := by rw [b9, List.length_set]; exact hq
  have oX3 := b3.2.2.2.2
  have a3c := a3.2.2.2.2
  obtain ⟨hb1, h', s', g', ts', B, cc, nlo, c1, c2, c3, c4, c5, c6, c7, c8, c9, c10⟩ := op_body (L := L) (xs := xs) (zf := zf) (w := w) (k := k) (k2 := k2) (qm := qm') (c := ds.length) (m := m) hT hw h14 b3.1 (by omega) (by rw [set_same q10]; exact b7) lq (by omega) hm (fun u => by
    have u2 := (b3.2.1 u).1
    have u6 := z2b u2
    have u1 := (a3.2.1 u6).1
    obtain ⟨x1, x2, x3, x4⟩ := hsy (z1b u1)
    have g60 := u.2
    have g20 := u2.2
    have g0 := u1.2
    refine ⟨by omega, ?_⟩
    have e52 : s12.1 52 = Int32.ofNat (np + ds.length) := (b6.1 52 (by decide) (by decide) (by decide) (by decide)).trans (j6 u6).1
    have e77 : s12.2.1 77 m = Int32.ofNat np := by
      rw [b6.2.1 77 (by omega) (by omega), wA_get, if_neg (by omega), a6.2.1 77 (by omega), wA_get, if_pos ⟨rfl, rfl⟩]
      exact x1
    rw [e52, e77, of_dif np ds.length (by omega)])
  obtain ⟨v3, p3⟩ := op_pC b3.1
  obtain ⟨v2, p2⟩ := op_pC z2
  have len2 := a3.2.2.1.1
  have len3 := b3.2.2.1.1
  have len' := c4.2.2.1.1
  have ll := (aL_lt el).1
  have op2 : OPY (fun y => y = l ∨ y = M) cx F N q 0 0 0 h s g ts h2 (rs_wA s6 77 (m + 1) (s6.1 52)) g2 ts2 := by
    obtain ⟨o1, o2, o3, o4, o5, o6, o7, o8⟩ := a3
    refine ⟨z2, fun u => ?_, o3, o4, o5, o6, o7⟩
    obtain ⟨x1, x2, x3⟩ := o2 (z2b u)
    exact ⟨z1b x1, fun i hi => ⟨fun p h1 h2 => by rw [wA_ne _ _ _ (show p ≠ 77 by omega), (x2 i hi).1 p h1 h2, wA_ne _ _ _ (show p ≠ 77 by omega)], (x2 i hi).2⟩, x3⟩
  have opF := OPY_trans (OPY_trans op2 (OPY_X b3) (fun y _ u => Or.inr u)) c4 (fun y _ u => Or.inr u)
  have f7 : ∀ j, j ≠ 9 → j ≠ 10 → ((qm'.set 10 (.int (Int32.ofNat nlo))).set 9 (.ref B))[j]? = qm'[j]? := fun j n9 n10 => by rw [List.getElem?_set_ne (fun u => n9 u.symm), List.getElem?_set_ne (fun u => n10 u.symm)]
  have f7' : ∀ j, j ≤ 7 → ((qm'.set 10 (.int (Int32.ofNat nlo))).set 9 (.ref B))[j]? = qm[j]? := fun j hj => by rw [f7 j (by omega) (by omega), b8 j (by omega), List.getElem?_set_ne (by omega)]
  refine ⟨h2, h', s', g', ts', (qm'.set 10 (.int (Int32.ofNat nlo))).set 9 (.ref B), a1, ?_, ?_, opF, by omega, ?_, c7, f7', fun l2 ar2 cap2 es2 n1 n2 e => c9 l2 ar2 cap2 es2 n2 (b10 l2 ar2 cap2 es2 n2 (j5 l2 ar2 cap2 es2 n1 n2 e)), ⟨v2, p2⟩, fun u => ?_⟩
  · rw [b1]
    unfold b142_220
    refine bse (a := (some B, hb1)) (by rw [c_pv p3, va_s, c1]; rfl) ?_
    exact bse c2 rfl
  · unfold s314_178
    rw [mW7 (by omega), Option.bind_some, show (rM w (99 + k2) 315 [.ref 36] (rs_wA s 77 m (s.1 52))).bind rxV = some s6 from by rw [a2]; rfl, Option.bind_some, show Int32.ofNat m + 1 = Int32.ofNat (m + 1) from of_add m 1, mW7 (by omega), Option.bind_some]
    exact b2.trans c3
  · refine ⟨fun j h1 h2 h3 h4 h5 h6 h7 h8 h9 => ?_, fun p hp => ?_, fun i hi => ⟨?_, ?_, fun hi1 => ?_⟩, fun p h1 h2 h3 => ?_, fun f hf => ⟨?_, ?_, ?_⟩⟩
    · rw [c6.1 j h1 h2 h3 h4 h6 h7 h8 h9, b6.1 j h4 h6 h7 h8]
      show s6.1 j = _
      rw [a6.1 j h4 h5 h6 h7 h8]
      rfl
    · rw [c6.2.1 p (by omega) (by omega), b6.2.1 p (by omega) (by omega), wA_ne _ _ _ (by omega), a6.2.1 p (by omega), wA_ne _ _ _ (by omega)]
    · rw [c6.2.1 75 (by omega) (by omega), b6.2.2.1 i hi, wA_ne _ _ _ (by omega), a6.2.1 75 (by omega), wA_ne _ _ _ (by omega)]
    · rw [c6.2.2.1 i hi, b6.2.1 76 (by omega) (by omega), wA_ne _ _ _ (by omega), a6.2.1 76 (by omega), wA_ne _ _ _ (by omega)]
    · rw [c6.2.1 77 (by omega) (by omega), b6.2.1 77 (by omega) (by omega), wA_get, if_neg (by omega), a6.2.1 77 (by omega), wA_get, if_neg (by omega)]
    · rw [c6.2.2.2 p h1 h2, b6.2.2.2 p h2]
      show s6.2.2 p = _
      rw [a6.2.2.1 p h2 h3]
      rfl
    · rw [c6.2.2.2 79 (by decide) (by decide), b6.2.2.2 79 (by decide)]
      exact (a6.2.2.2 f hf).1
    · rw [c6.2.1 80 (by omega) (by omega), b6.2.1 80 (by omega) (by omega), wA_ne _ _ _ (by omega)]
      exact (a6.2.2.2 f hf).2.1
    · rw [c6.2.1 81 (by omega) (by omega), b6.2.1 81 (by omega) (by omega), wA_ne _ _ _ (by omega)]
      exact (a6.2.2.2 f hf).2.2
  · have u3 := (c4.2.1 u).1
    have ya3 := (c4.2.1 u).2.2
    have u2 := (b3.2.1 u3).1
    have ya2 := (b3.2.1 u3).2.2
    have u6 := z2b u2
    have u1 := (a3.2.1 u6).1
    obtain ⟨x1, x2, x3, x4⟩ := hsy (z1b u1)
    obtain ⟨k1, kd⟩ := j6 u6
    obtain ⟨y1, y2, y3, y4, y5, y6, y7, y8, y9⟩ := c10 u
    have ds6 := a9 u6
    have ns23 : ∀ a b, nS L xs h2 a b → nS L xs h3 a b := fun a b => nS_fr b3.2.2.1
    have ns3' : ∀ a b, nS L xs h3 a b → nS L xs h' a b := fun a b => nS_fr c4.2.2.1
    have ns02 : ∀ a b, nS L xs h a b → nS L xs h2 a b := fun a b => nS_fr a3.2.2.1
    have cell23 : ∀ d fs, hc h2 d = some (.inr (10, fs)) → hc h3 d = some (.inr (10, fs)) := fun d fs e => ob_keep2 h14 z2 b3.2.2.1 j1 e
    have cell3' : ∀ d fs, hc h3 d = some (.inr (10, fs)) → hc h' d = some (.inr (10, fs)) := fun d fs e => ob_keep2 h14 b3.1 c4.2.2.1 b7 e
    have fd23 : ∀ d j u, fd h2 10 d j = some u → fd h3 10 d j = some u := fun d j u e => by
      obtain ⟨fs, e1, e2⟩ := fd_c e
      rw [fd_of (cell23 d fs e1)]
      exact e2
    have fd3' : ∀ d j u, fd h3 10 d j = some u → fd h' 10 d j = some u := fun d j u e => by
      obtain ⟨fs, e1, e2⟩ := fd_c e
      rw [fd_of (cell3' d fs e1)]
      exact e2
    have s77m : s'.2.1 77 m = Int32.ofNat np := by
      rw [c6.2.1 77 (by omega) (by omega), b6.2.1 77 (by omega) (by omega), wA_get, if_neg (by omega), a6.2.1 77 (by omega), wA_get, if_pos ⟨rfl, rfl⟩]
      exact x1
    have s77 : s'.2.1 77 (m + 1) = Int32.ofNat (np + ds.length) := by
      rw [c6.2.1 77 (by omega) (by omega), b6.2.1 77 (by omega) (by omega), wA_get, if_pos ⟨rfl, rfl⟩]
      exact k1
    have s52 : s'.1 52 = Int32.ofNat (np + ds.length) := by
      rw [c6.1 52 (by decide) (by decide) (by decide) (by decide) (by decide) (by decide) (by decide) (by decide), b6.1 52 (by decide) (by decide) (by decide) (by decide)]
      exact k1
    have fx : ∀ j, 11 ≤ j → j ≤ 13 → ∀ {u : Value}, qm[j]? = some u → fd h' 11 M j = some u := fun j h1 h2 u e => by rw [fd_of c7, f7 j (by omega) (by omega), b8 j (by omega), List.getElem?_set_ne (by omega)]; exact e
    have r71 : s'.2.1 75 m = -1 ∨ s'.2.1 70 m = 1 := by
      rcases b11 u3 with ⟨n1, n2⟩ | ⟨d, y, n0, _⟩
      · refine Or.inl ?_
        rw [c6.2.1 75 (by omega) (by omega), n2, wA_ne _ _ _ (by decide), a6.2.1 75 (by omega), wA_ne _ _ _ (by decide)]
        exact x3
      · refine Or.inr ?_
        rw [c6.2.1 70 (by omega) (by omega), b6.2.1 70 (by omega) (by omega), wA_ne _ _ _ (by omega), a6.2.1 70 (by omega), wA_ne _ _ _ (by omega), x4.2, n0]
        rfl
    refine ⟨by omega, MTR_of (MHD_fr (fun j hj => ?_) (fun a b e => ns3' a b (ns23 a b (ns02 a b e))) (fun p h1 h2 => ?_) ?_ x4.1) ⟨l, ar, cap, ds, np, ?_, c9 _ _ _ _ hl (b10 _ _ _ _ hl j2), Nat.le_refl _, Nat.lt_of_lt_of_le ll (by omega), s77m, s77, ds6, by omega, fun i d hi => ?_⟩ ?_ ⟨B, g3 4, cc, g3 4 + 1, g' 4, 21 + h3.length, 21 + h'.length, ?_, y3, by omega, by omega, by omega, Nat.le_refl _, by omega, Nat.le_refl _, y5, y6, y7, y8, y9, nlo, ds.length, 0, 1, ⟨y2.1, r71⟩, ?_, y2.2.1, by rw [s77, s77m]; exact (of_add np ds.length).symm, y2.2.2, fx 11 (by omega) (by omega) q1x.1, fx 12 (by omega) (by omega) q1x.2.1, fx 13 (by omega) (by omega) q1x.2.2⟩, np + ds.length, by omega, by omega, s52, s77, s77m⟩
    · rw [fd_of c7, f7' j hj, fd_of hM]
    · rw [c6.2.1 p (by omega) (by omega), b6.2.1 p (by omega) (by omega), wA_ne _ _ _ (by omega), a6.2.1 p (by omega), wA_ne _ _ _ (by omega)]
    · rw [c6.2.2.2 78 (by decide) (by decide), b6.2.2.2 78 (by decide)]
      show s6.2.2 78 m = _
      rw [a6.2.2.1 78 (by decide) (by decide)]
      rfl
    · rw [fd_of c7, f7' 5 (by decide), h5m]
    · obtain ⟨n1, n2, n3⟩ := kd i d hi
      refine ⟨?_, Nat.le_trans (by omega) n2, Nat.lt_of_lt_of_le n3 (by omega)⟩
      have t1 : DCR L xs h2 (rs_wA s6 77 (m + 1) (s6.1 52)) 79 80 81 d (np + i) i := n1
      have t2 : DCR L xs h3 s12 79 80 81 d (np + i) i := DCR_fr (fun j _ u e => fd23 d j u e) ns23 ya2 (by rw [b6.2.2.2 79 (by decide)]) (by rw [b6.2.1 80 (by omega) (by omega)]) (by rw [b6.2.1 81 (by omega) (by omega)]) t1
      exact DCR_fr (fun j _ u e => fd3' d j u e) ns3' ya3 (by rw [c6.2.2.2 79 (by decide) (by decide)]) (by rw [c6.2.1 80 (by omega) (by omega)]) (by rw [c6.2.1 81 (by omega) (by omega)]) t2
    · have e75 : s'.2.1 75 m = s12.2.1 75 m := by rw [c6.2.1 75 (by omega) (by omega)]
      rcases b11 u3 with ⟨n1, n2⟩ | ⟨d, y, n0, n1, n2, n3, n4, n5, n6⟩
      · refine Or.inl ⟨by rw [fd_of c7, f7 8 (by decide) (by decide)]; exact n1, ?_⟩
        rw [e75, n2, wA_ne _ _ _ (by decide), a6.2.1 75 (by omega), wA_ne _ _ _ (by decide)]
        exact x3
      · have y26 := ya3.1
        exact Or.inr ⟨d, y, by rw [fd_of c7, f7 8 (by decide) (by decide)]; exact n1, Nat.le_trans (by omega) n2, Nat.lt_of_lt_of_le n3 (by omega), e75.trans n4, by omega, tyD_k7 (fun j _ u e => fd3' d j u e) ns3' ya3 n5 n6⟩
    · rw [fd_of c7]
      exact List.getElem?_set_self (by rw [List.length_set]; omega)
    · rw [fd_of c7, List.getElem?_set_ne (by decide)]
      exact List.getElem?_set_self (by omega)
end M2
