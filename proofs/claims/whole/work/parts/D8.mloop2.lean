/-! METHODS: the loop by both. -/
/-- Kind K has methods mks so far -/
def MJs (L : Nat) (xs : Nat → Int32) (cx : Nat → Nat) (F : Nat → Nat → Int32) (N : Nat → Int64) (q : List Value) (mlK K kk m0 A mk0 : Nat) (ml0 : List Nat) (fsK : List Value) (h0 : rm_H) (am0 a100 np0 : Nat) (h : rm_H) (s : rS) (g : Nat → Nat) (ts : List Nat) (mks : List Nat) (am cm a10 c10 : Nat) : Prop :=
  hc h K = some (.inr (9, fsK)) ∧ aL h mlK am cm mks ∧ (∀ y ∈ mks, oK h y) ∧ aL h (cx 10) a10 c10 (ml0 ++ mks) ∧ (∀ y ∈ ml0 ++ mks, oK h y) ∧ (am = am0 ∨ 21 + h0.length ≤ am) ∧ (a10 = a100 ∨ 21 + h0.length ≤ a10) ∧ (∀ l2 ar2 cap2 es2, l2 ≠ mlK → l2 ≠ cx 10 → l2 ≠ cx 11 → aL h0 l2 ar2 cap2 es2 → aL h l2 ar2 cap2 es2)
  ∧ (SY cx F N q h s g ts → s.1 42 = Int32.ofNat (ml0 ++ mks).length ∧ ∃ np, np0 ≤ np ∧ np ≤ 6 * (ml0 ++ mks).length ∧ s.1 52 = Int32.ofNat np ∧ s.2.1 77 (ml0 ++ mks).length = Int32.ofNat np ∧ MX L xs h s (g 4) A (21 + h.length) np m0 mk0 kk K ∧ s.2.1 70 m0 = 0 ∧ ∀ i d, mks[i]? = some d → MX L xs h s (g 4) A (21 + h.length) np (m0 + 1 + i) d kk K ∧ A ≤ d ∧ s.2.1 70 (m0 + 1 + i) ≠ 0 ∧ (fsK[2]? = some (.int 0) → s.2.1 70 (m0 + 1 + i) = 1))
/-- both have ended the methods of Kind K -/
def MRes (L : Nat) (xs : Nat → Int32) (cx : Nat → Nat) (F : Nat → Nat → Int32) (N : Nat → Int64) (q : List Value) (mlK K kk m0 A mk0 : Nat) (ml0 : List Nat) (fsK : List Value) (h0 : rm_H) (s0 : rS) (g0 : Nat → Nat) (t0 : List Nat) (am0 cm0 a100 c100 np0 : Nat) (i1 : Int32) (K9 : Option Nat → Int32 → rm_H → Option dR) (cl : Option dR) (rf : Option rA) : Prop :=
  ∃ h' s' g' ts' mks' am' cm' a10' c10', cl = K9 (some (cx 7)) (i1 + 1) h' ∧ rf = some (none, s') ∧ OPY (fun y => y = mlK ∨ (y = am0 ∧ 21 ≤ y) ∨ y = cx 10 ∨ (y = a100 ∧ 21 ≤ y)) cx F N q 0 (4 * cm0 + 4 * c100) (4 * cm' + 4 * c10') h0 s0 g0 t0 h' s' g' ts' ∧ g' 6 ≤ 1010 ∧ rMl s0 s' (m0 + 1) np0 kk ∧ MJs L xs cx F N q mlK K kk m0 A mk0 ml0 fsK h0 am0 a100 np0 h' s' g' ts' mks' am' cm' a10' c10' ∧ mks'.length ≤ 9 ∧ (SY cx F N q h' s' g' ts' → s'.2.1 65 (kk + 1) = Int32.ofNat (ml0 ++ mks').length ∧ g0 0 < g' 0 ∧ mks'.length ≤ 8)
section MM
variable {L : Nat} {xs : Nat → Int32} {zf : Value} {w k k2 i m m' np np' kk t : Nat} {cx : Nat → Nat} {F : Nat → Nat → Int32} {N : Nat → Int64} {q : List Value} {h0 h h' h1 h2 : rm_H} {s0 s s' s1 s2 s4 : rS} {g0 g g' : Nat → Nat} {t0 ts ts' : List Nat} {M K l a10 c10 am cm mlK nm d A B m0 mk0 am0 cm0 a100 c100 np0 : Nat} {v : Nat → Int32} {pt vr cv cp ax i1 i3 : Int32} {fsK : List Value} {ml mks ml0 : List Nat} {P : Nat → Prop} {K9 : Option Nat → Int32 → rm_H → Option dR}
theorem Pok_no : Pok h (fun _ => False) A B := ⟨fun _ _ _ f => f.elim, fun _ _ _ _ _ _ _ _ f => f⟩
theorem x_mfin (hT : TF cx F N) (h14 : cx 14 = 0) (hkk : kk < 8) (hA : bl cx A) (a : OPY (fun y => y = mlK ∨ (y = am0 ∧ 21 ≤ y) ∨ y = cx 10 ∨ (y = a100 ∧ 21 ≤ y)) cx F N q 0 (4 * cm0 + 4 * c100) (4 * cm + 4 * c10) h0 s0 g0 t0 h s g ts) (hg : g 6 ≤ 1010) (r : rMl s0 s (m0 + 1) np0 kk) (j : MJs L xs cx F N q mlK K kk m0 A mk0 ml0 fsK h0 am0 a100 np0 h s g ts mks am cm a10 c10) (h9 : mks.length ≤ 9) (h8 : SY cx F N q h s g ts → mks.length ≤ 8) : MRes L xs cx F N q mlK K kk m0 A mk0 ml0 fsK h0 s0 g0 t0 am0 cm0 a100 c100 np0 i1 K9 (b91_97 L xs zf (dM L xs zf w (201 + k)) w K9 (some (cx 7)) i1 h) (s306_238 (rM w (100 + k2)) w (Int32.ofNat kk) s) := by
  obtain ⟨j1, j2, j3, j4, j5, j6, j7, j8, j9⟩ := id j
  obtain ⟨h', s', g', e1, e2, op, e3, e4, e5, e6, e7⟩ := m_end (L := L) (xs := xs) (zf := zf) (w := w) (k := k) (k2 := k2) hT hkk a.1
  obtain ⟨v, p0⟩ := op_pC a.1
  have K0 : K ≠ cx 0 := fun e => by rw [e, pC_r p0] at j1; cases j1
  have len := e5.2.1
  have rr : rMl s0 s' (m0 + 1) np0 kk := rMl_trans (rMl_trans r rMl_65) (rMl_ty e6)
  refine ⟨h', s', g', ts, mks, am, cm, a10, c10, ?_, e2, OPY_le (OPY_trans a (op _) (fun _ _ u => u)) (by omega) (by omega), by omega, rr, ⟨st1_old e5 j1 K0, aL_st (pC_r p0) (by decide) e5 j2, fun y hy => oK_fr e5.1 (j3 y hy), aL_st (pC_r p0) (by decide) e5 j4, fun y hy => oK_fr e5.1 (j5 y hy), j6, j7, fun l2 ar2 cap2 es2 n1 n2 n3 e => aL_st (pC_r p0) (by decide) e5 (j8 _ _ _ _ n1 n2 n3 e), fun u => ?_⟩, h9, fun u => ?_⟩
  · unfold b91_97
    rw [show (dcV L xs (dM L xs zf w (201 + k)) 109 [8] (some (cx 7)) [.int 6] h).bind dxV = some h' from by rw [c_pv p0, e1]; rfl, Option.bind_some]
  · obtain ⟨x1, x2, x3⟩ := (op (fun _ => False)).2.1 u
    obtain ⟨f1, np, f2, f3, f4, f5, f6, f6b, f7⟩ := j9 x1
    have mm : ∀ m, mA s s' m np := fun m => ⟨fun p h1 h2 => by rw [e6.2.1 p (by omega), wA_get, if_neg (by omega)], by rw [e6.2.1 77 (by omega), wA_get, if_neg (by omega)], by rw [e6.2.1 77 (by omega), wA_get, if_neg (by omega)], by rw [e6.2.2 78 (by decide)]; rfl, fun f _ => ⟨by rw [e6.2.2 79 (by decide)]; rfl, by rw [e6.2.1 80 (by omega), wA_get, if_neg (by omega)], by rw [e6.2.1 81 (by omega), wA_get, if_neg (by omega)]⟩⟩
    have kp : ∀ {m M}, MX L xs h s (g 4) A (21 + h.length) np m M kk K → MX L xs h' s' (g' 4) A (21 + h'.length) np m M kk K := fun e => by
      rw [e4, len]
      exact MX_keep h14 (op (fun _ => False)) u hA Pok_no (Nat.le_refl _) (mm _) (fun m2 b2 _ h2 h3 _ => Or.inl ⟨by have q := e6.1 42 (by decide) (by decide) (by decide) (by decide); rw [q] at h2; exact h2, by rw [e6.2.1 76 (by omega), wA_get, if_neg (by omega)] at h3; exact h3⟩) e
    refine ⟨(e6.1 42 (by decide) (by decide) (by decide) (by decide)).trans f1, np, f2, f3, (e6.1 52 (by decide) (by decide) (by decide) (by decide)).trans f4, ?_, kp f6, by rw [(mm _).1 70 (by omega) (by omega)]; exact f6b, fun i d hi => ⟨kp (f7 i d hi).1, (f7 i d hi).2.1, by rw [(mm _).1 70 (by omega) (by omega)]; exact (f7 i d hi).2.2⟩⟩
    rw [e6.2.1 77 (by omega), wA_get, if_neg (by omega)]
    exact f5
  · obtain ⟨x1, x2, x3⟩ := (op (fun _ => False)).2.1 u
    have := e7 u
    have ag := a.2.2.2.2.1.1
    refine ⟨?_, by omega, h8 x1⟩
    rw [e6.2.1 65 (by omega), wA_get, if_pos ⟨rfl, rfl⟩]
    exact (j9 x1).1
theorem f2_eqd (x y : Int32) : mx_f2 .eq x y = decide (x = y) := rfl
theorem f1_eqd (x : Int32) : mx_f1 .eq x = decide (x = 0) := rfl
/-- behind a fault the reference ends the methods -/
theorem r167_z (hkk : kk < 8) (h57 : s.1 57 = 1) (n : Nat) : s306_167 (rM w (100 + k2)) w (n + 1) (Int32.ofNat kk) s = s306_238 (rM w (100 + k2)) w (Int32.ofNat kk) s := by
  have z3 : ∀ c, (rM w (100 + k2) 303 [.ref 36, .int c] s).bind rxI = some (0, s) := fun c => by
    rw [show 100 + k2 = 99 + k2 + 1 from by omega, z303 (k := 99 + k2) c h57]; rfl
  rw [s306_167, z3, Option.bind_some, if_neg (show ¬ mx_f1 .ne (0 : Int32) = true by decide), aB_at (by omega) t66 (by omega) (by omega), Option.bind_some]
  split
  · rfl
  · rw [z3, Option.bind_some, if_pos (show mx_f1 .eq (0 : Int32) = true by decide)]
/-- behind a fault the class ends the methods -/
theorem c56_z (hP : pC h cx F v) (h6 : ¬ v 6 = 23 ∧ ¬ v 6 = 24) (n : Nat) : b91_56 L xs zf (dM L xs zf w (201 + k)) w K9 (n + 1) (some (cx 7)) i1 (some K) i3 h = b91_97 L xs zf (dM L xs zf w (201 + k)) w K9 (some (cx 7)) i1 h := by
  rw [b91_56]
  split
  · rfl
  · rw [c_in hP, Option.bind_some, c_I hP 6 (by omega), Option.bind_some, if_neg (by rw [f2_eqd]; simp [h6.1]), Option.bind_some, c_I hP 6 (by omega), Option.bind_some, if_pos (by rw [f2_ne]; simp [h6.2])]
/-- at a be that is none, the end of the methods refuses -/
theorem r238 (hT : TF cx F N) (hkk : kk < 8) (z : SY cx F N q h s g ts) (t6 : ¬ ctk cx F (g 0) = 6) : s306_238 (rM w (100 + k2)) w (Int32.ofNat kk) s = s306_238 (rM w (100 + k2)) w (Int32.ofNat kk) (stS s (g 0)) := by
  have nl := n_lt hT (Or.inl z)
  obtain ⟨⟨p0, ⟨a1, a2, a3, a4⟩, rt, ch, ⟨c1, c2, c3, c4⟩, b1, b2, b3, b4⟩, g6⟩ := id z
  obtain ⟨⟨f5, _, tr⟩, _⟩ := hT.2.2 (g 0) b1
  have q8 := q308 (w := w) (k := 97 + k2) (s := rs_wA s 65 (kk + 1) (s.1 42)) 125 a1 c1 nl.1
  have z8 := z308 (w := w) (k := 97 + k2) (s := rs_wA (stS s (g 0)) 65 (kk + 1) ((stS s (g 0)).1 42)) (t := g 0) 125 rfl c1 nl.1
  rw [show (rs_wA s 65 (kk + 1) (s.1 42)).2.1 40 = s.2.1 40 from wA_ne _ _ _ (by omega), show (rs_wA s 65 (kk + 1) (s.1 42)).2.1 42 = s.2.1 42 from wA_ne _ _ _ (by omega), rt.1, rt.2.2.1, if_neg (fun u => t6 ((sg_iff tr P125).mp u)), show 97 + k2 + 3 = 100 + k2 from by omega] at q8
  rw [show 97 + k2 + 3 = 100 + k2 from by omega] at z8
  unfold s306_238
  rw [show Int32.ofNat kk + 1 = Int32.ofNat (kk + 1) from of_add kk 1, kWt (Or.inr rfl) (by omega), Option.bind_some, kWt (Or.inr rfl) (by omega), Option.bind_some, q8, z8]
  rfl
/-- no more methods -/
theorem x_mstop (hT : TF cx F N) (hw : 2100 ≤ w) (h14 : cx 14 = 0) (hkk : kk < 8) (hA : bl cx A) (k2' : fsK[2]? = some (.int ax)) (k5 : fsK[5]? = some (.ref mlK)) (nm1 : mlK ≠ cx 11) (n10 : cx 10 ≠ cx 11) (nmm : mlK ≠ cx 10) (hml0 : ml0.length = m0 + 1) (hm0 : m0 + 9 ≤ 72) (h65 : s0.2.1 65 kk = Int32.ofNat m0) (h66 : s0.2.1 66 kk = ax) (a : OPY (fun y => y = mlK ∨ (y = am0 ∧ 21 ≤ y) ∨ y = cx 10 ∨ (y = a100 ∧ 21 ≤ y)) cx F N q 0 (4 * cm0 + 4 * c100) (4 * cm + 4 * c10) h0 s0 g0 t0 h s g ts) (hg : g 6 ≤ 1010) (r : rMl s0 s (m0 + 1) np0 kk) (j : MJs L xs cx F N q mlK K kk m0 A mk0 ml0 fsK h0 am0 a100 np0 h s g ts mks am cm a10 c10) (h8 : mks.length ≤ 8) (hn : ¬ (SY cx F N q h s g ts ∧ mks.length < 8 ∧ (ctk cx F (g 0) = 23 ∨ (ctk cx F (g 0) = 24 ∧ ¬ ax = 0)))) (M1 M2 : Nat) : MRes L xs cx F N q mlK K kk m0 A mk0 ml0 fsK h0 s0 g0 t0 am0 cm0 a100 c100 np0 i1 K9 (b91_56 L xs zf (dM L xs zf w (201 + k)) w K9 (M1 + 2) (some (cx 7)) i1 (some K) (Int32.ofNat mks.length) h) (s306_167 (rM w (100 + k2)) w (M2 + 2) (Int32.ofNat kk) s) := by
  obtain ⟨j1, j2, j3, j4, j5, j6, j7, j8, j9⟩ := id j
  have nl := n_lt hT a.1
  have e66 : s.2.1 66 kk = ax := by rw [r.2.1 66 (by omega)]; exact h66
  have e65 : s.2.1 65 kk = Int32.ofNat m0 := by rw [r.2.2.1 kk (by omega)]; exact h65
  by_cases t : SY cx F N q h s g ts ∧ (ctk cx F (g 0) = 23 ∨ ctk cx F (g 0) = 24)
  · obtain ⟨z, tk⟩ := t
    have hno : 8 ≤ mks.length ∨ (ctk cx F (g 0) = 24 ∧ ax = 0) := by
      by_cases e8 : 8 ≤ mks.length
      · exact Or.inl e8
      · right
        rcases tk with e | e
        · exact absurd ⟨z, by omega, Or.inl e⟩ hn
        · refine ⟨e, ?_⟩
          by_cases ea : ax = 0
          · exact ea
          · exact absurd ⟨z, by omega, Or.inr ⟨e, ea⟩⟩ hn
    have ll : (ml0 ++ mks).length = m0 + (1 + mks.length) := by rw [List.length_append]; omega
    obtain ⟨h2, g2, ts2, am', cm', a10', c10', n1, n2, n3, n4, n5, n6, n7, n8, n9, n10', n11, n12⟩ := x_mref (L := L) (xs := xs) (zf := zf) (w := w) (k := k) hT hw h14 z tk hno j1 k2' k5 j2 j3 j4 j5 nm1 n10 nmm (by omega) h8
    obtain ⟨⟨p0, ⟨a1, a2, a3, a4⟩, rt, ch, ⟨c1, c2, c3, c4⟩, b1, b2, b3, b4⟩, g6⟩ := id z
    obtain ⟨⟨f5, _, tr⟩, _⟩ := hT.2.2 (g 0) b1
    have alen := a.2.2.1.1
    have fin := x_mfin (L := L) (xs := xs) (zf := zf) (w := w) (k := k) (k2 := k2) (i1 := i1) (K9 := K9) (cm0 := cm0) (c100 := c100) (am0 := am0) (a100 := a100) (mks := mks ++ [21 + h.length]) (am := am') (cm := cm') (a10 := a10') (c10 := c10') hT h14 hkk hA (OPY_le (OPY_trans a n3 (fun y hy u => by
      rcases u with u | ⟨u, u21⟩ | u | ⟨u, u21⟩
      · exact Or.inl u
      · rcases j6 with e | e
        · exact Or.inr (Or.inl ⟨u.trans e, u21⟩)
        · omega
      · exact Or.inr (Or.inr (Or.inl u))
      · rcases j7 with e | e
        · exact Or.inr (Or.inr (Or.inr ⟨u.trans e, u21⟩))
        · omega)) (by omega) (by omega)) (by omega) (rMl_trans r (rMl_ty rTy_st)) (⟨n5, n6, n7, by rw [← List.append_assoc]; exact n8, by rw [← List.append_assoc]; exact n9, by omega, by omega, fun l2 ar2 cap2 es2 q1 q2 q3 e => n12 _ _ _ _ q1 q2 q3 (j8 _ _ _ _ q1 q2 q3 e), fun u => (sy_no u n2).elim⟩ : MJs L xs cx F N q mlK K kk m0 A mk0 ml0 fsK h0 am0 a100 np0 h2 (stS s (g 0)) g2 ts2 (mks ++ [21 + h.length]) am' cm' a10' c10') (by rw [List.length_append]; show mks.length + 1 ≤ 9; omega) (fun u => (sy_no u n2).elim)
    have cl : b91_56 L xs zf (dM L xs zf w (201 + k)) w K9 (M1 + 2) (some (cx 7)) i1 (some K) (Int32.ofNat mks.length) h = b91_97 L xs zf (dM L xs zf w (201 + k)) w K9 (some (cx 7)) i1 h2 := by
      obtain ⟨⟨v2, p2, r2⟩, _⟩ := id n2
      have b86 : b91_86 L xs zf (dM L xs zf w (201 + k)) w K9 (b91_56 L xs zf (dM L xs zf w (201 + k)) w K9 (M1 + 1)) (some (cx 7)) i1 (some K) (Int32.ofNat mks.length) h = b91_97 L xs zf (dM L xs zf w (201 + k)) w K9 (some (cx 7)) i1 h2 := by
        unfold b91_86
        rw [show (dcV L xs (dM L xs zf w (201 + k)) 142 [8] (some (cx 7)) [va_rf (some K)] h).bind dxV = some h2 from by rw [c_pv p0, va_s, n1]; rfl, Option.bind_some]
        exact c56_z p2 (by rw [r2.2.1]; decide) M1
      rw [b91_56, if_neg (by rw [f2_gt, of_int (by omega), show (8 : Int32).toInt = 8 from by decide]; simp; omega), c_in p0, Option.bind_some, c_I p0 6 (by omega), Option.bind_some, vS_6]
      rcases tk with e | e
      · rw [e, if_pos (by decide)]
        exact b86
      · rw [e, if_neg (by decide), Option.bind_some, c_I p0 6 (by omega), Option.bind_some, vS_6, e, if_neg (by decide)]
        exact b86
    have q3 : ∀ c, (rM w (100 + k2) 303 [.ref 36, .int c] s).bind rxI = some (rd_01 (decide (F 4 (g 0) = 2 ∧ F 6 (g 0) = c)), s) := fun c => by
      have := q303 (w := w) (k := 99 + k2) c a1 c1 nl.1
      rw [rt.1, rt.2.2.1, show 99 + k2 + 1 = 100 + k2 from by omega] at this
      rw [this]; rfl
    have t3 : (F 4 (g 0) = 2 ∧ F 6 (g 0) = 3) ↔ ctk cx F (g 0) = 23 := wd_iff tr Q3
    have t4 : (F 4 (g 0) = 2 ∧ F 6 (g 0) = 4) ↔ ctk cx F (g 0) = 24 := wd_iff tr Q4
    have r192 : 8 ≤ mks.length → s306_192 (rM w (100 + k2)) w (s306_167 (rM w (100 + k2)) w (M2 + 1)) (Int32.ofNat kk) s = s306_238 (rM w (100 + k2)) w (Int32.ofNat kk) (stS s (g 0)) := by
      intro e8
      unfold s306_192
      rw [kR (Or.inr rfl) (by omega), Option.bind_some, e65, (j9 z).1, ll, of_dif m0 (1 + mks.length) (by omega), show Int32.ofNat (1 + mks.length) - 1 = Int32.ofNat mks.length from of_dif 1 mks.length (by omega), show mks.length = 8 from by omega, if_neg (by decide), show (rM w (100 + k2) 304 [.ref 36] s).bind rxV = some (stS s (g 0)) from by rw [show 100 + k2 = 98 + k2 + 2 from by omega, q304 (k := 98 + k2) a1 c1 nl.1]; rfl, Option.bind_some]
      exact r167_z hkk rfl M2
    have rf : s306_167 (rM w (100 + k2)) w (M2 + 2) (Int32.ofNat kk) s = s306_238 (rM w (100 + k2)) w (Int32.ofNat kk) (stS s (g 0)) := by
      rw [s306_167, q3, Option.bind_some]
      by_cases e23 : ctk cx F (g 0) = 23
      · rw [decide_eq_true (t3.mpr e23), if_pos (show mx_f1 .ne (rd_01 true) = true by decide)]
        refine r192 ?_
        rcases hno with e | ⟨e, _⟩
        · exact e
        · rw [e23] at e; exact absurd e (by decide)
      · have e24 : ctk cx F (g 0) = 24 := tk.elim (fun e => absurd e e23) id
        rw [decide_eq_false (fun u => e23 (t3.mp u)), if_neg (show ¬ mx_f1 .ne (rd_01 false) = true by decide), aB_at (by omega) t66 (by omega) (by omega), Option.bind_some, e66]
        by_cases ea : ax = 0
        · rw [ea, if_pos (by decide)]
          exact r238 hT hkk z (by rw [e24]; decide)
        · rw [if_neg (by rw [f1_eqd]; simp [ea]), q3, Option.bind_some, decide_eq_true (t4.mpr e24), if_neg (show ¬ mx_f1 .eq (rd_01 true) = true by decide)]
          refine r192 ?_
          rcases hno with e | ⟨_, e⟩
          · exact e
          · exact absurd e ea
    rw [cl, rf]
    exact fin
  · have cl : b91_56 L xs zf (dM L xs zf w (201 + k)) w K9 (M1 + 2) (some (cx 7)) i1 (some K) (Int32.ofNat mks.length) h = b91_97 L xs zf (dM L xs zf w (201 + k)) w K9 (some (cx 7)) i1 h := by
      rcases a.1 with y | y
      · exact c56_z y.1.1 (by rw [vS_6]; exact ⟨fun e => t ⟨y, Or.inl e⟩, fun e => t ⟨y, Or.inr e⟩⟩) _
      · obtain ⟨⟨v, p1, r1⟩, _⟩ := id y
        exact c56_z p1 (by rw [r1.2.1]; decide) _
    have rf : s306_167 (rM w (100 + k2)) w (M2 + 2) (Int32.ofNat kk) s = s306_238 (rM w (100 + k2)) w (Int32.ofNat kk) s := by
      rcases a.1 with y | y
      · obtain ⟨⟨p0, ⟨a1, a2, a3, a4⟩, rt, ch, ⟨c1, c2, c3, c4⟩, b1, b2, b3, b4⟩, g6⟩ := id y
        obtain ⟨⟨f5, _, tr⟩, _⟩ := hT.2.2 (g 0) b1
        have q3 : ∀ c, (rM w (100 + k2) 303 [.ref 36, .int c] s).bind rxI = some (rd_01 (decide (F 4 (g 0) = 2 ∧ F 6 (g 0) = c)), s) := fun c => by
          have := q303 (w := w) (k := 99 + k2) c a1 c1 nl.1
          rw [rt.1, rt.2.2.1, show 99 + k2 + 1 = 100 + k2 from by omega] at this
          rw [this]; rfl
        rw [s306_167, q3, Option.bind_some, decide_eq_false (fun u => t ⟨y, Or.inl ((wd_iff tr Q3).mp u)⟩), if_neg (show ¬ mx_f1 .ne (rd_01 false) = true by decide), aB_at (by omega) t66 (by omega) (by omega), Option.bind_some, e66, q3, Option.bind_some, decide_eq_false (fun u => t ⟨y, Or.inr ((wd_iff tr Q4).mp u)⟩), if_pos (show mx_f1 .eq (rd_01 false) = true by decide)]
        split <;> rfl
      · exact r167_z hkk y.2.1 _
    rw [cl, rf]
    exact x_mfin hT h14 hkk hA a hg r j (by omega) (fun _ => h8)
end MM
