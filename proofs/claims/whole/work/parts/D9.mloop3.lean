/-! METHODS: all of them by both. -/
section MN
variable {L : Nat} {xs : Nat → Int32} {zf : Value} {w k k2 i m m' np np' kk t : Nat} {cx : Nat → Nat} {F : Nat → Nat → Int32} {N : Nat → Int64} {q : List Value} {h0 h h' h1 h2 : rm_H} {s0 s s' s1 s2 s4 : rS} {g0 g g' : Nat → Nat} {t0 ts ts' : List Nat} {M K l a10 c10 am cm mlK nm d A B m0 mk0 am0 cm0 a100 c100 np0 : Nat} {v : Nat → Int32} {pt vr cv cp ax i1 i3 : Int32} {fsK : List Value} {ml mks ml0 : List Nat} {P : Nat → Prop} {K9 : Option Nat → Int32 → rm_H → Option dR}
theorem x_mtl (hT : TF cx F N) (hw : 2100 ≤ w) (h14 : cx 14 = 0) (hkk : kk < 8) (hA : bl cx A) (hA1 : mlK < A ∧ cx 10 < A) (hA0 : A ≤ 21 + h0.length) (k2' : fsK[2]? = some (.int ax)) (k5 : fsK[5]? = some (.ref mlK)) (nm1 : mlK ≠ cx 11) (n10 : cx 10 ≠ cx 11) (nmm : mlK ≠ cx 10) (hml0 : ml0.length = m0 + 1) (hm0 : m0 + 9 ≤ 72) (h65 : s0.2.1 65 kk = Int32.ofNat m0) (h66 : s0.2.1 66 kk = ax) : ∀ (r : Nat) (mks : List Nat) (am cm a10 c10 : Nat) (h : rm_H) (s : rS) (g : Nat → Nat) (ts : List Nat) (M1 M2 : Nat), mks.length + r = 8 → r ≤ M1 → r ≤ M2 → OPY (fun y => y = mlK ∨ (y = am0 ∧ 21 ≤ y) ∨ y = cx 10 ∨ (y = a100 ∧ 21 ≤ y)) cx F N q 0 (4 * cm0 + 4 * c100) (4 * cm + 4 * c10) h0 s0 g0 t0 h s g ts → g 6 ≤ 1010 → rMl s0 s (m0 + 1) np0 kk → MJs L xs cx F N q mlK K kk m0 A mk0 ml0 fsK h0 am0 a100 np0 h s g ts mks am cm a10 c10 → MRes L xs cx F N q mlK K kk m0 A mk0 ml0 fsK h0 s0 g0 t0 am0 cm0 a100 c100 np0 i1 K9 (b91_56 L xs zf (dM L xs zf w (201 + k)) w K9 (M1 + 2) (some (cx 7)) i1 (some K) (Int32.ofNat mks.length) h) (s306_167 (rM w (100 + k2)) w (M2 + 2) (Int32.ofNat kk) s) := by
  intro r
  induction r with
  | zero =>
    intro mks am cm a10 c10 h s g ts M1 M2 hr _ _ a hg rl j
    exact x_mstop hT hw h14 hkk hA k2' k5 nm1 n10 nmm hml0 hm0 h65 h66 a hg rl j (by omega) (fun u => by have := u.2.1; omega) M1 M2
  | succ r ih =>
    intro mks am cm a10 c10 h s g ts M1 M2 hr hM1 hM2 a hg rl j
    by_cases go : SY cx F N q h s g ts ∧ mks.length < 8 ∧ (ctk cx F (g 0) = 23 ∨ (ctk cx F (g 0) = 24 ∧ ¬ ax = 0))
    · obtain ⟨z, l8, tk⟩ := go
      obtain ⟨M1', rfl⟩ : ∃ M', M1 = M' + 1 := ⟨M1 - 1, by omega⟩
      obtain ⟨M2', rfl⟩ : ∃ M', M2 = M' + 1 := ⟨M2 - 1, by omega⟩
      obtain ⟨j1, j2, j3, j4, j5, j6, j7, j8, j9⟩ := id j
      obtain ⟨f1, np, f2, f3, f4, f5, f6, f6b, f7⟩ := j9 z
      have ll : (ml0 ++ mks).length = m0 + (1 + mks.length) := by rw [List.length_append]; omega
      have nl := n_lt hT a.1
      have e66 : s.2.1 66 kk = ax := by rw [rl.2.1 66 (by omega)]; exact h66
      have e65 : s.2.1 65 kk = Int32.ofNat m0 := by rw [rl.2.2.1 kk (by omega)]; exact h65
      obtain ⟨⟨p0, ⟨a1, a2, a3, a4⟩, rt, ch, ⟨c1, c2, c3, c4⟩, b1, b2, b3, b4⟩, g6⟩ := id z
      obtain ⟨⟨f5', _, tr⟩, _⟩ := hT.2.2 (g 0) b1
      obtain ⟨so, hso⟩ : ∃ so : Nat, (so = 1 ∧ ctk cx F (g 0) = 23) ∨ (so = 2 ∧ ctk cx F (g 0) = 24 ∧ mx_f1 .ne ax = true) := by
        rcases tk with e | ⟨e, ea⟩
        · exact ⟨1, Or.inl ⟨rfl, e⟩⟩
        · exact ⟨2, Or.inr ⟨rfl, e, by rw [f1_ne]; simp [ea]⟩⟩
      obtain ⟨h', s', g', ts', am', cm', a10', c10', n1, n2, n3, n4, n5, n6, n7, n8, n9, n9', n11, n12, n13, n14⟩ := x_meth1 (L := L) (xs := xs) (zf := zf) (w := w) (k := k) (k2 := k2) (np := np) (kk := kk) hT hw h14 z so hso j1 k2' k5 j2 j3 j4 j5 nm1 n10 nmm (by omega) l8 (by omega) f1 f4
      have alen := a.2.2.1.1
      have nlen := n3.2.2.1.1
      have l1 : (mks ++ [21 + h.length]).length = mks.length + 1 := by rw [List.length_append]; rfl
      have l2 : (ml0 ++ (mks ++ [21 + h.length])).length = (ml0 ++ mks).length + 1 := by rw [List.length_append, l1]; omega
      have res := ih (mks ++ [21 + h.length]) am' cm' a10' c10' h' s' g' ts' M1' M2' (by omega) (by omega) (by omega) (OPY_le (OPY_trans a n3 (fun y hy u => by
        rcases u with u | ⟨u, u21⟩ | u | ⟨u, u21⟩
        · exact Or.inl u
        · rcases j6 with e | e
          · exact Or.inr (Or.inl ⟨u.trans e, u21⟩)
          · omega
        · exact Or.inr (Or.inr (Or.inl u))
        · rcases j7 with e | e
          · exact Or.inr (Or.inr (Or.inr ⟨u.trans e, u21⟩))
          · omega)) (by omega) (by omega)) (by omega) (rMl_trans rl (rMl_m n5 (by omega) f2)) ⟨n6, n7, n8, by rw [← List.append_assoc]; exact n9, by rw [← List.append_assoc]; exact n9', by omega, by omega, fun l2 ar2 cap2 es2 q1 q2 q3 e => n13 _ _ _ _ q1 q2 q3 (j8 _ _ _ _ q1 q2 q3 e), fun u => ?_⟩
      · have cl : b91_56 L xs zf (dM L xs zf w (201 + k)) w K9 (M1' + 1 + 2) (some (cx 7)) i1 (some K) (Int32.ofNat mks.length) h = b91_56 L xs zf (dM L xs zf w (201 + k)) w K9 (M1' + 2) (some (cx 7)) i1 (some K) (Int32.ofNat (mks ++ [21 + h.length]).length) h' := by
          have b86 : b91_86 L xs zf (dM L xs zf w (201 + k)) w K9 (b91_56 L xs zf (dM L xs zf w (201 + k)) w K9 (M1' + 2)) (some (cx 7)) i1 (some K) (Int32.ofNat mks.length) h = b91_56 L xs zf (dM L xs zf w (201 + k)) w K9 (M1' + 2) (some (cx 7)) i1 (some K) (Int32.ofNat (mks ++ [21 + h.length]).length) h' := by
            unfold b91_86
            rw [show (dcV L xs (dM L xs zf w (201 + k)) 142 [8] (some (cx 7)) [va_rf (some K)] h).bind dxV = some h' from by rw [c_pv p0, va_s, n1]; rfl, Option.bind_some, l1, show Int32.ofNat mks.length + 1 = Int32.ofNat (mks.length + 1) from of_add mks.length 1]
          rw [b91_56, if_neg (by rw [f2_gt, of_int (by omega), show (8 : Int32).toInt = 8 from by decide]; simp; omega), c_in p0, Option.bind_some, c_I p0 6 (by omega), Option.bind_some, vS_6]
          rcases tk with e | ⟨e, _⟩
          · rw [e, if_pos (by decide)]
            exact b86
          · rw [e, if_neg (by decide), Option.bind_some, c_I p0 6 (by omega), Option.bind_some, vS_6, e, if_neg (by decide)]
            exact b86
        have q3 : ∀ c, (rM w (100 + k2) 303 [.ref 36, .int c] s).bind rxI = some (rd_01 (decide (F 4 (g 0) = 2 ∧ F 6 (g 0) = c)), s) := fun c => by
          have := q303 (w := w) (k := 99 + k2) c a1 c1 nl.1
          rw [rt.1, rt.2.2.1, show 99 + k2 + 1 = 100 + k2 from by omega] at this
          rw [this]; rfl
        have t3 : (F 4 (g 0) = 2 ∧ F 6 (g 0) = 3) ↔ ctk cx F (g 0) = 23 := wd_iff tr Q3
        have t4 : (F 4 (g 0) = 2 ∧ F 6 (g 0) = 4) ↔ ctk cx F (g 0) = 24 := wd_iff tr Q4
        have ne8 : mx_f2 .ne (Int32.ofNat mks.length) 8 = true := by
          rw [f2_ne]
          apply decide_eq_true
          intro u
          have u2 := congrArg Int32.toInt u
          rw [of_int (by omega), show (8 : Int32).toInt = 8 from by decide] at u2
          omega
        have r232 : s306_232 (rM w (100 + k2)) w (s306_167 (rM w (100 + k2)) w (M2' + 2)) (Int32.ofNat kk) (Int32.ofNat so) (Int32.ofNat kk) s = s306_167 (rM w (100 + k2)) w (M2' + 2) (Int32.ofNat kk) s' := by
          unfold s306_232
          rw [n2]
          rfl
        have r192 : s306_192 (rM w (100 + k2)) w (s306_167 (rM w (100 + k2)) w (M2' + 2)) (Int32.ofNat kk) s = s306_167 (rM w (100 + k2)) w (M2' + 2) (Int32.ofNat kk) s' := by
          unfold s306_192
          rw [kR (Or.inr rfl) (by omega), Option.bind_some, e65, f1, ll, of_dif m0 (1 + mks.length) (by omega), show Int32.ofNat (1 + mks.length) - 1 = Int32.ofNat mks.length from of_dif 1 mks.length (by omega), if_pos ne8, q3, Option.bind_some]
          rcases hso with ⟨e, et⟩ | ⟨e, et, _⟩
          · subst e
            rw [decide_eq_true (t3.mpr et), if_neg (show ¬ mx_f1 .eq (rd_01 true) = true by decide)]
            exact r232
          · subst e
            rw [decide_eq_false (fun u => by rw [t3.mp u] at et; exact absurd et (by decide)), if_pos (show mx_f1 .eq (rd_01 false) = true by decide)]
            exact r232
        have rf : s306_167 (rM w (100 + k2)) w (M2' + 1 + 2) (Int32.ofNat kk) s = s306_167 (rM w (100 + k2)) w (M2' + 2) (Int32.ofNat kk) s' := by
          rw [s306_167, q3, Option.bind_some]
          rcases tk with e | ⟨e, ea⟩
          · rw [decide_eq_true (t3.mpr e), if_pos (show mx_f1 .ne (rd_01 true) = true by decide)]
            exact r192
          · rw [decide_eq_false (fun u => by rw [t3.mp u] at e; exact absurd e (by decide)), if_neg (show ¬ mx_f1 .ne (rd_01 false) = true by decide), aB_at (by omega) t66 (by omega) (by omega), Option.bind_some, e66, if_neg (by rw [f1_eqd]; simp [ea]), q3, Option.bind_some, decide_eq_true (t4.mpr e), if_neg (show ¬ mx_f1 .eq (rd_01 true) = true by decide)]
            exact r192
        rw [cl, rf]
        exact res
      · obtain ⟨w1, ⟨pl, w2, w3, w3b⟩, w4, np', w5, w6, w7, w8, w9⟩ := n14 u
        have ok := Pok_ml (A := A) (B := 21 + h.length) ch j2 j4 (Or.inl hA1.1) (Or.inl hA1.2)
        have g4 := n3.2.2.2.2.1.2
        have nl' := n_lt hT (Or.inl u)
        have hq : ∀ m m2 b2 : Nat, m < m2 → (m2 : Int) < (s'.1 42).toInt → s'.2.1 76 m2 = Int32.ofNat b2 → b2 < 4400 → ((m2 : Int) < (s.1 42).toInt ∧ s.2.1 76 m2 = Int32.ofNat b2) ∨ g 4 ≤ b2 := by
          intro m m2 b2 _ h2 h3 h4
          rw [w4, of_int (by omega)] at h2
          by_cases qe : m2 = (ml0 ++ mks).length
          · subst qe
            obtain ⟨_, _, _, _, _, _, _, Bb, bb, cc, lo', hi', pl2, ph2, _, ob, l1, l2', l3, l4, _⟩ := w3
            have e6' := u.2.1
            have eb := congrArg Int32.toInt (h3.symm.trans ob)
            rw [of_int (by omega), of_int (by omega)] at eb
            exact Or.inr (by omega)
          · exact Or.inl ⟨by rw [f1, of_int (by omega)]; omega, by rw [← n5.2.2.1 76 m2 (by omega) (by omega) qe]; exact h3⟩
        have kp : ∀ {m M}, m < (ml0 ++ mks).length → MX L xs h s (g 4) A (21 + h.length) np m M kk K → MX L xs h' s' (g' 4) A (21 + h'.length) np' m M kk K := fun hm e => MX_le (MX_keep h14 n3 u hA ok (Nat.le_refl _) (mA_of n5 hm (w9.trans f5.symm)) (hq _) e) g4 (by omega) w5
        refine ⟨by rw [l2]; exact w4, np', by omega, by omega, w7, by rw [l2]; exact w8, kp (by omega) f6, by rw [(mA_of n5 (show m0 < (ml0 ++ mks).length by omega) (w9.trans f5.symm)).1 70 (by omega) (by omega)]; exact f6b, fun i d hi => ?_⟩
        by_cases il : i < mks.length
        · rw [List.getElem?_append_left il] at hi
          exact ⟨kp (by omega) (f7 i d hi).1, (f7 i d hi).2.1, by rw [(mA_of n5 (show m0 + 1 + i < (ml0 ++ mks).length by omega) (w9.trans f5.symm)).1 70 (by omega) (by omega)]; exact (f7 i d hi).2.2⟩
        · have ii : i = mks.length := by
            have := (List.getElem?_eq_some_iff.mp hi).1
            omega
          subst ii
          rw [List.getElem?_append_right (Nat.le_refl _), Nat.sub_self] at hi
          have hd : 21 + h.length = d := Option.some.inj hi
          subst hd
          rw [show m0 + 1 + mks.length = (ml0 ++ mks).length from by omega]
          exact ⟨⟨g 4, g' 4, pl, 21 + h'.length, np', w3, nl.2.2.1, ⟨Nat.le_refl _, fun m2 b2 h1 h2 _ _ => by rw [w4, of_int (by omega)] at h2; omega, by omega⟩, by omega, Nat.le_refl _, by omega, w8, Nat.le_refl _, by omega⟩, by omega, MTR_70 w3 w3b (hso.elim (fun z => Or.inl z.1) (fun z => Or.inr z.1)), fun hz => MTR_71 w3 w3b (by
            rcases hso with z | ⟨_, _, z⟩
            · exact z.1
            · rw [k2'] at hz
              have := Value.int.inj (Option.some.inj hz)
              rw [this] at z
              exact absurd z (by decide))⟩
    · obtain ⟨M1', rfl⟩ : ∃ M', M1 = M' + 1 := ⟨M1 - 1, by omega⟩
      exact x_mstop hT hw h14 hkk hA k2' k5 nm1 n10 nmm hml0 hm0 h65 h66 a hg rl j (by omega) go _ M2
end MN
