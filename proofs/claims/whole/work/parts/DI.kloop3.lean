/-! KINDS: the loop. -/
section KI
variable {L : Nat} {xs : Nat → Int32} {zf : Value} {w k k2 i : Nat} {cx : Nat → Nat} {F : Nat → Nat → Int32} {N : Nat → Int64} {q : List Value} {h0 h h' h1 h2 : rm_H} {s0 s s' s1 s2 : rS} {g0 g g' : Nat → Nat} {ts ts' : List Nat} {K a9 c9 a10 c10 A B a90 c90 a100 c100 : Nat} {v : Nat → Int32} {pt vr i1 : Int32} {kl ml : List Nat} {P : Nat → Prop}
theorem x_kinds (hT : TF cx F N) (hw : 2100 ≤ w) (h14 : cx 14 = 0) (hA : bl cx A) (hA1 : cx 9 < A ∧ cx 10 < A) (hA0 : A ≤ 21 + h0.length) (n9 : cx 9 ≠ cx 11) (n10 : cx 10 ≠ cx 11) (n90 : cx 9 ≠ cx 10) : ∀ (r : Nat) (kl ml : List Nat) (a9 c9 a10 c10 : Nat) (h : rm_H) (s : rS) (g : Nat → Nat) (ts : List Nat) (M1 M2 : Nat), kl.length + r = 8 → r ≤ M1 → r ≤ M2 → OPV (fun y => y = cx 9 ∨ (y = a90 ∧ 21 ≤ y) ∨ y = cx 10 ∨ (y = a100 ∧ 21 ≤ y)) cx (4 * c90 + 4 * c100) (4 * c9 + 4 * c10 + 216 * kl.length) h0 g0 h g → g 6 ≤ 1010 → rKd s0 s 0 0 0 0 → s.1 32 = Int32.ofNat kl.length → aL h (cx 9) a9 c9 kl → (∀ y ∈ kl, oK h y) → aL h (cx 10) a10 c10 ml → (∀ y ∈ ml, oK h y) → (a9 = a90 ∨ 21 + h0.length ≤ a9) → (a10 = a100 ∨ 21 + h0.length ≤ a10) → ((SZ cx F N q h s g ts ∧ KJs L xs cx F N q A h s g ts kl ml) ∨ (FLT cx F N q h s g ts ∧ kl.length ≠ 0 ∧ ml.length ≤ 90)) → KRes L xs zf cx F N q A w k h0 s0 g0 a90 a100 (4 * c90 + 4 * c100) (b91_9 L xs zf (dM L xs zf w (201 + k)) w (M1 + 1) (some (cx 7)) (Int32.ofNat kl.length) h) (s302_0 (rM w (101 + k2)) w (M2 + 2) s) := by
  intro r
  induction r with
  | zero =>
    intro kl ml a9 c9 a10 c10 h s g ts M1 M2 hr _ _ a hg rk x32 e9 o9 e10 o10 b9 b10 st
    have c9b : c9 ≤ 2 * kl.length + 10 := by obtain ⟨_, _, _, e, _⟩ := e9; exact e
    have c10b : c10 ≤ 2 * ml.length + 10 := by obtain ⟨_, _, _, e, _⟩ := e10; exact e
    rcases st with ⟨z, j⟩ | ⟨z, kn, mb⟩
    · have mb := j.1
      rcases k_stop (L := L) (xs := xs) (zf := zf) (w := w) (k := k) (k2 := k2) hT z x32 (by omega) (fun u => by have := u.1; omega) M1 M2 with ⟨kn, c, r⟩ | ⟨h', c, r, f, wr⟩
      · exact ⟨h, s, g, ts, c, r, OPV_le a (by omega), hg, rk, Or.inl ⟨kl, ml, a9, c9, a10, c10, (j.2.2.1 kn).1, by omega, kn, x32, e9, o9, e10, o10, j⟩⟩
      · exact ⟨h', _, g, ts, c, r, OPV_le (OPV_trans a (OPV_st (P := fun _ => False) wr) (fun _ _ u => u.elim)) (by omega), hg, rKd_trans rk (rKd_ty rTy_st), Or.inr f⟩
    · obtain ⟨h', c, r, f, wr⟩ := k_flt (L := L) (xs := xs) (zf := zf) (w := w) (k := k) (k2 := k2) hT z kn (by omega) M1 (M2 + 1)
      exact ⟨h', s, g, ts, c, r, OPV_le (OPV_trans a (OPV_st (P := fun _ => False) wr) (fun _ _ u => u.elim)) (by omega), hg, rk, Or.inr f⟩
  | succ r ih =>
    intro kl ml a9 c9 a10 c10 h s g ts M1 M2 hr hM1 hM2 a hg rk x32 e9 o9 e10 o10 b9 b10 st
    have c9b : c9 ≤ 2 * kl.length + 10 := by obtain ⟨_, _, _, e, _⟩ := e9; exact e
    have c10b : c10 ≤ 2 * ml.length + 10 := by obtain ⟨_, _, _, e, _⟩ := e10; exact e
    rcases st with ⟨z, j⟩ | ⟨z, kn, mb⟩
    · have mb := j.1
      by_cases tk : ctk cx F (g 0) = 20 ∨ ctk cx F (g 0) = 21
      · obtain ⟨M1', rfl⟩ : ∃ M', M1 = M' + 1 := ⟨M1 - 1, by omega⟩
        obtain ⟨M2', rfl⟩ : ∃ M', M2 = M' + 1 := ⟨M2 - 1, by omega⟩
        obtain ⟨j1, j2, j3, f0, np, j4, j5, j6, j7, j8, j9⟩ := id j
        obtain ⟨ax, htk⟩ : ∃ ax : Int32, (ctk cx F (g 0) = 20 ∧ ax = 0) ∨ (ctk cx F (g 0) = 21 ∧ ax = 1) := by
          rcases tk with e | e
          · exact ⟨0, Or.inl ⟨e, rfl⟩⟩
          · exact ⟨1, Or.inr ⟨e, rfl⟩⟩
        obtain ⟨⟨p, ⟨a1, a2, a3, a4⟩, rt, ch, ⟨c1, c2, c3, c4⟩, d1, d2, d3, d4⟩, g6⟩ := id z
        have hT1 := hT.1
        obtain ⟨⟨f5, _, tr⟩, _⟩ := hT.2.2 (g 0) d1
        obtain ⟨h', s', g', ts', a9', c9', a10', c10', mk, mks, n1, n2, n3, n4, n5, n6, n7, n8, n9', n10', n11, n12, n13, n14, n15⟩ := x_kind (L := L) (xs := xs) (zf := zf) (w := w) (k := k) (k2 := k2) (kk := kl.length) (i1 := Int32.ofNat kl.length) (K9 := b91_9 L xs zf (dM L xs zf w (201 + k)) w (M1' + 1)) (f0 := f0) (np := np) hT hw h14 z ax htk (by omega) x32 e9 o9 e10 o10 n9 n10 n90 rfl mb j5 j4 j2 j7 j6 j8
        have al := a.1.1
        have len := n3.2.2.1.1
        have l1 : (kl ++ [21 + h.length]).length = kl.length + 1 := by rw [List.length_append]; rfl
        have l2 : (ml ++ [mk] ++ mks).length = ml.length + 1 + mks.length := by rw [List.length_append, List.length_append]; rfl
        have res := ih (kl ++ [21 + h.length]) (ml ++ [mk] ++ mks) a9' c9' a10' c10' h' s' g' ts' M1' M2' (by omega) (by omega) (by omega) (OPV_le (OPV_trans a (OPV_W n3) (fun y hy u => by
          rcases u with u | ⟨u, u21⟩ | u | ⟨u, u21⟩
          · exact Or.inl u
          · rcases b9 with e | e
            · exact Or.inr (Or.inl ⟨u.trans e, u21⟩)
            · omega
          · exact Or.inr (Or.inr (Or.inl u))
          · rcases b10 with e | e
            · exact Or.inr (Or.inr (Or.inr ⟨u.trans e, u21⟩))
            · omega)) (by rw [l1]; omega)) n4 (rKd_trans rk (rKd_le n5)) (by rw [l1]; exact n13) n6 n7 n8 n9' (by omega) (by omega) ?_
        · have cl : b91_9 L xs zf (dM L xs zf w (201 + k)) w (M1' + 1 + 1) (some (cx 7)) (Int32.ofNat kl.length) h = b91_9 L xs zf (dM L xs zf w (201 + k)) w (M1' + 1) (some (cx 7)) (Int32.ofNat (kl ++ [21 + h.length]).length) h' := by
            rw [l1, show Int32.ofNat (kl.length + 1) = Int32.ofNat kl.length + 1 from (of_add kl.length 1).symm, b91_9, if_neg (by rw [f2_ge, of_int (by omega), show (8 : Int32).toInt = 8 from by decide]; simp; omega), c_in p, Option.bind_some, c_I p 6 (by omega), Option.bind_some, vS_6]
            rcases tk with e | e
            · rw [e, if_pos (by decide)]
              exact n1
            · rw [e, if_neg (by decide), Option.bind_some, c_I p 6 (by omega), Option.bind_some, vS_6, e, if_neg (by decide)]
              exact n1
          have q3 : ∀ c, (rM w (101 + k2) 303 [.ref 36, .int c] s).bind rxI = some (rd_01 (decide (F 4 (g 0) = 2 ∧ F 6 (g 0) = c)), s) := fun c => by
            have := q303 (w := w) (k := 100 + k2) c a1 c1 (by omega : g 0 ≤ 2000)
            rw [rt.1, rt.2.2.1, show 100 + k2 + 1 = 101 + k2 from by omega] at this
            rw [this]; rfl
          have t0i : (F 4 (g 0) = 2 ∧ F 6 (g 0) = 0) ↔ ctk cx F (g 0) = 20 := wd_iff tr Q0
          have t1i : (F 4 (g 0) = 2 ∧ F 6 (g 0) = 1) ↔ ctk cx F (g 0) = 21 := wd_iff tr Q1
          have s16 : s302_16 (rM w (101 + k2)) w (s302_0 (rM w (101 + k2)) w (M2' + 2)) s = s302_0 (rM w (101 + k2)) w (M2' + 2) s' := by
            unfold s302_16
            rw [x32, if_pos (by
              rw [f2_ne]
              apply decide_eq_true
              intro u
              have u2 := congrArg Int32.toInt u
              rw [of_int (by omega), show (8 : Int32).toInt = 8 from by decide] at u2
              omega), n2]
            rfl
          have rf : s302_0 (rM w (101 + k2)) w (M2' + 1 + 2) s = s302_0 (rM w (101 + k2)) w (M2' + 2) s' := by
            rw [s302_0, q3, Option.bind_some]
            by_cases e20 : ctk cx F (g 0) = 20
            · rw [decide_eq_true (t0i.mpr e20), if_pos (show mx_f1 .ne (rd_01 true) = true by decide)]
              exact s16
            · have e21 : ctk cx F (g 0) = 21 := tk.elim (fun e => absurd e e20) id
              rw [decide_eq_false (fun u => e20 (t0i.mp u)), if_neg (show ¬ mx_f1 .ne (rd_01 false) = true by decide), q3, Option.bind_some, decide_eq_true (t1i.mpr e21), if_neg (show ¬ mx_f1 .eq (rd_01 true) = true by decide)]
              exact s16
          rw [cl, rf]
          exact res
        · rcases n3.1 with u | u
          · left
            obtain ⟨⟨o1, b0, ob1, ob2⟩, o2, o3, o4, ⟨o5, o6, o7, o8⟩, f1, np', o9', o10', o11, o12, o13, o14, o15, o16⟩ := n15 u
            obtain ⟨_, sx, ya⟩ := n3.2.1 u
            have z0 : s'.2.1 64 0 = 0 ∧ s'.2.1 65 0 = 0 := by
              by_cases k0 : kl.length = 0
              · rw [k0] at o7 o8
                have f00 : f0 = 0 := by omega
                have m00 : ml.length = 0 := by omega
                refine ⟨o7.trans ?_, o8.trans ?_⟩
                · rw [j5, f00]; rfl
                · rw [j2, m00]; rfl
              · obtain ⟨_, _, _, q3, q4⟩ := j3 k0
                exact ⟨(n5.2.2.1 64 0 (by omega) (by omega) (by omega)).trans q3, (n5.2.2.1 65 0 (by omega) (by omega) (by omega)).trans q4⟩
            refine ⟨SZ_SY u, by omega, o2, fun _ => ⟨u, by rw [l1]; exact o5, by rw [l1]; exact o6, z0.1, z0.2⟩, f1, np', by omega, o11, o13, o14, o15, fun jx K hj => ?_⟩
            by_cases il : jx < kl.length
            · rw [List.getElem?_append_left il] at hj
              rw [List.append_assoc]
              exact KX_keep h14 p ch n3.2.2.1 sx ya hA hA1 e9 e10 (Nat.le_refl _) n5 o4 n12 il (fun e => by
                obtain ⟨_, q1, q2, _⟩ := j3 (by omega)
                exact ⟨o7.trans q1.symm, o8.trans q2.symm⟩) n3.2.2.2.2.1.2 (by omega) o12 o9' (j9 jx K hj) j2 (by omega) (kx_lo o16 (o8.trans j2) (by omega) (by rw [List.length_append, List.length_append]; show ml.length + 1 + mks.length ≤ _; omega) ob1 ob2)
            · have ii : jx = kl.length := by
                have := (List.getElem?_eq_some_iff.mp hj).1
                omega
              subst ii
              rw [List.getElem?_append_right (Nat.le_refl _), Nat.sub_self] at hj
              have hd : 21 + h.length = K := Option.some.inj hj
              subst hd
              exact KX_leA o16 (by omega)
          · right
            exact ⟨u, by omega, by omega⟩
      · rcases k_stop (L := L) (xs := xs) (zf := zf) (w := w) (k := k) (k2 := k2) hT z x32 (by omega) (fun u => tk u.2) M1 M2 with ⟨kn, c, r⟩ | ⟨h', c, r, f, wr⟩
        · exact ⟨h, s, g, ts, c, r, OPV_le a (by omega), hg, rk, Or.inl ⟨kl, ml, a9, c9, a10, c10, (j.2.2.1 kn).1, by omega, kn, x32, e9, o9, e10, o10, j⟩⟩
        · exact ⟨h', _, g, ts, c, r, OPV_le (OPV_trans a (OPV_st (P := fun _ => False) wr) (fun _ _ u => u.elim)) (by omega), hg, rKd_trans rk (rKd_ty rTy_st), Or.inr f⟩
    · obtain ⟨h', c, r, f, wr⟩ := k_flt (L := L) (xs := xs) (zf := zf) (w := w) (k := k) (k2 := k2) hT z kn (by omega) M1 (M2 + 1)
      exact ⟨h', s, g, ts, c, r, OPV_le (OPV_trans a (OPV_st (P := fun _ => False) wr) (fun _ _ u => u.elim)) (by omega), hg, rk, Or.inr f⟩
end KI
