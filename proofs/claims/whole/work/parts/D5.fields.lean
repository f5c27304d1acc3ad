/-! FIELDS: all of them. -/
/-- the reference behind the fields -/
def feS (s : rS) (kk : Nat) : rS := rs_wA (rs_wA s 64 (kk + 1) (s.1 38)) 65 kk (s.1 42)
/-- Kind K has fields fds so far -/
def FJs (L : Nat) (xs : Nat → Int32) (cx : Nat → Nat) (F : Nat → Nat → Int32) (N : Nat → Int64) (q : List Value) (fl K f0 : Nat) (fsK : List Value) (h0 : rm_H) (h : rm_H) (s : rS) (g : Nat → Nat) (ts : List Nat) (fds : List Nat) (af0 af cf : Nat) : Prop :=
  hc h K = some (.inr (9, fsK)) ∧ aL h fl af cf fds ∧ (af = af0 ∨ 21 + h0.length ≤ af) ∧ (∀ y ∈ fds, oK h y) ∧ (∀ l2 ar2 cap2 es2, l2 ≠ fl → l2 ≠ cx 11 → aL h0 l2 ar2 cap2 es2 → aL h l2 ar2 cap2 es2) ∧ s.1 38 = Int32.ofNat (f0 + fds.length)
  ∧ (SY cx F N q h s g ts → ∀ i d, fds[i]? = some d → DCR L xs h s 67 68 69 d (f0 + i) i ∧ 21 + h0.length ≤ d ∧ d < 21 + h.length)
section FK
variable {L : Nat} {xs : Nat → Int32} {zf : Value} {w k k2 i y f0 kk : Nat} {cx : Nat → Nat} {F : Nat → Nat → Int32} {N : Nat → Int64} {q : List Value} {h0 h h' h1 h2 h5 : rm_H} {s0 s s' s1 s2 : rS} {g0 g g' : Nat → Nat} {t0 ts ts' : List Nat} {v v0 : Nat → Int32} {pt vr i3 : Int32} {K fl af0 cf0 af cf : Nat} {fsK : List Value} {fds : List Nat} {c1 c2 d2 : Nat} {P : Nat → Prop}
theorem rFl_refl (s : rS) (f : Nat) : rFl s s f := ⟨fun _ _ _ _ _ _ => rfl, fun _ _ _ _ => rfl, fun _ _ _ => rfl, fun _ _ => ⟨rfl, rfl, rfl⟩⟩
theorem rFl_trans {f f2 : Nat} (a : rFl s s1 f) (b : rFl s1 s2 f2) (hf : f ≤ f2) : rFl s s2 f := ⟨fun j h1 h2 h3 h4 h5 => (b.1 j h1 h2 h3 h4 h5).trans (a.1 j h1 h2 h3 h4 h5), fun p hp h1 h2 => (b.2.1 p hp h1 h2).trans (a.2.1 p hp h1 h2), fun p h1 h2 => (b.2.2.1 p h1 h2).trans (a.2.2.1 p h1 h2), fun j hj => ⟨((b.2.2.2 j (by omega)).1).trans (a.2.2.2 j hj).1, ((b.2.2.2 j (by omega)).2.1).trans (a.2.2.2 j hj).2.1, ((b.2.2.2 j (by omega)).2.2).trans (a.2.2.2 j hj).2.2⟩⟩
theorem rFl_st {f : Nat} : rFl s (stS s i) f := ⟨fun j _ _ _ h4 h5 => by
  show upd (upd s.1 57 1) 58 (s.2.1 41 i) j = _
  rw [upd_ne _ _ h5, upd_ne _ _ h4], fun _ _ _ _ => rfl, fun _ _ _ => rfl, fun _ _ => ⟨rfl, rfl, rfl⟩⟩
theorem t64 : rs_t 64 = (0, 9, false) ∧ rs_t 65 = (0, 9, false) := by decide
theorem kWt {p i : Nat} {x : Int32} (hp : p = 64 ∨ p = 65) (hi : i < 9) : rs_sI s p (Int32.ofNat i) x = some (rs_wA s p i x) := by
  rcases hp with e | e <;> subst e
  · exact sI_at (by omega) t64.1 hi (by omega)
  · exact sI_at (by omega) t64.2 hi (by omega)
theorem kR {p i : Nat} (hp : p = 64 ∨ p = 65) (hi : i < 9) : rs_aI s p (Int32.ofNat i) = some (s.2.1 p i) := by
  rcases hp with e | e <;> subst e
  · exact aI_at (by omega) t64.1 hi (by omega)
  · exact aI_at (by omega) t64.2 hi (by omega)
/-- a step with one more -/
theorem FJs_ob {fs : List Value} {d : Nat} (h14 : cx 14 = 0) (z : SY cx F N q h s g ts ∨ FLT cx F N q h s g ts) (f : fr (fun y => M4 cx (g 1) y ∨ y = fl ∨ (y = af ∧ 21 ≤ y)) h h') (ef : aL h fl af cf fds) (hd : hc h d = some (.inr (10, fs))) : hc h' d = some (.inr (10, fs)) := by
  obtain ⟨v, pt, vr, p1, ch⟩ := sy_pc z
  refine fr_old f hd (fun u => ?_)
  obtain ⟨mc0, r1, _, _, r3⟩ := id ef
  rcases u with u | u | ⟨u, _⟩
  · rcases u with u | u | u | u | u
    · rw [u, pC_r p1] at hd; cases hd
    · rw [u, ch.1] at hd; cases hd
    · obtain ⟨mc, e, _⟩ := ch.2.1
      rw [u, e] at hd; cases hd
    · have := hc_ge hd
      omega
    · obtain ⟨mc, _, _, _, e3⟩ := ch.2.1
      rcases e3 with ⟨e3, _⟩ | ⟨f0, e3, _⟩
      · have := hc_ge hd
        omega
      · rw [u, e3] at hd; cases hd
  · rw [u, r1] at hd; cases hd
  · rcases r3 with ⟨r3, _⟩ | ⟨f0, r3, _⟩
    · have := hc_ge hd
      omega
    · rw [u, r3] at hd; cases hd
/-- the end of the fields -/
theorem r_fend (hkk : kk < 8) (e5 : (rM w k 303 [.ref 36, .int 5] s).bind rxI = some (0, s)) (M : Nat) : s306_82 (rM w k) w (M + 1) (Int32.ofNat kk) s = rmkE (rM w k) w (Int32.ofNat kk) (feS s kk) := by
  rw [s306_82, e5, Option.bind_some, if_pos (show mx_f1 .eq 0 = true by decide), show Int32.ofNat kk + 1 = Int32.ofNat (kk + 1) from of_add kk 1, kWt (Or.inl rfl) (by omega), Option.bind_some, kWt (Or.inr rfl) (by omega), Option.bind_some]
  rfl
theorem x_fll (hT : TF cx F N) (h14 : cx 14 = 0) (hkk : kk < 8) (k4 : fsK[4]? = some (.ref fl)) (nf : fl ≠ cx 11) (hf0 : f0 + 8 ≤ 64) (h64 : s0.2.1 64 kk = Int32.ofNat f0) : ∀ (r : Nat) (fds : List Nat) (af cf : Nat) (h : rm_H) (s : rS) (g : Nat → Nat) (ts : List Nat) (M1 M2 : Nat), fds.length + r = 8 → r + 2 ≤ M1 → r + 2 ≤ M2 → OPY (fun y => y = fl ∨ (y = af0 ∧ 21 ≤ y)) cx F N q 0 (4 * cf0) (4 * cf) h0 s0 g0 t0 h s g ts → g 6 ≤ g0 6 + 12 → g 3 = g0 3 → rFl s0 s f0 → FJs L xs cx F N q fl K f0 fsK h0 h s g ts fds af0 af cf → ∃ h' s' g' ts' fds' af' cf', b110_2 L xs zf (dM L xs zf w (k + 10)) w (M1 + 1) (some (cx 7)) (some K) (Int32.ofNat fds.length) h = some (none, h') ∧ s306_82 (rM w (k2 + 5)) w (M2 + 1) (Int32.ofNat kk) s = rmkE (rM w (k2 + 5)) w (Int32.ofNat kk) (feS s' kk) ∧ OPY (fun y => y = fl ∨ (y = af0 ∧ 21 ≤ y)) cx F N q 0 (4 * cf0) (4 * cf') h0 s0 g0 t0 h' s' g' ts' ∧ g' 6 ≤ g0 6 + 12 ∧ g' 3 = g0 3 ∧ rFl s0 s' f0 ∧ FJs L xs cx F N q fl K f0 fsK h0 h' s' g' ts' fds' af0 af' cf' ∧ fds'.length ≤ 8 := by
  intro r
  induction r with
  | zero =>
    intro fds af cf h s g ts M1 M2 hr hM hM2 a sl g3 rf j
    obtain ⟨j1, j2, j3, j4, j5, j6, j7⟩ := id j
    obtain ⟨M1', rfl⟩ : ∃ M', M1 = M' + 1 := ⟨M1 - 1, by omega⟩
    obtain ⟨M2', rfl⟩ : ∃ M', M2 = M' + 1 := ⟨M2 - 1, by omega⟩
    have c8 : fds.length = 8 := by omega
    have nl := n_lt hT a.1
    obtain ⟨v, p0⟩ := op_pC a.1
    -- it ends here, or behind a fault
    by_cases t : SY cx F N q h s g ts ∧ ctk cx F (g 0) = 25
    · obtain ⟨z, t25⟩ := t
      obtain ⟨⟨p1, ⟨a1, a2, a3, a4⟩, rt, ch, ⟨c1, c2, c3, c4⟩, b1, b2, b3, b4⟩, g6⟩ := id z
      obtain ⟨⟨f5, _, tr⟩, _⟩ := hT.2.2 (g 0) b1
      obtain ⟨h1, v1, d1, d2, d3, d4⟩ := y_ref (L := L) (xs := xs) (zf := zf) (w := w) (k := k + 9) hT b1 p1
      have fl1 := SY_st hT z d2 d3 d4
      have q3 := q303 (w := w) (k := k2 + 4) 5 a1 c1 nl.1
      rw [rt.1, rt.2.2.1, decide_eq_true ((wd_iff tr Q5).mpr t25)] at q3
      have l1 := d4.2.1
      have y1 := d4.2.2
      have K0 : K ≠ cx 0 := fun e => by rw [e, pC_r p1] at j1; cases j1
      have e64 : s.2.1 64 kk = Int32.ofNat f0 := by rw [rf.2.1 64 (by omega) (by omega) (by omega)]; exact h64
      refine ⟨h1, stS s (g 0), g, ts, fds, af, cf, ?_, ?_, ?_, sl, g3, rFl_trans rf rFl_st (Nat.le_refl _), ⟨st1_old d4 j1 K0, aL_st (pC_r p1) (by decide) d4 j2, j3, fun y hy => oK_fr d4.1 (j4 y hy), fun l2 ar2 cap2 es2 n1 n2 e => aL_st (pC_r p1) (by decide) d4 (j5 _ _ _ _ n1 n2 e), j6, fun u => (sy_no u fl1).elim⟩, by omega⟩
      · rw [b110_2, c8, if_neg (by decide), c_in p1, Option.bind_some, c_I p1 6 (by omega), Option.bind_some, vS_6, t25, if_neg (by decide), if_neg (by decide), Option.bind_some, show (dcV L xs (dM L xs zf w (k + 10)) 95 [6] (some (cx 0)) [] h).bind dxV = some h1 from by rw [c_rv p1, d1]; rfl, Option.bind_some]
        show b110_2 L xs zf (dM L xs zf w (k + 10)) w (M1' + 1) (some (cx 7)) (some K) (Int32.ofNat 8 + 1) h1 = _
        rw [b110_2, if_pos (by decide)]
        rfl
      · rw [s306_82, show (rM w (k2 + 5) 303 [.ref 36, .int 5] s).bind rxI = some (rd_01 true, s) from by rw [q3]; rfl, Option.bind_some, if_neg (show ¬ mx_f1 .eq (rd_01 true) = true by decide), kR (Or.inl rfl) (by omega), Option.bind_some, e64, j6, of_dif f0 fds.length (by omega), c8, if_neg (by decide), show (rM w (k2 + 5) 304 [.ref 36] s).bind rxV = some (stS s (g 0)) from by rw [q304 (k := k2 + 3) a1 c1 nl.1]; rfl, Option.bind_some]
        exact r_fend hkk (by rw [z303 (k := k2 + 4) 5 rfl]; rfl) M2'
      · obtain ⟨o1, o2, o3, o4, o5, o6, o7⟩ := a
        exact ⟨Or.inr fl1, fun u => (sy_no u fl1).elim, fr_trans o3 d4.1 (fun _ _ u => Or.inl (Or.inl u)), o4, o5, by omega, by omega⟩
    · have no : ∃ v, pC h cx F v ∧ ¬ v 6 = 25 := by
        rcases a.1 with y | y
        · exact ⟨_, y.1.1, fun e => t ⟨y, e⟩⟩
        · obtain ⟨⟨v, p1, r⟩, _⟩ := y
          exact ⟨v, p1, by rw [r.2.1]; decide⟩
      obtain ⟨v1, p1, n25⟩ := no
      refine ⟨h, s, g, ts, fds, af, cf, ?_, ?_, a, sl, g3, rf, j, by omega⟩
      · rw [b110_2, c8, if_neg (by decide), c_in p1, Option.bind_some, c_I p1 6 (by omega), Option.bind_some, if_pos (by rw [f2_ne]; exact decide_eq_true n25)]
        rfl
      · refine r_fend hkk ?_ _
        rcases a.1 with y | y
        · obtain ⟨⟨p2, ⟨a1, a2, a3, a4⟩, rt, ch, ⟨c1, c2, c3, c4⟩, b1, b2, b3, b4⟩, g6⟩ := id y
          obtain ⟨⟨f5, _, tr⟩, _⟩ := hT.2.2 (g 0) b1
          rw [q303 (k := k2 + 4) 5 a1 c1 nl.1, rt.1, rt.2.2.1, decide_eq_false (fun u => t ⟨y, (wd_iff tr Q5).mp u⟩)]
          rfl
        · rw [z303 (k := k2 + 4) 5 y.2.1]
          rfl
  | succ r ih =>
    intro fds af cf h s g ts M1 M2 hr hM hM2 a sl g3 rf j
    obtain ⟨j1, j2, j3, j4, j5, j6, j7⟩ := id j
    obtain ⟨M1', rfl⟩ : ∃ M', M1 = M' + 1 := ⟨M1 - 1, by omega⟩
    obtain ⟨M2', rfl⟩ : ∃ M', M2 = M' + 1 := ⟨M2 - 1, by omega⟩
    have nl := n_lt hT a.1
    have gt8 : ¬ mx_f2 .gt (Int32.ofNat fds.length) 8 = true := by
      rw [f2_gt, of_int (by omega), show (8 : Int32).toInt = 8 from by decide]
      simp
      omega
    have ne8 : mx_f2 .ne (Int32.ofNat fds.length) 8 = true := by
      rw [f2_ne]
      apply decide_eq_true
      intro u
      have u2 := congrArg Int32.toInt u
      rw [of_int (by omega), show (8 : Int32).toInt = 8 from by decide] at u2
      omega
    by_cases t : SY cx F N q h s g ts ∧ ctk cx F (g 0) = 25
    · obtain ⟨z, t25⟩ := t
      obtain ⟨⟨p1, ⟨a1, a2, a3, a4⟩, rt, ch, ⟨c1, c2, c3, c4⟩, b1, b2, b3, b4⟩, g6⟩ := id z
      obtain ⟨⟨f5, _, tr⟩, _⟩ := hT.2.2 (g 0) b1
      have q3 := q303 (w := w) (k := k2 + 4) 5 a1 c1 nl.1
      rw [rt.1, rt.2.2.1, decide_eq_true ((wd_iff tr Q5).mpr t25)] at q3
      have e64 : s.2.1 64 kk = Int32.ofNat f0 := by rw [rf.2.1 64 (by omega) (by omega) (by omega)]; exact h64
      obtain ⟨h', s', g', ts', af', cf', m1, m2, m3, m4, m5, m6, m7, m8, m9, m10, m11, m12, m13⟩ := x_fld1 (L := L) (xs := xs) (zf := zf) (w := w) (k := k) (k2 := k2) (f := f0 + fds.length) hT h14 z t25 j1 k4 j2 j4 nf (by omega) j6 (by omega)
      have lds : (fds ++ [21 + h.length]).length = fds.length + 1 := by rw [List.length_append]; rfl
      have alen := a.2.2.1.1
      have res := ih (fds ++ [21 + h.length]) af' cf' h' s' g' ts' M1' M2' (by omega) (by omega) (by omega) (OPY_le (OPY_trans a m3 (fun y hy u => by
        rcases u with u | ⟨u, u21⟩
        · exact Or.inl u
        · rcases j3 with e | e
          · exact Or.inr ⟨u.trans e, u21⟩
          · omega)) (by omega) (by omega)) (by omega) (m5.trans g3) (rFl_trans rf m6 (by omega)) ⟨m7, m8, by omega, m9, fun l2 ar2 cap2 es2 n1 n2 e => m11 _ _ _ _ n1 n2 (j5 _ _ _ _ n1 n2 e), by rw [lds]; exact m12, fun u i d hi => ?_⟩
      · obtain ⟨h'', s'', g'', ts'', fds'', af'', cf'', n1, n2, n3⟩ := res
        refine ⟨h'', s'', g'', ts'', fds'', af'', cf'', ?_, ?_, n3⟩
        · rw [b110_2, if_neg gt8, c_in p1, Option.bind_some, c_I p1 6 (by omega), Option.bind_some, vS_6, t25, if_neg (by decide), if_pos ne8]
          have m1' := m1 (b110_2 L xs zf (dM L xs zf w (k + 10)) w (M1' + 1))
          unfold b110_f at m1'
          rw [c_in p1, Option.bind_some] at m1'
          rw [lds, show Int32.ofNat (fds.length + 1) = Int32.ofNat fds.length + 1 from (of_add fds.length 1).symm] at n1
          exact m1'.trans n1
        · rw [s306_82, show (rM w (k2 + 5) 303 [.ref 36, .int 5] s).bind rxI = some (rd_01 true, s) from by rw [q3]; rfl, Option.bind_some, if_neg (show ¬ mx_f1 .eq (rd_01 true) = true by decide), kR (Or.inl rfl) (by omega), Option.bind_some, e64, j6, of_dif f0 fds.length (by omega), if_pos ne8, show (rM w (k2 + 5) 311 [.ref 36] s).bind rxV = some s' from by rw [m2]; rfl, Option.bind_some]
          exact n2
      · obtain ⟨w1, w2, w3⟩ := m13 u
        have yy := (m3.2.1 u).2.2
        by_cases il : i < fds.length
        · rw [List.getElem?_append_left il] at hi
          obtain ⟨x1, x2, x3⟩ := j7 z i d hi
          obtain ⟨r1, r2, r3⟩ := m6.2.2.2 (f0 + i) (by omega)
          have ll := m3.2.2.1.1
          refine ⟨DCR_fr (fun jj _ uu e => ?_) (fun _ _ e => nS_fr m3.2.2.1 e) yy r1 r2 r3 x1, x2, by omega⟩
          obtain ⟨fs, e1, e2⟩ := fd_c e
          rw [fd_of (FJs_ob h14 (Or.inl z) m3.2.2.1 j2 e1)]
          exact e2
        · have ii : i = fds.length := by
            have := (List.getElem?_eq_some_iff.mp hi).1
            omega
          subst ii
          rw [List.getElem?_append_right (Nat.le_refl _), Nat.sub_self] at hi
          have hd : 21 + h.length = d := Option.some.inj hi
          subst hd
          exact ⟨w2, by omega, w3⟩
    · have no : ∃ v, pC h cx F v ∧ ¬ v 6 = 25 := by
        rcases a.1 with y | y
        · exact ⟨_, y.1.1, fun e => t ⟨y, e⟩⟩
        · obtain ⟨⟨v, p1, r⟩, _⟩ := y
          exact ⟨v, p1, by rw [r.2.1]; decide⟩
      obtain ⟨v1, p1, n25⟩ := no
      refine ⟨h, s, g, ts, fds, af, cf, ?_, ?_, a, sl, g3, rf, j, by omega⟩
      · rw [b110_2, if_neg gt8, c_in p1, Option.bind_some, c_I p1 6 (by omega), Option.bind_some, if_pos (by rw [f2_ne]; exact decide_eq_true n25)]
        rfl
      · refine r_fend hkk ?_ _
        rcases a.1 with y | y
        · obtain ⟨⟨p2, ⟨a1, a2, a3, a4⟩, rt, ch, ⟨c1, c2, c3, c4⟩, b1, b2, b3, b4⟩, g6⟩ := id y
          obtain ⟨⟨f5, _, tr⟩, _⟩ := hT.2.2 (g 0) b1
          rw [q303 (k := k2 + 4) 5 a1 c1 nl.1, rt.1, rt.2.2.1, decide_eq_false (fun u => t ⟨y, (wd_iff tr Q5).mp u⟩)]
          rfl
        · rw [z303 (k := k2 + 4) 5 y.2.1]
          rfl
end FK
