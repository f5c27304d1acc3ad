/-! KINDS: all of them by both. -/
section KH
variable {L : Nat} {xs : Nat → Int32} {zf : Value} {w k k2 i : Nat} {cx : Nat → Nat} {F : Nat → Nat → Int32} {N : Nat → Int64} {q : List Value} {h0 h h' h1 h2 : rm_H} {s0 s s' s1 s2 : rS} {g0 g g' : Nat → Nat} {ts ts' : List Nat} {K a9 c9 a10 c10 A B a90 c90 a100 c100 : Nat} {v : Nat → Int32} {pt vr i1 : Int32} {kl ml : List Nat} {P : Nat → Prop}
theorem k_stop (hT : TF cx F N) (z : SZ cx F N q h s g ts) (x32 : s.1 32 = Int32.ofNat kl.length) (hk8 : kl.length ≤ 8) (hn : ¬ (kl.length < 8 ∧ (ctk cx F (g 0) = 20 ∨ ctk cx F (g 0) = 21))) (M1 M2 : Nat) : (kl.length ≠ 0 ∧ b91_9 L xs zf (dM L xs zf w (201 + k)) w (M1 + 1) (some (cx 7)) (Int32.ofNat kl.length) h = b91_130 L xs zf (dM L xs zf w (201 + k)) w (some (cx 7)) h ∧ s302_0 (rM w (101 + k2)) w (M2 + 2) s = some (none, s)) ∨ ∃ h', b91_9 L xs zf (dM L xs zf w (201 + k)) w (M1 + 1) (some (cx 7)) (Int32.ofNat kl.length) h = b91_130 L xs zf (dM L xs zf w (201 + k)) w (some (cx 7)) h' ∧ s302_0 (rM w (101 + k2)) w (M2 + 2) s = some (none, stS s (g 0)) ∧ FLT cx F N q h' (stS s (g 0)) g ts ∧ st1 (cx 0) h h' := by
  obtain ⟨⟨p, ⟨a1, a2, a3, a4⟩, rt, ch, ⟨c1, c2, c3, c4⟩, b1, b2, b3, b4⟩, g6⟩ := id z
  have hT1 := hT.1
  have hl : g 0 ≤ 2000 := by omega
  obtain ⟨⟨f5, _, tr⟩, _⟩ := hT.2.2 (g 0) b1
  obtain ⟨h1, v1, d1, d2, d3, d4⟩ := y_ref (L := L) (xs := xs) (zf := zf) (w := w) (k := 200 + k) hT b1 p
  rw [show 200 + k + 1 = 201 + k from by omega] at d1
  have fl := SZ_st hT z d2 d3 d4
  have i0 : mx_f1 .eq (Int32.ofNat kl.length) = decide (kl.length = 0) := by
    rw [f1_eqd]
    by_cases e : kl.length = 0
    · rw [e]; decide
    · rw [decide_eq_false e]
      apply decide_eq_false
      intro u
      have u2 := congrArg Int32.toInt u
      rw [of_int (by omega), show (0 : Int32).toInt = 0 from by decide] at u2
      omega
  have b123 : b91_123 L xs zf (dM L xs zf w (201 + k)) w (some (cx 7)) h = b91_130 L xs zf (dM L xs zf w (201 + k)) w (some (cx 7)) h1 := by
    unfold b91_123
    rw [c_in p, Option.bind_some, show (dcV L xs (dM L xs zf w (201 + k)) 95 [6] (some (cx 0)) [] h).bind dxV = some h1 from by rw [c_rv p, d1]; rfl, Option.bind_some]
  have b9 : b91_9 L xs zf (dM L xs zf w (201 + k)) w (M1 + 1) (some (cx 7)) (Int32.ofNat kl.length) h = b91_109 L xs zf (dM L xs zf w (201 + k)) w (some (cx 7)) (Int32.ofNat kl.length) h := by
    rw [b91_9]
    by_cases e8 : kl.length = 8
    · rw [e8, if_pos (by decide)]
    · have n20 : ¬ ctk cx F (g 0) = 20 := fun e => hn ⟨by omega, Or.inl e⟩
      have n21 : ¬ ctk cx F (g 0) = 21 := fun e => hn ⟨by omega, Or.inr e⟩
      rw [if_neg (by rw [f2_ge, of_int (by omega), show (8 : Int32).toInt = 8 from by decide]; simp; omega), c_in p, Option.bind_some, c_I p 6 (by omega), Option.bind_some, vS_6, if_neg (by rw [f2_eqd]; simp [n20]), Option.bind_some, c_I p 6 (by omega), Option.bind_some, vS_6, if_pos (by rw [f2_ne]; simp [n21])]
  have b109 : b91_109 L xs zf (dM L xs zf w (201 + k)) w (some (cx 7)) (Int32.ofNat kl.length) h = if kl.length ≠ 0 ∧ ctk cx F (g 0) = 0 then b91_130 L xs zf (dM L xs zf w (201 + k)) w (some (cx 7)) h else b91_130 L xs zf (dM L xs zf w (201 + k)) w (some (cx 7)) h1 := by
    unfold b91_109
    rw [i0]
    by_cases e : kl.length = 0
    · rw [decide_eq_true e, if_pos rfl, if_neg (fun u => u.1 e)]
      exact b123
    · rw [decide_eq_false e, if_neg (by decide), c_in p, Option.bind_some, c_I p 6 (by omega), Option.bind_some, vS_6]
      by_cases t0 : ctk cx F (g 0) = 0
      · rw [if_pos (show kl.length ≠ 0 ∧ ctk cx F (g 0) = 0 from ⟨e, t0⟩), t0, if_pos (by decide)]
      · rw [if_neg (show ¬ (kl.length ≠ 0 ∧ ctk cx F (g 0) = 0) from fun u => t0 u.2), if_neg (by rw [f1_eqd]; simp [t0])]
        exact b123
  have q3 : ∀ c, (rM w (101 + k2) 303 [.ref 36, .int c] s).bind rxI = some (rd_01 (decide (F 4 (g 0) = 2 ∧ F 6 (g 0) = c)), s) := fun c => by
    have := q303 (w := w) (k := 100 + k2) c a1 c1 hl
    rw [rt.1, rt.2.2.1, show 100 + k2 + 1 = 101 + k2 from by omega] at this
    rw [this]; rfl
  have q4 : (rM w (101 + k2) 304 [.ref 36] s).bind rxV = some (stS s (g 0)) := by
    rw [show 101 + k2 = 99 + k2 + 2 from by omega, q304 (k := 99 + k2) a1 c1 hl]; rfl
  have t0i : (F 4 (g 0) = 2 ∧ F 6 (g 0) = 0) ↔ ctk cx F (g 0) = 20 := wd_iff tr Q0
  have t1i : (F 4 (g 0) = 2 ∧ F 6 (g 0) = 1) ↔ ctk cx F (g 0) = 21 := wd_iff tr Q1
  have so0 : F 4 (g 0) = 0 ↔ ctk cx F (g 0) = 0 := (so_iff tr).2.2.2.1
  have n32 : mx_f1 .ne (s.1 32) = decide (kl.length ≠ 0) := by
    rw [x32]
    have : mx_f1 .ne (Int32.ofNat kl.length) = ! mx_f1 .eq (Int32.ofNat kl.length) := by
      rw [f1_ne, f1_eqd]; simp
    rw [this, i0]
    simp
  by_cases tk : ctk cx F (g 0) = 20 ∨ ctk cx F (g 0) = 21
  · right
    have e8 : kl.length = 8 := by
      by_cases e : kl.length = 8
      · exact e
      · exact absurd ⟨by omega, tk⟩ hn
    have tn0 : ¬ ctk cx F (g 0) = 0 := by rcases tk with e | e <;> rw [e] <;> decide
    refine ⟨h1, ?_, ?_, fl, d4⟩
    · rw [b9, b109, if_neg (fun u => tn0 u.2)]
    · have s16 : s302_16 (rM w (101 + k2)) w (s302_0 (rM w (101 + k2)) w (M2 + 1)) s = some (none, stS s (g 0)) := by
        unfold s302_16
        rw [x32, e8, if_neg (by decide), q4, Option.bind_some]
        have z3 : ∀ c, (rM w (101 + k2) 303 [.ref 36, .int c] (stS s (g 0))).bind rxI = some (0, stS s (g 0)) := fun c => by
          rw [show 101 + k2 = 100 + k2 + 1 from by omega, z303 (k := 100 + k2) c rfl]; rfl
        rw [s302_0, z3, Option.bind_some, if_neg (show ¬ mx_f1 .ne (0 : Int32) = true by decide), z3, Option.bind_some, if_pos (show mx_f1 .eq (0 : Int32) = true by decide), if_pos (show mx_f1 .ne ((stS s (g 0)).1 57) = true from ne1 rfl)]
        rfl
      rw [s302_0, q3, Option.bind_some]
      by_cases e20 : ctk cx F (g 0) = 20
      · rw [decide_eq_true (t0i.mpr e20), if_pos (show mx_f1 .ne (rd_01 true) = true by decide)]
        exact s16
      · have e21 : ctk cx F (g 0) = 21 := tk.elim (fun e => absurd e e20) id
        rw [decide_eq_false (fun u => e20 (t0i.mp u)), if_neg (show ¬ mx_f1 .ne (rd_01 false) = true by decide), q3, Option.bind_some, decide_eq_true (t1i.mpr e21), if_neg (show ¬ mx_f1 .eq (rd_01 true) = true by decide)]
        exact s16
  · have n20 : ¬ ctk cx F (g 0) = 20 := fun e => tk (Or.inl e)
    have n21 : ¬ ctk cx F (g 0) = 21 := fun e => tk (Or.inr e)
    have r0 : s302_0 (rM w (101 + k2)) w (M2 + 2) s = if mx_f1 .ne (F 4 (g 0)) = true then s302_65 (rM w (101 + k2)) w s else if mx_f1 .ne (s.1 32) = true then s302_69 (rM w (101 + k2)) w s else s302_65 (rM w (101 + k2)) w s := by
      rw [s302_0, q3, Option.bind_some, decide_eq_false (fun u => n20 (t0i.mp u)), if_neg (show ¬ mx_f1 .ne (rd_01 false) = true by decide), q3, Option.bind_some, decide_eq_false (fun u => n21 (t1i.mp u)), if_pos (show mx_f1 .eq (rd_01 false) = true by decide), if_neg (show ¬ mx_f1 .ne (s.1 57) = true from by rw [a1]; decide), c1, aTi (by omega) hl, Option.bind_some, rt.1]
    have r65 : s302_65 (rM w (101 + k2)) w s = some (none, stS s (g 0)) := by
      unfold s302_65
      rw [q4]
      rfl
    by_cases en : kl.length ≠ 0 ∧ ctk cx F (g 0) = 0
    · left
      refine ⟨en.1, ?_, ?_⟩
      · rw [b9, b109, if_pos en]
      · rw [r0, so0.mpr en.2, if_neg (by decide), n32, decide_eq_true en.1, if_pos rfl]
        rfl
    · right
      refine ⟨h1, ?_, ?_, fl, d4⟩
      · rw [b9, b109, if_neg en]
      · rw [r0, n32]
        by_cases t0 : ctk cx F (g 0) = 0
        · have e0 : ¬ kl.length ≠ 0 := fun e => en ⟨e, t0⟩
          rw [so0.mpr t0, if_neg (by decide), decide_eq_false e0, if_neg (by decide)]
          exact r65
        · rw [if_pos (by rw [f1_ne]; exact decide_eq_true (fun u => t0 (so0.mp u)))]
          exact r65
end KH
