/-! PARAMETERS: one of them. -/
/-- what the reference's parameters leave alone: rows 79 to 81 below np -/
def rPm (s s' : rS) (np : Nat) : Prop := (∀ j, j ≠ 26 → j ≠ 52 → j ≠ 56 → j ≠ 57 → j ≠ 58 → s'.1 j = s.1 j) ∧ (∀ p, p < 57 ∨ (59 < p ∧ p ≠ 80 ∧ p ≠ 81) → s'.2.1 p = s.2.1 p) ∧ (∀ p, p ≠ 61 → p ≠ 79 → s'.2.2 p = s.2.2 p) ∧ ∀ f, f < np → s'.2.2 79 f = s.2.2 79 f ∧ s'.2.1 80 f = s.2.1 80 f ∧ s'.2.1 81 f = s.2.1 81 f
section PA1
variable {L : Nat} {xs : Nat → Int32} {zf : Value} {w k k2 i n y np : Nat} {cx : Nat → Nat} {F : Nat → Nat → Int32} {N : Nat → Int64} {q : List Value} {h h' h1 h5 : rm_H} {s s' s1 s2 : rS} {g g' : Nat → Nat} {ts ts' : List Nat} {v v0 : Nat → Int32} {pt vr i3 : Int32}
theorem rPm_refl (s : rS) (np : Nat) : rPm s s np := ⟨fun _ _ _ _ _ _ => rfl, fun _ _ => rfl, fun _ _ _ => rfl, fun _ _ => ⟨rfl, rfl, rfl⟩⟩
theorem rPm_trans {np2 : Nat} (a : rPm s s1 np) (b : rPm s1 s2 np2) (hn : np ≤ np2) : rPm s s2 np := ⟨fun j h1 h2 h3 h4 h5 => (b.1 j h1 h2 h3 h4 h5).trans (a.1 j h1 h2 h3 h4 h5), fun p hp => (b.2.1 p hp).trans (a.2.1 p hp), fun p h1 h2 => (b.2.2.1 p h1 h2).trans (a.2.2.1 p h1 h2), fun f hf => ⟨((b.2.2.2 f (by omega)).1).trans (a.2.2.2 f hf).1, ((b.2.2.2 f (by omega)).2.1).trans (a.2.2.2 f hf).2.1, ((b.2.2.2 f (by omega)).2.2).trans (a.2.2.2 f hf).2.2⟩⟩
theorem rPm_1 (e : s'.2 = s.2) (e1 : ∀ j, j ≠ 26 → j ≠ 52 → j ≠ 56 → j ≠ 57 → j ≠ 58 → s'.1 j = s.1 j) : rPm s s' np := ⟨e1, fun _ _ => by rw [e], fun _ _ _ => by rw [e], fun _ _ => by rw [e]; exact ⟨rfl, rfl, rfl⟩⟩
theorem rPm_w {j : Nat} {x : Int32} (hj : j = 26 ∨ j = 52 ∨ j = 56 ∨ j = 57 ∨ j = 58) : rPm s (rs_w s j x) np := rPm_1 rfl (fun i h1 h2 h3 h4 h5 => w_ne _ _ (by omega))
theorem rPm_nx : rPm s (nxS s i) np := rPm_w (by omega)
theorem rPm_st : rPm s (stS s i) np := rPm_trans (rPm_w (by omega)) (rPm_w (by omega)) (Nat.le_refl _)
theorem rPm_A {p j : Nat} {x : Int32} (hp : p = 80 ∨ p = 81) (hj : np ≤ j) : rPm s (rs_wA s p j x) np := ⟨fun _ _ _ _ _ _ => rfl, fun r hr => wA_ne _ _ _ (by omega), fun _ _ _ => rfl, fun f hf => ⟨rfl, by rw [wA_get, if_neg (by omega)], by rw [wA_get, if_neg (by omega)]⟩⟩
theorem rPm_B {j : Nat} {x : Int64} (hj : np ≤ j) : rPm s (rs_wB s 79 j x) np := ⟨fun _ _ _ _ _ _ => rfl, fun _ _ => rfl, fun r h1 h2 => wB_ne _ _ _ (by omega), fun f hf => ⟨by rw [wB_get, if_neg (by omega)], rfl, rfl⟩⟩
theorem rPm_y (a : yK (rs_w s 26 (Int32.ofNat n)) s' y) : rPm s s' np := by
  refine ⟨fun j h1 h2 h3 h4 h5 => ?_, fun p hp => a.2.1 p (by omega), fun p h1 h2 => a.2.2.2.1 p h1, fun f hf => ⟨?_, ?_, ?_⟩⟩
  · rw [a.1 j h3 h4 h5]
    exact upd_ne _ _ h1
  · rw [a.2.2.2.1 79 (by decide)]; rfl
  · rw [a.2.1 80 (by omega)]; rfl
  · rw [a.2.1 81 (by omega)]; rfl
theorem rPm_sX (a : rPm s s' np) (nd : Nat) : sX s s' nd := fun j _ => ⟨fun p h1 h2 => by rw [a.2.1 p (by omega)], by rw [a.2.2.1 56 (by decide) (by decide)]⟩
theorem rPm_rT (a : rPm s s' np) (t : rTk F N s) : rTk F N s' := by
  obtain ⟨t1, t2, t3, t4⟩ := t
  exact ⟨(a.2.1 40 (by omega)).trans t1, (a.2.1 41 (by omega)).trans t2, (a.2.1 42 (by omega)).trans t3, (a.2.2.1 43 (by decide) (by decide)).trans t4⟩
theorem t80 : rs_t 80 = (0, 440, false) ∧ rs_t 81 = (0, 440, false) ∧ rs_t 79 = (2, 440, true) := by decide
theorem pWt {p i : Nat} {x : Int32} (hp : p = 80 ∨ p = 81) (hi : i < 440) : rs_sI s p (Int32.ofNat i) x = some (rs_wA s p i x) := by
  rcases hp with e | e <;> subst e
  · exact sI_at (by omega) t80.1 hi (by omega)
  · exact sI_at (by omega) t80.2.1 hi (by omega)
theorem pWJ {i : Nat} {x : Int64} (hi : i < 440) : rs_sJ s 79 (Int32.ofNat i) x = some (rs_wB s 79 i x) := sJ_at (by omega) t80.2.2 hi (by omega)
theorem tyO_w2 {sx s9 : rS} {j : Nat} (t : tyO cx F N sx s1 j y) (e6 : s9.1 56 = s1.1 56) (e7 : s9.1 57 = s1.1 57) (e8 : s9.1 58 = s1.1 58) (e2 : ∀ p, 57 ≤ p → p ≤ 59 → s9.2.1 p = s1.2.1 p) (e3 : s9.2.2 61 = s1.2.2 61) (e58 : s.1 58 = sx.1 58) : tyO cx F N s s9 j y := by
  unfold tyO at t ⊢
  rw [e6, e7, e8, e2 57 (by omega) (by omega), e2 58 (by omega) (by omega), e2 59 (by omega) (by omega), e3, e58]
  exact t
/-- the reference has the parameter's name -/
def paS (F : Nat → Nat → Int32) (N : Nat → Int64) (s : rS) (np i : Nat) : rS := rs_wA (rs_wB s 79 np (N i)) 80 np (F 5 i)
/-- what the reference has of a parameter -/
def psO (cx : Nat → Nat) (F : Nat → Nat → Int32) (N : Nat → Int64) (s s9 : rS) (i y np : Nat) : Prop := ctk cx F i = 2 ∧ ctk cx F (i + 1) = 11 ∧ i + 2 ≤ cx 16 ∧ s9.1 26 = Int32.ofNat (y + 1) ∧ tyO cx F N s s9 (i + 2) y ∧ s9.1 52 = Int32.ofNat (np + 1) ∧ s9.2.2 79 np = N i ∧ s9.2.1 80 np = F 5 i ∧ s9.2.1 81 np = Int32.ofNat y ∧ yA s s9
theorem r_pdecl (hT : TF cx F N) (hi : i ≤ cx 16) (h57 : s.1 57 = 0) (ht : s.1 56 = Int32.ofNat i) (h52 : s.1 52 = Int32.ofNat np) (hnp : np < 440) (h26 : s.1 26 = Int32.ofNat y) (hy : y < 1999) (rt : rTk F N s) : (∃ s9, (∀ K i2, s315_52 (rM w (k + 4)) w K i2 s = (((rM w (k + 4) 309 [.ref 36, .int 44] s9).bind rxI).bind fun x41 => K x41.1 i2 x41.2)) ∧ rPm s s9 np ∧ psO cx F N s s9 i y np) ∨ (∃ s9 T, (∀ K i2, s315_52 (rM w (k + 4)) w K i2 s = some (none, s9)) ∧ rPm s s9 np ∧ yA s s9 ∧ s9.1 57 = 1 ∧ s9.1 26 = s.1 26 ∧ s9.1 58 = cpl cx F T ∧ s9.1 56 = Int32.ofNat T ∧ T ≤ cx 16 ∧ ((T = i ∧ ¬ ctk cx F i = 2) ∨ (T = i + 1 ∧ ctk cx F i = 2 ∧ ¬ ctk cx F (i + 1) = 11))) := by
  have hT1 := hT.1
  have hl : i ≤ 2000 := by omega
  obtain ⟨⟨f5, _, tr⟩, _⟩ := hT.2.2 i hi
  have s1i := (so_iff tr).1
  have q7 := q307 (w := w) (k := k + 1) 1 h57 ht hl
  rw [rt.1] at q7
  by_cases t2 : ctk cx F i = 2
  · have hlt : i < cx 16 := tk_lt hT hi (by rw [t2]; decide) (by rw [t2]; decide)
    have hi1 : i + 1 ≤ cx 16 := hlt
    obtain ⟨⟨f51, _, tr1⟩, _⟩ := hT.2.2 (i + 1) hi1
    rw [if_pos (s1i.mpr t2)] at q7
    have rt1 : rTk F N (nxS s i) := rT_F rF_nx rt
    have q8 := q308 (w := w) (k := k + 1) (s := nxS s i) (t := i + 1) 58 h57 rfl (by omega)
    rw [rt1.1, rt1.2.2.1] at q8
    by_cases t11 : ctk cx F (i + 1) = 11
    · have hlt2 : i + 1 < cx 16 := tk_lt hT hi1 (by rw [t11]; decide) (by rw [t11]; decide)
      rw [if_pos ((sg_iff tr1 P58).mpr t11)] at q8
      have rt2 : rTk F N (nxS (nxS s i) (i + 1)) := rT_F rF_nx rt1
      have ra : rPm s (paS F N (nxS (nxS s i) (i + 1)) np i) np := rPm_trans (rPm_trans (rPm_trans rPm_nx rPm_nx (Nat.le_refl _)) (rPm_B (Nat.le_refl _)) (Nat.le_refl _)) (rPm_A (Or.inl rfl) (Nat.le_refl _)) (Nat.le_refl _)
      have a57 : (paS F N (nxS (nxS s i) (i + 1)) np i).1 57 = 0 := h57
      have a52 : (paS F N (nxS (nxS s i) (i + 1)) np i).1 52 = Int32.ofNat np := h52
      have a26 : (paS F N (nxS (nxS s i) (i + 1)) np i).1 26 = Int32.ofNat y := h26
      obtain ⟨s', m1, m2, m3⟩ := ty_type (w := w) (k := k) (s := paS F N (nxS (nxS s i) (i + 1)) np i) (i := i + 2) (y := y) hT (by omega) a57 rfl (rPm_rT ra rt) a26 (by omega)
      have s52 : s'.1 52 = Int32.ofNat np := (m2.1 52 (by decide) (by decide) (by decide)).trans a52
      have s26 : s'.1 26 = Int32.ofNat (y + 1) := (m2.1 26 (by decide) (by decide) (by decide)).trans rfl
      refine Or.inl ⟨rs_w (rs_wA s' 81 np (Int32.ofNat y)) 52 (Int32.ofNat (np + 1)), ?_, rPm_trans (rPm_trans (rPm_trans ra (rPm_y m2) (Nat.le_refl _)) (rPm_A (Or.inr rfl) (Nat.le_refl _)) (Nat.le_refl _)) (rPm_w (by omega)) (Nat.le_refl _), t2, t11, by omega, s26, ?_, rfl, ?_, ?_, ?_, ?_⟩
      · intro K i2
        unfold s315_52
        rw [show (rM w (k + 4) 307 [.ref 36, .int 1] s).bind rxI = some (Int32.ofNat i, nxS s i) from by rw [q7]; rfl, Option.bind_some, show (rM w (k + 4) 308 [.ref 36, .int 58] (nxS s i)).bind rxV = some (nxS (nxS s i) (i + 1)) from by rw [q8]; rfl, Option.bind_some, if_pos (show mx_f1 .le ((nxS (nxS s i) (i + 1)).1 57) = true from by rw [show (nxS (nxS s i) (i + 1)).1 57 = 0 from h57]; decide), aTn hl, Option.bind_some, rt2.2.2.2, show (nxS (nxS s i) (i + 1)).1 52 = Int32.ofNat np from h52, pWJ hnp, Option.bind_some, aTi (by omega) hl, Option.bind_some, show (rs_wB (nxS (nxS s i) (i + 1)) 79 np (N i)).2.1 41 i = F 5 i from by rw [← rt2.2.1]; rfl, show (rs_wB (nxS (nxS s i) (i + 1)) 79 np (N i)).1 52 = Int32.ofNat np from h52, pWt (Or.inl rfl) hnp, Option.bind_some]
        show (((rM w (k + 4) 312 [.ref 36] (paS F N (nxS (nxS s i) (i + 1)) np i)).bind rxI).bind fun x26 => (rs_sI x26.2 81 (s.1 52) x26.1).bind fun s31 => (rs_pI s31 52 ((s31.1 52) + 1)).bind fun s36 => ((rM w (k + 4) 309 [.ref 36, .int 44] s36).bind rxI).bind fun x41 => K x41.1 i2 x41.2) = _
        rw [show (rM w (k + 4) 312 [.ref 36] (paS F N (nxS (nxS s i) (i + 1)) np i)).bind rxI = some (Int32.ofNat y, s') from by rw [m1]; rfl, Option.bind_some, h52, pWt (Or.inr rfl) hnp, Option.bind_some, show (rs_wA s' 81 np (Int32.ofNat y)).1 52 = Int32.ofNat np from s52, show Int32.ofNat np + 1 = Int32.ofNat (np + 1) from of_add np 1]
        rfl
      · exact tyO_w2 m3 rfl rfl rfl (fun p h1 h2 => wA_ne _ _ _ (by omega)) rfl rfl
      · show s'.2.2 79 np = N i
        rw [m2.2.2.2.1 79 (by decide)]
        show (rs_wB (nxS (nxS s i) (i + 1)) 79 np (N i)).2.2 79 np = _
        rw [wB_get, if_pos ⟨rfl, rfl⟩]
      · show (rs_wA s' 81 np (Int32.ofNat y)).2.1 80 np = _
        rw [wA_get, if_neg (by omega), m2.2.1 80 (by omega)]
        show (rs_wA (rs_wB (nxS (nxS s i) (i + 1)) 79 np (N i)) 80 np (F 5 i)).2.1 80 np = _
        rw [wA_get, if_pos ⟨rfl, rfl⟩]
      · show (rs_wA s' 81 np (Int32.ofNat y)).2.1 81 np = _
        rw [wA_get, if_pos ⟨rfl, rfl⟩]
      · refine ⟨?_, fun y' hy' => ?_⟩
        · show (s.1 26).toInt ≤ (s'.1 26).toInt
          rw [s26, h26, of_int (by omega), of_int (by omega)]
          omega
        · rw [h26, of_int (by omega)] at hy'
          have ne : y' ≠ y := by omega
          refine ⟨?_, ?_, ?_, ?_⟩
          · show (rs_wA s' 81 np (Int32.ofNat y)).2.1 57 y' = _
            rw [wA_get, if_neg (by omega), m2.2.2.1 57 y' ne]; rfl
          · show (rs_wA s' 81 np (Int32.ofNat y)).2.1 58 y' = _
            rw [wA_get, if_neg (by omega), m2.2.2.1 58 y' ne]; rfl
          · show (rs_wA s' 81 np (Int32.ofNat y)).2.1 59 y' = _
            rw [wA_get, if_neg (by omega), m2.2.2.1 59 y' ne]; rfl
          · show s'.2.2 61 y' = _
            rw [m2.2.2.2.2 61 y' ne]; rfl
    · rw [if_neg (fun u => t11 ((sg_iff tr1 P58).mp u))] at q8
      refine Or.inr ⟨stS (nxS s i) (i + 1), i + 1, ?_, rPm_trans rPm_nx rPm_st (Nat.le_refl _), yA_2 rfl rfl, rfl, rfl, ?_, rfl, hi1, Or.inr ⟨rfl, t2, t11⟩⟩
      · intro K i2
        unfold s315_52
        rw [show (rM w (k + 4) 307 [.ref 36, .int 1] s).bind rxI = some (Int32.ofNat i, nxS s i) from by rw [q7]; rfl, Option.bind_some, show (rM w (k + 4) 308 [.ref 36, .int 58] (nxS s i)).bind rxV = some (stS (nxS s i) (i + 1)) from by rw [q8]; rfl, Option.bind_some, if_neg (show ¬ mx_f1 .le ((stS (nxS s i) (i + 1)).1 57) = true from by rw [show (stS (nxS s i) (i + 1)).1 57 = 1 from rfl]; decide)]
      · show s.2.1 41 (i + 1) = _
        rw [rt.2.1, f51]
  · rw [if_neg (fun u => t2 (s1i.mp u))] at q7
    refine Or.inr ⟨stS s i, i, ?_, rPm_st, yA_2 rfl rfl, rfl, rfl, ?_, ht, hi, Or.inl ⟨rfl, t2⟩⟩
    · intro K i2
      unfold s315_52
      rw [show (rM w (k + 4) 307 [.ref 36, .int 1] s).bind rxI = some (Int32.ofNat i, stS s i) from by rw [q7]; rfl, Option.bind_some, show (rM w (k + 4) 308 [.ref 36, .int 58] (stS s i)).bind rxV = some (stS s i) from by rw [z308 (k := k + 1) (s := stS s i) (t := i) 58 rfl ht hl]; rfl, Option.bind_some, if_neg (show ¬ mx_f1 .le ((stS s i).1 57) = true from by rw [show (stS s i).1 57 = 1 from rfl]; decide)]
    · show s.2.1 41 i = _
      rw [rt.2.1, f5]
end PA1
