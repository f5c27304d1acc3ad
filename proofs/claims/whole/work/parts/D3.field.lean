/-! FIELDS: one of them. -/
/-- a TYPE is read, nothing else -/
def rTy (s s' : rS) : Prop := (∀ j, j ≠ 26 → j ≠ 56 → j ≠ 57 → j ≠ 58 → s'.1 j = s.1 j) ∧ (∀ p, p < 57 ∨ 59 < p → s'.2.1 p = s.2.1 p) ∧ ∀ p, p ≠ 61 → s'.2.2 p = s.2.2 p
section FI
variable {L : Nat} {xs : Nat → Int32} {zf : Value} {w k k2 i y f : Nat} {cx : Nat → Nat} {F : Nat → Nat → Int32} {N : Nat → Int64} {q : List Value} {h h' h1 h2 h5 : rm_H} {s s' s1 s2 : rS} {g g' : Nat → Nat} {ts ts' : List Nat} {v v0 : Nat → Int32} {pt vr i3 : Int32}
theorem rTy_trans (a : rTy s s1) (b : rTy s1 s2) : rTy s s2 := ⟨fun j h1 h2 h3 h4 => (b.1 j h1 h2 h3 h4).trans (a.1 j h1 h2 h3 h4), fun p hp => (b.2.1 p hp).trans (a.2.1 p hp), fun p hp => (b.2.2 p hp).trans (a.2.2 p hp)⟩
theorem rTy_nx : rTy s (nxS s i) := ⟨fun j _ h2 _ _ => upd_ne _ _ h2, fun _ _ => rfl, fun _ _ => rfl⟩
theorem rTy_st : rTy s (stS s i) := ⟨fun j _ _ h3 h4 => by
  show upd (upd s.1 57 1) 58 (s.2.1 41 i) j = _
  rw [upd_ne _ _ h4, upd_ne _ _ h3], fun _ _ => rfl, fun _ _ => rfl⟩
theorem rTy_rT (a : rTy s s') (t : rTk F N s) : rTk F N s' := by
  obtain ⟨t1, t2, t3, t4⟩ := t
  exact ⟨(a.2.1 40 (by omega)).trans t1, (a.2.1 41 (by omega)).trans t2, (a.2.1 42 (by omega)).trans t3, (a.2.2 43 (by decide)).trans t4⟩
theorem rTy_sX (a : rTy s s') (nd : Nat) : sX s s' nd := fun j _ => ⟨fun p h1 h2 => by rw [a.2.1 p (by omega)], by rw [a.2.2 56 (by decide)]⟩
/-- the reference reads NAME ':' TYPE of a field -/
theorem r_fdecl (hT : TF cx F N) (hi : i ≤ cx 16) (h57 : s.1 57 = 0) (ht : s.1 56 = Int32.ofNat i) (h26 : s.1 26 = Int32.ofNat y) (hy : y < 1999) (rt : rTk F N s) : ∃ s9 yv, (((rM w (k + 4) 307 [.ref 36, .int 1] s).bind rxI).bind fun x6 => ((rM w (k + 4) 308 [.ref 36, .int 58] x6.2).bind rxV).bind fun s11 => if mx_f1 .le (s11.1 57) = true then ((rM w (k + 4) 312 [.ref 36] s11).bind rxI).bind fun x17 => s311_37 (rM w (k + 4)) w x6.1 x17.1 x17.2 else s311_37 (rM w (k + 4)) w x6.1 0 s11) = s311_37 (rM w (k + 4)) w (Int32.ofNat i) yv s9 ∧ rTy s s9 ∧ ((ctk cx F i = 2 ∧ ctk cx F (i + 1) = 11 ∧ i + 2 ≤ cx 16 ∧ yv = Int32.ofNat y ∧ s9.1 26 = Int32.ofNat (y + 1) ∧ tyO cx F N s s9 (i + 2) y ∧ yA s s9) ∨ ∃ T, T ≤ cx 16 ∧ s9.1 57 = 1 ∧ s9.1 26 = s.1 26 ∧ s9.1 58 = cpl cx F T ∧ s9.1 56 = Int32.ofNat T ∧ ((T = i ∧ ¬ ctk cx F i = 2) ∨ (T = i + 1 ∧ ctk cx F i = 2 ∧ ¬ ctk cx F (i + 1) = 11))) := by
  have hT1 := hT.1
  have hl : i ≤ 2000 := by omega
  obtain ⟨⟨f5, _, tr⟩, _⟩ := hT.2.2 i hi
  have s1i := (so_iff tr).1
  have q7 := q307 (w := w) (k := k + 1) 1 h57 ht hl
  rw [rt.1] at q7
  by_cases t2 : ctk cx F i = 2
  · have hlt : i < cx 16 := tk_lt hT hi (by rw [t2]; decide) (by rw [t2]; decide)
    have hi1 : i + 1 ≤ cx 16 := hlt
    obtain ⟨⟨f51, _, tr1⟩, _⟩ := hT.2.2 (i + 1) hi1
    rw [if_pos (s1i.mpr t2)] at q7
    have rt1 : rTk F N (nxS s i) := rT_F rF_nx rt
    have q8 := q308 (w := w) (k := k + 1) (s := nxS s i) (t := i + 1) 58 h57 rfl (by omega)
    rw [rt1.1, rt1.2.2.1] at q8
    by_cases t11 : ctk cx F (i + 1) = 11
    · have hlt2 : i + 1 < cx 16 := tk_lt hT hi1 (by rw [t11]; decide) (by rw [t11]; decide)
      rw [if_pos ((sg_iff tr1 P58).mpr t11)] at q8
      have rt2 : rTk F N (nxS (nxS s i) (i + 1)) := rT_F rF_nx rt1
      obtain ⟨s', m1, m2, m3⟩ := ty_type (w := w) (k := k) (s := nxS (nxS s i) (i + 1)) (i := i + 2) (y := y) hT (by omega) h57 rfl rt2 h26 (by omega)
      have s26 : s'.1 26 = Int32.ofNat (y + 1) := (m2.1 26 (by decide) (by decide) (by decide)).trans rfl
      refine ⟨s', Int32.ofNat y, ?_, ⟨fun j h1 h2 h3 h4 => ?_, fun p hp => m2.2.1 p hp, fun p hp => m2.2.2.2.1 p hp⟩, Or.inl ⟨t2, t11, by omega, rfl, s26, tyO_w2 m3 rfl rfl rfl (fun _ _ _ => rfl) rfl rfl, ?_, fun y' hy' => ?_⟩⟩
      · rw [show (rM w (k + 4) 307 [.ref 36, .int 1] s).bind rxI = some (Int32.ofNat i, nxS s i) from by rw [q7]; rfl, Option.bind_some, show (rM w (k + 4) 308 [.ref 36, .int 58] (nxS s i)).bind rxV = some (nxS (nxS s i) (i + 1)) from by rw [q8]; rfl, Option.bind_some, if_pos (show mx_f1 .le ((nxS (nxS s i) (i + 1)).1 57) = true from by rw [show (nxS (nxS s i) (i + 1)).1 57 = 0 from h57]; decide), show (rM w (k + 4) 312 [.ref 36] (nxS (nxS s i) (i + 1))).bind rxI = some (Int32.ofNat y, s') from by rw [m1]; rfl, Option.bind_some]
      · rw [m2.1 j h2 h3 h4]
        show upd (upd (upd s.1 56 _) 56 _) 26 _ j = _
        rw [upd_ne _ _ h1, upd_ne _ _ h2, upd_ne _ _ h2]
      · rw [s26, h26, of_int (by omega), of_int (by omega)]
        omega
      · rw [h26, of_int (by omega)] at hy'
        have ne : y' ≠ y := by omega
        exact ⟨m2.2.2.1 57 y' ne, m2.2.2.1 58 y' ne, m2.2.2.1 59 y' ne, m2.2.2.2.2 61 y' ne⟩
    · rw [if_neg (fun u => t11 ((sg_iff tr1 P58).mp u))] at q8
      refine ⟨stS (nxS s i) (i + 1), 0, ?_, rTy_trans rTy_nx rTy_st, Or.inr ⟨i + 1, hi1, rfl, rfl, ?_, rfl, Or.inr ⟨rfl, t2, t11⟩⟩⟩
      · rw [show (rM w (k + 4) 307 [.ref 36, .int 1] s).bind rxI = some (Int32.ofNat i, nxS s i) from by rw [q7]; rfl, Option.bind_some, show (rM w (k + 4) 308 [.ref 36, .int 58] (nxS s i)).bind rxV = some (stS (nxS s i) (i + 1)) from by rw [q8]; rfl, Option.bind_some, if_neg (show ¬ mx_f1 .le ((stS (nxS s i) (i + 1)).1 57) = true from by rw [show (stS (nxS s i) (i + 1)).1 57 = 1 from rfl]; decide)]
      · show s.2.1 41 (i + 1) = _
        rw [rt.2.1, f51]
  · rw [if_neg (fun u => t2 (s1i.mp u))] at q7
    refine ⟨stS s i, 0, ?_, rTy_st, Or.inr ⟨i, hi, rfl, rfl, ?_, ht, Or.inl ⟨rfl, t2⟩⟩⟩
    · rw [show (rM w (k + 4) 307 [.ref 36, .int 1] s).bind rxI = some (Int32.ofNat i, stS s i) from by rw [q7]; rfl, Option.bind_some, show (rM w (k + 4) 308 [.ref 36, .int 58] (stS s i)).bind rxV = some (stS s i) from by rw [z308 (k := k + 1) (s := stS s i) (t := i) 58 rfl ht hl]; rfl, Option.bind_some, if_neg (show ¬ mx_f1 .le ((stS s i).1 57) = true from by rw [show (stS s i).1 57 = 1 from rfl]; decide)]
    · show s.2.1 41 i = _
      rw [rt.2.1, f5]
theorem t67 : rs_t 67 = (2, 64, true) ∧ rs_t 68 = (0, 64, false) ∧ rs_t 69 = (0, 64, false) := by decide
theorem fWt {p i : Nat} {x : Int32} (hp : p = 68 ∨ p = 69) (hi : i < 64) : rs_sI s p (Int32.ofNat i) x = some (rs_wA s p i x) := by
  rcases hp with e | e <;> subst e
  · exact sI_at (by omega) t67.2.1 hi (by omega)
  · exact sI_at (by omega) t67.2.2 hi (by omega)
theorem fWJ {i : Nat} {x : Int64} (hi : i < 64) : rs_sJ s 67 (Int32.ofNat i) x = some (rs_wB s 67 i x) := sJ_at (by omega) t67.1 hi (by omega)
/-- the reference has a field -/
def fiS (F : Nat → Nat → Int32) (N : Nat → Int64) (s : rS) (f i : Nat) (yv : Int32) : rS := rs_w (rs_wA (rs_wA (rs_wB s 67 f (N i)) 68 f (F 5 i)) 69 f yv) 38 (Int32.ofNat (f + 1))
theorem r_37 {yv : Int32} {s10 : rS} (hl : i ≤ 2000) (hf : f < 64) (e : rM w k 308 [.ref 36, .int 59] s = some (none, s10)) (h38 : s10.1 38 = Int32.ofNat f) (rt : rTk F N s10) : s311_37 (rM w k) w (Int32.ofNat i) yv s = some (none, fiS F N s10 f i yv) := by
  unfold s311_37
  rw [show (rM w k 308 [.ref 36, .int 59] s).bind rxV = some s10 from by rw [e]; rfl, Option.bind_some, aTn hl, Option.bind_some, rt.2.2.2, h38, fWJ hf, Option.bind_some, aTi (by omega) hl, Option.bind_some, show (rs_wB s10 67 f (N i)).2.1 41 i = F 5 i from by rw [← rt.2.1]; rfl, show (rs_wB s10 67 f (N i)).1 38 = Int32.ofNat f from h38, fWt (Or.inl rfl) hf, Option.bind_some, show (rs_wA (rs_wB s10 67 f (N i)) 68 f (F 5 i)).1 38 = Int32.ofNat f from h38, fWt (Or.inr rfl) hf, Option.bind_some, show (rs_wA (rs_wA (rs_wB s10 67 f (N i)) 68 f (F 5 i)) 69 f yv).1 38 = Int32.ofNat f from h38, show Int32.ofNat f + 1 = Int32.ofNat (f + 1) from of_add f 1]
  rfl
/-- what the reference's field f leaves alone -/
def rFl (s s' : rS) (f : Nat) : Prop := (∀ j, j ≠ 26 → j ≠ 38 → j ≠ 56 → j ≠ 57 → j ≠ 58 → s'.1 j = s.1 j) ∧ (∀ p, (p < 57 ∨ 59 < p) → p ≠ 68 → p ≠ 69 → s'.2.1 p = s.2.1 p) ∧ (∀ p, p ≠ 61 → p ≠ 67 → s'.2.2 p = s.2.2 p) ∧ ∀ j, j < f → s'.2.2 67 j = s.2.2 67 j ∧ s'.2.1 68 j = s.2.1 68 j ∧ s'.2.1 69 j = s.2.1 69 j
theorem rFl_of {yv : Int32} {s10 : rS} (a : rTy s s10) : rFl s (fiS F N s10 f i yv) f := by
  obtain ⟨a1, a2, a3⟩ := a
  refine ⟨fun j h1 h2 h3 h4 h5 => ?_, fun p hp h1 h2 => ?_, fun p h1 h2 => ?_, fun j hj => ⟨?_, ?_, ?_⟩⟩
  · show upd s10.1 38 _ j = _
    rw [upd_ne _ _ h2, a1 j h1 h3 h4 h5]
  · show (rs_wA (rs_wA (rs_wB s10 67 f (N i)) 68 f (F 5 i)) 69 f yv).2.1 p = _
    rw [wA_ne _ _ _ h2, wA_ne _ _ _ h1]
    exact a2 p hp
  · show (rs_wB s10 67 f (N i)).2.2 p = _
    rw [wB_ne _ _ _ h2]
    exact a3 p h1
  · show (rs_wB s10 67 f (N i)).2.2 67 j = _
    rw [wB_get, if_neg (by omega), a3 67 (by decide)]
  · show (rs_wA (rs_wA (rs_wB s10 67 f (N i)) 68 f (F 5 i)) 69 f yv).2.1 68 j = _
    rw [wA_get, if_neg (by omega), wA_get, if_neg (by omega)]
    show s10.2.1 68 j = _
    rw [a2 68 (by omega)]
  · show (rs_wA (rs_wA (rs_wB s10 67 f (N i)) 68 f (F 5 i)) 69 f yv).2.1 69 j = _
    rw [wA_get, if_neg (by omega), wA_get, if_neg (by omega)]
    show s10.2.1 69 j = _
    rw [a2 69 (by omega)]
end FI
