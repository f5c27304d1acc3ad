/-! VAR: what the reference does of a declaration. -/
def vrR (E : rE) (w : Nat) (i1 i2 : Int32) (s : rS) : Option rA :=
  ((E 308 [.ref 36, .int 61] s).bind rxV).bind fun s6 =>
  ((E 320 [.ref 36, .int (i1 + 1)] s6).bind rxI).bind fun x11 =>
  ((E 323 [.ref 36, .int i2, .int x11.1] x11.2).bind rxI).bind fun x16 =>
  (rs_sI x16.2 45 i2 x16.1).bind fun s21 =>
  ((E 308 [.ref 36, .int 59] s21).bind rxV).bind fun s26 =>
  rrI (some .int) i2 s26
/-- the name and the counts -/
def vaS (F : Nat → Nat → Int32) (N : Nat → Int64) (s : rS) (n i : Nat) : rS := rs_wA (rs_wB (rs_w (rs_w (rs_wA s 53 n (s.1 59)) 59 (s.1 59 + 1)) 25 (s.1 25 + 1)) 56 n (N i)) 51 n (F 5 i)
section VS
variable {w k i n y l : Nat} {cx : Nat → Nat} {F : Nat → Nat → Int32} {N : Nat → Int64} {s sx s1 s9 : rS} {R0 : Nat → Int32} {J0 : Int64} {i1 : Int32}
theorem vaS_rF : rF s (vaS F N s n i) := rF_trans (rF_trans (rF_trans (rF_trans (rF_A (by omega)) (rF_w (by omega))) (rF_w (by omega))) (rF_B (by omega))) (rF_A (by omega))
theorem vaS_sX {nd : Nat} (hn : nd ≤ n) : sX s (vaS F N s n i) nd := sX_trans (sX_trans (sX_trans (sX_trans (sX_A hn) sX_w (Nat.le_refl _)) sX_w (Nat.le_refl _)) (sX_B hn) (Nat.le_refl _)) (sX_A hn) (Nat.le_refl _)
theorem vaS_yA : yA s (vaS F N s n i) := by
  unfold vaS
  refine yA_trans (yA_trans (yA_trans (s1 := rs_wA s 53 n (s.1 59)) (yA_A (by omega)) (s2 := rs_w (rs_w (rs_wA s 53 n (s.1 59)) 59 (s.1 59 + 1)) 25 (s.1 25 + 1)) (yA_2 rfl rfl)) yA_B) (yA_A (by omega))
theorem vaS_on (o : onR s n R0 J0) : onR (vaS F N s n i) n (upd (upd R0 53 (s.1 59)) 51 (F 5 i)) (N i) := by
  unfold vaS
  have o1 := onR_A (i := 53) (j := n) (y := s.1 59) o
  rw [if_pos rfl] at o1
  have o2 : onR (rs_wB (rs_w (rs_w (rs_wA s 53 n (s.1 59)) 59 (s.1 59 + 1)) 25 (s.1 25 + 1)) 56 n (N i)) n (upd R0 53 (s.1 59)) (N i) := ⟨fun r h1 h2 => o1.1 r h1 h2, by rw [wB_get, if_pos ⟨rfl, rfl⟩]⟩
  have o3 := onR_A (i := 51) (j := n) (y := F 5 i) o2
  rw [if_pos rfl] at o3
  exact o3
theorem vaS_1 : (vaS F N s n i).1 59 = s.1 59 + 1 ∧ (vaS F N s n i).1 25 = s.1 25 + 1 ∧ ∀ j, j ≠ 59 → j ≠ 25 → (vaS F N s n i).1 j = s.1 j := by
  refine ⟨rfl, rfl, fun j h1 h2 => ?_⟩
  show upd (upd s.1 59 (s.1 59 + 1)) 25 (s.1 25 + 1) j = _
  rw [upd_ne _ _ h2, upd_ne _ _ h1]
theorem r_52 (hl : i ≤ 2000) (hn : n < 4400) (e7 : rM w k 307 [.ref 36, .int 1] s = some (some (.int (Int32.ofNat i)), sx)) (rt : rTk F N sx) : s319_52 (rM w k) w i1 (Int32.ofNat n) s = ((rM w k 308 [.ref 36, .int 58] (vaS F N sx n i)).bind rxV).bind fun s35 => if mx_f1 .le (s35.1 57) = true then ((rM w k 312 [.ref 36] s35).bind rxI).bind fun x41 => s319_138 (rM w k) w i1 (Int32.ofNat n) x41.1 (Int32.ofNat n) x41.2 else s319_138 (rM w k) w i1 (Int32.ofNat n) 0 (Int32.ofNat n) s35 := by
  unfold s319_52
  rw [e7]
  show (rs_sI sx 53 (Int32.ofNat n) (sx.1 59)).bind _ = _
  rw [nWt (q := 53) (by omega) hn]
  show (rs_aJ (rs_w (rs_w (rs_wA sx 53 n (sx.1 59)) 59 (sx.1 59 + 1)) 25 (sx.1 25 + 1)) 43 (Int32.ofNat i)).bind _ = _
  rw [aTn hl]
  show (rs_sJ (rs_w (rs_w (rs_wA sx 53 n (sx.1 59)) 59 (sx.1 59 + 1)) 25 (sx.1 25 + 1)) 56 (Int32.ofNat n) (sx.2.2 43 i)).bind _ = _
  rw [rt.2.2.2, nWJ hn]
  show (rs_aI (rs_wB (rs_w (rs_w (rs_wA sx 53 n (sx.1 59)) 59 (sx.1 59 + 1)) 25 (sx.1 25 + 1)) 56 n (N i)) 41 (Int32.ofNat i)).bind _ = _
  rw [aTi (by omega) hl]
  show (rs_sI (rs_wB (rs_w (rs_w (rs_wA sx 53 n (sx.1 59)) 59 (sx.1 59 + 1)) 25 (sx.1 25 + 1)) 56 n (N i)) 51 (Int32.ofNat n) (sx.2.1 41 i)).bind _ = _
  rw [rt.2.1, nWt (q := 51) (by omega) hn]
  rfl
theorem r_138 {y0 : Int32} (hn : n < 4400) : s319_138 (rM w k) w i1 (Int32.ofNat n) y0 (Int32.ofNat n) s = vrR (rM w k) w i1 (Int32.ofNat n) (rs_wA s 54 n y0) := by
  unfold s319_138
  rw [nWt (q := 54) (by omega) hn]
  rfl
theorem tyO_w {j : Nat} (t : tyO cx F N sx s1 j y) (e1 : s9.1 = s1.1) (e2 : ∀ p, 57 ≤ p → p ≤ 59 → s9.2.1 p = s1.2.1 p) (e3 : s9.2.2 61 = s1.2.2 61) (e58 : s.1 58 = sx.1 58) : tyO cx F N s s9 j y := by
  unfold tyO at t ⊢
  rw [e1, e2 57 (by omega) (by omega), e2 58 (by omega) (by omega), e2 59 (by omega) (by omega), e3, e58]
  exact t
/-- what the reference has of a var's declaration -/
def vsO (cx : Nat → Nat) (F : Nat → Nat → Int32) (N : Nat → Int64) (s s9 : rS) (i y l : Nat) (yv : Int32) : Prop :=
  (l < 16 ∧ ctk cx F i = 2 ∧ ctk cx F (i + 1) = 11 ∧ i + 2 ≤ cx 16 ∧ yv = Int32.ofNat y ∧ s9.1 26 = Int32.ofNat (y + 1) ∧ tyO cx F N s s9 (i + 2) y)
  ∨ (l < 16 ∧ ctk cx F i = 2 ∧ ¬ ctk cx F (i + 1) = 11 ∧ i + 1 ≤ cx 16 ∧ s9.1 26 = s.1 26 ∧ s9.1 57 = 1 ∧ s9.1 58 = cpl cx F (i + 1) ∧ s9.1 56 = Int32.ofNat (i + 1))
  ∨ ((¬ ctk cx F i = 2 ∨ 16 ≤ l) ∧ s9.1 26 = s.1 26 ∧ s9.1 57 = 1 ∧ s9.1 58 = cpl cx F i ∧ s9.1 56 = Int32.ofNat i)
theorem r_vdecl (hT : TF cx F N) (hi : i ≤ cx 16) (hn : n < 4400) (h57 : s.1 57 = 0) (ht : s.1 56 = Int32.ofNat i) (h59 : s.1 59 = Int32.ofNat l) (hl16 : l ≤ 16) (h26 : s.1 26 = Int32.ofNat y) (hy : y < 1999) (rt : rTk F N s) (o : onR s n R0 J0) : ∃ s9 yv, ((rs_aI s 40 (s.1 56)).bind fun x13 => if mx_f2 .ne x13 1 = true then s319_52 (rM w (k + 4)) w i1 (Int32.ofNat n) s else if mx_f2 .ne (s.1 59) 16 = true then s319_52 (rM w (k + 4)) w i1 (Int32.ofNat n) s else ((rM w (k + 4) 304 [.ref 36] s).bind rxV).bind fun s17 => s319_52 (rM w (k + 4)) w i1 (Int32.ofNat n) s17) = vrR (rM w (k + 4)) w i1 (Int32.ofNat n) s9 ∧ rF s s9 ∧ (∀ nd, nd ≤ n → sX s s9 nd) ∧ yA s s9 ∧ onR s9 n (upd (upd (upd R0 53 (Int32.ofNat l)) 51 (F 5 i)) 54 yv) (N i) ∧ s9.1 59 = Int32.ofNat (l + 1) ∧ s9.1 25 = s.1 25 + 1 ∧ (∀ j, j ≠ 25 → j ≠ 26 → j ≠ 56 → j ≠ 57 → j ≠ 58 → j ≠ 59 → s9.1 j = s.1 j) ∧ vsO cx F N s s9 i y l yv := by
  have hT1 := hT.1
  have hl : i ≤ 2000 := by omega
  obtain ⟨⟨f5, _, tr⟩, _⟩ := hT.2.2 i hi
  have s1i := (so_iff tr).1
  have l59 : Int32.ofNat l + 1 = Int32.ofNat (l + 1) := of_add l 1
  have on54 : ∀ (sb : rS) (R : Nat → Int32) (J : Int64) (yv : Int32), onR sb n R J → onR (rs_wA sb 54 n yv) n (upd R 54 yv) J := by
    intro sb R J yv ob
    have a := onR_A (i := 54) (j := n) (y := yv) ob
    rw [if_pos rfl] at a
    exact a
  -- refused at the name
  have bad : ((rs_aI s 40 (s.1 56)).bind fun x13 => if mx_f2 .ne x13 1 = true then s319_52 (rM w (k + 4)) w i1 (Int32.ofNat n) s else if mx_f2 .ne (s.1 59) 16 = true then s319_52 (rM w (k + 4)) w i1 (Int32.ofNat n) s else ((rM w (k + 4) 304 [.ref 36] s).bind rxV).bind fun s17 => s319_52 (rM w (k + 4)) w i1 (Int32.ofNat n) s17) = vrR (rM w (k + 4)) w i1 (Int32.ofNat n) (rs_wA (vaS F N (stS s i) n i) 54 n 0) → (¬ ctk cx F i = 2 ∨ 16 ≤ l) → ∃ s9 yv, ((rs_aI s 40 (s.1 56)).bind fun x13 => if mx_f2 .ne x13 1 = true then s319_52 (rM w (k + 4)) w i1 (Int32.ofNat n) s else if mx_f2 .ne (s.1 59) 16 = true then s319_52 (rM w (k + 4)) w i1 (Int32.ofNat n) s else ((rM w (k + 4) 304 [.ref 36] s).bind rxV).bind fun s17 => s319_52 (rM w (k + 4)) w i1 (Int32.ofNat n) s17) = vrR (rM w (k + 4)) w i1 (Int32.ofNat n) s9 ∧ rF s s9 ∧ (∀ nd, nd ≤ n → sX s s9 nd) ∧ yA s s9 ∧ onR s9 n (upd (upd (upd R0 53 (Int32.ofNat l)) 51 (F 5 i)) 54 yv) (N i) ∧ s9.1 59 = Int32.ofNat (l + 1) ∧ s9.1 25 = s.1 25 + 1 ∧ (∀ j, j ≠ 25 → j ≠ 26 → j ≠ 56 → j ≠ 57 → j ≠ 58 → j ≠ 59 → s9.1 j = s.1 j) ∧ vsO cx F N s s9 i y l yv := by
    intro e hb
    obtain ⟨v1, v2, v3⟩ := vaS_1 (F := F) (N := N) (s := stS s i) (n := n) (i := i)
    refine ⟨_, 0, e, rF_trans (rF_trans rF_st vaS_rF) (rF_A (by omega)), fun nd hnd => sX_trans (sX_trans (sX_of rfl _) (vaS_sX hnd) (Nat.le_refl _)) (sX_A hnd) (Nat.le_refl _), yA_trans (yA_trans (s1 := stS s i) (yA_2 rfl rfl) vaS_yA) (yA_A (by omega)), ?_, ?_, v2, fun j h1 h2 h3 h4 h5 h6 => ?_, Or.inr (Or.inr ⟨hb, ?_, ?_, ?_, ?_⟩)⟩
    · have ob : onR (stS s i) n R0 J0 := o
      have a := on54 _ _ _ 0 (vaS_on (F := F) (N := N) (i := i) ob)
      rw [show (stS s i).1 59 = Int32.ofNat l from h59] at a
      exact a
    · show (vaS F N (stS s i) n i).1 59 = _
      rw [v1, ← l59, ← h59]
      rfl
    · show (vaS F N (stS s i) n i).1 j = _
      rw [v3 j h6 h1]
      show upd (upd s.1 57 1) 58 (s.2.1 41 i) j = _
      rw [upd_ne _ _ h5, upd_ne _ _ h4]
    · show (vaS F N (stS s i) n i).1 26 = _
      rw [v3 26 (by decide) (by decide)]
      rfl
    · show (vaS F N (stS s i) n i).1 57 = _
      rw [v3 57 (by decide) (by decide)]
      rfl
    · show (vaS F N (stS s i) n i).1 58 = _
      rw [v3 58 (by decide) (by decide)]
      show s.2.1 41 i = _
      rw [rt.2.1, f5]
    · show (vaS F N (stS s i) n i).1 56 = _
      rw [v3 56 (by decide) (by decide)]
      exact ht
  have badE : ∀ s0 : rS, rM w (k + 4) 307 [.ref 36, .int 1] s0 = some (some (.int (Int32.ofNat i)), stS s i) → s319_52 (rM w (k + 4)) w i1 (Int32.ofNat n) s0 = vrR (rM w (k + 4)) w i1 (Int32.ofNat n) (rs_wA (vaS F N (stS s i) n i) 54 n 0) := by
    intro s0 e7
    rw [r_52 hl hn e7 (rT_F rF_st rt), show (rM w (k + 4) 308 [.ref 36, .int 58] (vaS F N (stS s i) n i)).bind rxV = some (vaS F N (stS s i) n i) from by rw [z308 (k := k + 1) (s := vaS F N (stS s i) n i) (t := i) 58 rfl ht hl]; rfl, Option.bind_some, if_neg (by rw [show (vaS F N (stS s i) n i).1 57 = 1 from rfl]; decide), r_138 hn]
  have rd : rs_aI s 40 (s.1 56) = some (F 4 i) := by rw [aT (by omega) ht hl, rt.1]
  have q7 := q307 (w := w) (k := k + 1) 1 h57 ht hl
  rw [rt.1] at q7
  by_cases t2 : ctk cx F i = 2
  · have so1 := s1i.mpr t2
    by_cases l16 : l < 16
    · have hlt : i < cx 16 := tk_lt hT hi (by rw [t2]; decide) (by rw [t2]; decide)
      have hi1 : i + 1 ≤ cx 16 := hlt
      obtain ⟨⟨f51, _, tr1⟩, _⟩ := hT.2.2 (i + 1) hi1
      rw [if_pos so1] at q7
      have head : ∀ r, (((rM w (k + 4) 308 [.ref 36, .int 58] (vaS F N (nxS s i) n i)).bind rxV).bind fun s35 => if mx_f1 .le (s35.1 57) = true then ((rM w (k + 4) 312 [.ref 36] s35).bind rxI).bind fun x41 => s319_138 (rM w (k + 4)) w i1 (Int32.ofNat n) x41.1 (Int32.ofNat n) x41.2 else s319_138 (rM w (k + 4)) w i1 (Int32.ofNat n) 0 (Int32.ofNat n) s35) = r → ((rs_aI s 40 (s.1 56)).bind fun x13 => if mx_f2 .ne x13 1 = true then s319_52 (rM w (k + 4)) w i1 (Int32.ofNat n) s else if mx_f2 .ne (s.1 59) 16 = true then s319_52 (rM w (k + 4)) w i1 (Int32.ofNat n) s else ((rM w (k + 4) 304 [.ref 36] s).bind rxV).bind fun s17 => s319_52 (rM w (k + 4)) w i1 (Int32.ofNat n) s17) = r := by
        intro r hr
        rw [rd, Option.bind_some, so1, if_neg (show ¬ mx_f2 .ne (1 : Int32) 1 = true by decide), if_pos (by
          rw [f2_ne, h59]
          apply decide_eq_true
          intro u
          have u2 := congrArg Int32.toInt u
          rw [of_int (by omega), show (16 : Int32).toInt = 16 from by decide] at u2
          omega), r_52 hl hn q7 (rT_F rF_nx rt)]
        exact hr
      obtain ⟨v1, v2, v3⟩ := vaS_1 (F := F) (N := N) (s := nxS s i) (n := n) (i := i)
      have a57 : (vaS F N (nxS s i) n i).1 57 = 0 := h57
      have a56 : (vaS F N (nxS s i) n i).1 56 = Int32.ofNat (i + 1) := rfl
      have rta : rTk F N (vaS F N (nxS s i) n i) := rT_F vaS_rF (rT_F rF_nx rt)
      have rfa : rF s (vaS F N (nxS s i) n i) := rF_trans rF_nx vaS_rF
      have sxa : ∀ nd, nd ≤ n → sX s (vaS F N (nxS s i) n i) nd := fun nd hnd => sX_trans (sX_of rfl _) (vaS_sX hnd) (Nat.le_refl _)
      have yaa : yA s (vaS F N (nxS s i) n i) := yA_trans (s1 := nxS s i) (yA_2 rfl rfl) vaS_yA
      have ona : onR (vaS F N (nxS s i) n i) n (upd (upd R0 53 (Int32.ofNat l)) 51 (F 5 i)) (N i) := by
        have ob : onR (nxS s i) n R0 J0 := o
        have a := vaS_on (F := F) (N := N) (i := i) ob
        rw [show (nxS s i).1 59 = Int32.ofNat l from h59] at a
        exact a
      have a59 : (vaS F N (nxS s i) n i).1 59 = Int32.ofNat (l + 1) := by
        rw [v1, ← l59, ← h59]
        rfl
      have a25 : (vaS F N (nxS s i) n i).1 25 = s.1 25 + 1 := v2
      have aj : ∀ j, j ≠ 25 → j ≠ 26 → j ≠ 56 → j ≠ 57 → j ≠ 58 → j ≠ 59 → (vaS F N (nxS s i) n i).1 j = s.1 j := fun j h1 h2 h3 h4 h5 h6 => by
        rw [v3 j h6 h1]
        exact upd_ne _ _ h3
      have a58 : (vaS F N (nxS s i) n i).1 58 = s.1 58 := by
        rw [v3 58 (by decide) (by decide)]
        rfl
      have a26 : (vaS F N (nxS s i) n i).1 26 = s.1 26 := by
        rw [v3 26 (by decide) (by decide)]
        rfl
      have q8 := q308 (w := w) (k := k + 1) 58 a57 a56 (by omega)
      rw [rta.1, rta.2.2.1] at q8
      by_cases t11 : ctk cx F (i + 1) = 11
      · have hlt2 : i + 1 < cx 16 := tk_lt hT hi1 (by rw [t11]; decide) (by rw [t11]; decide)
        rw [if_pos ((sg_iff tr1 P58).mpr t11)] at q8
        obtain ⟨s', m1, m2, m3⟩ := ty_type (w := w) (k := k) (s := nxS (vaS F N (nxS s i) n i) (i + 1)) (i := i + 2) (y := y) hT (by omega) a57 rfl (rT_F rF_nx rta) (a26.trans h26) (by omega)
        have toy : ∀ j, j ≠ 26 → j ≠ 56 → j ≠ 57 → j ≠ 58 → s'.1 j = (vaS F N (nxS s i) n i).1 j := by
          intro j h1 h2 h3 h4
          rw [m2.1 j h2 h3 h4]
          show upd (upd (vaS F N (nxS s i) n i).1 56 _) 26 _ j = _
          rw [upd_ne _ _ h1, upd_ne _ _ h2]
        have row : ∀ p, p < 57 ∨ 59 < p → s'.2.1 p = (vaS F N (nxS s i) n i).2.1 p := fun p hp => m2.2.1 p hp
        have s26 : s'.1 26 = Int32.ofNat (y + 1) := (m2.1 26 (by decide) (by decide) (by decide)).trans rfl
        refine ⟨rs_wA s' 54 n (Int32.ofNat y), Int32.ofNat y, head _ ?_, ?_, fun nd hnd => ?_, ?_, ?_, ?_, ?_, fun j h1 h2 h3 h4 h5 h6 => ?_, Or.inl ⟨l16, t2, t11, by omega, rfl, s26, ?_⟩⟩
        · rw [show (rM w (k + 4) 308 [.ref 36, .int 58] (vaS F N (nxS s i) n i)).bind rxV = some (nxS (vaS F N (nxS s i) n i) (i + 1)) from by rw [q8]; rfl, Option.bind_some, if_pos (by rw [show (nxS (vaS F N (nxS s i) n i) (i + 1)).1 57 = 0 from a57]; decide), m1]
          exact r_138 hn
        · refine rF_trans (rF_trans rfa ⟨fun j h1 h2 h3 h4 h5 h6 h7 h8 => toy j h4 h5 h6 h7, fun p hp => row p (by omega), fun p h1 h2 => m2.2.2.2.1 p h2⟩) (rF_A (by omega))
        · refine sX_trans (sX_trans (sxa nd hnd) (s2 := s') (fun j hj => ⟨fun p h1 h2 => ?_, ?_⟩) (Nat.le_refl _)) (sX_A hnd) (Nat.le_refl _)
          · rw [row p (by omega)]
          · rw [m2.2.2.2.1 56 (by decide)]
            rfl
        · refine yA_trans (yA_trans yaa (s2 := s') ?_) (yA_A (by omega))
          refine ⟨?_, fun y' hy' => ?_⟩
          · rw [s26, a26, h26, of_int (by omega), of_int (by omega)]
            omega
          · rw [a26, h26, of_int (by omega)] at hy'
            have ne : y' ≠ y := by omega
            exact ⟨m2.2.2.1 57 y' ne, m2.2.2.1 58 y' ne, m2.2.2.1 59 y' ne, m2.2.2.2.2 61 y' ne⟩
        · refine on54 _ _ _ _ ⟨fun r h1 h2 => ?_, ?_⟩
          · rw [row r (by omega)]
            exact ona.1 r h1 h2
          · rw [m2.2.2.2.1 56 (by decide)]
            exact ona.2
        · exact (toy 59 (by decide) (by decide) (by decide) (by decide)).trans a59
        · exact (toy 25 (by decide) (by decide) (by decide) (by decide)).trans a25
        · exact (toy j h2 h3 h4 h5).trans (aj j h1 h2 h3 h4 h5 h6)
        · exact tyO_w m3 rfl (fun p h1 h2 => wA_ne _ _ _ (by omega)) rfl a58.symm
      · rw [if_neg (fun u => t11 ((sg_iff tr1 P58).mp u))] at q8
        refine ⟨rs_wA (stS (vaS F N (nxS s i) n i) (i + 1)) 54 n 0, 0, head _ ?_, rF_trans (rF_trans rfa rF_st) (rF_A (by omega)), fun nd hnd => sX_trans (sX_trans (sxa nd hnd) (sX_of rfl _) (Nat.le_refl _)) (sX_A hnd) (Nat.le_refl _), yA_trans (yA_trans yaa (s2 := stS (vaS F N (nxS s i) n i) (i + 1)) (yA_2 rfl rfl)) (yA_A (by omega)), on54 _ _ _ _ ona, a59, a25, fun j h1 h2 h3 h4 h5 h6 => ?_, Or.inr (Or.inl ⟨l16, t2, t11, hi1, a26, rfl, ?_, a56⟩)⟩
        · rw [show (rM w (k + 4) 308 [.ref 36, .int 58] (vaS F N (nxS s i) n i)).bind rxV = some (stS (vaS F N (nxS s i) n i) (i + 1)) from by rw [q8]; rfl, Option.bind_some, if_neg (by rw [show (stS (vaS F N (nxS s i) n i) (i + 1)).1 57 = 1 from rfl]; decide)]
          exact r_138 hn
        · show upd (upd (vaS F N (nxS s i) n i).1 57 1) 58 _ j = _
          rw [upd_ne _ _ h5, upd_ne _ _ h4]
          exact aj j h1 h2 h3 h4 h5 h6
        · show (vaS F N (nxS s i) n i).2.1 41 (i + 1) = _
          rw [rta.2.1, f51]
    · refine bad ?_ (Or.inr (by omega))
      have l16' : l = 16 := by omega
      rw [rd, Option.bind_some, so1, if_neg (show ¬ mx_f2 .ne (1 : Int32) 1 = true by decide), if_neg (by rw [h59, l16']; decide), show (rM w (k + 4) 304 [.ref 36] s).bind rxV = some (stS s i) from by rw [q304 (k := k + 2) h57 ht hl]; rfl, Option.bind_some]
      exact badE _ (z307 (k := k + 1) 1 rfl ht hl)
  · have so1 : ¬ F 4 i = 1 := fun u => t2 (s1i.mp u)
    refine bad ?_ (Or.inl t2)
    rw [rd, Option.bind_some, if_pos (by rw [f2_ne]; exact decide_eq_true so1)]
    rw [if_neg so1] at q7
    exact badE _ q7
end VS
