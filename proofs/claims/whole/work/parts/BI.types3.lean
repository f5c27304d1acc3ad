/-! A TYPE IS READ BY THE REFERENCE. -/
/-- from s to s' only type y and where the reader stands are written -/
def yK (s s' : rS) (y : Nat) : Prop := (∀ j, j ≠ 56 → j ≠ 57 → j ≠ 58 → s'.1 j = s.1 j) ∧ (∀ p, p < 57 ∨ 59 < p → s'.2.1 p = s.2.1 p) ∧ (∀ p i, i ≠ y → s'.2.1 p i = s.2.1 p i) ∧ (∀ p, p ≠ 61 → s'.2.2 p = s.2.2 p) ∧ ∀ p i, i ≠ y → s'.2.2 p i = s.2.2 p i
section YK
variable {w k i y : Nat} {cx : Nat → Nat} {F : Nat → Nat → Int32} {N : Nat → Int64} {s s1 s2 : rS}
theorem yK_refl (s : rS) (y : Nat) : yK s s y := ⟨fun _ _ _ _ => rfl, fun _ _ => rfl, fun _ _ _ => rfl, fun _ _ => rfl, fun _ _ _ => rfl⟩
theorem yK_trans (a : yK s s1 y) (b : yK s1 s2 y) : yK s s2 y := ⟨fun j h1 h2 h3 => (b.1 j h1 h2 h3).trans (a.1 j h1 h2 h3), fun p hp => (b.2.1 p hp).trans (a.2.1 p hp), fun p j hj => (b.2.2.1 p j hj).trans (a.2.2.1 p j hj), fun p hp => (b.2.2.2.1 p hp).trans (a.2.2.2.1 p hp), fun p j hj => (b.2.2.2.2 p j hj).trans (a.2.2.2.2 p j hj)⟩
theorem yK_w {j : Nat} {x : Int32} (hj : j = 56 ∨ j = 57 ∨ j = 58) : yK s (rs_w s j x) y := ⟨fun i h1 h2 h3 => w_ne _ _ (by omega), fun _ _ => rfl, fun _ _ _ => rfl, fun _ _ => rfl, fun _ _ _ => rfl⟩
theorem yK_A {p : Nat} {x : Int32} (hp : 57 ≤ p ∧ p ≤ 59) : yK s (rs_wA s p y x) y := ⟨fun _ _ _ _ => rfl, fun r hr => wA_ne _ _ _ (by omega), fun r i hi => by rw [wA_get, if_neg (fun z => hi z.2)], fun _ _ => rfl, fun _ _ _ => rfl⟩
theorem yK_B {x : Int64} : yK s (rs_wB s 61 y x) y := ⟨fun _ _ _ _ => rfl, fun _ _ => rfl, fun _ _ _ => rfl, fun r hr => wB_ne _ _ _ hr, fun r i hi => by rw [wB_get, if_neg (fun z => hi z.2)]⟩
theorem yK_nx : yK s (nxS s i) y := yK_w (Or.inl rfl)
theorem yK_st : yK s (stS s i) y := yK_trans (yK_w (Or.inr (Or.inl rfl))) (yK_w (Or.inr (Or.inr rfl)))
theorem yK_E {s1 : rS} : yK s1 (tyE s1 y i) y := yK_trans (yK_A (by omega)) yK_B
theorem rT_K (a : yK s s1 y) (t : rTk F N s) : rTk F N s1 := by
  obtain ⟨t1, t2, t3, t4⟩ := t
  exact ⟨(a.2.1 40 (by omega)).trans t1, (a.2.1 41 (by omega)).trans t2, (a.2.1 42 (by omega)).trans t3, (a.2.2.2.1 43 (by decide)).trans t4⟩
/-- what the reference has read of a TYPE -/
def tyO (cx : Nat → Nat) (F : Nat → Nat → Int32) (N : Nat → Int64) (s s' : rS) (i y : Nat) : Prop :=
  (ctk cx F i = 43 ∧ s'.1 56 = Int32.ofNat (i + 1) ∧ s'.1 57 = 0 ∧ s'.1 58 = s.1 58 ∧ s'.2.1 57 y = 6)
  ∨ (¬ ctk cx F i = 43 ∧ s'.2.1 59 y = cpl cx F (tiA cx F i) ∧ s'.2.2 61 y = N (tiA cx F i) ∧ ((isC cx F i ∧ s'.2.1 57 y = ctk cx F i - 38 ∧ s'.2.1 58 y = cpl cx F i) ∨ (¬ isC cx F i ∧ s'.2.1 57 y = 5)) ∧ ((ctk cx F (tiA cx F i) = 3 ∧ s'.1 56 = Int32.ofNat (tiA cx F i + 1) ∧ s'.1 57 = 0 ∧ s'.1 58 = s.1 58) ∨ (¬ ctk cx F (tiA cx F i) = 3 ∧ s'.1 56 = Int32.ofNat (tiA cx F i) ∧ s'.1 57 = 1 ∧ s'.1 58 = cpl cx F (tiA cx F i))))
theorem tyE_v (s1 : rS) (y i : Nat) : (tyE s1 y i).1 = s1.1 ∧ (tyE s1 y i).2.1 59 y = s1.2.1 41 i ∧ (tyE s1 y i).2.2 61 y = s1.2.2 43 i ∧ (tyE s1 y i).2.1 57 y = s1.2.1 57 y ∧ (tyE s1 y i).2.1 58 y = s1.2.1 58 y := by
  unfold tyE
  refine ⟨rfl, ?_, ?_, ?_, ?_⟩
  · show (rs_wA s1 59 y (s1.2.1 41 i)).2.1 59 y = _
    rw [wA_get, if_pos ⟨rfl, rfl⟩]
  · rw [wB_get, if_pos ⟨rfl, rfl⟩]
  · show (rs_wA s1 59 y (s1.2.1 41 i)).2.1 57 y = _
    rw [wA_get, if_neg (by omega)]
  · show (rs_wA s1 59 y (s1.2.1 41 i)).2.1 58 y = _
    rw [wA_get, if_neg (by omega)]
theorem ty_type (hT : TF cx F N) (hi : i ≤ cx 16) (h0 : s.1 57 = 0) (ht : s.1 56 = Int32.ofNat i) (hr : rTk F N s) (h26 : s.1 26 = Int32.ofNat y) (hy : y < 2000) : ∃ s', rM w (k + 4) 312 [.ref 36] s = some (some (.int (Int32.ofNat y)), s') ∧ yK (rs_w s 26 (Int32.ofNat (y + 1))) s' y ∧ tyO cx F N s s' i y := by
  have hl : i ≤ 2000 := by have := hT.1; omega
  obtain ⟨⟨f5, _, tr⟩, _⟩ := hT.2.2 i hi
  obtain ⟨r40, r41, r42, r43⟩ := id hr
  -- the first writes
  have K18 : yK (rs_w s 26 (Int32.ofNat (y + 1))) (rs_wB (rs_wA (rs_wA (rs_w s 26 (Int32.ofNat (y + 1))) 58 y (F 5 i)) 57 y 5) 61 y 0) y := yK_trans (yK_trans (yK_A (by omega)) (yK_A (by omega))) yK_B
  have v57 : (rs_wB (rs_wA (rs_wA (rs_w s 26 (Int32.ofNat (y + 1))) 58 y (F 5 i)) 57 y 5) 61 y 0).2.1 57 y = 5 := by
    show (rs_wA (rs_wA (rs_w s 26 (Int32.ofNat (y + 1))) 58 y (F 5 i)) 57 y 5).2.1 57 y = 5
    rw [wA_get, if_pos ⟨rfl, rfl⟩]
  have v58 : (rs_wB (rs_wA (rs_wA (rs_w s 26 (Int32.ofNat (y + 1))) 58 y (F 5 i)) 57 y 5) 61 y 0).2.1 58 y = F 5 i := by
    show (rs_wA (rs_wA (rs_w s 26 (Int32.ofNat (y + 1))) 58 y (F 5 i)) 57 y 5).2.1 58 y = F 5 i
    rw [wA_get, if_neg (by omega), wA_get, if_pos ⟨rfl, rfl⟩]
  have b57 : (rs_wB (rs_wA (rs_wA (rs_w s 26 (Int32.ofNat (y + 1))) 58 y (F 5 i)) 57 y 5) 61 y 0).1 57 = 0 := h0
  have b56 : (rs_wB (rs_wA (rs_wA (rs_w s 26 (Int32.ofNat (y + 1))) 58 y (F 5 i)) 57 y 5) 61 y 0).1 56 = Int32.ofNat i := ht
  have b58 : (rs_wB (rs_wA (rs_wA (rs_w s 26 (Int32.ofNat (y + 1))) 58 y (F 5 i)) 57 y 5) 61 y 0).1 58 = s.1 58 := rfl
  have rt := rT_K K18 (show rTk F N (rs_w s 26 (Int32.ofNat (y + 1))) from hr)
  generalize es : rs_wB (rs_wA (rs_wA (rs_w s 26 (Int32.ofNat (y + 1))) 58 y (F 5 i)) 57 y 5) 61 y 0 = sa at K18 v57 v58 b57 b56 b58 rt
  have head : ∀ r, (((rM w (k + 3) 303 [.ref 36, .int 23] sa).bind rxI).bind fun x23 => if mx_f1 .eq x23.1 = true then ((rM w (k + 3) 313 [.ref 36] x23.2).bind rxI).bind fun x29 => if mx_f1 .eq x29.1 = true then s312_123 (rM w (k + 3)) w (Int32.ofNat y) x29.2 else (rs_aI x29.2 42 (x29.2.1 56)).bind fun x35 => (rs_sI x29.2 57 (Int32.ofNat y) (x35 - 18)).bind fun s37 => (rs_pI s37 56 ((s37.1 56) + 1)).bind fun s42 => s312_123 (rM w (k + 3)) w (Int32.ofNat y) s42 else (rs_sI x23.2 57 (Int32.ofNat y) 6).bind fun s47 => (rs_aI s47 41 (s47.1 56)).bind fun x52 => (rs_sI s47 59 (Int32.ofNat y) x52).bind fun s54 => (rs_pI s54 56 ((s54.1 56) + 1)).bind fun s59 => rrI (some .int) (Int32.ofNat y) s59) = r → rM w (k + 4) 312 [.ref 36] s = r := by
    intro r hr2
    rw [y312]
    show s312_0 (rM w (k + 3)) w s = _
    unfold s312_0
    rw [h26, show Int32.ofNat y + 1 = Int32.ofNat (y + 1) from of_add y 1]
    show (rs_aI (rs_w s 26 (Int32.ofNat (y + 1))) 41 ((rs_w s 26 (Int32.ofNat (y + 1))).1 56)).bind _ = _
    rw [aT (s := rs_w s 26 (Int32.ofNat (y + 1))) (by omega) ht hl]
    show (rs_sI (rs_w s 26 (Int32.ofNat (y + 1))) 58 (Int32.ofNat y) (s.2.1 41 i)).bind _ = _
    rw [r41, yW (by omega) hy]
    show (rs_sI (rs_wA (rs_w s 26 (Int32.ofNat (y + 1))) 58 y (F 5 i)) 57 (Int32.ofNat y) 5).bind _ = _
    rw [yW (by omega) hy]
    show (rs_sJ (rs_wA (rs_wA (rs_w s 26 (Int32.ofNat (y + 1))) 58 y (F 5 i)) 57 y 5) 61 (Int32.ofNat y) 0).bind _ = _
    rw [yWJ hy]
    show (((rM w (k + 3) 303 [.ref 36, .int 23] (rs_wB (rs_wA (rs_wA (rs_w s 26 (Int32.ofNat (y + 1))) 58 y (F 5 i)) 57 y 5) 61 y 0)).bind rxI).bind _) = _
    rw [es]
    exact hr2
  have q23 := q303 (w := w) (k := k + 2) 23 b57 b56 hl
  rw [rt.1, rt.2.2.1] at q23
  by_cases t43 : ctk cx F i = 43
  · refine ⟨nxS (rs_wA (rs_wA sa 57 y 6) 59 y (F 5 i)) i, head _ ?_, yK_trans (yK_trans (yK_trans K18 (yK_A (by omega))) (yK_A (by omega))) yK_nx, Or.inl ⟨t43, w_eq _ _ _, b57, b58, ?_⟩⟩
    · refine bse (a := (rd_01 true, sa)) (by rw [q23, decide_eq_true ((wd_iff tr Q23).mpr t43)]; rfl) (ifn (show ¬ mx_f1 .eq (rd_01 true) = true by decide) ?_)
      refine bse (yW (by omega) hy) ?_
      refine bse (a := F 5 i) ?_ (bse (yW (by omega) hy) (bse (pI_nx (s := rs_wA (rs_wA sa 57 y 6) 59 y (F 5 i)) b56) rfl))
      rw [aT (s := rs_wA sa 57 y 6) (by omega) b56 hl]
      show some ((rs_wA sa 57 y 6).2.1 41 i) = _
      rw [wA_ne _ _ _ (by decide), rt.2.1]
    · show (rs_wA (rs_wA sa 57 y 6) 59 y (F 5 i)).2.1 57 y = 6
      rw [wA_get, if_neg (by omega), wA_get, if_pos ⟨rfl, rfl⟩]
  · have q13 := q313 (w := w) (k := k + 2) b57 b56 hl
    rw [rt.1, rt.2.2.1] at q13
    have pre : ∀ r, (((rM w (k + 3) 313 [.ref 36] sa).bind rxI).bind fun x29 => if mx_f1 .eq x29.1 = true then s312_123 (rM w (k + 3)) w (Int32.ofNat y) x29.2 else (rs_aI x29.2 42 (x29.2.1 56)).bind fun x35 => (rs_sI x29.2 57 (Int32.ofNat y) (x35 - 18)).bind fun s37 => (rs_pI s37 56 ((s37.1 56) + 1)).bind fun s42 => s312_123 (rM w (k + 3)) w (Int32.ofNat y) s42) = r → rM w (k + 4) 312 [.ref 36] s = r := by
      intro r hr2
      refine head r ?_
      rw [q23, decide_eq_false (fun z => t43 ((wd_iff tr Q23).mp z))]
      exact hr2
    by_cases cp : isC cx F i
    · have hlt := isC_lt hT hi cp
      have hi1 : i + 1 ≤ cx 16 := hlt
      obtain ⟨⟨f5', _, tr'⟩, _⟩ := hT.2.2 (i + 1) hi1
      have c38 : ctk cx F i - 38 = F 6 i - 18 := by
        obtain ⟨c, _, e1, e2⟩ := (cap_iff tr).2 cp
        rw [e1, e2]
      have sb57 : (nxS (rs_wA sa 57 y (F 6 i - 18)) i).1 57 = 0 := b57
      have sb56 : (nxS (rs_wA sa 57 y (F 6 i - 18)) i).1 56 = Int32.ofNat (i + 1) := w_eq _ _ _
      have rtb : rTk F N (nxS (rs_wA sa 57 y (F 6 i - 18)) i) := rT_K (yK_trans (yK_A (p := 57) (y := y) (by omega)) yK_nx) rt
      have tt := ty_tail (w := w) (k := k) hT hi1 sb57 sb56 hy
      rw [rtb.1] at tt
      obtain ⟨o1, o2, o3, o4, o5⟩ := tyE_v (if F 4 (i + 1) = 3 then nxS (nxS (rs_wA sa 57 y (F 6 i - 18)) i) (i + 1) else stS (nxS (rs_wA sa 57 y (F 6 i - 18)) i) (i + 1)) y (i + 1)
      refine ⟨tyE (if F 4 (i + 1) = 3 then nxS (nxS (rs_wA sa 57 y (F 6 i - 18)) i) (i + 1) else stS (nxS (rs_wA sa 57 y (F 6 i - 18)) i) (i + 1)) y (i + 1), pre _ ?_, yK_trans (yK_trans (yK_trans (yK_trans K18 (yK_A (p := 57) (x := F 6 i - 18) (by omega))) (yK_nx (i := i))) ?_) yK_E, Or.inr ⟨t43, ?_, ?_, Or.inl ⟨cp, ?_, ?_⟩, ?_⟩⟩
      · refine bse (a := (rd_01 true, sa)) (by rw [q13, decide_eq_true ((cap_iff tr).1.mpr cp)]; rfl) (ifn (show ¬ mx_f1 .eq (rd_01 true) = true by decide) ?_)
        refine bse (a := F 6 i) ?_ (bse (yW (by omega) hy) (bse (pI_nx (s := rs_wA sa 57 y (F 6 i - 18)) b56) tt))
        show rs_aI sa 42 (sa.1 56) = _
        rw [aT (by omega) b56 hl, rt.2.2.1]
      · split
        · exact yK_nx
        · exact yK_st
      · rw [tiA_c cp, o2, ← f5', ← rtb.2.1]
        split <;> rfl
      · rw [tiA_c cp, o3, ← rtb.2.2.2]
        split <;> rfl
      · rw [o4, c38]
        have : (rs_wA sa 57 y (F 6 i - 18)).2.1 57 y = F 6 i - 18 := by rw [wA_get, if_pos ⟨rfl, rfl⟩]
        split
        · exact this
        · exact this
      · rw [o5, ← f5]
        have : (rs_wA sa 57 y (F 6 i - 18)).2.1 58 y = F 5 i := by rw [wA_get, if_neg (by omega), v58]
        split
        · exact this
        · exact this
      · rw [tiA_c cp, o1]
        have s3 := (so_iff tr').2.1
        by_cases t3 : ctk cx F (i + 1) = 3
        · rw [if_pos (s3.mpr t3)]
          exact Or.inl ⟨t3, w_eq _ _ _, sb57, b58⟩
        · rw [if_neg (fun z => t3 (s3.mp z))]
          refine Or.inr ⟨t3, sb56, rfl, ?_⟩
          show (nxS (rs_wA sa 57 y (F 6 i - 18)) i).2.1 41 (i + 1) = _
          rw [rtb.2.1, f5']
    · have tt := ty_tail (w := w) (k := k) hT hi b57 b56 hy
      rw [rt.1] at tt
      obtain ⟨o1, o2, o3, o4, o5⟩ := tyE_v (if F 4 i = 3 then nxS sa i else stS sa i) y i
      refine ⟨tyE (if F 4 i = 3 then nxS sa i else stS sa i) y i, pre _ ?_, yK_trans (yK_trans K18 ?_) yK_E, Or.inr ⟨t43, ?_, ?_, Or.inr ⟨cp, ?_⟩, ?_⟩⟩
      · exact bse (a := (rd_01 false, sa)) (by rw [q13, decide_eq_false (fun z => cp ((cap_iff tr).1.mp z))]; rfl) (ift (show mx_f1 .eq (rd_01 false) = true by decide) tt)
      · split
        · exact yK_nx
        · exact yK_st
      · rw [tiA_n cp, o2, ← f5, ← rt.2.1]
        split <;> rfl
      · rw [tiA_n cp, o3, ← rt.2.2.2]
        split <;> rfl
      · rw [o4]
        split
        · exact v57
        · exact v57
      · rw [tiA_n cp, o1]
        have s3 := (so_iff tr).2.1
        by_cases t3 : ctk cx F i = 3
        · rw [if_pos (s3.mpr t3)]
          exact Or.inl ⟨t3, w_eq _ _ _, b57, b58⟩
        · rw [if_neg (fun z => t3 (s3.mp z))]
          refine Or.inr ⟨t3, b56, rfl, ?_⟩
          show sa.2.1 41 i = _
          rw [rt.2.1, f5]
end YK
