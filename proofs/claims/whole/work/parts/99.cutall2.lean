/-! THE CLASS'S READER CUTS THE TEXT: the loop. -/
section CA2
variable {L : Nat} {xs : Nat → Int32} {zf : Value} {w k : Nat}
theorem upd_same (v : Nat → Int32) (j : Nat) (x : Int32) (hv : v j = x) : upd v j x = v := by
  funext i
  unfold upd
  split
  · next e => rw [e, hv]
  · rfl
theorem upd_upd (v : Nat → Int32) (j : Nat) (x y : Int32) : upd (upd v j x) j y = upd v j y := by
  funext i
  unfold upd
  split <;> rfl
theorem ca_loop {r t a tk pl en n : Nat} {f : Nat → Int32} (hw : 201 ≤ w) (hw2 : n < w) : ∀ (F at_ c N : Nat) (h : rm_H) (v A B C : Nat → Int32), n ≤ at_ + F → at_ ≤ n → c ≤ at_ → F ≤ N → rP h r t a tk pl en n f v A B C → v 4 = Int32.ofNat c → ∃ h', b62_2 L xs zf (dM L xs zf w (k + 7)) w (N + 1) (some r) (Int32.ofNat at_) h = some (none, h') ∧ rP h' r t a tk pl en n f (upd v 4 (Int32.ofNat (lxC (fun i => f i &&& 255) n F at_ c A B C).1)) (lxC (fun i => f i &&& 255) n F at_ c A B C).2.1 (lxC (fun i => f i &&& 255) n F at_ c A B C).2.2.1 (lxC (fun i => f i &&& 255) n F at_ c A B C).2.2.2 ∧ h'.length = h.length ∧ zh h' = zh h ∧ ∀ q, q ≠ r - 21 → q ≠ tk - 21 → q ≠ pl - 21 → q ≠ en - 21 → h'[q]? = h[q]? := by
  intro F
  -- the end of the loop
  have fin : ∀ (N : Nat) (h : rm_H) (v A B C : Nat → Int32), rP h r t a tk pl en n f v A B C → b62_2 L xs zf (dM L xs zf w (k + 7)) w (N + 1) (some r) (Int32.ofNat n) h = some (none, h) := by
    intro N h v A B C hP
    have hT := rP_sT (L := L) (xs := xs) hP
    rw [b62_2]
    refine bse (rd_t (rP_rD hP)) (bse (st_l (k := k + 5) hT) ?_)
    exact ift (show mx_f2 .ge (Int32.ofNat n) (Int32.ofNat n) = true by rw [f2_ge]; simp) rfl
  induction F with
  | zero =>
    intro at_ c N h v A B C hn hat hc hN hP hv
    have : at_ = n := by omega
    subst this
    refine ⟨h, fin N h v A B C hP, ?_, rfl, rfl, fun _ _ _ _ _ => rfl⟩
    show rP h r t a tk pl en at_ f (upd v 4 (Int32.ofNat c)) A B C
    rw [upd_same v 4 _ hv]
    exact hP
  | succ F ih =>
    intro at_ c N h v A B C hn hat hc hN hP hv
    rw [lxC]
    by_cases hlt : at_ < n
    · rw [if_pos hlt]
      obtain ⟨N', rfl⟩ : ∃ N', N = N' + 1 := ⟨N - 1, by omega⟩
      have hT := rP_sT (L := L) (xs := xs) hP
      have hR := rP_rD (L := L) (xs := xs) hP
      have hP0 := hP
      obtain ⟨⟨p1, p2, p3, p4, p5, p6⟩, nd, hn2, h1, ⟨x1, y1, h2⟩, h3, h4, h5, h6⟩ := hP0
      have pre : ∀ R : Option dR, (if mx_f2 .ne (f at_ &&& 255) 32 = true then
          ((dcV L xs (dM L xs zf w (k + 7)) 67 [6] (some r) [.int (Int32.ofNat at_)] h).bind dxI).bind fun x22 =>
          (dgR L xs x22.2 1 [6] (some r)).bind fun p29 =>
          (dgI L xs x22.2 4 [6] (some r)).bind fun x31 =>
          (dgR L xs x22.2 0 [6] (some r)).bind fun p33 =>
          ((dcV L xs (dM L xs zf w (k + 7)) 63 [7, 16] p33 [.int (Int32.ofNat at_)] x22.2).bind dxI).bind fun x35 =>
          ((dM L xs zf w (k + 7) 68 [.int x35.1] x35.2).bind dxI).bind fun x39 =>
          if mx_f1 .eq x39.1 = true then
            ((dcV L xs (dM L xs zf w (k + 7)) 74 [6] (some r) [.int (Int32.ofNat at_), .int x22.1] x39.2).bind dxI).bind fun x44 =>
            b62_87 L xs zf (dM L xs zf w (k + 7)) w (b62_2 L xs zf (dM L xs zf w (k + 7)) w (N' + 1)) (some r) (Int32.ofNat at_) x22.1 x44.1 x31 p29 x44.2
          else
            ((dcV L xs (dM L xs zf w (k + 7)) 71 [6] (some r) [.int (Int32.ofNat at_), .int x22.1] x39.2).bind dxI).bind fun x48 =>
            b62_87 L xs zf (dM L xs zf w (k + 7)) w (b62_2 L xs zf (dM L xs zf w (k + 7)) w (N' + 1)) (some r) (Int32.ofNat at_) x22.1 x48.1 x31 p29 x48.2
        else
          b62_2 L xs zf (dM L xs zf w (k + 7)) w (N' + 1) (some r) (Int32.ofNat at_ + 1) h) = R → b62_2 L xs zf (dM L xs zf w (k + 7)) w (N' + 1 + 1) (some r) (Int32.ofNat at_) h = R := by
        intro R hR2
        rw [b62_2, rd_t hR]
        show ((dcV L xs (dM L xs zf w (k + 7)) 60 [7, 16] (some t) [] h).bind dxI).bind _ = _
        rw [st_l (k := k + 5) hT]
        show (if mx_f2 .ge (Int32.ofNat at_) (Int32.ofNat n) = true then _ else _) = _
        rw [if_neg (show ¬ mx_f2 .ge (Int32.ofNat at_) (Int32.ofNat n) = true by rw [f2_ge, of_int (by omega), of_int (by omega)]; simp; omega), gI_of (x := v 4) p1 h1 (by decide) rfl, hv]
        show (dgR L xs h 1 [6] (some r)).bind _ = _
        rw [gR_of (p := some tk) p1 h1 (by decide) rfl]
        show (daN L xs h (some tk)).bind _ = _
        rw [aN_of p4 h4 (by decide)]
        show (if mx_f2 .ge (Int32.ofNat c) (Int32.ofNat (n + 1)) = true then _ else _) = _
        rw [if_neg (show ¬ mx_f2 .ge (Int32.ofNat c) (Int32.ofNat (n + 1)) = true by rw [f2_ge, of_int (by omega), of_int (by omega)]; simp; omega), rd_t hR]
        show ((dcV L xs (dM L xs zf w (k + 7)) 63 [7, 16] (some t) [.int (Int32.ofNat at_)] h).bind dxI).bind _ = _
        rw [st_c (k := k + 3) hT at_ hlt]
        exact hR2
      by_cases c32 : f at_ &&& 255 = 32
      · rw [if_pos c32]
        obtain ⟨h', g1, g2, g3, g4, g5⟩ := ih (at_ + 1) c N' h v A B C (by omega) (by omega) (by omega) (by omega) hP hv
        refine ⟨h', pre _ ?_, g2, g3, g4, g5⟩
        rw [if_neg (show ¬ mx_f2 .ne (f at_ &&& 255) 32 = true by rw [f2_ne]; simp [c32]), show Int32.ofNat at_ + 1 = Int32.ofNat (at_ + 1) from of_add at_ 1]
        exact g1
      · rw [if_neg c32]
        have he := lx_en_gt (fun i => f i &&& 255) n at_ hlt
        obtain ⟨h1', u1, u2, u3, u4, u5⟩ := ca_put (L := L) (xs := xs) (zf := zf) (w := w) (k := k + 7) hP (b62_2 L xs zf (dM L xs zf w (k + 7)) w (N' + 1)) c at_ (lx_en (fun i => f i &&& 255) n at_) (tkF (fun i => f i &&& 255) n at_) hv (by omega)
        obtain ⟨h', g1, g2, g3, g4, g5⟩ := ih (lx_en (fun i => f i &&& 255) n at_) (c + 1) N' h1' _ _ _ _ (by omega) (by omega) (by omega) (by omega) u2 (upd_eq _ _ _)
        rw [upd_upd] at g2
        refine ⟨h', pre _ ?_, g2, by omega, by omega, fun q a1 a2 a3 a4 => (g5 q a1 a2 a3 a4).trans (u5 q a1 a2 a3 a4)⟩
        rw [if_pos (show mx_f2 .ne (f at_ &&& 255) 32 = true by rw [f2_ne]; simp [c32]), rd_v hR, en_of (k := k + 2) hR hT at_ hlt hw2]
        show (dgR L xs h 1 [6] (some r)).bind _ = _
        rw [gR_of (p := some tk) p1 h1 (by decide) rfl]
        show (dgI L xs h 4 [6] (some r)).bind _ = _
        rw [gI_of (x := v 4) p1 h1 (by decide) rfl, hv]
        show (dgR L xs h 0 [6] (some r)).bind _ = _
        rw [rd_t hR]
        show ((dcV L xs (dM L xs zf w (k + 7)) 63 [7, 16] (some t) [.int (Int32.ofNat at_)] h).bind dxI).bind _ = _
        rw [st_c (k := k + 3) hT at_ hlt]
        show ((dM L xs zf w (k + 7) 68 [.int (f at_ &&& 255)] h).bind dxI).bind _ = _
        rw [cl_al (k := k + 5)]
        show (if mx_f1 .eq (rd_01 (rd_al (f at_ &&& 255))) = true then _ else _) = _
        unfold tkF at u1
        cases hq : rd_al (f at_ &&& 255) with
        | false =>
          rw [if_pos (show mx_f1 .eq (rd_01 false) = true from by decide)]
          show ((dcV L xs (dM L xs zf w (k + 7)) 74 [6] (some r) [.int (Int32.ofNat at_), .int (Int32.ofNat (lx_en (fun i => f i &&& 255) n at_))] h).bind dxI).bind _ = _
          rw [rd_v hR, sg_of (k := k + 1) hR hT at_ (lx_en (fun i => f i &&& 255) n at_) hlt (by omega) (by omega) (by omega)]
          rw [if_neg (show ¬ rd_al ((fun i => f i &&& 255) at_) = true by show ¬ rd_al (f at_ &&& 255) = true; rw [hq]; decide)] at u1
          exact u1.trans g1
        | true =>
          rw [if_neg (show ¬ mx_f1 .eq (rd_01 true) = true from by decide)]
          show ((dcV L xs (dM L xs zf w (k + 7)) 71 [6] (some r) [.int (Int32.ofNat at_), .int (Int32.ofNat (lx_en (fun i => f i &&& 255) n at_))] h).bind dxI).bind _ = _
          rw [rd_v hR, row_of hR hT at_ (lx_en (fun i => f i &&& 255) n at_) (by omega) (by omega) hw hw2]
          rw [if_pos (show rd_al ((fun i => f i &&& 255) at_) = true from hq)] at u1
          exact u1.trans g1
    · rw [if_neg hlt]
      have : at_ = n := by omega
      subst this
      refine ⟨h, fin N h v A B C hP, ?_, rfl, rfl, fun _ _ _ _ _ => rfl⟩
      show rP h r t a tk pl en at_ f (upd v 4 (Int32.ofNat c)) A B C
      rw [upd_same v 4 _ hv]
      exact hP
end CA2
