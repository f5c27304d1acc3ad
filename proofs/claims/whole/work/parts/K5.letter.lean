/-! WHAT IS TOLD, BY BOTH: a letter. -/
/-- Told of both: b, m its text's array and room, c how many letters; st, dep numbers; mk marks, sa, sc the stack -/
def oTx (h : rm_H) (s : rS) (b m c : Nat) (st dep : Int32) (mk sa sc : Nat → Int32) : Prop := hc h 30 = some (.inr (3, [.ref 31, .ref 33, .ref 34, .ref 35, .int (Int32.ofNat c), .int st, .int dep])) ∧ hc h 33 = some (iaA 401 mk) ∧ hc h 34 = some (iaA 401 sa) ∧ hc h 35 = some (iaA 401 sc) ∧ s.1 111 = Int32.ofNat c ∧ ∃ (n : Nat) (ml : Int32) (f : Nat → Int32), sB h 31 b n m ml f ∧ iL s n f
/-- what telling leaves alone: the class -/
def tCh (h : rm_H) (b m : Nat) (h' : rm_H) (b' m' : Nat) : Prop := (∀ y e, hc h y = some e → y < 30 ∨ 35 < y ∨ y = 32 → y ≠ b → hc h' y = some e) ∧ m ≤ m' ∧ zh h' + 2 * m ≤ zh h + 2 * m' ∧ h'.length + m ≤ h.length + m' ∧ h.length ≤ h'.length ∧ (b' = b ∨ 21 + h.length ≤ b')
/-- the reference: letters alone -/
def oLs (s s' : rS) : Prop := (∀ p, p ≠ 111 → s'.1 p = s.1 p) ∧ (∀ p, p ≠ 111 → s'.2.1 p = s.2.1 p) ∧ s'.2.2 = s.2.2
section KLT
variable {L : Nat} {xs : Nat → Int32} {zf : Value} {w k k2 : Nat} {h h' h2 : rm_H} {s s' s2 : rS} {b m b' m' b2 m2 c d : Nat} {st dep : Int32} {mk sa sc : Nat → Int32}
theorem tCh_r (h : rm_H) (b m : Nat) : tCh h b m h b m := ⟨fun _ _ e _ _ => e, Nat.le_refl _, Nat.le_refl _, Nat.le_refl _, Nat.le_refl _, Or.inl rfl⟩
theorem tCh_t (x : tCh h b m h' b' m') (y : tCh h' b' m' h2 b2 m2) : tCh h b m h2 b2 m2 := by
  obtain ⟨a1, a2, a3, a4, a5, a6⟩ := x
  obtain ⟨b1, b2, b3, b4, b5, b6⟩ := y
  refine ⟨fun y e he hy hb => b1 y e (a1 y e he hy hb) hy (fun z => ?_), by omega, by omega, by omega, by omega, by omega⟩
  have := hc_lt he
  omega
theorem oLs_r (s : rS) : oLs s s := ⟨fun _ _ => rfl, fun _ _ => rfl, rfl⟩
theorem oLs_t (x : oLs s s') (y : oLs s' s2) : oLs s s2 := ⟨fun p h => (y.1 p h).trans (x.1 p h), fun p h => (y.2.1 p h).trans (x.2.1 p h), y.2.2.trans x.2.2⟩
theorem bv_d : ∀ n : Nat, n ≤ 255 → bv (Int32.ofNat n) &&& 255 = Int32.ofNat n := by decide +kernel
theorem b_letter (o : oTx h s b m c st dep mk sa sc) (hc6 : c ≤ 1000000) (hd : d ≤ 255) : ∃ (h' : rm_H) (s' : rS) (b' m' : Nat), dM L xs zf w (k + 7) 276 [.ref 30, .int (Int32.ofNat d)] h = some (none, h') ∧ rM w (k2 + 1) 410 [.ref 36, .int (Int32.ofNat d)] s = some (none, s') ∧ oTx h' s' b' m' (c + 1) st dep mk sa sc ∧ tCh h b m h' b' m' ∧ oLs s s' := by
  obtain ⟨h30, h33, h34, h35, s111, n, ml, f, hS, ⟨n3, l1, l2, l3⟩⟩ := o
  have ci : (Int32.ofNat c).toInt = c := of_int (by omega)
  have i3 : (3000 : Int32).toInt = 3000 := by decide
  rw [s111, ci] at l1 l2
  have hp : hc h 31 = some (.inr (1, [.ref b, .int 0, .int ml, .int (Int32.ofNat n)])) := hc_of (by decide) hS.2.2.2.2.2.2.1
  have hb : hc h b = some (.inl (1, m, .inl f)) := hc_of hS.2.1 hS.2.2.2.2.2.2.2
  have nb : ∀ {y : Nat} {e : rm_E}, hc h y = some e → (∀ u, e ≠ .inl (1, u)) → y ≠ b := fun e ne z => by
    rw [z, hb] at e
    exact ne _ (Option.some.inj e).symm
  have hdc : ∀ X, b276_0 L xs zf (dM L xs zf w (k + 6)) w (some 30) (Int32.ofNat d) h = X → dM L xs zf w (k + 7) 276 [.ref 30, .int (Int32.ofNat d)] h = X := fun X hX => by rw [e276]; exact hX
  have hdr : ∀ X, s410_0 (rM w k2) w (Int32.ofNat d) s = X → rM w (k2 + 1) 410 [.ref 36, .int (Int32.ofNat d)] s = X := fun X hX => by rw [y410]; exact hX
  by_cases full : 3000 ≤ c
  · have fl : mx_f2 .ge (Int32.ofNat c) 3000 = true := by rw [f2_ge, ci, i3]; exact decide_eq_true (by omega)
    obtain ⟨h1, a1, a2, a3⟩ := pF_ex (v := .int (Int32.ofNat c + 1)) (j := 4) (cis := [3]) h30 rfl (by decide) rfl (by decide)
    refine ⟨h1, rs_w s 111 (Int32.ofNat c + 1), b, m, hdc _ ?_, hdr _ ?_, ?_, ?_, ?_⟩
    · unfold b276_0
      refine bse (hc_gI h30 rfl (by decide)) (ift fl ?_)
      unfold b276_19
      exact bse (hc_gI h30 rfl (by decide)) (bse a1 rfl)
    · unfold s410_0
      refine ift (by rw [s111]; exact fl) ?_
      unfold s410_20
      rw [s111]
      exact bse rfl rfl
    · have k1 : ∀ {y : Nat} {e : rm_E}, hc h y = some e → y ≠ 30 → hc h1 y = some e := fun e ne => (st1_ne a3 ne).trans e
      refine ⟨by rw [of_inc] at a2; exact a2, k1 h33 (by decide), k1 h34 (by decide), k1 h35 (by decide), (show upd s.1 111 (Int32.ofNat c + 1) 111 = Int32.ofNat (c + 1) by rw [upd_eq', of_inc]), n, ml, f, sB_fr a3.1 (by decide) hS, n3, ?_, ?_, l3⟩
      · show 0 ≤ ((upd s.1 111 (Int32.ofNat c + 1)) 111).toInt
        rw [upd_eq', of_inc, of_int (by omega)]
        omega
      · show (n : Int) = min ((upd s.1 111 (Int32.ofNat c + 1)) 111).toInt 3000
        rw [upd_eq', of_inc, of_int (by omega)]
        omega
    · exact ⟨fun y e he hy _ => (st1_ne a3 (by omega)).trans he, Nat.le_refl _, by rw [a3.2.2]; exact Nat.le_refl _, by rw [a3.2.1]; exact Nat.le_refl _, by rw [a3.2.1]; exact Nat.le_refl _, Or.inl rfl⟩
    · exact ⟨fun p hp => upd_ne' hp, fun _ _ => rfl, rfl⟩
  · have fl : ¬ mx_f2 .ge (Int32.ofNat c) 3000 = true := by rw [f2_ge, ci, i3]; exact fun z => absurd (of_decide_eq_true z) (by omega)
    have en : n = c := by omega
    subst en
    obtain ⟨h1, b', m', f', g1, g2, g3, g4, g5, g6⟩ := sb_append (L := L) (xs := xs) (zf := zf) (w := w) (k := k) hS n3 (Int32.ofNat d) (by rw [of_int (by omega)]; omega) (by rw [of_int (by omega)]; omega)
    have k0 : ∀ {y : Nat} {e : rm_E}, hc h y = some e → y ≠ 31 → y ≠ b → hc h1 y = some e := fun e n1 n2 => by
      have q1 := hc_lt e
      have q2 := hc_ge e
      have q3 := hS.2.1
      exact hc_of q2 ((g6 _ (by omega) (by omega) (by omega)).trans (hc_at e))
    have h30' := k0 h30 (by decide) (nb h30 (fun u z => by cases z))
    obtain ⟨h2, a1, a2, a3⟩ := pF_ex (v := .int (Int32.ofNat n + 1)) (j := 4) (cis := [3]) h30' rfl (by decide) rfl (by decide)
    have k1 : ∀ {y : Nat} {e : rm_E}, hc h y = some e → y ≠ 30 → y ≠ 31 → y ≠ b → hc h2 y = some e := fun e n0 n1 n2 => (st1_ne a3 n0).trans (k0 e n1 n2)
    have ia : ∀ (N : Nat) (g : Nat → Int32) (u : Nat × ((Nat → Int32) ⊕ (Nat → Int64) ⊕ (Nat → UInt32) ⊕ (Nat → UInt64) ⊕ (Nat → Option Nat))), iaA N g ≠ .inl (1, u) := fun N g u z => by cases z
    refine ⟨h2, rs_w (rs_wA s 111 n (Int32.ofNat d)) 111 (Int32.ofNat n + 1), b', m', hdc _ ?_, hdr _ ?_, ?_, ?_, ?_⟩
    · unfold b276_0
      refine bse (hc_gI h30 rfl (by decide)) (ifn fl (bse (hc_gR (p := some 31) h30 rfl (by decide)) (bse (a := (some 31, h1)) ?_ ?_)))
      · rw [hc_v hp (by decide), g1]
        rfl
      · show b276_19 L xs zf (dM L xs zf w (k + 6)) w (some 30) h1 = _
        unfold b276_19
        exact bse (hc_gI h30' rfl (by decide)) (bse a1 rfl)
    · unfold s410_0
      refine ifn (by rw [s111]; exact fl) ?_
      rw [s111]
      refine bse (sI_at (p := 111) (i := n) (n := 3000) (by decide) rfl (by omega) (by decide)) ?_
      unfold s410_20
      have e1 : (rs_wA s 111 n (Int32.ofNat d)).1 111 = Int32.ofNat n := s111
      rw [e1]
      exact bse rfl rfl
    · refine ⟨by rw [of_inc] at a2; exact a2, k1 h33 (by decide) (by decide) (nb h33 (ia _ _)), k1 h34 (by decide) (by decide) (nb h34 (ia _ _)), k1 h35 (by decide) (by decide) (nb h35 (ia _ _)), (show upd s.1 111 (Int32.ofNat n + 1) 111 = Int32.ofNat (n + 1) by rw [upd_eq', of_inc]), n + 1, ml, f', sB_fr a3.1 (by decide) g2, by omega, ?_, ?_, fun i hi => ?_⟩
      · show 0 ≤ ((upd s.1 111 (Int32.ofNat n + 1)) 111).toInt
        rw [upd_eq', of_inc, of_int (by omega)]
        omega
      · show ((n + 1 : Nat) : Int) = min ((upd s.1 111 (Int32.ofNat n + 1)) 111).toInt 3000
        rw [upd_eq', of_inc, of_int (by omega)]
        omega
      · show f' i &&& 255 = (if (111 : Nat) = 111 then upd (s.2.1 111) n (Int32.ofNat d) else s.2.1 111) i
        rw [if_pos rfl]
        by_cases e : i = n
        · rw [e, g4, upd_eq', bv_d d hd]
        · rw [upd_ne' e, g3 i (by omega), l3 i (by omega)]
    · have e1 := a3.2.1
      have e2 := a3.2.2
      refine ⟨fun y e he hy hb => k1 he (by omega) (by omega) hb, ?_, ?_, ?_, ?_, ?_⟩ <;> rcases g5 with ⟨x1, x2, x3, x4⟩ | ⟨x0, x1, x2, x3, x4⟩ <;> omega
    · refine ⟨fun p hp => upd_ne' hp, fun p hp => if_neg hp, rfl⟩
end KLT
