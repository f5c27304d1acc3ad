/-! A PROGRAM IS MADE by the class. -/
section PA
variable {L : Nat} {xs : Nat → Int32} {zf : Value} {w k : Nat} {h h' h1 h2 : rm_H} {pg : Nat} {x : Int32}
/-- new ints -/
abbrev iN0 (n : Nat) : rm_E := .inl (0, n, .inl (fun _ => 0))
theorem nI_64 : dnI 0 64 h = some (h ++ [iN0 64]) := rfl
theorem c_44 (hP : hc h pg = some (.inr (4, ah_DV 4))) : ∃ h', dM L xs zf w (k + 4) 44 [.ref pg, .int x] h = some (none, h') ∧ hc h' pg = some (.inr (4, [.int x, .ref (21 + h.length), .ref (22 + h.length), .ref (23 + h.length), .int 0, .int 0, .null, .int 0, .int (-1), .ref (24 + h.length), .ref (25 + h.length), .int 0])) ∧ aL h' (21 + h.length) 5 0 [] ∧ aL h' (22 + h.length) 5 0 [] ∧ aL h' (23 + h.length) 5 0 [] ∧ hc h' (24 + h.length) = some (iN0 64) ∧ hc h' (25 + h.length) = some (iN0 64) ∧ fr (fun y => y = pg) h h' ∧ h'.length = h.length + 5 ∧ zh h' = zh h + 9 + 2 * zs (iN0 64) ∧ (uA h → uA h') := by
  have hl := hc_lt hP
  obtain ⟨a0, b0, c0, d0⟩ := pF_ex (j := 0) (cis := [4]) (v := .int x) (u := .int 0) hP rfl (by decide) rfl (by decide)
  have l0 := d0.2.1
  have y0 := d0.2.2
  have e1 := hc_up (c2 := .inr (5, [.ref 5, .int 0, .int 0])) c0
  obtain ⟨a1, b1, c1, d1⟩ := pF_ex (j := 1) (cis := [4]) (v := .ref (21 + h.length)) (u := .null) e1 rfl (by decide) rfl (by decide)
  have l1 : a1.length = h.length + 1 := by rw [d1.2.1, List.length_append, l0]; rfl
  have y1 : zh a1 = zh h + 3 := by rw [d1.2.2, zh_app, y0]; rfl
  have e2 := hc_up (c2 := .inr (5, [.ref 5, .int 0, .int 0])) c1
  obtain ⟨a2, b2, c2, d2⟩ := pF_ex (j := 2) (cis := [4]) (v := .ref (22 + h.length)) (u := .null) e2 rfl (by decide) rfl (by decide)
  have l2 : a2.length = h.length + 2 := by rw [d2.2.1, List.length_append, l1]; rfl
  have y2 : zh a2 = zh h + 6 := by rw [d2.2.2, zh_app, y1]; rfl
  have e3 := hc_up (c2 := .inr (5, [.ref 5, .int 0, .int 0])) c2
  obtain ⟨a3, b3, c3, d3⟩ := pF_ex (j := 3) (cis := [4]) (v := .ref (23 + h.length)) (u := .null) e3 rfl (by decide) rfl (by decide)
  obtain ⟨a4, b4, c4, d4⟩ := pF_ex (j := 4) (cis := [4]) (v := .int 0) (u := .int 0) c3 rfl (by decide) rfl (by decide)
  obtain ⟨a5, b5, c5, d5⟩ := pF_ex (j := 5) (cis := [4]) (v := .int 0) (u := .int 0) c4 rfl (by decide) rfl (by decide)
  obtain ⟨a6, b6, c6, d6⟩ := pF_ex (j := 6) (cis := [4]) (v := .null) (u := .null) c5 rfl (by decide) rfl (by decide)
  obtain ⟨a7, b7, c7, d7⟩ := pF_ex (j := 7) (cis := [4]) (v := .int 0) (u := .int 0) c6 rfl (by decide) rfl (by decide)
  obtain ⟨a8, b8, c8, d8⟩ := pF_ex (j := 8) (cis := [4]) (v := .int (-1)) (u := .int 0) c7 rfl (by decide) rfl (by decide)
  have s8 := st1_trans (st1_trans (st1_trans (st1_trans (st1_trans d3 d4) d5) d6) d7) d8
  have l8 : a8.length = h.length + 3 := by rw [s8.2.1, List.length_append, l2]; rfl
  have y8 : zh a8 = zh h + 9 := by rw [s8.2.2, zh_app, y2]; rfl
  have e9 := hc_up (c2 := iN0 64) c8
  obtain ⟨a9, b9, c9, d9⟩ := pF_ex (j := 9) (cis := [4]) (v := .ref (24 + h.length)) (u := .null) e9 rfl (by decide) rfl (by decide)
  have l9 : a9.length = h.length + 4 := by rw [d9.2.1, List.length_append, l8]; rfl
  have y9 : zh a9 = zh h + 9 + zs (iN0 64) := by rw [d9.2.2, zh_app, y8]
  have e10 := hc_up (c2 := iN0 64) c9
  obtain ⟨a10, b10, c10, d10⟩ := pF_ex (j := 10) (cis := [4]) (v := .ref (25 + h.length)) (u := .null) e10 rfl (by decide) rfl (by decide)
  obtain ⟨a11, b11, c11, d11⟩ := pF_ex (j := 11) (cis := [4]) (v := .int 0) (u := .int 0) c10 rfl (by decide) rfl (by decide)
  have s11 := st1_trans d10 d11
  have k0 : 21 + a0.length = 21 + h.length := by omega
  have k1 : 21 + a1.length = 22 + h.length := by omega
  have k2 : 21 + a2.length = 23 + h.length := by omega
  have k8 : 21 + a8.length = 24 + h.length := by omega
  have k9 : 21 + a9.length = 25 + h.length := by omega
  have n1 : hc (a0 ++ [.inr (5, [.ref 5, .int 0, .int 0])]) (21 + h.length) = some (.inr (5, [.ref 5, .int 0, .int 0])) := by rw [← k0]; exact hc_new _
  have n2 : hc (a1 ++ [.inr (5, [.ref 5, .int 0, .int 0])]) (22 + h.length) = some (.inr (5, [.ref 5, .int 0, .int 0])) := by rw [← k1]; exact hc_new _
  have n3 : hc (a2 ++ [.inr (5, [.ref 5, .int 0, .int 0])]) (23 + h.length) = some (.inr (5, [.ref 5, .int 0, .int 0])) := by rw [← k2]; exact hc_new _
  have n9 : hc (a8 ++ [iN0 64]) (24 + h.length) = some (iN0 64) := by rw [← k8]; exact hc_new _
  have n10 : hc (a9 ++ [iN0 64]) (25 + h.length) = some (iN0 64) := by rw [← k9]; exact hc_new _
  have up8 : ∀ p c, p ≠ pg → hc a8 p = some c → hc a11 p = some c := fun p c hp e => st1_old s11 (hc_up (st1_old d9 (hc_up e) hp)) hp
  have up2 : ∀ p c, p ≠ pg → hc (a2 ++ [.inr (5, [.ref 5, .int 0, .int 0])]) p = some c → hc a11 p = some c := fun p c hp e => up8 p c hp (st1_old s8 e hp)
  refine ⟨a11, ?_, c11, aL_nil (up2 _ _ (by omega) (hc_up (st1_old d2 (hc_up (st1_old d1 n1 (by omega))) (by omega)))), aL_nil (up2 _ _ (by omega) (hc_up (st1_old d2 n2 (by omega)))), aL_nil (up2 _ _ (by omega) n3), st1_old s11 (hc_up (st1_old d9 n9 (by omega))) (by omega), st1_old s11 n10 (by omega), ?_, ?_, ?_, fun u => ?_⟩
  · have new : ∀ aa : rm_H, ((dcN (dM L xs zf w (k + 3)) 45 (some (21 + aa.length)) [] (aa ++ [.inr (5, ah_DV 5)])).bind dxV) = some (aa ++ [.inr (5, [.ref 5, .int 0, .int 0])]) := by
      intro aa
      show (dM L xs zf w (k + 3) 45 [.ref (21 + aa.length)] (aa ++ [.inr (5, ah_DV 5)])).bind dxV = _
      rw [al_new (k := k)]
      rfl
    rw [e44]
    show b44_0 L xs zf (dM L xs zf w (k + 3)) w (some pg) x h = _
    unfold b44_0
    rw [if_neg (dnl_s _), b0, Option.bind_some, Option.bind_some, new, Option.bind_some, k0, va_s, b1, Option.bind_some, Option.bind_some, new, Option.bind_some, k1, va_s, b2, Option.bind_some, Option.bind_some, new, Option.bind_some, k2, va_s, b3, Option.bind_some, b4, Option.bind_some, b5, Option.bind_some, show va_rf none = .null from rfl, b6, Option.bind_some, b7, Option.bind_some, b8, Option.bind_some, nI_64, Option.bind_some, k8, va_s, b9, Option.bind_some, nI_64, Option.bind_some, k9, va_s, b10, Option.bind_some, b11, Option.bind_some]
  · exact fr_trans (fr_trans (fr_trans (fr_trans (fr_trans (fr_trans (fr_trans (fr_trans (fr_trans (fr_trans d0.1 (fr_app (fun _ => False) _) (fun _ _ u => u.elim)) d1.1 (fun _ _ u => u)) (fr_app (fun _ => False) _) (fun _ _ u => u.elim)) d2.1 (fun _ _ u => u)) (fr_app (fun _ => False) _) (fun _ _ u => u.elim)) s8.1 (fun _ _ u => u)) (fr_app (fun _ => False) _) (fun _ _ u => u.elim)) d9.1 (fun _ _ u => u)) (fr_app (fun _ => False) _) (fun _ _ u => u.elim)) s11.1 (fun _ _ u => u)
  · rw [s11.2.1, List.length_append, l9]; rfl
  · rw [s11.2.2, zh_app, y9]; omega
  · exact uA_st e10 (by decide) s11 (uA_ap (Or.inl (fun _ z => by cases z)) (uA_st e9 (by decide) d9 (uA_ap (Or.inl (fun _ z => by cases z)) (uA_st e3 (by decide) s8 (uA_ap (Or.inr rfl) (uA_st e2 (by decide) d2 (uA_ap (Or.inr rfl) (uA_st e1 (by decide) d1 (uA_ap (Or.inr rfl) (uA_st hP (by decide) d0 u))))))))))
end PA
