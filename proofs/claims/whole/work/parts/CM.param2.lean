/-! PARAMETERS: one of them by the class, and by both. -/
/-- a step of both where declarations are read: also the places of P may change -/
def OPX (P : Nat → Prop) (cx : Nat → Nat) (F : Nat → Nat → Int32) (N : Nat → Int64) (q : List Value) (c1 c2 : Nat) (h : rm_H) (s : rS) (g : Nat → Nat) (ts : List Nat) (h' : rm_H) (s' : rS) (g' : Nat → Nat) (ts' : List Nat) : Prop :=
  (SY cx F N q h' s' g' ts' ∨ FLT cx F N q h' s' g' ts') ∧ (SY cx F N q h' s' g' ts' → SY cx F N q h s g ts ∧ sX s s' (g 4) ∧ yA s s')
  ∧ fr (fun y => M4 cx (g 1) y ∨ P y) h h' ∧ (g' 1 = g 1 ∨ 21 + h.length ≤ g' 1) ∧ (g 0 ≤ g' 0 ∧ g 4 ≤ g' 4)
  ∧ h'.length + 10 * g 0 + g 6 + c1 ≤ h.length + 10 * g' 0 + g' 6
  ∧ zh h' + 4 * g 2 + 80 * g 0 + 8 * g 6 + c2 ≤ zh h + 4 * g' 2 + 80 * g' 0 + 8 * g' 6
  ∧ g' 4 + g 0 + g 6 ≤ g 4 + g' 0 + g' 6
section PA2
variable {L : Nat} {xs : Nat → Int32} {zf : Value} {w k k2 i n y np : Nat} {cx : Nat → Nat} {F : Nat → Nat → Int32} {N : Nat → Int64} {q qm : List Value} {h h' h1 h2 h5 : rm_H} {s s' s1 s2 : rS} {g g' g1 g2 : Nat → Nat} {ts ts' ts1 ts2 : List Nat} {v v0 : Nat → Int32} {pt vr i3 : Int32} {P : Nat → Prop} {l ar cap M d : Nat} {es : List Nat} {c1 c2 : Nat}
theorem OPX_of (b : OPR cx F N q h s g ts h1 s1 g1 ts1) : OPX P cx F N q 0 0 h s g ts h1 s1 g1 ts1 := ⟨b.1, b.2.1, fr_mono b.2.2.1 (fun _ _ u => Or.inl u), b.2.2.2.1, b.2.2.2.2.2.1, b.2.2.2.2.2.2.1, b.2.2.2.2.2.2.2.1, b.2.2.2.2.2.2.2.2⟩
theorem OPX_refl (z : SY cx F N q h s g ts ∨ FLT cx F N q h s g ts) : OPX P cx F N q 0 0 h s g ts h s g ts := OPX_of (OPR_refl z)
theorem OPX_le {e1 e2 : Nat} (a : OPX P cx F N q c1 c2 h s g ts h1 s1 g1 ts1) (l1 : e1 ≤ c1) (l2 : e2 ≤ c2) : OPX P cx F N q e1 e2 h s g ts h1 s1 g1 ts1 := by
  obtain ⟨a1, a2, a3, a4, a5, a6, a7, a8⟩ := a
  exact ⟨a1, a2, a3, a4, a5, by omega, by omega, a8⟩
theorem OPX_trans {Q : Nat → Prop} {e1 e2 : Nat} (a : OPX P cx F N q c1 c2 h s g ts h1 s1 g1 ts1) (b : OPX Q cx F N q e1 e2 h1 s1 g1 ts1 h2 s2 g2 ts2) (hQ : ∀ y, y < 21 + h.length → Q y → P y) : OPX P cx F N q (c1 + e1) (c2 + e2) h s g ts h2 s2 g2 ts2 := by
  obtain ⟨a1, a2, a3, a4, a5, a6, a7, a8⟩ := a
  obtain ⟨b1, b2, b3, b4, b5, b6, b7, b8⟩ := b
  refine ⟨b1, fun z => ?_, fr_trans a3 b3 (fun y hy u => ?_), ?_, by omega, by omega, by omega, by omega⟩
  · obtain ⟨y1, y2, y3⟩ := b2 z
    obtain ⟨x1, x2, x3⟩ := a2 y1
    exact ⟨x1, sX_trans x2 y2 a5.2, yA_trans x3 y3⟩
  · rcases u with u | u
    · left
      rcases u with u | u | u | u | u
      · exact Or.inl u
      · exact Or.inr (Or.inl u)
      · exact Or.inr (Or.inr (Or.inl u))
      · exact Or.inr (Or.inr (Or.inr (Or.inl u)))
      · rcases a4 with e | e
        · exact Or.inr (Or.inr (Or.inr (Or.inr (u.trans e))))
        · omega
    · exact Or.inr (hQ y hy u)
  · have := a3.1
    omega
theorem OPX_op (a : OPX P cx F N q c1 c2 h s g ts h1 s1 g1 ts1) (b : OPR cx F N q h1 s1 g1 ts1 h2 s2 g2 ts2) : OPX P cx F N q c1 c2 h s g ts h2 s2 g2 ts2 := OPX_le (OPX_trans a (OPX_of (P := P) b) (fun _ _ u => u)) (by omega) (by omega)
/-- without a method that is read: any object but the parser's own may be written -/
theorem CH_w0 {a ci : Nat} {fs : List Value} (h14 : cx 14 = 0) (e : hc h a = some (.inr (ci, fs))) (hci : ci ≠ 4 ∧ ci ≠ 5) (w : st1 a h h1) (c : CH cx q h g ts pt vr) : CH cx q h1 g ts pt vr := by
  obtain ⟨c1, c2, c3, c4, c5⟩ := c
  have n1 : cx 8 ≠ a := fun z => by rw [z, e] at c1; cases c1; exact absurd rfl hci.1
  refine ⟨st1_old w c1 n1, aL_fr w.1 ?_ ?_ c2, fun x hx => oK_fr w.1 (c3 x hx), uA_st e hci.2 w c4, Or.inl h14⟩
  · obtain ⟨mc, e1, _⟩ := c2
    exact fun z => by rw [z, e] at e1; cases e1; exact absurd rfl hci.2
  · intro h5 y
    obtain ⟨mc, e1, _, _, e3⟩ := c2
    rcases e3 with ⟨z, _⟩ | ⟨f, z, _⟩
    · exact h5 z
    · rw [y, e] at z; cases z
theorem ob_keep {ci : Nat} {fs : List Value} (h14 : cx 14 = 0) (p1 : pC h cx F v) (ch : CH cx q h g ts pt vr) (f : fr (M4 cx (g 1)) h h') (hd : hc h d = some (.inr (ci, fs))) (hci : ci ≠ 4 ∧ ci ≠ 5 ∧ ci ≠ 6) : hc h' d = some (.inr (ci, fs)) := by
  refine fr_old f hd (fun u => ?_)
  rcases u with u | u | u | u | u
  · rw [u, pC_r p1] at hd; cases hd; exact hci.2.2 rfl
  · rw [u, ch.1] at hd; cases hd; exact hci.1 rfl
  · obtain ⟨mc, e, _⟩ := ch.2.1
    rw [u, e] at hd; cases hd; exact hci.2.1 rfl
  · have := hc_ge hd
    omega
  · obtain ⟨mc, _, _, _, e3⟩ := ch.2.1
    rcases e3 with ⟨e3, _⟩ | ⟨f0, e3, _⟩
    · have := hc_ge hd
      omega
    · rw [u, e3] at hd; cases hd
theorem sy_pc (z : SY cx F N q h s g ts ∨ FLT cx F N q h s g ts) : ∃ v pt vr, pC h cx F v ∧ CH cx q h g ts pt vr := by
  rcases z with z | z
  · exact ⟨_, _, _, z.1.1, z.1.2.2.2.1⟩
  · obtain ⟨⟨v, p1, _⟩, _, _, ⟨pt, vr, ch⟩, _⟩ := z
    exact ⟨v, pt, vr, p1, ch⟩
/-- another list stays -/
theorem aL_oth {l2 ar2 cap2 : Nat} {es2 : List Nat} (u : uA h) (e : aL h l ar cap es) (f : fr (fun y => y = l ∨ y = ar) h h') (ne : l2 ≠ l) (e2 : aL h l2 ar2 cap2 es2) : aL h' l2 ar2 cap2 es2 := by
  obtain ⟨mc, r1, _, _, r3⟩ := id e
  obtain ⟨mc2, k1, _, _, k3⟩ := id e2
  refine aL_fr f (fun u => ?_) (fun h5 w => ?_) e2
  · rcases u with u | u
    · exact ne u
    · rcases r3 with ⟨r3, _⟩ | ⟨f0, r3, _⟩
      · have := hc_ge k1
        omega
      · rw [← u, k1] at r3; cases r3
  · rcases k3 with ⟨k3, _⟩ | ⟨f0, k3, _⟩
    · exact h5 k3
    · rcases w with w | w
      · rw [w, r1] at k3; cases k3
      · rw [w] at k1
        rcases u.2 _ _ _ _ _ k1 r1 with z | z
        · exact h5 (w.trans z)
        · exact ne z
theorem aL_st {a ci : Nat} {fs : List Value} (e0 : hc h a = some (.inr (ci, fs))) (hci : ci ≠ 5) (w : st1 a h h1) (e : aL h l ar cap es) : aL h1 l ar cap es := by
  obtain ⟨mc, r1, _, _, r3⟩ := id e
  refine aL_fr w.1 (fun u => ?_) (fun h5 u => ?_) e
  · rw [u, e0] at r1; cases r1; exact hci rfl
  · rcases r3 with ⟨r3, _⟩ | ⟨f0, r3, _⟩
    · exact h5 r3
    · rw [u, e0] at r3; cases r3
/-- the class behind a parameter's declaration -/
theorem c_49 {fsd : List Value} {u8 : Value} (p0 : pC h cx F v0) (e111 : dM L xs zf w (k + 6) 111 [.ref (cx 7)] h = some (some (.ref d), h5)) (p : pC h5 cx F v) (c : CH cx q h5 g ts pt vr) (hd : hc h5 d = some (.inr (10, fsd))) (h8 : fsd[8]? = some u8) (hM : hc h5 M = some (.inr (11, qm))) (h5m : qm[5]? = some (.ref l)) (e : aL h5 l ar cap es) (ho : ∀ y ∈ es, oK h5 y) (hn : es.length ≤ 99000) (hl : l ≠ cx 11) : ∃ h7 ar' cap', (∀ K, b117_49 L xs zf (dM L xs zf w (k + 6)) w K (some (cx 7)) (some M) i3 h = (((dcV L xs (dM L xs zf w (k + 6)) 118 [8] (some (cx 7)) [.int 10] h7).bind dxI).bind fun x17 => K (some (cx 7)) (some M) x17.1 (i3 + 1) x17.2)) ∧ pC h7 cx F v ∧ CH cx q h7 g ts pt vr ∧ aL h7 l ar' cap' (es ++ [d]) ∧ (∀ y ∈ es ++ [d], oK h7 y) ∧ hc h7 d = some (.inr (10, fsd.set 8 (.int i3))) ∧ hc h7 M = some (.inr (11, qm)) ∧ fr (fun y => y = d ∨ y = l ∨ y = ar) h5 h7 ∧ (h7.length ≤ h5.length + 1 ∧ nD h5 h7) ∧ zh h7 + 4 * cap ≤ zh h5 + 4 * cap' ∧ (ar' = ar ∨ ar' = 21 + h5.length) ∧ (∀ l2 ar2 cap2 es2, l2 ≠ l → aL h5 l2 ar2 cap2 es2 → aL h7 l2 ar2 cap2 es2) := by
  have dM' : d ≠ M := fun z => by rw [z, hM] at hd; cases hd
  obtain ⟨h6, b1, b2, b3⟩ := pF_ex (j := 8) (cis := [10]) (v := .int i3) hd h8 (by decide) rfl (by decide)
  have p6 := pC_w hd (by decide) b3 p
  have c6 := CH_w hd (by decide) b3 c
  have e6 := aL_st hd (by decide) b3 e
  have hM6 := st1_old b3 hM dM'.symm
  have od : oK h6 d := ⟨10, _, b2, Or.inr (Or.inl rfl)⟩
  obtain ⟨h7, ar', cap', a1, a2, a3, a4, a5⟩ := al_add (L := L) (xs := xs) (zf := zf) (w := w) (k := k) e6 (fun y hy => oK_fr b3.1 (ho y hy)) od hn
  obtain ⟨c1, c2⟩ := CH_l p6 c6 e6 hl a2 a4 a3
  have nol : ∀ y ci fs, ci ≠ 5 → hc h6 y = some (.inr (ci, fs)) → ¬ (y = l ∨ y = ar) := by
    intro y ci fs hci ey u
    obtain ⟨mc, r1, _, _, r3⟩ := id e6
    rcases u with u | u
    · rw [u, r1] at ey; cases ey; exact hci rfl
    · rcases r3 with ⟨r3, _⟩ | ⟨f0, r3, _⟩
      · have := hc_ge ey
        omega
      · rw [u, r3] at ey; cases ey
  have l6 := b3.2.1
  have y6 := b3.2.2
  refine ⟨h7, ar', cap', fun K => ?_, c1, c2, a2, fun y hy => ?_, fr_old a4 b2 (nol _ _ _ (by decide) b2), fr_old a4 hM6 (nol _ _ _ (by decide) hM6), fr_trans (fr_mono b3.1 (fun _ _ u => Or.inl u)) a4 (fun _ _ u => Or.inr u), ⟨by omega, nD_trans (nD_0 b3.2.1) a4 (nD_add a2 a3)⟩, by omega, by omega, fun l2 ar2 cap2 es2 ne e2 => aL_oth c6.2.2.2.1 e6 a4 ne (aL_st hd (by decide) b3 e2)⟩
  · unfold b117_49
    rw [c_pv p0, e111]
    show (dpF h5 8 [10] (some d) (.int i3)).bind _ = _
    rw [b1]
    show (dgR L xs h6 5 [11] (some M)).bind _ = _
    rw [hc_gR (p := some l) hM6 h5m (by decide)]
    show ((dcV L xs (dM L xs zf w (k + 6)) 103 [5] (some l) [.ref d] h6).bind dxI).bind _ = _
    rw [al_v e6, a1]
    rfl
  · rcases List.mem_append.mp hy with u | u
    · exact oK_fr a4 (oK_fr b3.1 (ho y u))
    · rw [List.mem_singleton.mp u]; exact oK_fr a4 od
end PA2
