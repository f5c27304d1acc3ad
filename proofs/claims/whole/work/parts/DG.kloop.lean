/-! KINDS: the loop of them. -/
/-- what a step costs, and where it writes -/
def OPV (P : Nat → Prop) (cx : Nat → Nat) (c d : Nat) (h : rm_H) (g : Nat → Nat) (h' : rm_H) (g' : Nat → Nat) : Prop := fr (fun y => M4 cx (g 1) y ∨ P y) h h' ∧ (g' 1 = g 1 ∨ 21 + h.length ≤ g' 1) ∧ (g 0 ≤ g' 0 ∧ g 4 ≤ g' 4) ∧ h'.length + 10 * g 0 + g 6 ≤ h.length + 10 * g' 0 + g' 6 ∧ zh h' + 4 * g 2 + 80 * g 0 + 8 * g 6 + c ≤ zh h + 4 * g' 2 + 80 * g' 0 + 8 * g' 6 + d
/-- Kinds kl are read -/
def KJs (L : Nat) (xs : Nat → Int32) (cx : Nat → Nat) (F : Nat → Nat → Int32) (N : Nat → Int64) (q : List Value) (A : Nat) (h : rm_H) (s : rS) (g : Nat → Nat) (ts : List Nat) (kl ml : List Nat) : Prop :=
  ml.length ≤ 9 * kl.length ∧ s.1 42 = Int32.ofNat ml.length ∧ (kl.length ≠ 0 → SY cx F N q h s g ts ∧ s.2.1 64 kl.length = s.1 38 ∧ s.2.1 65 kl.length = s.1 42 ∧ s.2.1 64 0 = 0 ∧ s.2.1 65 0 = 0) ∧ ∃ f0 np, f0 ≤ 8 * kl.length ∧ s.1 38 = Int32.ofNat f0 ∧ np ≤ 6 * ml.length ∧ s.1 52 = Int32.ofNat np ∧ s.2.1 77 ml.length = Int32.ofNat np ∧ ∀ j K, kl[j]? = some K → KX L xs h s (g 4) A (21 + h.length) np f0 ml j K
/-- both have ended the kinds -/
def KRes (L : Nat) (xs : Nat → Int32) (zf : Value) (cx : Nat → Nat) (F : Nat → Nat → Int32) (N : Nat → Int64) (q : List Value) (A w k : Nat) (h0 : rm_H) (s0 : rS) (g0 : Nat → Nat) (a90 a100 c0 : Nat) (cl : Option dR) (rf : Option rA) : Prop :=
  ∃ h' s' g' ts', cl = b91_130 L xs zf (dM L xs zf w (201 + k)) w (some (cx 7)) h' ∧ rf = some (none, s') ∧ OPV (fun y => y = cx 9 ∨ (y = a90 ∧ 21 ≤ y) ∨ y = cx 10 ∨ (y = a100 ∧ 21 ≤ y)) cx c0 3000 h0 g0 h' g' ∧ g' 6 ≤ 1010 ∧ rKd s0 s' 0 0 0 0 ∧ ((∃ kl ml a9 c9 a10 c10, SY cx F N q h' s' g' ts' ∧ kl.length ≤ 8 ∧ kl.length ≠ 0 ∧ s'.1 32 = Int32.ofNat kl.length ∧ aL h' (cx 9) a9 c9 kl ∧ (∀ y ∈ kl, oK h' y) ∧ aL h' (cx 10) a10 c10 ml ∧ (∀ y ∈ ml, oK h' y) ∧ KJs L xs cx F N q A h' s' g' ts' kl ml) ∨ FLT cx F N q h' s' g' ts')
section KG
variable {L : Nat} {xs : Nat → Int32} {zf : Value} {w k k2 i : Nat} {cx : Nat → Nat} {F : Nat → Nat → Int32} {N : Nat → Int64} {q : List Value} {h0 h h' h1 h2 : rm_H} {s0 s s' s1 s2 : rS} {g0 g g' : Nat → Nat} {ts ts' : List Nat} {K a9 c9 a10 c10 A B a90 c90 a100 c100 : Nat} {v : Nat → Int32} {pt vr i1 : Int32} {kl ml : List Nat} {P : Nat → Prop}
theorem rKd_le {kk f m np : Nat} (a : rKd s s' kk f m np) : rKd s s' 0 0 0 0 := by
  obtain ⟨a1, a2, a3, a4, a5, a6, a7, a8, a9⟩ := a
  exact ⟨a1, a2, fun _ _ _ _ e => (by omega), fun _ e => (by omega), fun _ _ _ _ e => (by omega), a6, fun _ e => (by omega), fun _ e => (by omega), fun _ e => (by omega)⟩
theorem rKd_ty {kk f m np : Nat} (a : rTy s s') : rKd s s' kk f m np := by
  obtain ⟨a1, a2, a3⟩ := a
  exact ⟨fun j _ _ _ h4 _ _ _ _ h9 h10 h11 _ => a1 j h4 h9 h10 h11, fun p hp => a2 p (by omega), fun p i h1 h2 _ => (by rw [a2 p (by omega)]), fun i _ => ⟨by rw [a3 67 (by decide)], by rw [a2 68 (by omega)], by rw [a2 69 (by omega)]⟩, fun p i h1 h2 _ => (by rw [a2 p (by omega)]), fun p _ h2 _ _ _ _ => a3 p h2, fun i _ => (by rw [a3 62 (by decide)]), fun i _ => (by rw [a3 78 (by decide)]), fun i _ => ⟨by rw [a3 79 (by decide)], by rw [a2 80 (by omega)], by rw [a2 81 (by omega)]⟩⟩
theorem OPV_trans {Q : Nat → Prop} {c d c' d' : Nat} {g1 g2 : Nat → Nat} (a : OPV P cx c d h g h1 g1) (b : OPV Q cx c' d' h1 g1 h2 g2) (hQ : ∀ y, y < 21 + h.length → Q y → P y) : OPV P cx (c + c') (d + d') h g h2 g2 := by
  obtain ⟨a3, a4, a5, a6, a7⟩ := a
  obtain ⟨b3, b4, b5, b6, b7⟩ := b
  have hl := a3.1
  refine ⟨fr_trans a3 b3 (fun y hy u => ?_), ?_, by omega, by omega, by omega⟩
  · rcases u with u | u
    · left
      rcases u with u | u | u | u | u
      · exact Or.inl u
      · exact Or.inr (Or.inl u)
      · exact Or.inr (Or.inr (Or.inl u))
      · exact Or.inr (Or.inr (Or.inr (Or.inl u)))
      · rcases a4 with e | e
        · exact Or.inr (Or.inr (Or.inr (Or.inr (u.trans e))))
        · omega
    · exact Or.inr (hQ y hy u)
  · omega
theorem OPV_le {c d c' d' : Nat} (a : OPV P cx c d h g h' g') (l : c' + d ≤ c + d') : OPV P cx c' d' h g h' g' := by
  obtain ⟨a3, a4, a5, a6, a7⟩ := a
  exact ⟨a3, a4, a5, a6, by omega⟩
theorem OPV_W {c2 d2 : Nat} (a : OPW P cx F N q 0 c2 d2 h s g ts h' s' g' ts') : OPV P cx c2 d2 h g h' g' := by
  obtain ⟨a1, a2, a3, a4, a5, a6, a7⟩ := a
  exact ⟨a3, a4, a5, by omega, a7⟩
theorem OPV_st (wr : st1 (cx 0) h h') : OPV P cx 0 0 h g h' g := by
  have l := wr.2.1
  have y := wr.2.2
  exact ⟨fr_mono wr.1 (fun _ _ u => Or.inl (Or.inl u)), Or.inl rfl, ⟨Nat.le_refl _, Nat.le_refl _⟩, by omega, by omega⟩
theorem SZ_st (hT : TF cx F N) (z : SZ cx F N q h s g ts) (hP : pC h' cx F v) (hr : rfd v (cpl cx F (g 0))) (wr : st1 (cx 0) h h') : FLT cx F N q h' (stS s (g 0)) g ts := by
  obtain ⟨⟨p, ⟨a1, a2, a3, a4⟩, rt, ch, ⟨c1, c2, c3, c4⟩, b1, b2, b3, b4⟩, g6⟩ := z
  obtain ⟨⟨f5, _, tr⟩, _⟩ := hT.2.2 (g 0) b1
  refine ⟨⟨v, hP, ?_⟩, rfl, rKh_rT (kk := 0) (rKh_ty rTy_st rfl) rt, ⟨_, _, CH_r p wr ch⟩, ⟨c1, c2, c3, c4⟩, by omega⟩
  show rfd v (s.2.1 41 (g 0))
  rw [rt.2.1, f5]
  exact hr
/-- behind a fault both end -/
theorem k_flt (hT : TF cx F N) (z : FLT cx F N q h s g ts) (hk : kl.length ≠ 0) (hk8 : kl.length ≤ 8) (M1 M2 : Nat) : ∃ h', b91_9 L xs zf (dM L xs zf w (201 + k)) w (M1 + 1) (some (cx 7)) (Int32.ofNat kl.length) h = b91_130 L xs zf (dM L xs zf w (201 + k)) w (some (cx 7)) h' ∧ s302_0 (rM w (101 + k2)) w (M2 + 1) s = some (none, s) ∧ FLT cx F N q h' s g ts ∧ st1 (cx 0) h h' := by
  obtain ⟨⟨v, p, r⟩, h57, rt, ⟨pt, vr, ch⟩, cs, b⟩ := id z
  have tok := r.2.1
  obtain ⟨h2, d1, d2, d3⟩ := z_ref (L := L) (xs := xs) (zf := zf) (w := w) (k := 200 + k) r p
  rw [show 200 + k + 1 = 201 + k from by omega] at d1
  have i0 : ¬ mx_f1 .eq (Int32.ofNat kl.length) = true := by
    rw [f1_eqd]
    simp only [decide_eq_true_eq]
    intro u
    have u2 := congrArg Int32.toInt u
    rw [of_int (by omega), show (0 : Int32).toInt = 0 from by decide] at u2
    omega
  have b109 : b91_109 L xs zf (dM L xs zf w (201 + k)) w (some (cx 7)) (Int32.ofNat kl.length) h = b91_130 L xs zf (dM L xs zf w (201 + k)) w (some (cx 7)) h2 := by
    unfold b91_109
    rw [if_neg i0, c_in p, Option.bind_some, c_I p 6 (by omega), Option.bind_some, tok, if_neg (by decide)]
    unfold b91_123
    rw [c_in p, Option.bind_some, show (dcV L xs (dM L xs zf w (201 + k)) 95 [6] (some (cx 0)) [] h).bind dxV = some h2 from by rw [c_rv p, d1]; rfl, Option.bind_some]
  refine ⟨h2, ?_, ?_, FL_r d3 p d2 r h57 rt ch cs b, d3⟩
  · rw [b91_9]
    split
    · exact b109
    · rw [c_in p, Option.bind_some, c_I p 6 (by omega), Option.bind_some, tok, if_neg (by decide), Option.bind_some, c_I p 6 (by omega), Option.bind_some, tok, if_pos (by decide)]
      exact b109
  · have z3 : ∀ c, (rM w (101 + k2) 303 [.ref 36, .int c] s).bind rxI = some (0, s) := fun c => by
      rw [show 101 + k2 = 100 + k2 + 1 from by omega, z303 (k := 100 + k2) c h57]; rfl
    rw [s302_0, z3, Option.bind_some, if_neg (show ¬ mx_f1 .ne (0 : Int32) = true by decide), z3, Option.bind_some, if_pos (show mx_f1 .eq (0 : Int32) = true by decide), if_pos (by rw [h57]; decide)]
    rfl
end KG
