/-! BUILD by both. -/
/-- cells that are none of the house's own -/
def ns4 (c : rm_E) : Prop := ∀ ci fs, c = .inr (ci, fs) → 4 ≤ ci
/-- these stay -/
def kp4 (h h' : rm_H) : Prop := ∀ q c, hc h q = some c → ns4 c → hc h' q = some c
section BFN
variable {L : Nat} {xs : Nat → Int32} {zf : Value} {w j j2 p q n m bq : Nat} {h h' h1 : rm_H} {s s' : rS}
theorem kp_t (a : kp4 h h1) (b : kp4 h1 h') : kp4 h h' := fun q c e n => b q c (a q c e n) n
theorem kp_o {p : Nat} {ci : Nat} {fs : List Value} (e : hc h p = some (.inr (ci, fs))) (hci : ci < 4) (o : ∀ q, q ≠ p → hc h' q = hc h q) : kp4 h h' := by
  intro q c eq nq
  rw [o q (fun z => by
    rw [z, e] at eq
    have := nq ci fs (Option.some.inj eq).symm
    omega)]
  exact eq
theorem aL_kp {l ar cap : Nat} {es : List Nat} (k : kp4 h h') (e : aL h l ar cap es) : aL h' l ar cap es := by
  obtain ⟨mc, e1, e2, e3, e4⟩ := e
  refine ⟨mc, k _ _ e1 (fun ci fs z => by cases z; decide), e2, e3, ?_⟩
  rcases e4 with z | ⟨f, z1, z2⟩
  · exact Or.inl z
  · exact Or.inr ⟨f, k _ _ z1 (fun ci fs z => by cases z), z2⟩
/-- the class's end of build -/
theorem c_bend {P W T p2 b2 n2 m2 x9 ar cap : Nat} {a b ml0 ml2 x4 x5 y4 y5 : Int32} {f f2 : Nat → Int32} {v3 t1 t2 t3 t6 w0 w1 w2 w3 w4 w5 w6 w7 w8 w9 w10 w11 w12 w13 w14 w15 : Value} {vs : List Value} {kl : List Nat} (h21 : hc h 21 = some (.inr (0, [.ref p, .ref W, .ref T, v3, .int x4, .int x5]))) (hS : sB h p bq n m ml0 f) (hW : hc h W = some (.inr (2, [w0, w1, w2, w3, w4, w5, w6, w7, w8, w9, w10, w11, w12, w13, w14, w15]))) (hT : hc h T = some (.inr (3, [.ref p2, t1, t2, t3, .int y4, .int y5, t6]))) (hS2 : sB h p2 b2 n2 m2 ml2 f2) (hpp : p ≠ p2) (hP : hc h P = some (.inr (4, vs))) (v7 : vs[7]? = some (.int a)) (v8 : vs[8]? = some (.int b)) (hk : a = 0 → vs[1]? = some (.ref x9) ∧ aL h x9 ar cap kl) : ∃ h' ml' ml2', b43_81 L xs zf (dM L xs zf w (255 + j)) w (some 21) (some P) h = some (some (.int (if a = 0 then Int32.ofNat kl.length else -1)), h') ∧ hc h' 21 = some (.inr (0, [.ref p, .ref W, .ref T, if a = 0 then .ref P else .null, .int a, .int b])) ∧ sB h' p bq 0 m ml' f ∧ hc h' W = some (.inr (2, [w0, w1, w2, w3, w4, w5, w6, .null, .int 0, .int 0, .int 0, .int 0, .int 0, .int 0, .int 0, .int 0])) ∧ hc h' T = some (.inr (3, [.ref p2, t1, t2, t3, .int 0, .int (y5 + 1), t6])) ∧ sB h' p2 b2 0 m2 ml2' f2 ∧ kp4 h h' ∧ h'.length = h.length ∧ zh h' = zh h := by
  have p21 := hS.1
  have hp1 : hc h p = some (.inr (1, [.ref bq, .int 0, .int ml0, .int (Int32.ofNat n)])) := by
    unfold hc
    rw [if_pos p21]
    exact hS.2.2.2.2.2.2.1
  have p221 := hS2.1
  have hp2 : hc h p2 = some (.inr (1, [.ref b2, .int 0, .int ml2, .int (Int32.ofNat n2)])) := by
    unfold hc
    rw [if_pos p221]
    exact hS2.2.2.2.2.2.2.1
  obtain ⟨h3, ml', a1, a2, a3, a4, a5⟩ := sb_cut (L := L) (xs := xs) (zf := zf) (w := w) (k := 252 + j) hS 0 (by omega)
  rw [show 252 + j + 3 = 255 + j from by omega] at a1
  have o3 : ∀ q, q ≠ p → hc h3 q = hc h q := fun q hq => hc_ix p21 a5 hq
  have n21 : 21 ≠ p := fun z => by rw [← z, h21] at hp1; cases hp1
  have nW : W ≠ p := fun z => by rw [z, hp1] at hW; cases hW
  have nT : T ≠ p := fun z => by rw [z, hp1] at hT; cases hT
  have k3 : kp4 h h3 := kp_o hp1 (by decide) o3
  have e21 := (o3 21 n21).trans h21
  have eW := (o3 W nW).trans hW
  have eT := (o3 T nT).trans hT
  obtain ⟨h9, b1, b2', b3⟩ := c_216 (L := L) (xs := xs) (zf := zf) (w := w) (k := 254 + j) eW
  rw [show 254 + j + 1 = 255 + j from by omega] at b1
  have nW21 : 21 ≠ W := fun z => by rw [← z, e21] at eW; cases eW
  have nTW : T ≠ W := fun z => by rw [z, eW] at eT; cases eT
  have npW : p ≠ W := fun z => nW z.symm
  have np2W : p2 ≠ W := fun z => by rw [← z, hp2] at hW; cases hW
  have k9 : kp4 h3 h9 := kp_o eW (by decide) (fun q hq => st1_ne b3 hq)
  have g21 := st1_old b3 e21 nW21
  have gT := st1_old b3 eT nTW
  have sp9 : sB h9 p bq 0 m ml' f := sB_fr b3.1 npW a2
  have s23 : sB h3 p2 b2 n2 m2 ml2 f2 := by
    obtain ⟨z1, z2, z3, z4, z5, z6, z7, z8⟩ := hS2
    have nb : b2 - 21 ≠ p - 21 := fun z => by
      have : b2 = p := by omega
      rw [this, hS.2.2.2.2.2.2.1] at z8
      cases z8
    exact ⟨z1, z2, z3, z4, z5, z6, (a5 _ (by omega)).trans z7, (a5 _ nb).trans z8⟩
  have s29 : sB h9 p2 b2 n2 m2 ml2 f2 := sB_fr b3.1 np2W s23
  obtain ⟨h15, ml2', c1, c2, c3, c4, c5, c6⟩ := c_217 (L := L) (xs := xs) (zf := zf) (w := w) (k := 251 + j) gT s29
  rw [show 251 + j + 4 = 255 + j from by omega] at c1
  have n212 : 21 ≠ p2 := fun z => by rw [← z, h21] at hp2; cases hp2
  have n21T : 21 ≠ T := fun z => by rw [← z, h21] at hT; cases hT
  have i21 := (c6 21 n212 n21T).trans g21
  have k15 : kp4 h9 h15 := by
    intro q c eq nq
    have hp29 : hc h9 p2 = some (.inr (1, [.ref b2, .int 0, .int ml2, .int (Int32.ofNat n2)])) := by
      unfold hc
      rw [if_pos p221]
      exact s29.2.2.2.2.2.2.1
    rw [c6 q (fun z => by
      rw [z, hp29] at eq
      have := nq 1 _ (Option.some.inj eq).symm
      omega) (fun z => by
      rw [z, gT] at eq
      have := nq 3 _ (Option.some.inj eq).symm
      omega)]
    exact eq
  obtain ⟨h21', d1, d2, d3⟩ := pF_ex (v := .int a) (j := 4) (cis := [0]) i21 rfl (by decide) rfl (by decide)
  obtain ⟨h25, f1, f2', f3⟩ := pF_ex (v := .int b) (j := 5) (cis := [0]) d2 rfl (by decide) rfl (by decide)
  obtain ⟨h27, g1, g2, g3⟩ := pF_ex (v := if a = 0 then .ref P else .null) (j := 3) (cis := [0]) f2' rfl (by decide) (by by_cases z : a = 0 <;> simp [z] <;> rfl) (by decide)
  have st := st1_trans (st1_trans d3 f3) g3
  have kAll : kp4 h h27 := kp_t (kp_t (kp_t k3 k9) k15) (kp_o i21 (by decide) (fun q hq => st1_ne st hq))
  have kA : kp4 h h15 := kp_t (kp_t k3 k9) k15
  have P4 : ns4 (.inr (4, vs)) := fun ci fs z => by cases z; decide
  have P15 := kA _ _ hP P4
  have P21 : hc h21' P = some (.inr (4, vs)) := st1_old d3 P15 (fun z => by rw [z, i21] at P15; cases P15)
  have P27 := kAll _ _ hP P4
  have nT21 : T ≠ 21 := fun z => n21T z.symm
  have nW21' : W ≠ 21 := fun z => nW21 z.symm
  have np21 : p ≠ 21 := fun z => n21 z.symm
  have np221 : p2 ≠ 21 := fun z => n212 z.symm
  have npT : p ≠ T := fun z => nT z.symm
  refine ⟨h27, ml', ml2', ?_, g2, ?_, ?_, st1_old st c2 nT21, sB_fr st.1 np221 c3, kAll, st.2.1.trans (c4.trans (b3.2.1.trans a3)), st.2.2.trans (c5.trans (b3.2.2.trans a4))⟩
  · unfold b43_81
    refine bsq (hc_gR (p := some p) h21 rfl (by decide)) (bsq (a := h3) ?_ (bsq (hc_gR (p := some W) e21 rfl (by decide)) (bsq (a := h9) ?_ (bsq (hc_gR (p := some T) g21 rfl (by decide)) (bsq (a := h15) ?_ (bsq (hc_gI P15 v7 (by decide)) (bsq d1 (bsq (hc_gI P21 v8 (by decide)) (bsq f1 (bsq (hc_gI f2' rfl (by decide)) ?_))))))))))
    · rw [hc_v hp1 (by decide), show (0 : Int32) = Int32.ofNat 0 from rfl, a1]
      rfl
    · rw [hc_v eW (by decide), b1]
      rfl
    · rw [hc_v gT (by decide), c1]
      rfl
    · by_cases z : a = 0
      · subst z
        obtain ⟨v1, el⟩ := hk rfl
        have z2 := aL_kp kAll el
        refine inq (by decide) ?_
        unfold b43_132
        rw [if_pos rfl] at g1
        refine bsq (a := h27) g1 (bsq (hc_gI g2 rfl (by decide)) (inq (by decide) (bsq (hc_gR (p := some x9) P27 v1 (by decide)) (bsq (a := (Int32.ofNat kl.length, h27)) (by rw [show 255 + j = 254 + j + 1 from by omega, al_v z2, al_size z2]; rfl) rfl))))
      · refine itq (by rw [f1_ne]; exact decide_eq_true z) ?_
        rw [if_neg z] at g1
        unfold b43_132
        refine bsq (a := h27) g1 (bsq (hc_gI g2 rfl (by decide)) (itq (by rw [f1_ne]; exact decide_eq_true z) ?_))
        rw [if_neg z]
        rfl
  · refine sB_fr st.1 np21 ?_
    obtain ⟨z1, z2, z3, z4, z5, z6, z7, z8⟩ := sp9
    have e1 : hc h15 p = hc h9 p := c6 p hpp npT
    have e2 : hc h15 bq = hc h9 bq := by
      have hb9 : hc h9 bq = h9[bq - 21]? := by unfold hc; rw [if_pos z2]
      refine c6 bq (fun z => ?_) (fun z => ?_)
      · have q := s29.2.2.2.2.2.2.1
        rw [← z, z8] at q
        cases q
      · rw [z] at hb9
        rw [gT] at hb9
        rw [← z, z8] at hb9
        cases hb9
    unfold hc at e1 e2
    rw [if_pos z1, if_pos z1] at e1
    rw [if_pos z2, if_pos z2] at e2
    exact ⟨z1, z2, z3, z4, z5, z6, e1.trans z7, e2.trans z8⟩
  · exact st1_old st ((c6 W (fun z => np2W z.symm) (fun z => nTW z.symm)).trans b2') nW21'
end BFN
