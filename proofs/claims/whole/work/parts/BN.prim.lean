/-! PRIMARIES: by their first token; leaves; what is none. -/
/-- what both have of an expression or a block -/
def EXR (cl : Nat) (L : Nat) (xs : Nat → Int32) (cx : Nat → Nat) (F : Nat → Nat → Int32) (N : Nat → Int64) (q : List Value) (A : Nat) (h : rm_H) (s : rS) (g : Nat → Nat) (ts : List Nat) (rc : Option dR) (rr : Option rA) : Prop := ∃ h' s' g' ts' x n, rc = some (some (.ref x), h') ∧ rr = some (some (.int (Int32.ofNat n)), s') ∧ OPR cx F N q h s g ts h' s' g' ts' ∧ (g' 6 ≤ A ∨ g' 6 ≤ g 6 + 2) ∧ nW h' x ∧ 21 + h.length ≤ x ∧ n < g' 4 ∧ (SY cx F N q h' s' g' ts' → g 0 < g' 0 ∧ s'.2.1 48 n = 0 ∧ NR L xs h' s' (cl, A / 20 + 1) (g' 4 - g 4) (g 4) (g' 4) (21 + h.length) (21 + h'.length) n x)
/-- the class's methods by the first token -/
def prM (cx : Nat → Nat) (i2 T : Int32) : Option (Nat × List Value) := if T = 2 then some (129, []) else if T = 4 then some (126, []) else if T = 22 then some (133, [.ref (cx 14), .int i2]) else if T = 32 then some (131, [.ref (cx 14), .int i2]) else if T = 33 then some (132, [.ref (cx 14), .int i2]) else if T = 34 then some (128, [.int 2]) else if T = 35 then some (128, [.int 3]) else if T = 36 then some (130, []) else if T = 37 then some (136, [.ref (cx 14), .int i2]) else none
section PM
variable {L : Nat} {xs : Nat → Int32} {zf : Value} {w k i : Nat} {cx : Nat → Nat} {F : Nat → Nat → Int32} {N : Nat → Int64} {q : List Value} {h h' h1 h2 : rm_H} {s s' s1 s2 : rS} {g g' g1 g2 : Nat → Nat} {ts ts' ts1 ts2 : List Nat} {v : Nat → Int32}
theorem rnS_yA {n : Nat} {kk : Int32} : yA s (rnS s n i kk) := by
  refine yA_of rfl (fun p h1 h2 => ?_) ?_
  · funext j
    show (rs_wA (rs_w (ndS s n kk (s.2.1 41 i)) 24 (s.1 24 + 1)) 54 n (s.2.1 42 i)).2.1 p j = _
    rw [wA_get, if_neg (by omega)]
    show (ndS s n kk (s.2.1 41 i)).2.1 p j = _
    rw [nd_get, if_neg (by omega)]
  · funext j
    show (rs_wB (rs_wA (rs_w (ndS s n kk (s.2.1 41 i)) 24 (s.1 24 + 1)) 54 n (s.2.1 42 i)) 56 n (s.2.2 43 i)).2.2 61 j = _
    rw [wB_get, if_neg (by omega)]
    show (ndS s n kk (s.2.1 41 i)).2.2 61 j = _
    rw [nd_getJ, if_neg (by omega)]
theorem rnS_rF {n : Nat} {kk : Int32} : rF s (rnS s n i kk) := rF_trans (rF_trans (rF_trans (rF_trans rF_nd (rF_w (by omega))) (rF_A (by omega))) (rF_B (by omega))) (rF_w (by omega))
theorem rnS_sX {n : Nat} {kk : Int32} : sX s (rnS s n i kk) n := sX_trans (sX_trans (sX_trans (sX_trans (sX_nd (Nat.le_refl _)) sX_w (Nat.le_refl _)) (sX_A (Nat.le_refl _)) (Nat.le_refl _)) (sX_B (Nat.le_refl _)) (Nat.le_refl _)) sX_w (Nat.le_refl _)
/-- both have made a node and passed its token -/
theorem SY_nd (z : SY cx F N q h s g ts) (hlt : g 0 < cx 16) (kk : Int32) (p1 : pC h1 cx F (vS cx F (g 0 + 1))) (ch : CH cx q h1 g ts (s.1 24 + 1) (s.1 25)) (f : fr (M4 cx (g 1)) h h1) (l : h1.length ≤ h.length + 10 ∧ nD h h1) (y : zh h1 ≤ zh h + 80) (hk : kk ≠ 8 ∧ kk ≠ 20) (hT : TF cx F N) : SY cx F N q h1 (rnS s (g 4) (g 0) kk) (gu (gu g 0 (g 0 + 1)) 4 (g 4 + 1)) ts ∧ OPR cx F N q h s g ts h1 (rnS s (g 4) (g 0) kk) (gu (gu g 0 (g 0 + 1)) 4 (g 4 + 1)) ts ∧ onR (rnS s (g 4) (g 0) kk) (g 4) (upd (fun r => ndV r kk (F 5 (g 0))) 54 (F 6 (g 0))) (N (g 0)) := by
  obtain ⟨⟨p, ⟨a1, a2, a3, a4⟩, rt, ch0, ⟨c1, c2, c3, c4⟩, b1, b2, b3, b4⟩, g6⟩ := id z
  have hg5 : g 5 ≤ 100000 := by have := hT.1; omega
  have on44 : (rnS s (g 4) (g 0) kk).2.1 44 (g 4) = kk := by
    show (rs_wA (rs_w (ndS s (g 4) kk (s.2.1 41 (g 0))) 24 (s.1 24 + 1)) 54 (g 4) (s.2.1 42 (g 0))).2.1 44 (g 4) = _
    rw [wA_get, if_neg (by omega)]
    show (ndS s (g 4) kk (s.2.1 41 (g 0))).2.1 44 (g 4) = _
    rw [nd_get, if_pos ⟨rfl, by omega, by omega⟩]
    rfl
  have sy : SY cx F N q h1 (rnS s (g 4) (g 0) kk) (gu (gu g 0 (g 0 + 1)) 4 (g 4 + 1)) ts := by
    refine ⟨⟨p1, ⟨a1, a2, a3, a4⟩, rT_F rnS_rF rt, CH_g (g := g) rfl rfl rfl ch, ⟨w_eq _ _ _, rfl, c3, ?_⟩, ?_⟩, g6.1, TSI_n g6.2 f (M4_10 p ch0) l.2 (tR_sX rnS_sX) (yA_n c3 hg5 rnS_yA) (Nat.le_refl _) (Nat.le_succ _) rfl (fun n n1 n2 => ?_)⟩
    rotate_left 2
    · have n3 : n < g 4 + 1 := n2
      have n4 : n = g 4 := by omega
      rw [n4, on44]
      exact hk
    · show 1 ≤ g 4 + 1
      omega
    · show g 0 + 1 ≤ _ ∧ _ ≤ g 0 + 1 ∧ g 4 + 1 ≤ (g 0 + 1) + 2 ∧ g 5 + 2 ≤ g 0 + 1
      omega
  refine ⟨sy, ⟨Or.inl sy, fun _ => ⟨z, rnS_sX, rnS_yA⟩, f, Or.inl rfl, rnS_rF, ?_⟩, fun r h1 h2 => ?_, ?_⟩
  · show (g 0 ≤ g 0 + 1 ∧ g 4 ≤ g 4 + 1) ∧ h1.length + 10 * g 0 + g 6 ≤ h.length + 10 * (g 0 + 1) + g 6 ∧ zh h1 + 4 * g 2 + 80 * g 0 + 8 * g 6 ≤ zh h + 4 * g 2 + 80 * (g 0 + 1) + 8 * g 6 ∧ g 4 + 1 + g 0 + g 6 ≤ g 4 + (g 0 + 1) + g 6
    omega
  · show (rs_wA (rs_w (ndS s (g 4) kk (s.2.1 41 (g 0))) 24 (s.1 24 + 1)) 54 (g 4) (s.2.1 42 (g 0))).2.1 r (g 4) = _
    rw [wA_get, rt.2.1, rt.2.2.1]
    by_cases hr : r = 54
    · rw [if_pos ⟨hr, rfl⟩, hr, upd_eq]
    · rw [if_neg (fun u => hr u.1), upd_ne _ _ hr]
      show (ndS s (g 4) kk (F 5 (g 0))).2.1 r (g 4) = _
      rw [nd_get, if_pos ⟨rfl, h1, h2⟩]
  · show (rs_wB (rs_wA (rs_w (ndS s (g 4) kk (s.2.1 41 (g 0))) 24 (s.1 24 + 1)) 54 (g 4) (s.2.1 42 (g 0))) 56 (g 4) (s.2.2 43 (g 0))).2.2 56 (g 4) = _
    rw [wB_get, if_pos ⟨rfl, rfl⟩, rt.2.2.2]
/-- a node without parts -/
theorem NR_0 {zz d lo hi pl ph n p W : Nat} (rg : 1 ≤ lo ∧ lo ≤ n ∧ n < hi ∧ pl ≤ p ∧ p < ph) (hW : 1 ≤ W ∧ W ≤ 5) (f0 : fd h 12 p 0 = some (.int (Int32.ofNat W))) (r44 : s.2.1 44 n = Int32.ofNat (wK W)) (f1 : fd h 12 p 1 = some (.int (s.2.1 50 n))) (f6 : fd h 12 p 6 = some .null) (nm : W = 4 ∨ W = 5 → (∃ q, fd h 12 p 2 = some (.ref q) ∧ nS L xs h q (s.2.2 56 n)) ∧ fd h 12 p 3 = some (.int (s.2.1 51 n))) (vl : W = 1 → fd h 12 p 4 = some (.int (s.2.1 54 n))) (e51 : W = 4 → s.2.1 51 n = s.2.1 50 n) (f12 : (fd h 12 p 12).isSome = true) (r45 : s.2.1 45 n = 0) : NR L xs h s (0, zz + 1) (d + 1) lo hi pl ph n p := by
  refine ⟨rg, W, ⟨hW.1, by omega, f0, r44, f1, Or.inl ⟨rfl, by omega⟩, fun _ => r45⟩, fun _ => f6, fun c hc => ?_, fun z => by omega, fun z => by omega, fun z => by omega, fun z => nm (by omega), vl, fun z => by omega, fun z => by omega, fun z => by omega, e51, fun z => by omega, fun z => by omega, f12⟩
  have : W = 1 ∨ W = 2 ∨ W = 3 ∨ W = 4 ∨ W = 5 := by omega
  rcases this with e | e | e | e | e <;> subst e <;> simp [kids] at hc
theorem nW_of {fs : List Value} {p : Nat} {x : Int32} {o : Option Nat} (e : hc h p = some (.inr (12, fs))) (h1 : fs.length = 13) (h2 : fs[1]? = some (.int x)) (h3 : fs[11]? = some (va_rf o)) : nW h p := ⟨fs, e, h1, ⟨x, h2⟩, o, h3⟩
/-- the class chooses by the token -/
theorem c_125 {mi x : Nat} {As : List Value} {i2 : Int32} (p : pC h cx F (vS cx F i)) (p1 : pC h1 cx F (vS cx F i)) {pt vr : Int32} (ch : CH cx q h g ts pt vr) (e1 : dpF h 4 [4] (some (cx 8)) (.int (pt + 1)) = some h1) (e : prM cx i2 (ctk cx F i) = some (mi, As)) (hd : dM L xs zf w k mi (.ref (cx 7) :: As) h1 = some (some (.ref x), h')) : dM L xs zf w (k + 1) 125 [.ref (cx 7), .ref (cx 14), .int i2] h = some (some (.ref x), h') := by
  rw [e125]
  show b125_0 L xs zf (dM L xs zf w k) w (some (cx 7)) (some (cx 14)) i2 h = _
  unfold b125_0
  refine bse (c_in p) (bse (c_I p 6 (by omega)) (ift ?_ ?_))
  · rw [vS_6, f2_ne]
    apply decide_eq_true
    intro z
    rw [z] at e
    cases e
  refine bse (c_out p) (bse (p_gp ch) (bse e1 (bse (c_in p1) (bse (c_I p1 6 (by omega)) ?_))))
  rw [vS_6]
  have fin : ∀ As2, As2 = As → (((dcV L xs (dM L xs zf w k) mi [8] (some (cx 7)) As2 h1).bind dxR).bind fun p17 => some (some (va_rf p17.1), p17.2)) = some (some (.ref x), h') := by
    intro As2 ha
    subst ha
    refine bse (a := (some x, h')) ?_ rfl
    rw [c_pv p1, hd]
    rfl
  unfold prM at e
  generalize ctk cx F i = T at e ⊢
  by_cases t1 : T = 2
  · rw [if_pos t1] at e ⊢; cases e; exact fin _ rfl
  rw [if_neg t1] at e ⊢
  by_cases t2 : T = 4
  · rw [if_pos t2] at e ⊢; cases e; exact fin _ rfl
  rw [if_neg t2] at e ⊢
  by_cases t3 : T = 22
  · rw [if_pos t3] at e ⊢; cases e; exact fin _ rfl
  rw [if_neg t3] at e ⊢
  by_cases t4 : T = 32
  · rw [if_pos t4] at e ⊢; cases e; exact fin _ rfl
  rw [if_neg t4] at e ⊢
  by_cases t5 : T = 33
  · rw [if_pos t5] at e ⊢; cases e; exact fin _ rfl
  rw [if_neg t5] at e ⊢
  by_cases t6 : T = 34
  · rw [if_pos t6] at e ⊢; cases e; exact fin _ rfl
  rw [if_neg t6] at e ⊢
  by_cases t7 : T = 35
  · rw [if_pos t7] at e ⊢; cases e; exact fin _ rfl
  rw [if_neg t7] at e ⊢
  by_cases t8 : T = 36
  · rw [if_pos t8] at e ⊢; cases e; exact fin _ rfl
  rw [if_neg t8] at e ⊢
  by_cases t9 : T = 37
  · rw [if_pos t9] at e ⊢; cases e; exact fin _ rfl
  rw [if_neg t9] at e
  cases e
theorem tk_44 {T so va : Int32} (e : TR0 T so va) : ∃ j, j < 44 ∧ T = Int32.ofNat j := by
  have p24 : ∀ j, j < 24 → pmK j < 44 := by decide
  have p14 : ∀ j, j < 14 → 5 + Int32.ofNat j = Int32.ofNat (5 + j) := by decide
  rcases e with ⟨a, b⟩ | ⟨a, b⟩ | ⟨a, b⟩ | ⟨a, b⟩ | ⟨a, b⟩ | ⟨j, hj, a, b, d⟩ | ⟨a, b, d⟩ | ⟨j, hj, a, b, d⟩
  · exact ⟨0, by decide, a⟩
  · exact ⟨1, by decide, a⟩
  · exact ⟨2, by decide, a⟩
  · exact ⟨3, by decide, a⟩
  · exact ⟨4, by decide, a⟩
  · exact ⟨5 + j, by omega, a.trans (p14 j hj)⟩
  · exact ⟨19, by decide, a⟩
  · exact ⟨pmK j, p24 j hj, a⟩
theorem sw_139 : ∀ j, j < 44 → ¬ (Int32.ofNat j = 2 ∨ Int32.ofNat j = 4 ∨ Int32.ofNat j = 22 ∨ Int32.ofNat j = 32 ∨ Int32.ofNat j = 33 ∨ Int32.ofNat j = 34 ∨ Int32.ofNat j = 35 ∨ Int32.ofNat j = 36 ∨ Int32.ofNat j = 37) → Op.lookupswitch.offset (#[(2, 101), (4, 84), (22, 125), (32, 111), (33, 118), (34, 89), (35, 95), (36, 106), (37, 132)] : Array (Int × Int)).toList 139 (Int32.toInt (Int32.ofNat j)) = 139 := by decide +kernel
theorem sel_0 {T so va : Int32} (e : TR0 T so va) (hn : ¬ (T = 2 ∨ T = 4 ∨ T = 22 ∨ T = 32 ∨ T = 33 ∨ T = 34 ∨ T = 35 ∨ T = 36 ∨ T = 37)) : sel so va = 0 := by
  have s := so_iff e
  unfold sel
  rw [if_neg (fun u => hn (Or.inr (Or.inl (s.2.2.1.mp u)))), if_neg (fun u => hn (Or.inl (s.1.mp u)))]
  by_cases c : so = 2
  · rw [if_pos c, if_neg (fun u => hn ?_), if_neg (fun u => hn ?_), if_neg (fun u => hn ?_), if_neg (fun u => hn ?_), if_neg (fun u => hn ?_), if_neg (fun u => hn ?_), if_neg (fun u => hn ?_)]
    · have := (wd_iff e Q17).mp ⟨c, u⟩; simp [this]
    · have := (wd_iff e Q2).mp ⟨c, u⟩; simp [this]
    · have := (wd_iff e Q13).mp ⟨c, u⟩; simp [this]
    · have := (wd_iff e Q12).mp ⟨c, u⟩; simp [this]
    · have := (wd_iff e Q16).mp ⟨c, u⟩; simp [this]
    · have := (wd_iff e Q15).mp ⟨c, u⟩; simp [this]
    · have := (wd_iff e Q14).mp ⟨c, u⟩; simp [this]
  · rw [if_neg c]
end PM
