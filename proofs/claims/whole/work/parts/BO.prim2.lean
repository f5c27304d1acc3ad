/-! PRIMARIES: leaves, and where none begins. -/
section PL
variable {L : Nat} {xs : Nat → Int32} {zf : Value} {w k k2 i : Nat} {cx : Nat → Nat} {F : Nat → Nat → Int32} {N : Nat → Int64} {q : List Value} {h h' h1 h2 : rm_H} {s s' s1 s2 : rS} {g g' g1 g2 : Nat → Nat} {ts ts' ts1 ts2 : List Nat} {v : Nat → Int32} {A : Nat}
/-- parts are counted -/
theorem sy_parts (z : SY cx F N q h s g ts) : ∃ h1, dpF h 4 [4] (some (cx 8)) (.int (s.1 24 + 1)) = some h1 ∧ pC h1 cx F (vS cx F (g 0)) ∧ CH cx q h1 g ts (s.1 24 + 1) (s.1 25) ∧ st1 (cx 8) h h1 := p_parts z.1.1 z.1.2.2.2.1 (s.1 24 + 1)
theorem fr_M4_8 (w8 : st1 (cx 8) h h1) (f : fr (fun y => y = cx 0) h1 h2) : fr (M4 cx (g 1)) h h2 := fr_trans (fr_mono w8.1 (fun _ _ u => Or.inr (Or.inl u))) f (fun _ _ u => Or.inl u)
/-- the token of a node -/
theorem sel_k {T so va kk : Int32} (e : TR0 T so va) (hk : (T = 4 ∧ kk = 1) ∨ (T = 2 ∧ kk = 4) ∨ (T = 34 ∧ kk = 2) ∨ (T = 35 ∧ kk = 3) ∨ (T = 36 ∧ kk = 5) ∨ (T = 32 ∧ kk = 6) ∨ (T = 33 ∧ kk = 7) ∨ (T = 22 ∧ kk = 8) ∨ (T = 37 ∧ kk = 9)) : sel so va = kk := by
  have s := so_iff e
  rcases hk with ⟨a, b⟩ | ⟨a, b⟩ | ⟨a, b⟩ | ⟨a, b⟩ | ⟨a, b⟩ | ⟨a, b⟩ | ⟨a, b⟩ | ⟨a, b⟩ | ⟨a, b⟩
  · rw [s.2.2.1.mpr a, b]; rfl
  · rw [s.1.mpr a, b]; rfl
  · obtain ⟨c, d⟩ := (wd_iff e Q14).mpr a; rw [c, d, b]; rfl
  · obtain ⟨c, d⟩ := (wd_iff e Q15).mpr a; rw [c, d, b]; rfl
  · obtain ⟨c, d⟩ := (wd_iff e Q16).mpr a; rw [c, d, b]; rfl
  · obtain ⟨c, d⟩ := (wd_iff e Q12).mpr a; rw [c, d, b]; rfl
  · obtain ⟨c, d⟩ := (wd_iff e Q13).mpr a; rw [c, d, b]; rfl
  · obtain ⟨c, d⟩ := (wd_iff e Q2).mpr a; rw [c, d, b]; rfl
  · obtain ⟨c, d⟩ := (wd_iff e Q17).mpr a; rw [c, d, b]; rfl
/-- the reference at the token of a node -/
theorem r_322 {i1 kk : Int32} {r : rA} (hT : TF cx F N) (z : SY cx F N q h s g ts) (hk : (ctk cx F (g 0) = 4 ∧ kk = 1) ∨ (ctk cx F (g 0) = 2 ∧ kk = 4) ∨ (ctk cx F (g 0) = 34 ∧ kk = 2) ∨ (ctk cx F (g 0) = 35 ∧ kk = 3) ∨ (ctk cx F (g 0) = 36 ∧ kk = 5) ∨ (ctk cx F (g 0) = 32 ∧ kk = 6) ∨ (ctk cx F (g 0) = 33 ∧ kk = 7) ∨ (ctk cx F (g 0) = 22 ∧ kk = 8) ∨ (ctk cx F (g 0) = 37 ∧ kk = 9)) (hr : s322_k (rM w (k + 2)) w i1 kk (Int32.ofNat (g 4)) (rnS s (g 4) (g 0) kk) = some r) : rM w (k + 3) 322 [.ref 36, .int i1] s = some r := by
  obtain ⟨⟨p, ⟨a1, a2, a3, a4⟩, rt, ch, ⟨c1, c2, c3, c4⟩, b1, b2, b3, b4⟩, g6⟩ := id z
  have hl : g 0 ≤ 2000 := by have := hT.1; omega
  obtain ⟨⟨f5, _, tr⟩, _⟩ := hT.2.2 (g 0) b1
  refine q322 (k := k) a1 c1 hl ?_ ?_
  · rw [rt.1, rt.2.2.1]
    intro u
    have t7 := (sg_iff tr P40).mp u
    rw [t7] at hk
    revert hk
    simp
  · have sk := sel_k tr hk
    rw [rt.1, rt.2.2.1, sk]
    refine r_181 (k := k + 1) ?_ c1 hl c2 (by omega) hr
    rcases hk with ⟨_, b⟩ | ⟨_, b⟩ | ⟨_, b⟩ | ⟨_, b⟩ | ⟨_, b⟩ | ⟨_, b⟩ | ⟨_, b⟩ | ⟨_, b⟩ | ⟨_, b⟩ <;> rw [b] <;> decide
theorem w_pass (hT : TF cx F N) (z : SY cx F N q h s g ts) (T : Int32) (t : ctk cx F (g 0) = T) (h0 : T ≠ 0) (h1 : T ≠ 1) : g 0 < cx 16 := tk_lt hT z.1.2.2.2.2.2.1 (by rw [t]; exact h0) (by rw [t]; exact h1)
theorem leaf_k : ∀ W : Nat, W ≤ 4 → Int32.ofNat W ≠ 8 ∧ Int32.ofNat W ≠ 20 := by decide +kernel
/-- a NUMBER, a NAME, and the two words that stand alone -/
theorem x_leaf {i1 : Int32} (hT : TF cx F N) (hw : 2001 ≤ w) (z : SY cx F N q h s g ts) (t : ctk cx F (g 0) = 4 ∨ ctk cx F (g 0) = 2 ∨ ctk cx F (g 0) = 34 ∨ ctk cx F (g 0) = 35) : EXR 0 L xs cx F N q A h s g ts (dM L xs zf w (k + 10) 125 [.ref (cx 7), .ref (cx 14), .int i1] h) (rM w (k2 + 3) 322 [.ref 36, .int i1] s) := by
  obtain ⟨h1, e1, p1, ch1, w8⟩ := sy_parts z
  have b1 := z.1.2.2.2.2.2.1
  have c4 := z.1.2.2.2.2.1.2.2.2
  have l8 := w8.2.1
  have y8 := w8.2.2
  have f5 := (hT.2.2 (g 0) b1).1.1
  -- what is left, from the class's last heap
  have fin : ∀ (W : Nat) (kk : Int32) (h2 : rm_H) (fs : List Value), 1 ≤ W → W ≤ 4 → kk = Int32.ofNat W → g 0 < cx 16 → dM L xs zf w (k + 10) 125 [.ref (cx 7), .ref (cx 14), .int i1] h = some (some (.ref (21 + h.length)), h2) → rM w (k2 + 3) 322 [.ref 36, .int i1] s = some (some (.int (Int32.ofNat (g 4))), rnS s (g 4) (g 0) kk) → pC h2 cx F (vS cx F (g 0 + 1)) → CH cx q h2 g ts (s.1 24 + 1) (s.1 25) → fr (fun y => y = cx 0) h1 h2 → (h2.length ≤ h.length + 10 ∧ nD h h2) → zh h2 ≤ zh h + 80 → hc h2 (21 + h.length) = some (.inr (12, fs)) → fs.length = 13 → fs[0]? = some (.int (Int32.ofNat W)) → fs[1]? = some (.int (cpl cx F (g 0))) → fs[3]? = some (.int (cpl cx F (g 0))) → fs[6]? = some .null → fs[11]? = some .null → (W = 4 → ∃ nm, fs[2]? = some (.ref nm) ∧ nS L xs h2 nm (N (g 0))) → (W = 1 → fs[4]? = some (.int (F 6 (g 0)))) → EXR 0 L xs cx F N q A h s g ts (dM L xs zf w (k + 10) 125 [.ref (cx 7), .ref (cx 14), .int i1] h) (rM w (k2 + 3) 322 [.ref 36, .int i1] s) := by
    intro W kk h2 fs w1 w4 hkk hlt ec er p2 ch2 f2 l2 y2 hp f13 q0 q1 q3 q6 q11 qn qv
    obtain ⟨sy, op, on⟩ := SY_nd z hlt kk p2 ch2 (fr_M4_8 w8 f2) l2 y2 (by rw [hkk]; exact leaf_k W w4) hT
    refine ⟨h2, _, _, ts, 21 + h.length, g 4, ec, er, op, Or.inr ?_, nW_of (o := none) hp f13 q1 q11, Nat.le_refl _, ?_, fun _ => ⟨?_, ?_, ?_⟩⟩
    · show g 6 ≤ g 6 + 2
      omega
    · show g 4 < g 4 + 1
      omega
    · show g 0 < g 0 + 1
      omega
    · rw [on.1 48 (by omega) (by omega), upd_ne _ _ (by decide)]
      rfl
    · show NR L xs h2 _ (0, A / 20 + 1) (g 4 + 1 - g 4) (g 4) (g 4 + 1) _ _ _ _
      rw [show g 4 + 1 - g 4 = 0 + 1 from by omega]
      have hlt2 := hc_lt hp
      refine NR_0 (W := W) ⟨c4, Nat.le_refl _, by omega, Nat.le_refl _, hlt2⟩ ⟨w1, by omega⟩ ?_ ?_ ?_ ?_ (fun u => ⟨?_, ?_⟩) (fun u => ?_) (fun _ => ?_) ?_ (by rw [on.1 45 (by omega) (by omega), upd_ne _ _ (by decide)]; rfl)
      · rw [fd_of hp]; exact q0
      · rw [on.1 44 (by omega) (by omega), upd_ne _ _ (by decide)]
        show kk = _
        rw [hkk]
        unfold wK
        rw [if_pos (by omega)]
      · rw [fd_of hp, on.1 50 (by omega) (by omega), upd_ne _ _ (by decide), q1]
        show _ = some (Value.int (F 5 (g 0)))
        rw [f5]
      · rw [fd_of hp]; exact q6
      · have : W = 4 := by omega
        obtain ⟨nm, n1, n2⟩ := qn this
        exact ⟨nm, by rw [fd_of hp]; exact n1, by rw [on.2]; exact n2⟩
      · rw [fd_of hp, on.1 51 (by omega) (by omega), upd_ne _ _ (by decide), q3]
        show _ = some (Value.int (F 5 (g 0)))
        rw [f5]
      · rw [fd_of hp, on.1 54 (by omega) (by omega), upd_eq]
        exact qv u
      · rw [on.1 51 (by omega) (by omega), on.1 50 (by omega) (by omega), upd_ne _ _ (by decide), upd_ne _ _ (by decide)]
        rfl
      · rw [fd_of hp, List.getElem?_eq_getElem (by omega)]
        rfl
  have l1 : h1.length = h.length := l8
  have two : ∀ W : Nat, W = 2 ∨ W = 3 → (ctk cx F (g 0) = 34 ∧ W = 2) ∨ (ctk cx F (g 0) = 35 ∧ W = 3) → EXR 0 L xs cx F N q A h s g ts (dM L xs zf w (k + 10) 125 [.ref (cx 7), .ref (cx 14), .int i1] h) (rM w (k2 + 3) 322 [.ref 36, .int i1] s) := by
    intro W hW t
    have hlt : g 0 < cx 16 := by
      rcases t with t | t
      · exact w_pass hT z 34 t.1 (by decide) (by decide)
      · exact w_pass hT z 35 t.1 (by decide) (by decide)
    obtain ⟨h2, a1, a2, a3, a4⟩ := c_128 (L := L) (xs := xs) (zf := zf) (w := w) (k := k + 5) hT p1 hlt (Int32.ofNat W)
    rw [l1] at a1 a3
    have l2 : h2.length = h.length + 1 := by rw [a4.2.1, List.length_append, l1]; rfl
    have y2 : zh h2 = zh h + 13 := by rw [a4.2.2, zh_nd, y8]
    have ch2 : CH cx q h2 g ts (s.1 24 + 1) (s.1 25) := CH_r (pC_ap p1) a4 (CH_ap (Or.inl (nd0_5 _ _)) ch1)
    refine fin W (Int32.ofNat W) h2 _ (by omega) (by omega) rfl hlt (c_125 (k := k + 9) z.1.1 p1 z.1.2.2.2.1 e1 (mi := 128) (As := [.int (Int32.ofNat W)]) ?_ a1) ?_ a2 ch2 (fr_trans (fr_app _ _) a4.1 (fun _ _ u => u)) ⟨by omega, nD_1 (by omega) a3 (fun _ z => by cases z)⟩ (by omega) a3 rfl rfl rfl rfl rfl rfl (fun u => by omega) (fun u => by omega)
    · rcases t with ⟨t, e⟩ | ⟨t, e⟩ <;> rw [t, e] <;> rfl
    · refine r_322 (kk := Int32.ofNat W) hT z ?_ ?_
      · rcases t with ⟨t, e⟩ | ⟨t, e⟩
        · exact Or.inr (Or.inr (Or.inl ⟨t, by rw [e]; rfl⟩))
        · exact Or.inr (Or.inr (Or.inr (Or.inl ⟨t, by rw [e]; rfl⟩)))
      · rcases hW with e | e <;> subst e
        · exact ift (by decide) (ift (by decide) (ift (by decide) (ift (by decide) (ift (by decide) rfl))))
        · exact ift (by decide) (ift (by decide) (ift (by decide) (ift (by decide) (ift (by decide) rfl))))
  rcases t with t | t | t | t
  · obtain ⟨h2, a1, hlt, a2, a3, a4, a5, a6, a7⟩ := c_126 (L := L) (xs := xs) (zf := zf) (w := w) (k := k + 3) hT p1 b1 t hw
    rw [l1] at a1 a3
    refine fin 1 1 h2 _ (by omega) (by omega) rfl hlt (c_125 (k := k + 9) z.1.1 p1 z.1.2.2.2.1 e1 (mi := 126) (As := []) (by rw [t]; rfl) a1) ?_ a2 (CH_fr p1 a4 a5 ch1) a4 ⟨by omega, nD_1 (by omega) a3 (fun _ z => by cases z)⟩ (by omega) a3 rfl rfl rfl rfl rfl rfl (fun u => by omega) (fun _ => rfl)
    exact r_322 hT z (Or.inl ⟨t, rfl⟩) (ift (by decide) (ift (by decide) (ift (by decide) (ift (by decide) (ift (by decide) rfl)))))
  · obtain ⟨h2, nm, a1, hlt, a2, a3, a4, a5, a6, a7, a8⟩ := c_129 (L := L) (xs := xs) (zf := zf) (w := w) (k := k) hT p1 b1 t
    rw [l1] at a1 a4
    refine fin 4 4 h2 _ (by omega) (by omega) rfl hlt (c_125 (k := k + 9) z.1.1 p1 z.1.2.2.2.1 e1 (mi := 129) (As := []) (by rw [t]; rfl) a1) ?_ a2 (CH_fr p1 a5 a6 ch1) a5 ⟨by omega, nD_trans (nD_0 l1) a5 a7.2⟩ (by omega) a4 rfl rfl rfl rfl rfl rfl (fun _ => ⟨nm, rfl, a3⟩) (fun u => by omega)
    exact r_322 hT z (Or.inr (Or.inl ⟨t, rfl⟩)) (ift (by decide) (ift (by decide) (ift (by decide) (ift (by decide) (ift (by decide) rfl)))))
  · exact two 2 (Or.inl rfl) (Or.inl ⟨t, rfl⟩)
  · exact two 3 (Or.inr rfl) (Or.inr ⟨t, rfl⟩)
end PL
