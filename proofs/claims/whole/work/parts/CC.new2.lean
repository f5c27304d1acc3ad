/-! NEW, by both. -/
section NV
variable {L : Nat} {xs : Nat → Int32} {zf : Value} {w k i n p t : Nat} {cx : Nat → Nat} {F : Nat → Nat → Int32} {N : Nat → Int64} {q : List Value} {h0 h h' h1 h2 : rm_H} {s0 s s' s1 s2 : rS} {g0 g g' : Nat → Nat} {ts ts' : List Nat} {A ke kr : Nat} {i1 : Int32} {R : Nat → Int32} {J : Int64} {ks : List (Nat → Nat)} {cap c1 c2 d2 : Nat}
theorem pW_pts {lb pl ph : Nat} {es : List Nat} (e : pW h lb p es cap) (hl : pl ≤ lb) (hp : 21 + h.length ≤ ph) : pts h pl ph p es := by
  rcases e with ⟨e1, e2, _⟩ | ⟨l, ar, e1, e2, e3, _⟩
  · exact Or.inl ⟨e1, e2⟩
  · have := (aL_lt e2).1
    exact Or.inr ⟨l, ar, cap, e1, e2, Nat.le_trans hl e3, Nat.lt_of_lt_of_le this hp⟩
theorem AJ_sq {zz : Nat × Nat} {lo hi pl ph lb lo0 hi0 pl0 ph0 : Nat} {X : Int32} (e : pW h lb p (ks.map (fun a => a 0)) cap) (c : chn s ks X) (K : ∀ l, fd h 12 p 11 = some (.ref l) → KS L xs zz h s n l lo hi pl ph ks) (h1 : lo0 ≤ lo) (h2 : hi ≤ hi0) (h3 : pl0 ≤ pl) (h4 : ph ≤ ph0) (hn : n < lo) (hp : p < pl) : sq s (NRq L xs h s zz) hi0 ph0 n p lo0 pl0 (ks.map (fun a => a 0)) X := by
  rcases e with ⟨_, e2, _⟩ | ⟨l, ar, e1, _⟩
  · have e3 := List.map_eq_nil_iff.mp e2
    subst e3
    exact c
  · exact KS_sq (K l e1) c (Nat.le_refl _) h1 h2 h3 h4 hn hp
theorem oa_keep {ci d : Nat} {fs : List Value} (z : SY cx F N q h s g ts ∨ FLT cx F N q h s g ts) (b : OPA cx F N q p n c1 c2 d2 h s g ts h' s' g' ts') (hd : hc h d = some (.inr (ci, fs))) (hci : ci ≠ 4 ∧ ci ≠ 5 ∧ ci ≠ 6 ∧ ci ≠ 11) (hp : d ≠ p) : hc h' d = some (.inr (ci, fs)) := by
  refine fr_old b.2.2.1 hd (fun u => ?_)
  rcases u with u | u
  · have main : ∀ (v : Nat → Int32) (pt vr : Int32), pC h cx F v → CH cx q h g ts pt vr → False := by
      intro v pt vr p1 ch
      rcases u with u | u | u | u | u
      · rw [u, pC_r p1] at hd; cases hd; exact hci.2.2.1 rfl
      · rw [u, ch.1] at hd; cases hd; exact hci.1 rfl
      · obtain ⟨mc, e, _⟩ := ch.2.1
        rw [u, e] at hd; cases hd; exact hci.2.1 rfl
      · rcases ch.2.2.2.2 with e | ⟨_, e⟩
        · have := hc_ge hd
          omega
        · rw [u, e] at hd; cases hd; exact hci.2.2.2 rfl
      · obtain ⟨mc, _, _, _, e3⟩ := ch.2.1
        rcases e3 with ⟨e3, _⟩ | ⟨f0, e3, _⟩
        · have := hc_ge hd
          omega
        · rw [u, e3] at hd; cases hd
    rcases z with z | z
    · exact main _ _ _ z.1.1 z.1.2.2.2.1
    · obtain ⟨⟨v, p1, _⟩, _, _, ⟨pt, vr, ch⟩, _⟩ := z
      exact main _ _ _ p1 ch
  · exact hp u
theorem rnS_on {kk : Int32} (rt : rTk F N s) : onR (rnS s n i kk) n (upd (fun r => ndV r kk (F 5 i)) 54 (F 6 i)) (N i) := by
  refine ⟨fun r h1 h2 => ?_, ?_⟩
  · show (rs_wA (rs_w (ndS s n kk (s.2.1 41 i)) 24 (s.1 24 + 1)) 54 n (s.2.1 42 i)).2.1 r n = _
    rw [wA_get, rt.2.1, rt.2.2.1]
    by_cases hr : r = 54
    · rw [if_pos ⟨hr, rfl⟩, hr, upd_eq]
    · rw [if_neg (fun u => hr u.1), upd_ne _ _ hr]
      show (ndS s n kk (F 5 i)).2.1 r n = _
      rw [nd_get, if_pos ⟨rfl, h1, h2⟩]
  · show (rs_wB (rs_wA (rs_w (ndS s n kk (s.2.1 41 i)) 24 (s.1 24 + 1)) 54 n (s.2.1 42 i)) 56 n (s.2.2 43 i)).2.2 56 n = _
    rw [wB_get, if_pos ⟨rfl, rfl⟩, rt.2.2.2]
theorem NR_8 {zz d lo hi pl ph dd : Nat} {es : List Nat} (rg : 1 ≤ lo ∧ lo ≤ n ∧ n < hi ∧ pl ≤ p ∧ p < ph) (f0 : fd h 12 p 0 = some (.int (Int32.ofNat 8))) (r44 : s.2.1 44 n = Int32.ofNat (wK 8)) (f1 : fd h 12 p 1 = some (.int (s.2.1 50 n))) (f6 : fd h 12 p 6 = some .null) (e1 : pts h pl ph p es) (e2 : sq s (NRq L xs h s (0, zz)) hi ph n p (n + 1) (p + 1) es (s.2.1 45 n)) (e3 : s.2.1 52 n = Int32.ofNat es.length) (e4 : es.length ≤ 6) (f5 : fd h 12 p 5 = some (.ref dd)) (hd : pl ≤ dd ∧ dd < ph) (nd : nwD L xs h s dd n) (f3 : fd h 12 p 3 = some (.int (s.2.1 51 n))) (r46 : s.2.1 46 n = 0) (f12 : (fd h 12 p 12).isSome = true) : NR L xs h s (0, zz + 1) (d + 1) lo hi pl ph n p := by
  refine ⟨rg, 8, ⟨by omega, by omega, f0, r44, f1, Or.inl ⟨rfl, by omega⟩, fun z => by omega⟩, fun _ => f6, fun c hc => ?_, fun z => by omega, fun _ => ⟨es, e1, e2, e3, e4⟩, fun z => by omega, fun z => by omega, fun z => by omega, fun z => by omega, fun _ => ⟨dd, f5, hd.1, hd.2, nd, f3, r46⟩, fun z => by omega, fun z => by omega, fun z => by omega, fun z => by omega, f12⟩
  simp [kids] at hc
theorem x_new (hT : TF cx F N) (hw : 2001 ≤ w) (hA : 2 ≤ A ∧ A ≤ 2000) (IH : IHx L xs zf w cx F N q A (ke + 8) (kr + 3) 123 320 (i1 + 1)) (z : SY cx F N q h s g ts) (t22 : ctk cx F (g 0) = 22) : EXR 0 L xs cx F N q (A + 20) h s g ts (dM L xs zf w (ke + 14) 125 [.ref (cx 7), .ref (cx 14), .int i1] h) (rM w (kr + 5) 322 [.ref 36, .int i1] s) := by
  obtain ⟨h1, e1, p1, ch1, w8⟩ := sy_parts z
  have hlt := w_pass hT z 22 t22 (by decide) (by decide)
  obtain ⟨⟨p0, ⟨a1, a2, a3, a4⟩, rt, ch0, ⟨c1, c2, c3, c4⟩, b1, b2, b3, b4⟩, g6⟩ := id z
  have hT1 := hT.1
  have f5 := (hT.2.2 (g 0) b1).1.1
  have l8 := w8.2.1
  have y8 := w8.2.2
  obtain ⟨h6, ar', cap', v, t2, cp, cq, d, m1, m2, m3, m4, m5, m6, m7, m8, m9, m10, m11, m12, m13⟩ := c_new (L := L) (xs := xs) (zf := zf) (w := w) (k := ke + 3) (i1 := i1) hT hlt p1 ch1 (by omega)
  rw [l8] at m1 m6 m8 m9
  obtain ⟨s7, cv, n1, n2, n3, n4, n5, n6, n7, n8⟩ := r_new (w := w) (k := kr + 1) (i1 := i1) (n := g 4) (s := rnS s (g 4) (g 0) 8) hT (show g 0 + 1 ≤ cx 16 by omega) (by omega) a1 rfl (rT_F rnS_rF rt) (rnS_on rt)
  have ti : tiA cx F (g 0 + 1) = g 0 + 1 ∨ tiA cx F (g 0 + 1) = g 0 + 2 := by
    by_cases c : isC cx F (g 0 + 1)
    · exact Or.inr (tiA_c c)
    · exact Or.inl (tiA_n c)
  have f5t := (hT.2.2 (tiA cx F (g 0 + 1)) m12).1.1
  have f5i := (hT.2.2 (g 0 + 1) (by omega)).1.1
  have FR : fr (M4 cx (g 1)) h h6 := by
    refine fr_trans (fr_mono w8.1 (fun _ _ u => Or.inr (Or.inl u))) m4 (fun y hy u => ?_)
    rcases u with u | u | u
    · exact Or.inl u
    · exact Or.inr (Or.inr (Or.inl u))
    · exact Or.inr (Or.inr (Or.inr (Or.inr u)))
  have key : ∃ T, (SY cx F N q h6 s7 (gu (gu (gu (gu g 0 T) 4 (g 4 + 1)) 1 ar') 2 cap') (ts ++ [d]) ∨ FLT cx F N q h6 s7 (gu (gu (gu (gu g 0 T) 4 (g 4 + 1)) 1 ar') 2 cap') (ts ++ [d])) ∧ (SY cx F N q h6 s7 (gu (gu (gu (gu g 0 T) 4 (g 4 + 1)) 1 ar') 2 cap') (ts ++ [d]) → nS L xs h6 t2 (N (tiA cx F (g 0 + 1)))) ∧ g 0 + 1 ≤ T := by
    have lt1 : (ts ++ [d]).length = ts.length + 1 := by rw [List.length_append]; rfl
    have e24 : s7.1 24 = s.1 24 + 1 := (n8 24 (by decide) (by decide) (by decide)).trans rfl
    have e25 : s7.1 25 = s.1 25 := (n8 25 (by decide) (by decide) (by decide)).trans rfl
    have e10 : s7.1 10 = Int32.ofNat (g 4 + 1) := (n8 10 (by decide) (by decide) (by decide)).trans rfl
    have e26 : s7.1 26 = Int32.ofNat (g 5) := ((n8 26 (by decide) (by decide) (by decide)).trans rfl).trans c3
    have e59 : cx 14 ≠ 0 → s7.1 59 = Int32.ofNat (g 3) := fun hh => ((n8 59 (by decide) (by decide) (by decide)).trans rfl).trans (a3 hh)
    have rt7 := rT_F n2 (rT_F rnS_rF rt)
    rcases m13 with ⟨u1, u2, u3, u4⟩ | ⟨u1, u2⟩
    · rcases n7 with ⟨x1, x2, x3, x4⟩ | ⟨x1, _⟩
      · refine ⟨tiA cx F (g 0 + 1) + 1, Or.inl ⟨⟨by have m3' := m3; rw [u3] at m3'; exact m3', ⟨x3, x4.trans a2, e59, a4⟩, rt7, ?_, ⟨x2, e10, e26, ?_⟩, ?_⟩, g6.1, ?_⟩, fun _ => u4, by omega⟩
        · rw [e24, e25]
          exact CH_g (g := gu (gu g 1 ar') 2 cap') rfl rfl rfl m2
        · show 1 ≤ g 4 + 1
          omega
        · show tiA cx F (g 0 + 1) + 1 ≤ _ ∧ (ts ++ [d]).length ≤ tiA cx F (g 0 + 1) + 1 ∧ g 4 + 1 ≤ tiA cx F (g 0 + 1) + 1 + 2 ∧ g 5 + 2 ≤ tiA cx F (g 0 + 1) + 1
          omega
        · have nwd : nwD L xs h6 s7 d (g 4) := by
            refine ⟨by rw [fd_of m10]; rfl, t2, by rw [fd_of m10]; rfl, by rw [n5.2]; exact u4, ?_, ?_⟩
            · rw [fd_of m10, n5.1 51 (by omega) (by omega), upd_eq, f5t]; rfl
            · rw [n5.1 54 (by omega) (by omega), upd_ne _ _ (by decide), upd_ne _ _ (by decide), upd_eq, n5.1 55 (by omega) (by omega), upd_ne _ _ (by decide), upd_eq]
              rcases n6 with ⟨y1, y2⟩ | ⟨y1, y2⟩
              · rcases m11 with ⟨_, y3, y4⟩ | ⟨y3, _⟩
                · obtain ⟨c, hc5, z1, _⟩ := (cap_iff (hT.2.2 (g 0 + 1) (by omega)).1.2.2).2 y1
                  refine Or.inr ⟨c, hc5, y2.trans z1, ?_, ?_⟩
                  · rw [fd_of m10, y3, z1]; rfl
                  · rw [fd_of m10, y4, f5i]; rfl
                · exact absurd y1 y3
              · rcases m11 with ⟨y3, _⟩ | ⟨_, y3, y4⟩
                · exact absurd y3 y1
                · refine Or.inl ⟨y2, ?_⟩
                  rw [fd_of m10, y3]; rfl
          have k44 : s7.2.1 44 (g 4) = 8 := by
            have k := n5.1 44 (by omega) (by omega)
            rw [upd_ne _ _ (by decide), upd_ne _ _ (by decide), upd_ne _ _ (by decide)] at k
            exact k
          have l8c := hc_lt ch0.1
          have ne := m5.2
          rw [l8] at ne
          refine TSI_gen (us := [d]) g6.2 FR (M4_10 p0 ch0) (fun x fs e => ?_) (tR_sX (sX_trans rnS_sX (n3 (g 4) (Nat.le_refl _)) (Nat.le_refl _))) (yA_n c3 (by omega) (yA_trans rnS_yA n4)) (Nat.le_refl _) (Nat.le_succ _) (Nat.le_refl _) (fun x hx => ?_) (fun y y1 y2 => ?_) (fun n n1 n2 _ => ?_) (fun n n1 n2 e => ?_)
          · rcases ne x fs e with q | q
            · exact Or.inl (by omega)
            · exact Or.inr (by rw [q, ← m8]; exact List.mem_singleton.mpr rfl)
          · rw [List.mem_singleton.mp hx]
            exact ⟨by omega, ⟨_, m10, rfl, rfl⟩, Or.inr ⟨g 4, by omega, Nat.lt_succ_self _, k44, nwD_L nwd⟩⟩
          · have y2 : y < g 5 := y2
            omega
          · have n3 : n < g 4 + 1 := n2
            have n4 : n = g 4 := by omega
            subst n4
            exact ⟨d, List.mem_singleton.mpr rfl, nwD_L nwd⟩
          · have n3 : n < g 4 + 1 := n2
            have n4 : n = g 4 := by omega
            rw [n4, k44] at e
            exact absurd e (by decide)
      · exact absurd u1 x1
    · rcases n7 with ⟨x1, _⟩ | ⟨x1, x2, x3, x4⟩
      · exact absurd x1 u1
      · have fl : FLT cx F N q h6 s7 (gu (gu (gu (gu g 0 (tiA cx F (g 0 + 1))) 4 (g 4 + 1)) 1 ar') 2 cap') (ts ++ [d]) := by
          refine ⟨⟨v, m3, by rw [x4]; exact u2⟩, x3, rt7, ⟨_, _, CH_g (g := gu (gu g 1 ar') 2 cap') rfl rfl rfl m2⟩, ⟨x2, e10, e26, ?_⟩, ?_⟩
          · show 1 ≤ g 4 + 1
            omega
          · show tiA cx F (g 0 + 1) ≤ _ ∧ (ts ++ [d]).length ≤ tiA cx F (g 0 + 1) + g 6 ∧ g 4 + 1 ≤ tiA cx F (g 0 + 1) + 2 + g 6
            omega
        exact ⟨tiA cx F (g 0 + 1), Or.inr fl, fun u => (sy_no u fl).elim, by omega⟩
  obtain ⟨T, st7, nS7, hT7⟩ := key
  have op7 : OPR cx F N q h s g ts h6 s7 (gu (gu (gu (gu g 0 T) 4 (g 4 + 1)) 1 ar') 2 cap') (ts ++ [d]) := by
    refine ⟨st7, fun _ => ⟨z, sX_trans rnS_sX (n3 (g 4) (Nat.le_refl _)) (Nat.le_refl _), yA_trans rnS_yA n4⟩, fr_trans (fr_mono w8.1 (fun _ _ u => Or.inr (Or.inl u))) m4 (fun y hy u => ?_), m6, rF_trans rnS_rF n2, ?_⟩
    · rcases u with u | u | u
      · exact Or.inl u
      · exact Or.inr (Or.inr (Or.inl u))
      · exact Or.inr (Or.inr (Or.inr (Or.inr u)))
    · show (g 0 ≤ T ∧ g 4 ≤ g 4 + 1) ∧ h6.length + 10 * g 0 + g 6 ≤ h.length + 10 * T + g 6 ∧ zh h6 + 4 * g 2 + 80 * g 0 + 8 * g 6 ≤ zh h + 4 * cap' + 80 * T + 8 * g 6 ∧ g 4 + 1 + g 0 + g 6 ≤ g 4 + T + g 6
      omega
  have q4 : gu (gu (gu (gu g 0 T) 4 (g 4 + 1)) 1 ar') 2 cap' 4 = g 4 + 1 := rfl
  have q6 : gu (gu (gu (gu g 0 T) 4 (g 4 + 1)) 1 ar') 2 cap' 6 = g 6 := rfl
  have q0 : gu (gu (gu (gu g 0 T) 4 (g 4 + 1)) 1 ar') 2 cap' 0 = T := rfl
  obtain ⟨h9, s9, g9, ts9, ks, cap, ec, er, oa, sl, nw9, fd9, jj⟩ := x_args (A := A) (ke := ke + 3) (kr := kr) (p := 21 + h.length) (n := g 4) hT hw hA (IHx_at _ _ IH (by omega) (by omega)) op7.1 (by omega) (nW_of (o := none) m9 rfl rfl rfl) (by rw [fd_of m9]; rfl) (by omega) (fun _ => ⟨n5, rfl, rfl⟩)
  have fd9 : ∀ j, j ≠ 11 → fd h9 12 (21 + h.length) j = fd h6 12 (21 + h.length) j := fd9
  have o9 := oa.2.2.2.2.2.1
  have len9 := oa.2.2.1.1
  have hl6 := hc_lt m9
  refine ⟨h9, s9, g9, ts9, 21 + h.length, g 4, ?_, ?_, OPR_OPA op7 oa (Nat.le_refl _) (Nat.le_refl _) (Nat.le_refl _), by omega, nw9, Nat.le_refl _, by omega, fun u => ?_⟩
  · refine c_125 (k := ke + 13) p0 p1 ch0 e1 (mi := 133) (As := [.ref (cx 14), .int i1]) (by rw [t22]; rfl) ?_
    exact m1 h9 ec
  · refine r_322 (k := kr + 2) (kk := 8) hT z (Or.inr (Or.inr (Or.inr (Or.inr (Or.inr (Or.inr (Or.inr (Or.inl ⟨t22, rfl⟩)))))))) ?_
    exact n1 s9 er
  · obtain ⟨j9, lk⟩ := jj u
    have u7 := (oa.2.1 u).1
    obtain ⟨X, x1, x2, x3⟩ := j9.2.2.2.2.2 u
    have hd9 := oa_keep st7 oa m10 (by decide) (by omega)
    have nt2 := nS_fr oa.2.2.1 (nS7 u7)
    have hld := hc_lt m10
    refine ⟨by omega, by rw [x1.1 48 (by omega) (by omega)]; rfl, ?_⟩
    obtain ⟨dd, hdd⟩ : ∃ dd, g9 4 - g 4 = dd + 1 := ⟨g9 4 - g 4 - 1, by omega⟩
    rw [hdd, show (A + 20) / 20 = A / 20 + 1 from by omega]
    have r51 : s9.2.1 51 (g 4) = F 5 (tiA cx F (g 0 + 1)) := (x1.1 51 (by omega) (by omega)).trans rfl
    have r54 : s9.2.1 54 (g 4) = cv := (x1.1 54 (by omega) (by omega)).trans rfl
    have r55 : s9.2.1 55 (g 4) = F 5 (g 0 + 1) := (x1.1 55 (by omega) (by omega)).trans rfl
    refine NR_8 (dd := d) (es := ks.map (fun a => a 0)) ⟨c4, Nat.le_refl _, by omega, Nat.le_refl _, by omega⟩ ?_ ?_ ?_ ?_ (pW_pts j9.2.2.1 (by omega) (Nat.le_refl _)) ?_ ?_ ?_ ?_ ⟨by omega, by omega⟩ ⟨?_, t2, ?_, ?_, ?_, ?_⟩ ?_ ((x1.1 46 (by omega) (by omega)).trans rfl) (by rw [fd9 12 (by decide), fd_of m9]; rfl)
    · rw [fd9 0 (by decide), fd_of m9]; rfl
    · rw [x1.1 44 (by omega) (by omega)]; rfl
    · rw [fd9 1 (by decide), fd_of m9, x1.1 50 (by omega) (by omega)]
      show some (Value.int (cpl cx F (g 0))) = some (Value.int (F 5 (g 0)))
      rw [f5]
    · rw [fd9 6 (by decide), fd_of m9]; rfl
    · rw [x1.1 45 (by omega) (by omega)]
      exact AJ_sq j9.2.2.1 x2 x3 (by omega) (Nat.le_refl _) (by omega) (Nat.le_refl _) (by omega) (by omega)
    · rw [x1.1 52 (by omega) (by omega), List.length_map]; rfl
    · rw [List.length_map]; exact lk
    · rw [fd9 5 (by decide), fd_of m9]; rfl
    · rw [fd_of hd9]; rfl
    · rw [fd_of hd9]; rfl
    · rw [x1.2]; exact nt2
    · rw [fd_of hd9, r51, f5t]; rfl
    · rw [r54]
      rcases n6 with ⟨y1, y2⟩ | ⟨y1, y2⟩
      · rcases m11 with ⟨_, y3, y4⟩ | ⟨y3, _⟩
        · obtain ⟨c, hc5, z1, _⟩ := (cap_iff (hT.2.2 (g 0 + 1) (by omega)).1.2.2).2 y1
          refine Or.inr ⟨c, hc5, y2.trans z1, ?_, ?_⟩
          · rw [fd_of hd9, y3, z1]; rfl
          · rw [fd_of hd9, y4, r55, f5i]; rfl
        · exact absurd y1 y3
      · rcases m11 with ⟨y3, _⟩ | ⟨_, y3, y4⟩
        · exact absurd y3 y1
        · refine Or.inl ⟨y2, ?_⟩
          rw [fd_of hd9, y3]; rfl
    · rw [fd9 3 (by decide), fd_of m9, r51, f5t]; rfl
end NV
