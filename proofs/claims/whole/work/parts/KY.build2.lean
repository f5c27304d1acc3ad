/-! BUILD, OVER THE INVARIANT. -/
section OBC
variable {L : Nat} {xs : Nat → Int32} {zf : Value} {w k j : Nat} {h h' h1 : rm_H} {s s' : rS} {bp cd : Option Nat} {fn fp : Int32} {b0 n0 m0 b m n y : Nat} {cdv : Value} {sg : cS}
theorem adr_ze (x : Nat) : adr (sZe sg) x = adr sg x := rfl
theorem Zr_ze : Zr n (sZe sg) y ↔ Zr n sg y := Iff.rfl
theorem ob_build (hw : 10000 ≤ w) : lw_ob L xs zf w (k + 400) (iNV L xs) 43 294 [] := by
  intro j h s hj y r
  obtain ⟨bp, fn, fp, b0, n0, m0, b, m, cd, n, sg, ial, bu⟩ := y
  have zc := fun y (z : Zb (zX b0 n sg) b y) => zC_of ial r z
  obtain ⟨t, a2, a3, a4, ⟨c, st, dep, mk, sa, sc, sn, o1, o2, o3, o4, o5⟩, a6, ⟨w1, w2, w3, w4⟩, rn⟩ := id ial
  have h21 := iNV_21 t
  obtain ⟨ml0, f0, t1, t2, t3, t4, t5⟩ := id t
  have h94 := t1.2.2.2
  have hb0 := t1.2.2.1
  obtain ⟨h30, h33, h34, h35, s111, nt, mlt, ft, hS, hl⟩ := id o1
  have hW := RH_wd (x := 0) w1 (by decide)
  obtain ⟨v, a, b', h1, h', s1, sp, sD, s2, s', ml', ml2', e1, e2, e3, e4, e5, e6, e7, e8, e9, e10, e11, ⟨g0, g2, g6, e12, e13, e14, e15, e16⟩, e17, e18, e19, e20, e21, e22, e23, e24, e25⟩ := b_build (L := L) (xs := xs) (zf := zf) (w := w) (j := k + 144) (j2 := k + 145) h21 t1.2.1 hW h30 hS (by decide) t2 (by omega) a4 t3 t4 a3
  have u' : uA h' := uA_build (j := k + 144) (s := s) h21 rfl t1.2.1 t2 (by omega) a4 t3 t4 a3 e1
  have zc' : zh h' ≤ zh h + (if n0 = 0 then 11500 else 19560 + 116 * n0) := by
    by_cases z : n0 = 0
    · rw [if_pos z]
      have := e16.2.2 z
      omega
    · rw [if_neg z]
      omega
  rw [show 256 + (k + 144) = k + 400 from by omega] at e1
  rw [show 255 + (k + 145) = k + 400 from by omega] at e2
  -- what stays
  have k1 : ∀ y c, hc h y = some c → (∀ ci fs, c = .inr (ci, fs) → ci ≠ 4 ∧ ci ≠ 10 ∧ ci ≠ 11) → hc h1 y = some c := fun y c e q => by
    rw [e11.2.1 y (hc_lt e) (fun z => ?_)]
    · exact e
    · rcases z with z | ⟨ci, fs, z1, z2⟩
      · have := hc_lt e
        omega
      · rw [e] at z1
        cases z1
        have := q ci fs rfl
        omega
  have k2 : ∀ y c, hc h y = some c → (∀ ci fs, c = .inr (ci, fs) → 12 ≤ ci) → hc h' y = some c := fun y c e q => e8 y c (k1 y c e (fun ci fs z => by have := q ci fs z; omega)) (fun ci fs z => by have := q ci fs z; omega)
  have zc1 : ∀ y, Zb (zX b0 n sg) b y → y < 21 + h.length ∧ ∃ c, hc h1 y = some c ∧ nPg c := fun y z => by
    obtain ⟨q1, c, q2, q3⟩ := zc y z
    exact ⟨q1, c, k1 y c q2 (fun ci fs z => by have := q3.1 ci fs z; omega), q3⟩
  have z5 := iZ_5 w2 hb0 o4
  -- the reference's numbers
  have I : ∀ p, p = 2 ∨ p = 72 ∨ p = 74 ∨ p = 111 → s'.1 p = s1.1 p := fun p hp => by
    have q : s2.1 p = s1.1 p := by
      rw [e24.1 p (by omega), e23.1 p (by omega) (by omega)]
      exact e22.1 p (by omega) (by omega) (by omega) (by omega) (by omega) (by omega) (by omega) (by omega) (by omega) (by omega) (by omega) (by omega)
    rw [e20]
    split
    · rw [w_ne _ _ (by omega)]; exact q
    · exact q
  have i73 : s2.1 73 = 0 := by
    rw [e24.1 73 (by omega), e23.1 73 (by omega) (by omega)]
    rw [e22.1 73 (by omega) (by omega) (by omega) (by omega) (by omega) (by omega) (by omega) (by omega) (by omega) (by omega) (by omega) (by omega)]
    exact e21.1.2.2.2.2.2.1
  have r39 : s2.2.2 39 = s.2.2 39 := by
    rw [e24.2.2 39 (by decide), e23.2.2]
    rw [e22.2.2.2.2.2.1 39 (by decide) (by decide) (by decide) (by decide) (by decide) (by decide)]
    exact e21.2.2.2.2.2 39 (by decide)
  have r39' : s'.2.2 39 = s.2.2 39 := by
    rw [e20]
    split
    · exact r39
    · exact r39
  have i57 : s'.1 57 = a ∧ s'.1 58 = b' := by
    rw [e20]
    split
    · exact ⟨by rw [w_ne _ _ (by decide)]; exact e17, by rw [w_ne _ _ (by decide)]; exact e18⟩
    · exact ⟨e17, e18⟩
  have i111 : s'.1 111 = 0 := (I 111 (by omega)).trans e21.1.2.2.2.1
  have i74 : s'.1 74 = 0 := (I 74 (by omega)).trans e21.1.2.2.1
  -- the World
  have rh' : RH (va_rf none) n (sZe sg) (Zr n (sZe sg)) h' h' := by
    refine ⟨fr_refl _ _, fun x hx => ⟨?_, Or.inl ⟨x, hx, rfl⟩⟩, w1.2.2.1, w1.2.2.2⟩
    by_cases x0 : x = 0
    · subst x0
      exact e5
    · have q := (w1.2.1 x hx).1
      have eq : vcl (va_rf none) n (sZe sg) x = vcl (va_rf cd) n sg x := by
        unfold vcl
        split
        · unfold vW
          split
          · exact absurd rfl x0
          all_goals rfl
        · rfl
      rw [eq]
      refine k2 _ _ q (fun ci fs z => ?_)
      unfold vcl at z
      split at z
      · unfold vW at z
        split at z
        · exact absurd rfl x0
        all_goals cases z
      · unfold vA at z
        split at z
        · cases z; decide
        all_goals cases z
  have ot' : oTx h' s' b m 0 (st + 1) dep mk sa sc := by
    refine ⟨e6, k2 33 _ h33 (fun _ _ z => by cases z), k2 34 _ h34 (fun _ _ z => by cases z), k2 35 _ h35 (fun _ _ z => by cases z), i111, 0, ml2', ft, e7, by decide, ?_, ?_, fun i hi => absurd hi (by omega)⟩
    · rw [i111]; decide
    · rw [i111]; decide
  have hl' : h.length ≤ h'.length := by rw [e9]; exact e11.1
  have itx : ∀ bp', (if a = 0 then Value.ref (21 + h.length) else .null) = va_rf bp' → iTx h' s' bp' a b' b0 0 m0 := fun bp' eb => by
    rw [eb] at e3
    refine ⟨ml', f0, ⟨hc_at e3, e4, hb0, by omega⟩, by omega, (I 2 (by omega)).trans e21.1.2.1, fun i hi => absurd hi (by omega), t5⟩
  have hF : iF a b' s' := ⟨fun z => by rw [(I 72 (by omega)).trans e21.1.2.2.2.2.1] at z; exact absurd z (by decide), fun _ => ⟨i57.1.symm, i57.2.symm⟩⟩
  have bud' : bud (j + 1) h' 0 m0 m n (sZe sg) := by
    obtain ⟨u1, u2⟩ := bu
    have pe : pot n (sZe sg) = pot n sg := pot_e n (fun _ _ => rfl)
    refine ⟨by rw [pe, e9]; omega, ?_⟩
    rw [pe, if_pos rfl]
    by_cases z : n0 = 0
    · rw [if_pos z] at zc' u2
      omega
    · rw [if_neg z] at zc' u2
      omega
  have rsk : RS h' s := RS_k (fun y y1 y2 => by
    obtain ⟨_, c0, q1, q2⟩ := zc y (Or.inl (Or.inr (Or.inr (Or.inr ⟨y1, y2⟩))))
    rw [q1]
    refine k2 y c0 q1 (fun ci fs z => ?_)
    subst z
    by_cases q : y = 36
    · rw [q] at q1
      have q3 := hc_of (p := 36) (by decide) r.1
      rw [q1] at q3
      cases q3
      decide
    · have q3 := hc_of (p := y) (by omega) (r.2 y (by omega) (by omega))
      rw [q1] at q3
      cases q3) r
  have fin : ∀ bp', (if a = 0 then Value.ref (21 + h.length) else .null) = va_rf bp' → iRn L xs h' s' (Zb (zX b0 n (sZe sg)) b) bp' (va_rf none) n (sZe sg) (j + 1) → ∃ (v : Int32) (h1 : rm_H) (s1 : rS), dM L xs zf w (k + 400) 43 [.ref 21] h = some (some (.int v), h1) ∧ RS h1 s ∧ rM w (k + 400) 294 [.ref 36] s = some (some (.int v), s1) ∧ ∀ h2, RS h2 s1 → Fr h1 h2 → iNV L xs (j + 1) h2 s1 := fun bp' eb rn' => by
    refine ⟨v, h', s', e1, rsk, e2, fun h2 r2 f2 => iNV_F f2 r2 ⟨bp', a, b', b0, 0, m0, b, m, none, n, sZe sg, ⟨itx bp' eb, hF, by rw [r39']; exact a3, u', ⟨0, st + 1, dep, mk, sa, sc, sn + 1, ot', (cMk_n o2 (by omega)).1, by omega, o4, o5⟩, a6, ⟨rh', w2, w3, fun _ q q1 q2 => if_pos ⟨q1, q2⟩⟩, rn'⟩, bud'⟩⟩
  by_cases ha : a = 0
  · have bl := e25 ha
    have zd := zDj_of zc1 z5
    obtain ⟨A, B, mi, kc, es, sz, kk, mm, stq⟩ := stQ_of bl zd (by rw [r39]; exact a3)
    have stq' := stQ_m (h2 := h') (Z2 := Zb (zX b0 n sg) b) z5 (fun y c e nz => ⟨e8 y c e (fun ci fs z => by
      refine Decidable.byContradiction (fun q => nz (Or.inr ⟨ci, fs, by rw [← z]; exact e, by omega⟩))), fun z => nz (Or.inl z)⟩) stq
    refine fin (some (21 + h.length)) (if_pos ha) (Or.inr ⟨21 + h.length, s2, A, B, mi, kc, es, sz, kk, mm, rfl, ?_, ?_, ?_, stq', Or.inl i74⟩)
    · rw [e20, if_pos ha]; exact w_eq _ _ _
    · rw [e20, if_pos ha]; exact ⟨fun _ _ => rfl, fun _ _ => rfl⟩
    · intro p hp
      rw [e20, if_pos ha, w_ne _ _ (by omega)]
  · exact fin none (if_neg ha) (Or.inl ⟨rfl, by rw [e20, if_neg ha]; exact i73, i74⟩)
end OBC
