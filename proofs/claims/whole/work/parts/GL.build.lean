/-! BUILD: both have parsed, declared and checked. -/
/-- a program that is built: all is declared, all bodies are checked, their code is there -/
def BLT (L : Nat) (xs : Nat → Int32) (w P : Nat) (h' : rm_H) (s' : rS) : Prop := ∃ (cx : Nat → Nat) (C Sc : Nat) (pt vr : Int32) (mv : Value) (hD hK : rm_H) (sD : rS) (nk gn : Nat) (kl ml : List Nat) (u : Nat → Nat) (b : Int32) (A B : Nat → Int32), cx 8 = P ∧ DCX L xs w cx hD sD nk gn kl ml ∧ (pt = s'.1 24 ∧ vr = s'.1 25 ∧ mv = va_rf (kO kl (kF (sD.2.2 62) 1298229614 kl.length 0))) ∧ CI L xs cx C Sc pt vr mv hD hK sD gn ml (uB cx) ml.length h' s' 0 b u A B
section BLD
variable {L : Nat} {xs : Nat → Int32} {zf : Value} {w j j2 n m p bq : Nat} {h : rm_H} {s : rS} {ml0 : Int32} {f : Nat → Int32} {fs : List Value}
theorem r_endf {S : rS} {k : Nat} (hw : 1 ≤ w) (h57 : S.1 57 ≠ 0) : s294_142 (rM w k) w S = s294_170 (rM w k) w S := by
  unfold s294_142
  obtain ⟨w', rfl⟩ : ∃ w', w = w' + 1 := ⟨w - 1, by omega⟩
  rw [s294_144]
  by_cases c : mx_f2 .ge 0 (S.1 42) = true
  · exact itq c rfl
  · exact inq c (itq (by rw [f1_ne]; exact decide_eq_true h57) rfl)
theorem c_endf {D : dD} {P : Nat} {h : rm_H} {vs : List Value} {a : Int32} (e : hc h P = some (.inr (4, vs))) (e7 : vs[7]? = some (.int a)) (ha : a ≠ 0) : b43_59 L xs zf D w (some 21) (some P) h = b43_81 L xs zf D w (some 21) (some P) h := by
  unfold b43_59
  refine bsq (hc_gI e e7 (by decide)) (itq ?_ rfl)
  rw [f1_ne]
  exact decide_eq_true ha
theorem pos_mn {S : Int32 → Int32 → Prop} {a b : Int32} (e : mn S a b) (ha : a ≠ 0) : 0 < a.toInt := by
  rcases e with ⟨z, _⟩ | ⟨_, z, _⟩
  · exact absurd z ha
  · exact z
/-- both have parsed, declared and checked: the same fault, or a program that is built -/
theorem b_bodies (hB : hc h 21 = some (.inr (0, fs))) (h0 : fs[0]? = some (.ref p)) (hS : sB h p bq n m ml0 f) (hn : n ≤ 2000) (hw : 4600 ≤ w) (ua : uA h) (h2 : s.1 2 = Int32.ofNat n) (tx : ∀ i, i < n → s.2.1 37 i = f i &&& 255) (hwd : wdR (s.2.2 39)) : ∃ (h' : rm_H) (s' s1 sp sD : rS) (a b : Int32) (vs : List Value), b43_0 L xs zf (dM L xs zf w (255 + j)) w (some 21) h = b43_81 L xs zf (dM L xs zf w (255 + j)) w (some 21) (some (21 + h.length)) h' ∧ s294_0 (rM w (254 + j2)) w s = s294_170 (rM w (254 + j2)) w s' ∧ hc h' (21 + h.length) = some (.inr (4, vs)) ∧ vs[7]? = some (.int a) ∧ vs[8]? = some (.int b) ∧ s'.1 57 = a ∧ s'.1 58 = b ∧ (a ≠ 0 → 0 < a.toInt) ∧ (a = 0 → b = -1) ∧ rB1 s s1 n ∧ rKd s1 sp 0 0 0 0 ∧ dJ sp sD ∧ rK sD s' ∧ fr (fun q => 21 + h.length ≤ q ∨ ∃ ci fs, hc h q = some (.inr (ci, fs)) ∧ (ci = 4 ∨ ci = 10 ∨ ci = 11)) h h' ∧ (∃ g0 g2 g6 : Nat, h'.length ≤ h.length + 16 + 11 * g0 + g6 ∧ zh h' ≤ zh h + 3240 + 4 * n + 4 * g2 + 104 * g0 + 8 * g6 ∧ g0 ≤ 2000 ∧ g0 ≤ n + 1 ∧ g6 ≤ 1010 ∧ g2 ≤ 2 * (g0 + g6) + 10 ∧ (n = 0 → g6 = 0)) ∧ (a = 0 → ∃ x10 ar cap ml, vs[2]? = some (.ref x10) ∧ aL h' x10 ar cap ml ∧ BLT L xs w (21 + h.length) h' s' ∧ ∃ x9 ar9 cap9 kl, vs[1]? = some (.ref x9) ∧ aL h' x9 ar9 cap9 kl ∧ s'.1 32 = Int32.ofNat kl.length) := by
  obtain ⟨h1, s1, hp, sp, g, ts, cx, F, N, e1, e2, rb1, ⟨rkd, ntk⟩, ⟨c6, c7, c8, c9, c10, c11, c12, c13, c14⟩, l1, f0, a12, a13, l2, l3, z3, g0, g6, g0n, cs⟩ := b_parse (L := L) (xs := xs) (zf := zf) (w := w) (k := 53 + j) (k2 := 152 + j2) hB h0 hS hn (by omega) ua h2 tx hwd
  rw [show 202 + (53 + j) = 255 + j from by omega] at e1
  rw [show 102 + (152 + j2) = 254 + j2 from by omega] at e2
  have fP : fr (fun q => 21 + h.length ≤ q ∨ ∃ ci fs, hc h q = some (.inr (ci, fs)) ∧ (ci = 4 ∨ ci = 10 ∨ ci = 11)) h hp := fr_mono f0 (fun _ _ z => z.elim)
  have lh : h.length ≤ hp.length := by omega
  rcases cs with ⟨kl, ml, a9, c9', a10, c10', sy, l8, n0, e32, e9, o9, e10, o10, kj⟩ | ⟨s57, s58, _, pt, vr, hP⟩
  · -- the text is right
    obtain ⟨⟨p0, _, rt, ch, ⟨_, q10, q26, _⟩, b1, _, b3, b4⟩, sg6, tsi⟩ := id sy
    have hPp : hc hp (21 + h.length) = some (pgC cx (sp.1 24) (sp.1 25)) := by rw [← c8]; exact ch.1
    have x3 : sp.1 3 = Int32.ofNat (cx 6) := by rw [rkd.1 3 (by decide) (by decide) (by decide) (by decide) (by decide) (by decide) (by decide) (by decide) (by decide) (by decide) (by decide) (by decide), rb1.1.1, c6]
    obtain ⟨hD, sD, a, b, d1, d2, i, jj, hPD, s57, s58, mm, dcl⟩ := b_decl (L := L) (xs := xs) (zf := zf) (w := w) (k := 248 + j) (k2 := 250 + j2) sy g0 l8 n0 e32 e9 e10 kj (by omega) x3 (by omega)
    rw [show 248 + j + 7 = 255 + j from by omega] at d1
    rw [show 250 + j2 + 4 = 254 + j2 from by omega] at d2
    rw [c8] at d1 hPD
    have lD : hD.length = hp.length := i.1
    have fD : fr (fun q => 21 + h.length ≤ q ∨ ∃ ci fs, hc h q = some (.inr (ci, fs)) ∧ (ci = 4 ∨ ci = 10 ∨ ci = 11)) h hD := fr_trans fP i.2.2.1 (fun q hq z => by
      obtain ⟨ci, gs, z1, z2⟩ := z
      obtain ⟨gs0, z3⟩ := fr_back f0 z1 hq
      exact Or.inr ⟨ci, gs0, z3, z2⟩)
    have cl : b43_0 L xs zf (dM L xs zf w (255 + j)) w (some 21) h = b43_59 L xs zf (dM L xs zf w (255 + j)) w (some 21) (some (21 + h.length)) hD := by
      rw [e1]
      unfold bR
      refine bsq (a := hp) rfl (bsq (hc_gI hPp rfl (by decide)) (inq (by decide) (bsq (a := hD) ?_ rfl)))
      rw [hc_v hPp (by decide), d1]
      rfl
    have rf : s294_0 (rM w (254 + j2)) w s = s294_142 (rM w (254 + j2)) w sD := by
      rw [e2]
      unfold rR
      have p57 : sp.1 57 = 0 := by
        obtain ⟨⟨_, ⟨q1, _⟩, _⟩, _⟩ := sy
        exact q1
      refine bsq (a := sp) rfl (inq (by rw [p57]; decide) (bsq (a := sD) ?_ rfl))
      rw [d2]
      rfl
    by_cases ha : a = 0
    · subst ha
      obtain ⟨nb, nf⟩ : b = -1 ∧ ∀ x y, ¬ dSR sp kl.length ml.length (g 5) (g 4) x y := by
        rcases mm with ⟨_, z1, z2⟩ | ⟨_, z1, _⟩
        · exact ⟨z1, z2⟩
        · rw [i0] at z1
          omega
      obtain ⟨kj1, kj2, kj3, ff0, np, kj4, kj5, kj6, kj7, kj8, kj9⟩ := kj
      obtain ⟨_, kq2, kq3, kq4, kq5⟩ := kj3 n0
      have pd : PDX L xs (gu cx 20 (21 + hD.length)) hp sp g ts kl ml hD sD := ⟨i, jj, nf, dcl, tsi, q26, by omega, l8, by omega, by omega, rfl⟩
      have tk : nTk sD ∧ sD.1 10 = Int32.ofNat (g 4) := by
        have t := ntk sy.1.2.1.1
        unfold nTk at t ⊢
        rw [jj.1 10 (by decide) (by decide), jj.1 56 (by decide) (by decide), show sD.2.1 52 = sp.2.1 52 from dj_r jj (by decide)]
        exact ⟨t, q10⟩
      have dc : DCX L xs w (gu cx 20 (21 + hD.length)) hD sD kl.length (g 4) kl ml := DCX_of pd n0 ⟨21 + h1.length, ff0, np, kj2, kq3, kq5, ⟨kq2, kq4⟩, kj4, kj9, by show cx 8 < _; omega⟩ ⟨a9, c9', e9⟩ ⟨a10, c10', e10⟩ e32 hw tk
      have arr : ∀ q, hc hp q = some (iN0 64) → hc hD q = some (iN0 64) := fun q e => fr_old i.2.2.1 e (fun z => by
        obtain ⟨ci, gs, z1, _⟩ := z
        rw [e] at z1
        cases z1)
      obtain ⟨hK, i', h', s', a', b', u', A', B', q1, q2, q3, q4, q5, q6⟩ := j_chk (zf := zf) (j := j) (j2 := j2) (b := b) dc (show hc hD (cx 8) = some (pgD cx _ _ _ 0 b) by rw [c8]; exact hPD) (show hc hD (cx 12) = some (iN0 64) by rw [c12]; exact arr _ a12) (show hc hD (cx 13) = some (iN0 64) by rw [c13]; exact arr _ a13) (show cx 12 ≠ cx 13 by omega) (show cx 8 ≤ cx 12 ∧ cx 8 ≤ cx 13 by omega) s57 (s58.trans nb) nb
      rw [show gu cx 20 (21 + hD.length) 8 = 21 + h.length from c8] at q1
      obtain ⟨⟨k1, k2, k3, k4, ⟨k5, k5b⟩, k6⟩, t57, ⟨t58, t58b⟩, gg, ff, rk, ⟨wk, _⟩, _, ⟨_, ub2, _⟩, _⟩ := id q3
      have t58' : s'.1 58 = b' := by
        by_cases za : a' = 0
        · rw [t58b za, k5b za]
        · exact (t58 za).1
      obtain ⟨v1, v2, v3, k2⟩ : ∃ v1 v2 v3, hc h' (21 + h.length) = some (pgK cx v1 v2 v3 a' b' (u' 3) (u' 4) (u' 2)) := by rw [← c8]; exact ⟨_, _, _, k2⟩
      refine ⟨h', s', s1, sp, sD, a', b', _, ?_, rf.trans q2, k2, rfl, rfl, t57, t58', fun za => (t58 za).2, k5b, rb1, rkd, jj, rk, fr_trans fD ff (fun q hq z => Or.inl (by have z : cx 8 ≤ q := z; omega)), ⟨g 0, g 2, g 6, ?_, ?_, g0, g0n, g6⟩, fun z0 => ?_⟩
      · rw [cl]
        unfold b43_59
        exact bsq (hc_gI hPD rfl (by decide)) (inq (by decide) q1)
      · have w4 : 32 * h'.length + 64 ≤ 32 * hK.length + u' 1 := wk.2.2.2.1
        have k62 := k6.2.1
        omega
      · have w3 : zh h' + 4 * 64 = zh hK + 4 * u' 1 := wk.2.2.1
        have k62 := k6.2.1
        have zD : zh hD = zh hp := i.2.1
        omega
      · have ei := q4 z0
        subst z0
        rw [ei] at q3
        refine ⟨cx 10, a10, c10', ml, rfl, gg.1.2.1 _ _ _ _ (dI_aL i e10), ⟨gu cx 20 (21 + hD.length), _, _, _, _, _, _, _, _, _, _, _, _, _, _, _, _, (show cx 8 = 21 + h.length from c8), dc, ⟨by rw [rk.1 24 (by omega), jj.1 24 (by decide) (by decide)], by rw [rk.1 25 (by omega), jj.1 25 (by decide) (by decide)], by rw [jj.2.2]⟩, q3⟩, cx 9, a9, c9', kl, rfl, gg.1.2.1 _ _ _ _ (dI_aL i e9), ?_⟩
        rw [rk.1 32 (by omega), jj.1 32 (by decide) (by decide)]
        exact e32
    · refine ⟨hD, sD, s1, sp, sD, a, b, _, cl.trans (c_endf hPD rfl ha), rf.trans (r_endf (by omega) (by rw [s57]; exact ha)), hPD, rfl, rfl, s57, s58, fun _ => pos_mn mm ha, fun z => absurd z ha, rb1, rkd, jj, rK_refl, fD, ⟨g 0, g 2, g 6, by omega, by have zD : zh hD = zh hp := i.2.1; omega, g0, g0n, g6⟩, fun z => absurd z ha⟩
  · -- it is not
    rw [c8] at hP
    refine ⟨hp, sp, s1, sp, sp, 1, sp.1 58, _, ?_, ?_, hP, rfl, rfl, s57, rfl, fun _ => by decide, fun z => absurd z (by decide), rb1, rkd, ⟨fun _ _ _ => rfl, fun _ _ _ => rfl, rfl⟩, rK_refl, fP, ⟨g 0, g 2, g 6, by omega, by omega, g0, g0n, g6⟩, fun z => absurd z (by decide)⟩
    · rw [e1]
      unfold bR
      exact bsq (a := hp) rfl (bsq (hc_gI hP rfl (by decide)) (itq (by decide) (c_endf hP rfl (by decide))))
    · rw [e2]
      unfold rR
      refine bsq (a := sp) rfl (itq (by rw [s57]; decide) (r_endf (by omega) (by rw [s57]; decide)))
end BLD
