/-! BUILD by both: the same answer. -/
section BBO
variable {L : Nat} {xs : Nat → Int32} {zf : Value} {w j j2 p n m bq : Nat} {h : rm_H} {s : rS}
theorem r_bend {S : rS} {k c : Nat} {a : Int32} (h57 : S.1 57 = a) (hp : a ≠ 0 → 0 < a.toInt) (h32 : a = 0 → S.1 32 = Int32.ofNat c) : s294_170 (rM w k) w S = some (some (.int (if a = 0 then Int32.ofNat c else -1)), if a = 0 then rs_w S 73 1 else S) := by
  unfold s294_170
  by_cases ha : a = 0
  · rw [if_pos ha, if_pos ha]
    refine itq (by rw [h57, ha]; decide) (bsq (a := rs_w S 73 1) rfl ?_)
    rw [w_ne _ _ (by decide), h32 ha]
    rfl
  · rw [if_neg ha, if_neg ha]
    exact inq (le_ps (by rw [h57]; exact hp ha)) rfl
theorem b_build {W T p2 b2 n2 m2 : Nat} {ml0 ml2 x4 x5 y4 y5 : Int32} {f f2 : Nat → Int32} {v3 t1 t2 t3 t6 w0 w1 w2 w3 w4 w5 w6 w7 w8 w9 w10 w11 w12 w13 w14 w15 : Value} (h21 : hc h 21 = some (.inr (0, [.ref p, .ref W, .ref T, v3, .int x4, .int x5]))) (hS : sB h p bq n m ml0 f) (hW : hc h W = some (.inr (2, [w0, w1, w2, w3, w4, w5, w6, w7, w8, w9, w10, w11, w12, w13, w14, w15]))) (hT : hc h T = some (.inr (3, [.ref p2, t1, t2, t3, .int y4, .int y5, t6]))) (hS2 : sB h p2 b2 n2 m2 ml2 f2) (hpp : p ≠ p2) (hn : n ≤ 2000) (hw : 4600 ≤ w) (ua : uA h) (h2 : s.1 2 = Int32.ofNat n) (tx : ∀ i, i < n → s.2.1 37 i = f i &&& 255) (hwd : wdR (s.2.2 39)) : ∃ (v a b : Int32) (h1 h' : rm_H) (s1 sp sD s2 s' : rS) (ml' ml2' : Int32), dM L xs zf w (256 + j) 43 [.ref 21] h = some (some (.int v), h') ∧ rM w (255 + j2) 294 [.ref 36] s = some (some (.int v), s') ∧ hc h' 21 = some (.inr (0, [.ref p, .ref W, .ref T, if a = 0 then .ref (21 + h.length) else .null, .int a, .int b])) ∧ sB h' p bq 0 m ml' f ∧ hc h' W = some (.inr (2, [w0, w1, w2, w3, w4, w5, w6, .null, .int 0, .int 0, .int 0, .int 0, .int 0, .int 0, .int 0, .int 0])) ∧ hc h' T = some (.inr (3, [.ref p2, t1, t2, t3, .int 0, .int (y5 + 1), t6])) ∧ sB h' p2 b2 0 m2 ml2' f2 ∧ kp4 h1 h' ∧ h'.length = h1.length ∧ zh h' = zh h1 ∧ fr (fun q => 21 + h.length ≤ q ∨ ∃ ci fs, hc h q = some (.inr (ci, fs)) ∧ (ci = 4 ∨ ci = 10 ∨ ci = 11)) h h1 ∧ (∃ g0 g2 g6 : Nat, h1.length ≤ h.length + 16 + 11 * g0 + g6 ∧ zh h1 ≤ zh h + 3240 + 4 * n + 4 * g2 + 104 * g0 + 8 * g6 ∧ g0 ≤ 2000 ∧ g0 ≤ n + 1 ∧ g6 ≤ 1010 ∧ g2 ≤ 2 * (g0 + g6) + 10 ∧ (n = 0 → g6 = 0)) ∧ s2.1 57 = a ∧ s2.1 58 = b ∧ (a = 0 → b = -1) ∧ s' = (if a = 0 then rs_w s2 73 1 else s2) ∧ rB1 s s1 n ∧ rKd s1 sp 0 0 0 0 ∧ dJ sp sD ∧ rK sD s2 ∧ (a = 0 → BLT L xs w (21 + h.length) h1 s2) := by
  obtain ⟨h1, s2, s1, sp, sD, a, b, vs, q1, q2, q3, q4, q5, q6, q7, q8, q9, q10, q11, q12, q13, q14, q14b, q15⟩ := b_bodies (L := L) (xs := xs) (zf := zf) (w := w) (j := j) (j2 := j2) h21 rfl hS hn hw ua h2 tx hwd
  have old : ∀ q ci fs, hc h q = some (.inr (ci, fs)) → ci < 4 → ¬ (21 + h.length ≤ q ∨ ∃ ci fs, hc h q = some (.inr (ci, fs)) ∧ (ci = 4 ∨ ci = 10 ∨ ci = 11)) := by
    intro q ci fs e hci z
    rcases z with z | ⟨cj, gs, z1, z2⟩
    · have := hc_lt e
      omega
    · rw [e] at z1
      cases z1
      omega
  have hcp : ∀ {p b n m : Nat} {ml : Int32} {f : Nat → Int32}, sB h p b n m ml f → hc h p = some (.inr (1, [.ref b, .int 0, .int ml, .int (Int32.ofNat n)])) := by
    intro p b n m ml f hS
    unfold hc
    rw [if_pos hS.1]
    exact hS.2.2.2.2.2.2.1
  obtain ⟨c, hcc⟩ : ∃ kl : List Nat, ∃ x9 ar cap, a = 0 → vs[1]? = some (.ref x9) ∧ aL h1 x9 ar cap kl ∧ s2.1 32 = Int32.ofNat kl.length ∧ BLT L xs w (21 + h.length) h1 s2 := by
    by_cases ha : a = 0
    · obtain ⟨_, _, _, _, _, _, bl, x9, ar9, cap9, kl, z1, z2, z3⟩ := q15 ha
      exact ⟨kl, x9, ar9, cap9, fun _ => ⟨z1, z2, z3, bl⟩⟩
    · exact ⟨[], 0, 0, 0, fun z => absurd z ha⟩
  obtain ⟨x9, ar, cap, hcc⟩ := hcc
  obtain ⟨h', ml', ml2', e1, e2, e3, e4, e5, e6, e7, e8, e9⟩ := c_bend (L := L) (xs := xs) (zf := zf) (w := w) (j := j) (x9 := x9) (ar := ar) (cap := cap) (kl := c) (fr_old q14 h21 (old _ _ _ h21 (by decide))) (sB_fr q14 (old _ _ _ (hcp hS) (by decide)) hS) (fr_old q14 hW (old _ _ _ hW (by decide))) (fr_old q14 hT (old _ _ _ hT (by decide))) (sB_fr q14 (old _ _ _ (hcp hS2) (by decide)) hS2) hpp q3 q4 q5 (fun z => ⟨(hcc z).1, (hcc z).2.1⟩)
  refine ⟨if a = 0 then Int32.ofNat c.length else -1, a, b, h1, h', s1, sp, sD, s2, if a = 0 then rs_w s2 73 1 else s2, ml', ml2', ?_, ?_, e2, e3, e4, e5, e6, e7, e8, e9, q14, q14b, q6, q7, q9, rfl, q10, q11, q12, q13, fun z => (hcc z).2.2.2⟩
  · rw [show 256 + j = 255 + j + 1 from by omega, e43]
    exact q1.trans e1
  · rw [show 255 + j2 = 254 + j2 + 1 from by omega, y294]
    exact q2.trans (r_bend q6 q8 (fun z => (hcc z).2.2.1))
end BBO
