/-! BOTH CHECK: methods looked up; what may be called. -/
section JMT
variable {L : Nat} {xs : Nat → Int32} {zf : Value} {w C Sc M Pl Ph LO HI nk m lv n p q i d lo hi k k2 z W ke kr K l τ px q0 q1 M' m' kk : Nat} {cx : Nat → Nat} {hB h h1 h2 : rm_H} {s0 s s1 s2 : rS} {pt vr gn gn1 a b a1 b1 x y rc t v : Int32} {mv : Value} {ds kl ml es ns ts qs : List Nat} {G : List scN} {u u1 u2 : Nat → Nat} {A B A1 B1 : Nat → Int32} {c : Int64} {X : scN} {f : Nat → Int64} {sl ty : Nat → Int32}
/-- both look a method up -/
theorem ml_look (j0 : JE L xs cx hB s0 nk kl ml) (bh : bH L xs hB h) (hK : kl[kk]? = some K) (hq : nS L xs h q c) (rk : rK s0 s) (hw : 200 ≤ w) (x : Int32) : (∃ M' m', (dcV L xs (dM L xs zf w (k + 4)) 156 [9] (some K) [va_rf (some q), .int x] h).bind dxR = some (some M', h) ∧ rM w (k2 + 1) 364 [.ref 36, .int (Int32.ofNat kk), .int x, .long c] s = some (some (.int (Int32.ofNat m')), s) ∧ mtT s0 kk x c m' ∧ mJ L xs hB s0 nk M' m' ∧ s0.2.1 70 m' = x ∧ (s0.2.1 66 kk = 1 → x = 1 → s0.2.1 72 m' = 2)) ∨ ((dcV L xs (dM L xs zf w (k + 4)) 156 [9] (some K) [va_rf (some q), .int x] h).bind dxR = some (none, h) ∧ rM w (k2 + 1) 364 [.ref 36, .int (Int32.ofNat kk), .int x, .long c] s = some (some (.int (-1)), s)) := by
  have k8 : kk < 8 := by
    have := (List.getElem?_eq_some_iff.mp hK).1
    have := j0.2.1
    have := j0.2.2.1
    omega
  obtain ⟨_, _, _, mk, l', ar', cap', ms, m0, g, k1, k2', k3, k4, k5, k6, k7, k8', k9, k10, k11, k12⟩ := j0.2.2.2.2 kk K hK
  have mL' : mL L xs h l' ar' cap' ms (fun i => s0.2.2 78 (m0 + 1 + i)) (fun i => s0.2.1 70 (m0 + 1 + i)) g (m0 + 1) := by
    refine ⟨bh.1.2.1 _ _ _ _ k6.1, k6.2.1, k6.2.2.1, fun i d hd => ?_⟩
    obtain ⟨⟨nq, z1, z2⟩, z3, z4, z5⟩ := k6.2.2.2 i d hd
    exact ⟨⟨nq, bh.2.2 _ _ _ z1, bh.1.2.2.1 _ _ z2⟩, bh.2.2 _ _ _ z3, bh.2.2 _ _ _ z4, bh.2.2 _ _ _ z5⟩
  have cf := c_fm (zf := zf) (w := w) (k := k) (x := x) (bh.2.1 _ _ _ k1) mL' hq hw
  have rf := r_364 (w := w) (k := k2) (c := c) (s := s) k8 (by rw [rk_A rk (by decide)]; exact k3) (by rw [rk_A rk (by decide)]; exact k4) (by omega) (by omega) x hw
  rw [rk.2.2 78 (by decide), rk.2.1 70 (by decide) (by decide) (by decide) (by decide) (by decide), show m0 + 1 + ms.length - (m0 + 1) = ms.length from by omega, kG_kF ms.length (m0 + 1) (fun a b a1 a2 b1 b2 e => ?_)] at rf
  · have sh := kF_sh (f := s0.2.2 78) (d := m0 + 1) (c := c) ms.length 0
    rw [Nat.add_zero] at sh
    cases hk : kF (s0.2.2 78) c ms.length (m0 + 1) with
    | none =>
      rw [hk] at rf sh
      rw [sh] at cf
      exact Or.inr ⟨cf, rf⟩
    | some j =>
      obtain ⟨q1, q2, q3, _⟩ := kF_some hk
      rw [hk] at rf sh
      rw [sh] at cf
      have ej : m0 + 1 + (j - (m0 + 1)) = j := by omega
      obtain ⟨d, hd⟩ : ∃ d, ms[j - (m0 + 1)]? = some d := ⟨ms[j - (m0 + 1)]'(by omega), List.getElem?_eq_getElem (by omega)⟩
      have cf : (dcV L xs (dM L xs zf w (k + 4)) 156 [9] (some K) [va_rf (some q), .int x] h).bind dxR = some (if s0.2.1 70 (m0 + 1 + (j - (m0 + 1))) = x then ms[j - (m0 + 1)]? else none, h) := cf
      have rf : rM w (k2 + 1) 364 [.ref 36, .int (Int32.ofNat kk), .int x, .long c] s = some (some (.int (kI (if s0.2.1 70 j = x then some j else none))), s) := rf
      rw [ej, hd] at cf
      by_cases so : s0.2.1 70 j = x
      · rw [if_pos so] at cf rf
        obtain ⟨g1, g2⟩ := k10 _ d hd
        rw [ej] at g1 g2
        exact Or.inl ⟨d, j, cf, rf, ⟨m0, m0 + 1 + ms.length, k3, k4, by omega, by omega, k5, so, q3, JE_kR j0 hK⟩, g1, so, fun z1 z2 => g2 z1 (so.trans z2)⟩
      · rw [if_neg so] at cf rf
        exact Or.inr ⟨cf, rf⟩
  · have := k7 (a - (m0 + 1)) (b - (m0 + 1)) (by omega) (by omega) (by rw [show m0 + 1 + (a - (m0 + 1)) = a from by omega, show m0 + 1 + (b - (m0 + 1)) = b from by omega]; exact e)
    omega
theorem sd_1 : ∀ t, t < 72 → dTy t = true → ((rTp t = 0 ∨ acR (rTp t) = true ∨ (clR (rTp t) = true ∧ (rTp t - rTp t / 8 * 8 = 0 ∨ rTp t - rTp t / 8 * 8 = 3))) ↔ sdT t = true) := by decide +kernel
theorem r_sd {t : Nat} (ht : dTy t = true) : rM w (k + 2) 331 [.int (rTp t)] s = some (some (.int (if sdT t = true then 1 else 0)), s) := by
  rw [r_331]
  have := sd_1 t (gTy_lt (dTy_g ht)) ht
  by_cases c : sdT t = true
  · rw [if_pos (this.mpr c), if_pos c]
  · rw [if_neg (fun z => c (this.mp z)), if_neg c]
/-- all parameters may go over -/
theorem r_359 (rk : rK s0 s) (pm : pmT s0 m' qs) (hm : m' < 72) (lq : qs.length ≤ 6) (hw : 200 ≤ w) : rM w (k + 3) 359 [.ref 36, .int (Int32.ofNat m')] s = some (some (.int (if qs.all sdT = true then 1 else 0)), s) := by
  obtain ⟨p0, p1, p2, p3, p4⟩ := pm
  have g77 : rs_aI s 77 (Int32.ofNat m') = some (Int32.ofNat p0) := (aI_at (i := m') (by decide) rfl (by omega) (by decide)).trans (by rw [rk_A rk (by decide), p1])
  have g771 : rs_aI s 77 (Int32.ofNat m' + 1) = some (Int32.ofNat (p0 + qs.length)) := by
    rw [show Int32.ofNat m' + 1 = Int32.ofNat (m' + 1) from of_add m' 1]
    exact (aI_at (i := m' + 1) (by decide) rfl (by omega) (by decide)).trans (by rw [rk_A rk (by decide), p2])
  have lp : ∀ (r i N : Nat) (v : Bool), i + r = qs.length → r < N → s359_9 (rM w (k + 2)) w N (Int32.ofNat m') (if v = true then 1 else 0) (Int32.ofNat (p0 + i)) s = some (some (.int (if (v && (qs.drop i).all sdT) = true then 1 else 0)), s) := by
    intro r
    induction r with
    | zero =>
      intro i N v er hN
      obtain ⟨N, rfl⟩ : ∃ M, N = M + 1 := ⟨N - 1, by omega⟩
      rw [s359_9, show i = qs.length by omega, List.drop_length]
      refine bsq g771 (itq ?_ ?_)
      · rw [f2_ge]
        exact decide_eq_true (Int.le_refl _)
      · cases v <;> rfl
    | succ r ih =>
      intro i N v er hN
      obtain ⟨N, rfl⟩ : ∃ M, N = M + 1 := ⟨N - 1, by omega⟩
      have hi : i < qs.length := by omega
      have dr : qs.drop i = qs.getD i 0 :: qs.drop (i + 1) := by
        rw [List.drop_eq_getElem_cons hi]
        congr 1
        rw [List.getD_eq_getElem?_getD, List.getElem?_eq_getElem hi]
        rfl
      have tq := p4 i _ (gDx hi)
      obtain ⟨r60, dq⟩ := tyc_r rk tq
      have g81 : rs_aI s 81 (Int32.ofNat (p0 + i)) = some (s0.2.1 81 (p0 + i)) := (aI_at (i := p0 + i) (by decide) rfl (by omega) (by decide)).trans (by rw [rk_A rk (by decide)])
      have nx : Int32.ofNat (p0 + i) + 1 = Int32.ofNat (p0 + (i + 1)) := of_add (p0 + i) 1
      rw [s359_9, dr]
      refine bsq g771 (inq ?_ ?_)
      · rw [f2_ge, of_int (by omega), of_int (by omega)]
        simp
        omega
      · cases v with
        | false =>
          refine itq (by decide) ?_
          unfold s359_46 s359_47
          rw [nx]
          exact ih (i + 1) N false (by omega) (by omega)
        | true =>
          refine inq (by decide) (bsq g81 (bsq r60 (bsq (a := (if sdT (qs.getD i 0) = true then 1 else 0, s)) (by rw [r_sd (k := k) dq]; rfl) ?_)))
          dsimp only
          by_cases c : sdT (qs.getD i 0) = true
          · rw [if_pos c, if_neg (by decide)]
            unfold s359_47
            rw [nx]
            have := ih (i + 1) N true (by omega) (by omega)
            rw [List.all_cons, c]
            exact this
          · rw [if_neg c, if_pos (by decide)]
            unfold s359_46 s359_47
            rw [nx]
            have := ih (i + 1) N false (by omega) (by omega)
            have cf : sdT (qs.getD i 0) = false := by
              cases hh : sdT (qs.getD i 0)
              · rfl
              · exact absurd hh c
            rw [List.all_cons, cf]
            exact this
  rw [y359]
  show s359_0 (rM w (k + 2)) w (Int32.ofNat m') s = _
  unfold s359_0
  refine bsq g77 ?_
  have := lp qs.length 0 w true (by omega) (by omega)
  rw [List.drop_zero, Bool.true_and] at this
  exact this
/-- the result's type, 0 for none -/
theorem r_365 {tr : Nat} (rk : rK s0 s) (pm : pmT s0 m' qs) (hm : m' < 72) (lq : qs.length ≤ 6) (hr : (s0.2.1 75 m' = -1 ∧ tr = 0) ∨ (tyc s0 (s0.2.1 75 m') tr ∧ tr ≠ 0)) (hw : 200 ≤ w) : rM w (k + 4) 365 [.ref 36, .int (Int32.ofNat m')] s = some (some (.int (if (qs.all sdT && (decide (tr = 0) || sdT tr)) = true then 1 else 0)), s) := by
  have g75 : rs_aI s 75 (Int32.ofNat m') = some (s0.2.1 75 m') := (aI_at (i := m') (by decide) rfl (by omega) (by decide)).trans (by rw [rk_A rk (by decide)])
  rw [y365]
  show s365_0 (rM w (k + 3)) w (Int32.ofNat m') s = _
  unfold s365_0
  refine bsq (a := (if qs.all sdT = true then 1 else 0, s)) (by rw [r_359 (k := k) rk pm hm lq hw]; rfl) ?_
  dsimp only
  cases hq : qs.all sdT with
  | false =>
    exact itq (by decide) rfl
  | true =>
    refine inq (by decide) ?_
    refine bsq g75 ?_
    rcases hr with ⟨h1, h2⟩ | ⟨h1, h2⟩
    · rw [h1, h2]
      rfl
    · obtain ⟨r60, dq⟩ := tyc_r rk h1
      have ne : ¬ mx_f2 .eq (s0.2.1 75 m') (-1) = true := by
        obtain ⟨kk, k1, k2, _⟩ := h1
        rw [k2]
        intro z
        have := congrArg Int32.toInt (of_decide_eq_true z)
        rw [of_int (by omega), show (-1 : Int32).toInt = -1 from by decide] at this
        omega
      rw [if_neg ne]
      refine bsq g75 (bsq r60 (bsq (a := (if sdT tr = true then 1 else 0, s)) (by rw [r_sd (k := k + 1) dq]; rfl) ?_))
      dsimp only
      rw [decide_eq_false h2]
      cases hh : sdT tr with
      | true => rfl
      | false => rfl
end JMT
