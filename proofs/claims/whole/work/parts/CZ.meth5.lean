/-! A METHOD from its name on, by both. -/
section ME
variable {L : Nat} {xs : Nat → Int32} {zf : Value} {w k k2 i m np kk t : Nat} {cx : Nat → Nat} {F : Nat → Nat → Int32} {N : Nat → Int64} {q : List Value} {hb h h' h1 h2 : rm_H} {sb s s' s1 : rS} {gb g g' : Nat → Nat} {tb ts ts' : List Nat} {M K l a10 c10 am cm mlK nm d : Nat} {v : Nat → Int32} {pt vr cv cp : Int32} {fsK : List Value} {ml mks : List Nat} {P : Nat → Prop}
/-- the reference has a method's name -/
def nmS (F : Nat → Nat → Int32) (N : Nat → Int64) (s : rS) (m i : Nat) : rS := rs_wA (rs_wB s 78 m (N i)) 74 m (F 5 i)
theorem x_mt2 (hT : TF cx F N) (hw : 2100 ≤ w) (h14 : cx 14 = 0) (a : OPY P cx F N q 4 17 0 hb sb gb tb h s g ts) (hP : P mlK ∧ P (cx 10) ∧ (21 ≤ am → am < 21 + hb.length → P am) ∧ (21 ≤ a10 → a10 < 21 + hb.length → P a10)) (hg : g 6 ≤ 1900) (hK : hc h K = some (.inr (9, fsK))) (k5 : fsK[5]? = some (.ref mlK)) (em : aL h mlK am cm mks) (hom : ∀ y ∈ mks, oK h y) (e10 : aL h (cx 10) a10 c10 ml) (ho : ∀ y ∈ ml, oK h y) (nm1 : mlK ≠ cx 11) (n10 : cx 10 ≠ cx 11) (nmm : mlK ≠ cx 10) (hml : ml.length ≤ 71) (hmk : mks.length ≤ 100) (hnp : np + 7 < 440) (so : Nat) (hso : so = 1 ∨ so = 2) (hsy : SY cx F N q h s g ts → s.1 52 = Int32.ofNat np ∧ g 4 ≤ g 0 + 1 ∧ s.2.1 75 ml.length = -1 ∧ s.2.1 70 ml.length = Int32.ofNat so ∧ s.2.1 71 ml.length = Int32.ofNat kk ∧ ((so = 2 ∧ cv = 2 ∧ s.2.1 72 ml.length = -1) ∨ (so = 1 ∧ ∃ c, c < 5 ∧ cv = Int32.ofNat c ∧ s.2.1 72 ml.length = Int32.ofNat c ∧ cp = s.2.1 73 ml.length))) : ∃ h' s' g' ts' am' cm' a10' c10', b142_79 L xs zf (dM L xs zf w (200 + k)) w (some (cx 7)) (some K) (Int32.ofNat so) cp cv h = some (none, h') ∧ s314_141 (rM w (99 + k2)) w (Int32.ofNat so) (Int32.ofNat ml.length) s = some (none, s') ∧ OPY P cx F N q 0 (4 * cm + 4 * c10) (4 * cm' + 4 * c10') hb sb gb tb h' s' g' ts' ∧ (g' 6 ≤ 962 ∨ g' 6 ≤ g 6 + 20) ∧ (∃ s7, rMt s7 s' ml.length np ∧ (∀ j, j ≠ 56 → j ≠ 57 → j ≠ 58 → s7.1 j = s.1 j) ∧ (∀ p, p ≠ 74 → s7.2.1 p = s.2.1 p) ∧ (∀ i, i ≠ ml.length → s7.2.1 74 i = s.2.1 74 i) ∧ (∀ p, p ≠ 78 → s7.2.2 p = s.2.2 p) ∧ ∀ i, i ≠ ml.length → s7.2.2 78 i = s.2.2 78 i) ∧ hc h' K = some (.inr (9, fsK)) ∧ aL h' mlK am' cm' (mks ++ [21 + h.length]) ∧ (∀ y ∈ mks ++ [21 + h.length], oK h' y) ∧ aL h' (cx 10) a10' c10' (ml ++ [21 + h.length]) ∧ (∀ y ∈ ml ++ [21 + h.length], oK h' y) ∧ (am' = am ∨ 21 + h.length ≤ am') ∧ (a10' = a10 ∨ 21 + h.length ≤ a10') ∧ (∀ l2 ar2 cap2 es2, l2 ≠ mlK → l2 ≠ cx 10 → l2 ≠ cx 11 → aL h l2 ar2 cap2 es2 → aL h' l2 ar2 cap2 es2) ∧ (SY cx F N q h' s' g' ts' → g 0 < g' 0 ∧ (∃ pl, 22 + h.length ≤ pl ∧ MTR L xs h' s' (g 4) (g' 4) pl (21 + h'.length) ml.length (21 + h.length) kk K ∧ fd h' 11 (21 + h.length) 0 = some (.int (Int32.ofNat so))) ∧ ∃ np', np ≤ np' ∧ np' ≤ np + 6 ∧ s'.1 52 = Int32.ofNat np' ∧ s'.2.1 77 (ml.length + 1) = Int32.ofNat np' ∧ s'.2.1 77 ml.length = Int32.ofNat np) := by
  obtain ⟨v, pt, vr, p0, ch⟩ := sy_pc a.1
  obtain ⟨st1', toS1, toF1, bk1⟩ := st_of (h' := h ++ [.inr (11, ah_DV 11)]) a.1 (fun v pv => pC_ap pv) (fun pt vr c => CH_ap (Or.inl (fun fs z => by cases z)) c) (TSI_ap (fun _ z => by cases z))
  obtain ⟨nm, h6, s6, g6', e1, e2, op, n6, fr6, s6e, y1, y2, y3, y4, y5, y6⟩ := op_word (L := L) (xs := xs) (zf := zf) (w := w) (k := 192 + k) (k2 := 96 + k2) (x := 2) (c := 1) hT (Or.inl ⟨rfl, rfl⟩) st1'
  rw [show 192 + k + 8 = 200 + k from by omega] at e1
  rw [show 96 + k2 + 3 = 99 + k2 from by omega] at e2
  have nl := n_lt hT a.1
  have nl6 := n_lt hT op.1
  have hKl := hc_lt hK
  have M0 : 21 + h.length ≠ cx 0 := by have := hc_lt (pC_r p0); omega
  have K0 : K ≠ cx 0 := fun e => by rw [e, pC_r p0] at hK; cases hK
  have hM6 : hc h6 (21 + h.length) = some (.inr (11, ah_DV 11)) := fr_old fr6 (hc_new _) M0
  have hK6 : hc h6 K = some (.inr (9, fsK)) := fr_old fr6 (hc_up hK) K0
  have l1 : (h ++ [Sum.inr (11, ah_DV 11)] : rm_H).length = h.length + 1 := by rw [List.length_append]; rfl
  have z1 : zh (h ++ [.inr (11, ah_DV 11)]) = zh h + 14 := zh_app h _
  have lk6 : ∀ l2 ar2 cap2 es2, l2 ≠ cx 11 → aL h l2 ar2 cap2 es2 → aL h6 l2 ar2 cap2 es2 := fun l2 ar2 cap2 es2 ne e => aL_op st1' op.2.2.1 (aL_app e) ne
  have ok6 : ∀ y, oK h y → oK h6 y := fun y e => oK_fr fr6 (oK_fr (fr_app (fun _ => False) _) e)
  have st6 : SY cx F N q h6 (nmS F N s6 ml.length (g 0)) g6' ts ∨ FLT cx F N q h6 (nmS F N s6 ml.length (g 0)) g6' ts := op.1.elim (fun u => Or.inl (SY_s3 (s := s6) u.1.2.2.1 rfl (rQ_trans (rQ_B (by omega)) (rQ_A (by omega))) u)) (fun u => Or.inr (FLT_s3 (s := s6) u.2.2.1 rfl u))
  have bk6 : SY cx F N q h6 (nmS F N s6 ml.length (g 0)) g6' ts → SY cx F N q h6 s6 g6' ts := fun u => SY_s3 (s := nmS F N s6 ml.length (g 0)) u.1.2.2.1 rfl (rQ_sym (rQ_trans (rQ_B (by omega)) (rQ_A (by omega)))) u
  obtain ⟨v6, pt6, vr6, p6, ch6⟩ := sy_pc op.1
  obtain ⟨h9, am', cm', a10', c10', m1, m2, m3, m4, m5, m6, m7, m8, m9, m10, m11, m12, m13, m14, m15, m16, m17⟩ := c_meth0 (L := L) (xs := xs) (zf := zf) (w := w) (k := 194 + k) (so := Int32.ofNat so) (cv := cv) (cp := cp) (x8 := v 7) (nm := nm) h14 p6 ch6 hM6 hK6 k5 (lk6 _ _ _ _ nm1 em) (fun y hy => ok6 y (hom y hy)) (lk6 _ _ _ _ n10 e10) (fun y hy => ok6 y (ho y hy)) nm1 n10 nmm ⟨by omega, by omega⟩ (Int32.ofNat ml.length)
  rw [show 194 + k + 6 = 200 + k from by omega] at m1
  have hPd : ∀ d fs, hc h6 d = some (.inr (10, fs)) → ¬ (d = 21 + h.length ∨ d = mlK ∨ (d = am ∧ 21 ≤ d) ∨ d = cx 10 ∨ (d = a10 ∧ 21 ≤ d)) := by
    intro d fs ed u
    rcases u with u | u | u | u | u
    · rw [u, hM6] at ed; cases ed
    · exact aL_10 (lk6 _ _ _ _ nm1 em) d fs ed (Or.inl u)
    · exact aL_10 (lk6 _ _ _ _ nm1 em) d fs ed (Or.inr u.1)
    · exact aL_10 (lk6 _ _ _ _ n10 e10) d fs ed (Or.inl u)
    · exact aL_10 (lk6 _ _ _ _ n10 e10) d fs ed (Or.inr u.1)
  obtain ⟨st9, toS9, toF9, bk9⟩ := st_of (h' := h9) st6 m2 m3 (fun t => TSI_0 t m11 hPd m12.2 rfl rfl rfl rfl)
  have rt6 : rTk F N s6 := by
    rcases op.1 with u | u
    · exact u.1.2.2.1
    · exact u.2.2.1
  have h6l := fr6.1
  rw [l1] at h6l
  have n11 : 21 + h6.length ≠ cx 11 := by have := (aL_lt ch.2.1).1; omega
  have s6r : ∀ p, s6.2.1 p = s.2.1 p := fun p => by rw [s6e]
  have s6J : ∀ p, s6.2.2 p = s.2.2 p := fun p => by rw [s6e]
  have s6s : ∀ j, j ≠ 56 → j ≠ 57 → j ≠ 58 → s6.1 j = s.1 j := by
    intro j h1 h2 h3
    have nl1 := n_lt hT st1'
    rcases st1' with u | u
    · have := q307 (w := w) (k := 96 + k2) 1 u.1.2.1.1 nl1.2.2.2 nl1.1
      rw [show 96 + k2 + 3 = 99 + k2 from by omega, e2] at this
      have this := congrArg Prod.snd (Option.some.inj this)
      have this : s6 = (if _ then _ else _) := this
      rw [this]
      split
      · exact upd_ne _ _ h1
      · show upd (upd s.1 57 1) 58 _ j = _
        rw [upd_ne _ _ h3, upd_ne _ _ h2]
    · have := z307 (w := w) (k := 96 + k2) 1 u.2.1 nl1.2.2.2 nl1.1
      rw [show 96 + k2 + 3 = 99 + k2 from by omega, e2] at this
      have this : s6 = s := congrArg Prod.snd (Option.some.inj this)
      rw [this]
  have n74 : ∀ p, p ≠ 74 → (nmS F N s6 ml.length (g 0)).2.1 p = s.2.1 p := fun p hp => by
    unfold nmS
    rw [wA_ne _ _ _ hp]
    exact s6r p
  have n74i : ∀ i, i ≠ ml.length → (nmS F N s6 ml.length (g 0)).2.1 74 i = s.2.1 74 i := fun i hi => by
    unfold nmS
    rw [wA_get, if_neg (fun u => hi u.2)]
    show s6.2.1 74 i = _
    rw [s6r]
  have n78 : ∀ p, p ≠ 78 → (nmS F N s6 ml.length (g 0)).2.2 p = s.2.2 p := fun p hp => by
    unfold nmS
    show (rs_wB s6 78 ml.length (N (g 0))).2.2 p = _
    rw [wB_ne _ _ _ hp]
    exact s6J p
  have n78i : ∀ i, i ≠ ml.length → (nmS F N s6 ml.length (g 0)).2.2 78 i = s.2.2 78 i := fun i hi => by
    unfold nmS
    show (rs_wB s6 78 ml.length (N (g 0))).2.2 78 i = _
    rw [wB_get, if_neg (fun u => hi u.2), s6J]
  have v7 : SY cx F N q h s g ts → v 7 = cpl cx F (g 0) := fun u => by
    have e1 := pC_r p0
    rw [pC_r u.1.1] at e1
    have e2 := congrArg (fun x : Nat × List Value => x.2[7]?) (Sum.inr.inj (Option.some.inj e1))
    have e3 : some (Value.int (vS cx F (g 0) 7)) = some (Value.int (v 7)) := e2
    exact (Value.int.inj (Option.some.inj e3)).symm
  obtain ⟨h2, h', s', g', ts', fsM, b1, b2, b3, b4, b5, b6, b7, b8, b9, ⟨v2, p2⟩, b10⟩ := x_mth (L := L) (xs := xs) (zf := zf) (w := w) (k := k) (k2 := k2) (m := ml.length) (np := np) (kk := kk) (K := K) hT hw h14 st9 (by omega) m4 rfl rfl rfl ⟨rfl, rfl, rfl⟩ n11 m5 (by omega) hnp so (by omega) (fun u => by
    have u6 := bk6 (bk9 u)
    have u1 := (op.2.1 u6).1
    have u0 := bk1 u1
    obtain ⟨x1, x2, x3, x4, x5, x6⟩ := hsy u0
    obtain ⟨w1, w2, w3⟩ := n6 u6
    refine ⟨(s6s 52 (by decide) (by decide) (by decide)).trans x1, by omega, by rw [n74 75 (by decide)]; exact x3, ⟨⟨so, by omega, by rw [fd_of m4]; rfl, by rw [n74 70 (by decide)]; exact x4, Or.inr ⟨by omega, nm, by rw [fd_of m4]; rfl, ?_⟩, ?_⟩, by rw [fd_of m4]; rfl, by rw [n74 71 (by decide)]; exact x5, by rw [fd_of m4]; rfl, ?_⟩, by rw [n74 70 (by decide)]; exact x4⟩
    · have : (nmS F N s6 ml.length (g 0)).2.2 78 ml.length = N (g 0) := by
        unfold nmS
        show (rs_wB s6 78 ml.length (N (g 0))).2.2 78 ml.length = _
        rw [wB_get, if_pos ⟨rfl, rfl⟩]
      rw [this]
      exact nS_fr m11 w3
    · rcases x6 with ⟨e1, e2, e3⟩ | ⟨e1, c, e2, e3, e4, e5⟩
      · exact Or.inl ⟨by omega, by rw [fd_of m4, e2]; rfl, by rw [n74 72 (by decide)]; exact e3⟩
      · exact Or.inr ⟨e1, c, e2, by rw [fd_of m4, e3]; rfl, by rw [n74 72 (by decide)]; exact e4, by rw [fd_of m4, n74 73 (by decide), e5]; rfl⟩
    · have : (nmS F N s6 ml.length (g 0)).2.1 74 ml.length = F 5 (g 0) := by
        unfold nmS
        rw [wA_get, if_pos ⟨rfl, rfl⟩]
      rw [fd_of m4, this, v7 u0, (hT.2.2 (g 0) u0.1.2.2.2.2.2.1).1.1]
      rfl)
  obtain ⟨v9, p9⟩ := op_pC st9
  have fM := b4.2.2.1
  have op9 : OPY P cx F N q 0 (4 * cm + 4 * c10) (4 * cm' + 4 * c10') hb sb gb tb h9 (nmS F N s6 ml.length (g 0)) g6' ts := by
    have o7 := op.2.2.2.2.2.2.1
    have o8 := op.2.2.2.2.2.2.2.1
    have og := op.2.2.2.2.2.1
    obtain ⟨a1, a2, a3, a4, a5, a6, a7⟩ := a
    have hl := a3.1
    refine ⟨st9, fun u => ?_, fr_trans (fr_trans (fr_trans a3 (fr_app _ _) (fun _ _ u => u)) op.2.2.1 (fun y hy u => ?_)) m11 (fun y hy u => ?_), by omega, by omega, by omega, by omega⟩
    · have u6 := bk6 (bk9 u)
      obtain ⟨x1, x2, x3⟩ := op.2.1 u6
      obtain ⟨w1, w2, w3⟩ := a2 (bk1 x1)
      refine ⟨w1, sX_trans w2 (fun i hi => ⟨fun p h1 h2 => by rw [n74 p (by omega)], by rw [n78 56 (by decide)]⟩) (Nat.le_refl _), yA_trans w3 (yA_of (s6s 26 (by decide) (by decide) (by decide)) (fun p h1 h2 => n74 p (by omega)) (n78 61 (by decide)))⟩
    · left
      rcases u with u | u | u | u | u
      · exact Or.inl u
      · exact Or.inr (Or.inl u)
      · exact Or.inr (Or.inr (Or.inl u))
      · exact Or.inr (Or.inr (Or.inr (Or.inl u)))
      · rcases a4 with e | e
        · exact Or.inr (Or.inr (Or.inr (Or.inr (u.trans e))))
        · omega
    · right
      rcases u with u | u | ⟨u, u21⟩ | u | ⟨u, u21⟩
      · omega
      · rw [u]; exact hP.1
      · rw [u]; exact hP.2.2.1 (by omega) (by omega)
      · rw [u]; exact hP.2.1
      · rw [u]; exact hP.2.2.2 (by omega) (by omega)
  have hl := a.2.2.1.1
  have nlm : mlK ≠ 21 + h6.length := by have := (aL_lt em).1; omega
  have nl10 : cx 10 ≠ 21 + h6.length := by have := (aL_lt e10).1; omega
  refine ⟨h', s', g', ts', am', cm', a10', c10', ?_, ?_, OPY_le (OPY_trans op9 b4 (fun y hy u => by
    rcases u with u | u
    · omega
    · omega)) (by omega) (by omega), by omega, ⟨nmS F N s6 ml.length (g 0), b6, s6s, n74, n74i, n78, n78i⟩, ob_keep3 h14 st9 fM m4 m5 m6 (by decide), b9 _ _ _ _ nlm nm1 m7, fun y hy => oK_fr fM (m8 y hy), b9 _ _ _ _ nl10 n10 m9, fun y hy => oK_fr fM (m10 y hy), by omega, by omega, fun l2 ar2 cap2 es2 n1 n2 n3 e => b9 _ _ _ _ (by have := (aL_lt e).1; omega) n3 (m16 _ _ _ _ n1 n2 (lk6 _ _ _ _ n3 e)), fun u => ?_⟩
  · have e79 := b142_79r (L := L) (xs := xs) (zf := zf) (w := w) (k := 199 + k) (K := K) (i2 := Int32.ofNat so) (i3 := cp) (s0 := cv) (h6 := h6) (v6 := v6) p0 e10 ch (by rw [show 199 + k + 1 = 200 + k from by omega]; exact e1)
    rw [show 199 + k + 1 = 200 + k from by omega] at e79
    rw [e79, m1, c_pv p9, b1]
    exact b2
  · unfold s314_141
    rw [if_neg (by rcases hso with e | e <;> subst e <;> decide), show (rM w (99 + k2) 307 [.ref 36, .int 1] s).bind rxI = some (Int32.ofNat (g 0), s6) from by rw [e2]; rfl, Option.bind_some, aTn nl.1, Option.bind_some, rt6.2.2.2, mWJ (by omega), Option.bind_some, aTi (by omega) nl.1, Option.bind_some, show (rs_wB s6 78 ml.length (N (g 0))).2.1 41 (g 0) = F 5 (g 0) from by rw [← rt6.2.1]; rfl, mWt (by omega) (by omega), Option.bind_some]
    exact b3
  · obtain ⟨w1, w2, w3⟩ := b10 u
    have og := op.2.2.2.2.2.1
    have y4' : g6' 4 = g 4 := y4
    rw [y4'] at w2
    exact ⟨by omega, ⟨21 + h6.length, by omega, w2, by rw [fd_of b7, b8 0 (by decide)]; rfl⟩, w3⟩
end ME
