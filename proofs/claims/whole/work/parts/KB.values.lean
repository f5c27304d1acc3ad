/-! A VALUE BY BOTH, whole. -/
/-- what entering an object leaves alone -/
def oL2 (s s' : rS) (o : Nat) : Prop := (∀ p, p ≠ 111 → s'.1 p = s.1 p) ∧ (∀ p, p ≠ 111 → p ≠ 112 → s'.2.1 p = s.2.1 p) ∧ s'.2.2 = s.2.2 ∧ s'.2.1 112 = upd (s.2.1 112) o 1
/-- objects and actors as they are shown -/
def wSh (kc : kCi) (ka : kAp) (s : rS) : Prop := (∀ o, 1 ≤ o → o ≤ ka.2.2.1 → ka.1 o < 8 ∧ (kc (ka.1 o)).1 ≤ 8 ∧ s.2.1 87 o = Int32.ofNat (ka.1 o)) ∧ (∀ a, a < ka.2.2.2 → ka.2.1 a < 8 ∧ (kc (ka.2.1 a)).1 ≤ 8 ∧ s.2.1 89 a = Int32.ofNat (ka.2.1 a)) ∧ ka.2.2.1 ≤ 400 ∧ ka.2.2.2 ≤ 12
section VAB
variable {L : Nat} {xs : Nat → Int32} {zf : Value} {w k k2 b m c n t dn P : Nat} {st : Int32} {mk sa sc : Nat → Int32} {h : rm_H} {s sB : rS} {Zx : Nat → Prop} {v : Int64} {kc : kCi} {sg : cS} {ka : kAp}
/-- A VALUE BY BOTH -/
theorem b_val (hw : 20 ≤ w) (ks : kSh L xs sB kc h (Zb Zx b) P) (rh : RH (.ref P) n sg (Zr n sg) h h) (fx : fxR sB s) (ws : wSh kc ka s) (ot : oTx h s b m c st (Int32.ofNat dn) mk sa sc) (hd : dn ≤ 400) (hcc : c + 40 ≤ 1000000) (dt : dTy t = true) (vt : vTy ka 0 t v) (mr : ∀ o, o ≤ 400 → s.2.1 112 o = if mk o = st then 1 else 0) :
    (∃ h' s', dM L xs zf w (k + 9) 274 [.ref 30, .ref 24, .int (cT t), .int (cvl v)] h = some (none, h') ∧ rM w (k2 + 3) 408 [.ref 36, .long v] s = some (some (.int 0), s') ∧ pTl st (Int32.ofNat dn) mk sa sc h s b m c 40 h' s')
    ∨ ∃ (o : Nat) (h' : rm_H) (s' : rS) (b' m' c' : Nat), (1 ≤ o ∧ o ≤ ka.2.2.1 ∧ v = mdV 2 (Int32.ofNat o) ∧ mk o ≠ st) ∧ dM L xs zf w (k + 9) 274 [.ref 30, .ref 24, .int (cT t), .int (cvl v)] h = some (none, h') ∧ rM w (k2 + 3) 408 [.ref 36, .long v] s = some (some (.int 1), s') ∧ oTx h' s' b' m' c' st (Int32.ofNat (dn + 1)) (upd mk o st) (upd sa dn (Int32.ofNat o)) (upd sc dn 0) ∧ tCh h b m h' b' m' ∧ oL2 s s' o ∧ c' ≤ c + 40 := by
  obtain ⟨wo, wa, ob4, ac⟩ := ws
  have nn11 : ¬ mx_f2 .ne (1 : Int32) 1 = true := by decide
  have n51 : mx_f2 .ne (5 : Int32) 1 = true := by decide
  have n53 : mx_f2 .ne (5 : Int32) 3 = true := by decide
  have nn55 : ¬ mx_f2 .ne (5 : Int32) 5 = true := by decide
  have n31 : mx_f2 .ne (3 : Int32) 1 = true := by decide
  have nn33 : ¬ mx_f2 .ne (3 : Int32) 3 = true := by decide
  have n35 : mx_f2 .ne (3 : Int32) 5 = true := by decide
  have t72 : t < 72 := dTy_lt dt
  have hdc : ∀ X, b274_0 L xs zf (dM L xs zf w (k + 8)) w (some 30) (some 24) (cT t) (cvl v) h = X → dM L xs zf w (k + 9) 274 [.ref 30, .ref 24, .int (cT t), .int (cvl v)] h = X := fun X hX => by rw [e274]; exact hX
  have hdr : ∀ (so x : Int32), srt v = so → Int64.toInt32 v = x → ∀ X, (if mx_f1 .ne so = true then s408_20 (rM w (k2 + 2)) w so x s else ((rM w (k2 + 2) 409 [.ref 36, .long 1852796517] s).bind rxV).bind fun s7 => s408_20 (rM w (k2 + 2)) w so x s7) = some X → rM w (k2 + 3) 408 [.ref 36, .long v] s = some X := by
    intro so x h1 h2 X hX
    rw [y408]
    show s408_0 (rM w (k2 + 2)) w v s = _
    unfold s408_0
    refine bse (a := (so, s)) ?_ ?_
    · rw [r_379, h1]
      rfl
    · rw [h2]
      exact hX
  have g7 := k_7P (L := L) (xs := xs) rh
  have g189 : (dM L xs zf w (k + 8) 189 [.int (cT t)] h).bind dxI = some ((cT t >>> ((4 : Int32) &&& 31)) &&& 15, h) := t_kd (k := k + 7) (cT t) h
  have g159 : ∀ (so : Int32), cT t &&& 15 = so → ∀ h1, (dM L xs zf w (k + 8) 159 [.int (cT t)] h1).bind dxI = some (so, h1) := fun so e h1 => by rw [← e]; exact t_so (k := k + 7) (cT t) h1
  obtain ⟨p7, g194⟩ := ks_any (L := L) (xs := xs) (zf := zf) (w := w) (k := k + 4) ks ((cT t >>> ((4 : Int32) &&& 31)) &&& 15)
  -- none
  have none0 : v = 0 → (∃ so : Int32, cT t &&& 15 = so ∧ mx_f2 .ne so 1 = true) → (∃ h' s', dM L xs zf w (k + 9) 274 [.ref 30, .ref 24, .int (cT t), .int (cvl v)] h = some (none, h') ∧ rM w (k2 + 3) 408 [.ref 36, .long v] s = some (some (.int 0), s') ∧ pTl st (Int32.ofNat dn) mk sa sc h s b m c 40 h' s') := by
    rintro e0 ⟨so, e15, ne1⟩
    subst e0
    obtain ⟨h', s', a1, a2, a3⟩ := b_name (L := L) (xs := xs) (zf := zf) (w := w) (k := k) (k2 := k2) (Zx := Zx) hw nSz_none ot (by omega)
    refine ⟨h', s', hdc _ ?_, hdr 0 0 (by decide) (by decide) _ ?_, pTl_le a3 (by omega)⟩
    · unfold b274_0
      refine bse g7 (bse g189 (bse g194 (bse (g159 so e15 h) (ift ne1 (ift (by rw [cv_0]; decide) ?_)))))
      unfold b274_38
      refine bse (a := h') ?_ rfl
      rw [hc_v ot.1 (by decide)]
      show (dM L xs zf w (k + 8) 277 [.ref 30, .ref 12] h).bind dxV = _
      rw [a1]
      rfl
    · refine ifn (by decide) (bse (a := s') (by rw [a2]; rfl) ?_)
      unfold s408_20
      refine ift (by decide) ?_
      unfold s408_31
      refine ift (by decide) ?_
      unfold s408_64
      exact ifn (by decide) rfl
  rcases ct_all t t72 dt with ⟨t1, e15⟩ | ⟨t8, tm, e15, ekd⟩ | ⟨t8, tm, e15, ekd⟩
  · -- an int
    obtain ⟨x, rfl⟩ : ∃ x, v = mdV 1 x := by
      rcases vt with ⟨_, u⟩ | ⟨u, _⟩ | ⟨u, _⟩ | ⟨u, _⟩ | ⟨u, _⟩
      · exact u
      all_goals omega
    obtain ⟨h', s', a1, a2, a3⟩ := b_num (L := L) (xs := xs) (zf := zf) (w := w) (k := k) (k2 := k2) hw ot (by omega) x
    refine Or.inl ⟨h', s', hdc _ ?_, hdr 1 x (md_hi 1 x (by decide)) (md_lo 1 x) _ ?_, pTl_le a3 (by omega)⟩
    · unfold b274_0
      refine bse g7 (bse g189 (bse g194 (bse (g159 1 e15 h) (ifn nn11 (bse (a := h') ?_ rfl)))))
      rw [cv_1, hc_v ot.1 (by decide), a1]
      rfl
    · refine ift (by decide) ?_
      unfold s408_20
      refine ifn (by decide) (bse (a := s') (by rw [a2]; rfl) ?_)
      unfold s408_31
      refine ift (by decide) ?_
      unfold s408_64
      exact ifn (by decide) rfl
  · -- an object
    rcases (show v = 0 ∨ ∃ o : Nat, 1 ≤ o ∧ o ≤ ka.2.2.1 ∧ v = mdV 2 (Int32.ofNat o) ∧ ka.1 o + 1 = t / 8 by
      rcases vt with ⟨u, _⟩ | ⟨u, _⟩ | ⟨_, _, u⟩ | ⟨_, u, _⟩ | ⟨_, u, _⟩
      · omega
      · omega
      · exact u
      all_goals omega) with v0 | ⟨o, o1, o2, rfl, ek⟩
    · exact Or.inl (none0 v0 ⟨5, e15, by decide⟩)
    obtain ⟨k8, f8, r87⟩ := wo o o1 o2
    have ekk : t / 8 - 1 = ka.1 o := by omega
    rw [ekd, ekk] at g189
    obtain ⟨K, ⟨fs, nq, fl, af, cf, f0, ds, q1, q2, q3, q4, q5, q6, q7, q8, q9, q10, q11, q12, q13⟩, g4⟩ := ks_194 (L := L) (xs := xs) (zf := zf) (w := w) (k := k + 4) ks k8 f8
    obtain ⟨h1, h2, h3, s1, s2, s3, a1, a2, a3, a4, a5, a6, ⟨b3, m3, c3, ot3, tc3, ol3, hc3⟩, ol1⟩ := b_nln (L := L) (xs := xs) (zf := zf) (w := w) (k := k) (k2 := k2) (d := 35) hw q8 ot (by omega) (by decide) (Int32.ofNat o)
    have cl : ∀ h', dM L xs zf w (k + 8) 278 [.ref 30, .int (Int32.ofNat o)] h3 = some (none, h') → b274_0 L xs zf (dM L xs zf w (k + 8)) w (some 30) (some 24) (cT t) (cvl (mdV 2 (Int32.ofNat o))) h = some (none, h') := by
      intro h' e278'
      rw [cv_2]
      unfold b274_0
      refine bse g7 (bse g189 (bse g4 (bse (g159 5 e15 h) (ift n51 (ifn ?_ (ifn (fun z => by cases z) (bse (hc_gR (p := some nq) q1 q2 (by decide)) (bse a1 (bse (g159 5 e15 h1) (ift n53 ?_))))))))))
      · rw [f1_eqd]
        exact fun z => ofn_0 (by omega) o1 (of_decide_eq_true z)
      unfold b274_72
      refine bse a2 (bse (g159 5 e15 h2) (ift n53 ?_))
      unfold b274_91
      refine bse a3 (bse (g159 5 e15 h3) (ifn nn55 (bse (a := h') ?_ rfl)))
      rw [hc_v ot3.1 (by decide), e278']
      rfl
    have rf : ∀ X, ((rs_aB s3 112 (Int32.ofNat o)).bind fun x21 => if mx_f1 .eq x21 = true then (rs_sB s3 112 (Int32.ofNat o) 1).bind fun s24 => ((rM w (k2 + 2) 410 [.ref 36, .int 123] s24).bind rxV).bind fun s29 => rrI (some .boolean) 1 s29 else rrI (some .boolean) 0 s3) = some X → (if mx_f1 .ne (2 : Int32) = true then s408_20 (rM w (k2 + 2)) w 2 (Int32.ofNat o) s else ((rM w (k2 + 2) 409 [.ref 36, .long 1852796517] s).bind rxV).bind fun s7 => s408_20 (rM w (k2 + 2)) w 2 (Int32.ofNat o) s7) = some X := by
      intro X hX
      refine ift (by decide) ?_
      unfold s408_20
      refine ift (by decide) ?_
      unfold s408_31
      refine ift (by decide) ?_
      unfold s408_64
      refine ift (by decide) (bse (a := Int32.ofNat (ka.1 o)) ?_ (bse (a := sB.2.2 62 (ka.1 o)) ?_ (bse a4 (bse a5 (bse a6 hX)))))
      · rw [aI_at (by decide) rfl (by omega) (by decide), r87]
      · rw [aJ_at (by decide) rfl (by omega) (by decide), fx.2 62 (by decide)]
    have r112 : s3.2.1 112 o = if mk o = st then 1 else 0 := by rw [ol3.2.1 112 (by decide)]; exact mr o (by omega)
    have gB : rs_aB s3 112 (Int32.ofNat o) = some (s3.2.1 112 o) := aB_at (by decide) rfl (by omega) (by decide)
    by_cases em : mk o = st
    · rw [if_pos em] at r112
      refine Or.inl ⟨h3, s3, hdc _ (cl h3 (c_278s ot3 (by omega) em)), hdr 2 (Int32.ofNat o) (md_hi 2 _ (by decide)) (md_lo 2 _) _ (rf _ ?_), b3, m3, c3, ot3, tc3, ol3, by omega⟩
      refine bse (gB.trans (by rw [r112])) (ifn (by decide) rfl)
    · rw [if_neg em] at r112
      have ot4 : oTx h3 (rs_wA s3 112 o 1) b3 m3 c3 st (Int32.ofNat dn) mk sa sc := oTx_s ot3 rfl (wA_ne _ _ _ (by decide))
      obtain ⟨h', s', b', m', e1, e2, e3, e4, e5⟩ := c_278 (L := L) (xs := xs) (zf := zf) (w := w) (k := k) (k2 := k2 + 1) ot4 (by omega) hd em (by omega)
      refine Or.inr ⟨o, h', s', b', m', c3 + 1, ⟨o1, o2, rfl, em⟩, hdc _ (cl h' e1), hdr 2 (Int32.ofNat o) (md_hi 2 _ (by decide)) (md_lo 2 _) _ (rf _ ?_), e3, tCh_t tc3 e4, ⟨fun p hp => ?_, fun p hp hp2 => ?_, ?_, ?_⟩, by omega⟩
      · refine bse (gB.trans (by rw [r112])) (ift (by decide) (bse (a := rs_wA s3 112 o 1) (sB_at (by decide) rfl (by omega) (by decide)) (bse e2 rfl)))
      · rw [e5.1 p hp]
        exact ol3.1 p hp
      · rw [e5.2.1 p hp]
        exact (wA_ne _ _ _ hp2).trans (ol3.2.1 p hp)
      · rw [e5.2.2]
        exact ol3.2.2
      · rw [e5.2.1 112 (by decide)]
        funext i
        rw [wA_get, ol3.2.1 112 (by decide)]
        by_cases e : i = o
        · rw [if_pos ⟨rfl, e⟩, e, upd_eq']
        · rw [if_neg (fun z => e z.2), upd_ne' e]
  · -- an actor
    rcases (show v = 0 ∨ ∃ a : Nat, a < ka.2.2.2 ∧ v = mdV 3 (Int32.ofNat a) ∧ ka.2.1 a + 1 = t / 8 by
      rcases vt with ⟨u, _⟩ | ⟨u, _⟩ | ⟨_, u, _⟩ | ⟨_, _, u⟩ | ⟨_, u, _⟩
      · omega
      · omega
      · omega
      · exact u
      · omega) with v0 | ⟨a, a1', rfl, ek⟩
    · exact Or.inl (none0 v0 ⟨3, e15, by decide⟩)
    obtain ⟨k8, f8, r89⟩ := wa a a1'
    have ekk : t / 8 - 1 = ka.2.1 a := by omega
    rw [ekd, ekk] at g189
    obtain ⟨K, ⟨fs, nq, fl, af, cf, f0, ds, q1, q2, q3, q4, q5, q6, q7, q8, q9, q10, q11, q12, q13⟩, g4⟩ := ks_194 (L := L) (xs := xs) (zf := zf) (w := w) (k := k + 4) ks k8 f8
    obtain ⟨h1, h2, h3, s1, s2, s3, a1, a2, a3, a4, a5, a6, pt, ol1⟩ := b_nln (L := L) (xs := xs) (zf := zf) (w := w) (k := k) (k2 := k2) (d := 64) hw q8 ot (by omega) (by decide) (Int32.ofNat a)
    refine Or.inl ⟨h3, s3, hdc _ ?_, hdr 3 (Int32.ofNat a) (md_hi 3 _ (by decide)) (md_lo 3 _) _ ?_, pTl_le pt (by omega)⟩
    · rw [cv_3, of_inc]
      unfold b274_0
      refine bse g7 (bse g189 (bse g4 (bse (g159 3 e15 h) (ift n31 (ifn ?_ (ifn (fun z => by cases z) (bse (hc_gR (p := some nq) q1 q2 (by decide)) (bse a1 (bse (g159 3 e15 h1) (ifn nn33 ?_))))))))))
      · rw [f1_eqd]
        exact fun z => ofn_0 (by omega) (by omega) (of_decide_eq_true z)
      unfold b274_72
      refine bse a2 (bse (g159 3 e15 h2) (ifn nn33 ?_))
      unfold b274_91
      refine bse (a := h3) ?_ (bse (g159 3 e15 h3) (ift n35 rfl))
      rw [of_dec a]
      exact a3
    · refine ift (by decide) ?_
      unfold s408_20
      refine ift (by decide) ?_
      unfold s408_31
      refine ifn (by decide) (bse (a := Int32.ofNat (ka.2.1 a)) ?_ (bse (a := sB.2.2 62 (ka.2.1 a)) ?_ (bse a4 (bse a5 (bse a6 ?_)))))
      · rw [aI_at (by decide) rfl (by omega) (by decide), r89]
      · rw [aJ_at (by decide) rfl (by omega) (by decide), fx.2 62 (by decide)]
      unfold s408_64
      exact ifn (by decide) rfl
end VAB
