/-! BOTH CHECK: return and give. -/
section JGV
variable {L : Nat} {xs : Nat → Int32} {zf : Value} {w C Sc M Pl Ph LO HI nk m lv n p q i d lo hi k k2 z z2 W ke kr ke2 kr2 K l τ px pl ph lo' hi' pe ne how : Nat} {cx : Nat → Nat} {hB h h1 h2 : rm_H} {s0 s s1 s2 : rS} {pt vr gn gn1 a b a1 b1 x y rc t v : Int32} {mv : Value} {ds kl ml es ns ts ts2 qs : List Nat} {G : List scN} {u u1 u2 : Nat → Nat} {A B A1 B1 : Nat → Int32} {c : Int64} {X : scN} {f : Nat → Int64} {sl ty : Nat → Int32} {sw : Bool}
/-- out of place: refused -/
theorem js_no {wc K0 : Int32} (e0 : fd hB 12 p 0 = some (.int wc)) (e1 : fd hB 12 p 1 = some (.int (s0.2.1 50 n))) (r44 : s0.2.1 44 n = K0) (hW : (wc = 19 ∧ K0 = 24 ∧ how ≠ 1) ∨ (wc = 20 ∧ K0 = 25 ∧ how ≠ 2)) (hh : how ≤ 2) (hl : ∃ l, s0.2.1 45 n = Int32.ofNat l) (hn : n < 4400) : JS L xs zf w cx C Sc M pt vr mv hB s0 nk m Pl Ph LO HI z how p n lo hi 4 3 := by
  intro j j2 h s ds G lv gn b u A B e hlz fv p53 hz
  obtain ⟨kh, dl, bh, rk, e57, _, rg, gw⟩ := id e
  obtain ⟨l, r45⟩ := hl
  obtain ⟨h1, v1, v2, v3, v4⟩ := ck_refA (pl := Pl) (ph := Ph) (zf := zf) (w := w) (k := j + 1) kh 8 (s0.2.1 50 n)
  have g0 : dgI L xs h 0 [12] (some p) = some wc := fd_I (bh.1.1 _ _ _ (by decide) e0) (by decide)
  have c15 : ¬ mx_f2 .eq wc (hwC how) = true → (dcV L xs (dM L xs zf w (j + 3)) 215 [13] (some C) [va_rf (some p), .int (hwC how)] h).bind dxI = some (0, h1) := by
    intro hne
    rw [ck_v kh, e215]
    show (b215_0 L xs zf (dM L xs zf w (j + 2)) w (some C) (some p) (hwC how) h).bind dxI = _
    refine bsq (a := (some (.int 0), h1)) ?_ rfl
    unfold b215_0
    exact bsq g0 (inq hne (bsq (fd_I (bh.1.1 _ _ _ (by decide) e1) (by decide)) (bsq v1 rfl)))
  have g45 : rs_aI s 45 (Int32.ofNat n) = some (Int32.ofNat l) := (aI_at (i := n) (by decide) rfl hn (by decide)).trans (by rw [rk_A rk (by decide), r45])
  have g44 : rs_aI s 44 (Int32.ofNat n) = some K0 := (aI_at (i := n) (by decide) rfl hn (by decide)).trans (by rw [rk_A rk (by decide), r44])
  have g50 : rs_aI s 50 (Int32.ofNat n) = some (s0.2.1 50 n) := (aI_at (i := n) (by decide) rfl hn (by decide)).trans (by rw [rk_A rk (by decide)])
  have r5 : ((rM w (j2 + 2) 305 [.ref 36, .int 8, .int (s0.2.1 50 n)] s).bind rxV) = some (rfS s 8 (s0.2.1 50 n)) := by
    rw [r_305 e57]
    rfl
  refine ⟨0, h1, rfS s 8 (s0.2.1 50 n), ?_, ?_, 8, s0.2.1 50 n, u, v3, v4, rfl, by omega, fun i _ => ⟨rfl, rfl⟩, Or.inl ⟨by decide, FS_of (CK_ft e v2 (by decide) v3 rfl rfS_K rfS_57 rfS_58) (by decide)⟩⟩
  · rw [ck_v kh, show 4 + j = j + 3 + 1 from by omega, e169]
    show (b169_0 L xs zf (dM L xs zf w (j + 3)) w (some C) (some p) (hwC how) h).bind dxI = _
    refine bsq (a := (some (.int 0), h1)) ?_ rfl
    unfold b169_0
    refine bsq g0 ?_
    have hc : how = 0 ∨ how = 1 ∨ how = 2 := by omega
    rcases hW with ⟨y1, y2, y3⟩ | ⟨y1, y2, y3⟩
    · subst y1
      exact inq (by decide) (inq (by decide) (inq (by decide) (inq (by decide) (inq (by decide) (itq rfl (bsq (c15 (by rcases hc with q | q | q <;> subst q <;> first | decide | exact absurd rfl y3)) rfl))))))
    · subst y1
      exact inq (by decide) (inq (by decide) (inq (by decide) (inq (by decide) (inq (by decide) (inq (by decide) (itq rfl (bsq (c15 (by rcases hc with q | q | q <;> subst q <;> first | decide | exact absurd rfl y3)) rfl)))))))
  · rw [show 3 + j2 = j2 + 2 + 1 from by omega, y337]
    show s337_0 (rM w (j2 + 2)) w (Int32.ofNat n) (Int32.ofNat how) s = _
    unfold s337_0
    refine bsq g45 (bsq g44 ?_)
    have hc : how = 0 ∨ how = 1 ∨ how = 2 := by omega
    rcases hW with ⟨y1, y2, y3⟩ | ⟨y1, y2, y3⟩
    · subst y2
      exact inq (by decide) (inq (by decide) (inq (by decide) (inq (by decide) (inq (by decide) (itq rfl (inq (by rcases hc with q | q | q <;> subst q <;> first | decide | exact absurd rfl y3) (bsq g50 (bsq r5 rfl))))))))
    · subst y2
      exact inq (by decide) (inq (by decide) (inq (by decide) (inq (by decide) (inq (by decide) (inq (by decide) (itq rfl (inq (by rcases hc with q | q | q <;> subst q <;> first | decide | exact absurd rfl y3) (bsq g50 (bsq r5 rfl)))))))))
/-- return -/
theorem js_24 {tr d : Nat} (IH : JV L xs zf w cx C Sc M pt vr mv hB s0 nk m Pl Ph LO HI z px l lo' hi' ke kr) (e0 : fd hB 12 p 0 = some (.int 19)) (e8 : fd hB 12 p 8 = some (.ref px)) (ex : fd hB 12 px 1 = some (.int (s0.2.1 50 l))) (r44 : s0.2.1 44 n = 24) (r45 : s0.2.1 45 n = Int32.ofNat l) (hl : 1 ≤ l ∧ l < 4400) (hn : n < 4400) (hm : m < 72) (m8 : fd hB 11 M 8 = some (.ref d)) (d7 : fd hB 10 d 7 = some (.int (cT tr))) (mt : tyc s0 (s0.2.1 75 m) tr) (d1 : lo ≤ lo') (d2 : hi' ≤ hi) (d3 : hi' - lo' < hi - lo) (hk : 3 ≤ ke) (hk2 : 3 ≤ kr) : JS L xs zf w cx C Sc M pt vr mv hB s0 nk m Pl Ph LO HI z 1 p n lo hi (ke + 2) (kr + 1) := by
  intro j j2 h s ds G lv gn b u A B e hlz fv p53 hz
  obtain ⟨t, r, h1, s1, q1, q2, gn', a', b', u', A', B', o1, o2, o3, o4, o5, o6, o7⟩ := IH j j2 h s ds G lv gn b u A B e hlz (FV_sub fv d1 d2) (fun i i1 i2 => p53 i (by omega) (by omega)) (by omega)
  obtain ⟨kh, dl, bh, rk, e57, _, rg, gw⟩ := id e
  obtain ⟨kh1, dl1, bh1, rk1, e571, e581, rg1, gw1⟩ := id o1
  obtain ⟨k1, hk1⟩ : ∃ k1, ke + j = k1 + 3 := ⟨ke + j - 3, by omega⟩
  obtain ⟨k3, hk3⟩ : ∃ k1, kr + j2 = k1 + 3 := ⟨kr + j2 - 3, by omega⟩
  obtain ⟨h2, f1, f2, f3, f4⟩ := ck_rfz (pl := Pl) (ph := Ph) (zf := zf) (w := w) (k := k1 + 1) kh1 (fitC t (cT tr)) (s0.2.1 50 l)
  obtain ⟨h3, u4, A4, B4, m1, m2, m3, m4, m5, m6, m7, m8'⟩ := ck_emit (pl := Pl) (ph := Ph) (zf := zf) (w := w) (k := k1) f2 (by omega) 15 0
  have E := CK_rg o1 f2 f3 (fitC_p t (cT tr))
  have g0 : ∀ hh, bH L xs hB hh → dgI L xs hh 0 [12] (some p) = some 19 := fun hh q => fd_I (q.1.1 _ _ _ (by decide) e0) (by decide)
  have g8 : ∀ hh, bH L xs hB hh → dgR L xs hh 8 [12] (some p) = some (some px) := fun hh q => fd_R (o := some px) (q.1.1 _ _ _ (by decide) e8) (by decide)
  have cls : (dcV L xs (dM L xs zf w (ke + 2 + j)) 169 [13] (some C) [va_rf (some p), .int (hwC 1)] h).bind dxI = some (t, h3) := by
    rw [ck_v kh, show ke + 2 + j = ke + j + 1 + 1 from by omega, e169]
    show (b169_0 L xs zf (dM L xs zf w (ke + j + 1)) w (some C) (some p) (hwC 1) h).bind dxI = _
    refine bsq (a := (some (.int t), h3)) ?_ rfl
    unfold b169_0
    refine bsq (g0 h bh) (inq (by decide) (inq (by decide) (inq (by decide) (inq (by decide) (inq (by decide) (itq rfl (bsq (a := (t, h3)) ?_ rfl)))))))
    rw [ck_v kh, e215]
    show (b215_0 L xs zf (dM L xs zf w (ke + j)) w (some C) (some p) 19 h).bind dxI = _
    refine bsq (a := (some (.int t), h3)) ?_ rfl
    have gM : dgR L xs h1 2 [13] (some C) = some (some M) := hc_gR (p := some M) kh1.1 rfl (by decide)
    have g118 : dgR L xs h1 8 [11] (some M) = some (some d) := fd_R (o := some d) (bh1.2.2 _ _ _ m8) (by decide)
    unfold b215_0
    refine bsq (g0 h bh) (itq (by decide) (bsq (g8 h bh) (bsq q1 (bsq (g0 h1 bh1) (inq (by decide) (bsq gM (bsq g118 (inq (dnl_s d) (bsq (g8 h1 bh1) (bsq gM (bsq g118 (bsq (fd_I (bh1.1.2.2.2.1 _ _ _ d7) (by decide)) (bsq (a := h2) ?_ (bsq (ck_0 f2) (bsq (a := (Int32.ofNat (u' 2), h3)) ?_ rfl)))))))))))))))
    · rw [hk1]
      exact (c_188 kh1 (bh1.1.1 _ _ _ (by decide) ex) t (cT tr)).trans f1
    · rw [hk1]
      exact m1
  have g45 : rs_aI s 45 (Int32.ofNat n) = some (Int32.ofNat l) := (aI_at (i := n) (by decide) rfl hn (by decide)).trans (by rw [rk_A rk (by decide), r45])
  have g44 : rs_aI s 44 (Int32.ofNat n) = some 24 := (aI_at (i := n) (by decide) rfl hn (by decide)).trans (by rw [rk_A rk (by decide), r44])
  obtain ⟨r60, dtr⟩ := tyc_r rk1 mt
  have ref : rM w (kr + 1 + j2) 337 [.ref 36, .int (Int32.ofNat n), .int (Int32.ofNat 1)] s = some (none, if a' = 0 then rzS s1 (fitC t (cT tr)) (s0.2.1 50 l) else s1) := by
    rw [show kr + 1 + j2 = kr + j2 + 1 from by omega, y337]
    show s337_0 (rM w (kr + j2)) w (Int32.ofNat n) 1 s = _
    unfold s337_0
    refine bsq g45 (bsq g44 (inq (by decide) (inq (by decide) (inq (by decide) (inq (by decide) (inq (by decide) (itq rfl (itq (by decide) (bsq (a := (r, s1)) (by rw [q2]; rfl) ?_)))))))))
    by_cases ha : a' = 0
    · subst ha
      obtain ⟨_, _, τ, p3, p4, p5, p6, p7, _⟩ := o7 rfl
      subst p6
      subst p7
      rw [if_pos rfl]
      have r3 := r_353 (w := w) (k := k3) (t := τ) (q := tr) e571 hl.2 p3.1 p4 dtr
      rw [rk_A rk1 (by decide) l] at r3
      refine inq (show ¬ mx_f1 .ne (s1.1 57) = true by rw [e571]; decide) (bsq (a := s0.2.1 75 m) ?_ (bsq r60 (bsq (a := (if fitC (cT τ) (cT tr) = 0 then 1 else 0, rzS s1 (fitC (cT τ) (cT tr)) (s0.2.1 50 l))) ?_ rfl)))
      · show rs_aI s1 75 (s1.1 66) = _
        rw [(rg1 rfl).2.2.2.1.1]
        exact (aI_at (i := m) (by decide) rfl hm (by decide)).trans (by rw [rk_A rk1 (by decide)])
      · rw [hk3, r3]
        rfl
    · rw [if_neg ha]
      exact itq (show mx_f1 .ne (s1.1 57) = true by rw [e571, f1_ne]; exact decide_eq_true ha) rfl
  refine ⟨t, h3, _, cls, ref, sp_e (P := ∃ τ, t = cT τ ∧ fitC t (cT tr) = 0 ∧ ∀ SL AA BB : Nat → Int32, (∀ i, lo' ≤ i → i < hi' → SL i = s1.2.1 53 i) → (∀ i, u 2 ≤ i → i < u' 2 → AA i = A' i ∧ BB i = B' i) → VL s0 (TU s0 SL AA BB m (hi' - lo')).1 lv G gn l τ gn' (u 2) (u' 2)) E (wF_trans o2 o3 f3) (wK2_trans o3 f4 o2.1.1) o4 o5 (r53_trans o6 (by split; exact rzS_r; exact r53_refl)) (fun z0 => ?_) m2 m3 m4 m5 m6 m7 m8' d1 d2 d3 (fun y => by omega) (fun SL AA BB f y1 y2 y3 y4 p3 => ?_)⟩
  · have a0 : a' = 0 := by
      by_cases ha : a' = 0
      · exact ha
      · rw [fa_n ha] at z0
        exact absurd z0 ha
    subst a0
    have x0 : fitC t (cT tr) = 0 := z0
    obtain ⟨p1, p2, τ, p3, p4, p5, p6, p7, p8⟩ := o7 rfl
    exact ⟨p1, p2, τ, p6, x0, p8⟩
  · obtain ⟨τ, p4, p5, p6⟩ := p3
    refine ⟨24, l, r44, r45, hl.1, hl.2, rfl, rfl, rfl, τ, u' 2, tr, VL_f (p6 SL AA BB (fun i i1 i2 => (y1 i i1 i2).trans ?_) y2) y4, mt, by rw [← p4]; exact p5, rfl, y3.1, y3.2⟩
    split
    · exact rzS_53 i
    · rfl
/-- give -/
theorem js_25 (IH : JV L xs zf w cx C Sc M pt vr mv hB s0 nk m Pl Ph LO HI z px l lo' hi' ke kr) (e0 : fd hB 12 p 0 = some (.int 20)) (e8 : fd hB 12 p 8 = some (.ref px)) (r44 : s0.2.1 44 n = 25) (r45 : s0.2.1 45 n = Int32.ofNat l) (hl : 1 ≤ l ∧ l < 4400) (hn : n < 4400) (d1 : lo ≤ lo') (d2 : hi' ≤ hi) (d3 : hi' - lo' < hi - lo) (hk : 3 ≤ ke) : JS L xs zf w cx C Sc M pt vr mv hB s0 nk m Pl Ph LO HI z 2 p n lo hi (ke + 2) (kr + 1) := by
  intro j j2 h s ds G lv gn b u A B e hlz fv p53 hz
  obtain ⟨t, r, h1, s1, q1, q2, gn', a', b', u', A', B', o1, o2, o3, o4, o5, o6, o7⟩ := IH j j2 h s ds G lv gn b u A B e hlz (FV_sub fv d1 d2) (fun i i1 i2 => p53 i (by omega) (by omega)) (by omega)
  obtain ⟨kh, dl, bh, rk, e57, _, rg, gw⟩ := id e
  obtain ⟨kh1, dl1, bh1, rk1, e571, e581, rg1, gw1⟩ := id o1
  obtain ⟨k1, hk1⟩ : ∃ k1, ke + j = k1 + 3 := ⟨ke + j - 3, by omega⟩
  obtain ⟨h3, u4, A4, B4, m1, m2, m3, m4, m5, m6, m7, m8⟩ := ck_emit (pl := Pl) (ph := Ph) (zf := zf) (w := w) (k := k1) kh1 (by omega) 16 0
  have g0 : ∀ hh, bH L xs hB hh → dgI L xs hh 0 [12] (some p) = some 20 := fun hh q => fd_I (q.1.1 _ _ _ (by decide) e0) (by decide)
  have cls : (dcV L xs (dM L xs zf w (ke + 2 + j)) 169 [13] (some C) [va_rf (some p), .int (hwC 2)] h).bind dxI = some (t, h3) := by
    rw [ck_v kh, show ke + 2 + j = ke + j + 1 + 1 from by omega, e169]
    show (b169_0 L xs zf (dM L xs zf w (ke + j + 1)) w (some C) (some p) (hwC 2) h).bind dxI = _
    refine bsq (a := (some (.int t), h3)) ?_ rfl
    unfold b169_0
    refine bsq (g0 h bh) (inq (by decide) (inq (by decide) (inq (by decide) (inq (by decide) (inq (by decide) (inq (by decide) (itq rfl (bsq (a := (t, h3)) ?_ rfl))))))))
    rw [ck_v kh, e215]
    show (b215_0 L xs zf (dM L xs zf w (ke + j)) w (some C) (some p) 20 h).bind dxI = _
    refine bsq (a := (some (.int t), h3)) ?_ rfl
    have f81 : b215_81 L xs zf (dM L xs zf w (ke + j)) w (some C) t h1 = some (some (.int t), h3) := by
      unfold b215_81
      refine bsq (ck_0 kh1) (bsq (a := (Int32.ofNat (u' 2), h3)) ?_ rfl)
      rw [hk1]
      exact m1
    unfold b215_0
    exact bsq (g0 h bh) (itq (by decide) (bsq (fd_R (o := some px) (bh.1.1 _ _ _ (by decide) e8) (by decide)) (bsq q1 (bsq (g0 h1 bh1) (itq (by decide) f81)))))
  have g45 : rs_aI s 45 (Int32.ofNat n) = some (Int32.ofNat l) := (aI_at (i := n) (by decide) rfl hn (by decide)).trans (by rw [rk_A rk (by decide), r45])
  have g44 : rs_aI s 44 (Int32.ofNat n) = some 25 := (aI_at (i := n) (by decide) rfl hn (by decide)).trans (by rw [rk_A rk (by decide), r44])
  have ref : rM w (kr + 1 + j2) 337 [.ref 36, .int (Int32.ofNat n), .int (Int32.ofNat 2)] s = some (none, rs_w s1 65 r) := by
    rw [show kr + 1 + j2 = kr + j2 + 1 from by omega, y337]
    show s337_0 (rM w (kr + j2)) w (Int32.ofNat n) 2 s = _
    unfold s337_0
    exact bsq g45 (bsq g44 (inq (by decide) (inq (by decide) (inq (by decide) (inq (by decide) (inq (by decide) (inq (by decide) (itq rfl (itq (by decide) (bsq (a := (r, s1)) (by rw [q2]; rfl) (bsq (a := rs_w s1 65 r) rfl rfl)))))))))))
  have E := CK_e0 o1 m2 m3 m6
  have uu : u 2 ≤ u' 2 := o3.2.2.2.2.1
  have l65 : rL s1 (rs_w s1 65 r) := rL_w (by omega)
  refine ⟨t, h3, rs_w s1 65 r, cls, ref, a', b', u4, wF_trans o2 o3 m3, wK2_trans o3 m4 o2.1.1, m6.trans o4, by omega, r53_trans (r53_mono o6 d1 d2) (fun i _ => ⟨rfl, rfl⟩), ?_⟩
  by_cases ha : a' = 0
  · subst ha
    obtain ⟨p1, p2, τ, p3, p4, p5, p6, p7, p8⟩ := o7 rfl
    refine Or.inr ⟨rfl, [], G, gn', A4, B4, τ, ?_, ⟨[], by rw [List.append_nil]⟩, fun i hi => ⟨(m8 i (by omega)).1.trans (p1 i hi).1, (m8 i (by omega)).2.trans (p1 i hi).2⟩, fun lo2 hi2 y1 y2 y3 y4 => p2 lo2 hi2 (by omega) y2 y3 y4, fun _ _ => ⟨p3, p4, p5, p6, by rw [w_eq, p7]⟩, fun SL AA BB f y1 y2 y3 => ?_⟩
    · rw [List.append_nil]
      exact CK_up E E.1 (wF_refl (pl := 0) (ph := 0)) rfl l65 (by rw [w_ne _ _ (by decide)]; exact (rg1 rfl).2.2.1)
    · rw [m5]
      have ui := y2 (u' 2) uu (by omega)
      refine ⟨25, l, r44, r45, hl.1, hl.2, rfl, rfl, u' 2, VL_f (p8 SL AA BB (fun i i1 i2 => y1 i (by omega) (by omega)) (fun i i1 i2 => ?_)) (by omega), rfl, by rw [ui.1, m7.1], by rw [ui.2, m7.2]⟩
      have q := y2 i i1 (by omega)
      exact ⟨q.1.trans (m8 i i2).1, q.2.trans (m8 i i2).2⟩
  · exact Or.inl ⟨ha, FS_of (CK_fs E ha l65) ha⟩
end JGV
