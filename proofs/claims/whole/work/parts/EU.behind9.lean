/-! BEHIND A FAULT: put and swap; a block is not walked; recover. -/
section ZU
variable {L : Nat} {xs : Nat → Int32} {zf : Value} {w k C Sc M pl ph K p p0 n m ke q0 q1 : Nat} {cx : Nat → Nat} {hB h h1 h2 : rm_H} {pt vr gn rc a b x y t : Int32} {mv : Value} {ds kl es : List Nat} {f : Nat → Int64} {sl ty : Nat → Int32} {u u1 u2 : Nat → Nat} {A B : Nat → Int32}
/-- a name is given a value -/
theorem zk_187 {q ps : Nat} {c : Int64} {spl s2 : Int32} (ev : EV L xs cx C Sc M pt vr mv ds f sl ty rc a b kl hB h u) (hz : u 2 + 1 ≤ 9000) (e2 : fd hB 12 p 2 = some (.ref q)) (hq : nS L xs hB q c) (e3 : fd hB 12 p 3 = some (.int spl)) (es1 : fd hB 12 ps 1 = some (.int s2)) (t sw : Int32) (hw : 200 ≤ w) : ∃ t' h' u', (dcV L xs (dM L xs zf w (k + 5)) 187 [13] (some C) [va_rf (some p), va_rf (some ps), .int t, .int sw] h).bind dxI = some (t', h') ∧ ZR L xs cx C Sc M pl ph pt vr mv ds f sl ty rc a b h u 1 h' u' := by
  obtain ⟨z, _, _, nb, ha⟩ := id ev
  have rf := fun x y => zk_ref (zf := zf) (w := w) (k := k + 3) z ha x y
  have g3 : dgI L xs h 3 [12] (some p) = some spl := fd_I (nb.1 _ _ _ (by decide) e3) (by decide)
  have g2 : dgR L xs h 2 [12] (some p) = some (some q) := fd_R (o := some q) (nb.1 _ _ _ (by decide) e2) (by decide)
  have hq' := nb.2.2.1 _ _ hq
  have f21 : ∀ s0, (s0 = -1 ∨ ∃ i d, ds[i]? = some d ∧ s0 = Int32.ofNat i) → ∃ t' h' u', b187_21 L xs zf (dM L xs zf w (k + 4)) w (some C) (some p) (some ps) t sw s0 h = some (some (.int t'), h') ∧ ZR L xs cx C Sc M pl ph pt vr mv ds f sl ty rc a b h u 1 h' u' := by
    intro s0 hs
    rcases hs with hs | ⟨i, d, hd, hs⟩
    · subst hs
      refine ⟨2, h, u, ?_, ZR_refl z⟩
      unfold b187_21
      exact inq (show ¬ mx_f2 .ne (-1 : Int32) (-1) = true by decide) (bsq g3 (bsq (rf _ _) rfl))
    · subst hs
      obtain ⟨gn, A, B, kh⟩ := id z
      obtain ⟨_, _, _, ⟨l16, _⟩, k5, _⟩ := id kh
      obtain ⟨_, d8, d7⟩ := id (k5 i d hd)
      have lt := (List.getElem?_eq_some_iff.mp hd).1
      have ne : mx_f2 .ne (Int32.ofNat i) (-1) = true := by
        rw [f2_ne]
        refine decide_eq_true (fun q => ?_)
        have : (Int32.ofNat i).toInt = (-1 : Int32).toInt := congrArg Int32.toInt q
        rw [of_int (by omega), show (-1 : Int32).toInt = -1 from by decide] at this
        omega
      obtain ⟨h2, v1, v2, v3, v4⟩ := ck_gone (pl := pl) (ph := ph) kh (gn &&& (((1 : Int32) <<< (sl i &&& 31)) ^^^ (-1)))
      have z2 : KZ L xs cx C Sc M pt vr mv ds f sl ty rc a b h2 u := ⟨_, A, B, v2⟩
      have d8' : dgI L xs h2 8 [10] (some d) = some (sl i) := fd_I (wF_f kh v3 (by decide) d8) (by decide)
      have fit := zk_188 (zf := zf) (w := w) (k := k + 1) z ha (nb.1 _ _ _ (by decide) es1) t (ty i)
      have f68 : ∃ t' h' u', b187_68 L xs zf (dM L xs zf w (k + 4)) w (some C) (some ps) t sw (some d) h = some (some (.int t'), h') ∧ ZR L xs cx C Sc M pl ph pt vr mv ds f sl ty rc a b h u 1 h' u' := by
        have em : ∀ s0, ∃ h' u', b187_113 L xs zf (dM L xs zf w (k + 4)) w (some d) s0 (some (cx 8)) h2 = some (some (.int (ty i)), h') ∧ ZR L xs cx C Sc M pl ph pt vr mv ds f sl ty rc a b h u 1 h' u' := by
          intro s0
          obtain ⟨h', u', m1, m2⟩ := zk_emit (pl := pl) (ph := ph) (zf := zf) (w := w) (k := k + 1) z2 (by omega) s0 (sl i)
          have d7' : dgI L xs h' 7 [10] (some d) = some (ty i) := fd_I (wF_f v2 m2.2.1 (by decide) (wF_f kh v3 (by decide) d7)) (by decide)
          refine ⟨h', u', ?_, ZR_le (ZR_trans (n := 0) ⟨z2, v3, v4, rfl, by omega⟩ m2) (by omega)⟩
          unfold b187_113
          exact bsq d8' (bsq m1 (bsq d7' rfl))
        have hd' : ∀ r, (if mx_f1 .eq sw = true then b187_113 L xs zf (dM L xs zf w (k + 4)) w (some d) 11 (some (cx 8)) h2 else b187_113 L xs zf (dM L xs zf w (k + 4)) w (some d) 9 (some (cx 8)) h2) = r → b187_68 L xs zf (dM L xs zf w (k + 4)) w (some C) (some ps) t sw (some d) h = r := by
          intro r er
          unfold b187_68
          exact bsq (fd_I d7 (by decide)) (bsq fit (bsq (ck_4 kh) (bsq (fd_I d8 (by decide)) (bsq v1 (bsq (zk_0 z2) er)))))
        by_cases c1 : mx_f1 .eq sw = true
        · obtain ⟨h', u', m1, m2⟩ := em 11
          exact ⟨ty i, h', u', hd' _ (itq c1 m1), m2⟩
        · obtain ⟨h', u', m1, m2⟩ := em 9
          exact ⟨ty i, h', u', hd' _ (inq c1 m1), m2⟩
      obtain ⟨t', h', u', f68, zz⟩ := f68
      refine ⟨t', h', u', ?_, zz⟩
      unfold b187_21
      refine itq ne (bsq (zk_1 z) (bsq (ck_at kh hd) (bsq (zk_5 z) ?_)))
      by_cases c1 : mx_f2 .ge (Int32.ofNat i) (Int32.ofNat (u 0)) = true
      · exact itq c1 f68
      · exact inq c1 (bsq g3 (bsq (rf _ _) f68))
  rw [zk_v z, e187]
  show ∃ t' h' u', (b187_0 L xs zf (dM L xs zf w (k + 4)) w (some C) (some p) (some ps) t sw h).bind dxI = some (t', h') ∧ _
  by_cases c1 : mx_f1 .eq sw = true
  · obtain ⟨gn, A, B, kh⟩ := id z
    have fn := ck_find (zf := zf) (w := w) (k := k + 1) kh hq' hw
    have l16 := kh.2.2.2.1.1
    obtain ⟨t', h', u', m1, m2⟩ := f21 (kI (kF f c ds.length 0)) (by
      cases hk : kF f c ds.length 0 with
      | none => exact Or.inl rfl
      | some i =>
        obtain ⟨_, i2, _, _⟩ := kF_some hk
        exact Or.inr ⟨i, ds[i]'(by omega), List.getElem?_eq_getElem (by omega), rfl⟩)
    refine ⟨t', h', u', bsq (a := (some (.int t'), h')) ?_ rfl, m2⟩
    unfold b187_0
    exact itq c1 (bsq g2 (bsq fn m1))
  · obtain ⟨r, r1, r2⟩ := zk_180 (zf := zf) (w := w) (k := k) z ha (nb.1 _ _ _ (by decide) e2) hq' (nb.1 _ _ _ (by decide) e3) hw
    obtain ⟨t', h', u', m1, m2⟩ := f21 r r2
    refine ⟨t', h', u', bsq (a := (some (.int t'), h')) ?_ rfl, m2⟩
    unfold b187_0
    exact inq c1 (bsq r1 m1)
/-- behind a fault a block is not walked -/
theorem zk_166 {s3 : Int32} {pb : Nat} (ev : EV L xs cx C Sc M pt vr mv ds f sl ty rc a b kl hB h u) (hp : pts hB q0 q1 pb es) (hl : es.length ≤ 2000) (fa : ∀ e0 ∈ es, ∃ s w0, fd hB 12 e0 1 = some (.int s) ∧ fd hB 12 e0 0 = some (.int w0)) {s1 : Int32} (e1 : fd hB 12 pb 1 = some (.int s1)) (e3 : fd hB 12 pb 3 = some (.int s3)) (i2 : Int32) (hw : 200 ≤ w) : ∃ t' h', (dcV L xs (dM L xs zf w (k + 5)) 166 [13] (some C) [va_rf (some pb), .int i2] h).bind dxI = some (t', h') ∧ ZR L xs cx C Sc M pl ph pt vr mv ds f sl ty rc a b h u 0 h' u := by
  obtain ⟨z, _, _, nb, ha⟩ := id ev
  have rf := fun x y => zk_ref (zf := zf) (w := w) (k := k + 3) z ha x y
  obtain ⟨gn, A, B, kh⟩ := id z
  have hp' : pts h q0 q1 pb es := by
    rcases hp with ⟨z1, z2⟩ | ⟨l, ar, cap, z1, z2, z3⟩
    · exact Or.inl ⟨nb.1 _ _ _ (by decide) z1, z2⟩
    · exact Or.inr ⟨l, ar, cap, nb.1 _ _ _ (by decide) z1, nb.2.1 _ _ _ _ z2, z3⟩
  have e1' := nb.1 _ _ _ (by decide) e1
  have cn := ck_cnt (L := L) (xs := xs) (zf := zf) (w := w) (k := k + 2) hp' e1'
  -- seen is as it was
  obtain ⟨h', w1, w2, w3⟩ := pF_ex (v := .int (Int32.ofNat ds.length)) (j := 3) (cis := [13]) kh.1 rfl (by decide) rfl (by decide)
  have kc := KH_C (pl := pl) (ph := ph) (ds' := ds) (gn' := gn) (rc' := rc) (ou' := u 0) kh w3 w2 (fun _ _ => rfl) (Nat.le_refl _) kh.2.2.2.2.2.2.2.2.2
  rw [gu_0] at kc
  have zz : ZR L xs cx C Sc M pl ph pt vr mv ds f sl ty rc a b h u 0 h' u := ⟨⟨gn, A, B, kc.1⟩, kc.2.1, kc.2.2, rfl, by omega⟩
  have f110 : b166_110 L xs zf (dM L xs zf w (k + 4)) w (some C) (Int32.ofNat ds.length) 0 h = some (some (.int 0), h') := by
    unfold b166_110
    exact bsq w1 rfl
  have f100 : b166_100 L xs zf (dM L xs zf w (k + 4)) w (some C) (some pb) (Int32.ofNat ds.length) 0 h = some (some (.int 0), h') := by
    unfold b166_100
    exact bsq (fd_I (nb.1 _ _ _ (by decide) e3) (by decide)) (bsq (rf _ _) f110)
  have f72 : b166_72 L xs zf (dM L xs zf w (k + 4)) w (some C) (some pb) i2 (Int32.ofNat ds.length) 0 (Int32.ofNat es.length) h = some (some (.int 0), h') := by
    have pa : ∃ o, (dcV L xs (dM L xs zf w (k + 4)) 168 [12] (some pb) [.int (Int32.ofNat es.length - 1)] h).bind dxR = some (o, h) ∧ ∀ q, o = some q → ∃ w0, fd h 12 q 0 = some (.int w0) := by
      by_cases l0 : es.length = 0
      · refine ⟨none, ?_, fun q hq => by cases hq⟩
        rw [fd_v e1' (by decide), e168]
        show (b168_0 L xs zf (dM L xs zf w (k + 3)) w (some pb) (Int32.ofNat es.length - 1) h).bind dxR = _
        rw [l0]
        refine bsq (a := (some (va_rf none), h)) ?_ rfl
        unfold b168_0
        rcases hp' with ⟨z1, z2⟩ | ⟨l, ar, cap, z1, z2, _⟩
        · exact bsq (fd_R (o := none) z1 (by decide)) (itq rfl rfl)
        · exact bsq (fd_R (o := some l) z1 (by decide)) (inq (dnl_s l) (itq (by decide) rfl))
      · obtain ⟨e0, he0⟩ : ∃ d, es[es.length - 1]? = some d := ⟨es[es.length - 1]'(by omega), List.getElem?_eq_getElem (by omega)⟩
        obtain ⟨s, w0, y1, y2⟩ := fa e0 (List.mem_of_getElem? he0)
        have em : Int32.ofNat es.length - 1 = Int32.ofNat (es.length - 1) := by
          apply i32_of
          rw [show (1 : Int32) = Int32.ofNat 1 from rfl, of_sub (by omega) (by omega), of_int (by omega)]
          omega
        rw [em]
        exact ⟨some e0, ck_part (k := k) hp' e1' he0 ⟨s, nb.1 _ _ _ (by decide) y1⟩ (by omega), fun q hq => by cases hq; exact ⟨w0, nb.1 _ _ _ (by decide) y2⟩⟩
    obtain ⟨o, pa, pb'⟩ := pa
    unfold b166_72
    refine bsq pa ?_
    dsimp only
    split
    · exact f110
    · cases o with
      | none => exact itq rfl f100
      | some e0 =>
        obtain ⟨w0, y⟩ := pb' e0 rfl
        refine inq (dnl_s e0) (bsq (fd_I y (by decide)) ?_)
        split
        · exact f110
        · exact f100
  refine ⟨0, h', ?_, zz⟩
  rw [zk_v z, e166]
  show (b166_0 L xs zf (dM L xs zf w (k + 4)) w (some C) (some pb) i2 h).bind dxI = _
  refine bsq (a := (some (.int 0), h')) ?_ rfl
  unfold b166_0
  refine inq (dnl_s pb) (bsq (ck_3 kh) (bsq cn ?_))
  obtain ⟨w', rfl⟩ : ∃ w', w = w' + 1 := ⟨w - 1, by omega⟩
  show b166_23 L xs zf (dM L xs zf (w' + 1) (k + 4)) (w' + 1) (w' + 1) (some C) (some pb) i2 (Int32.ofNat ds.length) 0 (Int32.ofNat es.length) 0 h = _
  rw [b166_23]
  by_cases c1 : mx_f2 .ge 0 (Int32.ofNat es.length) = true
  · exact itq c1 f72
  · refine inq c1 (bsq (ck_0 kh) (bsq (ck_7 kh) (itq ?_ f72)))
    rw [f1_ne]
    exact decide_eq_true ha
end ZU
