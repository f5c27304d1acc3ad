/-! BOTH CHECK: how a block ends. -/
section JBL
variable {L : Nat} {xs : Nat → Int32} {zf : Value} {w C Sc M Pl Ph LO HI nk m lv n p q i d lo hi k k2 z W ke kr l px q0 q1 pl ph how : Nat} {cx : Nat → Nat} {hB h h1 h2 : rm_H} {s0 s s1 s2 : rS} {pt vr gn gn1 a b a1 b1 x y rc t v : Int32} {mv : Value} {ds dx kl ml es : List Nat} {G gx : List scN} {u u1 u2 : Nat → Nat} {A B A1 B1 : Nat → Int32} {f f' : Nat → Int64} {sl ty sl' ty' : Nat → Int32}
/-- what is seen is cut back -/
theorem ck_cut (kh : KH L xs cx C Sc M pt vr mv h (ds ++ dx) f sl ty gn rc a b u A B) (hu : u 0 ≤ ds.length) (hf : ∀ i, i < ds.length → f' i = f i ∧ sl' i = sl i ∧ ty' i = ty i) : ∃ h', dpF h 3 [13] (some C) (.int (Int32.ofNat ds.length)) = some h' ∧ KH L xs cx C Sc M pt vr mv h' ds f' sl' ty' gn rc a b u A B ∧ wF cx C Sc pl ph u h h' ∧ wK2 u u h h' := by
  obtain ⟨h', w1, w2, w3⟩ := pF_ex (v := .int (Int32.ofNat ds.length)) (j := 3) (cis := [13]) kh.1 rfl (by decide) rfl (by decide)
  have w2 : hc h' C = some (ckC (cx 8) Sc M ds.length gn (u 0) rc) := w2
  have kc := KH_C (pl := pl) (ph := ph) (ds' := ds) (gn' := gn) (rc' := rc) (ou' := u 0) kh w3 w2 (fun i hi => (List.getElem?_append_left hi).symm) (by rw [List.length_append]; omega) hu
  rw [gu_0] at kc
  exact ⟨h', w1, KH_cg kc.1 hf, kc.2.1, kc.2.2⟩
/-- what is refused at the end of a block, by the sort of its last step -/
def beX (how : Nat) (o : Option Int32) : Int32 := if how = 0 ∨ o = some (hwC how) then 0 else 8
theorem beX_p (how : Nat) (o : Option Int32) : beX how o = 0 ∨ 0 < (beX how o).toInt := by
  unfold beX
  split
  · exact Or.inl rfl
  · exact Or.inr (by decide)
/-- the last step of a block -/
def lsS (hB : rm_H) (s0 : rS) (es : List Nat) (la : Int32) (o : Option Int32) : Prop := (es = [] ∧ la = 0 ∧ o = none) ∨ ∃ e0 l W y0, es[es.length - 1]? = some e0 ∧ la = Int32.ofNat l ∧ 1 ≤ l ∧ l < 4400 ∧ fd hB 12 e0 1 = some (.int y0) ∧ 15 ≤ W ∧ W ≤ 22 ∧ fd hB 12 e0 0 = some (.int (Int32.ofNat W)) ∧ s0.2.1 44 l = Int32.ofNat (wK W) ∧ o = some (Int32.ofNat W)
/-- the class -/
theorem be_c {o : Option Int32} {la i4 y1 y3 : Int32} (kh : KH L xs cx C Sc M pt vr mv h (ds ++ dx) f sl ty gn rc a b u A B) (hu : u 0 ≤ ds.length) (hf : ∀ i, i < ds.length → f' i = f i ∧ sl' i = sl i ∧ ty' i = ty i) (bh : bH L xs hB h) (hp : pts hB q0 q1 p es) (e1 : fd hB 12 p 1 = some (.int y1)) (e3 : fd hB 12 p 3 = some (.int y3)) (hl : es.length ≤ 2000) (hh : how ≤ 2) (ls : lsS hB s0 es la o) : ∃ h', b166_72 L xs zf (dM L xs zf w (k + 4)) w (some C) (some p) (hwC how) (Int32.ofNat ds.length) i4 (Int32.ofNat es.length) h = some (some (.int i4), h') ∧ KH L xs cx C Sc M pt vr mv h' ds f' sl' ty' gn rc (fa a (beX how o)) (fb a b (beX how o) y3) u A B ∧ wF cx C Sc pl ph u h h' ∧ wK2 u u h h' := by
  obtain ⟨h1, r1, r2, r3, r4⟩ := ck_rfz (pl := pl) (ph := ph) (zf := zf) (w := w) (k := k + 3) kh (beX how o) y3
  obtain ⟨h', c1, c2, c3, c4⟩ := ck_cut (pl := pl) (ph := ph) r2 hu hf
  have hp' : pts h q0 q1 p es := by
    rcases hp with ⟨z1, z2⟩ | ⟨l, ar, cap, z1, z2, z3⟩
    · exact Or.inl ⟨bh.1.1 _ _ _ (by decide) z1, z2⟩
    · exact Or.inr ⟨l, ar, cap, bh.1.1 _ _ _ (by decide) z1, bh.1.2.1 _ _ _ _ z2, z3⟩
  have e1' := bh.1.1 _ _ _ (by decide) e1
  refine ⟨h', ?_, c2, wF_trans r3 r4 c3, wK2_trans r4 c4 r3.1.1⟩
  have f110 : b166_110 L xs zf (dM L xs zf w (k + 4)) w (some C) (Int32.ofNat ds.length) i4 h1 = some (some (.int i4), h') := by
    unfold b166_110
    exact bsq c1 rfl
  have f0 : beX how o = 0 → b166_110 L xs zf (dM L xs zf w (k + 4)) w (some C) (Int32.ofNat ds.length) i4 h = some (some (.int i4), h') := by
    intro z0
    unfold rfz at r1
    rw [if_pos z0] at r1
    rw [Option.some.inj r1]
    exact f110
  have f8 : beX how o ≠ 0 → b166_100 L xs zf (dM L xs zf w (k + 4)) w (some C) (some p) (Int32.ofNat ds.length) i4 h = some (some (.int i4), h') := by
    intro z0
    unfold rfz at r1
    rw [if_neg z0] at r1
    have e8 : beX how o = 8 := by
      unfold beX at z0 ⊢
      by_cases c : how = 0 ∨ o = some (hwC how)
      · rw [if_pos c] at z0
        exact absurd rfl z0
      · rw [if_neg c]
    rw [e8] at r1
    unfold b166_100
    exact bsq (fd_I (bh.1.1 _ _ _ (by decide) e3) (by decide)) (bsq r1 f110)
  have pa : ∃ oo, (dcV L xs (dM L xs zf w (k + 4)) 168 [12] (some p) [.int (Int32.ofNat es.length - 1)] h).bind dxR = some (oo, h) ∧ ((oo = none ∧ o = none) ∨ ∃ e0 W0, oo = some e0 ∧ o = some W0 ∧ fd h 12 e0 0 = some (.int W0)) := by
    rcases ls with ⟨l0, _, on⟩ | ⟨e0, l, W, y0, he0, _, _, _, y1, _, _, y2, _, on⟩
    · refine ⟨none, ?_, Or.inl ⟨rfl, on⟩⟩
      rw [fd_v e1' (by decide), e168]
      show (b168_0 L xs zf (dM L xs zf w (k + 3)) w (some p) (Int32.ofNat es.length - 1) h).bind dxR = _
      rw [l0]
      refine bsq (a := (some (va_rf none), h)) ?_ rfl
      unfold b168_0
      rcases hp' with ⟨z1, z2⟩ | ⟨l, ar, cap, z1, z2, _⟩
      · exact bsq (fd_R (o := none) z1 (by decide)) (itq rfl rfl)
      · exact bsq (fd_R (o := some l) z1 (by decide)) (inq (dnl_s l) (itq (by decide) rfl))
    · have lt := (List.getElem?_eq_some_iff.mp he0).1
      have em : Int32.ofNat es.length - 1 = Int32.ofNat (es.length - 1) := by
        apply i32_of
        rw [show (1 : Int32) = Int32.ofNat 1 from rfl, of_sub (by omega) (by omega), of_int (by omega)]
        omega
      rw [em]
      exact ⟨some e0, ck_part (k := k) hp' e1' he0 ⟨y0, bh.1.1 _ _ _ (by decide) y1⟩ (by omega), Or.inr ⟨e0, _, rfl, on, bh.1.1 _ _ _ (by decide) y2⟩⟩
  obtain ⟨oo, pa, po⟩ := pa
  unfold b166_72
  refine bsq pa ?_
  have hc : how = 0 ∨ how = 1 ∨ how = 2 := by omega
  by_cases h0 : how = 0
  · exact itq (show mx_f1 .eq (hwC how) = true by rw [h0]; decide) (f0 (if_pos (Or.inl h0)))
  · refine inq (show ¬ mx_f1 .eq (hwC how) = true by rcases hc with q | q | q <;> subst q <;> first | exact absurd rfl h0 | decide) ?_
    rcases po with ⟨z1, z2⟩ | ⟨e0, W0, z1, z2, z3⟩
    · subst z1
      refine itq rfl (f8 ?_)
      unfold beX
      rw [if_neg (fun z => z.elim h0 (fun z => by rw [z2] at z; cases z))]
      decide
    · subst z1
      refine inq (dnl_s e0) (bsq (fd_I z3 (by decide)) ?_)
      by_cases c : W0 = hwC how
      · exact itq (decide_eq_true c) (f0 (if_pos (Or.inr (by rw [z2, c]))))
      · refine inq (fun z => c (of_decide_eq_true z)) (f8 ?_)
        unfold beX
        rw [if_neg (fun z => z.elim h0 (fun z => by rw [z2] at z; exact c (Option.some.inj z)))]
        decide
theorem wK_hw : ∀ W, 15 ≤ W → W ≤ 22 → (Int32.ofNat (wK W) = 24 ↔ Int32.ofNat W = 19) ∧ (Int32.ofNat (wK W) = 25 ↔ Int32.ofNat W = 20) := by
  intro W h1 h2
  have : W = 15 ∨ W = 16 ∨ W = 17 ∨ W = 18 ∨ W = 19 ∨ W = 20 ∨ W = 21 ∨ W = 22 := by omega
  rcases this with q | q | q | q | q | q | q | q <;> subst q <;> decide
/-- the reference -/
theorem be_r {o : Option Int32} {la g : Int32} (rk : rK s0 s) (hn : n < 4400) (hh : how ≤ 2) (h57 : s.1 57 = a) (ls : a = 0 → lsS hB s0 es la o) : s336_65 (rM w (k + 1)) w (Int32.ofNat n) (Int32.ofNat how) g la s = some (none, if a = 0 then rzS (rs_w s 62 g) (beX how o) (s0.2.1 55 n) else rs_w s 62 g) := by
  have e57 : (rs_w s 62 g).1 57 = a := by rw [w_ne _ _ (by decide)]; exact h57
  have g55 : rs_aI (rs_w s 62 g) 55 (Int32.ofNat n) = some (s0.2.1 55 n) := (aI_at (i := n) (by decide) rfl hn (by decide)).trans (by show some (s.2.1 55 n) = _; rw [rk_A rk (by decide)])
  have hc : how = 0 ∨ how = 1 ∨ how = 2 := by omega
  have f112 : a = 0 → s336_112 (rM w (k + 1)) w (Int32.ofNat n) (rs_w s 62 g) = some (none, rfS (rs_w s 62 g) 8 (s0.2.1 55 n)) := by
    intro ha
    unfold s336_112
    refine bsq g55 (bsq (a := rfS (rs_w s 62 g) 8 (s0.2.1 55 n)) ?_ rfl)
    rw [r_305 (e57.trans ha)]
    rfl
  have f82 : ∀ kk : Int32, (how ≠ 0 → (kk = 24 ∧ how = 1) ∨ (kk = 25 ∧ how = 2)) → s336_82 (rM w (k + 1)) w (Int32.ofNat n) (Int32.ofNat how) la kk (rs_w s 62 g) = some (none, if a = 0 then rzS (rs_w s 62 g) (beX how o) (s0.2.1 55 n) else rs_w s 62 g) := by
    intro kk hkk
    unfold s336_82
    by_cases ha : a = 0
    · rw [if_pos ha]
      refine inq (by rw [e57, ha]; decide) ?_
      by_cases h0 : how = 0
      · refine itq (by rw [h0]; decide) ?_
        have : beX how o = 0 := if_pos (Or.inl h0)
        rw [this]
        rfl
      · refine inq (by rcases hc with q | q | q <;> subst q <;> first | exact absurd rfl h0 | decide) ?_
        rcases ls ha with ⟨_, l0, on⟩ | ⟨e0, l, W, y0, _, el, l1, l2, _, w1, w2, _, w3, on⟩
        · rw [l0]
          refine itq (by decide) ?_
          have : beX how o = 8 := if_neg (fun z => z.elim h0 (fun z => by rw [on] at z; cases z))
          rw [this]
          exact f112 ha
        · subst el
          have g44 : rs_aI (rs_w s 62 g) 44 (Int32.ofNat l) = some (Int32.ofNat (wK W)) := (aI_at (i := l) (by decide) rfl l2 (by decide)).trans (by show some (s.2.1 44 l) = _; rw [rk_A rk (by decide), w3])
          refine inq (fun z => ?_) (bsq g44 ?_)
          · have z : Int32.ofNat l = 0 := of_decide_eq_true z
            have := congrArg Int32.toInt z
            rw [of_int (by omega), i0] at this
            omega
          · obtain ⟨v1, v2⟩ := wK_hw W w1 w2
            have iff : Int32.ofNat (wK W) = kk ↔ Int32.ofNat W = hwC how := by
              rcases hkk h0 with ⟨y1, y2⟩ | ⟨y1, y2⟩ <;> subst y1 <;> subst y2
              · exact v1
              · exact v2
            by_cases c : Int32.ofNat W = hwC how
            · have : beX how o = 0 := if_pos (Or.inr (by rw [on, c]))
              rw [this]
              exact itq (decide_eq_true (iff.mpr c)) rfl
            · have : beX how o = 8 := if_neg (fun z => z.elim h0 (fun z => by rw [on] at z; exact c (Option.some.inj z)))
              rw [this]
              exact inq (fun z => c (iff.mp (of_decide_eq_true z))) (f112 ha)
    · rw [if_neg ha]
      refine itq ?_ rfl
      rw [e57, f1_ne]
      exact decide_eq_true ha
  unfold s336_65
  refine bsq (a := rs_w s 62 g) rfl ?_
  by_cases c : how = 1
  · exact inq (by rw [c]; decide) (f82 24 (fun _ => Or.inl ⟨rfl, c⟩))
  · exact itq (by rcases hc with q | q | q <;> subst q <;> first | exact absurd rfl c | decide) (f82 25 (fun z => Or.inr ⟨rfl, by omega⟩))
/-- where a block stands: with a fault or without, more may be seen than at its beginning -/
def BS (L : Nat) (xs : Nat → Int32) (cx : Nat → Nat) (C Sc M : Nat) (pt vr : Int32) (mv : Value) (hB : rm_H) (s0 : rS) (m : Nat) (h : rm_H) (s : rS) (ds : List Nat) (G : List scN) (lv : Nat) (gn a b : Int32) (u : Nat → Nat) (A B : Nat → Int32) : Prop := ∃ (dx : List Nat) (gx : List scN) (f : Nat → Int64) (sl ty : Nat → Int32), KH L xs cx C Sc M pt vr mv h (ds ++ dx) f sl ty gn (if lv = 0 then 0 else 1) a b u A B ∧ (∀ i, i < ds.length → f i = gN G i ∧ sl i = gSl G i ∧ ty i = gTp G i) ∧ bH L xs hB h ∧ rK s0 s ∧ s.1 57 = a ∧ (a ≠ 0 → s.1 58 = b ∧ 0 < a.toInt) ∧ (a = 0 → RG s (G ++ gx) lv gn m)
theorem gAt_l (hi : i < G.length) : gAt (G ++ gx) i = gAt G i := by
  have hX : G[i]? = some (G[i]'hi) := List.getElem?_eq_getElem hi
  rw [gAt_of hX, gAt_of ((List.getElem?_append_left hi).trans hX)]
theorem BS_ok (e : CKJ L xs cx C Sc M pt vr mv hB s0 nk m h s (ds ++ dx) (G ++ gx) lv gn a b u A B) (dl : ds.length = G.length) : BS L xs cx C Sc M pt vr mv hB s0 m h s ds G lv gn a b u A B := by
  obtain ⟨e1, e2, e3, e4, e5, e6, e7, e8⟩ := e
  refine ⟨dx, gx, _, _, _, e1, fun i hi => ?_, e3, e4, e5, e6, e7⟩
  unfold gN gSl gTp
  rw [gAt_l (by omega)]
  exact ⟨rfl, rfl, rfl⟩
theorem BS_ft (e : FS L xs cx C Sc M pt vr mv hB s0 nk h s (ds ++ dx) (G ++ gx) lv a b u) (dl : ds.length = G.length) : ∃ gn A B, BS L xs cx C Sc M pt vr mv hB s0 m h s ds G lv gn a b u A B := by
  obtain ⟨dy, f, sl, ty, gn, A, B, e1, e2, e3, e4, e5, e6, e7, e8, e9⟩ := e
  refine ⟨gn, A, B, dx ++ dy, gx, f, sl, ty, by rw [← List.append_assoc]; exact e1, fun i hi => ?_, e4, e5, e6, fun _ => ⟨e7, e8⟩, fun z => absurd z (ps_ne e8)⟩
  have q := e2 i (by rw [List.length_append]; omega)
  unfold gN gSl gTp at q ⊢
  rw [gAt_l (by omega)] at q
  exact q
/-- a block ends, by both -/
theorem blk_end {o : Option Int32} {la la' i4 y1 : Int32} (bs : BS L xs cx C Sc M pt vr mv hB s0 m h s ds G lv gn a b u A B) (dl : ds.length = G.length) (gw : GW s0 nk G lv (u 0)) (hu : u 0 ≤ ds.length) (hp : pts hB q0 q1 p es) (e1 : fd hB 12 p 1 = some (.int y1)) (e3 : fd hB 12 p 3 = some (.int (s0.2.1 55 n))) (hl : es.length ≤ 2000) (hh : how ≤ 2) (hn : n < 4400) (ls : lsS hB s0 es la o) (hla : a = 0 → la' = la) : ∃ h' s', b166_72 L xs zf (dM L xs zf w (k + 4)) w (some C) (some p) (hwC how) (Int32.ofNat ds.length) i4 (Int32.ofNat es.length) h = some (some (.int i4), h') ∧ s336_65 (rM w (k2 + 1)) w (Int32.ofNat n) (Int32.ofNat how) (Int32.ofNat ds.length) la' s = some (none, s') ∧ CKJ L xs cx C Sc M pt vr mv hB s0 nk m h' s' ds G lv gn (fa a (beX how o)) (fb a b (beX how o) (s0.2.1 55 n)) u A B ∧ wF cx C Sc pl ph u h h' ∧ wK2 u u h h' ∧ (∀ q, s'.2.1 q = s.2.1 q) ∧ s'.1 65 = s.1 65 := by
  obtain ⟨dx, gx, f, sl, ty, b1, b2, b3, b4, b5, b6, b7⟩ := bs
  obtain ⟨h', c1, c2, c3, c4⟩ := be_c (pl := pl) (ph := ph) (zf := zf) (w := w) (k := k) (i4 := i4) (how := how) (f' := gN G) (sl' := gSl G) (ty' := gTp G) b1 hu (fun i hi => ⟨(b2 i hi).1.symm, (b2 i hi).2.1.symm, (b2 i hi).2.2.symm⟩) b3 hp e1 e3 hl hh ls
  have r := be_r (w := w) (k := k2) (n := n) (how := how) (g := Int32.ofNat ds.length) (la := la') (o := o) (es := es) b4 hn hh b5 (fun z => by rw [hla z]; exact ls)
  have k62 : rK s (rs_w s 62 (Int32.ofNat ds.length)) := ⟨fun j hj => w_ne _ _ (by omega), fun _ _ _ _ _ _ => rfl, fun _ _ => rfl⟩
  refine ⟨h', _, c1, r, ?_, c3, c4, ?_, ?_⟩
  · by_cases ha : a = 0
    · subst ha
      have f0 : fa 0 (beX how o) = beX how o := if_pos rfl
      rw [if_pos rfl]
      obtain ⟨r62, r63, r64, r66, rr⟩ := b7 rfl
      by_cases hx : beX how o = 0
      · rw [hx] at c2 ⊢
        rw [fa_0, fb_0] at c2 ⊢
        have e0 : rzS (rs_w s 62 (Int32.ofNat ds.length)) 0 (s0.2.1 55 n) = rs_w s 62 (Int32.ofNat ds.length) := if_pos rfl
        rw [e0]
        refine ⟨c2, dl, bH_w b1 c3 b3, rK_trans b4 k62, by rw [w_ne _ _ (by decide)]; exact b5, fun z => absurd rfl z, fun _ => ⟨by rw [w_eq, dl], by rw [w_ne _ _ (by decide)]; exact r63, by rw [w_ne _ _ (by decide)]; exact r64, ⟨by rw [w_ne _ _ (by decide)]; exact r66.1, by rw [w_ne _ _ (by decide)]; exact r66.2⟩, fun i X hX => rr i X ?_⟩, gw⟩
        rw [List.getElem?_append_left (List.getElem?_eq_some_iff.mp hX).1]
        exact hX
      · have f1 : fb 0 b (beX how o) (s0.2.1 55 n) = s0.2.1 55 n := if_pos ⟨rfl, hx⟩
        rw [f0, f1] at c2 ⊢
        have e0 : rzS (rs_w s 62 (Int32.ofNat ds.length)) (beX how o) (s0.2.1 55 n) = rfS (rs_w s 62 (Int32.ofNat ds.length)) (beX how o) (s0.2.1 55 n) := if_neg hx
        rw [e0]
        exact ⟨c2, dl, bH_w b1 c3 b3, rK_trans b4 (rK_trans k62 rfS_K), rfS_57, fun _ => ⟨rfS_58, (beX_p how o).resolve_left hx⟩, fun z => absurd z hx, gw⟩
    · rw [fa_n ha, fb_n ha] at c2 ⊢
      rw [if_neg ha]
      exact ⟨c2, dl, bH_w b1 c3 b3, rK_trans b4 k62, by rw [w_ne _ _ (by decide)]; exact b5, fun z => by rw [w_ne _ _ (by decide)]; exact b6 z, fun z => absurd z ha, gw⟩
  · intro q
    split
    · unfold rzS
      split
      · rfl
      · rfl
    · rfl
  · split
    · unfold rzS
      split
      · rw [w_ne _ _ (by decide)]
      · unfold rfS
        rw [w_ne _ _ (by decide), w_ne _ _ (by decide), w_ne _ _ (by decide)]
    · rw [w_ne _ _ (by decide)]
end JBL
