/-! BOTH CHECK: steps. -/
def hwC (how : Nat) : Int32 := if how = 1 then 19 else if how = 2 then 20 else 0
section JST
variable {L : Nat} {xs : Nat → Int32} {zf : Value} {w C Sc M Pl Ph LO HI nk m lv n p q i d lo hi k k2 z z2 W ke kr ke2 kr2 K l τ px pl ph lo' hi' pe ne how : Nat} {cx : Nat → Nat} {hB h h1 h2 : rm_H} {s0 s s1 s2 : rS} {pt vr gn gn1 a b a1 b1 x y rc t v : Int32} {mv : Value} {ds kl ml es ns ts ts2 qs : List Nat} {G : List scN} {u u1 u2 : Nat → Nat} {A B A1 B1 : Nat → Int32} {c : Int64} {X : scN} {f : Nat → Int64} {sl ty : Nat → Int32} {sw : Bool}
/-- an expression that must be an int, by both -/
def JI (L : Nat) (xs : Nat → Int32) (zf : Value) (w : Nat) (cx : Nat → Nat) (C Sc M : Nat) (pt vr : Int32) (mv : Value) (hB : rm_H) (s0 : rS) (nk m Pl Ph LO HI z p n lo hi ke kr : Nat) : Prop := ∀ (j j2 : Nat) (h : rm_H) (s : rS) (ds : List Nat) (G : List scN) (lv : Nat) (gn b : Int32) (u : Nat → Nat) (A B : Nat → Int32), CKJ L xs cx C Sc M pt vr mv hB s0 nk m h s ds G lv gn 0 b u A B → lv + z ≤ 55 → FV s0 G gn lo hi → (∀ i, lo ≤ i → i < hi → s.2.1 53 i = s0.2.1 53 i) → u 2 + 3 * (hi - lo) ≤ 9000 → ∃ h' s' r1 s1, (dcV L xs (dM L xs zf w (ke + j)) 211 [13] (some C) [va_rf (some p)] h).bind dxV = some h' ∧ rM w (kr + j2) 339 [.ref 36, .int (Int32.ofNat n)] s = some (some (.int r1), s1) ∧ rM w (kr + j2) 367 [.ref 36, .int (Int32.ofNat n), .int r1] s1 = some (none, s') ∧ OUT L xs cx C Sc M pt vr mv hB s0 nk m Pl Ph LO HI lo hi lv G ds gn u A B h s (3 * (hi - lo)) h' s' (fun gn' u' A' B' => ∀ SL AA BB : Nat → Int32, (∀ i, lo ≤ i → i < hi → SL i = s'.2.1 53 i) → (∀ i, u 2 ≤ i → i < u' 2 → AA i = A' i ∧ BB i = B' i) → (TU s0 SL AA BB m (hi - lo)).1 lv G gn n 1 gn' (u 2) (u' 2))
theorem j_211 (IH : JX L xs zf w cx C Sc M pt vr mv hB s0 nk m Pl Ph LO HI z 172 339 p n lo hi ke kr) (e1 : fd hB 12 p 1 = some (.int (s0.2.1 50 n))) (hn : n < 4400) (hk : 3 ≤ ke) (hk2 : 3 ≤ kr) : JI L xs zf w cx C Sc M pt vr mv hB s0 nk m Pl Ph LO HI z p n lo hi (ke + 1) kr := by
  intro j j2 h s ds G lv gn b u A B e hlz fv p53 hz
  obtain ⟨t, r, h1, s1, q1, q2, gn', a', b', u', A', B', o1, o2, o3, o4, o5, o6, o7⟩ := IH j j2 h s ds G lv gn b u A B e hlz fv p53 hz
  obtain ⟨kh, dl, bh, rk, e57, _, rg, gw⟩ := id e
  obtain ⟨kh1, dl1, bh1, rk1, e571, e581, rg1, gw1⟩ := id o1
  obtain ⟨k1, hk1⟩ : ∃ k1, ke + j = k1 + 3 := ⟨ke + j - 3, by omega⟩
  obtain ⟨k3, hk3⟩ : ∃ k1, kr + j2 = k1 + 3 := ⟨kr + j2 - 3, by omega⟩
  obtain ⟨h2, f1, f2, f3, f4⟩ := ck_rfz (pl := Pl) (ph := Ph) (zf := zf) (w := w) (k := k1 + 1) kh1 (niC t) (s0.2.1 50 n)
  have cls : (dcV L xs (dM L xs zf w (ke + 1 + j)) 211 [13] (some C) [va_rf (some p)] h).bind dxV = some h2 := by
    rw [ck_v kh, show ke + 1 + j = ke + j + 1 from by omega, e211]
    show (b211_0 L xs zf (dM L xs zf w (ke + j)) w (some C) (some p) h).bind dxV = _
    refine bsq (a := (none, h2)) ?_ rfl
    unfold b211_0
    refine bsq q1 (bsq (a := h2) ?_ rfl)
    rw [hk1]
    exact (c_209 kh1 (bh1.1.1 _ _ _ (by decide) e1) t).trans f1
  have E := CK_rg o1 f2 f3 (niC_p t)
  by_cases ha : a' = 0
  · subst ha
    obtain ⟨p1, p2, τ, p3, p4, p5, p6, p7, p8⟩ := o7 rfl
    subst p4
    subst p5
    have r6 := r_367 (w := w) (k := k3) e571 hn p3.1
    rw [rk_A rk1 (by decide) n] at r6
    refine ⟨h2, rzS s1 (niC (cT τ)) (s0.2.1 50 n), _, s1, cls, q2, by rw [hk3]; exact r6, gn', _, _, u', A', B', E, wF_trans o2 o3 f3, wK2_trans o3 f4 o2.1.1, o4, o5, r53_trans o6 rzS_r, fun z0 => ⟨p1, p2, fun SL AA BB y1 y2 => ?_⟩⟩
    have z0 : niC (cT τ) = 0 := z0
    have nt := niC_T τ (gTy_lt p3.1) p3.1
    have t1 : τ = 1 := by
      rw [z0] at nt
      by_cases c1 : τ = 1
      · exact c1
      · rw [if_neg c1] at nt
        by_cases c2 : τ = 0
        · rw [if_pos c2] at nt
          exact absurd nt (by decide)
        · rw [if_neg c2] at nt
          exact absurd nt (by decide)
    rw [t1] at p8
    exact p8 SL AA BB (fun i i1 i2 => (y1 i i1 i2).trans (rzS_53 i)) y2
  · refine ⟨h2, s1, r, s1, cls, q2, ?_, gn', fa a' (niC t), fb a' b' (niC t) (s0.2.1 50 n), u', A', B', ?_, wF_trans o2 o3 f3, wK2_trans o3 f4 o2.1.1, o4, o5, o6, fun z0 => absurd (by rw [fa_n ha] at z0; exact z0) ha⟩
    · rw [hk3]
      exact r_367f (k := k3 + 1) (by rw [e571]; exact ha) r
    · rw [if_neg ha] at E
      exact E
/-- the class behind a fault in a step: what was seen is seen, and more may be -/
def FS (L : Nat) (xs : Nat → Int32) (cx : Nat → Nat) (C Sc M : Nat) (pt vr : Int32) (mv : Value) (hB : rm_H) (s0 : rS) (nk : Nat) (h : rm_H) (s : rS) (ds : List Nat) (G : List scN) (lv : Nat) (a b : Int32) (u : Nat → Nat) : Prop := ∃ (dx : List Nat) (f : Nat → Int64) (sl ty : Nat → Int32) (gn : Int32) (A B : Nat → Int32), KH L xs cx C Sc M pt vr mv h (ds ++ dx) f sl ty gn (if lv = 0 then 0 else 1) a b u A B ∧ (∀ i, i < ds.length → f i = gN G i ∧ sl i = gSl G i ∧ ty i = gTp G i) ∧ ds.length = G.length ∧ bH L xs hB h ∧ rK s0 s ∧ s.1 57 = a ∧ s.1 58 = b ∧ 0 < a.toInt ∧ GW s0 nk G lv (u 0)
theorem FS_of (e : CKJ L xs cx C Sc M pt vr mv hB s0 nk m h s ds G lv gn a b u A B) (ha : a ≠ 0) : FS L xs cx C Sc M pt vr mv hB s0 nk h s ds G lv a b u := by
  obtain ⟨e1, e2, e3, e4, e5, e6, e7, e8⟩ := e
  exact ⟨[], gN G, gSl G, gTp G, gn, A, B, by rw [List.append_nil]; exact e1, fun _ _ => ⟨rfl, rfl, rfl⟩, e2, e3, e4, e5, (e6 ha).1, (e6 ha).2, e8⟩
/-- what a step of both leaves -/
def SPO (L : Nat) (xs : Nat → Int32) (cx : Nat → Nat) (C Sc M : Nat) (pt vr : Int32) (mv : Value) (hB : rm_H) (s0 : rS) (nk m Pl Ph LO HI lo hi n how lv : Nat) (G : List scN) (ds : List Nat) (gn : Int32) (u : Nat → Nat) (A B : Nat → Int32) (h : rm_H) (s : rS) (cst : Nat) (t : Int32) (h' : rm_H) (s' : rS) : Prop :=
  ∃ a' b' u', wF cx C Sc Pl Ph u h h' ∧ wK2 u u' h h' ∧ u' 0 = u 0 ∧ u' 2 ≤ u 2 + cst ∧ r53 lo hi s s' ∧ ((a' ≠ 0 ∧ FS L xs cx C Sc M pt vr mv hB s0 nk h' s' ds G lv a' b' u') ∨ (a' = 0 ∧ ∃ dx G' gn' A' B' tg, CKJ L xs cx C Sc M pt vr mv hB s0 nk m h' s' (ds ++ dx) G' lv gn' 0 b' u' A' B' ∧ (∃ gx, G' = G ++ gx) ∧ (∀ i, i < u 2 → A' i = A i ∧ B' i = B i) ∧ (∀ lo2 hi2, (hi2 ≤ lo ∨ hi ≤ lo2) → LO ≤ lo2 → hi2 ≤ HI → FV s0 G gn lo2 hi2 → FV s0 G' gn' lo2 hi2) ∧ (how = 2 → s0.2.1 44 n = 25 → vT s0 nk tg ∧ tg % 8 ≠ 6 ∧ tg ≠ 0 ∧ t = cT tg ∧ s'.1 65 = rTp tg) ∧ ∀ (SL AA BB : Nat → Int32) (f : Nat), (∀ i, lo ≤ i → i < hi → SL i = s'.2.1 53 i) → (∀ i, u 2 ≤ i → i < u' 2 → AA i = A' i ∧ BB i = B' i) → hi - lo ≤ f + 1 → XS s0 SL AA BB m (TU s0 SL AA BB m f).1 (TU s0 SL AA BB m f).2 lv G gn n how G' tg gn' (u 2) (u' 2)))
def JS (L : Nat) (xs : Nat → Int32) (zf : Value) (w : Nat) (cx : Nat → Nat) (C Sc M : Nat) (pt vr : Int32) (mv : Value) (hB : rm_H) (s0 : rS) (nk m Pl Ph LO HI z how p n lo hi ke kr : Nat) : Prop := ∀ (j j2 : Nat) (h : rm_H) (s : rS) (ds : List Nat) (G : List scN) (lv : Nat) (gn b : Int32) (u : Nat → Nat) (A B : Nat → Int32), CKJ L xs cx C Sc M pt vr mv hB s0 nk m h s ds G lv gn 0 b u A B → lv + z ≤ 55 → FV s0 G gn lo hi → (∀ i, lo ≤ i → i < hi → s.2.1 53 i = s0.2.1 53 i) → u 2 + 3 * (hi - lo) ≤ 9000 → ∃ t h' s', (dcV L xs (dM L xs zf w (ke + j)) 169 [13] (some C) [va_rf (some p), .int (hwC how)] h).bind dxI = some (t, h') ∧ rM w (kr + j2) 337 [.ref 36, .int (Int32.ofNat n), .int (Int32.ofNat how)] s = some (none, s') ∧ SPO L xs cx C Sc M pt vr mv hB s0 nk m Pl Ph LO HI lo hi n how lv G ds gn u A B h s (3 * (hi - lo)) t h' s'
/-- a step that adds no name, with one instruction behind -/
theorem sp_e {P : Prop} {u4 : Nat → Nat} {A4 B4 : Nat → Int32} {op ov : Int32} {gn' a' b' : Int32} {u' : Nat → Nat} {A' B' : Nat → Int32} (o1 : CKJ L xs cx C Sc M pt vr mv hB s0 nk m h1 s1 ds G lv gn' a' b' u' A' B') (o2 : wF cx C Sc Pl Ph u h h1) (o3 : wK2 u u' h h1) (o4 : u' 0 = u 0) (o5 : u' 2 ≤ u 2 + 3 * (hi' - lo')) (o6 : r53 lo' hi' s s1) (o7 : a' = 0 → (∀ i, i < u 2 → A' i = A i ∧ B' i = B i) ∧ (∀ lo2 hi2, (hi2 ≤ lo' ∨ hi' ≤ lo2) → LO ≤ lo2 → hi2 ≤ HI → FV s0 G gn lo2 hi2 → FV s0 G gn' lo2 hi2) ∧ P) (m2 : KH L xs cx C Sc M pt vr mv h2 ds (gN G) (gSl G) (gTp G) gn' (if lv = 0 then 0 else 1) a' b' u4 A4 B4) (m3 : wF cx C Sc Pl Ph u' h1 h2) (m4 : wK2 u' u4 h1 h2) (m5 : u4 2 = u' 2 + 1) (m6 : u4 0 = u' 0) (m7 : A4 (u' 2) = op ∧ B4 (u' 2) = ov) (m8 : ∀ i, i < u' 2 → A4 i = A' i ∧ B4 i = B' i) (d1 : lo ≤ lo') (d2 : hi' ≤ hi) (d3 : hi' - lo' < hi - lo) (nh : how = 2 → s0.2.1 44 n ≠ 25) (xs' : ∀ (SL AA BB : Nat → Int32) (f : Nat), (∀ i, lo' ≤ i → i < hi' → SL i = s1.2.1 53 i) → (∀ i, u 2 ≤ i → i < u' 2 → AA i = A' i ∧ BB i = B' i) → (AA (u' 2) = op ∧ BB (u' 2) = ov) → hi' - lo' ≤ f → P → XS s0 SL AA BB m (TU s0 SL AA BB m f).1 (TU s0 SL AA BB m f).2 lv G gn n how G 0 gn' (u 2) (u' 2 + 1)) : SPO L xs cx C Sc M pt vr mv hB s0 nk m Pl Ph LO HI lo hi n how lv G ds gn u A B h s (3 * (hi - lo)) t h2 s1 := by
  have E := CK_e0 o1 m2 m3 m6
  have uu : u 2 ≤ u' 2 := o3.2.2.2.2.1
  refine ⟨a', b', u4, wF_trans o2 o3 m3, wK2_trans o3 m4 o2.1.1, m6.trans o4, by omega, r53_mono o6 d1 d2, ?_⟩
  by_cases ha : a' = 0
  · subst ha
    obtain ⟨p1, p2, p3⟩ := o7 rfl
    refine Or.inr ⟨rfl, [], G, gn', A4, B4, 0, by rw [List.append_nil]; exact E, ⟨[], by rw [List.append_nil]⟩, fun i hi => ⟨(m8 i (by omega)).1.trans (p1 i hi).1, (m8 i (by omega)).2.trans (p1 i hi).2⟩, fun lo2 hi2 y1 y2 y3 y4 => p2 lo2 hi2 (by omega) y2 y3 y4, fun y1 y2 => absurd y2 (nh y1), fun SL AA BB f y1 y2 y3 => ?_⟩
    rw [m5]
    refine xs' SL AA BB f (fun i i1 i2 => y1 i (by omega) (by omega)) (fun i i1 i2 => ?_) ?_ (by omega) p3
    · have q := y2 i i1 (by omega)
      exact ⟨q.1.trans (m8 i i2).1, q.2.trans (m8 i i2).2⟩
    · have q := y2 (u' 2) uu (by omega)
      exact ⟨q.1.trans m7.1, q.2.trans m7.2⟩
  · exact Or.inl ⟨ha, FS_of E ha⟩
/-- print -/
theorem js_23 (IH : JI L xs zf w cx C Sc M pt vr mv hB s0 nk m Pl Ph LO HI z px l lo' hi' ke kr) (e0 : fd hB 12 p 0 = some (.int 18)) (e8 : fd hB 12 p 8 = some (.ref px)) (r44 : s0.2.1 44 n = 23) (r45 : s0.2.1 45 n = Int32.ofNat l) (hl : 1 ≤ l ∧ l < 4400) (hn : n < 4400) (d1 : lo ≤ lo') (d2 : hi' ≤ hi) (d3 : hi' - lo' < hi - lo) (hk : 3 ≤ ke) : JS L xs zf w cx C Sc M pt vr mv hB s0 nk m Pl Ph LO HI z how p n lo hi (ke + 1) (kr + 1) := by
  intro j j2 h s ds G lv gn b u A B e hlz fv p53 hz
  obtain ⟨h1, s1, r1, s1', q1, q2, q3, gn', a', b', u', A', B', o1, o2, o3, o4, o5, o6, o7⟩ := IH j j2 h s ds G lv gn b u A B e hlz (FV_sub fv d1 d2) (fun i i1 i2 => p53 i (by omega) (by omega)) (by omega)
  obtain ⟨kh, dl, bh, rk, e57, _, rg, gw⟩ := id e
  obtain ⟨k1, hk1⟩ : ∃ k1, ke + j = k1 + 3 := ⟨ke + j - 3, by omega⟩
  obtain ⟨h2, u4, A4, B4, m1, m2, m3, m4, m5, m6, m7, m8⟩ := ck_emit (pl := Pl) (ph := Ph) (zf := zf) (w := w) (k := k1) o1.1 (by omega) 14 0
  refine ⟨0, h2, s1, ?_, ?_, sp_e o1 o2 o3 o4 o5 o6 o7 m2 m3 m4 m5 m6 m7 m8 d1 d2 d3 (fun _ => by rw [r44]; decide) (fun SL AA BB f y1 y2 y3 y4 p3 => ⟨23, l, r44, r45, hl.1, hl.2, rfl, rfl, u' 2, TU_e (p3 SL AA BB y1 y2) y4, rfl, y3.1, y3.2⟩)⟩
  · rw [ck_v kh, show ke + 1 + j = ke + j + 1 from by omega, e169]
    show (b169_0 L xs zf (dM L xs zf w (ke + j)) w (some C) (some p) (hwC how) h).bind dxI = _
    refine bsq (a := (some (.int 0), h2)) ?_ rfl
    unfold b169_0
    rw [← hk1] at m1
    exact bsq (fd_I (bh.1.1 _ _ _ (by decide) e0) (by decide)) (inq (by decide) (inq (by decide) (inq (by decide) (inq (by decide) (itq rfl (bsq (fd_R (o := some px) (bh.1.1 _ _ _ (by decide) e8) (by decide)) (bsq q1 (bsq (ck_0 o1.1) (bsq m1 rfl)))))))))
  · rw [show kr + 1 + j2 = kr + j2 + 1 from by omega, y337]
    show s337_0 (rM w (kr + j2)) w (Int32.ofNat n) (Int32.ofNat how) s = _
    unfold s337_0
    exact bsq (a := Int32.ofNat l) ((aI_at (i := n) (by decide) rfl hn (by decide)).trans (by rw [rk_A rk (by decide), r45])) (bsq (a := (23 : Int32)) ((aI_at (i := n) (by decide) rfl hn (by decide)).trans (by rw [rk_A rk (by decide), r44])) (inq (by decide) (inq (by decide) (inq (by decide) (inq (by decide) (itq rfl (bsq (a := (r1, s1')) (by rw [q2]; rfl) (bsq (a := s1) (by rw [q3]; rfl) rfl))))))))
/-- an expression as a step -/
theorem js_27 (IH : JX L xs zf w cx C Sc M pt vr mv hB s0 nk m Pl Ph LO HI z 172 339 px l lo' hi' ke kr) (e0 : fd hB 12 p 0 = some (.int 22)) (e8 : fd hB 12 p 8 = some (.ref px)) (r44 : s0.2.1 44 n = 27) (r45 : s0.2.1 45 n = Int32.ofNat l) (hl : 1 ≤ l ∧ l < 4400) (hn : n < 4400) (d1 : lo ≤ lo') (d2 : hi' ≤ hi) (d3 : hi' - lo' < hi - lo) (hk : 3 ≤ ke) : JS L xs zf w cx C Sc M pt vr mv hB s0 nk m Pl Ph LO HI z how p n lo hi (ke + 1) (kr + 1) := by
  intro j j2 h s ds G lv gn b u A B e hlz fv p53 hz
  obtain ⟨t, r1, h1, s1, q1, q2, gn', a', b', u', A', B', o1, o2, o3, o4, o5, o6, o7⟩ := IH j j2 h s ds G lv gn b u A B e hlz (FV_sub fv d1 d2) (fun i i1 i2 => p53 i (by omega) (by omega)) (by omega)
  obtain ⟨kh, dl, bh, rk, e57, _, rg, gw⟩ := id e
  obtain ⟨k1, hk1⟩ : ∃ k1, ke + j = k1 + 3 := ⟨ke + j - 3, by omega⟩
  obtain ⟨h2, u4, A4, B4, m1, m2, m3, m4, m5, m6, m7, m8⟩ := ck_emit (pl := Pl) (ph := Ph) (zf := zf) (w := w) (k := k1) o1.1 (by omega) 17 0
  refine ⟨0, h2, s1, ?_, ?_, sp_e o1 o2 o3 o4 o5 o6 o7 m2 m3 m4 m5 m6 m7 m8 d1 d2 d3 (fun _ => by rw [r44]; decide) (fun SL AA BB f y1 y2 y3 y4 p3 => ?_)⟩
  · rw [ck_v kh, show ke + 1 + j = ke + j + 1 from by omega, e169]
    show (b169_0 L xs zf (dM L xs zf w (ke + j)) w (some C) (some p) (hwC how) h).bind dxI = _
    refine bsq (a := (some (.int 0), h2)) ?_ rfl
    unfold b169_0
    rw [← hk1] at m1
    exact bsq (fd_I (bh.1.1 _ _ _ (by decide) e0) (by decide)) (inq (by decide) (inq (by decide) (inq (by decide) (inq (by decide) (inq (by decide) (inq (by decide) (inq (by decide) (inq (by decide) (itq rfl (bsq (fd_R (o := some px) (bh.1.1 _ _ _ (by decide) e8) (by decide)) (bsq q1 (bsq (ck_0 o1.1) (bsq m1 rfl)))))))))))))
  · rw [show kr + 1 + j2 = kr + j2 + 1 from by omega, y337]
    show s337_0 (rM w (kr + j2)) w (Int32.ofNat n) (Int32.ofNat how) s = _
    unfold s337_0
    exact bsq (a := Int32.ofNat l) ((aI_at (i := n) (by decide) rfl hn (by decide)).trans (by rw [rk_A rk (by decide), r45])) (bsq (a := (27 : Int32)) ((aI_at (i := n) (by decide) rfl hn (by decide)).trans (by rw [rk_A rk (by decide), r44])) (itq (by decide) (bsq (a := (r1, s1)) (by rw [q2]; rfl) rfl)))
  · obtain ⟨τ, _, _, _, _, _, p8⟩ := p3
    exact ⟨27, l, r44, r45, hl.1, hl.2, rfl, rfl, τ, u' 2, TU_e (p8 SL AA BB y1 y2) y4, rfl, y3.1, y3.2⟩
/-- put as a step -/
theorem js_26 (IH : JP L xs zf w cx C Sc M pt vr mv hB s0 nk m Pl Ph LO HI z px l pe ne lo hi ke kr false) (e0 : fd hB 12 p 0 = some (.int 21)) (e8 : fd hB 12 p 8 = some (.ref px)) (e9 : fd hB 12 p 9 = some (.ref pe)) (r44 : s0.2.1 44 n = 26) (r45 : s0.2.1 45 n = Int32.ofNat l) (r46 : s0.2.1 46 n = Int32.ofNat ne) (hl : 1 ≤ l ∧ l < 4400) (hne : 1 ≤ ne ∧ ne < 4400) (hn : n < 4400) : JS L xs zf w cx C Sc M pt vr mv hB s0 nk m Pl Ph LO HI z how p n lo hi (ke + 1) (kr + 1) := by
  intro j j2 h s ds G lv gn b u A B e hlz fv p53 hz
  obtain ⟨t, r1, h1, s1, q1, q2, gn', a', b', u', A', B', o1, o2, o3, o4, o5, o6, o7⟩ := IH j j2 h s ds G lv gn b u A B e hlz fv p53 hz
  obtain ⟨kh, dl, bh, rk, e57, _, rg, gw⟩ := id e
  refine ⟨0, h1, s1, ?_, ?_, a', b', u', o2, o3, o4, o5, o6, ?_⟩
  · rw [ck_v kh, show ke + 1 + j = ke + j + 1 from by omega, e169]
    show (b169_0 L xs zf (dM L xs zf w (ke + j)) w (some C) (some p) (hwC how) h).bind dxI = _
    refine bsq (a := (some (.int 0), h1)) ?_ rfl
    unfold b169_0
    exact bsq (fd_I (bh.1.1 _ _ _ (by decide) e0) (by decide)) (inq (by decide) (inq (by decide) (inq (by decide) (inq (by decide) (inq (by decide) (inq (by decide) (inq (by decide) (itq rfl (bsq (fd_R (o := some px) (bh.1.1 _ _ _ (by decide) e8) (by decide)) (bsq (fd_R (o := some pe) (bh.1.1 _ _ _ (by decide) e9) (by decide)) (bsq q1 rfl)))))))))))
  · rw [show kr + 1 + j2 = kr + j2 + 1 from by omega, y337]
    show s337_0 (rM w (kr + j2)) w (Int32.ofNat n) (Int32.ofNat how) s = _
    unfold s337_0
    have q2 : rM w (kr + j2) 351 [.ref 36, .int (Int32.ofNat l), .int (Int32.ofNat ne), .int 0] s = some (some (.int r1), s1) := q2
    exact bsq (a := Int32.ofNat l) ((aI_at (i := n) (by decide) rfl hn (by decide)).trans (by rw [rk_A rk (by decide), r45])) (bsq (a := (26 : Int32)) ((aI_at (i := n) (by decide) rfl hn (by decide)).trans (by rw [rk_A rk (by decide), r44])) (inq (by decide) (inq (by decide) (inq (by decide) (inq (by decide) (inq (by decide) (inq (by decide) (inq (by decide) (itq rfl (bsq (a := Int32.ofNat ne) ((aI_at (i := n) (by decide) rfl hn (by decide)).trans (by rw [rk_A rk (by decide), r46])) (bsq (a := (r1, s1)) (by rw [q2]; rfl) rfl)))))))))))
  · by_cases ha : a' = 0
    · subst ha
      obtain ⟨p1, p2, τ, _, p4⟩ := o7 rfl
      exact Or.inr ⟨rfl, [], G, gn', A', B', 0, by rw [List.append_nil]; exact o1, ⟨[], by rw [List.append_nil]⟩, p1, p2, fun _ y2 => absurd y2 (by rw [r44]; decide), fun SL AA BB f y1 y2 y3 => ⟨26, l, r44, r45, hl.1, hl.2, rfl, rfl, ne, τ, r46, hne.1, hne.2, p4 SL AA BB f y1 y2 y3⟩⟩
    · exact Or.inl ⟨ha, FS_of o1 ha⟩
end JST
