/-! THE LOOP OF SHOW (273 / 407): pieces. -/
def sU (f : Nat → Nat) : Nat → Nat
  | 0 => 0
  | n + 1 => sU f n + f n
theorem sU_c {f g : Nat → Nat} : ∀ n, (∀ j, j < n → g j = f j) → sU g n = sU f n := by
  intro n
  induction n with
  | zero => intro _; rfl
  | succ n ih =>
    intro h
    show sU g n + g n = sU f n + f n
    rw [ih (fun j hj => h j (by omega)), h n (by omega)]
theorem sU_1 {f g : Nat → Nat} {i : Nat} : ∀ n, i < n → (∀ j, j < n → j ≠ i → g j = f j) → sU g n + f i = sU f n + g i := by
  intro n
  induction n with
  | zero => intro h; omega
  | succ n ih =>
    intro hi h
    show sU g n + g n + f i = sU f n + f n + g i
    by_cases e : i = n
    · subst e
      have := sU_c (f := f) (g := g) i (fun j hj => h j (by omega) (by omega))
      omega
    · have := ih (by omega) (fun j hj ne => h j (by omega) ne)
      have := h n (by omega) (fun z => e z.symm)
      omega
theorem sU_ge {f : Nat → Nat} : ∀ n, (∀ j, j < n → 1 ≤ f j) → n ≤ sU f n := by
  intro n
  induction n with
  | zero => intro _; exact Nat.le_refl _
  | succ n ih =>
    intro h
    show n + 1 ≤ sU f n + f n
    have := ih (fun j hj => h j (by omega))
    have := h n (by omega)
    omega
/-- what showing leaves alone -/
def oL4 (s s' : rS) : Prop := (∀ p, p ≠ 111 → s'.1 p = s.1 p) ∧ (∀ p, p < 111 → s'.2.1 p = s.2.1 p) ∧ s'.2.2 = s.2.2
theorem oL4_r (s : rS) : oL4 s s := ⟨fun _ _ => rfl, fun _ _ => rfl, rfl⟩
theorem oL4_t {s s' s2 : rS} (x : oL4 s s') (y : oL4 s' s2) : oL4 s s2 := ⟨fun p h => (y.1 p h).trans (x.1 p h), fun p h => (y.2.1 p h).trans (x.2.1 p h), y.2.2.trans x.2.2⟩
theorem oL4_s {s s' : rS} (x : oLs s s') : oL4 s s' := ⟨x.1, fun p h => x.2.1 p (by omega), x.2.2⟩
theorem oL4_2 {s s' : rS} {o : Nat} (x : oL2 s s' o) : oL4 s s' := ⟨x.1, fun p h => x.2.1 p (by omega) (by omega), x.2.2.1⟩
theorem oL4_w {s : rS} {p i : Nat} {v : Int32} (hp : 111 ≤ p) : oL4 s (rs_wA s p i v) := ⟨fun _ _ => rfl, fun q h => wA_ne _ _ _ (by omega), rfl⟩
/-- objects as the loop reads them: all, and those that the owner knows -/
def lSh (kc : kCi) (om : oMg) (ka : kAp) (la : lAy) (sg : cS) (s : rS) (Kp : Nat → Prop) (row bs : Nat) : Prop := (∀ o, 1 ≤ o → o ≤ ka.2.2.1 → (ka.1 o < 8 ∧ (kc (ka.1 o)).1 ≤ 8) ∧ sg.2.1 1 o = Int32.ofNat (la.1 o) ∧ sg.2.1 0 (la.1 o) = Int32.ofNat (ka.1 o) ∧ s.2.1 87 o = Int32.ofNat (ka.1 o) ∧ s.2.1 88 o = Int32.ofNat (la.2.2.1 o) ∧ la.1 o + (kc (ka.1 o)).1 + 1 ≤ 400 ∧ la.2.2.1 o + (kc (ka.1 o)).1 ≤ 400 ∧ ∀ f, f < (kc (ka.1 o)).1 → vTy ka 0 ((kc (ka.1 o)).2.1 f) (om.1 (pO o f)) ∧ sg.2.1 0 (la.1 o + 1 + f) = cvl (om.1 (pO o f))) ∧ (∀ o, Kp o → 1 ≤ o ∧ o ≤ ka.2.2.1 ∧ ∀ f, f < (kc (ka.1 o)).1 → s.2.2 row (bs + la.2.2.1 o + f) = om.1 (pO o f) ∧ (oV (om.1 (pO o f)) ≠ 0 → Kp (oV (om.1 (pO o f))))) ∧ ((row = 96 ∧ bs ≤ 4400) ∨ (row = 107 ∧ bs ≤ 28400))
section SLP
variable {L : Nat} {xs : Nat → Int32} {zf : Value} {w k k2 b m c n dn P N tn o f kk K bs row lb sto : Nat} {st dep i4 i5 : Int32} {mk sa sc : Nat → Int32} {h : rm_H} {s sB : rS} {Zx : Nat → Prop} {v : Int64} {kc : kCi} {sg : cS} {ka : kAp}
theorem k_272 {Z : Nat → Prop} {hB : rm_H} {cdv : Value} (q : RH cdv n sg Z hB h) {i : Nat} (hi : i < 400) : dM L xs zf w (k + 1) 272 [.ref 24, .int (Int32.ofNat i)] h = some (some (.int (sg.2.1 0 i)), h) := by
  rw [e272]
  show b272_0 L xs zf (dM L xs zf w k) w (some 24) (Int32.ofNat i) h = _
  unfold b272_0
  refine ifn (by rw [f1_lt, of_int (by omega)]; exact fun z => absurd (of_decide_eq_true z) (by omega)) ?_
  refine bse (gXr (L := L) (xs := xs) q (j := 0) (by decide)) ?_
  refine bse (hc_aN (RH_wd (x := 1) q (by decide)) (by decide)) ?_
  refine ift (by rw [f2_lt, of_int (by omega), of_int (by omega)]; exact decide_eq_true (by omega)) ?_
  refine bse (gXr (L := L) (xs := xs) q (j := 0) (by decide)) ?_
  exact bse (rI_at (RH_wd (x := 1) q (by decide)) (by omega) (by decide)) rfl
/-- the class's turn begins -/
theorem lp_c (ot : oTx h s b m c st (Int32.ofNat (dn + 1)) mk sa sc) (rh : RH (.ref P) n sg (Zr n sg) h h) (ks : kSh L xs sB kc h (Zb Zx b) P) (esa : sa dn = Int32.ofNat o) (esc : sc dn = Int32.ofNat f) (dn4 : dn < 401) (tn8 : tn < 800) (o4 : o ≤ 400) (hst : sg.2.1 1 o = Int32.ofNat sto) (hs4 : sto < 400) (hkd : sg.2.1 0 sto = Int32.ofNat kk) (k8 : kk < 8) (f8 : (kc kk).1 ≤ 8) (ff : f ≤ (kc kk).1) :
    ∃ K, kS1 L xs sB kc h (Zb Zx b) kk K
    ∧ (f < (kc kk).1 → ∀ X, ((dsI h (some 35) (Int32.ofNat dn) (Int32.ofNat f + 1)).bind fun h58 => if mx_f1 .le (Int32.ofNat f) = true then b273_142 L xs zf (dM L xs zf w (k + 9)) w (b273_15 L xs zf (dM L xs zf w (k + 9)) w N) (some 30) (some 24) (Int32.ofNat tn) (Int32.ofNat o) (Int32.ofNat f) (some K) h58 else ((dcV L xs (dM L xs zf w (k + 9)) 276 [3] (some 30) [.int 44] h58).bind dxV).bind fun h61 => b273_142 L xs zf (dM L xs zf w (k + 9)) w (b273_15 L xs zf (dM L xs zf w (k + 9)) w N) (some 30) (some 24) (Int32.ofNat tn) (Int32.ofNat o) (Int32.ofNat f) (some K) h61) = some X → b273_15 L xs zf (dM L xs zf w (k + 9)) w (N + 1) (some 30) (some 24) (Int32.ofNat tn) h = some X)
    ∧ (¬ f < (kc kk).1 → ∀ X, b273_97 L xs zf (dM L xs zf w (k + 9)) w (b273_15 L xs zf (dM L xs zf w (k + 9)) w N) (some 30) (some 24) (Int32.ofNat tn) h = some X → b273_15 L xs zf (dM L xs zf w (k + 9)) w (N + 1) (some 30) (some 24) (Int32.ofNat tn) h = some X) := by
  obtain ⟨h30, h33, h34, h35, _⟩ := id ot
  obtain ⟨K, kz, g4⟩ := ks_194 (L := L) (xs := xs) (zf := zf) (w := w) (k := k + 5) ks k8 f8
  obtain ⟨fs, nq, fl, af, cf, f0, ds, q1, q2, q3, q4, q5, q6, q7, q8, q9, q10, q11, q12, q13⟩ := id kz
  refine ⟨K, kz, ?_⟩
  have g6 : dgI L xs h 6 [3] (some 30) = some (Int32.ofNat (dn + 1)) := hc_gI h30 rfl (by decide)
  have r9 : daI L xs h (some 34) (Int32.ofNat (dn + 1) - 1) = some (Int32.ofNat o) := by rw [of_dec, rI_at h34 dn4 (by decide), esa]
  have r19 : daI L xs h (some 35) (Int32.ofNat (dn + 1) - 1) = some (Int32.ofNat f) := by rw [of_dec, rI_at h35 dn4 (by decide), esc]
  have g266 : (dcV L xs (dM L xs zf w (k + 9)) 266 [2] (some 24) [.int (Int32.ofNat o)] h).bind dxI = some (Int32.ofNat (sto + 1), h) := by
    rw [cV_w rh, k_266 (k := k + 8) rh o4 hst]
    rfl
  have g272 : (dcV L xs (dM L xs zf w (k + 9)) 272 [2] (some 24) [.int (Int32.ofNat (sto + 1) - 1)] h).bind dxI = some (Int32.ofNat kk, h) := by
    rw [cV_w rh, of_dec, k_272 (k := k + 8) rh hs4, hkd]
    rfl
  have sz : (dcV L xs (dM L xs zf w (k + 9)) 101 [5] (some fl) [] h).bind dxI = some (Int32.ofNat ds.length, h) := by
    rw [al_v q4, al_size q4]
    rfl
  have hd : ∀ X, (if mx_f2 .lt (Int32.ofNat f) (Int32.ofNat ds.length) = true then (dgR L xs h 3 [3] (some 30)).bind fun p54 => (dgI L xs h 6 [3] (some 30)).bind fun x56 => (dsI h p54 (x56 - 1) (Int32.ofNat f + 1)).bind fun h58 => if mx_f1 .le (Int32.ofNat f) = true then b273_142 L xs zf (dM L xs zf w (k + 9)) w (b273_15 L xs zf (dM L xs zf w (k + 9)) w N) (some 30) (some 24) (Int32.ofNat tn) (Int32.ofNat o) (Int32.ofNat f) (some K) h58 else ((dcV L xs (dM L xs zf w (k + 9)) 276 [3] (some 30) [.int 44] h58).bind dxV).bind fun h61 => b273_142 L xs zf (dM L xs zf w (k + 9)) w (b273_15 L xs zf (dM L xs zf w (k + 9)) w N) (some 30) (some 24) (Int32.ofNat tn) (Int32.ofNat o) (Int32.ofNat f) (some K) h61 else b273_97 L xs zf (dM L xs zf w (k + 9)) w (b273_15 L xs zf (dM L xs zf w (k + 9)) w N) (some 30) (some 24) (Int32.ofNat tn) h) = some X → b273_15 L xs zf (dM L xs zf w (k + 9)) w (N + 1) (some 30) (some 24) (Int32.ofNat tn) h = some X := by
    intro X hX
    unfold b273_15
    refine ifn (by rw [f2_ge, of_int (by omega), show (800 : Int32).toInt = 800 from by decide]; exact fun z => absurd (of_decide_eq_true z) (by omega)) ?_
    refine bse g6 (ifn (by rw [f1_le, of_int (by omega)]; exact fun z => absurd (of_decide_eq_true z) (by omega)) ?_)
    refine bse (hc_gR (p := some 34) h30 rfl (by decide)) (bse g6 (bse r9 (bse (hc_gR (p := some 35) h30 rfl (by decide)) (bse g6 (bse r19 ?_)))))
    refine bse (k_7P (L := L) (xs := xs) rh) (bse g266 (bse g272 (bse g4 (ifn (fun z => by cases z) ?_))))
    exact bse (hc_gR (p := some fl) q1 q3 (by decide)) (bse sz hX)
  refine ⟨fun lt X hX => hd X ?_, fun ge X hX => hd X ?_⟩
  · refine ift (by rw [f2_lt, of_int (by omega), of_int (by omega)]; exact decide_eq_true (by omega)) ?_
    refine bse (hc_gR (p := some 35) h30 rfl (by decide)) (bse g6 ?_)
    rw [of_dec]
    exact hX
  · exact ifn (by rw [f2_lt, of_int (by omega), of_int (by omega)]; exact fun z => absurd (of_decide_eq_true z) (by omega)) hX
/-- a field's name by both, then its value -/
theorem lp_f (hw : 20 ≤ w) (z5 : ¬ Zx 5) (hz : ∀ y, Zr n sg y → y < 30 ∨ 35 < y) (ot : oTx h s b m c st dep mk sa sc) (hcc : c + 20 ≤ 1000000) (rh : RH (.ref P) n sg (Zr n sg) h h) (kz : kS1 L xs sB kc h (Zb Zx b) kk K) (fx : fxR sB s) (k8 : kk < 8) (f8 : (kc kk).1 ≤ 8) (lt : f < (kc kk).1) (o4 : o ≤ 400) (hst : sg.2.1 1 o = Int32.ofNat sto) (hs4 : sto + (kc kk).1 + 1 ≤ 400) (hv : sg.2.1 0 (sto + 1 + f) = cvl v) (h88 : s.2.1 88 o = Int32.ofNat lb) (hl : lb + (kc kk).1 ≤ 400) (hrow : (row = 96 ∧ bs ≤ 4400) ∨ (row = 107 ∧ bs ≤ 28400)) (hsv : s.2.2 row (bs + lb + f) = v) (K15 : Option Nat → Option Nat → Int32 → rm_H → Option dR) (K29 : Option Nat → Int32 → Int32 → rS → Option rA) :
    ∃ (h2 : rm_H) (s2 : rS) (b2 m2 c2 : Nat), oTx h2 s2 b2 m2 c2 st dep mk sa sc ∧ tCh h b m h2 b2 m2 ∧ oLs s s2 ∧ c2 ≤ c + 9
    ∧ (∀ h' X, dM L xs zf w (k + 9) 274 [.ref 30, .ref 24, .int (cT ((kc kk).2.1 f)), .int (cvl v)] h2 = some (none, h') → K15 (some 30) (some 24) (i4 + 1) h' = some X → b273_142 L xs zf (dM L xs zf w (k + 9)) w K15 (some 30) (some 24) i4 (Int32.ofNat o) (Int32.ofNat f) (some K) h = some X)
    ∧ (∀ (r : Int32) (s' : rS) X, rM w (k2 + 3) 408 [.ref 36, .long v] s2 = some (some (.int r), s') → (if mx_f1 .eq r = true then K29 (some row) (Int32.ofNat bs) i5 s' else (rs_sI s' 113 i5 (Int64.toInt32 v)).bind fun s25 => (rs_sI s25 114 i5 0).bind fun s30 => K29 (some row) (Int32.ofNat bs) (i5 + 1) s30) = some X → s407_112 (rM w (k2 + 3)) w K29 (some row) (Int32.ofNat bs) i5 (Int32.ofNat o) (Int32.ofNat f) (Int32.ofNat kk) s = some X) := by
  obtain ⟨fs, nq, fl, af, cf, f0, ds, q1, q2, q3, q4, q5, q6, q7, q8, q9, q10, q11, q12, q13⟩ := id kz
  obtain ⟨d, hd⟩ : ∃ d, ds[f]? = some d := ⟨ds[f]'(by omega), List.getElem?_eq_getElem (by omega)⟩
  obtain ⟨dfs, dq, d1, d2, d3, d4, d5, d6⟩ := q13 f d hd
  obtain ⟨h1, s1, a1, a2, b1, m1, c1, a3, a4, a5, a6⟩ := b_name (L := L) (xs := xs) (zf := zf) (w := w) (k := k + 1) (k2 := k2 + 1) hw d5 ot (by omega)
  obtain ⟨h2, s2, b2, m2, e1, e2, e3, e4, e5⟩ := l_cl (L := L) (xs := xs) (zf := zf) (w := w) (k := k + 2) (k2 := k2 + 2) (d := 58) a3 (by omega) (by decide)
  have tc := tCh_t a4 e4
  have rh2 := RH_tl rh hz ot tc
  have fm := tCh_f (Zx := Zx) tc
  refine ⟨h2, s2, b2, m2, c1 + 1, e3, tc, oLs_t a5 e5, by omega, fun h' X hv' hX => ?_, fun r s' X hr hX => ?_⟩
  · unfold b273_142
    refine bse (hc_gR (p := some fl) q1 q3 (by decide)) (bse (a := (some d, h)) (by rw [al_v q4, al_get (k := k + 6) q4 f hd]; rfl) ?_)
    refine ifn (by rw [ck_of d1]; decide) (bse (hc_gR (p := some dq) d1 d2 (by decide)) (bse (a := h1) ?_ (bse (a := h2) e1 ?_)))
    · rw [hc_v ot.1 (by decide)]
      show (dM L xs zf w (k + 9) 277 [.ref 30, .ref dq] h).bind dxV = _
      rw [a1]
      rfl
    refine bse (hc_gI (fm _ _ d1 d4).1 d3 (by decide)) (bse (a := (Int32.ofNat (sto + 1), h2)) ?_ (bse (a := (cvl v, h2)) ?_ (bse (a := h') ?_ hX)))
    · rw [cV_w rh2, k_266 (k := k + 8) rh2 o4 hst]
      rfl
    · show (dcV L xs (dM L xs zf w (k + 9)) 272 [2] (some 24) [.int (Int32.ofNat (sto + 1) + Int32.ofNat f)] h2).bind dxI = _
      rw [cV_w rh2, ← Int32.ofNat_add, k_272 (k := k + 8) rh2 (by omega), hv]
      rfl
    · rw [hc_v e3.1 (by decide)]
      show (dM L xs zf w (k + 9) 274 [.ref 30, .ref 24, .int (cT ((kc kk).2.1 f)), .int (cvl v)] h2).bind dxV = _
      rw [hv']
      rfl
  · unfold s407_112
    refine bse (a := Int32.ofNat f0) ?_ (bse (a := sB.2.2 67 (f0 + f)) ?_ (bse (a := s1) (by rw [a2]; rfl) (bse (a := s2) e2 (bse (a := Int32.ofNat lb) ?_ (bse (a := v) ?_ (bse (a := (r, s')) (by rw [hr]; rfl) ?_))))))
    · rw [aI_at (by decide) rfl (by omega) (by decide), fx.1 64 (by decide), q10]
    · rw [← Int32.ofNat_add, aJ_at (by decide) rfl (by omega) (by decide), fx.2 67 (by decide)]
    · rw [aI_at (by decide) rfl (by omega) (by decide), (oLs_t a5 e5).2.1 88 (by decide), h88]
    · show rs_aJ s2 row (Int32.ofNat bs + Int32.ofNat lb + Int32.ofNat f) = _
      rw [← Int32.ofNat_add, ← Int32.ofNat_add]
      rcases hrow with ⟨rfl, hb⟩ | ⟨rfl, hb⟩
      · rw [aJ_at (by decide) rfl (by omega) (by decide), (oLs_t a5 e5).2.2, hsv]
      · rw [aJ_at (by decide) rfl (by omega) (by decide), (oLs_t a5 e5).2.2, hsv]
    · exact hX
end SLP
