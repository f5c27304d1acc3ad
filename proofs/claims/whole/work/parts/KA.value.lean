/-! A VALUE BY BOTH (274 / 408). -/
/-- Kind K of number k, as it is shown -/
def kS1 (L : Nat) (xs : Nat → Int32) (sB : rS) (kc : kCi) (h : rm_H) (Z : Nat → Prop) (k K : Nat) : Prop := ∃ (fs : List Value) (nq fl af cf f0 : Nat) (ds : List Nat), hc h K = some (.inr (9, fs)) ∧ fs[0]? = some (.ref nq) ∧ fs[4]? = some (.ref fl) ∧ aL h fl af cf ds ∧ ¬ Z K ∧ ¬ Z fl ∧ ¬ Z af ∧ nSz L xs h Z nq (sB.2.2 62 k) ∧ ds.length = (kc k).1 ∧ sB.2.1 64 k = Int32.ofNat f0 ∧ sB.2.1 64 (k + 1) = Int32.ofNat (f0 + ds.length) ∧ f0 + ds.length ≤ 64 ∧ ∀ i d, ds[i]? = some d → ∃ (dfs : List Value) (dq : Nat), hc h d = some (.inr (10, dfs)) ∧ dfs[0]? = some (.ref dq) ∧ dfs[7]? = some (.int (cT ((kc k).2.1 i))) ∧ ¬ Z d ∧ nSz L xs h Z dq (sB.2.2 67 (f0 + i)) ∧ dTy ((kc k).2.1 i) = true
/-- all Kinds, as they are shown -/
def kSh (L : Nat) (xs : Nat → Int32) (sB : rS) (kc : kCi) (h : rm_H) (Z : Nat → Prop) (P : Nat) : Prop := ∃ (vs : List Value) (x9 ar cap : Nat) (kl : List Nat), hc h P = some (.inr (4, vs)) ∧ vs[1]? = some (.ref x9) ∧ aL h x9 ar cap kl ∧ ¬ Z P ∧ ¬ Z x9 ∧ ¬ Z ar ∧ (∀ K ∈ kl, ∃ fs, hc h K = some (.inr (9, fs)) ∧ ¬ Z K) ∧ ∀ k, k < 8 → (kc k).1 ≤ 8 → kl[k]? = some (kc k).2.2 ∧ kS1 L xs sB kc h Z k (kc k).2.2
section KSH
variable {L : Nat} {xs : Nat → Int32} {zf : Value} {w k k2 b m c d q n t o dn P K l ar cap : Nat} {st dep x : Int32} {mk sa sc : Nat → Int32} {h h1 h2 h' : rm_H} {s s1 s2 s' sB : rS} {Z Z1 Z2 Zx : Nat → Prop} {cd v : Int64} {kc : kCi} {es : List Nat} {sg : cS} {ka : kAp}
theorem aL_m (z5 : ¬ Z2 5) (f : sFx h1 Z1 h2 Z2) (y : aL h1 l ar cap es) (n1 : ¬ Z1 l) (n2 : ¬ Z1 ar) : aL h2 l ar cap es ∧ ¬ Z2 l ∧ ¬ Z2 ar := by
  obtain ⟨mc, l1, l2, l3, l4⟩ := y
  rcases l4 with ⟨r1, r2, r3⟩ | ⟨g, r1, r2, r3, r4⟩
  · exact ⟨⟨mc, (f _ _ l1 n1).1, l2, l3, Or.inl ⟨r1, r2, r3⟩⟩, (f _ _ l1 n1).2, by rw [r1]; exact z5⟩
  · exact ⟨⟨mc, (f _ _ l1 n1).1, l2, l3, Or.inr ⟨g, (f _ _ r1 n2).1, r2, r3, r4⟩⟩, (f _ _ l1 n1).2, (f _ _ r1 n2).2⟩
theorem kS1_m (z5 : ¬ Z2 5) (f : sFx h1 Z1 h2 Z2) (y : kS1 L xs sB kc h1 Z1 k K) : kS1 L xs sB kc h2 Z2 k K := by
  obtain ⟨fs, nq, fl, af, cf, f0, ds, a1, a2, a3, a4, a5, a6, a7, a8, a9, a10, a11, a12, a13⟩ := y
  obtain ⟨b1, b2, b3⟩ := aL_m z5 f a4 a6 a7
  refine ⟨fs, nq, fl, af, cf, f0, ds, (f _ _ a1 a5).1, a2, a3, b1, (f _ _ a1 a5).2, b2, b3, nSz_m f a8, a9, a10, a11, a12, fun i d hd => ?_⟩
  obtain ⟨dfs, dq, c1, c2, c3, c4, c5, c6⟩ := a13 i d hd
  exact ⟨dfs, dq, (f _ _ c1 c4).1, c2, c3, (f _ _ c1 c4).2, nSz_m f c5, c6⟩
theorem kSh_m (z5 : ¬ Z2 5) (f : sFx h1 Z1 h2 Z2) (y : kSh L xs sB kc h1 Z1 P) : kSh L xs sB kc h2 Z2 P := by
  obtain ⟨vs, x9, ar, cap, kl, a1, a2, a3, a4, a5, a6, a7, a8⟩ := y
  obtain ⟨b1, b2, b3⟩ := aL_m z5 f a3 a5 a6
  refine ⟨vs, x9, ar, cap, kl, (f _ _ a1 a4).1, a2, b1, (f _ _ a1 a4).2, b2, b3, fun K hK => ?_, fun k h1 h2 => ?_⟩
  · obtain ⟨fs, c1, c2⟩ := a7 K hK
    exact ⟨fs, f _ _ c1 c2⟩
  · obtain ⟨c1, c2⟩ := a8 k h1 h2
    exact ⟨c1, kS1_m z5 f c2⟩
theorem Zb_5 {Zx : Nat → Prop} (z5 : ¬ Zx 5) (hb : 21 ≤ b) : ¬ Zb Zx b 5 := fun z => by
  rcases z with z | z | z
  · exact z5 z
  · omega
  · omega
theorem oTx_b (ot : oTx h s b m c st dep mk sa sc) : 21 ≤ b ∧ ∃ f, hc h b = some (.inl (1, m, .inl f)) := by
  obtain ⟨_, _, _, _, _, n, ml, f, hS, _⟩ := ot
  exact ⟨hS.2.1, f, hc_of hS.2.1 hS.2.2.2.2.2.2.2⟩
/-- the cells of the run stay while both tell -/
theorem RH_tl {cdv : Value} {b' m' : Nat} (rh : RH cdv n sg (Zr n sg) h h) (hz : ∀ y, Zr n sg y → y < 30 ∨ 35 < y) (ot : oTx h s b m c st dep mk sa sc) (tc : tCh h b m h' b' m') : RH cdv n sg (Zr n sg) h' h' := by
  obtain ⟨_, f, hb⟩ := oTx_b ot
  refine ⟨fr_refl _ _, fun x hx => ⟨tc.1 _ _ (rh.2.1 x hx).1 ((hz _ ⟨x, hx, rfl⟩).imp id Or.inl) (fun z => ?_), Or.inl ⟨x, hx, rfl⟩⟩, rh.2.2.1, rh.2.2.2⟩
  have e := (rh.2.1 x hx).1
  rw [z, hb] at e
  have e := Option.some.inj e
  unfold vcl at e
  have nA : ∀ a r, vA sg a r ≠ .inl (1, m, .inl f) := fun a r z => by
    unfold vA at z
    split at z <;> cases z
  have nW : ∀ r, vW cdv n sg r ≠ .inl (1, m, .inl f) := fun r z => by
    unfold vW at z
    split at z <;> cases z
  split at e
  · exact nW _ e.symm
  · exact nA _ _ e.symm
theorem k_194 {vs : List Value} {x9 : Nat} {kl : List Nat} (hP : hc h P = some (.inr (4, vs))) (h1 : vs[1]? = some (.ref x9)) (e1 : aL h x9 ar cap kl) (e3 : ∀ K ∈ kl, ∃ fs, hc h K = some (.inr (9, fs))) (l8 : kl.length ≤ 100000) (x : Int32) : (dcV L xs (dM L xs zf w (k + 4)) 194 [4] (some P) [.int x] h).bind dxR = some (kNo kl x, h) := by
  rw [hc_v hP (by decide), e194]
  show (b194_0 L xs zf (dM L xs zf w (k + 3)) w (some P) x h).bind dxR = _
  have g1 : dgR L xs h 1 [4] (some P) = some (some x9) := hc_gR (p := some x9) hP h1 (by decide)
  have sz : (dcV L xs (dM L xs zf w (k + 3)) 101 [5] (some x9) [] h).bind dxI = some (Int32.ofNat kl.length, h) := by
    rw [al_v e1, al_size e1]
    rfl
  refine bsq (a := (some (va_rf (kNo kl x)), h)) ?_ (by cases kNo kl x <;> rfl)
  unfold b194_0 kNo
  have lt0 : mx_f1 .lt x = decide (x.toInt < 0) := f1_lt x
  rw [lt0]
  by_cases c1 : x.toInt < 0
  · rw [if_pos (decide_eq_true c1), if_pos c1]
    rfl
  · rw [if_neg (fun z => c1 (of_decide_eq_true z)), if_neg c1]
    have ex : x = Int32.ofNat x.toInt.toNat := by
      apply i32_of
      have := Int32.toInt_lt x
      by_cases q : x.toInt.toNat < 100000
      · rw [of_int (by omega)]
        omega
      · have hb : x.toInt = ((x.toInt.toNat : Nat) : Int) := by omega
        rw [show Int32.ofNat x.toInt.toNat = Int32.ofInt ((x.toInt.toNat : Nat) : Int) from rfl, ← hb, Int32.ofInt_toInt]
    refine bsq g1 (bsq sz ?_)
    dsimp only
    rw [f2_lt, of_int (show kl.length ≤ 100000000 by omega)]
    by_cases c2 : x.toInt < (kl.length : Int)
    · obtain ⟨K, hK⟩ : ∃ K, kl[x.toInt.toNat]? = some K := ⟨kl[x.toInt.toNat]'(by omega), List.getElem?_eq_getElem (by omega)⟩
      have gt : (dcV L xs (dM L xs zf w (k + 3)) 146 [5] (some x9) [.int x] h).bind dxR = some (some K, h) := by
        have q := al_get (L := L) (xs := xs) (zf := zf) (w := w) (k := k) e1 x.toInt.toNat hK
        rw [← ex] at q
        rw [al_v e1, q]
        rfl
      obtain ⟨fs, q2⟩ := e3 K (List.mem_of_getElem? hK)
      rw [if_pos (decide_eq_true c2), hK]
      exact bsq g1 (bsq gt (inq (by rw [ck_of q2]; decide) rfl))
    · rw [if_neg (fun z => c2 (of_decide_eq_true z)), List.getElem?_eq_none (by omega)]
      rfl
/-- the Kind of a number -/
theorem ks_194 (ks : kSh L xs sB kc h Z P) {kk : Nat} (k8 : kk < 8) (f8 : (kc kk).1 ≤ 8) : ∃ K, kS1 L xs sB kc h Z kk K ∧ (dcV L xs (dM L xs zf w (k + 4)) 194 [4] (some P) [.int (Int32.ofNat kk)] h).bind dxR = some (some K, h) := by
  obtain ⟨vs, x9, ar, cap, kl, a1, a2, a3, a4, a5, a6, a7, a8⟩ := ks
  obtain ⟨c1, c2⟩ := a8 kk k8 f8
  refine ⟨_, c2, ?_⟩
  have l1 : kl.length ≤ 100000 := by
    obtain ⟨mc, _, l2, _⟩ := a3
    exact l2
  rw [k_194 a1 a2 a3 (fun K hK => by obtain ⟨fs, e, _⟩ := a7 K hK; exact ⟨fs, e⟩) l1]
  unfold kNo
  rw [if_neg (by rw [of_int (by omega)]; omega), of_int (by omega)]
  show some (kl[((kk : Int)).toNat]?, h) = _
  rw [Int.toNat_natCast, c1]
theorem ks_K (ks : kSh L xs sB kc h Z P) {kk : Nat} (k8 : kk < 8) (f8 : (kc kk).1 ≤ 8) : kS1 L xs sB kc h Z kk (kc kk).2.2 := by
  obtain ⟨vs, x9, ar, cap, kl, a1, a2, a3, a4, a5, a6, a7, a8⟩ := ks
  exact (a8 kk k8 f8).2
theorem ks_any (ks : kSh L xs sB kc h Z P) (x : Int32) : ∃ p, (dcV L xs (dM L xs zf w (k + 4)) 194 [4] (some P) [.int x] h).bind dxR = some (p, h) := by
  obtain ⟨vs, x9, ar, cap, kl, a1, a2, a3, a4, a5, a6, a7, a8⟩ := ks
  have l1 : kl.length ≤ 100000 := by
    obtain ⟨mc, _, l2, _⟩ := a3
    exact l2
  exact ⟨_, k_194 a1 a2 a3 (fun K hK => by obtain ⟨fs, e, _⟩ := a7 K hK; exact ⟨fs, e⟩) l1 x⟩
/-- the word of no value -/
theorem nSz_none : nSz L xs h Z 12 1852796517 := by
  refine ⟨4, fun i => (ah_byt.getD 5 []).getD i 0, ⟨16, 19, [.ref 19, .int 0], fun i => (ah_byt.getD 5 []).getD i 0, by decide, rfl, rfl, rfl, rfl, fun i hi => ?_, Or.inl (by decide), Or.inl (by decide)⟩, by decide, fun j hj => ?_, by decide +kernel⟩
  · have : ∀ i, i < 4 → (ah_byt.getD 5 []).getD i 0 &&& 255 = (ah_byt.getD 5 []).getD i 0 := by decide +kernel
    exact this i hi
  · have : ∀ j, j < 4 → 1 ≤ ((ah_byt.getD 5 []).getD (0 + j) 0).toInt ∧ ((ah_byt.getD 5 []).getD (0 + j) 0).toInt ≤ 255 := by decide +kernel
    exact this j hj
/-- a name, a letter, a number -/
theorem b_nln (hw : 20 ≤ w) (z : nSz L xs h (Zb Zx b) q cd) (ot : oTx h s b m c st dep mk sa sc) (hcc : c + 30 ≤ 1000000) (hd : d ≤ 255) (x : Int32) : ∃ h1 h2 h3 s1 s2 s3, (dcV L xs (dM L xs zf w (k + 8)) 277 [3] (some 30) [va_rf (some q)] h).bind dxV = some h1 ∧ (dcV L xs (dM L xs zf w (k + 8)) 276 [3] (some 30) [.int (Int32.ofNat d)] h1).bind dxV = some h2 ∧ (dcV L xs (dM L xs zf w (k + 8)) 275 [3] (some 30) [.int x] h2).bind dxV = some h3 ∧ (rM w (k2 + 2) 409 [.ref 36, .long cd] s).bind rxV = some s1 ∧ (rM w (k2 + 2) 410 [.ref 36, .int (Int32.ofNat d)] s1).bind rxV = some s2 ∧ (rM w (k2 + 2) 411 [.ref 36, .int x] s2).bind rxV = some s3 ∧ pTl st dep mk sa sc h s b m c 20 h3 s3 ∧ oLs s s1 := by
  obtain ⟨h1, s1, a1, a2, b1, m1, c1, a3, a4, a5, a6⟩ := b_name (L := L) (xs := xs) (zf := zf) (w := w) (k := k) (k2 := k2) hw z ot (by omega)
  obtain ⟨h2, s2, b2, m2, e1, e2, e3, e4, e5⟩ := l_cl (L := L) (xs := xs) (zf := zf) (w := w) (k := k + 1) (k2 := k2 + 1) a3 (by omega) hd
  obtain ⟨h3, s3, g1, g2, g3⟩ := b_num (L := L) (xs := xs) (zf := zf) (w := w) (k := k) (k2 := k2) hw e3 (by omega) x
  refine ⟨h1, h2, h3, s1, s2, s3, ?_, e1, ?_, ?_, e2, ?_, ?_, a5⟩
  · rw [hc_v ot.1 (by decide)]
    show (dM L xs zf w (k + 8) 277 [.ref 30, .ref q] h).bind dxV = _
    rw [a1]
    rfl
  · rw [hc_v e3.1 (by decide), g1]
    rfl
  · rw [a2]
    rfl
  · rw [g2]
    rfl
  · exact pTl_le (pTl_t (q := 8) a4 a5 a6 (pTl_t (q := 1) e4 e5 (Nat.le_refl _) g3)) (by omega)
/-- types as the class has them -/
theorem ct_all : ∀ t, t < 72 → dTy t = true → (t = 1 ∧ cT t &&& 15 = 1) ∨ (8 ≤ t ∧ t % 8 < 5 ∧ cT t &&& 15 = 5 ∧ (cT t >>> ((4 : Int32) &&& 31)) &&& 15 = Int32.ofNat (t / 8 - 1)) ∨ (8 ≤ t ∧ t % 8 = 5 ∧ cT t &&& 15 = 3 ∧ (cT t >>> ((4 : Int32) &&& 31)) &&& 15 = Int32.ofNat (t / 8 - 1)) := by decide +kernel
end KSH
