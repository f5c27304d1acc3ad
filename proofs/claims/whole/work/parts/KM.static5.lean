/-! WHAT A PROGRAM THAT WAS BUILT GIVES: makers, Main, the code; all static facts in one. -/
/-- the program's numbers -/
def pgW (sB : rS) (h : rm_H) (Z : Nat → Prop) (P : Nat) : Prop := ∃ (x9 x10 ar cap ar2 cap2 : Nat) (kl ml : List Nat) (vs : List Value) (F : Nat → Nat), hc h P = some (.inr (4, vs)) ∧ vs[1]? = some (.ref x9) ∧ vs[2]? = some (.ref x10) ∧ vs[4]? = some (.int (sB.1 24)) ∧ vs[5]? = some (.int (sB.1 25)) ∧ aL h x9 ar cap kl ∧ aL h x10 ar2 cap2 ml ∧ kl.length ≤ 8 ∧ F 0 = 0 ∧ (∀ i K, kl[i]? = some K → ∃ (fl af cf : Nat) (fs : List Nat) (gs : List Value), hc h K = some (.inr (9, gs)) ∧ gs[4]? = some (.ref fl) ∧ aL h fl af cf fs ∧ F (i + 1) = F i + fs.length ∧ ¬ Z K ∧ ¬ Z fl ∧ ¬ Z af) ∧ sB.1 32 = Int32.ofNat kl.length ∧ sB.1 42 = Int32.ofNat ml.length ∧ sB.1 38 = Int32.ofNat (F kl.length) ∧ ¬ Z P ∧ ¬ Z x9 ∧ ¬ Z ar ∧ ¬ Z x10 ∧ ¬ Z ar2
section STF
variable {L : Nat} {xs : Nat → Int32} {w P gn u2 nk m M kk k : Nat} {cx : Nat → Nat} {h h1 h2 : rm_H} {s sB : rS} {Z Z1 Z2 : Nat → Prop} {kl ml : List Nat} {kc : kCi} {A B : Nat → Int32} {mi : Nat → Nat × Nat × Nat × Nat × Nat}
theorem pgW_of (zd : zDj h Z P) (bl : BLT L xs w P h s) : pgW s h Z P := by
  obtain ⟨x9, x10, ar, cap, ar2, cap2, kl, ml, vs, F, a1, a2, a3, a4, a5, a6, a7, a8, a9, a10, a11, a12, a13⟩ := BLT_prog bl
  obtain ⟨z1, z2⟩ := aL_z zd a6
  obtain ⟨z3, z4⟩ := aL_z zd a7
  refine ⟨x9, x10, ar, cap, ar2, cap2, kl, ml, vs, F, a1, a2, a3, a4, a5, a6, a7, a8, a9, fun i K hK => ?_, a11, a12, a13, zd.1 _ _ _ a1 (by omega), z1, z2, z3, z4⟩
  obtain ⟨fl, af, cf, fs, e1, e2, e3⟩ := a10 i K hK
  obtain ⟨gs, g1, g2⟩ := fd_c e1
  obtain ⟨y1, y2⟩ := aL_z zd e2
  exact ⟨fl, af, cf, fs, gs, g1, g2, e2, e3, zd.1 _ _ _ g1 (by omega), y1, y2⟩
theorem pgW_m (z5 : ¬ Z2 5) (f : sFx h1 Z1 h2 Z2) (y : pgW sB h1 Z1 P) : pgW sB h2 Z2 P := by
  obtain ⟨x9, x10, ar, cap, ar2, cap2, kl, ml, vs, F, a1, a2, a3, a4, a5, a6, a7, a8, a9, a10, a11, a12, a13, n1, n2, n3, n4, n5⟩ := y
  obtain ⟨b1, b2, b3⟩ := aL_m z5 f a6 n2 n3
  obtain ⟨c1, c2, c3⟩ := aL_m z5 f a7 n4 n5
  refine ⟨x9, x10, ar, cap, ar2, cap2, kl, ml, vs, F, (f _ _ a1 n1).1, a2, a3, a4, a5, b1, c1, a8, a9, fun i K hK => ?_, a11, a12, a13, (f _ _ a1 n1).2, b2, b3, c2, c3⟩
  obtain ⟨fl, af, cf, fs, gs, e1, e2, e3, e4, e5, e6, e7⟩ := a10 i K hK
  obtain ⟨d1, d2, d3⟩ := aL_m z5 f e3 e6 e7
  exact ⟨fl, af, cf, fs, gs, (f _ _ e1 e5).1, e2, d1, e4, (f _ _ e1 e5).2, d2, d3⟩
/-- whose maker it is -/
theorem MOw_of (zd : zDj h Z P) (je : JE L xs cx h s nk kl ml) (bj : bJ L xs h s nk kl M m) (kq : kQ L xs h s kl k (kc k)) (hk : k < nk) (e71 : s.2.1 71 m = Int32.ofNat k) : MOw h Z M (kc k).2.2 := by
  obtain ⟨_, k2, K2, u1, u2, u3, _⟩ := bj
  have n8 := je.2.2.1
  have n9 := je.2.1
  have lt2 := (List.getElem?_eq_some_iff.mp u1).1
  have ek : k = k2 := ofn_inj (by omega) (by omega) (e71.symm.trans u3)
  subst ek
  have := kq.1
  rw [u1] at this
  cases this
  obtain ⟨fs, e1, e2⟩ := fd_c u2
  exact ⟨fs, e1, e2, zd.1 _ _ _ e1 (by omega)⟩
/-- the maker of a kind -/
theorem mk_of (zd : zDj h Z P) (je : JE L xs cx h s nk kl ml) (bj : ∀ m M, ml[m]? = some M → bJ L xs h s nk kl M m) (kq : ∀ k, k < nk → kQ L xs h s kl k (kc k)) (mq : ∀ m M, ml[m]? = some M → mQ L xs h s gn u2 A B m M (mi m)) (kr : kRl s kk) (h65 : s.2.1 65 kk = Int32.ofNat m) (m72 : m < 72) : mRl s m ∧ s.2.1 70 m = 0 ∧ s.2.1 75 m = -1 ∧ s.2.1 71 m = Int32.ofNat kk ∧ (s.2.1 66 kk = 0 → ∃ em, ∀ M, ml[m]? = some M → kNw s kc h Z M kk em) ∧ (s.2.1 66 kk = 1 → (∀ ps, pmT s m ps → ∀ q' ∈ ps, sdT q' = true) ∧ ∃ em, ∀ M, ml[m]? = some M → kNa s kc h Z M kk em) := by
  have hk := kRl_nk je kr
  obtain ⟨mk, m0, n1, e0, e1, e2, e3, e4, e5, e6, _⟩ := kK_of zd je hk (kq kk hk)
  have em : m = m0 := ofn_inj (by omega) (by omega) (h65.symm.trans e1)
  subst em
  have e71 := (e6 0 (Nat.zero_le _)).1
  rw [Nat.add_zero] at e71
  obtain ⟨em, f1, f2⟩ := kQ_em kr.1 (kq kk hk)
  obtain ⟨q0, _, _, _, _, _, _, _, _, _, _, _, _, _, _, _, _, _, _, _, _, _, r75, sd⟩ := mq m mk e4
  refine ⟨⟨kk, m, m + 1 + n1, kr, e1, e2, Nat.le_refl _, by omega, e3⟩, e5, r75.resolve_right (fun z => by rw [e5] at z; exact absurd z (by decide)), e71, fun _ => ⟨em, fun M hM => ?_⟩, fun h66 => ⟨fun ps pm => ?_, em, fun M hM => ?_⟩⟩
  · rw [e4] at hM
    cases hM
    exact ⟨f1, fun f hf => (f2 f hf).1, (kc kk).2.2, _, MOw_of zd je (bj m mk e4) (kq kk hk) hk e71, e0⟩
  · obtain ⟨us, z1, z2⟩ := sd kk kr.1 e71 (by rw [h66]; decide) (by rw [e5]; decide)
    have := pm_u z1 pm
    subst this
    exact z2
  · rw [e4] at hM
    cases hM
    exact ⟨f1, f2, MOw_of zd je (bj m mk e4) (kq kk hk) hk e71, _, e0⟩
/-- ALL THAT AN INSTRUCTION USES -/
theorem sT_of {vs : List Value} (zd : zDj h Z P) (hP : hc h P = some (.inr (4, vs))) (je : JE L xs cx h s nk kl ml) (bj : ∀ m M, ml[m]? = some M → bJ L xs h s nk kl M m) (kq : ∀ k, k < nk → kQ L xs h s kl k (kc k)) (k9 : ∀ k, nk ≤ k → (kc k).1 = 9) (mq : ∀ m M, ml[m]? = some M → mQ L xs h s gn u2 A B m M (mi m)) (stk : ∀ (m M i q lv : Nat) (G : List scN) (g : Int32) (St : List stE), ml[m]? = some M → PT s A B m (mi m).1 (mi m).2.1 (mi m).2.2.1 i q lv G g St → St.length ≤ 1010) : sTc s A B mi kc h Z P ml := by
  refine ⟨kQ_fd je kq, mKd_of zd je bj kq, kFr_of kq k9, mSd_of zd je bj kq mq, mNu_v (mNv_of zd bj mq), fun m hm => ?_, ⟨vs, hP, zd.1 _ _ _ hP (by omega)⟩, fun q kk m _ _ _ kr h65 m72 => mk_of zd je bj kq mq kr h65 m72⟩
  obtain ⟨k, M, hk, hM, _⟩ := mRl_M zd je kq hm
  exact cE_of zd (bj m M hM) hM (mq m M hM) (fun i q lv G g St pt => stk m M i q lv G g St hM pt)
theorem CB_of {vs : List Value} {ca oa cap x10 : Nat} {A0 : Nat → Int32} (zd : zDj h Z P) (hP : hc h P = some (.inr (4, vs))) (v2 : vs[2]? = some (.ref x10)) (v9 : vs[9]? = some (.ref ca)) (v10 : vs[10]? = some (.ref oa)) (v11 : vs[11]? = some (.int (Int32.ofNat u2))) (em : ∃ ar c, aL h x10 ar c ml) (ha : hc h ca = some (iaA cap A0)) (hb : hc h oa = some (iaA cap B)) (l1 : u2 ≤ cap) (l2 : cap ≤ 100000) (l3 : u2 ≤ 9000) (pa : P ≤ ca) (pb : P ≤ oa) (eA : ∀ i, i < u2 → A i = A0 i) (eB : ∀ i, u2 ≤ i → A i = 99) : CB h Z P A B u2 ml := by
  obtain ⟨ar, c, em⟩ := em
  obtain ⟨z1, z2⟩ := aL_z zd em
  exact ⟨vs, ca, oa, x10, ar, c, cap, A0, B, hP, v9, v10, v11, v2, ha, hb, l1, l2, l3, fun i hi => ⟨eA i hi, rfl⟩, eB, em, zd.1 _ _ _ hP (by omega), zd.2.2.2.1 _ _ _ ha pa, zd.2.2.2.1 _ _ _ hb pb, z1, z2⟩
/-- Main -/
theorem mMn_of {vs : List Value} (zd : zDj h Z P) (hP : hc h P = some (.inr (4, vs))) (v6 : vs[6]? = some (va_rf (kO kl (kF (s.2.2 62) 1298229614 nk 0)))) (je : JE L xs cx h s nk kl ml) (bj : ∀ m M, ml[m]? = some M → bJ L xs h s nk kl M m) (kq : ∀ k, k < nk → kQ L xs h s kl k (kc k)) (mq : ∀ m M, ml[m]? = some M → mQ L xs h s gn u2 A B m M (mi m)) (hkk : kF (s.2.2 62) 1298229614 nk 0 = some kk) (h66 : s.2.1 66 kk = 1) (np : ∀ m : Nat, m ≤ 72 → s.2.1 65 kk = Int32.ofNat m → pmT s m []) : ∃ m, mMn s kc h Z P ml kk m := by
  have hk : kk < nk := by
    obtain ⟨_, q2, _⟩ := kF_some hkk
    omega
  have n8 := je.2.2.1
  have kr : kRl s kk := JE_kR je ((kq kk hk).1)
  obtain ⟨mk, m0, n1, e0, e1, e2, e3, e4, e5, e6, _⟩ := kK_of zd je hk (kq kk hk)
  obtain ⟨a1, a2, _, a4, _, _⟩ := mk_of zd je bj kq mq kr e1 (by omega)
  obtain ⟨ts, a0, e0', t1, t2, t3, t4, _⟩ := mB_of zd (bj m0 mk e4) (mq m0 mk e4)
  have et := pm_u t1 (np m0 (by omega) e1)
  subst et
  refine ⟨m0, kr.1, h66, e1, by omega, a2, a4, a1, t1, kQ_em kr.1 (kq kk hk), mk, _, _, _, e4, t4, e0, vs, hP, ?_, zd.1 _ _ _ hP (by omega)⟩
  rw [v6, hkk]
  show some (va_rf (kl[kk]?)) = _
  rw [(kq kk hk).1]
  rfl
end STF
