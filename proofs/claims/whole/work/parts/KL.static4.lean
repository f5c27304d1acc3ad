/-! WHAT A PROGRAM THAT WAS BUILT GIVES: its methods can be entered. -/
section STE
variable {L : Nat} {xs : Nat → Int32} {w P gn u2 nk m M kk : Nat} {cx : Nat → Nat} {h : rm_H} {s : rS} {Z : Nat → Prop} {kl ml : List Nat} {kc : kCi} {A B : Nat → Int32} {mi : Nat → Nat × Nat × Nat × Nat × Nat}
/-- every method has its numbers -/
theorem mi_of (e : ∀ m M, ml[m]? = some M → ∃ q, mQ L xs h s gn u2 A B m M q) : ∃ mi : Nat → Nat × Nat × Nat × Nat × Nat, ∀ m M, ml[m]? = some M → mQ L xs h s gn u2 A B m M (mi m) := by
  have key : ∀ m, ∃ q : Nat × Nat × Nat × Nat × Nat, ∀ M, ml[m]? = some M → mQ L xs h s gn u2 A B m M q := by
    intro m
    cases hm : ml[m]? with
    | none => exact ⟨(0, 0, 0, 0, 0), fun M z => by cases z⟩
    | some M =>
      obtain ⟨q, hq⟩ := e m M hm
      exact ⟨q, fun M' z => by cases z; exact hq⟩
  exact ⟨fun m => Classical.choose (key m), fun m M hM => Classical.choose_spec (key m) M hM⟩
/-- the Method's cell -/
theorem mB_of (zd : zDj h Z P) (bj : bJ L xs h s nk kl M m) (mq : mQ L xs h s gn u2 A B m M (mi m)) : ∃ (ts : List Nat) (a0 e0 : Nat), pmT s m ts ∧ ts.length ≤ 6 ∧ ts.length = (mi m).2.2.2.1 ∧ MB h Z M (Int32.ofNat m) ts.length (mi m).2.2.2.2 (Int32.ofNat a0) ∧ m < 72 ∧ ∃ c bb pl ph Bn, NRz L xs h s 49 1 ((mi m).2.2.1 - (mi m).2.1) (mi m).2.1 (mi m).2.2.1 pl ph c Bn ∧ MCT s (s.2.1 53) A B m c (mi m).2.1 (mi m).2.2.1 a0 e0 ∧ s.2.1 76 m = Int32.ofNat bb ∧ s.2.1 44 bb = 31 ∧ s.2.1 45 bb = Int32.ofNat c ∧ s.2.1 49 c = Int32.ofNat bb ∧ s.2.1 54 bb = Int32.ofNat m ∧ 1 ≤ bb ∧ bb < 4400 ∧ bb < (mi m).2.2.1 := by
  obtain ⟨q0, c, bb, a0, e0, pl, ph, Bn, y1, ⟨x1, x2, x3, x4, x5⟩, y2, y3, y4, y5, y6, y7, y8, ⟨y9, y9b⟩, y10, y11, y12, y13, _⟩ := mq
  obtain ⟨⟨m72, _, g1, _, l, ar, cap, ps, ts, p0, a1, a2, a3, a4, a5, a6, a7, _⟩, _⟩ := bj
  obtain ⟨p1, b1, b2, b3, _⟩ := id a5
  have ep : p1 = p0 := by
    have := congrArg Int32.toInt (b1.symm.trans a6)
    rw [of_int (by omega), of_int (by omega)] at this
    omega
  have enp : ts.length = (mi m).2.2.2.1 := by
    rw [b2, b1, ← Int32.ofNat_add] at y10
    have := congrArg Int32.toInt y10
    rw [of_int (by omega), of_int (by omega)] at this
    omega
  obtain ⟨fs, e1, e2⟩ := fd_c g1
  rw [fd_of e1] at a1 y7 y8
  obtain ⟨mc, l1, _⟩ := id a2
  exact ⟨ts, a0, e0, a5, a4, enp, ⟨fs, l, ar, .int mc, e1, e2, a1, y7, y8, by rw [← a3]; exact l1, zd.1 _ _ _ e1 (by omega), (aL_z zd a2).1⟩, m72, c, bb, pl, ph, Bn, y1, y13, y2, y3, y4, y5, y6, x1, by omega, by omega⟩
/-- A METHOD CAN BE ENTERED -/
theorem cE_of (zd : zDj h Z P) (bj : bJ L xs h s nk kl M m) (hM : ml[m]? = some M) (mq : mQ L xs h s gn u2 A B m M (mi m)) (stk : ∀ (i q lv : Nat) (G : List scN) (g : Int32) (St : List stE), PT s A B m (mi m).1 (mi m).2.1 (mi m).2.2.1 i q lv G g St → St.length ≤ 1010) : cEe s A B mi h Z ml m := by
  obtain ⟨ts, a0, e0, t1, t2, t3, t4, m72, c, bb, pl, ph, Bn, n1, n2, n3, n4, n5, n6, n7, n8, n9, n10⟩ := mB_of zd bj mq
  obtain ⟨q0, _, _, _, _, _, _, _, _, ⟨x1, x2, x3, x4, x5⟩, _, _, _, _, _, _, _, ⟨y9, y9b⟩, _, y11, y12, _⟩ := mq
  have hin := nrz_in n1
  have pk : PKA s (mi m).2.1 (mi m).2.2.1 c := fun j => PK_of (by omega) j _ _ _ _ _ _ _ _ _ (Nat.le_refl _) (Nat.le_refl _) ⟨0, ⟨nrz_31 n1, fun _ => nrz_30 n1⟩, bb, n8, n10, n6, n4⟩ n1
  obtain ⟨G, ts', p0, q, lv, z1, z2, z3, z4, z5, z6, z7⟩ := BEG (F := (mi m).1) (np := (mi m).2.2.2.1) (by omega) y11 q0.symm ⟨n8, n9⟩ ⟨by omega, by omega⟩ n4 n7 n5 n6 pk n2 (fun G ts2 p2 e1 e2 e3 e4 => by
    have et := pm_u e1 t1
    subst et
    have at' : ∀ x ∈ G, x.2.1 < ts2.length ∧ x.2.2.2 = 0 := fun x hx => by
      obtain ⟨j, hj⟩ := List.getElem?_of_mem hx
      have lt := (List.getElem?_eq_some_iff.mp hj).1
      obtain ⟨_, w2, _, w4⟩ := e3 j x hj
      exact ⟨by omega, w4⟩
    exact ⟨fun x hx => ⟨by have := (at' x hx).1; omega, Or.inl (by have := (at' x hx).1; omega)⟩, fun x hx => by rw [(at' x hx).2]; exact Nat.le_refl _⟩)
  have et := pm_u z1 t1
  subst et
  have q4 : q < 4400 := by
    obtain ⟨f, ⟨_, q4⟩, _⟩ := z6
    exact q4
  obtain ⟨p1, b1, b2, b3, _⟩ := id z1
  refine ⟨⟨m72, y11, by omega, ⟨y9b, y12⟩, stk⟩, G, ts', a0, q, lv, M, Int32.ofNat m, z1, t2, by omega, fun j X hX => ⟨(z3 j X hX).2.1, (z3 j X hX).2.2.1⟩, z5, z6, q4, ⟨m72, bb, c, p1, n3, n9, by omega, n5, z7, b1, b2, by omega, t2⟩, hM, t4⟩
theorem mNv_of (zd : zDj h Z P) (bj : ∀ m M, ml[m]? = some M → bJ L xs h s nk kl M m) (mq : ∀ m M, ml[m]? = some M → mQ L xs h s gn u2 A B m M (mi m)) : mNv h Z ml := fun m M hM => by
  obtain ⟨ts, a0, e0, _, _, _, t4, _⟩ := mB_of zd (bj m M hM) (mq m M hM)
  exact ⟨_, _, _, t4⟩
theorem mSd_of (zd : zDj h Z P) (je : JE L xs cx h s nk kl ml) (bj : ∀ m M, ml[m]? = some M → bJ L xs h s nk kl M m) (kq : ∀ k, k < nk → kQ L xs h s kl k (kc k)) (mq : ∀ m M, ml[m]? = some M → mQ L xs h s gn u2 A B m M (mi m)) : mSd s := by
  intro k c m ps mt pm
  obtain ⟨k8, m72, e71, _⟩ := mKd_of zd je bj kq k 2 c m mt
  have rl : mRl s m := by
    obtain ⟨m0, m1, y1, y2, y3, y4, y5, _, _, kr⟩ := mt
    exact ⟨k, m0, m1, kr, y1, y2, by omega, y4, y5⟩
  obtain ⟨m0, m1, _, _, _, _, _, e70, _⟩ := mt
  obtain ⟨k', M, hk, hM, _⟩ := mRl_M zd je kq rl
  obtain ⟨_, k2, K2, u1, u2', u3, u4⟩ := bj m M hM
  obtain ⟨q0, _, _, _, _, _, _, _, _, _, _, _, _, _, _, _, _, _, _, _, _, _, _, sd⟩ := mq m M hM
  have n8 := je.2.2.1
  have n9 := je.2.1
  have lt2 := (List.getElem?_eq_some_iff.mp u1).1
  have ek : k = k2 := ofn_inj (by omega) (by omega) (e71.symm.trans u3)
  subst ek
  obtain ⟨us, z1, z2⟩ := sd k k8 e71 (fun z => by
    rcases u4 z with y | y
    · rw [e70] at y; exact absurd y (by decide)
    · rw [e70] at y; exact absurd y (by decide)) (by rw [e70]; decide)
  have := pm_u z1 pm
  subst this
  exact z2
end STE
