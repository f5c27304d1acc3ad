/-! WHAT A PROGRAM THAT WAS BUILT GIVES: its methods as they are shown. -/
section STG
variable {L : Nat} {xs : Nat → Int32} {w P gn u2 nk m M kk k : Nat} {cx : Nat → Nat} {h : rm_H} {s : rS} {Z : Nat → Prop} {kl ml : List Nat} {kc : kCi} {A B : Nat → Int32} {mi : Nat → Nat × Nat × Nat × Nat × Nat}
/-- the name of a maker -/
theorem nSz_new (wd : wdR (s.2.2 39)) : nSz L xs h Z 10 (s.2.2 39 2) := by
  have e : wcR[2]? = some (s.2.2 39 2) := wd 2 (by decide)
  have e2 : s.2.2 39 2 = rcC (fun i => (ah_byt.getD 3 []).getD i 0) 3 0 0 := by
    have : wcR[2]? = some (rcC (fun i => (ah_byt.getD 3 []).getD i 0) 3 0 0) := by decide +kernel
    rw [this] at e
    exact (Option.some.inj e).symm
  refine ⟨3, fun i => (ah_byt.getD 3 []).getD i 0, ⟨16, 17, [.ref 17, .int 0], fun i => (ah_byt.getD 3 []).getD i 0, by decide, rfl, rfl, rfl, rfl, fun i hi => ?_, Or.inl (by decide), Or.inl (by decide)⟩, by decide, fun j hj => ?_, e2⟩
  · have : ∀ i, i < 3 → (ah_byt.getD 3 []).getD i 0 &&& 255 = (ah_byt.getD 3 []).getD i 0 := by decide +kernel
    exact this i hi
  · have : ∀ j, j < 3 → 1 ≤ ((ah_byt.getD 3 []).getD (0 + j) 0).toInt ∧ ((ah_byt.getD 3 []).getD (0 + j) 0).toInt ≤ 255 := by decide +kernel
    exact this j hj
theorem mSh_of (zd : zDj h Z P) (je : JE L xs cx h s nk kl ml) (bj : ∀ m M, ml[m]? = some M → bJ L xs h s nk kl M m) (kq : ∀ k, k < nk → kQ L xs h s kl k (kc k)) (wd : wdR (s.2.2 39)) (n0 : ∀ k m0 m : Nat, k < nk → s.2.1 65 k = Int32.ofNat m0 → m0 < m → s.2.1 71 m = Int32.ofNat k → mRl s m → s.2.1 70 m ≠ 0) : mSh L xs s h Z ml := by
  intro m hm _
  obtain ⟨k, M, hk, hM, e71, m72, nm⟩ := mRl_M zd je kq hm
  refine ⟨M, hM, ?_⟩
  obtain ⟨⟨_, _, g1, _, l, ar, cap, ps, ts, p0, a1, a2, a3, a4, a5, a6, a7, a8, _⟩, _⟩ := bj m M hM
  obtain ⟨fs, e1, e2⟩ := fd_c g1
  obtain ⟨u1, u2⟩ := aL_z zd a2
  rw [fd_of e1] at a1
  have tail : ∀ (i d t : Nat), ps[i]? = some d → ts[i]? = some t → ∃ dfs, hc h d = some (.inr (10, dfs)) ∧ dfs[7]? = some (.int (cT t)) ∧ ¬ Z d ∧ dTy t = true := fun i d t hd ht => by
    obtain ⟨⟨_, _, c3⟩, _⟩ := a8 i d t hd ht
    obtain ⟨dfs, y1, y2⟩ := fd_c c3
    obtain ⟨_, _, _, _, ty⟩ := a5
    obtain ⟨_, _, _, _, dt⟩ := ty i t ht
    exact ⟨dfs, y1, y2, zd.1 _ _ _ y1 (by omega), dt⟩
  rcases nm with ⟨z0, z1, z2⟩ | ⟨nq, z1, z2, m0, z3, z4⟩
  · rw [fd_of e1] at z2
    exact ⟨fs, 10, l, ar, cap, ps, ts, e1, z2, a1, a2, zd.1 _ _ _ e1 (by omega), u1, u2, by rw [if_pos z0]; exact nSz_new wd, a5, a3, a4, tail⟩
  · rw [fd_of e1] at z1
    exact ⟨fs, nq, l, ar, cap, ps, ts, e1, z1, a1, a2, zd.1 _ _ _ e1 (by omega), u1, u2, by rw [if_neg (n0 k m0 m hk z3 z4 e71 hm)]; exact nS_z zd z2, a5, a3, a4, tail⟩
end STG
