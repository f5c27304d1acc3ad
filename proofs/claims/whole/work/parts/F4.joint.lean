/-! BOTH CHECK: where they stand. -/
/-- what the reference's checks leave alone -/
def rK (s s' : rS) : Prop := (∀ j, j < 57 ∨ 66 < j ∨ j = 59 → s'.1 j = s.1 j) ∧ (∀ p, p ≠ 53 → p ≠ 83 → p ≠ 84 → p ≠ 85 → p ≠ 86 → s'.2.1 p = s.2.1 p) ∧ ∀ p, p ≠ 82 → s'.2.2 p = s.2.2 p
/-- rows of nodes outside a range stay -/
def r53 (lo hi : Nat) (s s' : rS) : Prop := ∀ i, ¬ (lo ≤ i ∧ i < hi) → s'.2.1 53 i = s.2.1 53 i ∧ s'.2.1 86 i = s.2.1 86 i
def gAt (G : List scN) (i : Nat) : scN := G.getD i (0, 0, 0, 0)
def gN (G : List scN) (i : Nat) : Int64 := (gAt G i).1
def gSl (G : List scN) (i : Nat) : Int32 := Int32.ofNat (gAt G i).2.1
def gTp (G : List scN) (i : Nat) : Int32 := cT (gAt G i).2.2.1
/-- a type of this program -/
def vT (s0 : rS) (nk t : Nat) : Prop := gTy t = true ∧ (8 ≤ t → t / 8 - 1 < nk ∧ ((t % 8 < 5 ∧ s0.2.1 66 (t / 8 - 1) = 0) ∨ (5 ≤ t % 8 ∧ s0.2.1 66 (t / 8 - 1) = 1)))
/-- what the reference sees -/
def RG (s : rS) (G : List scN) (lv : Nat) (gn : Int32) (m : Nat) : Prop := s.1 62 = Int32.ofNat G.length ∧ s.1 63 = Int32.ofNat lv ∧ s.1 64 = gn ∧ (s.1 66 = Int32.ofNat m ∧ s.1 58 = -1) ∧ ∀ (i : Nat) (x : scN), G[i]? = some x → s.2.2 82 i = x.1 ∧ s.2.1 83 i = Int32.ofNat x.2.1 ∧ s.2.1 84 i = rTp x.2.2.1 ∧ s.2.1 85 i = Int32.ofNat x.2.2.2
/-- names that can be seen are well formed -/
def GW (s0 : rS) (nk : Nat) (G : List scN) (lv ou : Nat) : Prop := (G.length ≤ 16 ∧ ∀ (i j : Nat) (x y : scN), G[i]? = some x → G[j]? = some y → x.2.1 = y.2.1 → i = j) ∧ lv ≤ 60 ∧ (∀ (i : Nat) (x : scN), G[i]? = some x → x.2.1 < 16 ∧ dTy x.2.2.1 = true ∧ vT s0 nk x.2.2.1 ∧ x.2.2.2 ≤ lv ∧ (x.2.2.2 < lv ↔ i < ou)) ∧ ∀ (i j : Nat) (x y : scN), G[i]? = some x → G[j]? = some y → x.1 = y.1 → i = j
/-- what stands in the class's heap since the body began -/
def bH (L : Nat) (xs : Nat → Int32) (hB h : rm_H) : Prop := nbH L xs hB h ∧ (∀ p j v, fd hB 9 p j = some v → fd h 9 p j = some v) ∧ ∀ p j v, fd hB 11 p j = some v → fd h 11 p j = some v
/-- both check -/
def CKJ (L : Nat) (xs : Nat → Int32) (cx : Nat → Nat) (C Sc M : Nat) (pt vr : Int32) (mv : Value) (hB : rm_H) (s0 : rS) (nk m : Nat) (h : rm_H) (s : rS) (ds : List Nat) (G : List scN) (lv : Nat) (gn a b : Int32) (u : Nat → Nat) (A B : Nat → Int32) : Prop :=
  KH L xs cx C Sc M pt vr mv h ds (gN G) (gSl G) (gTp G) gn (if lv = 0 then 0 else 1) a b u A B ∧ ds.length = G.length ∧ bH L xs hB h ∧ rK s0 s ∧ s.1 57 = a ∧ (a ≠ 0 → s.1 58 = b ∧ 0 < a.toInt) ∧ (a = 0 → RG s G lv gn m) ∧ GW s0 nk G lv (u 0)
/-- vars of a range are not declared yet: their bits are clear, nothing that is seen has their slots -/
def FV (s0 : rS) (G : List scN) (gn : Int32) (lo hi : Nat) : Prop := ∀ j, lo ≤ j → j < hi → s0.2.1 44 j = 20 → ∃ sl, sl < 16 ∧ s0.2.1 53 j = Int32.ofNat sl ∧ gn &&& bt sl = 0 ∧ ∀ (i : Nat) (x : scN), G[i]? = some x → x.2.1 ≠ sl
/-- methods by both -/
def mJ (L : Nat) (xs : Nat → Int32) (h : rm_H) (s0 : rS) (nk M' m' : Nat) : Prop := m' < 72 ∧ (∃ so, fd h 11 M' 0 = some (.int so) ∧ s0.2.1 70 m' = so) ∧ fd h 11 M' 2 = some (.int (Int32.ofNat m')) ∧ (∃ c, c < 5 ∧ fd h 11 M' 6 = some (.int (Int32.ofNat c)) ∧ (s0.2.1 70 m' = 1 → s0.2.1 72 m' = Int32.ofNat c) ∧ (s0.2.1 70 m' = 0 → c = 2))
  ∧ (∃ (l ar cap : Nat) (ps ts : List Nat) (p0 : Nat), fd h 11 M' 5 = some (.ref l) ∧ aL h l ar cap ps ∧ ps.length = ts.length ∧ ts.length ≤ 6 ∧ pmT s0 m' ts ∧ s0.2.1 77 m' = Int32.ofNat p0 ∧ p0 ≤ 440 ∧ (∀ i d t, ps[i]? = some d → ts[i]? = some t → dSn L xs h d (s0.2.2 79 (p0 + i)) (Int32.ofNat i) (cT t) ∧ vT s0 nk t) ∧ (∀ i j, i < ts.length → j < ts.length → s0.2.2 79 (p0 + i) = s0.2.2 79 (p0 + j) → i = j)
    ∧ fd h 11 M' 12 = some (.int (if ts.all sdT = true then 1 else 0))
    ∧ ((s0.2.1 75 m' = -1 ∧ fd h 11 M' 8 = some .null ∧ fd h 11 M' 13 = some (.int (if ts.all sdT = true then 1 else 0))) ∨ ∃ d t, fd h 11 M' 8 = some (.ref d) ∧ fd h 10 d 7 = some (.int (cT t)) ∧ tyc s0 (s0.2.1 75 m') t ∧ vT s0 nk t ∧ fd h 11 M' 13 = some (.int (if (ts.all sdT && sdT t) = true then 1 else 0))))
/-- kinds by both -/
def kJ (L : Nat) (xs : Nat → Int32) (h : rm_H) (s0 : rS) (nk : Nat) (ml : List Nat) (k K : Nat) : Prop := (∃ ac, fd h 9 K 2 = some (.int ac) ∧ s0.2.1 66 k = ac ∧ (ac = 0 ∨ ac = 1)) ∧ fd h 9 K 3 = some (.int (Int32.ofNat k))
  ∧ (∃ (fl ar cap : Nat) (fs : List Nat) (f0 : Nat), fd h 9 K 4 = some (.ref fl) ∧ aL h fl ar cap fs ∧ s0.2.1 64 k = Int32.ofNat f0 ∧ s0.2.1 64 (k + 1) = Int32.ofNat (f0 + fs.length) ∧ fs.length ≤ 8 ∧ f0 + fs.length ≤ 64 ∧ (∀ i j, i < fs.length → j < fs.length → s0.2.2 67 (f0 + i) = s0.2.2 67 (f0 + j) → i = j) ∧ ∀ i d, fs[i]? = some d → ∃ t, dSn L xs h d (s0.2.2 67 (f0 + i)) (Int32.ofNat i) (cT t) ∧ tyc s0 (s0.2.1 69 (f0 + i)) t ∧ vT s0 nk t)
  ∧ ∃ (mk l ar cap : Nat) (ms : List Nat) (m0 : Nat) (g : Nat → Int32), fd h 9 K 5 = some (.ref l) ∧ fd h 9 K 6 = some (.ref mk) ∧ s0.2.1 65 k = Int32.ofNat m0 ∧ s0.2.1 65 (k + 1) = Int32.ofNat (m0 + 1 + ms.length) ∧ m0 + 1 + ms.length ≤ 72 ∧ mL L xs h l ar cap ms (fun i => s0.2.2 78 (m0 + 1 + i)) (fun i => s0.2.1 70 (m0 + 1 + i)) g (m0 + 1) ∧ (∀ i j, i < ms.length → j < ms.length → s0.2.2 78 (m0 + 1 + i) = s0.2.2 78 (m0 + 1 + j) → i = j) ∧ mJ L xs h s0 nk mk m0 ∧ s0.2.1 70 m0 = 0 ∧ (∀ i d, ms[i]? = some d → mJ L xs h s0 nk d (m0 + 1 + i) ∧ (s0.2.1 66 k = 1 → s0.2.1 70 (m0 + 1 + i) = 1 → s0.2.1 72 (m0 + 1 + i) = 2)) ∧ ml[m0]? = some mk ∧ (∀ i d, ms[i]? = some d → ml[m0 + 1 + i]? = some d) ∧ (∀ i, i ≤ ms.length → s0.2.1 71 (m0 + i) = Int32.ofNat k) ∧ (∃ nq, fd h 9 K 0 = some (.ref nq) ∧ nS L xs h nq (s0.2.2 62 k)) ∧ fd h 11 mk 3 = some (.ref 10)
def JE (L : Nat) (xs : Nat → Int32) (cx : Nat → Nat) (h : rm_H) (s0 : rS) (nk : Nat) (kl ml : List Nat) : Prop := (∃ ar cap, aL h (cx 9) ar cap kl) ∧ kl.length = nk ∧ nk ≤ 8 ∧ s0.1 32 = Int32.ofNat nk ∧ ∀ k K, kl[k]? = some K → kJ L xs h s0 nk ml k K
/-- the method whose body is checked -/
def bJ (L : Nat) (xs : Nat → Int32) (h : rm_H) (s0 : rS) (nk : Nat) (kl : List Nat) (M m : Nat) : Prop := mJ L xs h s0 nk M m ∧ ∃ k K, kl[k]? = some K ∧ fd h 11 M 1 = some (.ref K) ∧ s0.2.1 71 m = Int32.ofNat k ∧ (s0.2.1 66 k = 0 → s0.2.1 70 m = 0 ∨ s0.2.1 70 m = 1)
section CKL
variable {L : Nat} {xs : Nat → Int32} {zf : Value} {w C Sc M Pl Ph nk m lv n lo hi k : Nat} {cx : Nat → Nat} {hB h h1 h2 : rm_H} {s0 s s1 s2 : rS} {pt vr gn gn1 a b a1 b1 rc : Int32} {mv : Value} {ds kl ml : List Nat} {G : List scN} {u u1 u2 : Nat → Nat} {A B A1 B1 : Nat → Int32}
theorem rK_refl : rK s s := ⟨fun _ _ => rfl, fun _ _ _ _ _ _ => rfl, fun _ _ => rfl⟩
theorem rK_trans (e : rK s s1) (e2 : rK s1 s2) : rK s s2 := ⟨fun j hj => (e2.1 j hj).trans (e.1 j hj), fun p q1 q2 q3 q4 q5 => (e2.2.1 p q1 q2 q3 q4 q5).trans (e.2.1 p q1 q2 q3 q4 q5), fun p q => (e2.2.2 p q).trans (e.2.2 p q)⟩
theorem r53_refl : r53 lo hi s s := fun _ _ => ⟨rfl, rfl⟩
theorem r53_trans (e : r53 lo hi s s1) (e2 : r53 lo hi s1 s2) : r53 lo hi s s2 := fun i q => ⟨(e2 i q).1.trans (e i q).1, (e2 i q).2.trans (e i q).2⟩
theorem r53_mono {lo' hi' : Nat} (e : r53 lo hi s s1) (q1 : lo' ≤ lo) (q2 : hi ≤ hi') : r53 lo' hi' s s1 := fun i q => e i (fun z => q ⟨by omega, by omega⟩)
/-- a walk keeps what stood -/
theorem bH_w {f : Nat → Int64} {sl ty : Nat → Int32} (kh : KH L xs cx C Sc M pt vr mv h ds f sl ty gn rc a b u A B) (e : wF cx C Sc Pl Ph u h h1) (q : bH L xs hB h) : bH L xs hB h1 := ⟨nbH_w ⟨_, _, _, kh⟩ e q.1, fun p j v z => wF_f kh e (by decide) (q.2.1 p j v z), fun p j v z => wF_f kh e (by decide) (q.2.2 p j v z)⟩
theorem bH_dSn {d : Nat} {c : Int64} {x y : Int32} (q : bH L xs hB h) (e : dSn L xs hB d c x y) : dSn L xs h d c x y := by
  obtain ⟨⟨nq, e1, e2⟩, e3, e4⟩ := e
  exact ⟨⟨nq, q.1.2.2.2.1 _ _ _ e1, q.1.2.2.1 _ _ e2⟩, q.1.2.2.2.1 _ _ _ e3, q.1.2.2.2.1 _ _ _ e4⟩
theorem JE_GE (j : JE L xs cx hB s0 nk kl ml) (q : bH L xs hB h) : GE L xs cx h kl := by
  obtain ⟨⟨ar, cap, j1⟩, j2, j3, _, j4⟩ := j
  refine ⟨⟨ar, cap, q.1.2.1 _ _ _ _ j1⟩, by omega, fun K hK => ?_⟩
  obtain ⟨k, hk⟩ := List.getElem?_of_mem hK
  obtain ⟨⟨ac, k1, _⟩, k2, ⟨fl, af, cf, fs, f0, k3, k4, _, _, k5, _, _, k6⟩, mk, l, am, cm, ms, m0, g, k7, k8, _, _, _, k9, _, k10, _, k11, _⟩ := j4 k K hk
  have mo : ∀ M' m', mJ L xs hB s0 nk M' m' → ∃ so nb cp np pty res tk hm, mOk h M' so nb cp np pty res tk hm := by
    intro M' m' e
    obtain ⟨_, ⟨so, e1, _⟩, e2, ⟨c, _, e3, _⟩, l', ar', cap', ps, ts, p0, e4, e5, e6, e7, _, _, _, e8, _, e9, e10⟩ := e
    have pp : ∀ i d, ps[i]? = some d → fd h 10 d 7 = some (.int (cT (ts.getD i 0))) := by
      intro i d hd
      have hi := (List.getElem?_eq_some_iff.mp hd).1
      have ht : ts[i]? = some (ts.getD i 0) := by
        rw [List.getD_eq_getElem?_getD, List.getElem?_eq_getElem (by omega)]
        rfl
      exact q.1.2.2.2.1 _ _ _ (e8 i d _ hd ht).1.2.2
    refine ⟨so, Int32.ofNat m', Int32.ofNat c, ts.length, fun i => cT (ts.getD i 0), ?_⟩
    rcases e10 with ⟨_, r1, r2⟩ | ⟨d, t, r1, r2, _, _, r3⟩
    · exact ⟨none, _, _, q.2.2 _ _ _ e1, q.2.2 _ _ _ e2, q.2.2 _ _ _ e3, ⟨l', ar', cap', ps, q.2.2 _ _ _ e4, q.1.2.1 _ _ _ _ e5, e6, e7, pp⟩, Or.inl ⟨rfl, q.2.2 _ _ _ r1⟩, q.2.2 _ _ _ e9, q.2.2 _ _ _ r2⟩
    · exact ⟨some (cT t), _, _, q.2.2 _ _ _ e1, q.2.2 _ _ _ e2, q.2.2 _ _ _ e3, ⟨l', ar', cap', ps, q.2.2 _ _ _ e4, q.1.2.1 _ _ _ _ e5, e6, e7, pp⟩, Or.inr ⟨d, cT t, rfl, q.2.2 _ _ _ r1, q.1.2.2.2.1 _ _ _ r2⟩, q.2.2 _ _ _ e9, q.2.2 _ _ _ r3⟩
  refine ⟨ac, _, q.2.1 _ _ _ k1, q.2.1 _ _ _ k2, ⟨fl, af, cf, fs, fun i => s0.2.2 67 (f0 + i), fun i => Int32.ofNat i, fun i => (fs[i]?).elim 0 (fun d => ((fd h 10 d 7).elim 0 (fun v => match v with | .int x => x | _ => 0))), q.2.1 _ _ _ k3, q.1.2.1 _ _ _ _ k4, by omega, fun i d hd => ?_⟩, ⟨l, am, cm, ms, fun i => s0.2.2 78 (m0 + 1 + i), fun i => s0.2.1 70 (m0 + 1 + i), g, m0 + 1, q.2.1 _ _ _ k7, ⟨q.1.2.1 _ _ _ _ k9.1, k9.2.1, k9.2.2.1, fun i d hd => ?_⟩, fun M' hM => ?_⟩, ?_⟩
  · obtain ⟨t, t1, _⟩ := k6 i d hd
    have t2 := bH_dSn q t1
    have t3 : (fs[i]?).elim 0 (fun d => ((fd h 10 d 7).elim 0 (fun v => match v with | .int x => x | _ => (0 : Int32)))) = cT t := by
      rw [hd]
      show ((fd h 10 d 7).elim 0 (fun v => match v with | .int x => x | _ => (0 : Int32))) = cT t
      rw [t2.2.2]
      rfl
    show dSn L xs h d (s0.2.2 67 (f0 + i)) (Int32.ofNat i) ((fs[i]?).elim 0 (fun d => ((fd h 10 d 7).elim 0 (fun v => match v with | .int x => x | _ => (0 : Int32)))))
    rw [t3]
    exact t2
  · obtain ⟨⟨nq, z1, z2⟩, z3, z4, z5⟩ := k9.2.2.2 i d hd
    exact ⟨⟨nq, q.2.2 _ _ _ z1, q.1.2.2.1 _ _ z2⟩, q.2.2 _ _ _ z3, q.2.2 _ _ _ z4, q.2.2 _ _ _ z5⟩
  · obtain ⟨i, hi⟩ := List.getElem?_of_mem hM
    exact mo M' _ (k11 i M' hi).1
  · obtain ⟨so, nb, cp, np, pty, res, tk, hm, z⟩ := mo mk m0 k10
    exact ⟨mk, so, nb, cp, np, pty, res, tk, hm, q.2.1 _ _ _ k8, z⟩
theorem bJ_mSf (j : JE L xs cx hB s0 nk kl ml) (e : bJ L xs hB s0 nk kl M m) (q : bH L xs hB h) : mSf h M := by
  obtain ⟨⟨_, _, _, ⟨c, _, e3, _⟩, _⟩, k, K, e4, e5, _⟩ := e
  obtain ⟨⟨ac, k1, _⟩, k2, _⟩ := j.2.2.2.2 k K e4
  exact ⟨K, ac, _, _, q.2.2 _ _ _ e5, q.2.1 _ _ _ k1, q.2.1 _ _ _ k2, q.2.2 _ _ _ e3⟩
/-- behind a fault -/
theorem CK_EV (j : JE L xs cx hB s0 nk kl ml) (bj : bJ L xs hB s0 nk kl M m) (e : CKJ L xs cx C Sc M pt vr mv hB s0 nk m h s ds G lv gn a b u A B) (ha : a ≠ 0) : EV L xs cx C Sc M pt vr mv ds (gN G) (gSl G) (gTp G) (if lv = 0 then 0 else 1) a b kl hB h u := ⟨⟨gn, A, B, e.1⟩, JE_GE j e.2.2.1, bJ_mSf j bj e.2.2.1, e.2.2.1.1, ha⟩
theorem CK_ZR (e : CKJ L xs cx C Sc M pt vr mv hB s0 nk m h s ds G lv gn a b u A B) (ha : a ≠ 0) (z : ZR L xs cx C Sc M Pl Ph pt vr mv ds (gN G) (gSl G) (gTp G) (if lv = 0 then 0 else 1) a b h u n h1 u1) : ∃ gn1 A1 B1, CKJ L xs cx C Sc M pt vr mv hB s0 nk m h1 s ds G lv gn1 a b u1 A1 B1 := by
  obtain ⟨e1, e2, e3, e4, e5, e6, e7, e8⟩ := e
  obtain ⟨⟨gn1, A1, B1, z1⟩, z2, z3, z4, _⟩ := z
  exact ⟨gn1, A1, B1, z1, e2, bH_w e1 z2 e3, e4, e5, e6, fun q => absurd q ha, by rw [z4]; exact e8⟩
end CKL
/-- what an op of both leaves: both go on, or both have the same fault -/
def OUT (L : Nat) (xs : Nat → Int32) (cx : Nat → Nat) (C Sc M : Nat) (pt vr : Int32) (mv : Value) (hB : rm_H) (s0 : rS) (nk m Pl Ph LO HI lo hi lv : Nat) (G : List scN) (ds : List Nat) (gn : Int32) (u : Nat → Nat) (A B : Nat → Int32) (h : rm_H) (s : rS) (cst : Nat) (h' : rm_H) (s' : rS) (P : Int32 → (Nat → Nat) → (Nat → Int32) → (Nat → Int32) → Prop) : Prop :=
  ∃ gn' a' b' u' A' B', CKJ L xs cx C Sc M pt vr mv hB s0 nk m h' s' ds G lv gn' a' b' u' A' B' ∧ wF cx C Sc Pl Ph u h h' ∧ wK2 u u' h h' ∧ u' 0 = u 0 ∧ u' 2 ≤ u 2 + cst ∧ r53 lo hi s s' ∧ (a' = 0 → (∀ i, i < u 2 → A' i = A i ∧ B' i = B i) ∧ (∀ lo2 hi2, (hi2 ≤ lo ∨ hi ≤ lo2) → LO ≤ lo2 → hi2 ≤ HI → FV s0 G gn lo2 hi2 → FV s0 G gn' lo2 hi2) ∧ P gn' u' A' B')
