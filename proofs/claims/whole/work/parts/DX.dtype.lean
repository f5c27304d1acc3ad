/-! THE TYPE OF A DECLARATION, BY THE CLASS. -/
/-- a type of the class -/
def tO (a k c : Int32) : Int32 := (a ||| (k <<< ((4 : Int32) &&& 31))) ||| (c <<< ((8 : Int32) &&& 31))
/-- what is written of a type: behind new or not, the name's code, CAP and its place, the name's place -/
def dDat (L : Nat) (xs : Nat → Int32) (h : rm_H) (d : Nat) (bn : Int32) (c : Option Int64) (cp cq tq : Int32) : Prop := fd h 10 d 6 = some (.int bn) ∧ ((c = none ∧ fd h 10 d 4 = some .null) ∨ ∃ t x, c = some x ∧ fd h 10 d 4 = some (.ref t) ∧ nS L xs h t x ∧ fd h 10 d 5 = some (.int tq) ∧ fd h 10 d 2 = some (.int cp) ∧ (cp ≠ -1 → fd h 10 d 3 = some (.int cq)))
/-- the type that it gives, and the fault; of nk kinds -/
def dkF (s : rS) (nk : Nat) (bn : Int32) (c : Option Int64) (cp cq tq : Int32) : Int32 × Option (Int32 × Int32) := match c with
  | none => (1, none)
  | some x => match kF (s.2.2 62) x nk 0 with
    | none => (0, some (3, tq))
    | some k => if s.2.1 66 k = 0 then (if cp = -1 then (if bn = 0 then (0, some (4, tq)) else (tO 5 (Int32.ofNat k) 2, none)) else (tO 5 (Int32.ofNat k) cp, none)) else (if cp = -1 then (tO 3 (Int32.ofNat k) 2, none) else (0, some (4, cq)))
/-- the type of a Decl then -/
def tv7 (o : Int32 × Option (Int32 × Int32)) (v : Value) : Value := match o.2 with
  | none => .int o.1
  | some _ => v
def ntF (a b : Int32) (o : Option (Int32 × Int32)) : Int32 × Int32 := match o with
  | none => (a, b)
  | some p => nt a b p.1 p.2
theorem mn_ntF {S : Int32 → Int32 → Prop} {a b : Int32} {o : Option (Int32 × Int32)} (m : mn S a b) (ho : ∀ p, o = some p → 0 < p.1.toInt) : mn (fun u v => S u v ∨ o = some (u, v)) (ntF a b o).1 (ntF a b o).2 := by
  cases o with
  | none => exact mn_skip m (fun x y z => by cases z)
  | some p =>
    refine mn_ext (fun x y => ?_) (mn_nt (y := p.2) m (ho p rfl))
    constructor
    · rintro (z | ⟨z1, z2⟩)
      · exact Or.inl z
      · exact Or.inr (by rw [z1, z2])
    · rintro (z | z)
      · exact Or.inl z
      · cases z
        exact Or.inr ⟨rfl, rfl⟩
theorem dkF_pos {s : rS} {nk : Nat} {bn cp cq tq : Int32} {c : Option Int64} {p : Int32 × Int32} (e : (dkF s nk bn c cp cq tq).2 = some p) : 0 < p.1.toInt ∧ (dkF s nk bn c cp cq tq).1 = 0 := by
  unfold dkF at e ⊢
  split
  · cases e
  · split
    · next u =>
      dsimp only at e
      rw [u] at e
      cases e
      exact ⟨show 0 < (3 : Int32).toInt by decide, rfl⟩
    · next k u =>
      dsimp only at e
      rw [u] at e
      dsimp only at e ⊢
      split
      · next u1 =>
        rw [if_pos u1] at e
        split
        · next u2 =>
          rw [if_pos u2] at e
          split
          · next u3 =>
            rw [if_pos u3] at e
            cases e
            exact ⟨show 0 < (4 : Int32).toInt by decide, rfl⟩
          · next u3 =>
            rw [if_neg u3] at e
            cases e
        · next u2 =>
          rw [if_neg u2] at e
          cases e
      · next u1 =>
        rw [if_neg u1] at e
        split
        · next u2 =>
          rw [if_pos u2] at e
          cases e
        · next u2 =>
          rw [if_neg u2] at e
          cases e
          exact ⟨show 0 < (4 : Int32).toInt by decide, rfl⟩
section DT
variable {L : Nat} {xs : Nat → Int32} {zf : Value} {w k n nk : Nat} {h0 h h1 : rm_H} {s0 s s1 : rS} {q a9 c9 l d : Nat} {kl : List Nat} {cx : Nat → Nat} {pt vr a b bn cp cq tq : Int32} {mv v7 : Value} {c : Option Int64}
theorem nS_uq {x y : Int64} (e1 : nS L xs h q x) (e2 : nS L xs h q y) : x = y := by
  have a := se_of (zf := .null) (w := 9) (k := 0) e1 e1 (by omega)
  have b := se_of (zf := .null) (w := 9) (k := 0) e1 e2 (by omega)
  rw [a, if_pos rfl] at b
  by_cases z : x = y
  · exact z
  · rw [if_neg z] at b
    cases b
theorem dkF_uq {bn' cp' cq' tq' : Int32} {c' : Option Int64} (e : dDat L xs h d bn c cp cq tq) (e' : dDat L xs h d bn' c' cp' cq' tq') : dkF s nk bn c cp cq tq = dkF s nk bn' c' cp' cq' tq' := by
  obtain ⟨a1, a2⟩ := e
  obtain ⟨b1, b2⟩ := e'
  rw [a1] at b1
  cases b1
  rcases a2 with ⟨a2, a3⟩ | ⟨t, x, a2, a3, a4, a5, a6, a7⟩
  · rcases b2 with ⟨b2, b3⟩ | ⟨t', x', b2, b3, b4, b5, b6, b7⟩
    · rw [a2, b2]
      rfl
    · rw [a3] at b3
      cases b3
  · rcases b2 with ⟨b2, b3⟩ | ⟨t', x', b2, b3, b4, b5, b6, b7⟩
    · rw [a3] at b3
      cases b3
    · rw [a3] at b3
      cases b3
      rw [a5] at b5
      cases b5
      rw [a6] at b6
      cases b6
      rw [a2, b2, nS_uq a4 b4]
      by_cases z : cp = -1
      · subst z
        rfl
      · have u := a7 z
        rw [b7 z] at u
        cases u
        rfl
theorem dDat_I (i : dI h0 h) (e : dDat L xs h0 d bn c cp cq tq) : dDat L xs h d bn c cp cq tq := by
  have nb : ∀ j, j ≠ 7 → ¬ bdF 10 j := fun j hj z => by rcases z with z | z | z <;> omega
  obtain ⟨a1, a2⟩ := e
  refine ⟨dI_f i a1 (nb 6 (by decide)), ?_⟩
  rcases a2 with ⟨a2, a3⟩ | ⟨t, x, a2, a3, a4, a5, a6, a7⟩
  · exact Or.inl ⟨a2, dI_f i a3 (nb 4 (by decide))⟩
  · exact Or.inr ⟨t, x, a2, dI_f i a3 (nb 4 (by decide)), dI_n i a4, dI_f i a5 (nb 5 (by decide)), dI_f i a6 (nb 2 (by decide)), fun z => dI_f i (a7 z) (nb 3 (by decide))⟩
/-- the Kinds in their list -/
def kA (L : Nat) (xs : Nat → Int32) (h : rm_H) (s : rS) (kl : List Nat) : Prop := kN L xs h kl (s.2.2 62) ∧ kl.length ≤ 8 ∧ ∀ j K, kl[j]? = some K → (s.2.1 66 j = 0 ∨ s.2.1 66 j = 1) ∧ fd h 9 K 2 = some (.int (s.2.1 66 j)) ∧ fd h 9 K 3 = some (.int (Int32.ofNat j))
theorem kA_I (i : dI h0 h) (e : kA L xs h0 s kl) : kA L xs h s kl := ⟨kN_I i e.1, e.2.1, fun j K hj => by
  obtain ⟨e1, e2, e3⟩ := e.2.2 j K hj
  exact ⟨e1, dI_f i e2 (fun z => by rcases z with z | z | z <;> omega), dI_f i e3 (fun z => by rcases z with z | z | z <;> omega)⟩⟩
/-- what a step of declare leaves of the rest -/
def dS (d : Nat) (h h' : rm_H) : Prop := (∀ p, p ≠ d → fd h' 10 p 7 = fd h 10 p 7) ∧ ∀ p j, fd h' 11 p j = fd h 11 p j
theorem dS_refl : dS d h h := ⟨fun _ _ => rfl, fun _ _ => rfl⟩
theorem pg_1 (hp : hc h (cx 8) = some (pgD cx pt vr mv a b)) : fd h 4 (cx 8) 1 = some (.ref (cx 9)) := by rw [fd_of hp]; rfl
theorem fd_dc {ci p j ci' : Nat} {fs : List Value} (e : hc h p = some (.inr (ci', fs))) (hn : ci' ≠ ci) : fd h ci p j = none := by
  unfold fd
  rw [e]
  exact if_neg hn
theorem st_dc {P ci ci' : Nat} {fs : List Value} (e : hc h P = some (.inr (ci', fs))) (hn : ci' ≠ ci) (w : st1 P h h1) (p j : Nat) : fd h1 ci p j = fd h ci p j := by
  by_cases z : p = P
  · subst z
    obtain ⟨fs2, e2, _⟩ := w.1.2.2.1 _ _ _ e
    rw [fd_dc e hn, fd_dc e2 hn]
  · exact fd_st w z
theorem c_type (hp : hc h (cx 8) = some (pgD cx pt vr mv a b)) (e9 : aL h (cx 9) a9 c9 kl) (ka : kA L xs h s kl) (dd : dDat L xs h d bn c cp cq tq) (d7 : fd h 10 d 7 = some v7) (hw : 200 ≤ w) : ∃ h', dM L xs zf w (k + 6) 149 [.ref (cx 8), .ref d] h = some (none, h') ∧ dI h h' ∧ hc h' (cx 8) = some (pgD cx pt vr mv (ntF a b (dkF s kl.length bn c cp cq tq).2).1 (ntF a b (dkF s kl.length bn c cp cq tq).2).2) ∧ fd h' 10 d 7 = some (tv7 (dkF s kl.length bn c cp cq tq) v7) ∧ dS d h h' := by
  obtain ⟨fsd, hd, _⟩ := fd_c d7
  have c10 : ([10] : List Nat).contains 10 = true := by decide
  have nd8 : d ≠ cx 8 := fun z => by rw [z, hp] at hd; cases hd
  -- a type is written
  have wr : ∀ x : Int32, ∃ h', dpF h 7 [10] (some d) (.int x) = some h' ∧ dI h h' ∧ hc h' (cx 8) = some (pgD cx pt vr mv a b) ∧ fd h' 10 d 7 = some (.int x) ∧ dS d h h' := by
    intro x
    obtain ⟨h', w1, w2, w3, w4⟩ := fd_w (v := .int x) d7 c10 rfl (by decide)
    refine ⟨h', w1, dI_w dI_refl hd (by decide) w4 (fun j hj => w3 j (fun z => hj (Or.inl ⟨rfl, z⟩))), st1_old w4 hp (fun z => nd8 z.symm), w2, fun p hp => fd_st w4 hp, fun p j => st_dc hd (by decide) w4 p j⟩
  -- a fault is noted
  have no : ∀ x y : Int32, ∃ h', dM L xs zf w (k + 5) 144 [.ref (cx 8), .int x, .int y] h = some (none, h') ∧ dI h h' ∧ hc h' (cx 8) = some (pgD cx pt vr mv (nt a b x y).1 (nt a b x y).2) ∧ fd h' 10 d 7 = some v7 ∧ dS d h h' := by
    intro x y
    obtain ⟨h', w1, w2, w3⟩ := c_noteD (L := L) (xs := xs) (zf := zf) (w := w) (k := k + 4) hp x y
    exact ⟨h', w1, dI_w dI_refl hp (by decide) w3 (fun j hj => absurd (Or.inr (Or.inr rfl)) hj), w2, (st_dc hp (by decide) w3 d 7).trans d7, fun p _ => st_dc hp (by decide) w3 p 7, fun p j => st_dc hp (by decide) w3 p j⟩
  rw [e149]
  show ∃ h', b149_0 L xs zf (dM L xs zf w (k + 5)) w (some (cx 8)) (some d) h = some (none, h') ∧ _
  obtain ⟨d6, dc⟩ := dd
  unfold b149_0
  rcases dc with ⟨u1, u2⟩ | ⟨t, x, u1, u2, u3, u4, u5, u6⟩
  · subst u1
    obtain ⟨h', w1, w2, w3, w4, w5⟩ := wr 1
    refine ⟨h', ?_, w2, w3, w4, w5⟩
    exact bse (fd_R (o := none) u2 c10) (ift rfl (bse w1 rfl))
  · subst u1
    have fn := c_find (zf := zf) (w := w) (k := k + 1) (pg_1 hp) e9 ka.1 (by have := ka.2.1; omega) u3 hw
    have t4 : dgR L xs h 4 [10] (some d) = some (some t) := fd_R (o := some t) u2 c10
    have nt' : ¬ dnl (some t) = true := dnl_s t
    have cl : (dcV L xs (dM L xs zf w (k + 5)) 150 [4] (some (cx 8)) [va_rf (some t)] h).bind dxR = some (kO kl (kF (s.2.2 62) x kl.length 0), h) := by
      rw [hc_v hp (by decide)]
      show (dM L xs zf w (k + 1 + 4) 150 [.ref (cx 8), .ref t] h).bind dxR = _
      rw [fn]
      cases kO kl (kF (s.2.2 62) x kl.length 0) <;> rfl
    have v5 : dgI L xs h 5 [10] (some d) = some tq := fd_I u4 c10
    have v2 : dgI L xs h 2 [10] (some d) = some cp := fd_I u5 c10
    have v6 : dgI L xs h 6 [10] (some d) = some bn := fd_I d6 c10
    rw [t4, Option.bind_some, if_neg nt', Option.bind_some, cl, Option.bind_some]
    unfold dkF
    dsimp only
    generalize hkf : kF (s.2.2 62) x kl.length 0 = kf
    cases kf with
    | none =>
      obtain ⟨h', w1, w2, w3, w4, w5⟩ := no 3 tq
      refine ⟨h', ift rfl (bse v5 (bse (a := h') ?_ rfl)), w2, w3, w4, w5⟩
      rw [hc_v hp (by decide), w1]
      rfl
    | some kk =>
      obtain ⟨_, k2, _, _⟩ := kF_some hkf
      obtain ⟨K, hK⟩ : ∃ K, kl[kk]? = some K := ⟨kl[kk]'(by omega), List.getElem?_eq_getElem (by omega)⟩
      obtain ⟨r1, r2, r3⟩ := ka.2.2 kk K hK
      have o2 : dgI L xs h 2 [9] (some K) = some (s.2.1 66 kk) := fd_I r2 (by decide)
      have o3 : dgI L xs h 3 [9] (some K) = some (Int32.ofNat kk) := fd_I r3 (by decide)
      rw [show kO kl (some kk) = some K from hK]
      dsimp only
      rw [if_neg (dnl_s K), o2, Option.bind_some]
      have c144 : ∀ (x y : Int32) (h' : rm_H), dM L xs zf w (k + 5) 144 [.ref (cx 8), .int x, .int y] h = some (none, h') → (dcV L xs (dM L xs zf w (k + 5)) 144 [4] (some (cx 8)) [.int x, .int y] h).bind dxV = some h' := by
        intro x y h' e
        rw [hc_v hp (by decide), e]
        rfl
      have c153 : ∀ x y z : Int32, (dM L xs zf w (k + 5) 153 [.int x, .int y, .int z] h).bind dxI = some (tO x y z, h) := fun x y z => by
        rw [e153]
        rfl
      rcases r1 with ac | ac
      · rw [ac, if_pos (by decide), if_pos rfl]
        unfold b149_65
        rw [o2, ac, Option.bind_some, if_pos (by decide), v2, Option.bind_some]
        by_cases q1 : cp = -1
        · rw [if_pos q1, if_pos (by rw [q1]; decide), v6, Option.bind_some]
          by_cases q2 : bn = 0
          · rw [if_pos q2, if_pos (by rw [q2]; decide)]
            obtain ⟨h', w1, w2, w3, w4, w5⟩ := no 4 tq
            exact ⟨h', bse v5 (bse (c144 _ _ _ w1) rfl), w2, w3, w4, w5⟩
          · rw [if_neg q2, if_neg (by rw [f1_eqd]; simpa using q2)]
            obtain ⟨h', w1, w2, w3, w4, w5⟩ := wr (tO 5 (Int32.ofNat kk) 2)
            exact ⟨h', bse o3 (bse (c153 _ _ _) (bse w1 rfl)), w2, w3, w4, w5⟩
        · rw [if_neg q1, if_neg (by rw [f2_eqd]; simpa using q1)]
          obtain ⟨h', w1, w2, w3, w4, w5⟩ := wr (tO 5 (Int32.ofNat kk) cp)
          exact ⟨h', bse o3 (bse rfl (bse (c153 _ _ _) (bse w1 rfl))), w2, w3, w4, w5⟩
      · rw [ac, if_neg (by decide), if_neg (by decide), v2, Option.bind_some]
        by_cases q1 : cp = -1
        · rw [if_pos q1, if_pos (by rw [q1]; decide)]
          unfold b149_65
          rw [o2, ac, Option.bind_some, if_neg (by decide)]
          obtain ⟨h', w1, w2, w3, w4, w5⟩ := wr (tO 3 (Int32.ofNat kk) 2)
          exact ⟨h', bse o3 (bse (c153 _ _ _) (bse w1 rfl)), w2, w3, w4, w5⟩
        · rw [if_neg q1, if_neg (by rw [f2_eqd]; simpa using q1)]
          obtain ⟨h', w1, w2, w3, w4, w5⟩ := no 4 cq
          exact ⟨h', bse (fd_I (u6 q1) c10) (bse (c144 _ _ _ w1) rfl), w2, w3, w4, w5⟩
end DT
