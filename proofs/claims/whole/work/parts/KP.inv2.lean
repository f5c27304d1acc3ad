/-! THE INVARIANT, ITS COSTS, AND THE CALLS THAT CHANGE NOTHING. -/
/-- what was spent, and what the text has in hand -/
def bud (j : Nat) (h : rm_H) (n0 m0 m n : Nat) (sg : cS) : Prop := 64 * h.length + 704 * n0 ≤ 64 * (94 + 1100 * j + m0 + m) + pot n sg + 384 * n ∧ zh h + (if n0 = 0 then 0 else 8060) + 116 * n0 ≤ 281100 + 11500 * j + 2 * (m0 + m) + 2 * pot n sg + 150 * n
/-- THE INVARIANT -/
def iNV (L : Nat) (xs : Nat → Int32) (j : Nat) (h : rm_H) (s : rS) : Prop := ∃ (bp : Option Nat) (fn fp : Int32) (b0 n0 m0 b m : Nat) (cd : Option Nat) (n : Nat) (sg : cS), iAl L xs j h s bp fn fp b0 n0 m0 b m (va_rf cd) n sg ∧ bud j h n0 m0 m n sg
section IN2
variable {L : Nat} {xs : Nat → Int32} {zf : Value} {w k k2 j : Nat} {h h1 h2 : rm_H} {s s' sB : rS} {bp cd : Option Nat} {fn fp : Int32} {b0 n0 m0 b m n P : Nat} {cdv : Value} {sg : cS} {A B : Nat → Int32} {mi : Nat → Nat × Nat × Nat × Nat × Nat} {kc : kCi} {Z : Nat → Prop} {es : List Nat} {sz kk mm y : Nat}
theorem iAl_j {j' : Nat} (hj : j ≤ j') (y : iAl L xs j h s bp fn fp b0 n0 m0 b m cdv n sg) : iAl L xs j' h s bp fn fp b0 n0 m0 b m cdv n sg := by
  obtain ⟨a1, a2, a3, a4, ⟨c, st, dep, mk, sa, sc, sn, o1, o2, o3, o4, o5⟩, a6, a7, a8⟩ := y
  exact ⟨a1, a2, a3, a4, ⟨c, st, dep, mk, sa, sc, sn, o1, o2, by omega, o4, o5⟩, a6, a7, iRn_j hj a8⟩
theorem bud_j {j' : Nat} (hj : j ≤ j') (y : bud j h n0 m0 m n sg) : bud j' h n0 m0 m n sg := by
  obtain ⟨a1, a2⟩ := y
  exact ⟨by omega, by omega⟩
theorem iNV_F (f : Fr h1 h2) (r : RS h2 s) (y : iNV L xs j h1 s) : iNV L xs j h2 s := by
  obtain ⟨bp, fn, fp, b0, n0, m0, b, m, cd, n, sg, a1, a2, a3⟩ := y
  exact ⟨bp, fn, fp, b0, n0, m0, b, m, cd, n, sg, iAl_F f r a1, by rw [f.1]; exact a2, by rw [f.2.1]; exact a3⟩
theorem iNV_j (y : iNV L xs j h s) : iNV L xs (j + 1) h s := by
  obtain ⟨bp, fn, fp, b0, n0, m0, b, m, cd, n, sg, a1, a2⟩ := y
  exact ⟨bp, fn, fp, b0, n0, m0, b, m, cd, n, sg, iAl_j (Nat.le_succ j) a1, bud_j (Nat.le_succ j) a2⟩
theorem pot_b (ao : aOk sg) : ∀ n, n ≤ 12 → pot n sg ≤ 40000 * n := by
  intro n
  induction n with
  | zero => intro _; exact Nat.le_refl _
  | succ n ih =>
    intro hn
    have := ih (by omega)
    have := (ao n (by omega)).2.2
    show pot n sg + sg.2.2.2.2 n 13 ≤ _
    omega
/-- it keeps the room -/
theorem iNV_I : lw_I (iNV L xs) := by
  refine ⟨fun j h s y => ?_, fun j h s y hj => ?_, fun j h s _ y => iNV_j y⟩
  · obtain ⟨bp, fn, fp, b0, n0, m0, b, m, cd, n, sg, ⟨⟨ml0, f0, t1, _⟩, _⟩, _⟩ := y
    exact ⟨_, t1.1⟩
  · obtain ⟨bp, fn, fp, b0, n0, m0, b, m, cd, n, sg, ⟨⟨ml0, f0, t1, _⟩, _, _, _, ⟨c, st, dep, mk, sa, sc, sn, o1, _⟩, _, ⟨w1, _, w3, _⟩, _⟩, a1, a2⟩ := y
    have m1 : m0 ≤ 10000 := t1.2.1.2.2.2.2.1
    have m2 : m ≤ 10000 := by
      obtain ⟨_, _, _, _, _, n', ml', f', hS, _⟩ := o1
      exact hS.2.2.2.2.1
    have n12 : n ≤ 12 := w1.2.2.2
    have p1 := pot_b w3 n n12
    have p2 : pot n sg ≤ 480000 := by omega
    exact ⟨by omega, by omega⟩
/-- a call that changes nothing -/
theorem ob_same {mi' mr : Nat} {As : List Value} (e : ∀ j h s, iNV L xs j h s → ∃ v, dM L xs zf w k mi' (.ref 21 :: As) h = some (some (.int v), h) ∧ rM w k mr (.ref 36 :: As) s = some (some (.int v), s)) : lw_ob L xs zf w k (iNV L xs) mi' mr As := fun j h s hj y r => by
  obtain ⟨v, e1, e2⟩ := e j h s y
  exact ⟨v, h, s, e1, r, e2, fun h2 r2 f => iNV_F f r2 (iNV_j y)⟩
/-- the house's cell -/
theorem iNV_21 (t : iTx h s bp fn fp b0 n0 m0) : hc h 21 = some (.inr (0, [.ref 22, .ref 24, .ref 30, va_rf bp, .int fn, .int fp])) := by
  obtain ⟨ml0, f0, t1, _⟩ := t
  exact hc_of (by decide) t1.1
/-- the World's numbers -/
theorem iNV_W (w1 : RH (va_rf cd) n sg (Zr n sg) h h) : iW h sg.1 cd := by
  have := RH_wd (x := 0) w1 (by decide)
  unfold hc at this
  rw [if_pos (by decide)] at this
  exact this
theorem iNV_N (wz : s.1 74 = 0 → ∀ q, 8 ≤ q → q ≤ 15 → sg.1 q = 0) (rn : iRn L xs h s Z bp cdv n sg j) : iN sg.1 s := by
  refine ⟨fun z => ⟨wz z 8 (by decide) (by decide), wz z 9 (by decide) (by decide), wz z 10 (by decide) (by decide), wz z 11 (by decide) (by decide), wz z 12 (by decide) (by decide), wz z 13 (by decide) (by decide), wz z 14 (by decide) (by decide), wz z 15 (by decide) (by decide)⟩, fun nz => ?_⟩
  rcases rn with ⟨_, _, z⟩ | ⟨P, sB, A, B, mi, kc, es, sz, kk, mm, _, _, _, _, _, z | ⟨_, _, om, ka, la, ms, N, cn, D, x, _, _, ru⟩⟩
  · exact absurd z nz
  · exact absurd z nz
  · obtain ⟨cl, mb, tn, _, _, ⟨c1, c2, _⟩, ⟨c3, c4⟩, ⟨c5, c6, _⟩, _, c7, ⟨c8, c9, _⟩, ⟨c10, c11, c12⟩, _⟩ := ru.1.2.2.1
    exact ⟨c1.trans c2.symm, c3.trans c4.symm, c5.trans c6.symm, c7, c8.trans c9.symm, c10, c11, c12⟩
theorem iNV_T (w1 : RH cdv n sg (Zr n sg) h h) (rn : iRn L xs h s Z bp cdv n sg j) : iT h (sg.1 12) s := by
  have e4 := RH_wd (x := 4) w1 (by decide)
  have e5 := RH_wd (x := 5) w1 (by decide)
  unfold hc at e4 e5
  rw [if_pos (by decide)] at e4 e5
  refine ⟨sg.2.1 3, sg.2.1 4, e4, e5, fun nz i hi lt => ?_⟩
  rcases rn with ⟨_, _, z⟩ | ⟨P, sB, A, B, mi, kc, es, sz, kk, mm, _, _, _, _, _, z | ⟨_, _, om, ka, la, ms, N, cn, D, x, _, hcn, ru⟩⟩
  · exact absurd z nz
  · exact absurd z nz
  · obtain ⟨cl, mb, tn, _, _, _, _, _, _, _, ⟨c8, c9, c10, c11⟩, _⟩ := ru.1.2.2.1
    by_cases ht : tn ≤ 100000000
    · rw [c8, of_int ht] at lt
      exact c11 i hi (by omega)
    · exact c11 i hi (by omega)
end IN2
