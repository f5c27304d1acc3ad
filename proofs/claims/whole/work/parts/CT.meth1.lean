/-! A METHOD from its parameters on, by both. -/
section MH
variable (L : Nat) (xs : Nat → Int32) (h : rm_H) (s : rS)
/-- the head of a method -/
def MHD (m M k K : Nat) : Prop :=
  (∃ so, so < 3 ∧ fd h 11 M 0 = some (.int (Int32.ofNat so)) ∧ s.2.1 70 m = Int32.ofNat so
    ∧ ((so = 0 ∧ fd h 11 M 3 = some (.ref 10) ∧ s.2.2 78 m = 0) ∨ (so ≠ 0 ∧ ∃ nq, fd h 11 M 3 = some (.ref nq) ∧ nS L xs h nq (s.2.2 78 m)))
    ∧ ((so ≠ 1 ∧ fd h 11 M 6 = some (.int 2) ∧ s.2.1 72 m = -1) ∨ (so = 1 ∧ ∃ c, c < 5 ∧ fd h 11 M 6 = some (.int (Int32.ofNat c)) ∧ s.2.1 72 m = Int32.ofNat c ∧ fd h 11 M 7 = some (.int (s.2.1 73 m)))))
  ∧ fd h 11 M 1 = some (.ref K) ∧ s.2.1 71 m = Int32.ofNat k ∧ fd h 11 M 2 = some (.int (Int32.ofNat m)) ∧ fd h 11 M 4 = some (.int (s.2.1 74 m))
end MH
/-- what the reference's method m leaves alone -/
def rMt (s s' : rS) (m np : Nat) : Prop := (∀ j, j ≠ 10 → j ≠ 24 → j ≠ 25 → j ≠ 26 → j ≠ 52 → j ≠ 56 → j ≠ 57 → j ≠ 58 → j ≠ 59 → s'.1 j = s.1 j) ∧ (∀ p, p < 44 ∨ (60 < p ∧ p < 75) ∨ p = 78 ∨ 81 < p → s'.2.1 p = s.2.1 p) ∧ (∀ i, i ≠ m → s'.2.1 75 i = s.2.1 75 i ∧ s'.2.1 76 i = s.2.1 76 i ∧ (i ≠ m + 1 → s'.2.1 77 i = s.2.1 77 i)) ∧ (∀ p, p ≠ 56 → p ≠ 61 → p ≠ 79 → s'.2.2 p = s.2.2 p) ∧ ∀ f, f < np → s'.2.2 79 f = s.2.2 79 f ∧ s'.2.1 80 f = s.2.1 80 f ∧ s'.2.1 81 f = s.2.1 81 f
section M1
variable {L : Nat} {xs : Nat → Int32} {zf : Value} {w k k2 i y m np kk : Nat} {cx : Nat → Nat} {F : Nat → Nat → Int32} {N : Nat → Int64} {q qm : List Value} {h h' h1 h2 : rm_H} {s s' s1 s2 : rS} {g g' g1 g2 : Nat → Nat} {ts ts' : List Nat} {M K l d : Nat} {v : Nat → Int32} {pt vr : Int32} {P : Nat → Prop}
theorem MHD_fr (hM : ∀ j, j ≤ 7 → fd h' 11 M j = fd h 11 M j) (ns : ∀ a b, nS L xs h a b → nS L xs h' a b) (r : ∀ p, 70 ≤ p → p ≤ 74 → s'.2.1 p m = s.2.1 p m) (rJ : s'.2.2 78 m = s.2.2 78 m) (t : MHD L xs h s m M kk K) : MHD L xs h' s' m M kk K := by
  obtain ⟨⟨so, t1, t2, t3, t4, t5⟩, t6, t7, t8, t9⟩ := t
  refine ⟨⟨so, t1, (hM 0 (by decide)).trans t2, (r 70 (by decide) (by decide)).trans t3, ?_, ?_⟩, (hM 1 (by decide)).trans t6, (r 71 (by decide) (by decide)).trans t7, (hM 2 (by decide)).trans t8, ?_⟩
  · rcases t4 with ⟨e1, e2, e3⟩ | ⟨e1, nq, e2, e3⟩
    · exact Or.inl ⟨e1, (hM 3 (by decide)).trans e2, rJ.trans e3⟩
    · exact Or.inr ⟨e1, nq, (hM 3 (by decide)).trans e2, by rw [rJ]; exact ns _ _ e3⟩
  · rcases t5 with ⟨e1, e2, e3⟩ | ⟨e1, c0, e2, e3, e4, e5⟩
    · exact Or.inl ⟨e1, (hM 6 (by decide)).trans e2, (r 72 (by decide) (by decide)).trans e3⟩
    · exact Or.inr ⟨e1, c0, e2, (hM 6 (by decide)).trans e3, (r 72 (by decide) (by decide)).trans e4, by rw [hM 7 (by decide), r 73 (by decide) (by decide)]; exact e5⟩
  · rw [hM 4 (by decide), r 74 (by decide) (by decide)]; exact t9
theorem MTR_of {lo hi pl ph : Nat} (a : MHD L xs h s m M kk K) (b : PMR L xs h s pl ph m M) (c : (fd h 11 M 8 = some .null ∧ s.2.1 75 m = -1) ∨ ∃ d y, fd h 11 M 8 = some (.ref d) ∧ pl ≤ d ∧ d < ph ∧ s.2.1 75 m = Int32.ofNat y ∧ (y : Int) < (s.1 26).toInt ∧ tyD L xs h s d y) (e : ∃ B b c lo' hi' pl' ph', fd h 11 M 9 = some (.ref B) ∧ s.2.1 76 m = Int32.ofNat b ∧ lo ≤ b ∧ b < lo' ∧ lo' ≤ hi' ∧ hi' ≤ hi ∧ pl ≤ pl' ∧ ph' ≤ ph ∧ s.2.1 44 b = 31 ∧ s.2.1 45 b = Int32.ofNat c ∧ s.2.1 49 c = Int32.ofNat b ∧ s.2.1 54 b = Int32.ofNat m ∧ NR L xs h s (1, 49) (hi' - lo') lo' hi' pl' ph' c B ∧ MTL h s m M lo' hi') : MTR L xs h s lo hi pl ph m M kk K := ⟨a.1, a.2.1, a.2.2.1, a.2.2.2.1, a.2.2.2.2, b, c, e⟩
/-- a Decl stays where the method is written -/
theorem ob_keep2 {fs : List Value} (h14 : cx 14 = 0) (z : SY cx F N q h s g ts ∨ FLT cx F N q h s g ts) (f : fr (fun y => M4 cx (g 1) y ∨ y = M) h h') (hM : hc h M = some (.inr (11, qm))) (hd : hc h d = some (.inr (10, fs))) : hc h' d = some (.inr (10, fs)) := by
  obtain ⟨v, pt, vr, p1, ch⟩ := sy_pc z
  refine fr_old f hd (fun u => ?_)
  rcases u with u | u
  · rcases u with u | u | u | u | u
    · rw [u, pC_r p1] at hd; cases hd
    · rw [u, ch.1] at hd; cases hd
    · obtain ⟨mc, e, _⟩ := ch.2.1
      rw [u, e] at hd; cases hd
    · have := hc_ge hd
      omega
    · obtain ⟨mc, _, _, _, e3⟩ := ch.2.1
      rcases e3 with ⟨e3, _⟩ | ⟨f0, e3, _⟩
      · have := hc_ge hd
        omega
      · rw [u, e3] at hd; cases hd
  · rw [u, hM] at hd; cases hd
/-- the class behind the parameters -/
def mtl (L : Nat) (xs : Nat → Int32) (zf : Value) (D : dD) (w : Nat) (o0 : Option Nat) (so : Int32) (o6 : Option Nat) (h : rm_H) : Option dR :=
  if mx_f2 .ne so 1 = true then
    b142_220 L xs zf D w o0 o6 h
  else
    (dgR L xs h 0 [8] o0).bind fun p64 =>
    (dgI L xs h 6 [6] p64).bind fun x66 =>
    if mx_f2 .ne x66 11 = true then
      b142_220 L xs zf D w o0 o6 h
    else
      (dgR L xs h 0 [8] o0).bind fun p69 =>
      ((dcV L xs D 92 [6] p69 [] h).bind dxV).bind fun h71 =>
      (some (h71 ++ [.inr (10, ah_DV 10)])).bind fun h75 =>
      (dgR L xs h75 0 [8] o0).bind fun p77 =>
      (dgI L xs h75 7 [6] p77).bind fun x79 =>
      ((dcN D 112 (some (21 + List.length h71)) [va_rf (some 9), .int x79] h75).bind dxV).bind fun h81 =>
      (dpF h81 8 [11] o6 (va_rf (some (21 + List.length h71)))).bind fun h85 =>
      (dgR L xs h85 8 [11] o6).bind fun p87 =>
      ((dcV L xs D 113 [8] o0 [va_rf p87] h85).bind dxV).bind fun h89 =>
      b142_220 L xs zf D w o0 o6 h89
/-- both behind the parameters, before the body -/
theorem x_mid (hT : TF cx F N) (h14 : cx 14 = 0) (z : SY cx F N q h s g ts ∨ FLT cx F N q h s g ts) (hM : hc h M = some (.inr (11, qm))) (q8 : qm[8]? = some .null) (hm : m < 72) (so : Nat) (hso : so < 3) : ∃ h' s' g' ts' qm', mtl L xs zf (dM L xs zf w (k + 9)) w (some (cx 7)) (Int32.ofNat so) (some M) h = b142_220 L xs zf (dM L xs zf w (k + 9)) w (some (cx 7)) (some M) h' ∧ (if mx_f2 .ne (Int32.ofNat so) 1 = true then s314_228 (rM w (k2 + 4)) w (Int32.ofNat m) s else ((rM w (k2 + 4) 309 [.ref 36, .int 58] s).bind rxI).bind fun x17 => if mx_f1 .eq x17.1 = true then s314_228 (rM w (k2 + 4)) w (Int32.ofNat m) x17.2 else ((rM w (k2 + 4) 312 [.ref 36] x17.2).bind rxI).bind fun x23 => (rs_sI x23.2 75 (Int32.ofNat m) x23.1).bind fun s28 => s314_228 (rM w (k2 + 4)) w (Int32.ofNat m) s28) = s314_228 (rM w (k2 + 4)) w (Int32.ofNat m) s' ∧ OPX (fun y => y = M) cx F N q 0 0 h s g ts h' s' g' ts' ∧ g' 6 = g 6 ∧ g' 3 = g 3 ∧ rRs s s' m ∧ hc h' M = some (.inr (11, qm')) ∧ (∀ j, j ≠ 8 → qm'[j]? = qm[j]?) ∧ qm'.length = qm.length ∧ (∀ l2 ar2 cap2 es2, l2 ≠ cx 11 → aL h l2 ar2 cap2 es2 → aL h' l2 ar2 cap2 es2) ∧ (SY cx F N q h' s' g' ts' → (qm'[8]? = some .null ∧ s'.2.1 75 m = s.2.1 75 m) ∨ ∃ d y, so = 1 ∧ qm'[8]? = some (.ref d) ∧ 21 + h.length ≤ d ∧ d < 21 + h'.length ∧ s'.2.1 75 m = Int32.ofNat y ∧ (y : Int) < (s'.1 26).toInt ∧ tyD L xs h' s' d y) := by
  have nl := n_lt hT z
  have rr : rRs s s m := ⟨fun _ _ _ _ _ => rfl, fun _ _ _ => rfl, fun _ _ => rfl, fun _ _ => rfl⟩
  by_cases so1 : so = 1
  · subst so1
    obtain ⟨b, v, p, q1, q2, q3, q4⟩ := op_at (w := w) hT P58 z
    by_cases bt : b = true
    · have y : SY cx F N q h s g ts := by
        rcases z with y | y
        · exact y
        · rw [q4 y] at bt; exact absurd bt (by decide)
      have t11 := (q3 y).mpr bt
      obtain ⟨h', s', g', ts', d, e1, e2, e3, e4, e5, e6, e7, e8, e9, e10⟩ := op_res (L := L) (xs := xs) (zf := zf) (w := w) (k := k) (k2 := k2) hT h14 y t11 hM q8 hm
      have l8 := (List.getElem?_eq_some_iff.mp q8).1
      refine ⟨h', s', g', ts', qm.set 8 (.ref d), ?_, ?_, e3, by rw [e4, y.2.1], e5, e6, e7, fun j hj => List.getElem?_set_ne (fun u => hj u.symm), List.length_set, e8, fun u => Or.inr ?_⟩
      · unfold mtl
        rw [if_neg (by decide), c_in p, Option.bind_some, c_I p 6 (by omega), Option.bind_some, q1.mpr bt, if_neg (by decide)]
        rw [c_in p] at e1
        exact e1
      · rw [if_neg (by decide)]
        exact e2
      · obtain ⟨x1, x2, x3, x4⟩ := e10 u
        exact ⟨d, g 5, rfl, List.getElem?_set_self l8, Nat.le_of_eq e9.symm, x4, x1, x2, x3⟩
    · have bf : b = false := by cases b <;> first | rfl | exact absurd rfl bt
      refine ⟨h, s, g, ts, qm, ?_, ?_, OPX_refl z, rfl, rfl, rr, hM, fun _ _ => rfl, rfl, fun _ _ _ _ _ e => e, fun _ => Or.inl ⟨q8, rfl⟩⟩
      · unfold mtl
        rw [if_neg (by decide), c_in p, Option.bind_some, c_I p 6 (by omega), Option.bind_some, if_pos (by rw [f2_ne]; exact decide_eq_true (fun u => bt (q1.mp u)))]
      · rw [if_neg (by decide)]
        have e9 : (rM w (k2 + 4) 309 [.ref 36, .int 58] s).bind rxI = some (0, s) := by
          rcases z with y | y
          · obtain ⟨⟨p, ⟨a1, a2, a3, a4⟩, rt, ch, ⟨c1, c2, c3, c4⟩, b1, b2, b3, b4⟩, g6⟩ := id y
            obtain ⟨⟨f5, _, tr⟩, _⟩ := hT.2.2 (g 0) b1
            have no : ¬ (F 4 (g 0) = 5 ∧ F 6 (g 0) = 58) := fun u => bt ((q3 y).mp ((sg_iff tr P58).mp u))
            have q9 := q309 (w := w) (k := k2 + 2) 58 a1 c1 nl.1
            rw [rt.1, rt.2.2.1, decide_eq_false no, if_neg no] at q9
            rw [q9]
            rfl
          · rw [z309 (k := k2 + 2) 58 y.2.1]
            rfl
        rw [e9, Option.bind_some, if_pos (show mx_f1 .eq 0 = true by decide)]
  · have ne1 : mx_f2 .ne (Int32.ofNat so) 1 = true := by
      have : so = 0 ∨ so = 2 := by omega
      rcases this with e | e <;> subst e <;> decide
    refine ⟨h, s, g, ts, qm, ?_, ?_, OPX_refl z, rfl, rfl, rr, hM, fun _ _ => rfl, rfl, fun _ _ _ _ _ e => e, fun _ => Or.inl ⟨q8, rfl⟩⟩
    · unfold mtl
      rw [if_pos ne1]
    · rw [if_pos ne1]
end M1
