/-! DECLARATIONS: fields, parameters, methods; lists that take one more. -/
section DR
variable (L : Nat) (xs : Nat → Int32) (h : rm_H) (s : rS)
/-- Decl d is declaration f of the reference's rows a (names), b (places), c (types), in slot i -/
def DCR (a b c d f i : Nat) : Prop := (∃ nq, fd h 10 d 0 = some (.ref nq) ∧ nS L xs h nq (s.2.2 a f)) ∧ fd h 10 d 1 = some (.int (s.2.1 b f)) ∧ fd h 10 d 8 = some (.int (Int32.ofNat i)) ∧ ∃ y : Nat, s.2.1 c f = Int32.ofNat y ∧ (y : Int) < (s.1 26).toInt ∧ tyD L xs h s d y
/-- parameters of method m, in a list; places pl to ph -/
def PMR (pl ph m M : Nat) : Prop := ∃ l ar cap ds p0, fd h 11 M 5 = some (.ref l) ∧ aL h l ar cap ds ∧ pl ≤ l ∧ l < ph ∧ s.2.1 77 m = Int32.ofNat p0 ∧ s.2.1 77 (m + 1) = Int32.ofNat (p0 + ds.length) ∧ ds.length ≤ 6 ∧ p0 + ds.length ≤ 440 ∧ ∀ i d, ds[i]? = some d → DCR L xs h s 79 80 81 d (p0 + i) i ∧ pl ≤ d ∧ d < ph
/-- locals: nl of them, parameters among them; the vars of nodes lo to hi; what the check finds of M later -/
def MTL (m M lo hi : Nat) : Prop := ∃ nl np : Nat, ∃ en ha : Int32, (nl ≤ 16 ∧ (s.2.1 75 m = -1 ∨ s.2.1 70 m = 1)) ∧ fd h 11 M 10 = some (.int (Int32.ofNat nl)) ∧ np ≤ nl ∧ s.2.1 77 (m + 1) = s.2.1 77 m + Int32.ofNat np ∧ (∀ n, lo ≤ n → n < hi → s.2.1 44 n = 20 → ∃ sl, sl < nl ∧ s.2.1 53 n = Int32.ofNat sl ∧ np ≤ sl ∧ sl < 16 ∧ ∀ n', lo ≤ n' → n' < n → s.2.1 44 n' = 20 → (s.2.1 53 n').toInt < (s.2.1 53 n).toInt) ∧ fd h 11 M 11 = some (.int en) ∧ fd h 11 M 12 = some (.int 1) ∧ fd h 11 M 13 = some (.int ha)
/-- Method M is method m of kind k (Kind K); nodes lo to hi, places pl to ph -/
def MTR (lo hi pl ph m M k K : Nat) : Prop :=
  (∃ so, so < 3 ∧ fd h 11 M 0 = some (.int (Int32.ofNat so)) ∧ s.2.1 70 m = Int32.ofNat so
    ∧ ((so = 0 ∧ fd h 11 M 3 = some (.ref 10) ∧ s.2.2 78 m = 0) ∨ (so ≠ 0 ∧ ∃ nq, fd h 11 M 3 = some (.ref nq) ∧ nS L xs h nq (s.2.2 78 m)))
    ∧ ((so ≠ 1 ∧ fd h 11 M 6 = some (.int 2) ∧ s.2.1 72 m = -1) ∨ (so = 1 ∧ ∃ c, c < 5 ∧ fd h 11 M 6 = some (.int (Int32.ofNat c)) ∧ s.2.1 72 m = Int32.ofNat c ∧ fd h 11 M 7 = some (.int (s.2.1 73 m)))))
  ∧ fd h 11 M 1 = some (.ref K) ∧ s.2.1 71 m = Int32.ofNat k ∧ fd h 11 M 2 = some (.int (Int32.ofNat m)) ∧ fd h 11 M 4 = some (.int (s.2.1 74 m))
  ∧ PMR L xs h s pl ph m M
  ∧ ((fd h 11 M 8 = some .null ∧ s.2.1 75 m = -1) ∨ ∃ d y, fd h 11 M 8 = some (.ref d) ∧ pl ≤ d ∧ d < ph ∧ s.2.1 75 m = Int32.ofNat y ∧ (y : Int) < (s.1 26).toInt ∧ tyD L xs h s d y)
  ∧ (∃ B b c lo' hi' pl' ph', fd h 11 M 9 = some (.ref B) ∧ s.2.1 76 m = Int32.ofNat b ∧ lo ≤ b ∧ b < lo' ∧ lo' ≤ hi' ∧ hi' ≤ hi ∧ pl ≤ pl' ∧ ph' ≤ ph ∧ s.2.1 44 b = 31 ∧ s.2.1 45 b = Int32.ofNat c ∧ s.2.1 49 c = Int32.ofNat b ∧ s.2.1 54 b = Int32.ofNat m ∧ NR L xs h s (1, 49) (hi' - lo') lo' hi' pl' ph' c B ∧ MTL h s m M lo' hi')
end DR
section DF
variable {L : Nat} {xs : Nat → Int32} {zf : Value} {w k : Nat} {cx : Nat → Nat} {F : Nat → Nat → Int32} {N : Nat → Int64} {q : List Value} {h h' h1 : rm_H} {s s' : rS} {g g' : Nat → Nat} {ts ts' : List Nat} {P : Nat → Prop} {v : Nat → Int32}
theorem tyD_k7 {d y : Nat} (hf : ∀ j, j ≠ 7 → ∀ u, fd h 10 d j = some u → fd h' 10 d j = some u) (ns : ∀ a b, nS L xs h a b → nS L xs h' a b) (hY : yA s s') (hy : (y : Int) < (s.1 26).toInt) (t : tyD L xs h s d y) : tyD L xs h' s' d y := by
  obtain ⟨y1, y2, y3, y4⟩ := hY.2 y hy
  unfold tyD at t ⊢
  rw [y1, y2, y3, y4]
  obtain ⟨t1, t2⟩ := t
  refine ⟨hf 6 (by decide) _ t1, ?_⟩
  rcases t2 with ⟨t2, t3⟩ | ⟨tq, t2, t3, t4, t5⟩
  · exact Or.inl ⟨t2, hf 4 (by decide) _ t3⟩
  · refine Or.inr ⟨tq, hf 4 (by decide) _ t2, ns _ _ t3, hf 5 (by decide) _ t4, ?_⟩
    rcases t5 with ⟨t5, t6⟩ | ⟨c, t5, t6, t7, t8⟩
    · exact Or.inl ⟨t5, hf 2 (by decide) _ t6⟩
    · exact Or.inr ⟨c, t5, t6, hf 2 (by decide) _ t7, hf 3 (by decide) _ t8⟩
theorem DCR_fr {a b c d f i : Nat} (hf : ∀ j, j ≠ 7 → ∀ u, fd h 10 d j = some u → fd h' 10 d j = some u) (ns : ∀ a b, nS L xs h a b → nS L xs h' a b) (hY : yA s s') (r1 : s'.2.2 a f = s.2.2 a f) (r2 : s'.2.1 b f = s.2.1 b f) (r3 : s'.2.1 c f = s.2.1 c f) (t : DCR L xs h s a b c d f i) : DCR L xs h' s' a b c d f i := by
  obtain ⟨⟨nq, t1, t2⟩, t3, t4, y, t5, t6, t7⟩ := t
  unfold DCR
  rw [r1, r2, r3]
  exact ⟨⟨nq, hf 0 (by decide) _ t1, ns _ _ t2⟩, hf 1 (by decide) _ t3, hf 8 (by decide) _ t4, y, t5, by have := hY.1; omega, tyD_k7 hf ns hY t6 t7⟩
/-- rows of methods and parameters that stay: methods below nm, parameters below np -/
def mA (s s' : rS) (m np : Nat) : Prop := (∀ p, 70 ≤ p → p ≤ 76 → s'.2.1 p m = s.2.1 p m) ∧ s'.2.1 77 m = s.2.1 77 m ∧ s'.2.1 77 (m + 1) = s.2.1 77 (m + 1) ∧ s'.2.2 78 m = s.2.2 78 m ∧ ∀ f, f < np → s'.2.2 79 f = s.2.2 79 f ∧ s'.2.1 80 f = s.2.1 80 f ∧ s'.2.1 81 f = s.2.1 81 f
theorem PMR_fr {pl ph m M np r : Nat} (hf : fr P h h') (a : cA h h' pl ph r) (hY : yA s s') (hM : ∀ j, j ≤ 10 → fd h' 11 M j = fd h 11 M j) (hm : mA s s' m np) (hp : ∀ x : Nat, s.2.1 77 (m + 1) = Int32.ofNat x → x ≤ 440 → x ≤ np) (t : PMR L xs h s pl ph m M) : PMR L xs h' s' pl ph m M := by
  obtain ⟨l, ar, cap, ds, p0, t1, t2, t3, t4, t5, t6, t7, t8, t9⟩ := t
  refine ⟨l, ar, cap, ds, p0, (hM 5 (by decide)).trans t1, a.2 l ar cap ds t3 t4 t2, t3, t4, hm.2.1.trans t5, hm.2.2.1.trans t6, t7, t8, fun i d hi => ?_⟩
  obtain ⟨u1, u2, u3⟩ := t9 i d hi
  have il : i < ds.length := (List.getElem?_eq_some_iff.mp hi).1
  have pn := hp _ t6 t8
  obtain ⟨r1, r2, r3⟩ := hm.2.2.2.2 (p0 + i) (by omega)
  exact ⟨DCR_fr (fun j hj u e => cA_10 a ⟨u2, u3⟩ hj e) (fun _ _ => nS_fr hf) hY r1 r2 r3 u1, u2, u3⟩
theorem MTR_fr {lo hi pl ph m M k K np : Nat} (hf : fr P h h') (a : cA h h' pl ph 0) (b : sA s s' lo hi 0) (hpl : 21 ≤ pl ∧ 1 ≤ lo) (hY : yA s s') (hM : ∀ j, j ≤ 13 → fd h' 11 M j = fd h 11 M j) (hm : mA s s' m np) (hp : ∀ x : Nat, s.2.1 77 (m + 1) = Int32.ofNat x → x ≤ 440 → x ≤ np) (t : MTR L xs h s lo hi pl ph m M k K) : MTR L xs h' s' lo hi pl ph m M k K := by
  obtain ⟨⟨so, t1, t2, t3, t4, t5⟩, t6, t7, t8, t9, t10, t11, ⟨B, bb, c, lo', hi', pl', ph', u1, u2, u3, u4, u5, u6, u7, u8, u9, u10, u11, u12, u13, nl, np', en, ha, w1, w2, w3, w4, w5, w6, w7, w8⟩⟩ := t
  have h7 : ∀ p, 70 ≤ p → p ≤ 76 → s'.2.1 p m = s.2.1 p m := hm.1
  have rg := NR_rg _ _ _ _ _ _ _ _ u13
  have sb := b bb (by omega) (by omega)
  have sc := (b c (by omega) (by omega)).2.2.1 (by omega)
  refine ⟨⟨so, t1, (hM 0 (by decide)).trans t2, (h7 70 (by decide) (by decide)).trans t3, ?_, ?_⟩, (hM 1 (by decide)).trans t6, (h7 71 (by decide) (by decide)).trans t7, (hM 2 (by decide)).trans t8, ?_, PMR_fr hf a hY (fun j hj => hM j (by omega)) hm hp t10, ?_, ⟨B, bb, c, lo', hi', pl', ph', (hM 9 (by decide)).trans u1, (h7 76 (by decide) (by decide)).trans u2, u3, u4, u5, u6, u7, u8, (sb.1 44 (by omega)).trans u9, (sb.1 45 (by omega)).trans u10, sc.2.trans u11, (sb.1 54 (by omega)).trans u12, ?_, nl, np', en, ha, ⟨w1.1, by rw [h7 75 (by decide) (by decide), h7 70 (by decide) (by decide)]; exact w1.2⟩, (hM 10 (by decide)).trans w2, w3, ?_, fun n n1 n2 e => ?_, (hM 11 (by decide)).trans w6, (hM 12 (by decide)).trans w7, (hM 13 (by decide)).trans w8⟩⟩
  · rcases t4 with ⟨e1, e2, e3⟩ | ⟨e1, nq, e2, e3⟩
    · exact Or.inl ⟨e1, (hM 3 (by decide)).trans e2, hm.2.2.2.1.trans e3⟩
    · exact Or.inr ⟨e1, nq, (hM 3 (by decide)).trans e2, by rw [hm.2.2.2.1]; exact nS_fr hf e3⟩
  · rcases t5 with ⟨e1, e2, e3⟩ | ⟨e1, c0, e2, e3, e4, e5⟩
    · exact Or.inl ⟨e1, (hM 6 (by decide)).trans e2, (h7 72 (by decide) (by decide)).trans e3⟩
    · exact Or.inr ⟨e1, c0, e2, (hM 6 (by decide)).trans e3, (h7 72 (by decide) (by decide)).trans e4, by rw [hM 7 (by decide), h7 73 (by decide) (by decide)]; exact e5⟩
  · rw [hM 4 (by decide), h7 74 (by decide) (by decide)]; exact t9
  · rcases t11 with ⟨e1, e2⟩ | ⟨d, y, e1, e2, e3, e4, e5, e6⟩
    · exact Or.inl ⟨(hM 8 (by decide)).trans e1, (h7 75 (by decide) (by decide)).trans e2⟩
    · exact Or.inr ⟨d, y, (hM 8 (by decide)).trans e1, e2, e3, (h7 75 (by decide) (by decide)).trans e4, by have := hY.1; omega, tyD_k7 (fun j hj u e => cA_10 a ⟨e2, e3⟩ hj e) (fun _ _ => nS_fr hf) hY e5 e6⟩
  · exact NR_fr hf hY _ _ _ _ _ _ _ _ u13 (cA_sub a u7 u8 (Or.inr (by omega))) (sA_sub b (by omega) u6 (Or.inr (by omega)))
  · rw [hm.2.1, hm.2.2.1]; exact w4
  · have bn := b n (by omega) (by omega)
    rw [bn.1 44 (by omega)] at e
    obtain ⟨sl, a1, a2, a3, a4, a5⟩ := w5 n n1 n2 e
    refine ⟨sl, a1, (bn.2.2.2 e).trans a2, a3, a4, fun n' m1 m2 m3 => ?_⟩
    have bn' := b n' (by omega) (by omega)
    rw [bn'.1 44 (by omega)] at m3
    rw [bn'.2.2.2 m3, bn.2.2.2 e]
    exact a5 n' m1 m2 m3
/-- lists elsewhere stay while both go on -/
theorem aL_op {l ar cap : Nat} {es : List Nat} (z : SY cx F N q h s g ts ∨ FLT cx F N q h s g ts) (b : fr (M4 cx (g 1)) h h') (e : aL h l ar cap es) (hl : l ≠ cx 11) : aL h' l ar cap es := by
  have main : ∀ (v : Nat → Int32) (pt vr : Int32), pC h cx F v → CH cx q h g ts pt vr → aL h' l ar cap es := by
    intro v pt vr p1 ch
    obtain ⟨mc, r1, _, _, r3⟩ := id e
    obtain ⟨mc2, k1, _, _, k3⟩ := id ch.2.1
    refine aL_fr b (fun u => ?_) (fun h5 u => ?_) e
    · rcases u with u | u | u | u | u
      · rw [u, pC_r p1] at r1; cases r1
      · rw [u, ch.1] at r1; cases r1
      · exact hl u
      · rcases ch.2.2.2.2 with c | ⟨_, c⟩
        · have := hc_ge r1
          omega
        · rw [u, c] at r1; cases r1
      · rcases k3 with ⟨k3, _⟩ | ⟨f0, k3, _⟩
        · have := hc_ge r1
          omega
        · rw [← u, r1] at k3; cases k3
    · rcases r3 with ⟨r3, _⟩ | ⟨f0, r3, _⟩
      · exact h5 r3
      · rcases u with u | u | u | u | u
        · rw [u, pC_r p1] at r3; cases r3
        · rw [u, ch.1] at r3; cases r3
        · rw [u, k1] at r3; cases r3
        · rcases ch.2.2.2.2 with c | ⟨_, c⟩
          · have := hc_ge r3
            omega
          · rw [u, c] at r3; cases r3
        · rw [u] at r1
          rcases ch.2.2.2.1.2 _ _ _ _ _ r1 k1 with w | w
          · exact h5 (u.trans w)
          · exact hl w
  rcases z with z | z
  · exact main _ _ _ z.1.1 z.1.2.2.2.1
  · obtain ⟨⟨v, p1, _⟩, _, _, ⟨pt, vr, ch⟩, _⟩ := z
    exact main _ _ _ p1 ch
/-- a list other than that of types takes one more -/
theorem op_ladd {l ar cap x : Nat} {es : List Nat} (z : SY cx F N q h s g ts ∨ FLT cx F N q h s g ts) (e : aL h l ar cap es) (ho : ∀ y ∈ es, oK h y) (hx : oK h x) (hl : l ≠ cx 11) (hn : es.length ≤ 99000) : ∃ h' ar' cap', dM L xs zf w (k + 6) 103 [.ref l, .ref x] h = some (some (.int 1), h') ∧ aL h' l ar' cap' (es ++ [x]) ∧ (∀ y ∈ es ++ [x], oK h' y) ∧ fr (fun y => y = l ∨ y = ar) h h' ∧ h'.length ≤ h.length + 1 ∧ zh h' + 4 * cap ≤ zh h + 4 * cap' ∧ (ar' = ar ∨ ar' = 21 + h.length) ∧ (SY cx F N q h s g ts → SY cx F N q h' s g ts) ∧ (FLT cx F N q h s g ts → FLT cx F N q h' s g ts) ∧ (∀ l2 ar2 cap2 es2, l2 ≠ l → aL h l2 ar2 cap2 es2 → aL h' l2 ar2 cap2 es2) := by
  obtain ⟨h', ar', cap', a1, a2, a3, a4, a5⟩ := al_add (L := L) (xs := xs) (zf := zf) (w := w) (k := k) e ho hx hn
  have uu : uA h := by
    rcases z with z | z
    · exact z.1.2.2.2.1.2.2.2.1
    · obtain ⟨_, _, _, ⟨pt, vr, ch⟩, _⟩ := z
      exact ch.2.2.2.1
  refine ⟨h', ar', cap', a1, a2, fun y hy => ?_, a4, by omega, a5, by omega, fun y => ?_, fun y => ?_, fun l2 ar2 cap2 es2 hne e2 => ?_⟩
  · rcases List.mem_append.mp hy with u | u
    · exact oK_fr a4 (ho y u)
    · rw [List.mem_singleton.mp u]; exact oK_fr a4 hx
  · obtain ⟨⟨p1, t1, rt, ch, cs, b⟩, g6⟩ := y
    obtain ⟨c1, c2⟩ := CH_l p1 ch e hl a2 a4 a3
    refine ⟨⟨c1, t1, rt, c2, cs, b⟩, g6.1, TSI_0 g6.2 a4 (fun d fs ed u => ?_) (nD_add a2 a3) rfl rfl rfl rfl⟩
    obtain ⟨mc, r1, _, _, r3⟩ := id e
    rcases u with u | u
    · rw [u, r1] at ed; cases ed
    · rcases r3 with ⟨r3, _⟩ | ⟨f0, r3, _⟩
      · have := hc_ge ed
        omega
      · rw [u, r3] at ed; cases ed
  · obtain ⟨⟨v, p1, r⟩, t1, rt, ⟨pt, vr, ch⟩, cs, b⟩ := y
    obtain ⟨c1, c2⟩ := CH_l p1 ch e hl a2 a4 a3
    exact ⟨⟨v, c1, r⟩, t1, rt, ⟨pt, vr, c2⟩, cs, b⟩
  · obtain ⟨mc, r1, _, _, r3⟩ := id e
    obtain ⟨mc2, k1, _, _, k3⟩ := id e2
    refine aL_fr a4 (fun u => ?_) (fun h5 u => ?_) e2
    · rcases u with u | u
      · exact hne u
      · rcases r3 with ⟨r3, _⟩ | ⟨f0, r3, _⟩
        · have := hc_ge k1
          omega
        · rw [← u, k1] at r3; cases r3
    · rcases k3 with ⟨k3, _⟩ | ⟨f0, k3, _⟩
      · exact h5 k3
      · rcases u with u | u
        · rw [u, r1] at k3; cases k3
        · rw [u] at k1
          rcases uu.2 _ _ _ _ _ k1 r1 with w | w
          · exact h5 (u.trans w)
          · exact hne w
end DF
section TDL
variable {L : Nat} {xs : Nat → Int32} {cx : Nat → Nat} {h h1 : rm_H} {s s1 : rS} {g g1 : Nat → Nat} {ts : List Nat} {P : Nat → Prop} {d : Nat}
/-- one more Decl with a type -/
theorem TSI_decl (t : TSI cx h s g ts) (f : fr P h h1) (hP : ∀ d fs, hc h d = some (.inr (10, fs)) → ¬ P d) (ne : nE d h h1) (h8 : cx 8 ≤ d) (sx : tR s s1 (g 4)) (ya : ∀ y, y < g 5 → s1.2.1 57 y = s.2.1 57 y ∧ s1.2.1 58 y = s.2.1 58 y ∧ s1.2.1 59 y = s.2.1 59 y ∧ s1.2.2 61 y = s.2.2 61 y) (g3 : g1 3 = g 3) (g4 : g1 4 = g 4) (g5 : g1 5 = g 5 + 1) (f9 : ∃ fs, hc h1 d = some (.inr (10, fs)) ∧ fs.length = 9 ∧ fs[7]? = some (.int 0)) (td : tyD L xs h1 s1 d (g 5)) : TSI cx h1 s1 g1 (ts ++ [d]) := by
  refine TSI_gen (us := [d]) t f hP (fun x fs e => ?_) sx ya (by omega) (by omega) (by omega) (fun x hx => ?_) (fun y y1 y2 => ?_) (fun n n1 n2 _ => ?_) (fun n n1 n2 _ => ?_)
  · rcases ne x fs e with q | q
    · exact Or.inl q
    · exact Or.inr (List.mem_singleton.mpr q)
  · rw [List.mem_singleton.mp hx]
    exact ⟨h8, f9, Or.inl ⟨g 5, by omega, tyD_L td⟩⟩
  · have y3 : y = g 5 := by omega
    subst y3
    exact ⟨d, List.mem_singleton.mpr rfl, tyD_L td⟩
  · omega
  · omega
/-- a list and its array are no Decls -/
theorem aL_10 {l ar cap : Nat} {es : List Nat} (e : aL h l ar cap es) : ∀ d fs, hc h d = some (.inr (10, fs)) → ¬ (d = l ∨ d = ar) := by
  intro d fs ed u
  obtain ⟨mc, r1, _, _, r3⟩ := id e
  rcases u with u | u
  · rw [u, r1] at ed; cases ed
  · rcases r3 with ⟨r3, _⟩ | ⟨f0, r3, _⟩
    · have := hc_ge ed
      omega
    · rw [u, r3] at ed; cases ed
end TDL
