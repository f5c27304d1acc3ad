/-! A KIND'S HEAD, by both. -/
/-- between kinds -/
def SZ (cx : Nat → Nat) (F : Nat → Nat → Int32) (N : Nat → Int64) (q : List Value) (h : rm_H) (s : rS) (g : Nat → Nat) (ts : List Nat) : Prop := (pC h cx F (vS cx F (g 0)) ∧ (s.1 57 = 0 ∧ s.1 58 = -1 ∧ (cx 14 ≠ 0 → s.1 59 = Int32.ofNat (g 3)) ∧ g 3 ≤ 16) ∧ rTk F N s ∧ CH cx q h g ts (s.1 24) (s.1 25) ∧ CS s g ∧ (g 0 ≤ cx 16 ∧ ts.length ≤ g 0 ∧ g 4 ≤ g 0 + 2 ∧ g 5 ≤ g 0)) ∧ g 6 = 0 ∧ TSI cx h s g ts
/-- a step of both from between kinds -/
def OPW (P : Nat → Prop) (cx : Nat → Nat) (F : Nat → Nat → Int32) (N : Nat → Int64) (q : List Value) (c1 c2 d2 : Nat) (h : rm_H) (s : rS) (g : Nat → Nat) (ts : List Nat) (h' : rm_H) (s' : rS) (g' : Nat → Nat) (ts' : List Nat) : Prop :=
  (SY cx F N q h' s' g' ts' ∨ FLT cx F N q h' s' g' ts') ∧ (SY cx F N q h' s' g' ts' → SZ cx F N q h s g ts ∧ sX s s' (g 4) ∧ yA s s')
  ∧ fr (fun y => M4 cx (g 1) y ∨ P y) h h' ∧ (g' 1 = g 1 ∨ 21 + h.length ≤ g' 1) ∧ (g 0 ≤ g' 0 ∧ g 4 ≤ g' 4)
  ∧ h'.length + 10 * g 0 + g 6 + c1 ≤ h.length + 10 * g' 0 + g' 6
  ∧ zh h' + 4 * g 2 + 80 * g 0 + 8 * g 6 + c2 ≤ zh h + 4 * g' 2 + 80 * g' 0 + 8 * g' 6 + d2
/-- what the head of Kind kk leaves alone -/
def rKh (s s' : rS) (kk : Nat) : Prop := (∀ j, j ≠ 26 → j ≠ 32 → j ≠ 56 → j ≠ 57 → j ≠ 58 → s'.1 j = s.1 j) ∧ (∀ p, p ≠ 63 → p ≠ 64 → p ≠ 66 → s'.2.1 p = s.2.1 p) ∧ (∀ p i, i ≠ kk → s'.2.1 p i = s.2.1 p i) ∧ (∀ p, p ≠ 62 → s'.2.2 p = s.2.2 p) ∧ ∀ i, i ≠ kk → s'.2.2 62 i = s.2.2 62 i
section KB
variable {L : Nat} {xs : Nat → Int32} {zf : Value} {w k k2 kk i : Nat} {cx : Nat → Nat} {F : Nat → Nat → Int32} {N : Nat → Int64} {q : List Value} {h h' h1 h2 : rm_H} {s s' s1 s2 : rS} {g g' : Nat → Nat} {ts : List Nat} {K nm a9 c9 : Nat} {v : Nat → Int32} {pt vr pl ac ix : Int32} {kl : List Nat}
theorem SZ_SY (z : SY cx F N q h s g ts) : SZ cx F N q h s g ts := by
  obtain ⟨⟨p, a, rt, ch, cs, b1, b2, b3, b4⟩, g6⟩ := z
  exact ⟨⟨p, a, rt, ch, cs, b1, b2, b3, by omega⟩, g6⟩
theorem rKh_rQ (a : rKh s s' kk) : rQ s s' := ⟨fun p hp => a.2.1 p (by omega) (by omega) (by omega), a.2.2.2.1 56 (by decide), a.2.2.2.1 61 (by decide)⟩
theorem OPW_le {P : Nat → Prop} {c1 c2 d2 e1 e2 f2 : Nat} {ts' : List Nat} (a : OPW P cx F N q c1 c2 d2 h s g ts h' s' g' ts') (l1 : e1 ≤ c1) (l2 : e2 + d2 ≤ c2 + f2) : OPW P cx F N q e1 e2 f2 h s g ts h' s' g' ts' := by
  obtain ⟨a1, a2, a3, a4, a5, a6, a7⟩ := a
  exact ⟨a1, a2, a3, a4, a5, by omega, by omega⟩
theorem OPW_trans {P Q : Nat → Prop} {c1 c2 d2 e1 e2 f2 : Nat} {g1 g2 : Nat → Nat} {ts1 ts2 : List Nat} {h2 : rm_H} {s2 : rS} (a : OPW P cx F N q c1 c2 d2 h s g ts h1 s1 g1 ts1) (b : OPY Q cx F N q e1 e2 f2 h1 s1 g1 ts1 h2 s2 g2 ts2) (hQ : ∀ y, y < 21 + h.length → Q y → P y) : OPW P cx F N q (c1 + e1) (c2 + e2) (d2 + f2) h s g ts h2 s2 g2 ts2 := by
  obtain ⟨a1, a2, a3, a4, a5, a6, a7⟩ := a
  obtain ⟨b1, b2, b3, b4, b5, b6, b7⟩ := b
  have hl := a3.1
  refine ⟨b1, fun z => ?_, fr_trans a3 b3 (fun y hy u => ?_), ?_, by omega, by omega, by omega⟩
  · obtain ⟨y1, y2, y3⟩ := b2 z
    obtain ⟨x1, x2, x3⟩ := a2 y1
    exact ⟨x1, sX_trans x2 y2 a5.2, yA_trans x3 y3⟩
  · rcases u with u | u
    · left
      rcases u with u | u | u | u | u
      · exact Or.inl u
      · exact Or.inr (Or.inl u)
      · exact Or.inr (Or.inr (Or.inl u))
      · exact Or.inr (Or.inr (Or.inr (Or.inl u)))
      · rcases a4 with e | e
        · exact Or.inr (Or.inr (Or.inr (Or.inr (u.trans e))))
        · omega
    · exact Or.inr (hQ y hy u)
  · omega
theorem rKh_trans (a : rKh s s1 kk) (b : rKh s1 s2 kk) : rKh s s2 kk := ⟨fun j h1 h2 h3 h4 h5 => (b.1 j h1 h2 h3 h4 h5).trans (a.1 j h1 h2 h3 h4 h5), fun p h1 h2 h3 => (b.2.1 p h1 h2 h3).trans (a.2.1 p h1 h2 h3), fun p i hi => (b.2.2.1 p i hi).trans (a.2.2.1 p i hi), fun p hp => (b.2.2.2.1 p hp).trans (a.2.2.2.1 p hp), fun i hi => (b.2.2.2.2 i hi).trans (a.2.2.2.2 i hi)⟩
theorem rKh_ty (a : rTy s s') (e : s'.2 = s.2) : rKh s s' kk := ⟨fun j h1 _ h3 h4 h5 => a.1 j h1 h3 h4 h5, fun _ _ _ _ => by rw [e], fun _ _ _ => by rw [e], fun _ _ => by rw [e], fun _ _ => by rw [e]⟩
theorem rKh_A {p : Nat} {x : Int32} (hp : p = 63 ∨ p = 64 ∨ p = 66) : rKh s (rs_wA s p kk x) kk := ⟨fun _ _ _ _ _ _ => rfl, fun r h1 h2 h3 => wA_ne _ _ _ (by omega), fun r i hi => by rw [wA_get, if_neg (fun u => hi u.2)], fun _ _ => rfl, fun _ _ => rfl⟩
theorem rKh_B {x : Int64} : rKh s (rs_wB s 62 kk x) kk := ⟨fun _ _ _ _ _ _ => rfl, fun _ _ _ _ => rfl, fun _ _ _ => rfl, fun p hp => wB_ne _ _ _ hp, fun i hi => by rw [wB_get, if_neg (fun u => hi u.2)]⟩
theorem rKh_32 {x : Int32} : rKh s (rs_w s 32 x) kk := ⟨fun j _ h2 _ _ _ => upd_ne _ _ h2, fun _ _ _ _ => rfl, fun _ _ _ => rfl, fun _ _ => rfl, fun _ _ => rfl⟩
theorem rKh_rT (a : rKh s s' kk) (t : rTk F N s) : rTk F N s' := by
  obtain ⟨t1, t2, t3, t4⟩ := t
  exact ⟨(a.2.1 40 (by decide) (by decide) (by decide)).trans t1, (a.2.1 41 (by decide) (by decide) (by decide)).trans t2, (a.2.1 42 (by decide) (by decide) (by decide)).trans t3, (a.2.2.2.1 43 (by decide)).trans t4⟩
theorem rKh_sX (a : rKh s s' kk) (nd : Nat) : sX s s' nd := fun j _ => ⟨fun p h1 h2 => by rw [a.2.1 p (by omega) (by omega) (by omega)], by rw [a.2.2.2.1 56 (by decide)]⟩
theorem t62 : rs_t 62 = (2, 8, true) ∧ rs_t 63 = (0, 8, false) := by decide
/-- the reference at a kind's head, up to its name -/
def khA (s : rS) (kk t : Nat) (ax : Int32) : rS := nxS (rs_wA (rs_w s 32 (Int32.ofNat (kk + 1))) 66 kk ax) t
/-- and behind its name -/
def khC (F : Nat → Nat → Int32) (N : Nat → Int64) (s : rS) (kk t : Nat) (x38 : Int32) : rS := rs_wA (rs_wA (rs_wB s 62 kk (N t)) 63 kk (F 5 t)) 64 kk x38
theorem r_kh {ax : Int32} {sB s' : rS} {t : Nat} (hkk : kk < 8) (x32 : s.1 32 = Int32.ofNat kk) (h56 : s.1 56 = Int32.ofNat t) (ht : t + 1 ≤ 2000) (e1 : (rM w k 303 [.ref 36, .int 1] (rs_w s 32 (Int32.ofNat (kk + 1)))).bind rxI = some (ax, rs_w s 32 (Int32.ofNat (kk + 1)))) (hax : ax = 0 ∨ ax = 1) (e2 : rM w k 307 [.ref 36, .int 3] (khA s kk t ax) = some (some (.int (Int32.ofNat (t + 1))), sB)) (rt : rTk F N sB) (e3 : rM w k 308 [.ref 36, .int 123] (khC F N sB kk (t + 1) (sB.1 38)) = some (none, s')) : s306_0 (rM w k) w s = s306_82 (rM w k) w w (Int32.ofNat kk) s' := by
  have a1 : ax &&& 1 = ax := by rcases hax with e | e <;> subst e <;> decide
  unfold s306_0
  rw [show rs_pI s 32 (s.1 32 + 1) = some (rs_w s 32 (Int32.ofNat (kk + 1))) from by rw [x32, show Int32.ofNat kk + 1 = Int32.ofNat (kk + 1) from of_add kk 1]; rfl, Option.bind_some, e1, Option.bind_some, x32, sB_at (by omega) t66 hkk (by omega), Option.bind_some, a1, pI_nx (s := rs_wA (rs_w s 32 (Int32.ofNat (kk + 1))) 66 kk ax) (t := t) h56, Option.bind_some, show (rM w k 307 [.ref 36, .int 3] (nxS (rs_wA (rs_w s 32 (Int32.ofNat (kk + 1))) 66 kk ax) t)).bind rxI = some (Int32.ofNat (t + 1), sB) from by
    show (rM w k 307 [.ref 36, .int 3] (khA s kk t ax)).bind rxI = _
    rw [e2]
    rfl, Option.bind_some, aTn (by omega), Option.bind_some, rt.2.2.2, sJ_at (by omega) t62.1 hkk (by omega), Option.bind_some, aTi (by omega) (by omega), Option.bind_some, show (rs_wB sB 62 kk (N (t + 1))).2.1 41 (t + 1) = F 5 (t + 1) from by rw [← rt.2.1]; rfl, sI_at (by omega) t62.2 hkk (by omega), Option.bind_some, kWt (Or.inl rfl) (by omega), Option.bind_some]
  show ((rM w k 308 [.ref 36, .int 123] (khC F N sB kk (t + 1) (sB.1 38))).bind rxV).bind _ = _
  rw [e3]
  rfl
end KB
