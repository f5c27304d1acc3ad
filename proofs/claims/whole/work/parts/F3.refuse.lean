/-! THE CLASS'S CHECKS, before a fault and behind it alike: what they refuse. -/
def fa (a x : Int32) : Int32 := if a = 0 then x else a
def fb (a b x y : Int32) : Int32 := if a = 0 ∧ x ≠ 0 then y else b
/-- number x at place y is refused; 0 is none -/
def rfz (L : Nat) (xs : Nat → Int32) (zf : Value) (w k C : Nat) (x y : Int32) (h : rm_H) : Option rm_H := if x = 0 then some h else (dcV L xs (dM L xs zf w (k + 1)) 178 [13] (some C) [.int x, .int y] h).bind dxV
theorem bnd_v (R : Option rm_H) : (R.bind fun h3 => (some (none, h3) : Option dR)).bind dxV = R := by cases R <;> rfl
theorem fa_0 {a : Int32} : fa a 0 = a := by
  unfold fa
  split
  · rename_i e; exact e.symm
  · rfl
theorem fb_0 {a b y : Int32} : fb a b 0 y = b := if_neg (fun z => z.2 rfl)
theorem fa_n {a x : Int32} (ha : a ≠ 0) : fa a x = a := if_neg ha
theorem fb_n {a b x y : Int32} (ha : a ≠ 0) : fb a b x y = b := if_neg (fun z => ha z.1)
section RFZ
variable {L : Nat} {xs : Nat → Int32} {zf : Value} {w k C Sc M pl ph K p n m : Nat} {cx : Nat → Nat} {h h1 h2 : rm_H} {pt vr gn rc a b x y t wt : Int32} {mv : Value} {ds kl : List Nat} {f : Nat → Int64} {sl ty : Nat → Int32} {u u1 u2 : Nat → Nat} {A B : Nat → Int32}
theorem ck_rfz (kh : KH L xs cx C Sc M pt vr mv h ds f sl ty gn rc a b u A B) (x y : Int32) : ∃ h', rfz L xs zf w k C x y h = some h' ∧ KH L xs cx C Sc M pt vr mv h' ds f sl ty gn rc (fa a x) (fb a b x y) u A B ∧ wF cx C Sc pl ph u h h' ∧ wK2 u u h h' := by
  by_cases hx : x = 0
  · subst hx
    rw [fa_0, fb_0]
    exact ⟨h, if_pos rfl, kh, wF_refl, wK2_refl⟩
  · by_cases ha : a = 0
    · subst ha
      obtain ⟨h', e1, e2, e3, e4⟩ := ck_refA (pl := pl) (ph := ph) (zf := zf) (w := w) (k := k) kh x y hx
      refine ⟨h', by unfold rfz; rw [if_neg hx]; exact e1, ?_, e3, e4⟩
      unfold fa fb
      rw [if_pos rfl, if_pos ⟨rfl, hx⟩]
      exact e2
    · rw [fa_n ha, fb_n ha]
      exact ⟨h, by unfold rfz; rw [if_neg hx]; exact ck_refB kh ha x y, kh, wF_refl, wK2_refl⟩
/-- a value fits or not -/
theorem c_188 (kh : KH L xs cx C Sc M pt vr mv h ds f sl ty gn rc a b u A B) (e1 : fd h 12 p 1 = some (.int y)) (t wt : Int32) : (dcV L xs (dM L xs zf w (k + 3)) 188 [13] (some C) [va_rf (some p), .int t, .int wt] h).bind dxV = rfz L xs zf w (k + 1) C (fitC t wt) y h := by
  have g1 : dgI L xs h 1 [12] (some p) = some y := fd_I e1 (by decide)
  rw [ck_v kh, e188]
  show (b188_0 L xs zf (dM L xs zf w (k + 2)) w (some C) (some p) t wt h).bind dxV = _
  have leaf : ∀ x : Int32, x ≠ 0 → ((dgI L xs h 1 [12] (some p)).bind fun x1 => ((dcV L xs (dM L xs zf w (k + 2)) 178 [13] (some C) [.int x, .int x1] h).bind dxV).bind fun h3 => (some (none, h3) : Option dR)).bind dxV = rfz L xs zf w (k + 1) C x y h := by
    intro x hx
    rw [g1]
    unfold rfz
    rw [if_neg hx]
    exact bnd_v _
  have z0 : (some (none, h) : Option dR).bind dxV = rfz L xs zf w (k + 1) C 0 y h := (if_pos rfl).symm
  have f78 : (b188_78 L xs zf (dM L xs zf w (k + 2)) w (some C) (some p) t wt (c_so t) h).bind dxV = rfz L xs zf w (k + 1) C (fit7 t wt) y h := by
    unfold b188_78 fit7
    by_cases c : c_so t = 5
    · rw [if_neg (show ¬ mx_f2 .ne (c_so t) 5 = true by rw [f2_ne, c]; decide), if_pos c, t_cp (k := k + 1) t h, Option.bind_some, t_cp (k := k + 1) wt h, Option.bind_some]
      dsimp only
      rw [show va_rf (some 1) = Value.ref 1 from rfl, lk_tb (k := k + 1) (q := 1) (by decide) _ _ h, Option.bind_some]
      dsimp only
      by_cases c2 : lkV 1 (c_cp t) (c_cp wt) = 1
      · rw [if_pos (show mx_f2 .eq (lkV 1 (c_cp t) (c_cp wt)) 1 = true from decide_eq_true c2), if_pos c2]
        exact z0
      · rw [if_neg (show ¬ mx_f2 .eq (lkV 1 (c_cp t) (c_cp wt)) 1 = true from fun z => c2 (of_decide_eq_true z)), if_neg c2]
        exact leaf 6 (by decide)
    · rw [if_pos (show mx_f2 .ne (c_so t) 5 = true by rw [f2_ne]; exact decide_eq_true c), if_neg c]
      exact z0
  unfold b188_0 fitC
  rw [t_so (k := k + 1) t h, Option.bind_some, t_so (k := k + 1) wt h, Option.bind_some]
  dsimp only
  by_cases c1 : c_so t = 2
  · rw [if_neg (show ¬ mx_f2 .ne (c_so t) 2 = true by rw [f2_ne, c1]; decide), if_pos c1]
    by_cases c2 : c_so wt = 5
    · rw [if_pos (show mx_f2 .eq (c_so wt) 5 = true from decide_eq_true c2), if_pos c2]
      exact z0
    · rw [if_neg (show ¬ mx_f2 .eq (c_so wt) 5 = true from fun z => c2 (of_decide_eq_true z)), if_neg c2]
      by_cases c3 : c_so wt = 3
      · rw [if_pos (show mx_f2 .eq (c_so wt) 3 = true from decide_eq_true c3), if_pos c3]
        exact z0
      · rw [if_neg (show ¬ mx_f2 .eq (c_so wt) 3 = true from fun z => c3 (of_decide_eq_true z)), if_neg c3]
        exact leaf 5 (by decide)
  · rw [if_pos (show mx_f2 .ne (c_so t) 2 = true by rw [f2_ne]; exact decide_eq_true c1), if_neg c1]
    by_cases c2 : c_so t = c_so wt
    · rw [if_neg (show ¬ mx_f2 .ne (c_so t) (c_so wt) = true by rw [f2_ne]; exact fun z => (of_decide_eq_true z) c2), if_pos c2]
      by_cases c3 : c_so t = 1
      · rw [if_pos (show mx_f2 .eq (c_so t) 1 = true from decide_eq_true c3), if_pos c3]
        exact f78
      · rw [if_neg (show ¬ mx_f2 .eq (c_so t) 1 = true from fun z => c3 (of_decide_eq_true z)), if_neg c3, t_kd (k := k + 1) t h, Option.bind_some, t_kd (k := k + 1) wt h, Option.bind_some]
        dsimp only
        by_cases c4 : c_kd t = c_kd wt
        · rw [if_pos (show mx_f2 .eq (c_kd t) (c_kd wt) = true from decide_eq_true c4), if_pos c4]
          exact f78
        · rw [if_neg (show ¬ mx_f2 .eq (c_kd t) (c_kd wt) = true from fun z => c4 (of_decide_eq_true z)), if_neg c4]
          exact leaf 5 (by decide)
    · rw [if_pos (show mx_f2 .ne (c_so t) (c_so wt) = true by rw [f2_ne]; exact decide_eq_true c2), if_neg c2]
      exact leaf 5 (by decide)
/-- int is asked for -/
def niC (t : Int32) : Int32 := if c_so t = 1 then 0 else if c_so t = 0 then 8 else 5
theorem c_209 (kh : KH L xs cx C Sc M pt vr mv h ds f sl ty gn rc a b u A B) (e1 : fd h 12 p 1 = some (.int y)) (t : Int32) : (dcV L xs (dM L xs zf w (k + 3)) 209 [13] (some C) [va_rf (some p), .int t] h).bind dxV = rfz L xs zf w (k + 1) C (niC t) y h := by
  have g1 : dgI L xs h 1 [12] (some p) = some y := fd_I e1 (by decide)
  rw [ck_v kh, e209]
  show (b209_0 L xs zf (dM L xs zf w (k + 2)) w (some C) (some p) t h).bind dxV = _
  have leaf : ∀ x : Int32, x ≠ 0 → (b209_22 L xs zf (dM L xs zf w (k + 2)) w (some p) x (some C) h).bind dxV = rfz L xs zf w (k + 1) C x y h := by
    intro x hx
    unfold b209_22
    rw [g1]
    unfold rfz
    rw [if_neg hx]
    exact bnd_v _
  unfold b209_0 niC
  rw [t_so (k := k + 1) t h, Option.bind_some]
  dsimp only
  by_cases c1 : c_so t = 1
  · rw [if_pos (show mx_f2 .eq (c_so t) 1 = true from decide_eq_true c1), if_pos c1]
    exact (if_pos rfl).symm
  · rw [if_neg (show ¬ mx_f2 .eq (c_so t) 1 = true from fun z => c1 (of_decide_eq_true z)), if_neg c1, t_so (k := k + 1) t h, Option.bind_some]
    dsimp only
    by_cases c2 : c_so t = 0
    · rw [if_neg (show ¬ mx_f1 .ne (c_so t) = true by rw [f1_ne, c2]; decide), if_pos c2]
      exact leaf 8 (by decide)
    · rw [if_pos (show mx_f1 .ne (c_so t) = true by rw [f1_ne]; exact decide_eq_true c2), if_neg c2]
      exact leaf 5 (by decide)
/-- a value: what is refused behind the expression, and its type -/
def vlX (t K : Int32) : Int32 := if c_so t = 0 then 8 else if c_so t = 5 then (if isP K = 0 then 0 else if c_cp t = 0 then 6 else 0) else 0
def vlT (t K : Int32) : Int32 := if c_so t = 4 then tO 3 (c_kd t) 2 else if c_so t = 5 then (if isP K = 0 then t else if c_cp t = 0 then t else if c_cp t = 1 then tO 5 (c_kd t) 4 else t) else t
theorem c_171 {h0 : rm_H} {W : Int32} (v0 : dcV L xs (dM L xs zf w (k + 3)) 171 [13] (some C) [va_rf (some p)] h0 = dM L xs zf w (k + 3) 171 [.ref C, va_rf (some p)] h0) (r : (dcV L xs (dM L xs zf w (k + 2)) 172 [13] (some C) [va_rf (some p)] h0).bind dxI = some (t, h)) (e0 : ∀ h', wF cx C Sc pl ph u h h' → fd h' 12 p 0 = some (.int W)) (e1 : fd h 12 p 1 = some (.int y)) (kh : KH L xs cx C Sc M pt vr mv h ds f sl ty gn rc a b u A B) : (dcV L xs (dM L xs zf w (k + 3)) 171 [13] (some C) [va_rf (some p)] h0).bind dxI = (rfz L xs zf w (k + 1) C (vlX t W) y h).map (fun h' => (vlT t W, h')) := by
  have g1 : dgI L xs h 1 [12] (some p) = some y := fd_I e1 (by decide)
  have e0h := e0 h wF_refl
  rw [v0, e171]
  show (b171_0 L xs zf (dM L xs zf w (k + 2)) w (some C) (some p) h0).bind dxI = _
  unfold b171_0
  rw [r, Option.bind_some]
  dsimp only
  rw [t_so (k := k + 1) t h, Option.bind_some]
  dsimp only
  have z0 : ∀ X : Int32, (some (some (Value.int X), h) : Option dR).bind dxI = (rfz L xs zf w (k + 1) C 0 y h).map (fun h' => (X, h')) := by
    intro X
    unfold rfz
    rw [if_pos rfl]
    rfl
  by_cases c0 : c_so t = 0
  · rw [if_neg (show ¬ mx_f1 .ne (c_so t) = true by rw [f1_ne, c0]; decide), g1, Option.bind_some]
    have q : rfz L xs zf w (k + 1) C (vlX t W) y h = (dcV L xs (dM L xs zf w (k + 2)) 178 [13] (some C) [.int 8, .int y] h).bind dxV := by
      unfold rfz vlX
      rw [if_pos c0, if_neg (by decide)]
    have q2 : vlT t W = t := by
      unfold vlT
      rw [if_neg (by rw [c0]; decide), if_neg (by rw [c0]; decide)]
    rw [q, q2]
    generalize (dcV L xs (dM L xs zf w (k + 2)) 178 [13] (some C) [.int 8, .int y] h).bind dxV = R
    cases R with
    | none => rfl
    | some h' =>
      show (b171_23 L xs zf (dM L xs zf w (k + 2)) w (some C) (some p) t h').bind dxI = some (t, h')
      unfold b171_23
      rw [t_so (k := k + 1) t h', Option.bind_some]
      dsimp only
      rw [if_pos (show mx_f2 .ne (c_so t) 4 = true by rw [f2_ne, c0]; decide), t_so (k := k + 1) t h', Option.bind_some]
      dsimp only
      rw [if_pos (show mx_f2 .ne (c_so t) 5 = true by rw [f2_ne, c0]; decide)]
      rfl
  · rw [if_pos (show mx_f1 .ne (c_so t) = true by rw [f1_ne]; exact decide_eq_true c0)]
    unfold b171_23
    rw [t_so (k := k + 1) t h, Option.bind_some]
    dsimp only
    unfold vlX vlT
    rw [if_neg c0]
    by_cases c4 : c_so t = 4
    · rw [if_neg (show ¬ mx_f2 .ne (c_so t) 4 = true by rw [f2_ne, c4]; decide), if_pos c4, if_neg (show ¬ c_so t = 5 by rw [c4]; decide), t_kd (k := k + 1) t h, Option.bind_some]
      dsimp only
      rw [t_of (k := k + 1) _ _ _ h, Option.bind_some]
      exact z0 _
    · rw [if_pos (show mx_f2 .ne (c_so t) 4 = true by rw [f2_ne]; exact decide_eq_true c4), if_neg c4, t_so (k := k + 1) t h, Option.bind_some]
      dsimp only
      by_cases c5 : c_so t = 5
      · rw [if_neg (show ¬ mx_f2 .ne (c_so t) 5 = true by rw [f2_ne, c5]; decide), if_pos c5, if_pos c5, ck_isP (k := k + 1) e0h, Option.bind_some]
        dsimp only
        by_cases cP : isP W = 0
        · rw [if_pos (show mx_f1 .eq (isP W) = true from decide_eq_true cP), if_pos cP, if_pos cP]
          exact z0 _
        · rw [if_neg (show ¬ mx_f1 .eq (isP W) = true from fun z => cP (of_decide_eq_true z)), if_neg cP, if_neg cP, t_cp (k := k + 1) t h, Option.bind_some]
          dsimp only
          by_cases cc : c_cp t = 0
          · rw [if_neg (show ¬ mx_f1 .ne (c_cp t) = true by rw [f1_ne, cc]; decide), if_pos cc, if_pos cc, g1, Option.bind_some]
            unfold rfz
            rw [if_neg (show ¬ (6 : Int32) = 0 by decide)]
            generalize (dcV L xs (dM L xs zf w (k + 1 + 1)) 178 [13] (some C) [.int 6, .int y] h).bind dxV = R
            cases R <;> rfl
          · rw [if_pos (show mx_f1 .ne (c_cp t) = true by rw [f1_ne]; exact decide_eq_true cc), if_neg cc, if_neg cc, t_cp (k := k + 1) t h, Option.bind_some]
            dsimp only
            by_cases c1 : c_cp t = 1
            · rw [if_neg (show ¬ mx_f2 .ne (c_cp t) 1 = true by rw [f2_ne, c1]; decide), if_pos c1, t_kd (k := k + 1) t h, Option.bind_some]
              dsimp only
              rw [t_of (k := k + 1) _ _ _ h, Option.bind_some]
              exact z0 _
            · rw [if_pos (show mx_f2 .ne (c_cp t) 1 = true by rw [f2_ne]; exact decide_eq_true c1), if_neg c1]
              exact z0 _
      · rw [if_pos (show mx_f2 .ne (c_so t) 5 = true by rw [f2_ne]; exact decide_eq_true c5), if_neg c5, if_neg c5]
        exact z0 _
end RFZ
