/-! STATEMENTS: an expression, and what is given to it. -/
/-- the reference's way -/
def s318_e (E : rE) (w : Nat) (i1 i2 : Int32) (s : rS) : Option rA :=
  ((E 320 [.ref 36, .int (i1 + 1)] s).bind rxI).bind fun x7 =>
  ((E 316 [.ref 36, .int 27, .int i2] x7.2).bind rxI).bind fun x12 =>
  ((E 309 [.ref 36, .int 61] x12.2).bind rxI).bind fun x17 =>
  if mx_f1 .eq x17.1 = true then
    s318_325 E w x7.1 x12.1 x17.2
  else
    (rs_sI x17.2 44 x12.1 26).bind fun s23 =>
    ((E 320 [.ref 36, .int (i1 + 1)] s23).bind rxI).bind fun x28 =>
    ((E 323 [.ref 36, .int x12.1, .int x28.1] x28.2).bind rxI).bind fun x33 =>
    (rs_sI x33.2 46 x12.1 x33.1).bind fun s38 =>
    s318_325 E w x7.1 x12.1 s38
section ES
variable {L : Nat} {xs : Nat → Int32} {zf : Value} {w k k2 i : Nat} {cx : Nat → Nat} {F : Nat → Nat → Int32} {N : Nat → Int64} {q : List Value} {h h' h1 h2 : rm_H} {s s' s1 s2 : rS} {g g' g1 g2 : Nat → Nat} {ts ts' ts1 ts2 : List Nat} {v : Nat → Int32} {A ke kr c1 c2 : Nat} {i1 : Int32}
/-- no word of a statement -/
def noS (T : Int32) : Prop := ¬ (T = 25 ∨ T = 26 ∨ T = 28 ∨ T = 29 ∨ T = 30 ∨ T = 31)
theorem dsw_e : ∀ j, j < 44 → ¬ (Int32.ofNat j = 25 ∨ Int32.ofNat j = 26 ∨ Int32.ofNat j = 28 ∨ Int32.ofNat j = 29 ∨ Int32.ofNat j = 30 ∨ Int32.ofNat j = 31) → dsw 25 31 (Int32.ofNat j) = true ∨ Int32.ofNat j = 27 := by decide +kernel
theorem c_121e {x : Nat} (hT : TF cx F N) (z : SY cx F N q h s g ts) (t : noS (ctk cx F (g 0))) (hd : dM L xs zf w k 141 [.ref (cx 7), .ref (cx 14), .int i1] h = some (some (.ref x), h')) : dM L xs zf w (k + 1) 121 [.ref (cx 7), .ref (cx 14), .int i1] h = some (some (.ref x), h') := by
  obtain ⟨⟨f5, _, tr⟩, _⟩ := hT.2.2 (g 0) z.1.2.2.2.2.2.1
  obtain ⟨j, hj, ej⟩ := tk_44 tr
  rw [e121]
  show b121_0 L xs zf (dM L xs zf w k) w (some (cx 7)) (some (cx 14)) i1 h = _
  unfold b121_0
  refine bse (c_in z.1.1) (bse (c_I z.1.1 6 (by omega)) ?_)
  rw [vS_6]
  have fin : (((dcV L xs (dM L xs zf w k) 141 [8] (some (cx 7)) [va_rf (some (cx 14)), .int i1] h).bind dxR).bind fun p6 => some (some (va_rf p6.1), p6.2)) = some (some (.ref x), h') := bse (a := (some x, h')) (by rw [c_pv z.1.1, va_s, hd]; rfl) rfl
  have ds := dsw_e j hj (by rw [← ej]; exact t)
  rw [← ej] at ds
  by_cases d : dsw 25 31 (ctk cx F (g 0)) = true
  · exact ift d fin
  · have t27 := ds.resolve_left d
    rw [t27]
    exact ifn (by decide) (ifn (by decide) (ifn (by decide) (ift rfl fin)))
theorem r_318e {r : rA} (hT : TF cx F N) (z : SY cx F N q h s g ts) (t : noS (ctk cx F (g 0))) (hr : s318_e (rM w k) w i1 (s.2.1 41 (g 0)) s = some r) : rM w (k + 1) 318 [.ref 36, .int i1] s = some r := by
  obtain ⟨⟨p, ⟨a1, a2, a3, a4⟩, rt, ch, ⟨c1, c2, c3, c4⟩, b1, b2, b3, b4⟩, g6⟩ := id z
  have hl : g 0 ≤ 2000 := by have := hT.1; omega
  obtain ⟨⟨f5, _, tr⟩, _⟩ := hT.2.2 (g 0) b1
  have tail : ∀ c : Int32, c ≠ 5 → c ≠ 6 → c ≠ 8 → c ≠ 9 → c ≠ 10 → c ≠ 11 → s318_36 (rM w k) w i1 (s.2.1 41 (g 0)) c s = some r := by
    intro c e5 e6 e8 e9 e10 e11
    unfold s318_36
    exact ift (by rw [f2_ne]; simp [e5]) (ifn (show ¬ mx_f2 .eq c 6 = true from fun u => e6 (of_decide_eq_true u)) (ift (by rw [f2_ne]; simp [e8]) (ifn (show ¬ mx_f2 .eq c 9 = true from fun u => e9 (of_decide_eq_true u)) (ifn (show ¬ mx_f2 .eq c 10 = true from fun u => e10 (of_decide_eq_true u)) (ift (by rw [f2_ne]; simp [e11]) hr)))))
  rw [y318]
  show s318_0 (rM w k) w i1 s = _
  unfold s318_0
  refine bse (aT (by omega) c1 hl) (bse (aT (by omega) c1 hl) ?_)
  by_cases c2' : s.2.1 40 (g 0) = 2
  · refine ifn (by rw [f2_ne]; simp [c2']) (bse (aT (by omega) c1 hl) ?_)
    rw [rt.1] at c2'
    rw [rt.2.2.1]
    refine tail _ (fun u => t ?_) (fun u => t ?_) (fun u => t ?_) (fun u => t ?_) (fun u => t ?_) (fun u => t ?_)
    · have := (wd_iff tr Q5).mp ⟨c2', u⟩; simp [this]
    · have := (wd_iff tr Q6).mp ⟨c2', u⟩; simp [this]
    · have := (wd_iff tr Q8).mp ⟨c2', u⟩; simp [this]
    · have := (wd_iff tr Q9).mp ⟨c2', u⟩; simp [this]
    · have := (wd_iff tr Q10).mp ⟨c2', u⟩; simp [this]
    · have := (wd_iff tr Q11).mp ⟨c2', u⟩; simp [this]
  · exact ift (by rw [f2_ne]; simp [c2']) (tail _ (by decide) (by decide) (by decide) (by decide) (by decide) (by decide))
/-- the class behind the expression -/
theorem c_141 {x : Nat} {b : Bool} {r : dR} (p : pC h cx F (vS cx F i)) (p1 : pC h1 cx F v) (e1 : dM L xs zf w k 123 [.ref (cx 7), .ref (cx 14), .int (i1 + 1)] h = some (some (.ref x), h1)) (e2 : dM L xs zf w k 118 [.ref (cx 7), .int 14] h1 = some (some (.int (rd_01 b)), h2)) (hr : b141_42 L xs zf (dM L xs zf w k) w (some (cx 7)) (some (cx 14)) i1 (cpl cx F i) (some x) (rd_01 b) (if b = true then 21 else 22) (some (21 + h2.length)) (some (21 + h2.length)) (h2 ++ [.inr (12, ah_DV 12)]) = some r) : dM L xs zf w (k + 1) 141 [.ref (cx 7), .ref (cx 14), .int i1] h = some r := by
  rw [e141]
  show b141_0 L xs zf (dM L xs zf w k) w (some (cx 7)) (some (cx 14)) i1 h = _
  unfold b141_0
  refine bse (c_in p) (bse (c_I p 7 (by omega)) ?_)
  refine bse (a := (some x, h1)) (by rw [c_pv p, va_s, e1]; rfl) ?_
  refine bse (a := (rd_01 b, h2)) (by rw [c_pv p1, e2]; rfl) (bse rfl ?_)
  cases b with
  | false => exact ift (show mx_f1 .eq (rd_01 false) = true by decide) hr
  | true => exact ifn (show ¬ mx_f1 .eq (rd_01 true) = true by decide) hr
/-- without '=': the class's last steps -/
theorem c_141n {x : Nat} {pl : Int32} {h3 h4 : rm_H} (e3 : dpF (h2 ++ [nd0 22 pl]) 8 [12] (some (21 + h2.length)) (.ref x) = some h3) (p3 : pC h3 cx F v) (e4 : dM L xs zf w (k + 1) 109 [.ref (cx 7), .int 9] h3 = some (none, h4)) : b141_42 L xs zf (dM L xs zf w (k + 1)) w (some (cx 7)) (some (cx 14)) i1 pl (some x) (rd_01 false) (if false = true then 21 else 22) (some (21 + h2.length)) (some (21 + h2.length)) (h2 ++ [.inr (12, ah_DV 12)]) = some (some (.ref (21 + h2.length)), h4) := by
  unfold b141_42
  refine bse (a := h2 ++ [nd0 22 pl]) ?_ (bse e3 (ift (show mx_f1 .eq (rd_01 false) = true by decide) ?_))
  · show (dM L xs zf w (k + 1) 120 [.ref (21 + h2.length), .int 22, .int pl] (h2 ++ [.inr (12, ah_DV 12)])).bind dxV = _
    rw [nd_new (k := k)]
    rfl
  · unfold b141_73
    exact bse (a := h4) (by rw [c_pv p3, e4]; rfl) rfl
end ES
