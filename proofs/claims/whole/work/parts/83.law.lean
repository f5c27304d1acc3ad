/-! THE LAW'S LOOP: whole out of fourteen obligations, one a call. 'I j h s' is what holds between the class's cells (in h) and the reference's state s after j calls. -/
theorem bse {α β : Type} {x : Option α} {a : α} {f : α → Option β} {r : β} (e : x = some a) (h : f a = some r) : x.bind f = some r := by rw [e]; exact h
theorem ift {α : Type} {p : Prop} [Decidable p] {x y : Option α} {r : α} (e : p) (h : x = some r) : (if p then x else y) = some r := by rw [if_pos e]; exact h
theorem ifn {α : Type} {p : Prop} [Decidable p] {x y : Option α} {r : α} (e : ¬ p) (h : y = some r) : (if p then x else y) = some r := by rw [if_neg e]; exact h
def lw_ob (L : Nat) (xs : Nat → Int32) (zf : Value) (w k : Nat) (I : Nat → rm_H → rS → Prop) (mi mr : Nat) (As : List Value) : Prop := ∀ (j : Nat) (h : rm_H) (s : rS), j < 512 → I j h s → RS h s → ∃ (v : Int32) (h1 : rm_H) (s1 : rS), dM L xs zf w k mi (.ref 21 :: As) h = some (some (.int v), h1) ∧ RS h1 s ∧ rM w k mr (.ref 36 :: As) s = some (some (.int v), s1) ∧ ∀ h2, RS h2 s1 → Fr h1 h2 → I (j + 1) h2 s1
/-- what the law asks of the invariant -/
def lw_I (I : Nat → rm_H → rS → Prop) : Prop := (∀ j h s, I j h s → ∃ fs, h[0]? = some (.inr (0, fs))) ∧ (∀ j h s, I j h s → j ≤ 512 → h.length ≤ 600000 ∧ zh h ≤ 7300000) ∧ ∀ j h s, j < 512 → I j h s → I (j + 1) h s
section LW
variable {L : Nat} {xs : Nat → Int32} {zf : Value} {w k : Nat} {I : Nat → rm_H → rS → Prop}
theorem lw_len (h : rm_H) : daN L xs h (some 0) = some (Int32.ofNat L) := rfl
theorem lw_at {i : Nat} (h : rm_H) (hL : L ≤ 3072) (hi : i < L) : daI L xs h (some 0) (Int32.ofNat i) = some (xs i) := by
  have e : (Int32.ofNat i).toInt = (i : Int) := Int32.toInt_ofNat_of_lt (by omega)
  have e2 : (Int32.ofNat i).toNatClampNeg = i := by
    show (Int32.ofNat i).toInt.toNat = i
    rw [e]; rfl
  have hin : rm_in (Int32.ofNat i) L = true := by
    unfold rm_in
    rw [e2, decide_eq_true hi, Bool.and_true, decide_eq_false, Bool.not_false]
    rw [Int32.lt_iff_toInt_lt, e]
    show ¬ (i : Int) < 0
    omega
  show (if ah_TY[0]? = some .int ∧ rm_in (Int32.ofNat i) L = true then some (xs (Int32.ofNat i).toNatClampNeg) else none) = _
  rw [if_pos ⟨rfl, hin⟩, e2]
theorem lw_add (i n : Nat) : Int32.ofNat i + Int32.ofNat n = Int32.ofNat (i + n) := (Int32.ofNat_add i n).symm
theorem lw_cls {h : rm_H} {fs : List Value} {mi : Nat} {As : List Value} {D : dD} (e : h[0]? = some (.inr (0, fs))) : dcV L xs D mi [0] (some 21) As h = D mi (.ref 21 :: As) h := by
  unfold dcV
  dsimp only
  rw [if_pos]
  unfold rm_cis
  rw [rs_look (by decide), e]
  rfl
/-- one call on both sides -/
theorem lw_two {n : Nat} {mi mr : Nat} {As : List Value} {j : Nat} {h : rm_H} {s : rS} (hI : lw_I I) (ho : lw_ob L xs zf w k I mi mr As) (hj : j < 512) (h1 : I j h s) (h2 : RS h s) : ∃ (v : Int32) (ha hb : rm_H) (sb : rS), (dcV L xs (dM L xs zf w k) mi [0] (some 21) As h).bind dxI = some (v, ha) ∧ (dcV L xs (dM L xs zf w k) mr [15] (some 36) As ha).bind dxI = some (v, hb) ∧ RS hb sb ∧ I (j + 1) hb sb := by
  obtain ⟨v, ha, sb, e1, e2, e3, e4⟩ := ho j h s hj h1 h2
  obtain ⟨fs, ef⟩ := hI.1 j h s h1
  obtain ⟨hb, f1, f2, f3⟩ := rM_O (L := L) (xs := xs) (zf := zf) w k mr (.ref 36 :: As) ha s _ e2 e3
  refine ⟨v, ha, hb, sb, ?_, ?_, f2, e4 hb f2 f3⟩
  · rw [lw_cls ef, e1]; rfl
  · rw [rs_v e2, f1]; rfl
theorem lw_f2 (v : Int32) : mx_f2 .eq v v = true := decide_eq_true rfl
theorem lw_ne {x : Int32} {c : Int32} (h : ¬ x = c) : x.toInt ≠ c.toInt := fun z => h (Int32.toInt_inj.mp z)

theorem lw_loop (hL : L ≤ 3072) (hI : lw_I I) (O0 : ∀ a0 a1 a2 a3 a4 : Int32, lw_ob L xs zf w k I 9 286 [.int a0, .int a1, .int a2, .int a3, .int a4]) (O1 : ∀ a0 : Int32, lw_ob L xs zf w k I 36 287 [.int a0]) (O2 : lw_ob L xs zf w k I 43 294 []) (O3 : ∀ a0 : Int32, lw_ob L xs zf w k I 218 370 [.int a0]) (O4 : ∀ a0 : Int32, lw_ob L xs zf w k I 219 371 [.int a0]) (O5 : ∀ a0 a1 a2 : Int32, lw_ob L xs zf w k I 221 289 [.int a0, .int a1, .int a2]) (O6 : ∀ a0 a1 : Int32, lw_ob L xs zf w k I 222 372 [.int a0, .int a1]) (O7 : ∀ a0 a1 : Int32, lw_ob L xs zf w k I 235 380 [.int a0, .int a1]) (O8 : ∀ a0 : Int32, lw_ob L xs zf w k I 267 402 [.int a0]) (O9 : ∀ a0 a1 : Int32, lw_ob L xs zf w k I 268 403 [.int a0, .int a1]) (O10 : ∀ a0 a1 : Int32, lw_ob L xs zf w k I 269 404 [.int a0, .int a1]) (O11 : ∀ a0 a1 : Int32, lw_ob L xs zf w k I 270 405 [.int a0, .int a1]) (O12 : ∀ a0 a1 : Int32, lw_ob L xs zf w k I 280 412 [.int a0, .int a1]) (O13 : ∀ a0 : Int32, lw_ob L xs zf w k I 282 413 [.int a0]) : ∀ (n j : Nat) (h : rm_H) (s : rS), j ≤ 512 → 513 ≤ n + j → 6 * j ≤ L + 5 → I j h s → RS h s → ∃ h', b0_18 L xs zf (dM L xs zf w k) w n (some 0) (some 21) (some 36) (Int32.ofNat (6 * j)) h = some (some (.int 1), h') ∧ h'.length ≤ 600000 ∧ zh h' ≤ 7300000 := by
  intro n
  induction n with
  | zero => intro j h s a b; omega
  | succ n ih =>
    intro j h s hj hn hjL h1 h2
    rw [b0_18]
    have e6 : Int32.ofNat L - 6 = Int32.ofInt ((L : Int) - 6) := by
      rw [show (6 : Int32) = Int32.ofInt 6 from rfl, show Int32.ofNat L = Int32.ofInt (L : Int) from rfl, ← Int32.ofInt_sub]
    have t1 : (Int32.ofNat (6 * j)).toInt = ((6 * j : Nat) : Int) := Int32.toInt_ofNat_of_lt (by omega)
    have t2 : (Int32.ofInt ((L : Int) - 6)).toInt = (L : Int) - 6 := Int32.toInt_ofInt_of_le (by omega) (by omega)
    by_cases hend : 6 * j + 6 ≤ L
    · have hj5 : j < 512 := by omega
      have hc : mx_f2 .gt (Int32.ofNat (6 * j)) (Int32.ofNat L - 6) = false := by
        rw [e6]
        show decide (Int32.ofInt ((L : Int) - 6) < Int32.ofNat (6 * j)) = false
        apply decide_eq_false
        rw [Int32.lt_iff_toInt_lt, t1, t2]
        omega
      have a0 := lw_at (xs := xs) h hL (i := 6 * j) (by omega)
      have nx : ∀ (hb : rm_H), b0_536 L xs zf (dM L xs zf w k) w (b0_18 L xs zf (dM L xs zf w k) w n) (some 0) (some 21) (some 36) (Int32.ofNat (6 * j)) hb = b0_18 L xs zf (dM L xs zf w k) w n (some 0) (some 21) (some 36) (Int32.ofNat (6 * (j + 1))) hb := by
        intro hb
        unfold b0_536
        rw [show (6 : Int32) = Int32.ofNat 6 from rfl, lw_add, show 6 * (j + 1) = 6 * j + 6 from by omega]
      have go : ∀ (hb : rm_H) (sb : rS), RS hb sb → I (j + 1) hb sb → ∃ h', b0_536 L xs zf (dM L xs zf w k) w (b0_18 L xs zf (dM L xs zf w k) w n) (some 0) (some 21) (some 36) (Int32.ofNat (6 * j)) hb = some (some (.int 1), h') ∧ h'.length ≤ 600000 ∧ zh h' ≤ 7300000 := by
        intro hb sb g1 g2
        rw [nx]
        exact ih (j + 1) hb sb (by omega) (by omega) (by omega) g2 g1
      have hv := mx_15 (xs (6 * j))
      by_cases hd : dsw 0 13 (xs (6 * j) &&& 15) = true
      · obtain ⟨h', g1, g2⟩ := go h s h2 (hI.2.2 j h s hj5 h1)
        refine ⟨h', ?_, g2⟩
        refine bse (lw_len h) ?_
        refine ifn (by rw [hc]; decide) ?_
        refine bse a0 ?_
        exact ift hd g1
      · by_cases q0 : (xs (6 * j) &&& 15) = 0
        · obtain ⟨v, ha, hb, sb, g1, g2, g3, g4⟩ := lw_two (n := n) hI (O0 (xs (6 * j + 1)) (xs (6 * j + 2)) (xs (6 * j + 3)) (xs (6 * j + 4)) (xs (6 * j + 5))) hj5 h1 h2
          obtain ⟨h', y1, y2⟩ := go hb sb g3 g4
          refine ⟨h', ?_, y2⟩
          refine bse (lw_len h) ?_
          refine ifn (by rw [hc]; decide) ?_
          refine bse a0 ?_
          refine ifn hd ?_
          refine ift q0 ?_
          refine bse (a := xs (6 * j + 1)) (by rw [show (1 : Int32) = Int32.ofNat 1 from rfl, lw_add]; exact lw_at h hL (by omega)) ?_
          refine bse (a := xs (6 * j + 2)) (by rw [show (2 : Int32) = Int32.ofNat 2 from rfl, lw_add]; exact lw_at h hL (by omega)) ?_
          refine bse (a := xs (6 * j + 3)) (by rw [show (3 : Int32) = Int32.ofNat 3 from rfl, lw_add]; exact lw_at h hL (by omega)) ?_
          refine bse (a := xs (6 * j + 4)) (by rw [show (4 : Int32) = Int32.ofNat 4 from rfl, lw_add]; exact lw_at h hL (by omega)) ?_
          refine bse (a := xs (6 * j + 5)) (by rw [show (5 : Int32) = Int32.ofNat 5 from rfl, lw_add]; exact lw_at h hL (by omega)) ?_
          refine bse g1 ?_
          refine bse (a := xs (6 * j + 1)) (by rw [show (1 : Int32) = Int32.ofNat 1 from rfl, lw_add]; exact lw_at ha hL (by omega)) ?_
          refine bse (a := xs (6 * j + 2)) (by rw [show (2 : Int32) = Int32.ofNat 2 from rfl, lw_add]; exact lw_at ha hL (by omega)) ?_
          refine bse (a := xs (6 * j + 3)) (by rw [show (3 : Int32) = Int32.ofNat 3 from rfl, lw_add]; exact lw_at ha hL (by omega)) ?_
          refine bse (a := xs (6 * j + 4)) (by rw [show (4 : Int32) = Int32.ofNat 4 from rfl, lw_add]; exact lw_at ha hL (by omega)) ?_
          refine bse (a := xs (6 * j + 5)) (by rw [show (5 : Int32) = Int32.ofNat 5 from rfl, lw_add]; exact lw_at ha hL (by omega)) ?_
          refine bse g2 ?_
          exact ift (lw_f2 v) y1
        by_cases q1 : (xs (6 * j) &&& 15) = 1
        · obtain ⟨v, ha, hb, sb, g1, g2, g3, g4⟩ := lw_two (n := n) hI (O1 (xs (6 * j + 1))) hj5 h1 h2
          obtain ⟨h', y1, y2⟩ := go hb sb g3 g4
          refine ⟨h', ?_, y2⟩
          refine bse (lw_len h) ?_
          refine ifn (by rw [hc]; decide) ?_
          refine bse a0 ?_
          refine ifn hd ?_
          refine ifn q0 ?_
          refine ift q1 ?_
          refine bse (a := xs (6 * j + 1)) (by rw [show (1 : Int32) = Int32.ofNat 1 from rfl, lw_add]; exact lw_at h hL (by omega)) ?_
          refine bse g1 ?_
          refine bse (a := xs (6 * j + 1)) (by rw [show (1 : Int32) = Int32.ofNat 1 from rfl, lw_add]; exact lw_at ha hL (by omega)) ?_
          refine bse g2 ?_
          exact ift (lw_f2 v) y1
        by_cases q2 : (xs (6 * j) &&& 15) = 2
        · obtain ⟨v, ha, hb, sb, g1, g2, g3, g4⟩ := lw_two (n := n) hI O2 hj5 h1 h2
          obtain ⟨h', y1, y2⟩ := go hb sb g3 g4
          refine ⟨h', ?_, y2⟩
          refine bse (lw_len h) ?_
          refine ifn (by rw [hc]; decide) ?_
          refine bse a0 ?_
          refine ifn hd ?_
          refine ifn q0 ?_
          refine ifn q1 ?_
          refine ift q2 ?_
          refine bse g1 ?_
          refine bse g2 ?_
          exact ift (lw_f2 v) y1
        by_cases q3 : (xs (6 * j) &&& 15) = 3
        · obtain ⟨v, ha, hb, sb, g1, g2, g3, g4⟩ := lw_two (n := n) hI (O3 (xs (6 * j + 1))) hj5 h1 h2
          obtain ⟨h', y1, y2⟩ := go hb sb g3 g4
          refine ⟨h', ?_, y2⟩
          refine bse (lw_len h) ?_
          refine ifn (by rw [hc]; decide) ?_
          refine bse a0 ?_
          refine ifn hd ?_
          refine ifn q0 ?_
          refine ifn q1 ?_
          refine ifn q2 ?_
          refine ift q3 ?_
          refine bse (a := xs (6 * j + 1)) (by rw [show (1 : Int32) = Int32.ofNat 1 from rfl, lw_add]; exact lw_at h hL (by omega)) ?_
          refine bse g1 ?_
          refine bse (a := xs (6 * j + 1)) (by rw [show (1 : Int32) = Int32.ofNat 1 from rfl, lw_add]; exact lw_at ha hL (by omega)) ?_
          refine bse g2 ?_
          exact ift (lw_f2 v) y1
        by_cases q4 : (xs (6 * j) &&& 15) = 4
        · obtain ⟨v, ha, hb, sb, g1, g2, g3, g4⟩ := lw_two (n := n) hI (O4 (xs (6 * j + 1))) hj5 h1 h2
          obtain ⟨h', y1, y2⟩ := go hb sb g3 g4
          refine ⟨h', ?_, y2⟩
          refine bse (lw_len h) ?_
          refine ifn (by rw [hc]; decide) ?_
          refine bse a0 ?_
          refine ifn hd ?_
          refine ifn q0 ?_
          refine ifn q1 ?_
          refine ifn q2 ?_
          refine ifn q3 ?_
          refine ift q4 ?_
          refine bse (a := xs (6 * j + 1)) (by rw [show (1 : Int32) = Int32.ofNat 1 from rfl, lw_add]; exact lw_at h hL (by omega)) ?_
          refine bse g1 ?_
          refine bse (a := xs (6 * j + 1)) (by rw [show (1 : Int32) = Int32.ofNat 1 from rfl, lw_add]; exact lw_at ha hL (by omega)) ?_
          refine bse g2 ?_
          exact ift (lw_f2 v) y1
        by_cases q5 : (xs (6 * j) &&& 15) = 5
        · obtain ⟨v, ha, hb, sb, g1, g2, g3, g4⟩ := lw_two (n := n) hI (O5 (xs (6 * j + 1)) (xs (6 * j + 2)) (xs (6 * j + 3))) hj5 h1 h2
          obtain ⟨h', y1, y2⟩ := go hb sb g3 g4
          refine ⟨h', ?_, y2⟩
          refine bse (lw_len h) ?_
          refine ifn (by rw [hc]; decide) ?_
          refine bse a0 ?_
          refine ifn hd ?_
          refine ifn q0 ?_
          refine ifn q1 ?_
          refine ifn q2 ?_
          refine ifn q3 ?_
          refine ifn q4 ?_
          refine ift q5 ?_
          refine bse (a := xs (6 * j + 1)) (by rw [show (1 : Int32) = Int32.ofNat 1 from rfl, lw_add]; exact lw_at h hL (by omega)) ?_
          refine bse (a := xs (6 * j + 2)) (by rw [show (2 : Int32) = Int32.ofNat 2 from rfl, lw_add]; exact lw_at h hL (by omega)) ?_
          refine bse (a := xs (6 * j + 3)) (by rw [show (3 : Int32) = Int32.ofNat 3 from rfl, lw_add]; exact lw_at h hL (by omega)) ?_
          refine bse g1 ?_
          refine bse (a := xs (6 * j + 1)) (by rw [show (1 : Int32) = Int32.ofNat 1 from rfl, lw_add]; exact lw_at ha hL (by omega)) ?_
          refine bse (a := xs (6 * j + 2)) (by rw [show (2 : Int32) = Int32.ofNat 2 from rfl, lw_add]; exact lw_at ha hL (by omega)) ?_
          refine bse (a := xs (6 * j + 3)) (by rw [show (3 : Int32) = Int32.ofNat 3 from rfl, lw_add]; exact lw_at ha hL (by omega)) ?_
          refine bse g2 ?_
          exact ift (lw_f2 v) y1
        by_cases q6 : (xs (6 * j) &&& 15) = 6
        · obtain ⟨v, ha, hb, sb, g1, g2, g3, g4⟩ := lw_two (n := n) hI (O6 (xs (6 * j + 1)) (xs (6 * j + 2))) hj5 h1 h2
          obtain ⟨h', y1, y2⟩ := go hb sb g3 g4
          refine ⟨h', ?_, y2⟩
          refine bse (lw_len h) ?_
          refine ifn (by rw [hc]; decide) ?_
          refine bse a0 ?_
          refine ifn hd ?_
          refine ifn q0 ?_
          refine ifn q1 ?_
          refine ifn q2 ?_
          refine ifn q3 ?_
          refine ifn q4 ?_
          refine ifn q5 ?_
          refine ift q6 ?_
          refine bse (a := xs (6 * j + 1)) (by rw [show (1 : Int32) = Int32.ofNat 1 from rfl, lw_add]; exact lw_at h hL (by omega)) ?_
          refine bse (a := xs (6 * j + 2)) (by rw [show (2 : Int32) = Int32.ofNat 2 from rfl, lw_add]; exact lw_at h hL (by omega)) ?_
          refine bse g1 ?_
          refine bse (a := xs (6 * j + 1)) (by rw [show (1 : Int32) = Int32.ofNat 1 from rfl, lw_add]; exact lw_at ha hL (by omega)) ?_
          refine bse (a := xs (6 * j + 2)) (by rw [show (2 : Int32) = Int32.ofNat 2 from rfl, lw_add]; exact lw_at ha hL (by omega)) ?_
          refine bse g2 ?_
          exact ift (lw_f2 v) y1
        by_cases q7 : (xs (6 * j) &&& 15) = 7
        · obtain ⟨v, ha, hb, sb, g1, g2, g3, g4⟩ := lw_two (n := n) hI (O7 (xs (6 * j + 1)) (xs (6 * j + 2))) hj5 h1 h2
          obtain ⟨h', y1, y2⟩ := go hb sb g3 g4
          refine ⟨h', ?_, y2⟩
          refine bse (lw_len h) ?_
          refine ifn (by rw [hc]; decide) ?_
          refine bse a0 ?_
          refine ifn hd ?_
          refine ifn q0 ?_
          refine ifn q1 ?_
          refine ifn q2 ?_
          refine ifn q3 ?_
          refine ifn q4 ?_
          refine ifn q5 ?_
          refine ifn q6 ?_
          refine ift q7 ?_
          refine bse (a := xs (6 * j + 1)) (by rw [show (1 : Int32) = Int32.ofNat 1 from rfl, lw_add]; exact lw_at h hL (by omega)) ?_
          refine bse (a := xs (6 * j + 2)) (by rw [show (2 : Int32) = Int32.ofNat 2 from rfl, lw_add]; exact lw_at h hL (by omega)) ?_
          refine bse g1 ?_
          refine bse (a := xs (6 * j + 1)) (by rw [show (1 : Int32) = Int32.ofNat 1 from rfl, lw_add]; exact lw_at ha hL (by omega)) ?_
          refine bse (a := xs (6 * j + 2)) (by rw [show (2 : Int32) = Int32.ofNat 2 from rfl, lw_add]; exact lw_at ha hL (by omega)) ?_
          refine bse g2 ?_
          exact ift (lw_f2 v) y1
        by_cases q8 : (xs (6 * j) &&& 15) = 8
        · obtain ⟨v, ha, hb, sb, g1, g2, g3, g4⟩ := lw_two (n := n) hI (O8 (xs (6 * j + 1))) hj5 h1 h2
          obtain ⟨h', y1, y2⟩ := go hb sb g3 g4
          refine ⟨h', ?_, y2⟩
          refine bse (lw_len h) ?_
          refine ifn (by rw [hc]; decide) ?_
          refine bse a0 ?_
          refine ifn hd ?_
          refine ifn q0 ?_
          refine ifn q1 ?_
          refine ifn q2 ?_
          refine ifn q3 ?_
          refine ifn q4 ?_
          refine ifn q5 ?_
          refine ifn q6 ?_
          refine ifn q7 ?_
          refine ift q8 ?_
          refine bse (a := xs (6 * j + 1)) (by rw [show (1 : Int32) = Int32.ofNat 1 from rfl, lw_add]; exact lw_at h hL (by omega)) ?_
          refine bse g1 ?_
          refine bse (a := xs (6 * j + 1)) (by rw [show (1 : Int32) = Int32.ofNat 1 from rfl, lw_add]; exact lw_at ha hL (by omega)) ?_
          refine bse g2 ?_
          exact ift (lw_f2 v) y1
        by_cases q9 : (xs (6 * j) &&& 15) = 9
        · obtain ⟨v, ha, hb, sb, g1, g2, g3, g4⟩ := lw_two (n := n) hI (O9 (xs (6 * j + 1)) (xs (6 * j + 2))) hj5 h1 h2
          obtain ⟨h', y1, y2⟩ := go hb sb g3 g4
          refine ⟨h', ?_, y2⟩
          refine bse (lw_len h) ?_
          refine ifn (by rw [hc]; decide) ?_
          refine bse a0 ?_
          refine ifn hd ?_
          refine ifn q0 ?_
          refine ifn q1 ?_
          refine ifn q2 ?_
          refine ifn q3 ?_
          refine ifn q4 ?_
          refine ifn q5 ?_
          refine ifn q6 ?_
          refine ifn q7 ?_
          refine ifn q8 ?_
          refine ift q9 ?_
          refine bse (a := xs (6 * j + 1)) (by rw [show (1 : Int32) = Int32.ofNat 1 from rfl, lw_add]; exact lw_at h hL (by omega)) ?_
          refine bse (a := xs (6 * j + 2)) (by rw [show (2 : Int32) = Int32.ofNat 2 from rfl, lw_add]; exact lw_at h hL (by omega)) ?_
          refine bse g1 ?_
          refine bse (a := xs (6 * j + 1)) (by rw [show (1 : Int32) = Int32.ofNat 1 from rfl, lw_add]; exact lw_at ha hL (by omega)) ?_
          refine bse (a := xs (6 * j + 2)) (by rw [show (2 : Int32) = Int32.ofNat 2 from rfl, lw_add]; exact lw_at ha hL (by omega)) ?_
          refine bse g2 ?_
          exact ift (lw_f2 v) y1
        by_cases q10 : (xs (6 * j) &&& 15) = 10
        · obtain ⟨v, ha, hb, sb, g1, g2, g3, g4⟩ := lw_two (n := n) hI (O10 (xs (6 * j + 1)) (xs (6 * j + 2))) hj5 h1 h2
          obtain ⟨h', y1, y2⟩ := go hb sb g3 g4
          refine ⟨h', ?_, y2⟩
          refine bse (lw_len h) ?_
          refine ifn (by rw [hc]; decide) ?_
          refine bse a0 ?_
          refine ifn hd ?_
          refine ifn q0 ?_
          refine ifn q1 ?_
          refine ifn q2 ?_
          refine ifn q3 ?_
          refine ifn q4 ?_
          refine ifn q5 ?_
          refine ifn q6 ?_
          refine ifn q7 ?_
          refine ifn q8 ?_
          refine ifn q9 ?_
          refine ift q10 ?_
          refine bse (a := xs (6 * j + 1)) (by rw [show (1 : Int32) = Int32.ofNat 1 from rfl, lw_add]; exact lw_at h hL (by omega)) ?_
          refine bse (a := xs (6 * j + 2)) (by rw [show (2 : Int32) = Int32.ofNat 2 from rfl, lw_add]; exact lw_at h hL (by omega)) ?_
          refine bse g1 ?_
          refine bse (a := xs (6 * j + 1)) (by rw [show (1 : Int32) = Int32.ofNat 1 from rfl, lw_add]; exact lw_at ha hL (by omega)) ?_
          refine bse (a := xs (6 * j + 2)) (by rw [show (2 : Int32) = Int32.ofNat 2 from rfl, lw_add]; exact lw_at ha hL (by omega)) ?_
          refine bse g2 ?_
          exact ift (lw_f2 v) y1
        by_cases q11 : (xs (6 * j) &&& 15) = 11
        · obtain ⟨v, ha, hb, sb, g1, g2, g3, g4⟩ := lw_two (n := n) hI (O11 (xs (6 * j + 1)) (xs (6 * j + 2))) hj5 h1 h2
          obtain ⟨h', y1, y2⟩ := go hb sb g3 g4
          refine ⟨h', ?_, y2⟩
          refine bse (lw_len h) ?_
          refine ifn (by rw [hc]; decide) ?_
          refine bse a0 ?_
          refine ifn hd ?_
          refine ifn q0 ?_
          refine ifn q1 ?_
          refine ifn q2 ?_
          refine ifn q3 ?_
          refine ifn q4 ?_
          refine ifn q5 ?_
          refine ifn q6 ?_
          refine ifn q7 ?_
          refine ifn q8 ?_
          refine ifn q9 ?_
          refine ifn q10 ?_
          refine ift q11 ?_
          refine bse (a := xs (6 * j + 1)) (by rw [show (1 : Int32) = Int32.ofNat 1 from rfl, lw_add]; exact lw_at h hL (by omega)) ?_
          refine bse (a := xs (6 * j + 2)) (by rw [show (2 : Int32) = Int32.ofNat 2 from rfl, lw_add]; exact lw_at h hL (by omega)) ?_
          refine bse g1 ?_
          refine bse (a := xs (6 * j + 1)) (by rw [show (1 : Int32) = Int32.ofNat 1 from rfl, lw_add]; exact lw_at ha hL (by omega)) ?_
          refine bse (a := xs (6 * j + 2)) (by rw [show (2 : Int32) = Int32.ofNat 2 from rfl, lw_add]; exact lw_at ha hL (by omega)) ?_
          refine bse g2 ?_
          exact ift (lw_f2 v) y1
        by_cases q12 : (xs (6 * j) &&& 15) = 12
        · obtain ⟨v, ha, hb, sb, g1, g2, g3, g4⟩ := lw_two (n := n) hI (O12 (xs (6 * j + 1)) (xs (6 * j + 2))) hj5 h1 h2
          obtain ⟨h', y1, y2⟩ := go hb sb g3 g4
          refine ⟨h', ?_, y2⟩
          refine bse (lw_len h) ?_
          refine ifn (by rw [hc]; decide) ?_
          refine bse a0 ?_
          refine ifn hd ?_
          refine ifn q0 ?_
          refine ifn q1 ?_
          refine ifn q2 ?_
          refine ifn q3 ?_
          refine ifn q4 ?_
          refine ifn q5 ?_
          refine ifn q6 ?_
          refine ifn q7 ?_
          refine ifn q8 ?_
          refine ifn q9 ?_
          refine ifn q10 ?_
          refine ifn q11 ?_
          refine ift q12 ?_
          refine bse (a := xs (6 * j + 1)) (by rw [show (1 : Int32) = Int32.ofNat 1 from rfl, lw_add]; exact lw_at h hL (by omega)) ?_
          refine bse (a := xs (6 * j + 2)) (by rw [show (2 : Int32) = Int32.ofNat 2 from rfl, lw_add]; exact lw_at h hL (by omega)) ?_
          refine bse g1 ?_
          refine bse (a := xs (6 * j + 1)) (by rw [show (1 : Int32) = Int32.ofNat 1 from rfl, lw_add]; exact lw_at ha hL (by omega)) ?_
          refine bse (a := xs (6 * j + 2)) (by rw [show (2 : Int32) = Int32.ofNat 2 from rfl, lw_add]; exact lw_at ha hL (by omega)) ?_
          refine bse g2 ?_
          exact ift (lw_f2 v) y1
        by_cases q13 : (xs (6 * j) &&& 15) = 13
        · obtain ⟨v, ha, hb, sb, g1, g2, g3, g4⟩ := lw_two (n := n) hI (O13 (xs (6 * j + 1))) hj5 h1 h2
          obtain ⟨h', y1, y2⟩ := go hb sb g3 g4
          refine ⟨h', ?_, y2⟩
          refine bse (lw_len h) ?_
          refine ifn (by rw [hc]; decide) ?_
          refine bse a0 ?_
          refine ifn hd ?_
          refine ifn q0 ?_
          refine ifn q1 ?_
          refine ifn q2 ?_
          refine ifn q3 ?_
          refine ifn q4 ?_
          refine ifn q5 ?_
          refine ifn q6 ?_
          refine ifn q7 ?_
          refine ifn q8 ?_
          refine ifn q9 ?_
          refine ifn q10 ?_
          refine ifn q11 ?_
          refine ifn q12 ?_
          refine ift q13 ?_
          refine bse (a := xs (6 * j + 1)) (by rw [show (1 : Int32) = Int32.ofNat 1 from rfl, lw_add]; exact lw_at h hL (by omega)) ?_
          refine bse g1 ?_
          refine bse (a := xs (6 * j + 1)) (by rw [show (1 : Int32) = Int32.ofNat 1 from rfl, lw_add]; exact lw_at ha hL (by omega)) ?_
          refine bse g2 ?_
          exact ift (lw_f2 v) y1
        exfalso
        have hd2 : ¬ ((xs (6 * j) &&& 15).toInt < 0 ∨ 13 < (xs (6 * j) &&& 15).toInt) := fun z => hd (decide_eq_true z)
        have n0 := lw_ne q0
        have n1 := lw_ne q1
        have n2 := lw_ne q2
        have n3 := lw_ne q3
        have n4 := lw_ne q4
        have n5 := lw_ne q5
        have n6 := lw_ne q6
        have n7 := lw_ne q7
        have n8 := lw_ne q8
        have n9 := lw_ne q9
        have n10 := lw_ne q10
        have n11 := lw_ne q11
        have n12 := lw_ne q12
        have n13 := lw_ne q13
        have m0 : ((0 : Int32)).toInt = 0 := by decide
        have m1 : ((1 : Int32)).toInt = 1 := by decide
        have m2 : ((2 : Int32)).toInt = 2 := by decide
        have m3 : ((3 : Int32)).toInt = 3 := by decide
        have m4 : ((4 : Int32)).toInt = 4 := by decide
        have m5 : ((5 : Int32)).toInt = 5 := by decide
        have m6 : ((6 : Int32)).toInt = 6 := by decide
        have m7 : ((7 : Int32)).toInt = 7 := by decide
        have m8 : ((8 : Int32)).toInt = 8 := by decide
        have m9 : ((9 : Int32)).toInt = 9 := by decide
        have m10 : ((10 : Int32)).toInt = 10 := by decide
        have m11 : ((11 : Int32)).toInt = 11 := by decide
        have m12 : ((12 : Int32)).toInt = 12 := by decide
        have m13 : ((13 : Int32)).toInt = 13 := by decide
        omega
    · refine ⟨h, ?_, hI.2.1 j h s h1 hj⟩
      refine bse (lw_len h) ?_
      refine ift ?_ rfl
      rw [e6]
      show decide (Int32.ofInt ((L : Int) - 6) < Int32.ofNat (6 * j)) = true
      apply decide_eq_true
      rw [Int32.lt_iff_toInt_lt, t1, t2]
      omega
end LW
/-- WHOLE OUT OF FOURTEEN OBLIGATIONS -/
theorem lw_goal {L : Nat} {xs : Nat → Int32} {zf : Value} (hz : zf.category = 1) (w k : Nat) (hk : k ≤ 1397) (hw : 513 ≤ w) (hL : L ≤ 3072) (I : Nat → rm_H → rS → Prop) (hI : lw_I I) (s0 : rS) (hi : I 0 hh_a203 s0) (hr : RS hh_a203 s0) (O0 : ∀ a0 a1 a2 a3 a4 : Int32, lw_ob L xs zf w k I 9 286 [.int a0, .int a1, .int a2, .int a3, .int a4]) (O1 : ∀ a0 : Int32, lw_ob L xs zf w k I 36 287 [.int a0]) (O2 : lw_ob L xs zf w k I 43 294 []) (O3 : ∀ a0 : Int32, lw_ob L xs zf w k I 218 370 [.int a0]) (O4 : ∀ a0 : Int32, lw_ob L xs zf w k I 219 371 [.int a0]) (O5 : ∀ a0 a1 a2 : Int32, lw_ob L xs zf w k I 221 289 [.int a0, .int a1, .int a2]) (O6 : ∀ a0 a1 : Int32, lw_ob L xs zf w k I 222 372 [.int a0, .int a1]) (O7 : ∀ a0 a1 : Int32, lw_ob L xs zf w k I 235 380 [.int a0, .int a1]) (O8 : ∀ a0 : Int32, lw_ob L xs zf w k I 267 402 [.int a0]) (O9 : ∀ a0 a1 : Int32, lw_ob L xs zf w k I 268 403 [.int a0, .int a1]) (O10 : ∀ a0 a1 : Int32, lw_ob L xs zf w k I 269 404 [.int a0, .int a1]) (O11 : ∀ a0 a1 : Int32, lw_ob L xs zf w k I 270 405 [.int a0, .int a1]) (O12 : ∀ a0 a1 : Int32, lw_ob L xs zf w k I 280 412 [.int a0, .int a1]) (O13 : ∀ a0 : Int32, lw_ob L xs zf w k I 282 413 [.int a0]) : ah_Goal L xs zf := by
  obtain ⟨h', e, e1, e2⟩ := lw_loop hL hI O0 O1 O2 O3 O4 O5 O6 O7 O8 O9 O10 O11 O12 O13 w 0 hh_a203 s0 (by omega) (by omega) (by omega) hi hr
  have hq := dq_R (c0_18 (dM_O w hz k) hz w (some 0) (some 21) (some 36) _ [(3, .int 0), (2, .ref 36), (1, .ref 21), (0, .ref 0)] hh_a203 _ rfl rfl rfl rfl e)
  refine lw_head1 L xs zf hz ?_
  have l0 : hh_a203.length = 94 := by decide +kernel
  have z0 : zh hh_a203 = 281069 := by decide +kernel
  exact rm_Runs.mono hq (by show h'.length - hh_a203.length ≤ _; omega) (by show zh h' - zh hh_a203 ≤ _; omega) (by omega) (by omega) (fun v _ z => z.1)
