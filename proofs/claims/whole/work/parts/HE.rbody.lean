/-! THE REFERENCE: A BODY BEGINS; CELLS FOR OBJECTS AND ACTORS. -/
def rsL (s : rS) (p : Nat) (g : Nat → Int64) : rS := (s.1, s.2.1, fun q => if q = p then g else s.2.2 q)
/-- actor a begins body d of method m with self v at node q -/
def sBg (s : rS) (a d m q : Nat) (v : Int64) : rS := rs_wA (rs_wB (rs_wA (rs_wA s 92 a (Int32.ofNat (d + 1))) 98 (10 * a + d) (Int32.ofNat m)) 100 (10 * a + d) v) 99 (10 * a + d) (Int32.ofNat q)
section RBO
variable {sB s s' : rS} {w k : Nat} {a t d m q c bb np p0 : Nat} {v : Int64}
theorem rqs_t {s1 : rS} (h : rqs sB s) (e : ∀ p, 44 ≤ p → p ≤ 49 → s1.2.1 p = s.2.1 p) : rqs sB s1 := fun p h1 h2 => (e p h1 h2).trans (h p h1 h2)
theorem wA_np {p j i : Nat} {x : Int32} (h : p ≠ i) : (rs_wA s p j x).2.1 i = s.2.1 i := wA_ne s j x (Ne.symm h)
theorem r_beg (rq : rqs sB s) (ha : a < 12) (hd : d < 10) (h92 : s.2.1 92 a = Int32.ofNat d) (hm : m < 72) (h76 : s.2.1 76 m = Int32.ofNat bb) (hb : bb < 4400) (hc0 : c < 4400) (h45 : sB.2.1 45 bb = Int32.ofNat c) (hq : (sB.2.1 45 c = 0 ∧ q = bb) ∨ ∃ e' : Nat, sB.2.1 45 c = Int32.ofNat e' ∧ 1 ≤ e' ∧ e' < 4400 ∧ fI sB 6000 e' q) (hw : 6000 ≤ w) : rM w (k + 3) 385 [.ref 36, .int (Int32.ofNat a), .int (Int32.ofNat m), .long v] s = some (none, sBg s a d m q v) := by
  rw [y385]
  show s385_0 (rM w (k + 2)) w (Int32.ofNat a) (Int32.ofNat m) v s = _
  unfold s385_0
  have r9 := (aI_at (s := s) (p := 92) (i := a) (n := 12) (by decide) rfl (by omega) (by decide)).trans (congrArg some h92)
  refine bse r9 (bse r9 ?_)
  rw [of_inc]
  refine bse (sI_at (i := a) (n := 12) (by decide) rfl (by omega) (by decide)) ?_
  rw [show (10 : Int32) = Int32.ofNat 10 from rfl, mul_of, of_add]
  refine bse (sI_at (i := 10 * a + d) (n := 120) (by decide) rfl (by omega) (by decide)) ?_
  refine bse (sJ_at (i := 10 * a + d) (n := 120) (by decide) rfl (by omega) (by decide)) ?_
  have rq2 : rqs sB (rs_wB (rs_wA (rs_wA s 92 a (Int32.ofNat (d + 1))) 98 (10 * a + d) (Int32.ofNat m)) 100 (10 * a + d) v) := by
    refine rqs_t rq (fun p h1 h2 => ?_)
    show (rs_wA (rs_wA s 92 a (Int32.ofNat (d + 1))) 98 (10 * a + d) (Int32.ofNat m)).2.1 p = s.2.1 p
    rw [wA_np (by omega), wA_np (by omega)]
  refine bse ((aI_at (p := 76) (i := m) (n := 72) (by decide) rfl (by omega) (by decide)).trans (congrArg some h76)) ?_
  refine bse ((nd_at rq2 (by decide) hb).trans (congrArg some h45)) ?_
  refine bse (nd_at rq2 (by decide) hc0) ?_
  rcases hq with ⟨z, e⟩ | ⟨e', z, e1, e2, e3⟩
  · subst e
    refine ifn (ne1_f z) ?_
    exact bse (sI_at (i := 10 * a + d) (n := 120) (by decide) rfl (by omega) (by decide)) rfl
  · refine ift (ne1_t (by rw [z]; exact ofn_0 e2 e1)) ?_
    refine bse ((nd_at rq2 (by decide) hb).trans (congrArg some h45)) ?_
    refine bse ((nd_at rq2 (by decide) hc0).trans (congrArg some z)) ?_
    refine bse (a := (Int32.ofNat q, _)) (by rw [fI_run (k := k) e3 rq2 hw]; rfl) ?_
    exact bse (sI_at (i := 10 * a + d) (n := 120) (by decide) rfl (by omega) (by decide)) rfl
theorem rsL_id {p : Nat} : rsL s p (s.2.2 p) = s := by
  unfold rsL
  refine Prod.ext rfl (Prod.ext rfl (funext fun q => ?_))
  show (if q = p then s.2.2 p else s.2.2 q) = s.2.2 q
  by_cases c : q = p
  · rw [if_pos c, c]
  · rw [if_neg c]
theorem rsL_w {p i : Nat} {x : Int64} {g : Nat → Int64} : rs_wB (rsL s p g) p i x = rsL s p (vp_updL g i x) := by
  unfold rsL rs_wB
  refine Prod.ext rfl (Prod.ext rfl (funext fun q => ?_))
  show (if q = p then vp_updL (if q = p then g else s.2.2 q) i x else if q = p then g else s.2.2 q) = if q = p then vp_updL g i x else s.2.2 q
  by_cases c : q = p
  · rw [if_pos c, if_pos c, if_pos c]
  · rw [if_neg c, if_neg c, if_neg c]
theorem rs_wAA {p i : Nat} {x y : Int32} : rs_wA (rs_wA s p i x) p i y = rs_wA s p i y := by
  unfold rs_wA
  refine Prod.ext rfl (Prod.ext (funext fun q => ?_) rfl)
  show (if q = p then upd (if q = p then upd (s.2.1 q) i x else s.2.1 q) i y else if q = p then upd (s.2.1 q) i x else s.2.1 q) = if q = p then upd (s.2.1 q) i y else s.2.1 q
  by_cases c : q = p
  · rw [if_pos c, if_pos c, if_pos c]
    funext j
    unfold upd
    by_cases e : j = i
    · rw [if_pos e, if_pos e]
    · rw [if_neg e, if_neg e, if_neg e]
  · rw [if_neg c, if_neg c, if_neg c]
theorem updL_eq {g : Nat → Int64} {i : Nat} {x : Int64} : vp_updL g i x i = x := by
  unfold vp_updL
  rw [if_pos rfl]
theorem updL_ne {g : Nat → Int64} {i j : Nat} {x : Int64} (h : j ≠ i) : vp_updL g i x j = g j := by
  unfold vp_updL
  rw [if_neg h]
/-- the arguments become variables -/
theorem r_com_l {base : Nat} (hbs : base ≤ 1904) (ha : a < 12) (E : Int32 → Option rA) : ∀ (r : Nat) (s : rS) (g : Nat → Int64) (N : Nat), s.2.1 93 a = Int32.ofNat (t + r) → t + r ≤ 10100 → r ≤ 16 → r < N → ∃ g' : Nat → Int64, s396_39 (rM w (k + 1)) w N (Int32.ofNat a) (Int32.ofNat m) v (Int32.ofNat base) (Int32.ofNat r - 1) (rsL s 101 g) = ((rM w (k + 1) 385 [.ref 36, .int (Int32.ofNat a), .int (Int32.ofNat m), .long v] (rs_wA (rsL s 101 g') 93 a (Int32.ofNat t))).bind rxV).bind (fun s2 => some (none, s2)) ∧ (∀ i, i < r → g' (base + i) = s.2.2 97 (10100 * a + t + i)) ∧ ∀ i, i < base ∨ base + r ≤ i → g' i = g i := by
  intro r
  induction r with
  | zero =>
    intro s g N h93 ht hr hN
    obtain ⟨N', rfl⟩ : ∃ N', N = N' + 1 := ⟨N - 1, by omega⟩
    refine ⟨g, ?_, fun i hi => by omega, fun _ _ => rfl⟩
    show (if mx_f1 .lt (Int32.ofNat 0 - 1) = true then _ else _) = _
    rw [if_pos (by decide)]
    have e : rs_wA (rsL s 101 g) 93 a (Int32.ofNat t) = rsL s 101 g := by
      unfold rs_wA
      refine Prod.ext rfl (Prod.ext (funext fun q => ?_) rfl)
      show (if q = 93 then upd (s.2.1 q) a (Int32.ofNat t) else s.2.1 q) = s.2.1 q
      by_cases c : q = 93
      · rw [if_pos c, c]
        funext j
        unfold upd
        by_cases e : j = a
        · rw [if_pos e, e, h93]
          rfl
        · rw [if_neg e]
      · rw [if_neg c]
    rw [e]
  | succ r ih =>
    intro s g N h93 ht hr hN
    obtain ⟨N', rfl⟩ : ∃ N', N = N' + 1 := ⟨N - 1, by omega⟩
    have e93 : (rs_wA s 93 a (Int32.ofNat (t + r))).2.1 93 a = Int32.ofNat (t + r) := wA_eq _ _ _ _
    obtain ⟨g', r1, r2, r3⟩ := ih (rs_wA s 93 a (Int32.ofNat (t + r))) (vp_updL g (base + r) (s.2.2 97 (10100 * a + (t + r)))) N' e93 (by omega) (by omega) (by omega)
    refine ⟨g', ?_, fun i hi => ?_, fun i hi => ?_⟩
    · show (if mx_f1 .lt (Int32.ofNat (r + 1) - 1) = true then _ else _) = _
      rw [of_dec, if_neg (by rw [f1_lt, of_int (by omega)]; exact fun z => absurd (of_decide_eq_true z) (by omega))]
      show ((rM w (k + 1) 390 [.ref 36, .int (Int32.ofNat a)] (rsL s 101 g)).bind rxJ).bind _ = _
      rw [r_pop (s := rsL s 101 g) (t := t + r) ha h93 (by omega)]
      show (rs_sJ (rs_wA (rsL s 101 g) 93 a (Int32.ofNat (t + r))) 101 (Int32.ofNat base + Int32.ofNat r) (s.2.2 97 (10100 * a + (t + r)))).bind _ = _
      rw [of_add, sJ_at (i := base + r) (n := 1920) (by decide) rfl (by omega) (by decide)]
      show s396_39 (rM w (k + 1)) w N' (Int32.ofNat a) (Int32.ofNat m) v (Int32.ofNat base) (Int32.ofNat r + (-1)) (rs_wB (rsL (rs_wA s 93 a (Int32.ofNat (t + r))) 101 g) 101 (base + r) (s.2.2 97 (10100 * a + (t + r)))) = _
      rw [rsL_w, show Int32.ofNat r + (-1) = Int32.ofNat r - 1 from (Int32.sub_eq_add_neg _ _).symm, r1, show rsL (rs_wA s 93 a (Int32.ofNat (t + r))) 101 g' = rs_wA (rsL s 101 g') 93 a (Int32.ofNat (t + r)) from rfl, rs_wAA]
    · by_cases c : i = r
      · rw [r3 _ (by omega), c, updL_eq, show 10100 * a + (t + r) = 10100 * a + t + r from by omega]
      · rw [r2 i (by omega)]
        rfl
    · rw [r3 i (by omega), updL_ne (by omega)]
theorem r_com (rq : rqs sB s) (ha : a < 12) (hd : d < 10) (h92 : s.2.1 92 a = Int32.ofNat d) (hm : m < 72) (h76 : s.2.1 76 m = Int32.ofNat bb) (hb : bb < 4400) (hc0 : c < 4400) (h45 : sB.2.1 45 bb = Int32.ofNat c) (hq : (sB.2.1 45 c = 0 ∧ q = bb) ∨ ∃ e' : Nat, sB.2.1 45 c = Int32.ofNat e' ∧ 1 ≤ e' ∧ e' < 4400 ∧ fI sB 6000 e' q) (hw : 6000 ≤ w) (h77 : s.2.1 77 m = Int32.ofNat p0) (h77' : s.2.1 77 (m + 1) = Int32.ofNat (p0 + np)) (hp : p0 + np ≤ 500) (n16 : np ≤ 16) (h93 : s.2.1 93 a = Int32.ofNat (t + np)) (ht : t + np ≤ 10100) : ∃ g : Nat → Int64, rM w (k + 4) 396 [.ref 36, .int (Int32.ofNat a), .int (Int32.ofNat m), .long v] s = some (none, sBg (rs_wA (rsL s 101 g) 93 a (Int32.ofNat t)) a d m q v) ∧ (∀ i, i < np → g (16 * (10 * a + d) + i) = s.2.2 97 (10100 * a + t + i)) ∧ ∀ i, i < 16 * (10 * a + d) ∨ 16 * (10 * a + d) + np ≤ i → g i = s.2.2 101 i := by
  obtain ⟨g, r1, r2, r3⟩ := r_com_l (w := w) (k := k + 2) (m := m) (v := v) (t := t) (base := 16 * (10 * a + d)) (by omega) ha (fun _ => none) np s (s.2.2 101) w h93 ht n16 (by omega)
  refine ⟨g, ?_, r2, r3⟩
  rw [y396]
  show s396_0 (rM w (k + 3)) w (Int32.ofNat a) (Int32.ofNat m) v s = _
  unfold s396_0
  rw [of_inc]
  refine bse ((aI_at (p := 77) (i := m + 1) (n := 73) (by decide) rfl (by omega) (by decide)).trans (congrArg some h77')) ?_
  refine bse ((aI_at (p := 77) (i := m) (n := 73) (by decide) rfl (by omega) (by decide)).trans (congrArg some h77)) ?_
  refine bse ((aI_at (p := 92) (i := a) (n := 12) (by decide) rfl (by omega) (by decide)).trans (congrArg some h92)) ?_
  rw [of_dif _ _ (by omega), show (10 : Int32) = Int32.ofNat 10 from rfl, mul_of, of_add, show (16 : Int32) = Int32.ofNat 16 from rfl, mul_of]
  rw [rsL_id] at r1
  have rb := r_beg (w := w) (k := k) (v := v) (s := rs_wA (rsL s 101 g) 93 a (Int32.ofNat t)) (sB := sB) (q := q) (c := c) (bb := bb) (d := d) (rqs_t rq (fun p h1 h2 => (wA_np (by omega)).trans rfl)) ha hd (by rw [wA_np (by decide)]; exact h92) hm (by rw [wA_np (by decide)]; exact h76) hb hc0 h45 hq hw
  rw [r1, show k + 2 + 1 = k + 3 from rfl, rb]
  rfl
end RBO
