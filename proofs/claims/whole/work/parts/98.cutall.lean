/-! THE CLASS'S READER CUTS THE TEXT. -/
def sgT (g : Nat → Int32) (b e : Nat) : Int32 := if e - b = 2 then 19 else if 0 ≤ (sgS (Int8.toInt32 (Int32.toInt8 (g b))) sgN 0).toInt then 5 + sgS (Int8.toInt32 (Int32.toInt8 (g b))) sgN 0 else 1
/-- the token that begins at b -/
def tkF (g : Nat → Int32) (n b : Nat) : Int32 := if rd_al (g b) = true then Int32.ofNat (rowT g b (lx_en g n b)) else sgT g b (lx_en g n b)
/-- all tokens: how many, their sorts, places, ends -/
def lxC (g : Nat → Int32) (n : Nat) : Nat → Nat → Nat → (Nat → Int32) → (Nat → Int32) → (Nat → Int32) → Nat × (Nat → Int32) × (Nat → Int32) × (Nat → Int32)
  | 0, _, c, A, B, C => (c, A, B, C)
  | f + 1, at_, c, A, B, C => if at_ < n then (if g at_ = 32 then lxC g n f (at_ + 1) c A B C else lxC g n f (lx_en g n at_) (c + 1) (upd A c (tkF g n at_)) (upd B c (Int32.ofNat at_)) (upd C c (Int32.ofNat (lx_en g n at_)))) else (c, A, B, C)
abbrev iaA (m : Nat) (f : Nat → Int32) : rm_E := .inl (0, m, .inl f)
/-- the reader at r, its String at t with bytes at a, its three rows -/
def rP (h : rm_H) (r t a tk pl en n : Nat) (f : Nat → Int32) (v : Nat → Int32) (A B C : Nat → Int32) : Prop := (21 ≤ r ∧ 21 ≤ t ∧ 21 ≤ a ∧ 21 ≤ tk ∧ 21 ≤ pl ∧ 21 ≤ en) ∧ [r, t, a, tk, pl, en].Nodup ∧ n ≤ 2000 ∧ h[r - 21]? = some (.inr (6, [.ref t, .ref tk, .ref pl, .ref en, .int (v 4), .int (v 5), .int (v 6), .int (v 7), .int (v 8)])) ∧ (∃ x y, h[t - 21]? = some (.inr (7, [.ref a, .int 0, .int x, .int y]))) ∧ h[a - 21]? = some (byA n f) ∧ h[tk - 21]? = some (iaA (n + 1) A) ∧ h[pl - 21]? = some (iaA (n + 1) B) ∧ h[en - 21]? = some (iaA (n + 1) C)
section CA
variable {L : Nat} {xs : Nat → Int32} {zf : Value} {w k : Nat} {h : rm_H}
theorem rP_sT {r t a tk pl en n : Nat} {f v A B C : Nat → Int32} (hP : rP h r t a tk pl en n f v A B C) : sT L xs h t n (fun i => f i &&& 255) := by
  obtain ⟨⟨p1, p2, p3, p4, p5, p6⟩, nd, hn, h1, ⟨x, y, h2⟩, h3, h4, h5, h6⟩ := hP
  exact ⟨7, a, _, f, by decide, (rs_look p2).trans h2, rfl, rfl, (rs_look p3).trans h3, by omega, fun _ _ => rfl⟩
theorem rP_rD {r t a tk pl en n : Nat} {f v A B C : Nat → Int32} (hP : rP h r t a tk pl en n f v A B C) : rD L xs h r t := by
  obtain ⟨⟨p1, p2, p3, p4, p5, p6⟩, nd, hn, h1, ⟨x, y, h2⟩, h3, h4, h5, h6⟩ := hP
  exact ⟨_, (rs_look p1).trans h1, rfl⟩
theorem st_255 {t n : Nat} {g : Nat → Int32} (hT : sT L xs h t n g) (i : Nat) (hi : i < n) : 0 ≤ (g i).toInt ∧ (g i).toInt ≤ 255 := by
  obtain ⟨ci, a, fs, f, hc, h1, h2, h3, h4, hn, hg⟩ := hT
  rw [← hg i hi]
  exact a255_i _
theorem sg_of {r t n : Nat} {g : Nat → Int32} (hR : rD L xs h r t) (hT : sT L xs h t n g) (b e : Nat) (hb : b < n) (hbe : b ≤ e) (he : e ≤ n) (hw : 101 ≤ w) : dM L xs zf w (k + 6) 74 [.ref r, .int (Int32.ofNat b), .int (Int32.ofNat e)] h = some (some (.int (sgT g b e)), h) := by
  have hn := st_n hT
  have g255 := st_255 hT b hb
  rw [e74]
  show b74_0 L xs zf (dM L xs zf w (k + 5)) w (some r) (Int32.ofNat b) (Int32.ofNat e) h = _
  unfold b74_0 sgT
  have esub : (Int32.ofNat e - Int32.ofNat b) = Int32.ofNat (e - b) := by
    apply i32_of
    rw [of_sub (by omega) (by omega), of_int (by omega)]
    omega
  rw [esub]
  by_cases c : e - b = 2
  · rw [if_pos c, c]
    exact ifn (by decide) rfl
  · rw [if_neg c]
    refine ift (show mx_f2 .ne (Int32.ofNat (e - b)) 2 = true by
      rw [f2_ne]
      apply decide_eq_true
      intro z
      have z2 := congrArg Int32.toInt z
      rw [of_int (by omega), show (2 : Int32).toInt = 2 from by decide] at z2
      omega) ?_
    refine bse (rd_t hR) (bse (st_c (k := k + 1) hT b hb) ?_)
    refine bse (a := (sgS (Int8.toInt32 (Int32.toInt8 (g b))) sgN 0, h)) ?_ ?_
    · have hS := sg_sT (L := L) (xs := xs) (h := h)
      obtain ⟨ci, a, fs, f, hc, h1, _⟩ := hS
      show (dcV L xs (dM L xs zf w (k + 5)) 75 [7, 16] (some 8) [.int (g b)] h).bind dxI = _
      rw [dcV_lk h1 hc, ix_of (g b) g255.1 g255.2 hw]
      rfl
    · have ege : ∀ x : Int32, mx_f1 .ge x = decide (0 ≤ x.toInt) := by
        intro x
        show decide (0 ≤ x) = _
        rw [decide_eq_decide, Int32.le_iff_toInt_le, i0]
      by_cases d : 0 ≤ (sgS (Int8.toInt32 (Int32.toInt8 (g b))) sgN 0).toInt
      · rw [if_pos d]
        exact ift (show mx_f1 .ge (sgS (Int8.toInt32 (Int32.toInt8 (g b))) sgN 0) = true by rw [ege]; simp [d]) rfl
      · rw [if_neg d]
        exact ifn (show ¬ mx_f1 .ge (sgS (Int8.toInt32 (Int32.toInt8 (g b))) sgN 0) = true by rw [ege]; simp [d]) rfl
theorem sI_of {p m i : Nat} {A : Nat → Int32} {x : Int32} (hp : 21 ≤ p) (hx : h[p - 21]? = some (iaA m A)) (hi : i < m) (hm : m ≤ 1000000) : dsI h (some p) (Int32.ofNat i) x = some (h.set (p - 21) (iaA m (upd A i x))) := by
  unfold dsI
  dsimp only
  rw [if_pos hp, hx]
  dsimp only
  rw [if_pos ⟨rfl, of_in hi (by omega)⟩, of_clamp (by omega)]
/-- one token is written down -/
theorem ca_put {r t a tk pl en n : Nat} {f v A B C : Nat → Int32} (hP : rP h r t a tk pl en n f v A B C) (K : Option Nat → Int32 → rm_H → Option dR) (c at_ e : Nat) (x : Int32) (hv : v 4 = Int32.ofNat c) (hc : c ≤ n) : ∃ h', b62_87 L xs zf (dM L xs zf w k) w K (some r) (Int32.ofNat at_) (Int32.ofNat e) x (Int32.ofNat c) (some tk) h = K (some r) (Int32.ofNat e) h' ∧ rP h' r t a tk pl en n f (upd v 4 (Int32.ofNat (c + 1))) (upd A c x) (upd B c (Int32.ofNat at_)) (upd C c (Int32.ofNat e)) ∧ h'.length = h.length ∧ zh h' = zh h ∧ ∀ q, q ≠ r - 21 → q ≠ tk - 21 → q ≠ pl - 21 → q ≠ en - 21 → h'[q]? = h[q]? := by
  obtain ⟨⟨p1, p2, p3, p4, p5, p6⟩, nd, hn, h1, ⟨x1, y1, h2⟩, h3, h4, h5, h6⟩ := hP
  have nd0 := nd
  simp only [List.nodup_cons, List.mem_cons, List.not_mem_nil, or_false, not_or, not_false_eq_true, and_true, List.nodup_nil] at nd0
  obtain ⟨⟨d1, d2, d3, d4, d5⟩, ⟨d6, d7, d8, d9⟩, ⟨d10, d11, d12⟩, ⟨d13, d14⟩, d15⟩ := nd0
  have q1 := h1
  -- first row
  have a1 : (h.set (tk - 21) (iaA (n + 1) (upd A c x)))[r - 21]? = _ := set_old (by omega) h1
  have a5 : (h.set (tk - 21) (iaA (n + 1) (upd A c x)))[pl - 21]? = _ := set_old (by omega) h5
  have b1 : ((h.set (tk - 21) (iaA (n + 1) (upd A c x))).set (pl - 21) (iaA (n + 1) (upd B c (Int32.ofNat at_))))[r - 21]? = _ := set_old (by omega) a1
  have b6 : ((h.set (tk - 21) (iaA (n + 1) (upd A c x))).set (pl - 21) (iaA (n + 1) (upd B c (Int32.ofNat at_))))[en - 21]? = _ := set_old (by omega) (set_old (by omega) h6)
  have c1 : (((h.set (tk - 21) (iaA (n + 1) (upd A c x))).set (pl - 21) (iaA (n + 1) (upd B c (Int32.ofNat at_)))).set (en - 21) (iaA (n + 1) (upd C c (Int32.ofNat e))))[r - 21]? = _ := set_old (by omega) b1
  refine ⟨(((h.set (tk - 21) (iaA (n + 1) (upd A c x))).set (pl - 21) (iaA (n + 1) (upd B c (Int32.ofNat at_)))).set (en - 21) (iaA (n + 1) (upd C c (Int32.ofNat e)))).set (r - 21) (.inr (6, [.ref t, .ref tk, .ref pl, .ref en, .int (Int32.ofNat (c + 1)), .int (v 5), .int (v 6), .int (v 7), .int (v 8)])), ?_, ⟨⟨p1, p2, p3, p4, p5, p6⟩, nd, hn, rs_set_eq c1, ⟨x1, y1, ?_⟩, ?_, ?_, ?_, ?_⟩, ?_, ?_, ?_⟩
  · unfold b62_87
    rw [sI_of p4 h4 (by omega) (by omega)]
    show (dgR L xs _ 2 [6] (some r)).bind _ = _
    rw [gR_of (p := some pl) p1 a1 (by decide) rfl]
    show (dgI L xs _ 4 [6] (some r)).bind _ = _
    rw [gI_of (x := v 4) p1 a1 (by decide) rfl, hv]
    show (dsI _ (some pl) (Int32.ofNat c) _).bind _ = _
    rw [sI_of p5 a5 (by omega) (by omega)]
    show (dgR L xs _ 3 [6] (some r)).bind _ = _
    rw [gR_of (p := some en) p1 b1 (by decide) rfl]
    show (dgI L xs _ 4 [6] (some r)).bind _ = _
    rw [gI_of (x := v 4) p1 b1 (by decide) rfl, hv]
    show (dsI _ (some en) (Int32.ofNat c) _).bind _ = _
    rw [sI_of p6 b6 (by omega) (by omega)]
    show (dgI L xs _ 4 [6] (some r)).bind _ = _
    rw [gI_of (x := v 4) p1 c1 (by decide) rfl, hv]
    show (dpF _ 4 [6] (some r) (.int (Int32.ofNat c + 1))).bind _ = _
    rw [show Int32.ofNat c + 1 = Int32.ofNat (c + 1) from of_add c 1]
    unfold dpF
    dsimp only
    rw [if_pos p1, c1]
    rfl
  · exact set_old (by omega) (set_old (by omega) (set_old (by omega) (set_old (by omega) h2)))
  · exact set_old (by omega) (set_old (by omega) (set_old (by omega) (set_old (by omega) h3)))
  · exact set_old (by omega) (set_old (by omega) (set_old (by omega) (rs_set_eq h4)))
  · exact set_old (by omega) (set_old (by omega) (rs_set_eq a5))
  · exact set_old (by omega) (rs_set_eq b6)
  · simp
  · rw [zh_set (by rfl) c1, zh_set (by rfl) b6, zh_set (by rfl) a5, zh_set (by rfl) h4]
  · intro q q1 q2 q3 q4
    rw [rs_set_ne (fun z => q1 z.symm), rs_set_ne (fun z => q4 z.symm), rs_set_ne (fun z => q3 z.symm), rs_set_ne (fun z => q2 z.symm)]
end CA
