/-! KEYWORDS: the class walks through one String of them, the reference through a row of codes. -/
theorem rs_lt2 {α : Type} {l : List α} {i : Nat} {x : α} (e : l[i]? = some x) : i < l.length := rs_lt e
def wdL : List (Nat × Nat) := [(0, 5), (6, 5), (12, 3), (16, 3), (20, 2), (23, 3), (27, 2), (30, 4), (35, 5), (41, 6), (48, 4), (53, 4), (58, 3), (62, 4), (67, 4), (72, 4), (77, 7), (85, 7), (93, 3), (97, 3), (101, 3), (105, 3), (109, 3), (113, 3)]
def kwL (g : Nat → Int32) (b len : Nat) : List (Nat × Nat) → Nat → Nat
  | [], _ => 2
  | q :: r, num => if q.2 = len ∧ eqAt g q.1 b len = true then num else kwL g b len r (num + 1)
theorem kwS_let (g : Nat → Int32) (b len : Nat) : ∀ (l f num wb i : Nat), (∀ j, j < l → wdC (i + j) ≠ 32) → kwS g b len (f + l) num wb i = kwS g b len f num wb (i + l) := by
  intro l
  induction l with
  | zero => intro f num wb i _; rfl
  | succ l ih =>
    intro f num wb i h
    have h0 := h 0 (by omega)
    rw [Nat.add_zero] at h0
    rw [show f + (l + 1) = (f + l) + 1 from by omega, kwS, if_neg h0, ih f num wb (i + 1) (fun j hj => by
      have := h (j + 1) (by omega)
      rw [show i + (j + 1) = i + 1 + j from by omega] at this
      exact this), show i + 1 + l = i + (l + 1) from by omega]
theorem kwS_word (g : Nat → Int32) (b len : Nat) (l f num wb : Nat) (h : (List.range l).all (fun j => decide (wdC (wb + j) ≠ 32)) = true) (hb : wdC (wb + l) = 32) : kwS g b len (f + 1 + l) num wb wb = if l = len ∧ eqAt g wb b len = true then num else kwS g b len f (num + 1) (wb + l + 1) (wb + l + 1) := by
  rw [kwS_let g b len l (f + 1) num wb wb (fun j hj => of_decide_eq_true (List.all_eq_true.mp h j (List.mem_range.mpr hj))), kwS, if_pos hb, show wb + l - wb = l from by omega]
  by_cases c : l = len
  · rw [if_pos c]
    by_cases d : eqAt g wb b len = true
    · rw [if_pos d, if_pos ⟨c, d⟩]
    · rw [if_neg d, if_neg (fun z => d z.2)]
  · rw [if_neg c, if_neg (fun z => c z.1)]
theorem kwS_L (g : Nat → Int32) (b len : Nat) : kwS g b len wdN 20 0 0 = kwL g b len wdL 20 := by
  rw [show wdN = 117 from by decide]
  unfold wdL
  rw [show (117 : Nat) = 111 + 1 + 5 from rfl, kwS_word g b len 5 111 20 0 (by decide +kernel) (by decide +kernel), kwL]
  by_cases c0 : (0, 5).2 = len ∧ eqAt g (0, 5).1 b len = true
  · rw [if_pos c0, if_pos c0]
  rw [if_neg c0, if_neg c0]
  rw [show (111 : Nat) = 105 + 1 + 5 from rfl, kwS_word g b len 5 105 21 6 (by decide +kernel) (by decide +kernel), kwL]
  by_cases c1 : (6, 5).2 = len ∧ eqAt g (6, 5).1 b len = true
  · rw [if_pos c1, if_pos c1]
  rw [if_neg c1, if_neg c1]
  rw [show (105 : Nat) = 101 + 1 + 3 from rfl, kwS_word g b len 3 101 22 12 (by decide +kernel) (by decide +kernel), kwL]
  by_cases c2 : (12, 3).2 = len ∧ eqAt g (12, 3).1 b len = true
  · rw [if_pos c2, if_pos c2]
  rw [if_neg c2, if_neg c2]
  rw [show (101 : Nat) = 97 + 1 + 3 from rfl, kwS_word g b len 3 97 23 16 (by decide +kernel) (by decide +kernel), kwL]
  by_cases c3 : (16, 3).2 = len ∧ eqAt g (16, 3).1 b len = true
  · rw [if_pos c3, if_pos c3]
  rw [if_neg c3, if_neg c3]
  rw [show (97 : Nat) = 94 + 1 + 2 from rfl, kwS_word g b len 2 94 24 20 (by decide +kernel) (by decide +kernel), kwL]
  by_cases c4 : (20, 2).2 = len ∧ eqAt g (20, 2).1 b len = true
  · rw [if_pos c4, if_pos c4]
  rw [if_neg c4, if_neg c4]
  rw [show (94 : Nat) = 90 + 1 + 3 from rfl, kwS_word g b len 3 90 25 23 (by decide +kernel) (by decide +kernel), kwL]
  by_cases c5 : (23, 3).2 = len ∧ eqAt g (23, 3).1 b len = true
  · rw [if_pos c5, if_pos c5]
  rw [if_neg c5, if_neg c5]
  rw [show (90 : Nat) = 87 + 1 + 2 from rfl, kwS_word g b len 2 87 26 27 (by decide +kernel) (by decide +kernel), kwL]
  by_cases c6 : (27, 2).2 = len ∧ eqAt g (27, 2).1 b len = true
  · rw [if_pos c6, if_pos c6]
  rw [if_neg c6, if_neg c6]
  rw [show (87 : Nat) = 82 + 1 + 4 from rfl, kwS_word g b len 4 82 27 30 (by decide +kernel) (by decide +kernel), kwL]
  by_cases c7 : (30, 4).2 = len ∧ eqAt g (30, 4).1 b len = true
  · rw [if_pos c7, if_pos c7]
  rw [if_neg c7, if_neg c7]
  rw [show (82 : Nat) = 76 + 1 + 5 from rfl, kwS_word g b len 5 76 28 35 (by decide +kernel) (by decide +kernel), kwL]
  by_cases c8 : (35, 5).2 = len ∧ eqAt g (35, 5).1 b len = true
  · rw [if_pos c8, if_pos c8]
  rw [if_neg c8, if_neg c8]
  rw [show (76 : Nat) = 69 + 1 + 6 from rfl, kwS_word g b len 6 69 29 41 (by decide +kernel) (by decide +kernel), kwL]
  by_cases c9 : (41, 6).2 = len ∧ eqAt g (41, 6).1 b len = true
  · rw [if_pos c9, if_pos c9]
  rw [if_neg c9, if_neg c9]
  rw [show (69 : Nat) = 64 + 1 + 4 from rfl, kwS_word g b len 4 64 30 48 (by decide +kernel) (by decide +kernel), kwL]
  by_cases c10 : (48, 4).2 = len ∧ eqAt g (48, 4).1 b len = true
  · rw [if_pos c10, if_pos c10]
  rw [if_neg c10, if_neg c10]
  rw [show (64 : Nat) = 59 + 1 + 4 from rfl, kwS_word g b len 4 59 31 53 (by decide +kernel) (by decide +kernel), kwL]
  by_cases c11 : (53, 4).2 = len ∧ eqAt g (53, 4).1 b len = true
  · rw [if_pos c11, if_pos c11]
  rw [if_neg c11, if_neg c11]
  rw [show (59 : Nat) = 55 + 1 + 3 from rfl, kwS_word g b len 3 55 32 58 (by decide +kernel) (by decide +kernel), kwL]
  by_cases c12 : (58, 3).2 = len ∧ eqAt g (58, 3).1 b len = true
  · rw [if_pos c12, if_pos c12]
  rw [if_neg c12, if_neg c12]
  rw [show (55 : Nat) = 50 + 1 + 4 from rfl, kwS_word g b len 4 50 33 62 (by decide +kernel) (by decide +kernel), kwL]
  by_cases c13 : (62, 4).2 = len ∧ eqAt g (62, 4).1 b len = true
  · rw [if_pos c13, if_pos c13]
  rw [if_neg c13, if_neg c13]
  rw [show (50 : Nat) = 45 + 1 + 4 from rfl, kwS_word g b len 4 45 34 67 (by decide +kernel) (by decide +kernel), kwL]
  by_cases c14 : (67, 4).2 = len ∧ eqAt g (67, 4).1 b len = true
  · rw [if_pos c14, if_pos c14]
  rw [if_neg c14, if_neg c14]
  rw [show (45 : Nat) = 40 + 1 + 4 from rfl, kwS_word g b len 4 40 35 72 (by decide +kernel) (by decide +kernel), kwL]
  by_cases c15 : (72, 4).2 = len ∧ eqAt g (72, 4).1 b len = true
  · rw [if_pos c15, if_pos c15]
  rw [if_neg c15, if_neg c15]
  rw [show (40 : Nat) = 32 + 1 + 7 from rfl, kwS_word g b len 7 32 36 77 (by decide +kernel) (by decide +kernel), kwL]
  by_cases c16 : (77, 7).2 = len ∧ eqAt g (77, 7).1 b len = true
  · rw [if_pos c16, if_pos c16]
  rw [if_neg c16, if_neg c16]
  rw [show (32 : Nat) = 24 + 1 + 7 from rfl, kwS_word g b len 7 24 37 85 (by decide +kernel) (by decide +kernel), kwL]
  by_cases c17 : (85, 7).2 = len ∧ eqAt g (85, 7).1 b len = true
  · rw [if_pos c17, if_pos c17]
  rw [if_neg c17, if_neg c17]
  rw [show (24 : Nat) = 20 + 1 + 3 from rfl, kwS_word g b len 3 20 38 93 (by decide +kernel) (by decide +kernel), kwL]
  by_cases c18 : (93, 3).2 = len ∧ eqAt g (93, 3).1 b len = true
  · rw [if_pos c18, if_pos c18]
  rw [if_neg c18, if_neg c18]
  rw [show (20 : Nat) = 16 + 1 + 3 from rfl, kwS_word g b len 3 16 39 97 (by decide +kernel) (by decide +kernel), kwL]
  by_cases c19 : (97, 3).2 = len ∧ eqAt g (97, 3).1 b len = true
  · rw [if_pos c19, if_pos c19]
  rw [if_neg c19, if_neg c19]
  rw [show (16 : Nat) = 12 + 1 + 3 from rfl, kwS_word g b len 3 12 40 101 (by decide +kernel) (by decide +kernel), kwL]
  by_cases c20 : (101, 3).2 = len ∧ eqAt g (101, 3).1 b len = true
  · rw [if_pos c20, if_pos c20]
  rw [if_neg c20, if_neg c20]
  rw [show (12 : Nat) = 8 + 1 + 3 from rfl, kwS_word g b len 3 8 41 105 (by decide +kernel) (by decide +kernel), kwL]
  by_cases c21 : (105, 3).2 = len ∧ eqAt g (105, 3).1 b len = true
  · rw [if_pos c21, if_pos c21]
  rw [if_neg c21, if_neg c21]
  rw [show (8 : Nat) = 4 + 1 + 3 from rfl, kwS_word g b len 3 4 42 109 (by decide +kernel) (by decide +kernel), kwL]
  by_cases c22 : (109, 3).2 = len ∧ eqAt g (109, 3).1 b len = true
  · rw [if_pos c22, if_pos c22]
  rw [if_neg c22, if_neg c22]
  rw [show (4 : Nat) = 0 + 1 + 3 from rfl, kwS_word g b len 3 0 43 113 (by decide +kernel) (by decide +kernel), kwL]
  by_cases c23 : (113, 3).2 = len ∧ eqAt g (113, 3).1 b len = true
  · rw [if_pos c23, if_pos c23]
  rw [if_neg c23, if_neg c23]
  rfl
def wcC : List Int64 := [427020088179, 418280402802, 7234935, 6714734, 25189, 7758194, 26982, 1701606245, 512852847717, 125780071117422, 1952803948, 1734964837, 6840691, 1937203568, 1852796517, 1952999795, 27988542868516197, 32199625091212658, 6910831, 7631470, 7497062, 7758188, 6451064, 6909556]
def wcR : List Int64 := [427020088179, 418280402802, 7234935, 6714734, 25189, 7758194, 26982, 1701606245, 512852847717, 1952803948, 125780071117422, 1734964837, 6840691, 1937203568, 1852796517, 1952999795, 27988542868516197, 32199625091212658, 6910831, 7631470, 7497062, 7758188, 6451064, 6909556]
def kwF (c : Int64) : List Int64 → Nat → Nat
  | [], _ => 2
  | x :: r, num => if x = c then num else kwF c r (num + 1)
theorem wd_chs : ∀ q ∈ wdL, chs wdC q.1 q.2 := by
  have h : ∀ q ∈ wdL, ∀ j, j < q.2 → 1 ≤ (wdC (q.1 + j)).toInt ∧ (wdC (q.1 + j)).toInt ≤ 255 := by decide +kernel
  exact h
theorem wd_len : ∀ q ∈ wdL, q.2 ≤ 8 := by decide
theorem wd_cod : wdL.map (fun q => rcC wdC q.2 q.1 0) = wcC := by decide +kernel
theorem kwL_F (g : Nat → Int32) (b len : Nat) (hl : len ≤ 8) (hc : chs g b len) : ∀ (L : List (Nat × Nat)) (num : Nat), (∀ q ∈ L, chs wdC q.1 q.2) → (∀ q ∈ L, q.2 ≤ 8) → kwL g b len L num = kwF (rcC g len b 0) (L.map (fun q => rcC wdC q.2 q.1 0)) num := by
  intro L
  induction L with
  | nil => intro num _ _; rfl
  | cons q r ih =>
    intro num h1 h2
    rw [List.map_cons, kwL, kwF, ih (num + 1) (fun p hp => h1 p (List.mem_cons_of_mem _ hp)) (fun p hp => h2 p (List.mem_cons_of_mem _ hp))]
    have iff := cd_iff wdC g q.1 b q.2 len (h2 q List.mem_cons_self) hl (h1 q List.mem_cons_self) hc
    by_cases c : rcC wdC q.2 q.1 0 = rcC g len b 0
    · obtain ⟨e1, e2⟩ := iff.mp c
      rw [if_pos c, if_pos]
      refine ⟨e1, ?_⟩
      unfold eqAt
      rw [List.all_eq_true]
      intro j hj
      exact decide_eq_true (e2 j (by rw [e1]; exact List.mem_range.mp hj))
    · rw [if_neg c, if_neg]
      rintro ⟨e1, e2⟩
      refine c (iff.mpr ⟨e1, fun j hj => ?_⟩)
      unfold eqAt at e2
      rw [List.all_eq_true] at e2
      exact of_decide_eq_true (e2 j (List.mem_range.mpr (by rw [← e1]; exact hj)))
/-- the class's number of a keyword is that of its code -/
theorem kw_code (g : Nat → Int32) (b len : Nat) (hl : len ≤ 8) (hc : chs g b len) : kwS g b len wdN 20 0 0 = kwF (rcC g len b 0) wcC 20 := by
  rw [kwS_L, kwL_F g b len hl hc wdL 20 wd_chs wd_len, wd_cod]
/-- the reference's row of codes -/
def wdR (wd : Nat → Int64) : Prop := ∀ i, i < 24 → wcR[i]? = some (wd i)
/-- the class's number for the reference's -/
def pmK (i : Nat) : Nat := if i = 9 then 30 else if i = 10 then 29 else if i < 24 then 20 + i else 2
theorem kwI_F (wd : Nat → Int64) (c : Int64) : ∀ (f i : Nat), (∀ j, j < f → wcR[i + j]? = some (wd (i + j))) → i + f = 24 → kwI wd c f i = (wcR.drop i).findIdx (fun x => decide (x = c)) + i := by
  intro f
  induction f with
  | zero =>
    intro i _ hi
    have : i = 24 := by omega
    subst this
    rfl
  | succ f ih =>
    intro i h hi
    have h0 := h 0 (by omega)
    rw [Nat.add_zero] at h0
    have hd : wcR.drop i = wd i :: wcR.drop (i + 1) := by
      have hlt : i < wcR.length := rs_lt2 h0
      rw [List.drop_eq_getElem_cons hlt]
      congr 1
      rw [List.getElem?_eq_getElem hlt] at h0
      exact Option.some.inj h0
    rw [kwI, hd, List.findIdx_cons, ih (i + 1) (fun j hj => by
      have := h (j + 1) (by omega)
      rw [show i + (j + 1) = i + 1 + j from by omega] at this
      exact this) (by omega)]
    by_cases e : wd i = c
    · rw [if_pos e, decide_eq_true e]
      simp
    · rw [if_neg e, decide_eq_false e]
      simp
      omega
theorem kw_perm (c : Int64) : kwF c wcC 20 = pmK (wcR.findIdx (fun x => decide (x = c))) := by
  by_cases c0 : c = 427020088179
  · subst c0; decide +kernel
  by_cases c1 : c = 418280402802
  · subst c1; decide +kernel
  by_cases c2 : c = 7234935
  · subst c2; decide +kernel
  by_cases c3 : c = 6714734
  · subst c3; decide +kernel
  by_cases c4 : c = 25189
  · subst c4; decide +kernel
  by_cases c5 : c = 7758194
  · subst c5; decide +kernel
  by_cases c6 : c = 26982
  · subst c6; decide +kernel
  by_cases c7 : c = 1701606245
  · subst c7; decide +kernel
  by_cases c8 : c = 512852847717
  · subst c8; decide +kernel
  by_cases c9 : c = 125780071117422
  · subst c9; decide +kernel
  by_cases c10 : c = 1952803948
  · subst c10; decide +kernel
  by_cases c11 : c = 1734964837
  · subst c11; decide +kernel
  by_cases c12 : c = 6840691
  · subst c12; decide +kernel
  by_cases c13 : c = 1937203568
  · subst c13; decide +kernel
  by_cases c14 : c = 1852796517
  · subst c14; decide +kernel
  by_cases c15 : c = 1952999795
  · subst c15; decide +kernel
  by_cases c16 : c = 27988542868516197
  · subst c16; decide +kernel
  by_cases c17 : c = 32199625091212658
  · subst c17; decide +kernel
  by_cases c18 : c = 6910831
  · subst c18; decide +kernel
  by_cases c19 : c = 7631470
  · subst c19; decide +kernel
  by_cases c20 : c = 7497062
  · subst c20; decide +kernel
  by_cases c21 : c = 7758188
  · subst c21; decide +kernel
  by_cases c22 : c = 6451064
  · subst c22; decide +kernel
  by_cases c23 : c = 6909556
  · subst c23; decide +kernel
  have nC : ∀ (L : List Int64) (n : Nat), (∀ x ∈ L, ¬ x = c) → kwF c L n = 2 := by
    intro L
    induction L with
    | nil => intro n _; rfl
    | cons x r ih => intro n h; rw [kwF, if_neg (h x List.mem_cons_self)]; exact ih (n + 1) (fun y hy => h y (List.mem_cons_of_mem _ hy))
  have all : ∀ x ∈ wcC, ¬ x = c := by
    intro x hx
    unfold wcC at hx
    simp only [List.mem_cons, List.not_mem_nil, or_false] at hx
    rcases hx with e | e | e | e | e | e | e | e | e | e | e | e | e | e | e | e | e | e | e | e | e | e | e | e
    · intro z; exact c0 (z.symm.trans e)
    · intro z; exact c1 (z.symm.trans e)
    · intro z; exact c2 (z.symm.trans e)
    · intro z; exact c3 (z.symm.trans e)
    · intro z; exact c4 (z.symm.trans e)
    · intro z; exact c5 (z.symm.trans e)
    · intro z; exact c6 (z.symm.trans e)
    · intro z; exact c7 (z.symm.trans e)
    · intro z; exact c8 (z.symm.trans e)
    · intro z; exact c9 (z.symm.trans e)
    · intro z; exact c10 (z.symm.trans e)
    · intro z; exact c11 (z.symm.trans e)
    · intro z; exact c12 (z.symm.trans e)
    · intro z; exact c13 (z.symm.trans e)
    · intro z; exact c14 (z.symm.trans e)
    · intro z; exact c15 (z.symm.trans e)
    · intro z; exact c16 (z.symm.trans e)
    · intro z; exact c17 (z.symm.trans e)
    · intro z; exact c18 (z.symm.trans e)
    · intro z; exact c19 (z.symm.trans e)
    · intro z; exact c20 (z.symm.trans e)
    · intro z; exact c21 (z.symm.trans e)
    · intro z; exact c22 (z.symm.trans e)
    · intro z; exact c23 (z.symm.trans e)
  have sub : ∀ x ∈ wcR, x ∈ wcC := by decide +kernel
  rw [nC wcC 20 all]
  have fi : wcR.findIdx (fun x => decide (x = c)) = wcR.length := by
    rw [List.findIdx_eq_length]
    intro x hx
    exact decide_eq_false (all x (sub x hx))
  rw [fi]
  rfl
/-- the same keyword on both sides -/
theorem kw_both (g : Nat → Int32) (wd : Nat → Int64) (b len : Nat) (hl : len ≤ 8) (hc : chs g b len) (hw : wdR wd) : kwS g b len wdN 20 0 0 = pmK (kwI wd (rcC g len b 0) 24 0) := by
  rw [kw_code g b len hl hc, kw_perm, kwI_F wd _ 24 0 (fun j hj => by rw [Nat.zero_add]; exact hw j hj) rfl]
  rfl
