/-! PARTS OF A NODE; BEHIND A FAULT: arguments fit, calls, messages. -/
section ZN
variable {L : Nat} {xs : Nat → Int32} {zf : Value} {w k C Sc M pl ph K p n m q0 q1 : Nat} {cx : Nat → Nat} {h h1 h2 : rm_H} {pt vr gn rc a b x y t : Int32} {mv : Value} {ds kl es : List Nat} {f : Nat → Int64} {sl ty : Nat → Int32} {u u1 u2 : Nat → Nat} {A B : Nat → Int32}
theorem ck_cnt {s : Int32} (e : pts h q0 q1 p es) (e1 : fd h 12 p 1 = some (.int s)) : (dcV L xs (dM L xs zf w (k + 2)) 167 [12] (some p) [] h).bind dxI = some (Int32.ofNat es.length, h) := by
  rw [fd_v e1 (by decide), e167]
  show (b167_0 L xs zf (dM L xs zf w (k + 1)) w (some p) h).bind dxI = _
  refine bsq (a := (some (.int (Int32.ofNat es.length)), h)) ?_ rfl
  unfold b167_0
  rcases e with ⟨z1, z2⟩ | ⟨l, ar, cap, z1, z2, _⟩
  · subst z2
    exact bsq (fd_R (o := none) z1 (by decide)) (itq rfl rfl)
  · have g : dgR L xs h 11 [12] (some p) = some (some l) := fd_R (o := some l) z1 (by decide)
    exact bsq g (inq (dnl_s l) (bsq g (bsq (a := (Int32.ofNat es.length, h)) (by rw [al_v z2, al_size z2]; rfl) rfl)))
theorem ck_part {s : Int32} {i e0 : Nat} (e : pts h q0 q1 p es) (e1 : fd h 12 p 1 = some (.int s)) (hi : es[i]? = some e0) (he : ∃ s, fd h 12 e0 1 = some (.int s)) (hl : es.length ≤ 10000) : (dcV L xs (dM L xs zf w (k + 4)) 168 [12] (some p) [.int (Int32.ofNat i)] h).bind dxR = some (some e0, h) := by
  rw [fd_v e1 (by decide), e168]
  show (b168_0 L xs zf (dM L xs zf w (k + 3)) w (some p) (Int32.ofNat i) h).bind dxR = _
  refine bsq (a := (some (va_rf (some e0)), h)) ?_ rfl
  unfold b168_0
  have lt := (List.getElem?_eq_some_iff.mp hi).1
  rcases e with ⟨z1, z2⟩ | ⟨l, ar, cap, z1, z2, _⟩
  · subst z2
    cases hi
  · have g : dgR L xs h 11 [12] (some p) = some (some l) := fd_R (o := some l) z1 (by decide)
    obtain ⟨s2, hs⟩ := he
    obtain ⟨fs, hs2, _⟩ := fd_c hs
    refine bsq g (inq (dnl_s l) (inq ?_ (bsq g (bsq (a := (Int32.ofNat es.length, h)) (by rw [al_v z2, al_size z2]; rfl) (itq ?_ (bsq g (bsq (a := (some e0, h)) (by rw [al_v z2, al_get z2 i hi]; rfl) (inq (by rw [ck_of hs2]; decide) rfl))))))))
    · rw [f1_lt, of_int (by omega)]
      simp
    · rw [f2_lt, of_int (by omega), of_int (by omega)]
      simp
      omega
/-- arguments have been checked: their types stand -/
def aTy (h : rm_H) (es : List Nat) : Prop := ∀ e ∈ es, ∃ s t, fd h 12 e 1 = some (.int s) ∧ fd h 12 e 12 = some (.int t)
theorem zk_199 {s spl so nb cp tk hm : Int32} {np M' : Nat} {pty : Nat → Int32} {res : Option Int32} (z : KZ L xs cx C Sc M pt vr mv ds f sl ty rc a b h u) (ha : a ≠ 0) (e : pts h q0 q1 p es) (e1 : fd h 12 p 1 = some (.int s)) (e3 : fd h 12 p 3 = some (.int spl)) (hl : es.length ≤ 6) (at' : aTy h es) (mo : mOk h M' so nb cp np pty res tk hm) (hw : 200 ≤ w) : (dcV L xs (dM L xs zf w (k + 5)) 199 [13] (some C) [va_rf (some p), va_rf (some M')] h).bind dxV = some h := by
  obtain ⟨_, _, _, ⟨l, ar, cap, ps, o1, o2, o3, o4, o5⟩, _⟩ := mo
  have rf := fun x y => zk_ref (zf := zf) (w := w) (k := k + 3) z ha x y
  have cn := ck_cnt (L := L) (xs := xs) (zf := zf) (w := w) (k := k + 2) e e1
  have g5 : dgR L xs h 5 [11] (some M') = some (some l) := fd_R (o := some l) o1 (by decide)
  have sz : (dcV L xs (dM L xs zf w (k + 4)) 101 [5] (some l) [] h).bind dxI = some (Int32.ofNat ps.length, h) := by
    rw [al_v o2, al_size o2]
    rfl
  rw [zk_v z, e199]
  show (b199_0 L xs zf (dM L xs zf w (k + 4)) w (some C) (some p) (some M') h).bind dxV = _
  refine bsq (a := (none, h)) ?_ rfl
  unfold b199_0
  refine bsq cn (bsq g5 (bsq sz ?_))
  dsimp only
  by_cases c : mx_f2 .eq (Int32.ofNat es.length) (Int32.ofNat ps.length) = true
  · refine itq c ?_
    have ll : es.length = ps.length := by
      have : Int32.ofNat es.length = Int32.ofNat ps.length := of_decide_eq_true c
      have := congrArg Int32.toInt this
      rw [of_int (by omega), of_int (by omega)] at this
      omega
    have lp : ∀ (m i N : Nat), i + m = es.length → m < N → b199_29 L xs zf (dM L xs zf w (k + 4)) w N (some C) (some p) (some M') (Int32.ofNat i) h = some (none, h) := by
      intro m
      induction m with
      | zero =>
        intro i N e1 hN
        obtain ⟨N, rfl⟩ : ∃ M, N = M + 1 := ⟨N - 1, by omega⟩
        rw [b199_29]
        refine bsq cn (itq ?_ rfl)
        show mx_f2 .ge (Int32.ofNat i) (Int32.ofNat es.length) = true
        rw [f2_ge, of_int (by omega), of_int (by omega)]
        simp
        omega
      | succ m ih =>
        intro i N e1' hN
        obtain ⟨N, rfl⟩ : ∃ M, N = M + 1 := ⟨N - 1, by omega⟩
        obtain ⟨e0, he0⟩ : ∃ d, es[i]? = some d := ⟨es[i]'(by omega), List.getElem?_eq_getElem (by omega)⟩
        obtain ⟨d, hd⟩ : ∃ d, ps[i]? = some d := ⟨ps[i]'(by omega), List.getElem?_eq_getElem (by omega)⟩
        obtain ⟨s2, t2, y1, y2⟩ := at' e0 (List.mem_of_getElem? he0)
        have d7 := o5 i d hd
        obtain ⟨fsd, d0, _⟩ := fd_c d7
        have pa := ck_part (L := L) (xs := xs) (zf := zf) (w := w) (k := k) e e1 he0 ⟨s2, y1⟩ (by omega)
        rw [b199_29]
        refine bsq cn (inq ?_ (bsq pa (bsq (fd_I y2 (by decide)) (bsq g5 (bsq (a := (some d, h)) (by rw [al_v o2, al_get o2 i hd]; rfl) (inq (by rw [ck_of d0]; decide) (bsq (fd_I d7 (by decide)) (bsq (zk_188 (k := k + 1) z ha y1 _ _) ?_))))))))
        · show ¬ mx_f2 .ge (Int32.ofNat i) (Int32.ofNat es.length) = true
          rw [f2_ge, of_int (by omega), of_int (by omega)]
          simp
          omega
        · rw [show Int32.ofNat i + 1 = Int32.ofNat (i + 1) from of_add i 1]
          exact ih (i + 1) N (by omega) (by omega)
    exact lp es.length 0 w (by omega) (by omega)
  · exact inq c (bsq (fd_I e3 (by decide)) (bsq (rf _ _) rfl))
/-- whether a Node is a place -/
def isP (x : Int32) : Int32 := if x = 3 ∨ x = 4 ∨ x = 10 then 1 else 0
theorem ck_isP {x : Int32} (e0 : fd h 12 p 0 = some (.int x)) : (dcV L xs (dM L xs zf w (k + 1)) 206 [12] (some p) [] h).bind dxI = some (isP x, h) := by
  rw [fd_v e0 (by decide), e206]
  show (b206_0 L xs zf (dM L xs zf w k) w (some p) h).bind dxI = _
  refine bsq (a := (some (.int (isP x)), h)) ?_ rfl
  have g : dgI L xs h 0 [12] (some p) = some x := fd_I e0 (by decide)
  unfold b206_0 isP
  refine bsq g ?_
  rw [f2_eqd]
  by_cases c3 : x = 3
  · rw [if_pos (decide_eq_true c3), if_pos (Or.inl c3)]
    rfl
  · rw [if_neg (fun z => c3 (of_decide_eq_true z))]
    refine bsq g ?_
    rw [f2_eqd]
    by_cases c4 : x = 4
    · rw [if_pos (decide_eq_true c4), if_pos (Or.inr (Or.inl c4))]
      rfl
    · rw [if_neg (fun z => c4 (of_decide_eq_true z))]
      refine bsq g ?_
      rw [f2_ne]
      by_cases c10 : x = 10
      · rw [if_neg (fun z => absurd c10 (of_decide_eq_true z)), if_pos (Or.inr (Or.inr c10))]
        rfl
      · rw [if_pos (decide_eq_true c10), if_neg (fun z => by rcases z with z | z | z; exact c3 z; exact c4 z; exact c10 z)]
        rfl
/-- whether a method can be called -/
theorem ck_205 {x so nb cp tk hm : Int32} {np pa M' : Nat} {pty : Nat → Int32} {res : Option Int32} (z : KZ L xs cx C Sc M pt vr mv ds f sl ty rc a b h u) (e0 : fd h 12 pa 0 = some (.int x)) (mo : mOk h M' so nb cp np pty res tk hm) (i : Int32) : ∃ r, (dcV L xs (dM L xs zf w (k + 2)) 205 [13] (some C) [va_rf (some M'), va_rf (some pa), .int i] h).bind dxI = some (r, h) := by
  obtain ⟨_, _, o3, _, _, _, o7⟩ := mo
  have ip := ck_isP (L := L) (xs := xs) (zf := zf) (w := w) (k := k) e0
  have g6 : dgI L xs h 6 [11] (some M') = some cp := fd_I o3 (by decide)
  have g13 : dgI L xs h 13 [11] (some M') = some hm := fd_I o7 (by decide)
  rw [zk_v z, e205]
  show ∃ r, (b205_0 L xs zf (dM L xs zf w (k + 1)) w (some M') (some pa) i h).bind dxI = some (r, h)
  have f81 : ∃ r, b205_81 L xs zf (dM L xs zf w (k + 1)) w (some M') i h = some (some (.int r), h) := by
    unfold b205_81
    rw [g6, Option.bind_some, show (dM L xs zf w (k + 1) 190 [va_rf (some 1), .int i, .int cp] h).bind dxI = _ from lk_tb (k := k) (q := 1) (by decide) i cp h, Option.bind_some]
    dsimp only
    split
    · exact ⟨0, rfl⟩
    · exact ⟨1, rfl⟩
  have f68 : ∃ r, b205_68 L xs zf (dM L xs zf w (k + 1)) w (some M') h = some (some (.int r), h) := by
    unfold b205_68
    rw [g13, Option.bind_some]
    split
    · exact ⟨0, rfl⟩
    · exact ⟨1, rfl⟩
  have f41 : ∃ r, b205_41 L xs zf (dM L xs zf w (k + 1)) w (some M') (some pa) i h = some (some (.int r), h) := by
    unfold b205_41
    rw [ip, Option.bind_some]
    dsimp only
    split
    · exact f81
    · split
      · exact f81
      · rw [g6, Option.bind_some]
        split
        · exact f68
        · rw [Option.bind_some]
          split
          · exact ⟨0, rfl⟩
          · exact f68
  have all : ∃ r, b205_0 L xs zf (dM L xs zf w (k + 1)) w (some M') (some pa) i h = some (some (.int r), h) := by
    unfold b205_0
    rw [ip, Option.bind_some]
    dsimp only
    split
    · exact f41
    · split
      · exact f41
      · rw [g6, Option.bind_some]
        split
        · exact ⟨1, rfl⟩
        · rw [Option.bind_some]
          split
          · exact ⟨0, rfl⟩
          · rw [g13, Option.bind_some]
            split
            · exact ⟨0, rfl⟩
            · exact ⟨1, rfl⟩
  obtain ⟨r, e⟩ := all
  exact ⟨r, by rw [e]; rfl⟩
end ZN
