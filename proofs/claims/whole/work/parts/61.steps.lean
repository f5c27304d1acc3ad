/-! STEPS OF RUNS, WRITTEN OUT: each lemma takes a state of the machine of the mind and the next one as they stand; what is closed is reckoned by the kernel. -/
def mx_R (L : Nat) (xs : Nat → Int32) (zf : Value) (M : rm_M) (pc : Nat) (lv : rm_L) (st : List Value) (h : rm_H) (c s f l : Nat) (post : Option Value → rm_H → Prop) : Prop := rm_Runs ah_P ah_gc 21 (ah_O L xs) (ah_Z zf) ah_TY ah_FT ah_DV ah_CA M pc lv st h c s f l post
/-- neither a call nor a return -/
def mx_pl (ins : Instr) : Bool := match ins with
  | .return_ => false
  | .ireturn => false
  | .lreturn => false
  | .areturn => false
  | .invokestatic _ => false
  | .invokespecial _ => false
  | .invokevirtual _ => false
  | .invokeinterface _ _ => false
  | _ => true
theorem mx_pl_ret {ins : Instr} (h : mx_pl ins = true) (ret : Option FieldType) (len : Nat) (st : List Value) : rm_ret ret ins len st = none := by
  unfold rm_ret
  split <;> first | rfl | cases h
theorem mx_pl_call {ins : Instr} (h : mx_pl ins = true) (P : List rm_M) (n0 : Nat) (O : Nat → Option rm_E) (len : Nat) (lk : List Nat) (st : List Value) (hp : rm_H) : rm_call P n0 O ins len lk st hp = none := by
  unfold rm_call
  split
  · split
    · split
      · split <;> first | rfl | cases h
      · rfl
    · rfl
  · rfl
theorem mx_pl_sD {ins : Instr} (h : mx_pl ins = true) {g : Nat → Bool} {n0 nL : Nat} {O : Nat → Option rm_E} {Z : Nat → Value} {TY : List FieldType} {FT : Nat → Nat → FieldType} {DV : Nat → List Value} {CA : Nat → Nat → Bool} {len pc : Nat} {lk : List Nat} {lv : rm_L} {st : List Value} {hp : rm_H} {k : Nat × rm_L × List Value × rm_H × Nat × Nat} (hk : rm_s g n0 O Z TY FT DV CA nL ins len lk pc lv st hp = some k) : rm_sD n0 O TY ins len lk st hp = none := by
  unfold rm_sD
  split
  · cases h
  · cases h
  · rename_i idx
    split
    · rename_i a r
      exfalso
      unfold rm_s at hk
      have hA : rm_sA g nL (.checkcast idx) len pc lv (.ref a :: r) = none := rfl
      have hB : rm_sB n0 O Z TY (.checkcast idx) len [77] pc lv (.ref a :: r) hp = none := by
        unfold rm_sB
        exact if_neg (fun z => z.2 rfl)
      have hC : rm_sC n0 O TY FT DV CA (.checkcast idx) len [77] pc lv (.ref a :: r) hp = none := rfl
      rw [hA] at hk
      dsimp only at hk
      rw [hB] at hk
      dsimp only at hk
      rw [hC] at hk
      cases hk
    · rfl
  · rfl
def mx_at (M : rm_M) (pc : Nat) (ins : Instr) (len : Nat) (lk : List Nat) : Bool := decide (rm_fnd M.2.2.2.2 pc = some (ins, len, lk)) && mx_pl ins
theorem mx_at_1 {M : rm_M} {pc : Nat} {ins : Instr} {len : Nat} {lk : List Nat} (h : mx_at M pc ins len lk = true) : rm_fnd M.2.2.2.2 pc = some (ins, len, lk) := of_decide_eq_true (Bool.and_eq_true_iff.mp h).1
theorem mx_at_2 {M : rm_M} {pc : Nat} {ins : Instr} {len : Nat} {lk : List Nat} (h : mx_at M pc ins len lk = true) : mx_pl ins = true := (Bool.and_eq_true_iff.mp h).2
/-- the old cells but the script, closed -/
def mx_O (a : Nat) : Option rm_E := match a with
  | 0 => none
  | a + 1 => ah_O 0 (fun _ => 0) (a + 1)
theorem mx_O_le (L : Nat) (xs : Nat → Int32) {a : Nat} {x : rm_E} (h : mx_O a = some x) : ah_O L xs a = some x := by
  rcases a with _|_|_|_|_|_|_|_|_|_|_|_|_|_|_|_|_|_|_|_|_|a
  all_goals first | exact h | cases h
theorem mx_look_le (L : Nat) (xs : Nat → Int32) {a : Nat} {x : rm_E} {h : rm_H} (hh : rm_look 21 mx_O h a = some x) : rm_look 21 (ah_O L xs) h a = some x := by
  unfold rm_look at hh ⊢
  split
  · rename_i e
    rw [if_pos e] at hh
    exact mx_O_le L xs hh
  · rename_i e
    rw [if_neg e] at hh
    exact hh
def mx_sB (ins : Instr) (len : Nat) (lk : List Nat) (pc : Nat) (lv : rm_L) (st : List Value) (h : rm_H) : Option (Nat × rm_L × List Value) := match ins with
  | .getstatic _ => (match lk with
    | [1] => none
    | _ => rm_sB 21 mx_O (ah_Z .null) ah_TY ins len lk pc lv st h)
  | _ => rm_sB 21 mx_O (ah_Z .null) ah_TY ins len lk pc lv st h
theorem mx_sB_le0 (L : Nat) (xs : Nat → Int32) (Z : Nat → Value) {ins : Instr} {len : Nat} {lk : List Nat} {pc : Nat} {lv : rm_L} {st : List Value} {h : rm_H} {r : Nat × rm_L × List Value} (hh : rm_sB 21 mx_O Z ah_TY ins len lk pc lv st h = some r) : rm_sB 21 (ah_O L xs) Z ah_TY ins len lk pc lv st h = some r := by
  unfold rm_sB at hh ⊢
  split at hh
  all_goals (try exact hh)
  all_goals (split at hh)
  all_goals (try (cases hh; done))
  all_goals (rename_i hl; rw [if_pos hl])
  all_goals (split at hh)
  all_goals (try (first | exact hh | (cases hh; done)))
  all_goals (split at hh)
  all_goals (try (first | exact hh | (cases hh; done)))
  all_goals (rename_i hq; simp only [mx_look_le L xs hq]; exact hh)
theorem mx_sB_le (L : Nat) (xs : Nat → Int32) (zf : Value) {ins : Instr} {len : Nat} {lk : List Nat} {pc : Nat} {lv : rm_L} {st : List Value} {h : rm_H} {r : Nat × rm_L × List Value} (hh : mx_sB ins len lk pc lv st h = some r) : rm_sB 21 (ah_O L xs) (ah_Z zf) ah_TY ins len lk pc lv st h = some r := by
  refine mx_sB_le0 L xs _ ?_
  unfold mx_sB at hh
  split at hh
  · split at hh
    · cases hh
    · rename_i hne
      unfold rm_sB at hh ⊢
      dsimp only at hh ⊢
      split at hh
      · rename_i hl
        rw [if_pos hl]
        split at hh
        · rename_i z
          cases hh
          rcases z with _|_|_|_|_|_|_|_|_|z
          all_goals first | rfl | exact absurd rfl hne
        · cases hh
      · cases hh
  · rename_i hne
    unfold rm_sB at hh ⊢
    split at hh
    all_goals (try exact hh)
    all_goals (exact absurd rfl (hne _))
/-- one step that neither calls, returns nor writes -/
def mx_st1 (M : rm_M) (pc : Nat) (lv : rm_L) (st : List Value) (h : rm_H) : Option (Nat × rm_L × List Value) := match rm_fnd M.2.2.2.2 pc with
  | none => none
  | some (ins, len, lk) => if mx_pl ins = true then (match rm_sA ah_gc M.2.2.1 ins len pc lv st with
    | some r => some r
    | none => mx_sB ins len lk pc lv st h) else none
def mx_go : Nat → rm_M → Nat → rm_L → List Value → rm_H → Option (Nat × rm_L × List Value)
  | 0, _, pc, lv, st, _ => some (pc, lv, st)
  | n + 1, M, pc, lv, st, h => match mx_st1 M pc lv st h with
    | some (pc1, lv1, st1) => mx_go n M pc1 lv1 st1 h
    | none => none
section MX
variable {L : Nat} {xs : Nat → Int32} {zf : Value} {M : rm_M} {pc : Nat} {lv : rm_L} {st : List Value} {h : rm_H} {c s f l : Nat} {post : Option Value → rm_H → Prop}
theorem mx_r0 {ins : Instr} {len : Nat} {lk : List Nat} {r : Nat × rm_L × List Value} (hi : rm_fnd M.2.2.2.2 pc = some (ins, len, lk)) (hp : mx_pl ins = true) (hk : rm_s ah_gc 21 (ah_O L xs) (ah_Z zf) ah_TY ah_FT ah_DV ah_CA M.2.2.1 ins len lk pc lv st h = some (r.1, r.2.1, r.2.2, h, 0, 0)) (hr : mx_R L xs zf M r.1 r.2.1 r.2.2 h c s f l post) : mx_R L xs zf M pc lv st h c s f l post :=
  rm_Runs.step (i := (ins, len, lk)) (k := (r.1, r.2.1, r.2.2, h, 0, 0)) hi (mx_pl_ret hp _ _ _) (mx_pl_call hp _ _ _ _ _ _ _) (mx_pl_sD hp hk) hk (Nat.zero_le _) (Nat.zero_le _) hr
theorem mx_B1 {r : Nat × rm_L × List Value} (hk : mx_st1 M pc lv st h = some r) (hr : mx_R L xs zf M r.1 r.2.1 r.2.2 h c s f l post) : mx_R L xs zf M pc lv st h c s f l post := by
  unfold mx_st1 at hk
  split at hk
  · cases hk
  · rename_i ins len lk hi
    split at hk
    · rename_i hp
      refine mx_r0 hi hp ?_ hr
      unfold rm_s
      split at hk
      · rename_i r1 h1
        cases hk
        rw [h1]
      · rename_i h1
        rw [h1]
        dsimp only
        rw [mx_sB_le L xs zf hk]
    · cases hk
/-- n such steps -/
theorem mx_B (n pc' : Nat) (lv' : rm_L) (st' : List Value) (hk : mx_go n M pc lv st h = some (pc', lv', st')) (hr : mx_R L xs zf M pc' lv' st' h c s f l post) : mx_R L xs zf M pc lv st h c s f l post := by
  induction n generalizing pc lv st with
  | zero =>
    unfold mx_go at hk
    cases hk
    exact hr
  | succ n ih =>
    unfold mx_go at hk
    split at hk
    · rename_i a b d h1
      exact mx_B1 h1 (ih hk)
    · cases hk
/-- the same, of a state that is not closed: the step's answer as it stands -/
def mx_AB (L : Nat) (xs : Nat → Int32) (zf : Value) (M : rm_M) (ins : Instr) (len : Nat) (lk : List Nat) (pc : Nat) (lv : rm_L) (st : List Value) (h : rm_H) : Option (Nat × rm_L × List Value) := match rm_sA ah_gc M.2.2.1 ins len pc lv st with
  | some r => some r
  | none => rm_sB 21 (ah_O L xs) (ah_Z zf) ah_TY ins len lk pc lv st h
theorem mx_S (ins : Instr) (len : Nat) (lk : List Nat) (pc' : Nat) (lv' : rm_L) (st' : List Value) (hi : mx_at M pc ins len lk = true) (hk : mx_AB L xs zf M ins len lk pc lv st h = some (pc', lv', st')) (hr : mx_R L xs zf M pc' lv' st' h c s f l post) : mx_R L xs zf M pc lv st h c s f l post := by
  refine mx_r0 (r := (pc', lv', st')) (mx_at_1 hi) (mx_at_2 hi) ?_ hr
  unfold mx_AB at hk
  unfold rm_s
  split at hk
  · rename_i r1 h1
    cases hk
    rw [h1]
  · rename_i h1
    rw [h1]
    dsimp only
    rw [hk]
/-- the top of the stack by an equation -/
theorem mx_eq {x : Int32} (y : Int32) (he : x = y) (hr : mx_R L xs zf M pc lv (.int y :: st) h c s f l post) : mx_R L xs zf M pc lv (.int x :: st) h c s f l post := by
  rw [he]
  exact hr
/-- the answer -/
def mx_rt (M : rm_M) (pc : Nat) (st : List Value) : Option (Option Value) := match rm_fnd M.2.2.2.2 pc with
  | none => none
  | some (ins, len, _) => rm_ret M.2.2.2.1 ins len st
theorem mx_ret (v : Option Value) (hk : mx_rt M pc st = some v) (hp : post v h) : mx_R L xs zf M pc lv st h c s f l post := by
  unfold mx_rt at hk
  split at hk
  · cases hk
  · rename_i ins len lk hi
    exact rm_Runs.ret (i := (ins, len, lk)) hi hk hp
/-- a jump on one int, on two: the condition -/
def mx_f1 (cnd : ClassFile.Cond) (x : Int32) : Bool := match cnd with
  | .eq => decide (x = 0)
  | .ne => decide (¬ x = 0)
  | .lt => decide (x < 0)
  | .ge => decide (0 ≤ x)
  | .gt => decide (0 < x)
  | .le => decide (x ≤ 0)
def mx_f2 (cnd : ClassFile.Cond) (x y : Int32) : Bool := match cnd with
  | .eq => decide (x = y)
  | .ne => decide (¬ x = y)
  | .lt => decide (x < y)
  | .ge => decide (y ≤ x)
  | .gt => decide (y < x)
  | .le => decide (x ≤ y)
def mx_to (pc : Nat) (off : Int) (b : Bool) (pc' : Nat) : Bool := decide (0 ≤ (pc : Int) + off) && decide ((if b = true then ((pc : Int) + off).toNat else pc + 3) = pc')
theorem mx_b1g {off : Int} {x : Int32} {b : Bool} {pc' : Nat} {q : Int32 → Bool} (hf : q x = b) (ht : mx_to pc off b pc' = true) : rm_b1 3 pc off lv (.int x :: st) q = some (pc', lv, st) := by
  obtain ⟨h1, h2⟩ := Bool.and_eq_true_iff.mp ht
  have h1 := of_decide_eq_true h1
  have h2 := of_decide_eq_true h2
  subst h2
  unfold rm_b1
  rw [if_pos ⟨rfl, h1⟩]
  cases b
  · exact if_neg (by rw [hf]; exact Bool.false_ne_true)
  · exact if_pos hf
theorem mx_b2g {off : Int} {x y : Int32} {b : Bool} {pc' : Nat} {q : Int32 → Int32 → Bool} (hf : q x y = b) (ht : mx_to pc off b pc' = true) : rm_b2 3 pc off lv (.int y :: .int x :: st) q = some (pc', lv, st) := by
  obtain ⟨h1, h2⟩ := Bool.and_eq_true_iff.mp ht
  have h1 := of_decide_eq_true h1
  have h2 := of_decide_eq_true h2
  subst h2
  unfold rm_b2
  rw [if_pos ⟨rfl, h1⟩]
  cases b
  · exact if_neg (by rw [hf]; exact Bool.false_ne_true)
  · exact if_pos hf
theorem mx_b1 {cnd : ClassFile.Cond} {off : Int} {x : Int32} {b : Bool} {pc' : Nat} (hf : mx_f1 cnd x = b) (ht : mx_to pc off b pc' = true) : rm_sA ah_gc M.2.2.1 (.ifCond cnd off) 3 pc lv (.int x :: st) = some (pc', lv, st) := by
  cases cnd <;> exact mx_b1g hf ht
theorem mx_b2 {cnd : ClassFile.Cond} {off : Int} {x y : Int32} {b : Bool} {pc' : Nat} (hf : mx_f2 cnd x y = b) (ht : mx_to pc off b pc' = true) : rm_sA ah_gc M.2.2.1 (.if_icmp cnd off) 3 pc lv (.int y :: .int x :: st) = some (pc', lv, st) := by
  cases cnd <;> exact mx_b2g hf ht
def mx_k1 (M : rm_M) (pc : Nat) (cnd : ClassFile.Cond) (off : Int) (b : Bool) (pc' : Nat) : Bool := mx_at M pc (.ifCond cnd off) 3 [] && mx_to pc off b pc'
def mx_k2 (M : rm_M) (pc : Nat) (cnd : ClassFile.Cond) (off : Int) (b : Bool) (pc' : Nat) : Bool := mx_at M pc (.if_icmp cnd off) 3 [] && mx_to pc off b pc'
theorem mx_1 (cnd : ClassFile.Cond) (off : Int) {x : Int32} (b : Bool) (pc' : Nat) (hf : mx_f1 cnd x = b) (hk : mx_k1 M pc cnd off b pc' = true) (hr : mx_R L xs zf M pc' lv st h c s f l post) : mx_R L xs zf M pc lv (.int x :: st) h c s f l post := by
  obtain ⟨h1, h2⟩ := Bool.and_eq_true_iff.mp hk
  refine mx_S _ _ _ pc' lv st h1 ?_ hr
  unfold mx_AB
  rw [mx_b1 hf h2]
theorem mx_2 (cnd : ClassFile.Cond) (off : Int) {x y : Int32} (b : Bool) (pc' : Nat) (hf : mx_f2 cnd x y = b) (hk : mx_k2 M pc cnd off b pc' = true) (hr : mx_R L xs zf M pc' lv st h c s f l post) : mx_R L xs zf M pc lv (.int y :: .int x :: st) h c s f l post := by
  obtain ⟨h1, h2⟩ := Bool.and_eq_true_iff.mp hk
  refine mx_S _ _ _ pc' lv st h1 ?_ hr
  unfold mx_AB
  rw [mx_b2 hf h2]
/-- a step that writes or makes -/
theorem mx_W {ins : Instr} {len : Nat} {lk : List Nat} {pc' : Nat} {st' : List Value} {h' : rm_H} {dc ds c' s' : Nat} (hi : mx_at M pc ins len lk = true) (hA : rm_sA ah_gc M.2.2.1 ins len pc lv st = none) (hB : rm_sB 21 (ah_O L xs) (ah_Z zf) ah_TY ins len lk pc lv st h = none) (hk : rm_sC 21 (ah_O L xs) ah_TY ah_FT ah_DV ah_CA ins len lk pc lv st h = some (pc', lv, st', h', dc, ds)) (hc : dc + c' = c) (hs : ds + s' = s) (hr : mx_R L xs zf M pc' lv st' h' c' s' f l post) : mx_R L xs zf M pc lv st h c s f l post := by
  have hz : rm_s ah_gc 21 (ah_O L xs) (ah_Z zf) ah_TY ah_FT ah_DV ah_CA M.2.2.1 ins len lk pc lv st h = some (pc', lv, st', h', dc, ds) := by
    unfold rm_s
    rw [hA, hB]
    exact hk
  refine rm_Runs.step (i := (ins, len, lk)) (k := (pc', lv, st', h', dc, ds)) (mx_at_1 hi) (mx_pl_ret (mx_at_2 hi) _ _ _) (mx_pl_call (mx_at_2 hi) _ _ _ _ _ _ _) (mx_pl_sD (mx_at_2 hi) hz) hz (by show dc ≤ c; omega) (by show ds ≤ s; omega) ?_
  · have e1 : c - dc = c' := by omega
    have e2 : s - ds = s' := by omega
    show rm_Runs _ _ _ _ _ _ _ _ _ M pc' lv st' h' (c - dc) (s - ds) f l post
    rw [e1, e2]
    exact hr
theorem mx_put {v : Value} (idx k : Nat) (cis : List Nat) (ci : Nat) (fs : List Value) (q pc' : Nat) (fs' : List Value) (h' : rm_H) {a : Nat} (hi : mx_at M pc (.putfield idx) 3 (k :: cis) = true) (hl : h[q]? = some (.inr (ci, fs))) (hf : (21 ≤ a ∧ a - 21 = q) ∧ (cis.contains ci = true ∧ rm_fit (ah_FT ci k) v = true ∧ k < fs.length) ∧ pc + 3 = pc') (hs : fs.set k v = fs') (hh : h.set q (.inr (ci, fs')) = h')
    (hr : mx_R L xs zf M pc' lv st h' c s f l post) : mx_R L xs zf M pc lv (v :: .ref a :: st) h c s f l post := by
  obtain ⟨⟨h1, h2⟩, h3, h4⟩ := hf
  subst h2 hs hh h4
  refine mx_W (c' := c) (s' := s) hi rfl rfl ?_ (Nat.zero_add _) (Nat.zero_add _) hr
  unfold rm_sC
  dsimp only
  rw [if_pos rfl, if_pos h1, hl]
  exact if_pos h3
theorem mx_new (idx ci : Nat) (fs : List Value) (a pc' : Nat) (h' : rm_H) (c' s' : Nat) (hi : mx_at M pc (.new idx) 3 [ci] = true) (hd : ah_DV ci = fs) (hf : 21 + h.length = a ∧ pc + 3 = pc' ∧ 1 + c' = c ∧ fs.length + s' = s) (hh : h ++ [.inr (ci, fs)] = h')
    (hr : mx_R L xs zf M pc' lv (.ref a :: st) h' c' s' f l post) : mx_R L xs zf M pc lv st h c s f l post := by
  obtain ⟨h1, h2, h3, h4⟩ := hf
  subst h1 h2 hd hh
  exact mx_W (c' := c') (s' := s') hi rfl rfl rfl h3 h4 hr
/-- arrays written place by place -/
def mx_s {α : Type} (d : α) : List (Nat × α) → Nat → α
  | [], _ => d
  | q :: r, j => if j = q.1 then q.2 else mx_s d r j
def mx_i {α : Type} (i : Nat) (x : α) : List (Nat × α) → List (Nat × α)
  | [] => [(i, x)]
  | q :: r => if i = q.1 then (i, x) :: r else q :: mx_i i x r
theorem mx_s_i {α : Type} (d : α) (i : Nat) (x : α) (r : List (Nat × α)) (j : Nat) : mx_s d (mx_i i x r) j = if j = i then x else mx_s d r j := by
  induction r with
  | nil => rfl
  | cons q r ih =>
    unfold mx_i
    split
    · rename_i e
      subst e
      show (if j = q.1 then x else mx_s d r j) = if j = q.1 then x else (if j = q.1 then q.2 else mx_s d r j)
      split <;> rfl
    · rename_i e
      show (if j = q.1 then q.2 else mx_s d (mx_i i x r) j) = if j = i then x else (if j = q.1 then q.2 else mx_s d r j)
      rw [ih]
      by_cases h1 : j = q.1
      · by_cases h2 : j = i
        · exact absurd (h2.symm.trans h1) e
        · rw [if_pos h1, if_neg h2, if_pos h1]
      · rw [if_neg h1, if_neg h1]
theorem mx_s_0 {α : Type} (d : α) : mx_s d [] = fun _ => d := rfl
theorem mx_s_u (i : Nat) (x : Int32) (r : List (Nat × Int32)) : upd (mx_s 0 r) i x = mx_s 0 (mx_i i x r) := funext fun j => (mx_s_i 0 i x r j).symm
theorem mx_s_l (i : Nat) (x : Int64) (r : List (Nat × Int64)) : vp_updL (mx_s 0 r) i x = mx_s 0 (mx_i i x r) := funext fun j => (mx_s_i 0 i x r j).symm
theorem mx_s_r (i : Nat) (x : Option Nat) (r : List (Nat × Option Nat)) : va_up (mx_s none r) i x = mx_s none (mx_i i x r) := funext fun j => (mx_s_i none i x r j).symm
theorem mx_nai (aty : ArrayType) (t n : Nat) {x : Int32} (a pc' : Nat) (h' : rm_H) (c' s' : Nat) (ha : aty = .int ∨ aty = .byte ∨ aty = .boolean) (hi : mx_at M pc (.newarray aty) 2 [t] = true) (hf : (ah_TY[t]? = some (newarray.typeOf aty) ∧ ¬ x < 0 ∧ x.toNatClampNeg * 8 ≤ 536870912) ∧ x.toNatClampNeg = n ∧ 21 + h.length = a ∧ pc + 2 = pc' ∧ 1 + c' = c ∧ n + s' = s) (hh : h ++ [.inl (t, n, .inl (mx_s 0 []))] = h')
    (hr : mx_R L xs zf M pc' lv (.ref a :: st) h' c' s' f l post) : mx_R L xs zf M pc lv (.int x :: st) h c s f l post := by
  obtain ⟨h0, h1, h2, h3, h4, h5⟩ := hf
  subst h1 h2 h3 hh
  refine mx_W (c' := c') (s' := s') hi rfl rfl ?_ h4 h5 hr
  unfold rm_sC
  dsimp only
  rw [if_pos rfl, if_pos h0]
  rcases ha with rfl | rfl | rfl <;> rfl
theorem mx_nal (t n : Nat) {x : Int32} (a pc' : Nat) (h' : rm_H) (c' s' : Nat) (hi : mx_at M pc (.newarray .long) 2 [t] = true) (hf : (ah_TY[t]? = some (newarray.typeOf .long) ∧ ¬ x < 0 ∧ x.toNatClampNeg * 8 ≤ 536870912) ∧ x.toNatClampNeg = n ∧ 21 + h.length = a ∧ pc + 2 = pc' ∧ 1 + c' = c ∧ n + s' = s) (hh : h ++ [.inl (t, n, .inr (.inl (mx_s 0 [])))] = h')
    (hr : mx_R L xs zf M pc' lv (.ref a :: st) h' c' s' f l post) : mx_R L xs zf M pc lv (.int x :: st) h c s f l post := by
  obtain ⟨h0, h1, h2, h3, h4, h5⟩ := hf
  subst h1 h2 h3 hh
  refine mx_W (c' := c') (s' := s') hi rfl rfl ?_ h4 h5 hr
  unfold rm_sC
  dsimp only
  rw [if_pos rfl, if_pos h0]
  rfl
theorem mx_naa (idx t n : Nat) {x : Int32} (a pc' : Nat) (h' : rm_H) (c' s' : Nat) (hi : mx_at M pc (.anewarray idx) 3 [t] = true) (hf : (¬ x < 0 ∧ x.toNatClampNeg * 4 ≤ 536870912) ∧ x.toNatClampNeg = n ∧ 21 + h.length = a ∧ pc + 3 = pc' ∧ 1 + c' = c ∧ n + s' = s) (hh : h ++ [.inl (t, n, .inr (.inr (.inr (.inr (mx_s none [])))))] = h')
    (hr : mx_R L xs zf M pc' lv (.ref a :: st) h' c' s' f l post) : mx_R L xs zf M pc lv (.int x :: st) h c s f l post := by
  obtain ⟨h0, h1, h2, h3, h4, h5⟩ := hf
  subst h1 h2 h3 hh
  refine mx_W (c' := c') (s' := s') hi rfl rfl ?_ h4 h5 hr
  unfold rm_sC
  dsimp only
  rw [if_pos rfl, if_pos h0]
  rfl
theorem mx_ist {x i : Int32} {a : Nat} (t n : Nat) (r r' : List (Nat × Int32)) (q pc' : Nat) (h' : rm_H) (hi : mx_at M pc .iastore 1 [] = true) (hl : h[q]? = some (.inl (t, n, .inl (mx_s 0 r)))) (hf : (21 ≤ a ∧ a - 21 = q) ∧ (ah_TY[t]? = some .int ∧ rm_in i n = true) ∧ pc + 1 = pc') (hs : mx_i i.toNatClampNeg x r = r') (hh : h.set q (.inl (t, n, .inl (mx_s 0 r'))) = h')
    (hr : mx_R L xs zf M pc' lv st h' c s f l post) : mx_R L xs zf M pc lv (.int x :: .int i :: .ref a :: st) h c s f l post := by
  obtain ⟨⟨h1, h2⟩, h3, h4⟩ := hf
  subst h2 hs hh h4
  refine mx_W (c' := c) (s' := s) hi rfl rfl ?_ (Nat.zero_add _) (Nat.zero_add _) hr
  unfold rm_sC
  dsimp only
  rw [if_pos rfl, if_pos h1, hl]
  dsimp only
  rw [if_pos h3, mx_s_u]
theorem mx_bst {x i : Int32} {a : Nat} (t n : Nat) (r r' : List (Nat × Int32)) (q pc' : Nat) (h' : rm_H) (hi : mx_at M pc .bastore 1 [] = true) (hl : h[q]? = some (.inl (t, n, .inl (mx_s 0 r)))) (hf : (21 ≤ a ∧ a - 21 = q) ∧ (ah_TY[t]? = some .byte ∧ rm_in i n = true) ∧ pc + 1 = pc') (hs : mx_i i.toNatClampNeg x.toInt8.toInt32 r = r') (hh : h.set q (.inl (t, n, .inl (mx_s 0 r'))) = h')
    (hr : mx_R L xs zf M pc' lv st h' c s f l post) : mx_R L xs zf M pc lv (.int x :: .int i :: .ref a :: st) h c s f l post := by
  obtain ⟨⟨h1, h2⟩, h3, h4⟩ := hf
  subst h2 hs hh h4
  refine mx_W (c' := c) (s' := s) hi rfl rfl ?_ (Nat.zero_add _) (Nat.zero_add _) hr
  unfold rm_sC
  dsimp only
  rw [if_pos rfl, if_pos h1, hl]
  dsimp only
  rw [if_pos h3, mx_s_u]
theorem mx_zst {x i : Int32} {a : Nat} (t n : Nat) (r r' : List (Nat × Int32)) (q pc' : Nat) (h' : rm_H) (hi : mx_at M pc .bastore 1 [] = true) (hl : h[q]? = some (.inl (t, n, .inl (mx_s 0 r)))) (hf : (21 ≤ a ∧ a - 21 = q) ∧ (ah_TY[t]? = some .boolean ∧ rm_in i n = true) ∧ pc + 1 = pc') (hs : mx_i i.toNatClampNeg (x &&& 1) r = r') (hh : h.set q (.inl (t, n, .inl (mx_s 0 r'))) = h')
    (hr : mx_R L xs zf M pc' lv st h' c s f l post) : mx_R L xs zf M pc lv (.int x :: .int i :: .ref a :: st) h c s f l post := by
  obtain ⟨⟨h1, h2⟩, h3, h4⟩ := hf
  subst h2 hs hh h4
  refine mx_W (c' := c) (s' := s) hi rfl rfl ?_ (Nat.zero_add _) (Nat.zero_add _) hr
  unfold rm_sC
  dsimp only
  rw [if_pos rfl, if_pos h1, hl]
  dsimp only
  rw [if_neg (fun z => by rw [h3.1] at z; cases z.1), if_pos h3, mx_s_u]
theorem mx_lst {x : Int64} {i : Int32} {a : Nat} (t n : Nat) (r r' : List (Nat × Int64)) (q pc' : Nat) (h' : rm_H) (hi : mx_at M pc .lastore 1 [] = true) (hl : h[q]? = some (.inl (t, n, .inr (.inl (mx_s 0 r))))) (hf : (21 ≤ a ∧ a - 21 = q) ∧ (ah_TY[t]? = some .long ∧ rm_in i n = true) ∧ pc + 1 = pc') (hs : mx_i i.toNatClampNeg x r = r') (hh : h.set q (.inl (t, n, .inr (.inl (mx_s 0 r')))) = h')
    (hr : mx_R L xs zf M pc' lv st h' c s f l post) : mx_R L xs zf M pc lv (.long x :: .int i :: .ref a :: st) h c s f l post := by
  obtain ⟨⟨h1, h2⟩, h3, h4⟩ := hf
  subst h2 hs hh h4
  refine mx_W (c' := c) (s' := s) hi rfl rfl ?_ (Nat.zero_add _) (Nat.zero_add _) hr
  unfold rm_sC
  dsimp only
  rw [if_pos rfl, if_pos h1, hl]
  dsimp only
  rw [if_pos h3, mx_s_l]
theorem mx_ast {b : Nat} {i : Int32} {a : Nat} (t n : Nat) (r r' : List (Nat × Option Nat)) (q ci : Nat) (fs : List Value) (pc' : Nat) (h' : rm_H) (hi : mx_at M pc .aastore 1 [] = true) (hl : h[q]? = some (.inl (t, n, .inr (.inr (.inr (.inr (mx_s none r))))))) (hb : h[b - 21]? = some (.inr (ci, fs))) (hf : (21 ≤ a ∧ a - 21 = q) ∧ (¬ b < 21) ∧ (ah_CA ci t = true ∧ rm_in i n = true) ∧ pc + 1 = pc') (hs : mx_i i.toNatClampNeg (some b) r = r') (hh : h.set q (.inl (t, n, .inr (.inr (.inr (.inr (mx_s none r')))))) = h')
    (hr : mx_R L xs zf M pc' lv st h' c s f l post) : mx_R L xs zf M pc lv (.ref b :: .int i :: .ref a :: st) h c s f l post := by
  obtain ⟨⟨h1, h2⟩, h0, h3, h4⟩ := hf
  subst h2 hs hh h4
  refine mx_W (c' := c) (s' := s) hi rfl rfl ?_ (Nat.zero_add _) (Nat.zero_add _) hr
  unfold rm_sC rm_look
  dsimp only
  rw [if_pos rfl, if_pos h1, hl, if_neg h0, hb]
  dsimp only
  rw [if_pos h3, mx_s_r]
/-- a call: its method's number, length, arguments, what is left -/
def mx_cl0 (ins : Instr) (len : Nat) (lk : List Nat) (st : List Value) (h : rm_H) : Option (Nat × Nat × List Value × List Value) := match lk with
  | mi :: kind :: n :: cis => if n ≤ st.length then (match ins with
      | .invokestatic _ => if len = 3 ∧ (kind = 0 ∨ kind = 1) then some (mi, len, (st.take n).reverse, st.drop n) else none
      | .invokespecial _ => (match st.drop n with
        | .ref b :: rest => if len = 3 ∧ (kind = 2 ∨ (kind = 4 ∧ rm_cis 21 mx_O h b cis = true)) then some (mi, len, .ref b :: (st.take n).reverse, rest) else none
        | _ => none)
      | .invokevirtual _ => (match st.drop n with
        | .ref b :: rest => if len = 3 ∧ (kind = 5 ∨ kind = 6 ∨ kind = 8 ∨ kind = 9) ∧ rm_cis 21 mx_O h b cis = true then some (mi, len, .ref b :: (st.take n).reverse, rest) else none
        | _ => none)
      | .invokeinterface _ _ => (match st.drop n with
        | .ref b :: rest => if len = 5 ∧ kind = 7 ∧ rm_cis 21 mx_O h b cis = true then some (mi, len, .ref b :: (st.take n).reverse, rest) else none
        | _ => none)
      | _ => none) else none
  | _ => none
def mx_cl (M : rm_M) (pc : Nat) (st : List Value) (h : rm_H) : Option (Nat × Nat × List Value × List Value) := match rm_fnd M.2.2.2.2 pc with
  | none => none
  | some (ins, len, lk) => mx_cl0 ins len lk st h
theorem mx_cis_le (L : Nat) (xs : Nat → Int32) {h : rm_H} {b : Nat} {cis : List Nat} (hh : rm_cis 21 mx_O h b cis = true) : rm_cis 21 (ah_O L xs) h b cis = true := by
  unfold rm_cis at hh ⊢
  split at hh
  · rename_i hq
    rw [mx_look_le L xs hq]
    exact hh
  · cases hh
theorem mx_cl_ok (L : Nat) (xs : Nat → Int32) {ins : Instr} {len mi n : Nat} {lk : List Nat} {st As rest : List Value} {h : rm_H} {M1 : rm_M} (hk : mx_cl0 ins len lk st h = some (mi, n, As, rest)) (hP : ah_P[mi]? = some M1) (ret : Option FieldType) : rm_ret ret ins len st = none ∧ rm_call ah_P 21 (ah_O L xs) ins len lk st h = some (M1, As, rest) ∧ len = n := by
  unfold mx_cl0 at hk
  unfold rm_call
  split at hk
  · split at hk
    · rename_i hn
      split at hk
      · split at hk
        · rename_i hc
          cases hk
          refine ⟨rfl, ?_, rfl⟩
          dsimp only
          rw [hP]
          dsimp only
          rw [if_pos hn, if_pos hc]
        · cases hk
      · split at hk
        · rename_i hd
          split at hk
          · rename_i hc
            cases hk
            refine ⟨rfl, ?_, rfl⟩
            dsimp only
            rw [hP]
            dsimp only
            rw [if_pos hn, hd]
            dsimp only
            rw [if_pos ⟨hc.1, hc.2.imp id (fun z => ⟨z.1, mx_cis_le L xs z.2⟩)⟩]
          · cases hk
        · cases hk
      · split at hk
        · rename_i hd
          split at hk
          · rename_i hc
            cases hk
            refine ⟨rfl, ?_, rfl⟩
            dsimp only
            rw [hP]
            dsimp only
            rw [if_pos hn, hd]
            dsimp only
            rw [if_pos ⟨hc.1, hc.2.1, mx_cis_le L xs hc.2.2⟩]
          · cases hk
        · cases hk
      · split at hk
        · rename_i hd
          split at hk
          · rename_i hc
            cases hk
            refine ⟨rfl, ?_, rfl⟩
            dsimp only
            rw [hP]
            dsimp only
            rw [if_pos hn, hd]
            dsimp only
            rw [if_pos ⟨hc.1, hc.2.1, mx_cis_le L xs hc.2.2⟩]
          · cases hk
        · cases hk
      · cases hk
    · cases hk
  · cases hk
theorem mx_call {M1 : rm_M} (mi n : Nat) (As rest : List Value) (lv1 : rm_L) (v : Option Value) (h1 : rm_H) (c1 s1 f1 l1 c2 s2 pc' : Nat) (st' : List Value) (hP : ah_P[mi]? = some M1) (hk : mx_cl M pc st h = some (mi, n, As, rest)) (hf : (c1 + c2 ≤ c ∧ s1 + s2 ≤ s ∧ f1 + 1 ≤ f ∧ 8 + (M1.2.2.1 + 11) + l1 ≤ l) ∧ lv_args 0 As = lv1 ∧ rm_ok8 M1 As rest = true ∧ pc + n = pc' ∧ v.toList ++ rest = st')
    (ha : mx_R L xs zf M1 0 lv1 [] h c1 s1 f1 l1 (fun u h' => u = v ∧ h' = h1)) (hr : mx_R L xs zf M pc' lv st' h1 c2 s2 f l post) : mx_R L xs zf M pc lv st h c s f l post := by
  obtain ⟨⟨hc, hs, hff, hl⟩, hlv, h8, hp, hst⟩ := hf
  subst hlv hp hst
  unfold mx_cl at hk
  split at hk
  · cases hk
  · rename_i ins len lk hi
    obtain ⟨e1, e2, e3⟩ := mx_cl_ok L xs hk hP M.2.2.2.1
    subst e3
    refine rm_Runs.call (i := (ins, len, lk)) (k := (M1, As, rest)) hi e1 e2 h8 ha hc hs hff hl ?_
    rintro u h' ⟨rfl, rfl⟩
    exact hr
/-- Object's constructor -/
def mx_ob (M : rm_M) (pc : Nat) (st : List Value) : Option (List Value) := match rm_fnd M.2.2.2.2 pc, st with
  | some (.invokespecial _, 3, [0]), .ref _ :: r => if (r.map fun v => v.category).sum ≤ 8 then some r else none
  | _, _ => none
theorem mx_obj (pc' : Nat) (st' : List Value) (hk : mx_ob M pc st = some st') (hf : (1 ≤ f ∧ 100 ≤ l) ∧ pc + 3 = pc') (hr : mx_R L xs zf M pc' lv st' h c s f l post) : mx_R L xs zf M pc lv st h c s f l post := by
  obtain ⟨⟨h1, h2⟩, h3⟩ := hf
  subst h3
  unfold mx_ob at hk
  split at hk
  · rename_i idx b r hi
    split at hk
    · rename_i hc
      cases hk
      refine rm_Runs.own (i := (.invokespecial idx, 3, [0])) (k := (st', h)) hi rfl rfl ?_ h1 h2 hr
      exact if_pos ⟨rfl, hc⟩
    · cases hk
  · cases hk
end MX
