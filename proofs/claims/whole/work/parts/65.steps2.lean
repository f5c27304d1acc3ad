/-! STEPS OF RUNS, 2: ints of which an interval is known; the script; switches. -/
def mx_dec (cnd : ClassFile.Cond) (lo hi k : Int) (b : Bool) : Bool := match cnd with
  | .lt => if b = true then decide (hi < k) else decide (k ≤ lo)
  | .ge => if b = true then decide (k ≤ lo) else decide (hi < k)
  | .gt => if b = true then decide (k < lo) else decide (hi ≤ k)
  | .le => if b = true then decide (hi ≤ k) else decide (k < lo)
  | .eq => if b = true then decide (lo = k ∧ hi = k) else decide (k < lo ∨ hi < k)
  | .ne => if b = true then decide (k < lo ∨ hi < k) else decide (lo = k ∧ hi = k)
theorem mx_lo (x : Int32) : -2147483648 ≤ x.toInt := Int32.le_toInt x
theorem mx_hi (x : Int32) : x.toInt ≤ 2147483647 := by
  have := Int32.toInt_lt x
  omega
theorem mx_cut (a j k : Int) (h : j + 1 = k) : a ≤ j ∨ k ≤ a := by omega
theorem mx_pt {x y : Int32} {lo hi : Int} (h1 : lo ≤ x.toInt) (h2 : x.toInt ≤ hi) (hk : lo = hi ∧ y.toInt = lo) : x = y := by
  apply Int32.toInt_inj.mp
  omega
theorem mx_v2 (cnd : ClassFile.Cond) {x y : Int32} (lo hi k : Int) {b : Bool} (h1 : lo ≤ x.toInt) (h2 : x.toInt ≤ hi) (hy : y.toInt = k) (hd : mx_dec cnd lo hi k b = true) : mx_f2 cnd x y = b := by
  have e : x = y ↔ x.toInt = k := by rw [← hy, Int32.toInt_inj]
  have e1 : x < y ↔ x.toInt < k := by rw [← hy, Int32.lt_iff_toInt_lt]
  have e2 : x ≤ y ↔ x.toInt ≤ k := by rw [← hy, Int32.le_iff_toInt_le]
  have e3 : y < x ↔ k < x.toInt := by rw [← hy, Int32.lt_iff_toInt_lt]
  have e4 : y ≤ x ↔ k ≤ x.toInt := by rw [← hy, Int32.le_iff_toInt_le]
  unfold mx_dec at hd
  unfold mx_f2
  cases cnd <;> cases b <;> simp only [Bool.false_eq_true, if_false, if_true, decide_eq_true_eq, decide_eq_false_iff_not, e, e1, e2, e3, e4] at hd ⊢ <;> omega
theorem mx_v1 (cnd : ClassFile.Cond) {x : Int32} (lo hi : Int) {b : Bool} (h1 : lo ≤ x.toInt) (h2 : x.toInt ≤ hi) (hd : mx_dec cnd lo hi 0 b = true) : mx_f1 cnd x = b := by
  have e := mx_v2 cnd (y := 0) lo hi 0 h1 h2 rfl hd
  cases cnd <;> exact e
theorem mx_v3 (cnd : ClassFile.Cond) {x y : Int32} (lo hi k : Int) {b : Bool} (h1 : lo ≤ y.toInt) (h2 : y.toInt ≤ hi) (hx : x.toInt = k) (hd : mx_dec (match cnd with | .lt => .gt | .gt => .lt | .le => .ge | .ge => .le | .eq => .eq | .ne => .ne) lo hi k b = true) : mx_f2 cnd x y = b := by
  have e := mx_v2 _ (y := x) lo hi k h1 h2 hx hd
  cases cnd
  all_goals first | exact e | (rw [← e]; unfold mx_f2; exact decide_eq_decide.mpr ⟨Eq.symm, Eq.symm⟩) | (rw [← e]; unfold mx_f2; exact decide_eq_decide.mpr ⟨fun h g => h g.symm, fun h g => h g.symm⟩)
theorem mx_swd {x : Int32} (lo hi a b : Int) (h1 : a ≤ x.toInt) (h2 : x.toInt ≤ b) (hd : decide (b < lo) || decide (hi < a)) : x.toInt < lo ∨ hi < x.toInt := by
  simp only [Bool.or_eq_true, decide_eq_true_eq] at hd
  omega
section MX3
variable {L : Nat} {xs : Nat → Int32} {zf : Value} {M : rm_M} {pc : Nat} {lv : rm_L} {st : List Value} {h : rm_H} {c s f l : Nat} {post : Option Value → rm_H → Prop}
theorem mx_sd {x : Int32} (df lo hi : Int) (offs : Array Int) (len pc' : Nat) (hi' : mx_at M pc (.tableswitch df lo hi offs) len [] = true) (hk : (0 ≤ (pc : Int) + df ∧ ((pc : Int) + df).toNat = pc')) (hx : x.toInt < lo ∨ hi < x.toInt) (hr : mx_R L xs zf M pc' lv st h c s f l post) : mx_R L xs zf M pc lv (.int x :: st) h c s f l post := by
  obtain ⟨h1, h2⟩ := hk
  subst h2
  refine mx_S _ _ _ _ lv st hi' ?_ hr
  unfold mx_AB rm_sA
  dsimp only
  rw [if_pos hx, if_pos h1]
/-- an int of the script -/
theorem mx_scr {i : Int32} (n j pc' : Nat) (hi : mx_at M pc .iaload 1 [] = true) (hf : pc + 1 = pc' ∧ i.toNatClampNeg = j) (hin : rm_in i n = true) (hr : mx_R n xs zf M pc' lv (.int (xs j) :: st) h c s f l post) : mx_R n xs zf M pc lv (.int i :: .ref 0 :: st) h c s f l post := by
  obtain ⟨h1, h2⟩ := hf
  subst h1 h2
  exact mx_ial (t := 0) (n := n) (g := xs) _ hi rfl ⟨rfl, rfl⟩ hin hr
end MX3
/-- arraycopy -/
theorem mx_acp {L : Nat} {xs : Nat → Int32} {zf : Value} {M : rm_M} {pc : Nat} {lv : rm_L} {st : List Value} {h : rm_H} {c s f l : Nat} {post : Option Value → rm_H → Prop} {n dp sp : Int32} {a a0 : Nat} (idx t m m2 q q0 : Nat) (g g2 g' : Nat → Int32) (pc' : Nat) (h' : rm_H) (hi : rm_fnd M.2.2.2.2 pc = some (.invokestatic idx, 3, [1])) (hl : h[q]? = some (.inl (t, m, .inl g))) (hl2 : h[q0]? = some (.inl (t, m2, .inl g2))) (hf : ((21 ≤ a ∧ a - 21 = q) ∧ (21 ≤ a0 ∧ a0 - 21 = q0)) ∧ (¬ sp < 0 ∧ ¬ dp < 0 ∧ ¬ n < 0) ∧ (sp.toNatClampNeg + n.toNatClampNeg ≤ m2 ∧ dp.toNatClampNeg + n.toNatClampNeg ≤ m) ∧ (1 ≤ f ∧ 100 ≤ l) ∧ pc + 3 = pc') (hst : (st.map fun v => v.category).sum ≤ 8) (ht : ah_TY[t]? = some .int ∨ (ah_TY[t]? = some .byte ∧ rm_fa g2 sp.toNatClampNeg n.toNatClampNeg = true)) (hg : va_cpy g2 g sp.toNatClampNeg dp.toNatClampNeg n.toNatClampNeg = g') (hh : h.set q (.inl (t, m, .inl g')) = h')
    (hr : mx_R L xs zf M pc' lv st h' c s f l post) : mx_R L xs zf M pc lv (.int n :: .int dp :: .ref a :: .int sp :: .ref a0 :: st) h c s f l post := by
  obtain ⟨⟨⟨h1, h2⟩, h3, h4⟩, ⟨h5, h6, h7⟩, ⟨h8, h9⟩, ⟨h10, h11⟩, h12⟩ := hf
  subst h2 h4 h12 hg hh
  refine rm_Runs.own (i := (.invokestatic idx, 3, [1])) (k := (st, _)) hi rfl rfl ?_ h10 h11 hr
  refine (if_pos ⟨rfl, hst, h1, h5, h6, h7⟩).trans ?_
  rw [hl, hl2]
  exact if_pos ⟨h3, rfl, ht, h8, h9⟩
theorem mx_cpy_0 (g2 g : Nat → Int32) (sp dp n : Nat) (hn : n = 0) : va_cpy g2 g sp dp n = g := by
  subst hn
  funext k
  unfold va_cpy
  rw [if_neg (by omega)]
theorem mx_s_out {r : List (Nat × Int32)} {n : Nat} (hr : r.all (fun q => Nat.blt q.1 n) = true) {k : Nat} (hk : n ≤ k) : mx_s 0 r k = 0 := by
  induction r with
  | nil => rfl
  | cons q r ih =>
    rw [List.all_cons, Bool.and_eq_true] at hr
    have h1 : q.1 < n := by
      exact Nat.le_of_ble_eq_true hr.1
    show (if k = q.1 then q.2 else mx_s 0 r k) = 0
    rw [if_neg (by omega)]
    exact ih hr.2
theorem mx_cpy_s (r : List (Nat × Int32)) (sp dp n : Nat) (h0 : sp = 0 ∧ dp = 0) (hr : r.all (fun q => Nat.blt q.1 n) = true) : va_cpy (mx_s 0 r) (mx_s 0 []) sp dp n = mx_s 0 r := by
  obtain ⟨rfl, rfl⟩ := h0
  funext k
  unfold va_cpy
  split
  · rw [Nat.zero_add, Nat.sub_zero]
  · rw [mx_s_out hr (by omega)]
    rfl
theorem mx_fa {r : List (Nat × Int32)} (hr : ∀ q ∈ r, fits .byte (.int q.2) = true) (sp n : Nat) : rm_fa (mx_s 0 r) sp n = true := by
  have e : ∀ k, fits .byte (.int (mx_s 0 r k)) = true := by
    intro k
    induction r with
    | nil => rfl
    | cons q r ih =>
      show fits .byte (.int (if k = q.1 then q.2 else mx_s 0 r k)) = true
      split
      · exact hr q List.mem_cons_self
      · exact ih (fun q h => hr q (List.mem_cons_of_mem _ h))
  unfold rm_fa
  rw [List.all_eq_true]
  intro i _
  exact e _
theorem mx_fbn : ∀ q ∈ ([] : List (Nat × Int32)), fits .byte (.int q.2) = true := fun _ h => by cases h
theorem mx_fb (k : Nat) (x : Int32) (r : List (Nat × Int32)) (hr : ∀ q ∈ r, fits .byte (.int q.2) = true) : ∀ q ∈ (k, x.toInt8.toInt32) :: r, fits .byte (.int q.2) = true := List.forall_mem_cons.mpr ⟨pk_fb x, hr⟩
section MX4
variable {L : Nat} {xs : Nat → Int32} {zf : Value} {M : rm_M} {pc : Nat} {lv : rm_L} {st : List Value} {h : rm_H} {c s f l : Nat} {post : Option Value → rm_H → Prop}
theorem mx_set_same {h : rm_H} {q : Nat} {x : rm_E} (hl : h[q]? = some x) : h.set q x = h := by
  apply List.ext_getElem?
  intro i
  by_cases e : q = i
  · subst e
    rw [List.getElem?_set_self (List.getElem?_eq_some_iff.mp hl).1, hl]
  · rw [List.getElem?_set_ne e]
theorem mx_same {α : Type} {d x : α} {r : List (Nat × α)} {i : Nat} (hv : mx_s d r i = x) : (fun j => if j = i then x else mx_s d r j) = mx_s d r := by
  funext j
  split
  · rename_i e
    rw [e, hv]
  · rfl
/-- what is written stands there already -/
theorem mx_ist0 {x i : Int32} {a : Nat} (t n : Nat) (r : List (Nat × Int32)) (q pc' : Nat) (hi : mx_at M pc .iastore 1 [] = true) (hl : h[q]? = some (.inl (t, n, .inl (mx_s 0 r)))) (hf : (21 ≤ a ∧ a - 21 = q) ∧ (ah_TY[t]? = some .int ∧ rm_in i n = true) ∧ pc + 1 = pc') (hs : mx_s 0 r i.toNatClampNeg = x)
    (hr : mx_R L xs zf M pc' lv st h c s f l post) : mx_R L xs zf M pc lv (.int x :: .int i :: .ref a :: st) h c s f l post := by
  obtain ⟨⟨h1, h2⟩, h3, h4⟩ := hf
  subst h2 h4
  refine mx_W (c' := c) (s' := s) hi rfl rfl ?_ (Nat.zero_add _) (Nat.zero_add _) hr
  unfold rm_sC
  dsimp only
  rw [if_pos rfl, if_pos h1, hl]
  dsimp only
  rw [if_pos h3, show upd (mx_s 0 r) i.toNatClampNeg x = mx_s 0 r from mx_same hs, mx_set_same hl]
theorem mx_zst0 {x i : Int32} {a : Nat} (t n : Nat) (r : List (Nat × Int32)) (q pc' : Nat) (hi : mx_at M pc .bastore 1 [] = true) (hl : h[q]? = some (.inl (t, n, .inl (mx_s 0 r)))) (hf : (21 ≤ a ∧ a - 21 = q) ∧ (ah_TY[t]? = some .boolean ∧ rm_in i n = true) ∧ pc + 1 = pc') (hs : mx_s 0 r i.toNatClampNeg = (x &&& 1))
    (hr : mx_R L xs zf M pc' lv st h c s f l post) : mx_R L xs zf M pc lv (.int x :: .int i :: .ref a :: st) h c s f l post := by
  obtain ⟨⟨h1, h2⟩, h3, h4⟩ := hf
  subst h2 h4
  refine mx_W (c' := c) (s' := s) hi rfl rfl ?_ (Nat.zero_add _) (Nat.zero_add _) hr
  unfold rm_sC
  dsimp only
  rw [if_pos rfl, if_pos h1, hl]
  dsimp only
  rw [if_neg (fun z => by rw [h3.1] at z; cases z.1), if_pos h3, show upd (mx_s 0 r) i.toNatClampNeg (x &&& 1) = mx_s 0 r from mx_same hs, mx_set_same hl]
theorem mx_lst0 {x : Int64} {i : Int32} {a : Nat} (t n : Nat) (r : List (Nat × Int64)) (q pc' : Nat) (hi : mx_at M pc .lastore 1 [] = true) (hl : h[q]? = some (.inl (t, n, .inr (.inl (mx_s 0 r))))) (hf : (21 ≤ a ∧ a - 21 = q) ∧ (ah_TY[t]? = some .long ∧ rm_in i n = true) ∧ pc + 1 = pc') (hs : mx_s 0 r i.toNatClampNeg = x)
    (hr : mx_R L xs zf M pc' lv st h c s f l post) : mx_R L xs zf M pc lv (.long x :: .int i :: .ref a :: st) h c s f l post := by
  obtain ⟨⟨h1, h2⟩, h3, h4⟩ := hf
  subst h2 h4
  refine mx_W (c' := c) (s' := s) hi rfl rfl ?_ (Nat.zero_add _) (Nat.zero_add _) hr
  unfold rm_sC
  dsimp only
  rw [if_pos rfl, if_pos h1, hl]
  dsimp only
  rw [if_pos h3, show vp_updL (mx_s 0 r) i.toNatClampNeg x = mx_s 0 r from mx_same hs, mx_set_same hl]
end MX4
theorem mx_ch (x : Int32) : mx_f2 .gt ((x &&& 255).toUInt32 % 65536).toInt32 255 = false := by
  have h5 : ((x &&& 255).toUInt32 % 65536).toNat ≤ 255 := by
    rw [show (x &&& 255).toUInt32 = x.toUInt32 &&& 255 from rfl, UInt32.toNat_mod, UInt32.toNat_and]
    exact Nat.le_trans (Nat.mod_le _ _) Nat.and_le_right
  have h6 : ((x &&& 255).toUInt32 % 65536).toInt32.toInt = (((x &&& 255).toUInt32 % 65536).toNat : Int) := by
    show (((x &&& 255).toUInt32 % 65536).toBitVec).toInt = _
    rw [BitVec.toInt_eq_toNat_of_lt]
    · rfl
    · show 2 * ((x &&& 255).toUInt32 % 65536).toNat < _
      omega
  exact mx_v2 .gt 0 255 255 (by omega) (by omega) rfl rfl
theorem mx_15 (x : Int32) : 0 ≤ (x &&& 15).toInt ∧ (x &&& 15).toInt ≤ 15 := by
  have h5 : (x &&& 15).toUInt32.toNat ≤ 15 := by
    rw [show (x &&& 15).toUInt32 = x.toUInt32 &&& 15 from rfl, UInt32.toNat_and]
    exact Nat.and_le_right
  have h6 : (x &&& 15).toInt = ((x &&& 15).toUInt32.toNat : Int) := by
    show ((x &&& 15).toUInt32.toBitVec).toInt = _
    rw [BitVec.toInt_eq_toNat_of_lt]
    · rfl
    · show 2 * (x &&& 15).toUInt32.toNat < _
      omega
  omega
/-- the law's end -/
theorem mx_end {L : Nat} {xs : Nat → Int32} {zf : Value} {M : rm_M} {pc : Nat} {lv : rm_L} {st : List Value} {h h1 : rm_H} {c s f l c2 s2 f2 l2 : Nat} {v0 : Value} (hr : mx_R L xs zf M pc lv st h c s f l (fun v h' => v = some v0 ∧ h' = h1)) (hb : c ≤ c2 ∧ s ≤ s2 ∧ f ≤ f2 ∧ l ≤ l2) : mx_R L xs zf M pc lv st h c2 s2 f2 l2 (fun v _ => v = some v0) :=
  rm_Runs.mono hr hb.1 hb.2.1 hb.2.2.1 hb.2.2.2 (fun _ _ z => z.1)
/-- a call of a state that is not closed -/
theorem mx_calls {L : Nat} {xs : Nat → Int32} {zf : Value} {M : rm_M} {pc : Nat} {lv : rm_L} {st : List Value} {h : rm_H} {c s f l : Nat} {post : Option Value → rm_H → Prop} {M1 : rm_M} (ins : Instr) (lk : List Nat) (mi n : Nat) (As rest : List Value) (lv1 : rm_L) (v : Option Value) (h1 : rm_H) (c1 s1 f1 l1 c2 s2 pc' : Nat) (st' : List Value) (hP : ah_P[mi]? = some M1) (hi : rm_fnd M.2.2.2.2 pc = some (ins, n, lk)) (hk : mx_cl0 ins n lk st h = some (mi, n, As, rest)) (hf : (c1 + c2 ≤ c ∧ s1 + s2 ≤ s ∧ f1 + 1 ≤ f ∧ 8 + (M1.2.2.1 + 11) + l1 ≤ l) ∧ lv_args 0 As = lv1 ∧ rm_ok8 M1 As rest = true ∧ pc + n = pc' ∧ v.toList ++ rest = st')
    (ha : mx_R L xs zf M1 0 lv1 [] h c1 s1 f1 l1 (fun u h' => u = v ∧ h' = h1)) (hr : mx_R L xs zf M pc' lv st' h1 c2 s2 f l post) : mx_R L xs zf M pc lv st h c s f l post := by
  refine mx_call mi n As rest lv1 v h1 c1 s1 f1 l1 c2 s2 pc' st' hP ?_ hf ha hr
  unfold mx_cl
  rw [hi]
  exact hk
/-- an answer of a state that is not closed -/
theorem mx_rets {L : Nat} {xs : Nat → Int32} {zf : Value} {M : rm_M} {pc : Nat} {lv : rm_L} {st : List Value} {h : rm_H} {c s f l : Nat} {post : Option Value → rm_H → Prop} (ins : Instr) (len : Nat) (lk : List Nat) (v : Option Value) (hi : rm_fnd M.2.2.2.2 pc = some (ins, len, lk)) (hk : rm_ret M.2.2.2.1 ins len st = some v) (hp : post v h) : mx_R L xs zf M pc lv st h c s f l post := by
  refine mx_ret v ?_ hp
  unfold mx_rt
  rw [hi]
  exact hk
