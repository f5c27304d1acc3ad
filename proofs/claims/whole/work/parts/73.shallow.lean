/-! METHODS AS FUNCTIONS: what each kind of instruction does to a heap, as a function that may fail; and that the machine of the mind does it. The functions themselves are printed by wip/whole/gen_fun.py (parts 74 and on). -/
abbrev dR : Type := Option Value × rm_H
abbrev dD : Type := Nat → List Value → rm_H → Option dR
/-- from here the machine answers r, k frames deep at most -/
def dq (L : Nat) (xs : Nat → Int32) (zf : Value) (M : rm_M) (pc : Nat) (lv : rm_L) (st : List Value) (h : rm_H) (k : Nat) (r : dR) : Prop := ∃ c s : Nat, mx_R L xs zf M pc lv st h c s (k + 2) (60 * k + 100) (fun v h' => v = r.1 ∧ h' = r.2)
def dO (L : Nat) (xs : Nat → Int32) (zf : Value) (D : dD) (k : Nat) : Prop := ∀ (mi : Nat) (M : rm_M) (As : List Value) (h : rm_H) (r : dR), ah_P[mi]? = some M → D mi As h = some r → dq L xs zf M 0 (lv_args 0 As) [] h k r
def dvI (v : Value) : Option Int32 := match v with
  | .int x => some x
  | _ => none
def dvJ (v : Value) : Option Int64 := match v with
  | .long x => some x
  | _ => none
def dgF (L : Nat) (xs : Nat → Int32) (h : rm_H) (k : Nat) (cis : List Nat) (o : Option Nat) : Option Value := match o with
  | none => none
  | some a => (match rm_look 21 (ah_O L xs) h a with
    | some (.inr (ci, fs)) => if cis.contains ci = true then fs[k]? else none
    | _ => none)
def dgI (L : Nat) (xs : Nat → Int32) (h : rm_H) (k : Nat) (cis : List Nat) (o : Option Nat) : Option Int32 := (dgF L xs h k cis o).bind dvI
def dgJ (L : Nat) (xs : Nat → Int32) (h : rm_H) (k : Nat) (cis : List Nat) (o : Option Nat) : Option Int64 := (dgF L xs h k cis o).bind dvJ
def dgR (L : Nat) (xs : Nat → Int32) (h : rm_H) (k : Nat) (cis : List Nat) (o : Option Nat) : Option (Option Nat) := (dgF L xs h k cis o).bind rm_rf
def daN (L : Nat) (xs : Nat → Int32) (h : rm_H) (o : Option Nat) : Option Int32 := match o with
  | none => none
  | some a => (match rm_look 21 (ah_O L xs) h a with
    | some (.inl (t, x)) => if t < ah_TY.length then some (Int32.ofNat x.1) else none
    | _ => none)
def daI (L : Nat) (xs : Nat → Int32) (h : rm_H) (o : Option Nat) (i : Int32) : Option Int32 := match o with
  | none => none
  | some a => (match rm_look 21 (ah_O L xs) h a with
    | some (.inl (t, n, .inl f)) => if ah_TY[t]? = some .int ∧ rm_in i n = true then some (f i.toNatClampNeg) else none
    | _ => none)
def daB (L : Nat) (xs : Nat → Int32) (h : rm_H) (o : Option Nat) (i : Int32) : Option Int32 := match o with
  | none => none
  | some a => (match rm_look 21 (ah_O L xs) h a with
    | some (.inl (t, n, .inl f)) => if (ah_TY[t]? = some .byte ∨ ah_TY[t]? = some .boolean) ∧ rm_in i n = true then some (f i.toNatClampNeg) else none
    | _ => none)
def daJ (L : Nat) (xs : Nat → Int32) (h : rm_H) (o : Option Nat) (i : Int32) : Option Int64 := match o with
  | none => none
  | some a => (match rm_look 21 (ah_O L xs) h a with
    | some (.inl (t, n, .inr (.inl f))) => if ah_TY[t]? = some .long ∧ rm_in i n = true then some (f i.toNatClampNeg) else none
    | _ => none)
def daR (L : Nat) (xs : Nat → Int32) (h : rm_H) (o : Option Nat) (i : Int32) : Option (Option Nat) := match o with
  | none => none
  | some a => (match rm_look 21 (ah_O L xs) h a with
    | some (.inl (t, n, .inr (.inr (.inr (.inr f))))) => (match ah_TY[t]? with
      | some (.object _) => if rm_in i n = true then some (f i.toNatClampNeg) else none
      | _ => none)
    | _ => none)
def dpF (h : rm_H) (k : Nat) (cis : List Nat) (o : Option Nat) (v : Value) : Option rm_H := match o with
  | none => none
  | some a => if 21 ≤ a then (match h[a - 21]? with
    | some (.inr (ci, fs)) => if cis.contains ci = true ∧ rm_fit (ah_FT ci k) v = true ∧ k < fs.length then some (h.set (a - 21) (.inr (ci, fs.set k v))) else none
    | _ => none) else none
def dsI (h : rm_H) (o : Option Nat) (i x : Int32) : Option rm_H := match o with
  | none => none
  | some a => if 21 ≤ a then (match h[a - 21]? with
    | some (.inl (t, n, .inl f)) => if ah_TY[t]? = some .int ∧ rm_in i n = true then some (h.set (a - 21) (.inl (t, n, .inl (upd f i.toNatClampNeg x)))) else none
    | _ => none) else none
def dsB (h : rm_H) (o : Option Nat) (i x : Int32) : Option rm_H := match o with
  | none => none
  | some a => if 21 ≤ a then (match h[a - 21]? with
    | some (.inl (t, n, .inl f)) => if ah_TY[t]? = some .byte ∧ rm_in i n = true then some (h.set (a - 21) (.inl (t, n, .inl (upd f i.toNatClampNeg x.toInt8.toInt32))))
      else if ah_TY[t]? = some .boolean ∧ rm_in i n = true then some (h.set (a - 21) (.inl (t, n, .inl (upd f i.toNatClampNeg (x &&& 1))))) else none
    | _ => none) else none
def dsJ (h : rm_H) (o : Option Nat) (i : Int32) (x : Int64) : Option rm_H := match o with
  | none => none
  | some a => if 21 ≤ a then (match h[a - 21]? with
    | some (.inl (t, n, .inr (.inl f))) => if ah_TY[t]? = some .long ∧ rm_in i n = true then some (h.set (a - 21) (.inl (t, n, .inr (.inl (vp_updL f i.toNatClampNeg x))))) else none
    | _ => none) else none
def dsR (L : Nat) (xs : Nat → Int32) (h : rm_H) (o : Option Nat) (i : Int32) (p : Option Nat) : Option rm_H := match o, p with
  | some a, some b => if 21 ≤ a then (match h[a - 21]?, rm_look 21 (ah_O L xs) h b with
    | some (.inl (t, n, .inr (.inr (.inr (.inr f))))), some (.inr (ci, _)) => if ah_CA ci t = true ∧ rm_in i n = true then some (h.set (a - 21) (.inl (t, n, .inr (.inr (.inr (.inr (va_up f i.toNatClampNeg (some b)))))))) else none
    | _, _ => none) else none
  | _, _ => none
def dnI (t : Nat) (n : Int32) (h : rm_H) : Option rm_H := if ¬ n < 0 ∧ n.toNatClampNeg * 8 ≤ 536870912 then some (h ++ [.inl (t, n.toNatClampNeg, .inl (fun _ => 0))]) else none
def dnJ (t : Nat) (n : Int32) (h : rm_H) : Option rm_H := if ¬ n < 0 ∧ n.toNatClampNeg * 8 ≤ 536870912 then some (h ++ [.inl (t, n.toNatClampNeg, .inr (.inl (fun _ => 0)))]) else none
def dnR (t : Nat) (n : Int32) (h : rm_H) : Option rm_H := if ¬ n < 0 ∧ n.toNatClampNeg * 4 ≤ 536870912 then some (h ++ [.inl (t, n.toNatClampNeg, .inr (.inr (.inr (.inr (fun _ => none)))))]) else none
def dcK (L : Nat) (xs : Nat → Int32) (h : rm_H) (lk : List Nat) (o : Option Nat) : Bool := match o with
  | none => true
  | some a => rm_cis 21 (ah_O L xs) h a lk
def dcpy (h : rm_H) (o0 : Option Nat) (sp : Int32) (o : Option Nat) (dp n : Int32) : Option rm_H := match o0, o with
  | some a0, some a => if 21 ≤ a ∧ ¬ sp < 0 ∧ ¬ dp < 0 ∧ ¬ n < 0 then (match h[a - 21]?, h[a0 - 21]? with
      | some (.inl (t, m, .inl f)), some (.inl (t2, m2, .inl f2)) => if 21 ≤ a0 ∧ t = t2 ∧ (ah_TY[t]? = some .int ∨ (ah_TY[t]? = some .byte ∧ rm_fa f2 sp.toNatClampNeg n.toNatClampNeg = true)) ∧ sp.toNatClampNeg + n.toNatClampNeg ≤ m2 ∧ dp.toNatClampNeg + n.toNatClampNeg ≤ m then some (h.set (a - 21) (.inl (t, m, .inl (va_cpy f2 f sp.toNatClampNeg dp.toNatClampNeg n.toNatClampNeg)))) else none
      | _, _ => none) else none
  | _, _ => none
/-- a call on an object: the classes that it may be of -/
def dcV (L : Nat) (xs : Nat → Int32) (D : dD) (mi : Nat) (cis : List Nat) (o : Option Nat) (As : List Value) (h : rm_H) : Option dR := match o with
  | none => none
  | some b => if rm_cis 21 (ah_O L xs) h b cis = true then D mi (.ref b :: As) h else none
def dcN (D : dD) (mi : Nat) (o : Option Nat) (As : List Value) (h : rm_H) : Option dR := match o with
  | none => none
  | some b => D mi (.ref b :: As) h
def dxI (r : dR) : Option (Int32 × rm_H) := match r.1 with
  | some (.int x) => some (x, r.2)
  | _ => none
def dxJ (r : dR) : Option (Int64 × rm_H) := match r.1 with
  | some (.long x) => some (x, r.2)
  | _ => none
def dxR (r : dR) : Option (Option Nat × rm_H) := match r.1 with
  | some v => (rm_rf v).map (fun o => (o, r.2))
  | none => none
def dxV (r : dR) : Option rm_H := match r.1 with
  | none => some r.2
  | _ => none
def drI (ret : Option FieldType) (x : Int32) (h : rm_H) : Option dR := if rm_rt ret x = true then some (some (.int x), h) else none
def dsw (lo hi : Int) (x : Int32) : Bool := decide (x.toInt < lo ∨ hi < x.toInt)
theorem db {α β : Type} {x : Option α} {f : α → Option β} {r : β} (h : x.bind f = some r) : ∃ a, x = some a ∧ f a = some r := Option.bind_eq_some_iff.mp h
theorem di {α : Type} {b : Bool} {x y : Option α} {r : α} (h : (if b = true then x else y) = some r) : (b = true ∧ x = some r) ∨ (b = false ∧ y = some r) := by
  cases b
  · exact Or.inr ⟨rfl, h⟩
  · exact Or.inl ⟨rfl, h⟩
theorem dp {α : Type} {p : Prop} [Decidable p] {x y : Option α} {r : α} (h : (if p then x else y) = some r) : (p ∧ x = some r) ∨ (¬ p ∧ y = some r) := by
  by_cases q : p
  · rw [if_pos q] at h; exact Or.inl ⟨q, h⟩
  · rw [if_neg q] at h; exact Or.inr ⟨q, h⟩
theorem drf (o : Option Nat) : rm_rf (va_rf o) = some o := by cases o <;> rfl
theorem drc (o : Option Nat) : (va_rf o).category = 1 := by cases o <;> rfl
theorem dg_eq (lv : rm_L) (i : Nat) (v : Value) : rm_get (rm_set1 lv i v) i = some v := by
  unfold rm_set1
  rw [rm_get, if_pos rfl]
theorem dg_eq2 (lv : rm_L) (i : Nat) (v : Value) : rm_get (rm_set2 lv i v) i = some v := by
  unfold rm_set2
  rw [rm_get, if_pos rfl]
theorem dg_fil {p : Nat × Value → Bool} {j : Nat} {v : Value} (hp : p (j, v) = true) : ∀ {lv : rm_L}, rm_get lv j = some v → rm_get (lv.filter p) j = some v
  | [], h => by cases h
  | q :: r, h => by
    rw [rm_get] at h
    rw [List.filter_cons]
    split at h
    · rename_i e
      cases h
      rw [if_pos (by rw [← e] at hp; exact hp), rm_get, if_pos e]
    · rename_i e
      split
      · rw [rm_get, if_neg e]
        exact dg_fil hp h
      · exact dg_fil hp h
theorem dg_ne {lv : rm_L} {i j : Nat} {u v : Value} (hj : i ≠ j) (hc : j + 1 ≠ i ∨ v.category = 1) (h : rm_get lv j = some v) : rm_get (rm_set1 lv i u) j = some v := by
  unfold rm_set1
  rw [rm_get, if_neg hj]
  refine dg_fil ?_ h
  have e1 : (j == i) = false := beq_eq_false_iff_ne.mpr (fun z => hj z.symm)
  show (!(j == i) && !(j + 1 == i && v.category == 2)) = true
  rw [e1]
  rcases hc with hc | hc
  · rw [beq_eq_false_iff_ne.mpr hc]
    rfl
  · rw [hc]
    cases (j + 1 == i) <;> rfl
theorem dg_ne2 {lv : rm_L} {i j : Nat} {u v : Value} (hj : i ≠ j) (hj2 : j ≠ i + 1) (hc : j + 1 ≠ i ∨ v.category = 1) (h : rm_get lv j = some v) : rm_get (rm_set2 lv i u) j = some v := by
  unfold rm_set2
  rw [rm_get, if_neg hj]
  refine dg_fil ?_ h
  have e1 : (j == i) = false := beq_eq_false_iff_ne.mpr (fun z => hj z.symm)
  have e2 : (j == i + 1) = false := beq_eq_false_iff_ne.mpr hj2
  show (!(j == i) && (!(j == i + 1) && !(j + 1 == i && v.category == 2))) = true
  rw [e1, e2]
  rcases hc with hc | hc
  · rw [beq_eq_false_iff_ne.mpr hc]
    rfl
  · rw [hc]
    cases (j + 1 == i) <;> rfl
section DQ
variable {L : Nat} {xs : Nat → Int32} {zf : Value} {M : rm_M} {pc : Nat} {lv : rm_L} {st : List Value} {h : rm_H} {k : Nat} {r : dR}
theorem dq_S (ins : Instr) (len : Nat) (lk : List Nat) (pc' : Nat) (lv' : rm_L) (st' : List Value) (hi : mx_at M pc ins len lk = true) (hk : mx_AB L xs zf M ins len lk pc lv st h = some (pc', lv', st')) (hr : dq L xs zf M pc' lv' st' h k r) : dq L xs zf M pc lv st h k r := by
  obtain ⟨c, s, hr⟩ := hr
  exact ⟨c, s, mx_S ins len lk pc' lv' st' hi hk hr⟩
theorem dq_il (i pc' : Nat) {x : Int32} (hi : mx_at M pc (.iload i) 2 [] = true) (hp : pc + 2 = pc') (hg : rm_get lv i = some (.int x)) (hr : dq L xs zf M pc' lv (.int x :: st) h k r) : dq L xs zf M pc lv st h k r := by
  subst hp
  refine dq_S _ _ _ _ lv _ hi ?_ hr
  unfold mx_AB rm_sA
  dsimp only
  rw [if_pos rfl, hg]
theorem dq_iln (i : Fin 4) (pc' : Nat) {x : Int32} (hi : mx_at M pc (.iload_n i) 1 [] = true) (hp : pc + 1 = pc') (hg : rm_get lv (i : Nat) = some (.int x)) (hr : dq L xs zf M pc' lv (.int x :: st) h k r) : dq L xs zf M pc lv st h k r := by
  subst hp
  refine dq_S _ _ _ _ lv _ hi ?_ hr
  unfold mx_AB rm_sA
  dsimp only
  rw [if_pos rfl, hg]
theorem dq_ll (i pc' : Nat) {x : Int64} (hi : mx_at M pc (.lload i) 2 [] = true) (hp : pc + 2 = pc') (hg : rm_get lv i = some (.long x)) (hr : dq L xs zf M pc' lv (.long x :: st) h k r) : dq L xs zf M pc lv st h k r := by
  subst hp
  refine dq_S _ _ _ _ lv _ hi ?_ hr
  unfold mx_AB rm_sA
  dsimp only
  rw [if_pos rfl, hg]
theorem dq_lln (i : Fin 4) (pc' : Nat) {x : Int64} (hi : mx_at M pc (.lload_n i) 1 [] = true) (hp : pc + 1 = pc') (hg : rm_get lv (i : Nat) = some (.long x)) (hr : dq L xs zf M pc' lv (.long x :: st) h k r) : dq L xs zf M pc lv st h k r := by
  subst hp
  refine dq_S _ _ _ _ lv _ hi ?_ hr
  unfold mx_AB rm_sA
  dsimp only
  rw [if_pos rfl, hg]
theorem dq_al (i pc' : Nat) {o : Option Nat} (hi : mx_at M pc (.aload i) 2 [] = true) (hp : pc + 2 = pc') (hg : rm_get lv i = some (va_rf o)) (hr : dq L xs zf M pc' lv (va_rf o :: st) h k r) : dq L xs zf M pc lv st h k r := by
  subst hp
  refine dq_S _ _ _ _ lv _ hi ?_ hr
  unfold mx_AB rm_sA
  dsimp only
  rw [if_pos rfl, hg]
  cases o <;> rfl
theorem dq_aln (i : Fin 4) (pc' : Nat) {o : Option Nat} (hi : mx_at M pc (.aload_n i) 1 [] = true) (hp : pc + 1 = pc') (hg : rm_get lv (i : Nat) = some (va_rf o)) (hr : dq L xs zf M pc' lv (va_rf o :: st) h k r) : dq L xs zf M pc lv st h k r := by
  subst hp
  refine dq_S _ _ _ _ lv _ hi ?_ hr
  unfold mx_AB rm_sA
  dsimp only
  rw [if_pos rfl, hg]
  cases o <;> rfl
theorem dq_is (i pc' : Nat) {x : Int32} (hi : mx_at M pc (.istore i) 2 [] = true) (hp : pc + 2 = pc' ∧ i < M.2.2.1) (hr : dq L xs zf M pc' (rm_set1 lv i (.int x)) st h k r) : dq L xs zf M pc lv (.int x :: st) h k r := by
  obtain ⟨hp, hn⟩ := hp
  subst hp
  refine dq_S _ _ _ _ _ _ hi ?_ hr
  unfold mx_AB rm_sA
  dsimp only
  rw [if_pos rfl, if_pos hn]
theorem dq_isn (i : Fin 4) (pc' : Nat) {x : Int32} (hi : mx_at M pc (.istore_n i) 1 [] = true) (hp : pc + 1 = pc' ∧ (i : Nat) < M.2.2.1) (hr : dq L xs zf M pc' (rm_set1 lv (i : Nat) (.int x)) st h k r) : dq L xs zf M pc lv (.int x :: st) h k r := by
  obtain ⟨hp, hn⟩ := hp
  subst hp
  refine dq_S _ _ _ _ _ _ hi ?_ hr
  unfold mx_AB rm_sA
  dsimp only
  rw [if_pos rfl, if_pos hn]
theorem dq_ls (i pc' : Nat) {x : Int64} (hi : mx_at M pc (.lstore i) 2 [] = true) (hp : pc + 2 = pc' ∧ i + 1 < M.2.2.1) (hr : dq L xs zf M pc' (rm_set2 lv i (.long x)) st h k r) : dq L xs zf M pc lv (.long x :: st) h k r := by
  obtain ⟨hp, hn⟩ := hp
  subst hp
  refine dq_S _ _ _ _ _ _ hi ?_ hr
  unfold mx_AB rm_sA
  dsimp only
  rw [if_pos rfl, if_pos hn]
theorem dq_lsn (i : Fin 4) (pc' : Nat) {x : Int64} (hi : mx_at M pc (.lstore_n i) 1 [] = true) (hp : pc + 1 = pc' ∧ (i : Nat) + 1 < M.2.2.1) (hr : dq L xs zf M pc' (rm_set2 lv (i : Nat) (.long x)) st h k r) : dq L xs zf M pc lv (.long x :: st) h k r := by
  obtain ⟨hp, hn⟩ := hp
  subst hp
  refine dq_S _ _ _ _ _ _ hi ?_ hr
  unfold mx_AB rm_sA
  dsimp only
  rw [if_pos rfl, if_pos hn]
theorem dq_as (i pc' : Nat) {o : Option Nat} (hi : mx_at M pc (.astore i) 2 [] = true) (hp : pc + 2 = pc' ∧ i < M.2.2.1) (hr : dq L xs zf M pc' (rm_set1 lv i (va_rf o)) st h k r) : dq L xs zf M pc lv (va_rf o :: st) h k r := by
  obtain ⟨hp, hn⟩ := hp
  subst hp
  refine dq_S _ _ _ _ _ _ hi ?_ hr
  unfold mx_AB rm_sA
  cases o <;> dsimp only [va_rf] <;> rw [if_pos rfl, if_pos hn]
theorem dq_asn (i : Fin 4) (pc' : Nat) {o : Option Nat} (hi : mx_at M pc (.astore_n i) 1 [] = true) (hp : pc + 1 = pc' ∧ (i : Nat) < M.2.2.1) (hr : dq L xs zf M pc' (rm_set1 lv (i : Nat) (va_rf o)) st h k r) : dq L xs zf M pc lv (va_rf o :: st) h k r := by
  obtain ⟨hp, hn⟩ := hp
  subst hp
  refine dq_S _ _ _ _ _ _ hi ?_ hr
  unfold mx_AB rm_sA
  cases o <;> dsimp only [va_rf] <;> rw [if_pos rfl, if_pos hn]
theorem dq_inc (i : Nat) (n : Int) (pc' : Nat) {x : Int32} (hi : mx_at M pc (.iinc i n) 3 [] = true) (hp : pc + 3 = pc' ∧ i < M.2.2.1) (hg : rm_get lv i = some (.int x)) (hr : dq L xs zf M pc' (rm_set1 lv i (.int (x + Int32.ofInt n))) st h k r) : dq L xs zf M pc lv st h k r := by
  obtain ⟨hp, hn⟩ := hp
  subst hp
  refine dq_S _ _ _ _ _ _ hi ?_ hr
  unfold mx_AB rm_sA
  dsimp only
  rw [if_pos rfl, hg]
  dsimp only
  rw [if_pos hn]
theorem dq_dup (pc' : Nat) {o : Option Nat} (hi : mx_at M pc .dup 1 [] = true) (hp : pc + 1 = pc') (hr : dq L xs zf M pc' lv (va_rf o :: va_rf o :: st) h k r) : dq L xs zf M pc lv (va_rf o :: st) h k r := by
  subst hp
  refine dq_S _ _ _ _ lv _ hi ?_ hr
  unfold mx_AB rm_sA
  dsimp only
  rw [if_pos rfl, if_pos (drc o)]
theorem dq_pop (pc' : Nat) {o : Option Nat} (hi : mx_at M pc .pop 1 [] = true) (hp : pc + 1 = pc') (hr : dq L xs zf M pc' lv st h k r) : dq L xs zf M pc lv (va_rf o :: st) h k r := by
  subst hp
  refine dq_S _ _ _ _ lv _ hi ?_ hr
  unfold mx_AB rm_sA
  dsimp only
  rw [if_pos rfl, if_pos (drc o)]
theorem dq_dx1 (pc' : Nat) {o : Option Nat} {x : Int32} (hi : mx_at M pc .dup_x1 1 [] = true) (hp : pc + 1 = pc') (hr : dq L xs zf M pc' lv (.int x :: va_rf o :: .int x :: st) h k r) : dq L xs zf M pc lv (.int x :: va_rf o :: st) h k r := by
  subst hp
  refine dq_S _ _ _ _ lv _ hi ?_ hr
  unfold mx_AB rm_sA
  dsimp only
  rw [if_pos rfl, if_pos ⟨rfl, drc o⟩]
theorem dq_d2 (pc' : Nat) {o : Option Nat} {x : Int32} (hi : mx_at M pc .dup2 1 [] = true) (hp : pc + 1 = pc') (hr : dq L xs zf M pc' lv (.int x :: va_rf o :: .int x :: va_rf o :: st) h k r) : dq L xs zf M pc lv (.int x :: va_rf o :: st) h k r := by
  subst hp
  refine dq_S _ _ _ _ lv _ hi ?_ hr
  unfold mx_AB rm_sA
  dsimp only
  rw [if_pos rfl, if_pos ⟨rfl, drc o⟩]
theorem dq_1 (cnd : ClassFile.Cond) (off : Int) {x : Int32} (b : Bool) (pc' : Nat) (hf : mx_f1 cnd x = b) (hk : mx_k1 M pc cnd off b pc' = true) (hr : dq L xs zf M pc' lv st h k r) : dq L xs zf M pc lv (.int x :: st) h k r := by
  obtain ⟨c, s, hr⟩ := hr
  exact ⟨c, s, mx_1 cnd off b pc' hf hk hr⟩
theorem dq_2 (cnd : ClassFile.Cond) (off : Int) {x y : Int32} (b : Bool) (pc' : Nat) (hf : mx_f2 cnd x y = b) (hk : mx_k2 M pc cnd off b pc' = true) (hr : dq L xs zf M pc' lv st h k r) : dq L xs zf M pc lv (.int y :: .int x :: st) h k r := by
  obtain ⟨c, s, hr⟩ := hr
  exact ⟨c, s, mx_2 cnd off b pc' hf hk hr⟩
/-- is it none -/
def dnl (o : Option Nat) : Bool := match o with
  | none => true
  | some _ => false
theorem dq_null (off : Int) {o : Option Nat} (b : Bool) (pc' : Nat) (hf : dnl o = b) (hi : mx_at M pc (.ifnull off) 3 [] = true) (hk : mx_to pc off b pc' = true) (hr : dq L xs zf M pc' lv st h k r) : dq L xs zf M pc lv (va_rf o :: st) h k r := by
  obtain ⟨h1, h2⟩ := Bool.and_eq_true_iff.mp hk
  have h1 := of_decide_eq_true h1
  have h2 := of_decide_eq_true h2
  subst h2
  refine dq_S _ _ _ _ lv _ hi ?_ hr
  unfold mx_AB rm_sA
  dsimp only
  rw [if_pos ⟨rfl, h1⟩]
  cases o <;> subst hf <;> rfl
theorem dq_nnull (off : Int) {o : Option Nat} (b : Bool) (pc' : Nat) (hf : dnl o = !b) (hi : mx_at M pc (.ifnonnull off) 3 [] = true) (hk : mx_to pc off b pc' = true) (hr : dq L xs zf M pc' lv st h k r) : dq L xs zf M pc lv (va_rf o :: st) h k r := by
  obtain ⟨h1, h2⟩ := Bool.and_eq_true_iff.mp hk
  have h1 := of_decide_eq_true h1
  have h2 := of_decide_eq_true h2
  subst h2
  refine dq_S _ _ _ _ lv _ hi ?_ hr
  unfold mx_AB rm_sA
  dsimp only
  rw [if_pos ⟨rfl, h1⟩]
  cases o <;> cases b <;> first | rfl | cases hf
/-- are they one -/
def dsm (o p : Option Nat) : Bool := decide (o = p)
def dcm (o p : Option Nat) : Bool := rm_cm ah_gc o && rm_cm ah_gc p
end DQ
