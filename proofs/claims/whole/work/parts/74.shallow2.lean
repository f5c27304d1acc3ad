/-! The same: reads, writes, makings, calls, answers. -/
section DQ2
variable {L : Nat} {xs : Nat → Int32} {zf : Value} {M : rm_M} {pc : Nat} {lv : rm_L} {st : List Value} {h : rm_H} {k : Nat} {r : dR}
theorem dq_acmp (cnd : ClassFile.ACond) (off : Int) {o p : Option Nat} (b : Bool) (pc' : Nat) (hc : dcm o p = true) (hf : (match cnd with | .eq => dsm o p | .ne => !(dsm o p)) = b) (hi : mx_at M pc (.if_acmp cnd off) 3 [] = true) (hk : mx_to pc off b pc' = true) (hr : dq L xs zf M pc' lv st h k r) : dq L xs zf M pc lv (va_rf p :: va_rf o :: st) h k r := by
  obtain ⟨h1, h2⟩ := Bool.and_eq_true_iff.mp hk
  have h1 := of_decide_eq_true h1
  have h2 := of_decide_eq_true h2
  have hc := Bool.and_eq_true_iff.mp hc
  subst h2
  refine dq_S _ _ _ _ lv _ hi ?_ hr
  have key : ∀ q : Option Nat → Option Nat → Bool, q o p = b → rm_b3 ah_gc 3 pc off lv (va_rf p :: va_rf o :: st) q = some ((if b = true then ((pc : Int) + off).toNat else pc + 3), lv, st) := by
    intro q hq
    unfold rm_b3
    rw [if_pos ⟨rfl, h1⟩]
    dsimp only
    rw [drf, drf]
    dsimp only
    rw [if_pos hc, hq]
    cases b <;> rfl
  unfold mx_AB rm_sA
  cases cnd
  · dsimp only
    rw [key _ hf]
  · dsimp only
    rw [key (fun x y => decide (¬ x = y)) (by rw [← hf]; show decide (¬ o = p) = !decide (o = p); rw [decide_not])]
theorem dq_sB (ins : Instr) (len : Nat) (lk : List Nat) (pc' : Nat) (st' : List Value) (hi : mx_at M pc ins len lk = true) (hA : rm_sA ah_gc M.2.2.1 ins len pc lv st = none) (hk : rm_sB 21 (ah_O L xs) (ah_Z zf) ah_TY ins len lk pc lv st h = some (pc', lv, st')) (hr : dq L xs zf M pc' lv st' h k r) : dq L xs zf M pc lv st h k r := by
  obtain ⟨c, s, hr⟩ := hr
  exact ⟨c, s, mx_Sb ins len lk pc' lv st' hi hA hk hr⟩
theorem dq_gF {v : Value} (idx j : Nat) (cis : List Nat) {o : Option Nat} (pc' : Nat) (hi : mx_at M pc (.getfield idx) 3 (j :: cis) = true) (hp : pc + 3 = pc') (hq : dgF L xs h j cis o = some v) (hr : dq L xs zf M pc' lv (v :: st) h k r) : dq L xs zf M pc lv (va_rf o :: st) h k r := by
  subst hp
  unfold dgF at hq
  split at hq
  · cases hq
  · rename_i a
    refine dq_sB _ _ _ _ _ hi rfl ?_ hr
    unfold rm_sB
    dsimp only [va_rf]
    rw [if_pos rfl]
    split at hq
    · rename_i ci fs hl
      rw [hl]
      dsimp only
      split at hq
      · rename_i hc
        rw [if_pos hc, hq]
      · cases hq
    · cases hq
theorem dq_gI {x : Int32} (idx j : Nat) (cis : List Nat) {o : Option Nat} (pc' : Nat) (hi : mx_at M pc (.getfield idx) 3 (j :: cis) = true) (hp : pc + 3 = pc') (hq : dgI L xs h j cis o = some x) (hr : dq L xs zf M pc' lv (.int x :: st) h k r) : dq L xs zf M pc lv (va_rf o :: st) h k r := by
  obtain ⟨v, h1, h2⟩ := db hq
  refine dq_gF idx j cis pc' hi hp h1 ?_
  cases v <;> cases h2
  exact hr
theorem dq_gR {p : Option Nat} (idx j : Nat) (cis : List Nat) {o : Option Nat} (pc' : Nat) (hi : mx_at M pc (.getfield idx) 3 (j :: cis) = true) (hp : pc + 3 = pc') (hq : dgR L xs h j cis o = some p) (hr : dq L xs zf M pc' lv (va_rf p :: st) h k r) : dq L xs zf M pc lv (va_rf o :: st) h k r := by
  obtain ⟨v, h1, h2⟩ := db hq
  refine dq_gF idx j cis pc' hi hp h1 ?_
  rw [rm_rf_v _ _ h2]
  exact hr
theorem dq_aN {x : Int32} {o : Option Nat} (pc' : Nat) (hi : mx_at M pc .arraylength 1 [] = true) (hp : pc + 1 = pc') (hq : daN L xs h o = some x) (hr : dq L xs zf M pc' lv (.int x :: st) h k r) : dq L xs zf M pc lv (va_rf o :: st) h k r := by
  subst hp
  unfold daN at hq
  split at hq
  · cases hq
  · refine dq_sB _ _ _ _ _ hi rfl ?_ hr
    unfold rm_sB
    dsimp only [va_rf]
    rw [if_pos rfl]
    split at hq
    · rename_i hl
      rw [hl]
      dsimp only
      split at hq
      · rename_i hc
        cases hq
        rw [if_pos hc]
      · cases hq
    · cases hq
theorem dq_aI {x i : Int32} {o : Option Nat} (pc' : Nat) (hi : mx_at M pc .iaload 1 [] = true) (hp : pc + 1 = pc') (hq : daI L xs h o i = some x) (hr : dq L xs zf M pc' lv (.int x :: st) h k r) : dq L xs zf M pc lv (.int i :: va_rf o :: st) h k r := by
  subst hp
  unfold daI at hq
  split at hq
  · cases hq
  · refine dq_sB _ _ _ _ _ hi rfl ?_ hr
    unfold rm_sB
    dsimp only [va_rf]
    rw [if_pos rfl]
    split at hq
    · rename_i hl
      rw [hl]
      dsimp only
      split at hq
      · rename_i hc
        cases hq
        rw [if_pos hc]
      · cases hq
    · cases hq
theorem dq_aB {x i : Int32} {o : Option Nat} (pc' : Nat) (hi : mx_at M pc .baload 1 [] = true) (hp : pc + 1 = pc') (hq : daB L xs h o i = some x) (hr : dq L xs zf M pc' lv (.int x :: st) h k r) : dq L xs zf M pc lv (.int i :: va_rf o :: st) h k r := by
  subst hp
  unfold daB at hq
  split at hq
  · cases hq
  · refine dq_sB _ _ _ _ _ hi rfl ?_ hr
    unfold rm_sB
    dsimp only [va_rf]
    rw [if_pos rfl]
    split at hq
    · rename_i hl
      rw [hl]
      dsimp only
      split at hq
      · rename_i hc
        cases hq
        rw [if_pos hc]
      · cases hq
    · cases hq
theorem dq_aJ {x : Int64} {i : Int32} {o : Option Nat} (pc' : Nat) (hi : mx_at M pc .laload 1 [] = true) (hp : pc + 1 = pc') (hq : daJ L xs h o i = some x) (hr : dq L xs zf M pc' lv (.long x :: st) h k r) : dq L xs zf M pc lv (.int i :: va_rf o :: st) h k r := by
  subst hp
  unfold daJ at hq
  split at hq
  · cases hq
  · refine dq_sB _ _ _ _ _ hi rfl ?_ hr
    unfold rm_sB
    dsimp only [va_rf]
    rw [if_pos rfl]
    split at hq
    · rename_i hl
      rw [hl]
      dsimp only
      split at hq
      · rename_i hc
        cases hq
        rw [if_pos hc]
      · cases hq
    · cases hq
theorem dq_aR {p : Option Nat} {i : Int32} {o : Option Nat} (pc' : Nat) (hi : mx_at M pc .aaload 1 [] = true) (hp : pc + 1 = pc') (hq : daR L xs h o i = some p) (hr : dq L xs zf M pc' lv (va_rf p :: st) h k r) : dq L xs zf M pc lv (.int i :: va_rf o :: st) h k r := by
  subst hp
  unfold daR at hq
  split at hq
  · cases hq
  · refine dq_sB _ _ _ _ _ hi rfl ?_ hr
    unfold rm_sB
    dsimp only [va_rf]
    rw [if_pos rfl]
    split at hq
    · rename_i hl
      rw [hl]
      dsimp only
      split at hq
      · rename_i ht
        rw [ht]
        dsimp only
        split at hq
        · rename_i hc
          cases hq
          rw [if_pos hc]
        · cases hq
      · cases hq
    · cases hq
theorem dq_cast (idx : Nat) (lk : List Nat) {o : Option Nat} (pc' : Nat) (hi : mx_at M pc (.checkcast idx) 3 lk = true) (hp : pc + 3 = pc' ∧ lk ≠ [77]) (hq : dcK L xs h lk o = true) (hr : dq L xs zf M pc' lv (va_rf o :: st) h k r) : dq L xs zf M pc lv (va_rf o :: st) h k r := by
  obtain ⟨hp, h77⟩ := hp
  subst hp
  refine dq_sB _ _ _ _ _ hi rfl ?_ hr
  unfold rm_sB
  dsimp only
  rw [if_pos ⟨rfl, h77⟩]
  cases o with
  | none => rfl
  | some a =>
    have hq : rm_cis 21 (ah_O L xs) h a lk = true := hq
    unfold rm_cis at hq
    dsimp only [va_rf]
    split at hq
    · rename_i hl
      rw [hl]
      exact if_pos hq
    · cases hq
theorem dq_inst (idx : Nat) (lk : List Nat) {o : Option Nat} (pc' : Nat) (hi : mx_at M pc (.instanceof idx) 3 lk = true) (hp : pc + 3 = pc') (hq : dcK L xs h lk o = true) (hr : dq L xs zf M pc' lv (.int (if dnl o = true then 0 else 1) :: st) h k r) : dq L xs zf M pc lv (va_rf o :: st) h k r := by
  subst hp
  refine dq_sB _ _ _ _ _ hi rfl ?_ hr
  unfold rm_sB
  dsimp only
  rw [if_pos rfl]
  cases o with
  | none => rfl
  | some a =>
    have hq : rm_cis 21 (ah_O L xs) h a lk = true := hq
    unfold rm_cis at hq
    dsimp only [va_rf]
    split at hq
    · rename_i hl
      rw [hl]
      exact if_pos hq
    · cases hq
theorem dq_W {ins : Instr} {len : Nat} {lk : List Nat} {pc' : Nat} {st' : List Value} {h' : rm_H} {dc ds : Nat} (hi : mx_at M pc ins len lk = true) (hA : rm_sA ah_gc M.2.2.1 ins len pc lv st = none) (hB : rm_sB 21 (ah_O L xs) (ah_Z zf) ah_TY ins len lk pc lv st h = none) (hk : rm_sC 21 (ah_O L xs) ah_TY ah_FT ah_DV ah_CA ins len lk pc lv st h = some (pc', lv, st', h', dc, ds)) (hr : dq L xs zf M pc' lv st' h' k r) : dq L xs zf M pc lv st h k r := by
  obtain ⟨c, s, hr⟩ := hr
  exact ⟨dc + c, ds + s, mx_W hi hA hB hk rfl rfl hr⟩
theorem dq_put {v : Value} (idx j : Nat) (cis : List Nat) {o : Option Nat} {h' : rm_H} (pc' : Nat) (hi : mx_at M pc (.putfield idx) 3 (j :: cis) = true) (hp : pc + 3 = pc') (hq : dpF h j cis o v = some h') (hr : dq L xs zf M pc' lv st h' k r) : dq L xs zf M pc lv (v :: va_rf o :: st) h k r := by
  subst hp
  unfold dpF at hq
  split at hq
  · cases hq
  · refine dq_W (dc := 0) (ds := 0) hi rfl rfl ?_ hr
    unfold rm_sC
    dsimp only [va_rf]
    rw [if_pos rfl]
    split at hq
    · rename_i ha
      rw [if_pos ha]
      split at hq
      · rename_i hl
        rw [hl]
        dsimp only
        split at hq
        · rename_i hc
          cases hq
          rw [if_pos hc]
        · cases hq
      · cases hq
    · cases hq
theorem dq_sI {x i : Int32} {o : Option Nat} {h' : rm_H} (pc' : Nat) (hi : mx_at M pc .iastore 1 [] = true) (hp : pc + 1 = pc') (hq : dsI h o i x = some h') (hr : dq L xs zf M pc' lv st h' k r) : dq L xs zf M pc lv (.int x :: .int i :: va_rf o :: st) h k r := by
  subst hp
  unfold dsI at hq
  split at hq
  · cases hq
  · refine dq_W (dc := 0) (ds := 0) hi rfl rfl ?_ hr
    unfold rm_sC
    dsimp only [va_rf]
    rw [if_pos rfl]
    split at hq
    · rename_i ha
      rw [if_pos ha]
      split at hq
      · rename_i hl
        rw [hl]
        dsimp only
        split at hq
        · rename_i hc
          cases hq
          rw [if_pos hc]
        · cases hq
      · cases hq
    · cases hq
theorem dq_sB1 {x i : Int32} {o : Option Nat} {h' : rm_H} (pc' : Nat) (hi : mx_at M pc .bastore 1 [] = true) (hp : pc + 1 = pc') (hq : dsB h o i x = some h') (hr : dq L xs zf M pc' lv st h' k r) : dq L xs zf M pc lv (.int x :: .int i :: va_rf o :: st) h k r := by
  subst hp
  unfold dsB at hq
  split at hq
  · cases hq
  · refine dq_W (dc := 0) (ds := 0) hi rfl rfl ?_ hr
    unfold rm_sC
    dsimp only [va_rf]
    rw [if_pos rfl]
    split at hq
    · rename_i ha
      rw [if_pos ha]
      split at hq
      · rename_i hl
        rw [hl]
        dsimp only
        split at hq
        · rename_i hc
          cases hq
          rw [if_pos hc]
        · rename_i hc
          rw [if_neg hc]
          split at hq
          · rename_i hd
            cases hq
            rw [if_pos hd]
          · cases hq
      · cases hq
    · cases hq
theorem dq_sJ {x : Int64} {i : Int32} {o : Option Nat} {h' : rm_H} (pc' : Nat) (hi : mx_at M pc .lastore 1 [] = true) (hp : pc + 1 = pc') (hq : dsJ h o i x = some h') (hr : dq L xs zf M pc' lv st h' k r) : dq L xs zf M pc lv (.long x :: .int i :: va_rf o :: st) h k r := by
  subst hp
  unfold dsJ at hq
  split at hq
  · cases hq
  · refine dq_W (dc := 0) (ds := 0) hi rfl rfl ?_ hr
    unfold rm_sC
    dsimp only [va_rf]
    rw [if_pos rfl]
    split at hq
    · rename_i ha
      rw [if_pos ha]
      split at hq
      · rename_i hl
        rw [hl]
        dsimp only
        split at hq
        · rename_i hc
          cases hq
          rw [if_pos hc]
        · cases hq
      · cases hq
    · cases hq
theorem dq_sR {p : Option Nat} {i : Int32} {o : Option Nat} {h' : rm_H} (pc' : Nat) (hi : mx_at M pc .aastore 1 [] = true) (hp : pc + 1 = pc') (hq : dsR L xs h o i p = some h') (hr : dq L xs zf M pc' lv st h' k r) : dq L xs zf M pc lv (va_rf p :: .int i :: va_rf o :: st) h k r := by
  subst hp
  unfold dsR at hq
  split at hq
  · refine dq_W (dc := 0) (ds := 0) hi rfl rfl ?_ hr
    unfold rm_sC
    dsimp only [va_rf]
    rw [if_pos rfl]
    split at hq
    · rename_i ha
      rw [if_pos ha]
      split at hq
      · rename_i hl hb
        rw [hl, hb]
        dsimp only
        split at hq
        · rename_i hc
          cases hq
          rw [if_pos hc]
        · cases hq
      · cases hq
    · cases hq
  · cases hq
theorem dq_new (idx ci pc' : Nat) (hi : mx_at M pc (.new idx) 3 [ci] = true) (hp : pc + 3 = pc') (hr : dq L xs zf M pc' lv (va_rf (some (21 + h.length)) :: st) (h ++ [.inr (ci, ah_DV ci)]) k r) : dq L xs zf M pc lv st h k r := by
  subst hp
  exact dq_W hi rfl rfl rfl hr
theorem dq_nI (aty : ArrayType) (t : Nat) {n : Int32} {h' : rm_H} (pc' : Nat) (ha : (aty = .int ∨ aty = .byte ∨ aty = .boolean) ∧ ah_TY[t]? = some (newarray.typeOf aty)) (hi : mx_at M pc (.newarray aty) 2 [t] = true) (hp : pc + 2 = pc') (hq : dnI t n h = some h') (hr : dq L xs zf M pc' lv (va_rf (some (21 + h.length)) :: st) h' k r) : dq L xs zf M pc lv (.int n :: st) h k r := by
  subst hp
  unfold dnI at hq
  split at hq
  · rename_i hc
    cases hq
    refine dq_W (dc := 1) (ds := n.toNatClampNeg) hi rfl rfl ?_ hr
    unfold rm_sC
    dsimp only
    rw [if_pos rfl, if_pos ⟨ha.2, hc.1, hc.2⟩]
    rcases ha.1 with e | e | e <;> subst e <;> rfl
  · cases hq
theorem dq_nJ (t : Nat) {n : Int32} {h' : rm_H} (pc' : Nat) (ha : ah_TY[t]? = some (newarray.typeOf .long)) (hi : mx_at M pc (.newarray .long) 2 [t] = true) (hp : pc + 2 = pc') (hq : dnJ t n h = some h') (hr : dq L xs zf M pc' lv (va_rf (some (21 + h.length)) :: st) h' k r) : dq L xs zf M pc lv (.int n :: st) h k r := by
  subst hp
  unfold dnJ at hq
  split at hq
  · rename_i hc
    cases hq
    refine dq_W (dc := 1) (ds := n.toNatClampNeg) hi rfl rfl ?_ hr
    unfold rm_sC
    dsimp only
    rw [if_pos rfl, if_pos ⟨ha, hc.1, hc.2⟩]
    rfl
  · cases hq
theorem dq_nR (idx t : Nat) {n : Int32} {h' : rm_H} (pc' : Nat) (hi : mx_at M pc (.anewarray idx) 3 [t] = true) (hp : pc + 3 = pc') (hq : dnR t n h = some h') (hr : dq L xs zf M pc' lv (va_rf (some (21 + h.length)) :: st) h' k r) : dq L xs zf M pc lv (.int n :: st) h k r := by
  subst hp
  unfold dnR at hq
  split at hq
  · rename_i hc
    cases hq
    refine dq_W (dc := 1) (ds := n.toNatClampNeg) hi rfl rfl ?_ hr
    unfold rm_sC
    dsimp only
    rw [if_pos rfl, if_pos hc]
    rfl
  · cases hq
/-- what is left on the stack is little enough -/
theorem dq_ok8 {M1 : rm_M} {As rest : List Value} (ca cr : List Nat) (hA : As.map (fun v => v.category) = ca) (hR : rest.map (fun v => v.category) = cr) (hk : ca.all (fun c => c == 1 || c == 2) = true ∧ ca.sum ≤ M1.2.2.1 ∧ cr.sum ≤ 8) : rm_ok8 M1 As rest = true := by
  unfold rm_ok8
  have key : ∀ (As : List Value), (As.map (fun v => v.category)).all (fun c => c == 1 || c == 2) = true → (lg_sl As).length = (As.map (fun v => v.category)).sum := by
    intro As
    induction As with
    | nil => intro _; rfl
    | cons v r ih =>
      intro hc
      rw [List.map_cons, List.all_cons, Bool.and_eq_true] at hc
      have e := ih hc.2
      unfold lg_sl at e ⊢
      rw [List.flatMap_cons, List.length_append, e, List.map_cons, List.sum_cons]
      rcases Bool.or_eq_true_iff.mp hc.1 with z | z
      · rw [if_neg (by rw [eq_of_beq z]; decide), eq_of_beq z]; rfl
      · rw [if_pos (eq_of_beq z), eq_of_beq z]; rfl
  rw [key As (by rw [hA]; exact hk.1), hA, hR, decide_eq_true hk.2.1, decide_eq_true hk.2.2]
  rfl
theorem dq_call {D : dD} (hD : dO L xs zf D k) (ins : Instr) (len mi : Nat) (lk : List Nat) {M1 : rm_M} {As rest : List Value} {a : dR} (pc' : Nat) (st' : List Value) (hi : rm_fnd M.2.2.2.2 pc = some (ins, len, lk)) (hP : ah_P[mi]? = some M1) (hk : rm_call ah_P 21 (ah_O L xs) ins len lk st h = some (M1, As, rest)) (h1 : rm_ret M.2.2.2.1 ins len st = none) (h8 : rm_ok8 M1 As rest = true) (hn : M1.2.2.1 ≤ 41) (hp : pc + len = pc') (hq : D mi As h = some a) (hs : a.1.toList ++ rest = st') (hr : dq L xs zf M pc' lv st' a.2 (k + 1) r) : dq L xs zf M pc lv st h (k + 1) r := by
  subst hp hs
  obtain ⟨c1, s1, ha⟩ := hD mi M1 As h a hP hq
  obtain ⟨c2, s2, hr⟩ := hr
  refine ⟨c1 + c2, s1 + s2, rm_Runs.call (i := (ins, len, lk)) (k := (M1, As, rest)) hi h1 hk h8 ha (Nat.le_refl _) (Nat.le_refl _) (by omega) (by show 8 + (M1.2.2.1 + 11) + (60 * k + 100) ≤ 60 * (k + 1) + 100; omega) ?_⟩
  rintro v h' ⟨rfl, rfl⟩
  exact hr
theorem dq_cst {D : dD} (hD : dO L xs zf D k) (idx mi kind n : Nat) {M1 : rm_M} (As rest : List Value) {v : Option Value} {h' : rm_H} (pc' : Nat) (st' : List Value) (hi : rm_fnd M.2.2.2.2 pc = some (.invokestatic idx, 3, [mi, kind, n])) (hP : ah_P[mi]? = some M1) (hk : (n ≤ st.length ∧ (kind = 0 ∨ kind = 1)) ∧ (st.take n).reverse = As ∧ st.drop n = rest) (h8 : rm_ok8 M1 As rest = true) (hn : M1.2.2.1 ≤ 41) (hp : pc + 3 = pc') (hq : D mi As h = some (v, h')) (hs : v.toList ++ rest = st') (hr : dq L xs zf M pc' lv st' h' (k + 1) r) : dq L xs zf M pc lv st h (k + 1) r := by
  obtain ⟨⟨g1, g2⟩, g3, g4⟩ := hk
  subst g3 g4
  refine dq_call hD _ _ mi _ pc' st' hi hP ?_ rfl h8 hn hp hq hs hr
  unfold rm_call
  dsimp only
  rw [hP]
  dsimp only
  rw [if_pos g1, if_pos ⟨rfl, g2⟩]
theorem dq_cvi {D : dD} (hD : dO L xs zf D k) (idx mi kind n : Nat) (cis : List Nat) {M1 : rm_M} (o : Option Nat) (As rest : List Value) {v : Option Value} {h' : rm_H} (pc' : Nat) (st' : List Value) (hi : rm_fnd M.2.2.2.2 pc = some (.invokevirtual idx, 3, mi :: kind :: n :: cis)) (hP : ah_P[mi]? = some M1) (hk : (n ≤ st.length ∧ (kind = 5 ∨ kind = 6 ∨ kind = 8 ∨ kind = 9)) ∧ (st.take n).reverse = As ∧ st.drop n = va_rf o :: rest) (h8 : rm_ok8 M1 (va_rf o :: As) rest = true) (hn : M1.2.2.1 ≤ 41) (hp : pc + 3 = pc') (hq : dcV L xs D mi cis o As h = some (v, h')) (hs : v.toList ++ rest = st') (hr : dq L xs zf M pc' lv st' h' (k + 1) r) : dq L xs zf M pc lv st h (k + 1) r := by
  obtain ⟨⟨g1, g2⟩, g3, g4⟩ := hk
  subst g3
  unfold dcV at hq
  split at hq
  · cases hq
  · rename_i b
    split at hq
    · rename_i hc
      refine dq_call hD _ _ mi _ pc' st' hi hP ?_ rfl h8 hn hp hq hs hr
      unfold rm_call
      dsimp only
      rw [hP]
      dsimp only
      rw [if_pos g1, g4]
      dsimp only [va_rf]
      rw [if_pos ⟨rfl, g2, hc⟩]
    · cases hq
theorem dq_cif {D : dD} (hD : dO L xs zf D k) (idx cnt mi kind n : Nat) (cis : List Nat) {M1 : rm_M} (o : Option Nat) (As rest : List Value) {v : Option Value} {h' : rm_H} (pc' : Nat) (st' : List Value) (hi : rm_fnd M.2.2.2.2 pc = some (.invokeinterface idx cnt, 5, mi :: kind :: n :: cis)) (hP : ah_P[mi]? = some M1) (hk : (n ≤ st.length ∧ kind = 7) ∧ (st.take n).reverse = As ∧ st.drop n = va_rf o :: rest) (h8 : rm_ok8 M1 (va_rf o :: As) rest = true) (hn : M1.2.2.1 ≤ 41) (hp : pc + 5 = pc') (hq : dcV L xs D mi cis o As h = some (v, h')) (hs : v.toList ++ rest = st') (hr : dq L xs zf M pc' lv st' h' (k + 1) r) : dq L xs zf M pc lv st h (k + 1) r := by
  obtain ⟨⟨g1, g2⟩, g3, g4⟩ := hk
  subst g3
  unfold dcV at hq
  split at hq
  · cases hq
  · rename_i b
    split at hq
    · rename_i hc
      refine dq_call hD _ _ mi _ pc' st' hi hP ?_ rfl h8 hn hp hq hs hr
      unfold rm_call
      dsimp only
      rw [hP]
      dsimp only
      rw [if_pos g1, g4]
      dsimp only [va_rf]
      rw [if_pos ⟨rfl, g2, hc⟩]
    · cases hq
theorem dq_csp {D : dD} (hD : dO L xs zf D k) (idx mi n : Nat) (cis : List Nat) {M1 : rm_M} (o : Option Nat) (As rest : List Value) {v : Option Value} {h' : rm_H} (pc' : Nat) (st' : List Value) (hi : rm_fnd M.2.2.2.2 pc = some (.invokespecial idx, 3, mi :: 2 :: n :: cis)) (hP : ah_P[mi]? = some M1) (hk : n ≤ st.length ∧ (st.take n).reverse = As ∧ st.drop n = va_rf o :: rest) (h8 : rm_ok8 M1 (va_rf o :: As) rest = true) (hn : M1.2.2.1 ≤ 41) (hp : pc + 3 = pc') (hq : dcN D mi o As h = some (v, h')) (hs : v.toList ++ rest = st') (hr : dq L xs zf M pc' lv st' h' (k + 1) r) : dq L xs zf M pc lv st h (k + 1) r := by
  obtain ⟨g1, g3, g4⟩ := hk
  subst g3
  unfold dcN at hq
  split at hq
  · cases hq
  · rename_i b
    refine dq_call hD _ _ mi _ pc' st' hi hP ?_ rfl h8 hn hp hq hs hr
    unfold rm_call
    dsimp only
    rw [hP]
    dsimp only
    rw [if_pos g1, g4]
    dsimp only [va_rf]
    rw [if_pos ⟨rfl, Or.inl rfl⟩]
theorem dq_csu {D : dD} (hD : dO L xs zf D k) (idx mi n : Nat) (cis : List Nat) {M1 : rm_M} (o : Option Nat) (As rest : List Value) {v : Option Value} {h' : rm_H} (pc' : Nat) (st' : List Value) (hi : rm_fnd M.2.2.2.2 pc = some (.invokespecial idx, 3, mi :: 4 :: n :: cis)) (hP : ah_P[mi]? = some M1) (hk : n ≤ st.length ∧ (st.take n).reverse = As ∧ st.drop n = va_rf o :: rest) (h8 : rm_ok8 M1 (va_rf o :: As) rest = true) (hn : M1.2.2.1 ≤ 41) (hp : pc + 3 = pc') (hq : dcV L xs D mi cis o As h = some (v, h')) (hs : v.toList ++ rest = st') (hr : dq L xs zf M pc' lv st' h' (k + 1) r) : dq L xs zf M pc lv st h (k + 1) r := by
  obtain ⟨g1, g3, g4⟩ := hk
  subst g3
  unfold dcV at hq
  split at hq
  · cases hq
  · rename_i b
    split at hq
    · rename_i hc
      refine dq_call hD _ _ mi _ pc' st' hi hP ?_ rfl h8 hn hp hq hs hr
      unfold rm_call
      dsimp only
      rw [hP]
      dsimp only
      rw [if_pos g1, g4]
      dsimp only [va_rf]
      rw [if_pos ⟨rfl, Or.inr ⟨rfl, hc⟩⟩]
    · cases hq
theorem dq_obj {o : Option Nat} (idx pc' : Nat) (hi : rm_fnd M.2.2.2.2 pc = some (.invokespecial idx, 3, [0])) (hR : (st.map fun v => v.category).sum ≤ 8) (hp : pc + 3 = pc') (hq : dnl o = false) (hr : dq L xs zf M pc' lv st h (k + 1) r) : dq L xs zf M pc lv (va_rf o :: st) h (k + 1) r := by
  subst hp
  cases o with
  | none => cases hq
  | some a =>
    obtain ⟨c, s, hr⟩ := hr
    refine ⟨c, s, rm_Runs.own (i := (.invokespecial idx, 3, [0])) (k := (st, h)) hi rfl rfl ?_ (by omega) (by omega) hr⟩
    exact if_pos ⟨rfl, hR⟩
theorem dq_acp {o o0 : Option Nat} {sp dp n : Int32} {h' : rm_H} (idx pc' : Nat) (hi : rm_fnd M.2.2.2.2 pc = some (.invokestatic idx, 3, [1])) (hR : (st.map fun v => v.category).sum ≤ 8) (hp : pc + 3 = pc') (hq : dcpy h o0 sp o dp n = some h') (hr : dq L xs zf M pc' lv st h' (k + 1) r) : dq L xs zf M pc lv (.int n :: .int dp :: va_rf o :: .int sp :: va_rf o0 :: st) h (k + 1) r := by
  subst hp
  unfold dcpy at hq
  split at hq
  · rename_i a0 a
    obtain ⟨c, s, hr⟩ := hr
    refine ⟨c, s, rm_Runs.own (i := (.invokestatic idx, 3, [1])) (k := (st, h')) hi rfl rfl ?_ (by omega) (by omega) hr⟩
    split at hq
    · rename_i hc
      refine (if_pos ⟨rfl, hR, hc⟩).trans ?_
      split at hq
      · rename_i h1 h2
        rw [h1, h2]
        dsimp only
        split at hq
        · rename_i hd
          cases hq
          rw [if_pos hd]
        · cases hq
      · cases hq
    · cases hq
  · cases hq
/-- a clone of an array of bytes; is it one -/
def dclo (h : rm_H) (o : Option Nat) : Option rm_H := match o with
  | some a => if 21 ≤ a then (match h[a - 21]? with
    | some (.inl (t, m, .inl f)) => if ah_TY[t]? = some .byte ∧ rm_fa f 0 m = true then some (h ++ [.inl (t, m, .inl f)]) else none
    | _ => none) else none
  | none => none
def dcB (h : rm_H) (o : Option Nat) : Bool := match o with
  | some a => if 21 ≤ a then (match h[a - 21]? with
    | some (.inl (t, _, .inl _)) => decide (ah_TY[t]? = some .byte)
    | _ => false) else false
  | none => false
theorem dq_clo {o : Option Nat} {h' : rm_H} (idx pc' : Nat) (hi : rm_fnd M.2.2.2.2 pc = some (.invokevirtual idx, 3, [3])) (hR : (st.map fun v => v.category).sum ≤ 8) (hp : pc + 3 = pc') (hq : dclo h o = some h') (hr : dq L xs zf M pc' lv (va_rf (some (21 + List.length h)) :: st) h' (k + 1) r) : dq L xs zf M pc lv (va_rf o :: st) h (k + 1) r := by
  subst hp
  unfold dclo at hq
  split at hq
  · rename_i a
    split at hq
    · rename_i hc
      split at hq
      · rename_i t m f hk
        split at hq
        · rename_i hc2
          cases hq
          obtain ⟨c, s, hr⟩ := hr
          refine ⟨c + 1, s + m, rm_Runs.cpy (i := (.invokevirtual idx, 3, [3])) (k := (.ref (21 + h.length) :: st, h ++ [.inl (t, m, .inl f)], m)) hi rfl rfl rfl rfl ?_ (by omega) (by show m ≤ s + m; omega) (by omega) (by omega) ?_⟩
          · show (if _ then _ else none) = _
            rw [if_pos ⟨rfl, hR, hc⟩]
            show (match h[a - 21]? with
              | some (.inl (t, m, .inl f)) => _
              | _ => none) = _
            rw [hk]
            exact if_pos hc2
          · rw [Nat.add_sub_cancel, Nat.add_sub_cancel]
            exact hr
        · cases hq
      · cases hq
    · cases hq
  · cases hq
theorem dq_castB {o : Option Nat} (idx pc' : Nat) (hi : rm_fnd M.2.2.2.2 pc = some (.checkcast idx, 3, [77])) (hp : pc + 3 = pc') (hq : dcB h o = true) (hr : dq L xs zf M pc' lv (va_rf o :: st) h (k + 1) r) : dq L xs zf M pc lv (va_rf o :: st) h (k + 1) r := by
  subst hp
  unfold dcB at hq
  split at hq
  · rename_i a
    obtain ⟨c, s, hr⟩ := hr
    refine ⟨c, s, rm_Runs.own (i := (.checkcast idx, 3, [77])) (k := (.ref a :: st, h)) hi rfl rfl ?_ (by omega) (by omega) hr⟩
    split at hq
    · rename_i hc
      refine (if_pos ⟨rfl, hc⟩).trans ?_
      split at hq
      · rename_i h1
        rw [h1]
        exact if_pos (of_decide_eq_true hq)
      · cases hq
    · cases hq
  · cases hq
theorem dq_ret0 (hi : rm_fnd M.2.2.2.2 pc = some (.return_, 1, [])) (hm : M.2.2.2.1 = none) : dq L xs zf M pc lv [] h k (none, h) := by
  refine ⟨0, 0, rm_Runs.ret (i := (.return_, 1, [])) (v := none) hi ?_ ⟨rfl, rfl⟩⟩
  unfold rm_ret
  dsimp only
  rw [if_pos rfl, hm]
theorem dq_retI {x : Int32} {q : dR} (ret : Option FieldType) (hi : rm_fnd M.2.2.2.2 pc = some (.ireturn, 1, [])) (hm : M.2.2.2.1 = ret) (hq : drI ret x h = some q) : dq L xs zf M pc lv [.int x] h k q := by
  subst hm
  unfold drI at hq
  split at hq
  · rename_i hc
    cases hq
    refine ⟨0, 0, rm_Runs.ret (i := (.ireturn, 1, [])) (v := some (.int x)) hi ?_ ⟨rfl, rfl⟩⟩
    unfold rm_ret
    dsimp only
    rw [if_pos rfl, if_pos hc]
  · cases hq
theorem dq_retJ {x : Int64} (hi : rm_fnd M.2.2.2.2 pc = some (.lreturn, 1, [])) (hm : M.2.2.2.1 = some .long) : dq L xs zf M pc lv [.long x] h k (some (.long x), h) := by
  refine ⟨0, 0, rm_Runs.ret (i := (.lreturn, 1, [])) (v := some (.long x)) hi ?_ ⟨rfl, rfl⟩⟩
  unfold rm_ret
  dsimp only
  rw [if_pos rfl, hm]
def dro (ret : Option FieldType) : Bool := match ret with
  | some (.object _) => true
  | some (.array _) => true
  | _ => false
theorem dq_retR {o : Option Nat} (hi : rm_fnd M.2.2.2.2 pc = some (.areturn, 1, [])) (hm : dro M.2.2.2.1 = true) : dq L xs zf M pc lv [va_rf o] h k (some (va_rf o), h) := by
  refine ⟨0, 0, rm_Runs.ret (i := (.areturn, 1, [])) (v := some (va_rf o)) hi ?_ ⟨rfl, rfl⟩⟩
  unfold rm_ret
  dsimp only
  rw [if_pos rfl]
  unfold dro at hm
  split at hm
  · rename_i e
    rw [e]
    cases o <;> rfl
  · rename_i e
    rw [e]
    cases o <;> rfl
  · cases hm
theorem dq_xI {a : dR} {x : Int32 × rm_H} (hq : dxI a = some x) : a = (some (.int x.1), x.2) := by
  unfold dxI at hq
  split at hq
  · rename_i e
    cases hq
    rw [← e]
  · cases hq
theorem dq_xJ {a : dR} {x : Int64 × rm_H} (hq : dxJ a = some x) : a = (some (.long x.1), x.2) := by
  unfold dxJ at hq
  split at hq
  · rename_i e
    cases hq
    rw [← e]
  · cases hq
theorem dq_xV {a : dR} {x : rm_H} (hq : dxV a = some x) : a = (none, x) := by
  unfold dxV at hq
  split at hq
  · rename_i e
    cases hq
    rw [← e]
  · cases hq
theorem dq_xR {a : dR} {x : Option Nat × rm_H} (hq : dxR a = some x) : a = (some (va_rf x.1), x.2) := by
  unfold dxR at hq
  split at hq
  · rename_i v e
    obtain ⟨o, h1, h2⟩ := Option.map_eq_some_iff.mp hq
    subst h2
    rw [← rm_rf_v _ _ h1, ← e]
  · cases hq
theorem dq_sd {x : Int32} (df lo hi : Int) (offs : Array Int) (len pc' : Nat) (hi' : mx_at M pc (.tableswitch df lo hi offs) len [] = true) (hk : 0 ≤ (pc : Int) + df ∧ ((pc : Int) + df).toNat = pc') (hx : dsw lo hi x = true) (hr : dq L xs zf M pc' lv st h k r) : dq L xs zf M pc lv (.int x :: st) h k r := by
  obtain ⟨c, s, hr⟩ := hr
  exact ⟨c, s, mx_sd df lo hi offs len pc' hi' hk (of_decide_eq_true hx) hr⟩
theorem dq_eq {x : Int32} (y : Int32) (he : x = y) (hr : dq L xs zf M pc lv (.int y :: st) h k r) : dq L xs zf M pc lv (.int x :: st) h k r := by
  rw [he]
  exact hr
theorem dq_incy (i : Nat) (n : Int) (y : Int32) (pc' : Nat) {x : Int32} (hi : mx_at M pc (.iinc i n) 3 [] = true) (hp : pc + 3 = pc' ∧ i < M.2.2.1 ∧ Int32.ofInt n = y) (hg : rm_get lv i = some (.int x)) (hr : dq L xs zf M pc' (rm_set1 lv i (.int (x + y))) st h k r) : dq L xs zf M pc lv st h k r := by
  obtain ⟨h1, h2, h3⟩ := hp
  subst h3
  exact dq_inc i n pc' hi ⟨h1, h2⟩ hg hr
theorem dq_div (pc' : Nat) {x y : Int32} (hy : ¬ y = 0) (hi : mx_at M pc .idiv 1 [] = true) (hp : pc + 1 = pc') (hr : dq L xs zf M pc' lv (.int (x / y) :: st) h k r) : dq L xs zf M pc lv (.int y :: .int x :: st) h k r := by
  subst hp
  refine dq_S _ _ _ _ lv _ hi ?_ hr
  unfold mx_AB rm_sA
  dsimp only
  rw [if_pos rfl, if_neg hy]
theorem dq_rem (pc' : Nat) {x y : Int32} (hy : ¬ y = 0) (hi : mx_at M pc .irem 1 [] = true) (hp : pc + 1 = pc') (hr : dq L xs zf M pc' lv (.int (x - x / y * y) :: st) h k r) : dq L xs zf M pc lv (.int y :: .int x :: st) h k r := by
  subst hp
  refine dq_S _ _ _ _ lv _ hi ?_ hr
  unfold mx_AB rm_sA
  dsimp only
  rw [if_pos rfl, if_neg hy]
theorem dq_divJ (pc' : Nat) {x y : Int64} (hy : ¬ y = 0) (hi : mx_at M pc .ldiv 1 [] = true) (hp : pc + 1 = pc') (hr : dq L xs zf M pc' lv (.long (x / y) :: st) h k r) : dq L xs zf M pc lv (.long y :: .long x :: st) h k r := by
  subst hp
  refine dq_S _ _ _ _ lv _ hi ?_ hr
  unfold mx_AB rm_sA
  dsimp only
  rw [if_pos rfl, if_neg hy]
theorem dq_remJ (pc' : Nat) {x y : Int64} (hy : ¬ y = 0) (hi : mx_at M pc .lrem 1 [] = true) (hp : pc + 1 = pc') (hr : dq L xs zf M pc' lv (.long (x - x / y * y) :: st) h k r) : dq L xs zf M pc lv (.long y :: .long x :: st) h k r := by
  subst hp
  refine dq_S _ _ _ _ lv _ hi ?_ hr
  unfold mx_AB rm_sA
  dsimp only
  rw [if_pos rfl, if_neg hy]
theorem dq_lkd {x : Int32} (df : Int) (ps : Array (Int × Int)) (len pc' : Nat) (hi : mx_at M pc (.lookupswitch df ps) len [] = true) (hk : (ps.toList.zip (ps.toList.drop 1)).all (fun (a, next) => a.1 < next.1) = true ∧ 0 ≤ (pc : Int) + df ∧ ((pc : Int) + df).toNat = pc') (hx : Op.lookupswitch.offset ps.toList df x.toInt = df) (hr : dq L xs zf M pc' lv st h k r) : dq L xs zf M pc lv (.int x :: st) h k r := by
  obtain ⟨h1, h2, h3⟩ := hk
  subst h3
  refine dq_S _ _ _ _ lv _ hi ?_ hr
  unfold mx_AB rm_sA
  dsimp only
  rw [hx, if_pos ⟨h1, h2⟩]
theorem dc_n : ([] : List Value).map (fun v => v.category) = [] := rfl
theorem dc_i {x : Int32} {l : List Value} {c : List Nat} (h : l.map (fun v => v.category) = c) : (Value.int x :: l).map (fun v => v.category) = 1 :: c := by rw [List.map_cons, h]; rfl
theorem dc_j {x : Int64} {l : List Value} {c : List Nat} (h : l.map (fun v => v.category) = c) : (Value.long x :: l).map (fun v => v.category) = 2 :: c := by rw [List.map_cons, h]; rfl
theorem dc_r {o : Option Nat} {l : List Value} {c : List Nat} (h : l.map (fun v => v.category) = c) : (va_rf o :: l).map (fun v => v.category) = 1 :: c := by rw [List.map_cons, h, drc]
theorem dc_v {v : Value} (hv : v.category = 1) {l : List Value} {c : List Nat} (h : l.map (fun v => v.category) = c) : (v :: l).map (fun v => v.category) = 1 :: c := by rw [List.map_cons, h, hv]
theorem dc_s {l : List Value} {c : List Nat} (h : l.map (fun v => v.category) = c) (hc : c.sum ≤ 8) : (l.map fun v => v.category).sum ≤ 8 := by rw [h]; exact hc
theorem la_i (k : Nat) (x : Int32) (l : List Value) : lv_args k (.int x :: l) = (k, .int x) :: lv_args (k + 1) l := rfl
theorem la_j (k : Nat) (x : Int64) (l : List Value) : lv_args k (.long x :: l) = (k, .long x) :: lv_args (k + 2) l := rfl
theorem la_r (k : Nat) (o : Option Nat) (l : List Value) : lv_args k (va_rf o :: l) = (k, va_rf o) :: lv_args (k + 1) l := by cases o <;> rfl
end DQ2
