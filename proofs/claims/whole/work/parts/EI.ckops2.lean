/-! THE CLASS'S CHECKER: names in scope; sorts, kinds and CAPs of types. -/
section KP
variable {L : Nat} {xs : Nat → Int32} {zf : Value} {w k C Sc M pl ph : Nat} {cx : Nat → Nat} {h h1 h2 : rm_H} {pt vr gn rc a b x y : Int32} {mv : Value} {ds : List Nat} {f : Nat → Int64} {sl ty : Nat → Int32} {u u1 u2 : Nat → Nat} {A B : Nat → Int32}
theorem aR_6 {a i : Nat} {g : Nat → Option Nat} (e : hc h a = some (scA g)) (hi : i < 16) : daR L xs h (some a) (Int32.ofNat i) = some (g i) := by
  unfold daR
  dsimp only
  rw [hc_look e]
  show (if rm_in (Int32.ofNat i) 16 = true then some (g (Int32.ofNat i).toNatClampNeg) else none) = _
  rw [if_pos (of_in hi (by decide)), of_clamp (by omega)]
theorem t_so (x : Int32) (h : rm_H) : (dM L xs zf w (k + 1) 159 [.int x] h).bind dxI = some (x &&& 15, h) := by
  rw [e159]
  rfl
theorem t_cp (x : Int32) (h : rm_H) : (dM L xs zf w (k + 1) 160 [.int x] h).bind dxI = some ((x >>> ((8 : Int32) &&& 31)) &&& 7, h) := by
  rw [e160]
  rfl
theorem t_kd (x : Int32) (h : rm_H) : (dM L xs zf w (k + 1) 189 [.int x] h).bind dxI = some ((x >>> ((4 : Int32) &&& 31)) &&& 15, h) := by
  rw [e189]
  rfl
theorem t_of (x y z : Int32) (h : rm_H) : (dM L xs zf w (k + 1) 153 [.int x, .int y, .int z] h).bind dxI = some (tO x y z, h) := by
  rw [e153]
  rfl
/-- a name is looked for in the scope -/
theorem ck_find {q : Nat} {c : Int64} (kh : KH L xs cx C Sc M pt vr mv h ds f sl ty gn rc a b u A B) (hq : nS L xs h q c) (hw : 200 ≤ w) : (dcV L xs (dM L xs zf w (k + 3)) 181 [13] (some C) [va_rf (some q)] h).bind dxI = some (kI (kF f c ds.length 0), h) := by
  obtain ⟨k1, k2, ⟨g, k3, k3'⟩, ⟨k4, _⟩, k5, _⟩ := id kh
  rw [ck_v kh, e181]
  show (b181_2 L xs zf (dM L xs zf w (k + 2)) w w (some C) (some q) (Int32.ofNat 0) h).bind dxI = _
  have lp : ∀ (m i N : Nat), i + m = ds.length → m < N → b181_2 L xs zf (dM L xs zf w (k + 2)) w N (some C) (some q) (Int32.ofNat i) h = some (some (.int (kI (kF f c m i))), h) := by
    intro m
    induction m with
    | zero =>
      intro i N e hN
      obtain ⟨N, rfl⟩ : ∃ M, N = M + 1 := ⟨N - 1, by omega⟩
      rw [b181_2]
      refine bse (ck_3 kh) (ift ?_ rfl)
      rw [f2_ge, of_int (by omega), of_int (by omega)]
      simp
      omega
    | succ m ih =>
      intro i N e hN
      obtain ⟨N, rfl⟩ : ∃ M, N = M + 1 := ⟨N - 1, by omega⟩
      obtain ⟨d, hd⟩ : ∃ d, ds[i]? = some d := ⟨ds[i]'(by omega), List.getElem?_eq_getElem (by omega)⟩
      obtain ⟨⟨nq, n1, n2⟩, _⟩ := k5 i d hd
      have gi : daR L xs h (some Sc) (Int32.ofNat i) = some (some d) := by rw [aR_6 k3 (by omega), k3' i (by omega), hd]
      have eq : (dcV L xs (dM L xs zf w (k + 2)) 151 [7, 16] (some nq) [va_rf (some q)] h).bind dxI = some ((if f i = c then 1 else 0 : Int32), h) := by
        obtain ⟨_, _, ⟨ci, a, fs', f', p1, p2, _⟩, _⟩ := id n2
        rw [dcV_lk p2 p1, show dM L xs zf w (k + 2) 151 (.ref nq :: [va_rf (some q)]) h = _ from se_of (k := k) n2 hq (by omega)]
        rfl
      rw [b181_2]
      refine bse (ck_3 kh) (ifn ?_ (bse (ck_1 kh) (bse gi (bse (fd_R (o := some nq) n1 (by decide)) (bse eq ?_)))))
      · rw [f2_ge, of_int (by omega), of_int (by omega)]
        simp
        omega
      · rw [kF]
        by_cases z : f i = c
        · rw [if_pos z, if_pos z]
          exact ifn (show ¬ mx_f1 .eq (1 : Int32) = true by decide) rfl
        · rw [if_neg z, if_neg z]
          refine ift (show mx_f1 .eq (0 : Int32) = true by decide) ?_
          rw [show Int32.ofNat i + 1 = Int32.ofNat (i + 1) from of_add i 1]
          exact ih (i + 1) N (by omega) (by omega)
  rw [lp ds.length 0 w (by omega) (by omega)]
  rfl
/-- the Decl at a place of the scope -/
theorem ck_at {i d : Nat} (kh : KH L xs cx C Sc M pt vr mv h ds f sl ty gn rc a b u A B) (hi : ds[i]? = some d) : daR L xs h (some Sc) (Int32.ofNat i) = some (some d) := by
  obtain ⟨k1, k2, ⟨g, k3, k3'⟩, ⟨k4, _⟩, _⟩ := kh
  have lt := (List.getElem?_eq_some_iff.mp hi).1
  rw [aR_6 k3 (by omega), k3' i lt, hi]
theorem ck_isg {d : Nat} {c : Int64} {s0 x0 : Int32} (kh : KH L xs cx C Sc M pt vr mv h ds f sl ty gn rc a b u A B) (e : dSn L xs h d c s0 x0) : (dcV L xs (dM L xs zf w (k + 1)) 182 [13] (some C) [va_rf (some d)] h).bind dxI = some ((if (gn >>> (s0 &&& 31)) &&& 1 = 0 then 0 else 1 : Int32), h) := by
  rw [ck_v kh, e182]
  show (b182_0 L xs zf (dM L xs zf w k) w (some C) (some d) h).bind dxI = _
  refine bsq (a := (some (.int (if (gn >>> (s0 &&& 31)) &&& 1 = 0 then 0 else 1 : Int32)), h)) ?_ rfl
  unfold b182_0
  refine bsq (ck_4 kh) (bsq (fd_I e.2.1 (by decide)) ?_)
  rw [f1_eqd]
  by_cases z : (gn >>> (s0 &&& 31)) &&& 1 = 0
  · rw [if_pos (decide_eq_true z), if_pos z]
    rfl
  · rw [if_neg (fun q => z (of_decide_eq_true q)), if_neg z]
    rfl
/-- what is usable from outside of a recover -/
def usO (x : Int32) : Int32 := if x &&& 15 = 5 then (if (x >>> ((8 : Int32) &&& 31)) &&& 7 = 3 then 1 else 0) else 1
theorem ck_use (kh : KH L xs cx C Sc M pt vr mv h ds f sl ty gn rc a b u A B) (x : Int32) : (dcV L xs (dM L xs zf w (k + 2)) 183 [13] (some C) [.int x] h).bind dxI = some (usO x, h) := by
  rw [ck_v kh, e183]
  show (b183_0 L xs zf (dM L xs zf w (k + 1)) w x h).bind dxI = _
  refine bsq (a := (some (.int (usO x)), h)) ?_ rfl
  unfold b183_0 usO
  refine bsq (t_so x h) ?_
  dsimp only
  rw [f2_ne]
  by_cases z : x &&& 15 = 5
  · rw [if_neg (fun q => absurd z (of_decide_eq_true q)), if_pos z]
    refine bsq (t_cp x h) ?_
    dsimp only
    rw [f2_ne]
    by_cases z2 : (x >>> ((8 : Int32) &&& 31)) &&& 7 = 3
    · rw [if_neg (fun q => absurd z2 (of_decide_eq_true q)), if_pos z2]
      rfl
    · rw [if_pos (decide_eq_true z2), if_neg z2]
      rfl
  · rw [if_pos (decide_eq_true z), if_neg z]
    rfl
def pu {α : Type} (g : Nat → α) (i : Nat) (v : α) : Nat → α := fun j => if j = i then v else g j
/-- a Decl comes to be seen -/
theorem ck_seen {d : Nat} {c : Int64} {s0 x0 : Int32} (kh : KH L xs cx C Sc M pt vr mv h ds f sl ty gn rc a b u A B) (e : dSn L xs h d c s0 x0) : ∃ h', (dcV L xs (dM L xs zf w (k + 1)) 165 [13] (some C) [va_rf (some d)] h).bind dxV = some h' ∧ wF cx C Sc pl ph u h h' ∧ wK2 u u h h' ∧ ((ds.length < 16 ∧ KH L xs cx C Sc M pt vr mv h' (ds ++ [d]) (pu f ds.length c) (pu sl ds.length s0) (pu ty ds.length x0) gn rc a b u A B) ∨ (ds.length = 16 ∧ KH L xs cx C Sc M pt vr mv h' ds f sl ty gn rc a b u A B)) := by
  obtain ⟨k1, k2, ⟨g, k3, k3'⟩, ⟨k4, k4b⟩, k5, ⟨k6, k7, k8, k9, k10⟩, k11, k12, k13, k14⟩ := id kh
  have wrap : ∀ h', b165_0 L xs zf (dM L xs zf w k) w (some C) (some d) h = some (none, h') → (dcV L xs (dM L xs zf w (k + 1)) 165 [13] (some C) [va_rf (some d)] h).bind dxV = some h' := by
    intro h' e
    rw [ck_v kh, e165]
    show (b165_0 L xs zf (dM L xs zf w k) w (some C) (some d) h).bind dxV = _
    rw [e]
    rfl
  have aN : daN L xs h (some Sc) = some 16 := hc_aN k3 (by decide)
  by_cases l16 : ds.length < 16
  · obtain ⟨⟨nq, n1, n2⟩, n3, n4⟩ := id e
    obtain ⟨fsd, n5, _⟩ := fd_c n1
    have s1 : dsR L xs h (some Sc) (Int32.ofNat ds.length) (some d) = some (h.set (Sc - 21) (scA (va_up g ds.length (some d)))) := by
      unfold dsR
      dsimp only
      rw [if_pos (hc_ge k3), hc_at k3, hc_look n5]
      dsimp only
      rw [if_pos ⟨by decide, of_in l16 (by decide)⟩, of_clamp (by omega)]
    have st : st1 Sc h (h.set (Sc - 21) (scA (va_up g ds.length (some d)))) := ⟨fr_setA (fun p => p = Sc) k3 rfl (show (6 : Nat) ≠ 1 by decide), by simp, zh_set (x := scA g) (y := scA (va_up g ds.length (some d))) rfl (hc_at k3)⟩
    generalize hh1 : h.set (Sc - 21) (scA (va_up g ds.length (some d))) = h1 at s1 st
    have c1 := st1_old st k1 (fun z => by rw [z, k3] at k1; cases k1)
    obtain ⟨h2, w1, w2, w3⟩ := pF_ex (v := .int (Int32.ofNat (ds.length + 1))) (j := 3) (cis := [13]) c1 rfl (by decide) rfl (by decide)
    have e3 : hc h1 Sc = some (scA (va_up g ds.length (some d))) := by rw [← hh1]; exact hc_set k3
    have old : ∀ q cell, hc h q = some cell → q ≠ Sc → q ≠ C → hc h2 q = some cell := fun q cell z z1 z2 => st1_old w3 (st1_old st z z1) z2
    have fr2 : fr (fun q => q = C ∨ q = Sc) h h2 := fr_trans (fr_mono st.1 (fun _ _ z => Or.inr z)) w3.1 (fun _ _ z => Or.inl z)
    have dec : ∀ p fs ci, hc h p = some (.inr (ci, fs)) → ci ≠ 13 → hc h2 p = some (.inr (ci, fs)) := fun p fs ci z hci => old p _ z (fun q => by rw [q, k3] at z; cases z) (fun q => by rw [q, k1] at z; cases z; exact hci rfl)
    have len2 : h2.length = h.length := w3.2.1.trans st.2.1
    have ll : (ds ++ [d]).length = ds.length + 1 := by simp
    refine ⟨h2, wrap _ ?_, ⟨fr_mono fr2 (fun q _ z => z.elim Or.inl (fun z => Or.inr (Or.inr (Or.inl z)))), fun p fs ep => ?_⟩, ⟨Or.inl rfl, Or.inl rfl, by rw [w3.2.2, st.2.2], by rw [len2]; exact Nat.le_refl _, Nat.le_refl _, Nat.le_refl _⟩, Or.inl ⟨l16, ?_, dec _ _ _ k2 (by decide), ⟨va_up g ds.length (some d), st1_old w3 e3 (fun z => by rw [z, k1] at k3; cases k3), fun i hi => ?_⟩, ⟨by omega, k4b⟩, fun i d' hi => ?_, ⟨old _ _ k6 (fun z => by rw [z, k3] at k6; cases k6) (fun z => by rw [z, k1] at k6; cases k6), old _ _ k7 (fun z => by rw [z, k3] at k7; cases k7) (fun z => by rw [z, k1] at k7; cases k7), k8, k9, k10⟩, k11, k12, k13, by omega⟩⟩
    · unfold b165_0
      refine bsq (ck_3 kh) (bsq (ck_1 kh) (bsq aN (inq ?_ (bsq (ck_1 kh) (bsq (ck_3 kh) (bsq s1 (bsq (hc_gI c1 rfl (by decide)) ?_)))))))
      · rw [f2_ge, of_int (by omega), show (16 : Int32).toInt = 16 from by decide]
        simp
        omega
      · rw [show Int32.ofNat ds.length + 1 = Int32.ofNat (ds.length + 1) from of_add ds.length 1]
        exact bsq w1 rfl
    · have e2 := dec p fs 12 ep (by decide)
      exact Or.inl e2
    · rw [ll]
      exact w2
    · unfold va_up
      by_cases z : i = ds.length
      · subst z
        simp
      · rw [if_neg z, List.getElem?_append_left (by omega)]
        exact k3' i (by omega)
    · unfold pu
      by_cases z : i = ds.length
      · subst z
        rw [if_pos rfl, if_pos rfl, if_pos rfl]
        rw [List.getElem?_append_right (Nat.le_refl _), Nat.sub_self] at hi
        have : d = d' := Option.some.inj hi
        subst this
        exact dSn_o fr2 (fun fs z => dec _ _ _ z (by decide)) e
      · have lt := (List.getElem?_eq_some_iff.mp hi).1
        rw [if_neg z, if_neg z, if_neg z]
        rw [List.getElem?_append_left (by omega)] at hi
        exact dSn_o fr2 (fun fs z => dec _ _ _ z (by decide)) (k5 i d' hi)
  · refine ⟨h, wrap _ ?_, wF_refl, wK2_refl, Or.inr ⟨by omega, kh⟩⟩
    unfold b165_0
    refine bsq (ck_3 kh) (bsq (ck_1 kh) (bsq aN (itq ?_ rfl)))
    rw [f2_ge, of_int (by omega), show (16 : Int32).toInt = 16 from by decide]
    simp
    omega
end KP
