/-! BEHIND A FAULT: arguments, operators, has, new, put, recover. -/
section ZS
variable {L : Nat} {xs : Nat → Int32} {zf : Value} {w k C Sc M pl ph K p p0 n m ke q0 q1 : Nat} {cx : Nat → Nat} {hB h h1 h2 : rm_H} {pt vr gn rc a b x y t : Int32} {mv : Value} {ds kl es : List Nat} {f : Nat → Int64} {sl ty : Nat → Int32} {u u1 u2 : Nat → Nat} {A B : Nat → Int32}
/-- the type of a Node is written -/
theorem zk_nty {e0 : Nat} (z : KZ L xs cx C Sc M pt vr mv ds f sl ty rc a b h u) (hs : (fd h 12 e0 12).isSome = true) (h1 : pl ≤ e0) (h2 : e0 < ph) (t : Int32) : ∃ h', dpF h 12 [12] (some e0) (.int t) = some h' ∧ ZR L xs cx C Sc M pl ph pt vr mv ds f sl ty rc a b h u 0 h' u ∧ fd h' 12 e0 12 = some (.int t) := by
  obtain ⟨v, hv⟩ := Option.isSome_iff_exists.mp hs
  obtain ⟨fs, e1, e2⟩ := fd_c hv
  obtain ⟨h', w1, w2, w3⟩ := pF_ex (v := .int t) (j := 12) (cis := [12]) e1 e2 (by decide) rfl (by decide)
  obtain ⟨gn, A, B, k1, k2, ⟨g, k3, k3'⟩, k4, k5, ⟨k6, k7, k8, k9, k10⟩, k11, k12, k13, k14⟩ := z
  have ne : ∀ q cell, hc h q = some cell → (∀ fs, cell ≠ .inr (12, fs)) → q ≠ e0 := fun q cell z hn y => by
    rw [y, e1] at z
    exact hn fs (Option.some.inj z).symm
  refine ⟨h', w1, ⟨⟨gn, A, B, st1_old w3 k1 (ne _ _ k1 (fun _ z => by cases z)), st1_old w3 k2 (ne _ _ k2 (fun _ z => by cases z)), ⟨g, st1_old w3 k3 (ne _ _ k3 (fun _ z => by cases z)), k3'⟩, k4, fun i d hi => dSn_o w3.1 (fun fs z => st1_old w3 z (ne _ _ z (fun _ y => by cases y))) (k5 i d hi), ⟨st1_old w3 k6 (ne _ _ k6 (fun _ z => by cases z)), st1_old w3 k7 (ne _ _ k7 (fun _ z => by cases z)), k8, k9, k10⟩, k11, k12, k13, k14⟩, ⟨fr_mono w3.1 (fun q _ z => Or.inr (Or.inr (Or.inr (Or.inr (Or.inr ⟨by rw [z]; exact h1, by rw [z]; exact h2, fs, by rw [z]; exact e1⟩))))), fun q gs eq => ?_⟩, ⟨Or.inl rfl, Or.inl rfl, by rw [w3.2.2], by rw [w3.2.1]; exact Nat.le_refl _, Nat.le_refl _, Nat.le_refl _⟩, rfl, by omega⟩, ?_⟩
  · by_cases y : q = e0
    · subst y
      rw [e1] at eq
      cases eq
      exact Or.inr ⟨t, w2⟩
    · exact Or.inl (st1_old w3 eq y)
  · rw [fd_of w2, List.getElem?_set_self (List.getElem?_eq_some_iff.mp e2).1]
/-- arguments: each a premise with its cost -/
theorem zx_173 {s : Int32} {c : Nat → Nat} (hp : pts hB q0 q1 p es) (e1 : fd hB 12 p 1 = some (.int s)) (hl : es.length ≤ 6) (IH : ∀ i e0, es[i]? = some e0 → ZX L xs zf w cx C Sc M pl ph pt vr mv ds f sl ty rc a b kl hB 171 e0 (c i) ke) (fa : ∀ e0 ∈ es, (∃ s, fd hB 12 e0 1 = some (.int s)) ∧ (fd hB 12 e0 12).isSome = true ∧ pl ≤ e0 ∧ e0 < ph) (hw : 200 ≤ w) (hk : 4 ≤ ke) (j : Nat) (ev : EV L xs cx C Sc M pt vr mv ds f sl ty rc a b kl hB h u) (hz : u 2 + (c 0 + c 1 + c 2 + c 3 + c 4 + c 5) ≤ 9000) : ∃ h' u', (dcV L xs (dM L xs zf w (ke + 1 + j)) 173 [13] (some C) [va_rf (some p)] h).bind dxV = some h' ∧ ZR L xs cx C Sc M pl ph pt vr mv ds f sl ty rc a b h u (c 0 + c 1 + c 2 + c 3 + c 4 + c 5) h' u' ∧ aTy h' es := by
  obtain ⟨k', rfl⟩ : ∃ k', ke = k' + 4 := ⟨ke - 4, by omega⟩
  -- what is left from i on
  have cs : ∃ S : Nat → Nat, S 0 = c 0 + c 1 + c 2 + c 3 + c 4 + c 5 ∧ ∀ i, i < 6 → c i + S (i + 1) ≤ S i := by
    refine ⟨fun i => if i = 0 then c 0 + c 1 + c 2 + c 3 + c 4 + c 5 else if i = 1 then c 1 + c 2 + c 3 + c 4 + c 5 else if i = 2 then c 2 + c 3 + c 4 + c 5 else if i = 3 then c 3 + c 4 + c 5 else if i = 4 then c 4 + c 5 else if i = 5 then c 5 else 0, rfl, fun i hi => ?_⟩
    have : i = 0 ∨ i = 1 ∨ i = 2 ∨ i = 3 ∨ i = 4 ∨ i = 5 := by omega
    rcases this with e | e | e | e | e | e <;> subst e <;> simp <;> omega
  obtain ⟨S, S0, S1⟩ := cs
  have lp : ∀ (m i N : Nat) (h : rm_H) (u : Nat → Nat), i + m = es.length → m < N → EV L xs cx C Sc M pt vr mv ds f sl ty rc a b kl hB h u → u 2 + S i ≤ 9000 → (∀ i' e0, i' < i → es[i']? = some e0 → ∃ t, fd h 12 e0 12 = some (.int t)) → ∃ h' u', b173_2 L xs zf (dM L xs zf w (k' + 4 + j)) w N (some C) (some p) (Int32.ofNat i) h = some (none, h') ∧ ZR L xs cx C Sc M pl ph pt vr mv ds f sl ty rc a b h u (S i) h' u' ∧ ∀ (i' e0 : Nat), es[i']? = some e0 → ∃ t, fd h' 12 e0 12 = some (.int t) := by
    intro m
    induction m with
    | zero =>
      intro i N h u e hN ev hz hty
      obtain ⟨N, rfl⟩ : ∃ M, N = M + 1 := ⟨N - 1, by omega⟩
      have nb := ev.2.2.2.1
      have hp' : pts h q0 q1 p es := by
        rcases hp with ⟨z1, z2⟩ | ⟨l, ar, cap, z1, z2, z3⟩
        · exact Or.inl ⟨nb.1 _ _ _ (by decide) z1, z2⟩
        · exact Or.inr ⟨l, ar, cap, nb.1 _ _ _ (by decide) z1, nb.2.1 _ _ _ _ z2, z3⟩
      refine ⟨h, u, ?_, ZR_le (ZR_refl (n := 0) ev.1) (by omega), fun i' e0 hi' => hty i' e0 (by have := (List.getElem?_eq_some_iff.mp hi').1; omega) hi'⟩
      rw [b173_2]
      have cn := ck_cnt (L := L) (xs := xs) (zf := zf) (w := w) (k := k' + 2 + j) hp' (nb.1 _ _ _ (by decide) e1)
      rw [show k' + 2 + j + 2 = k' + 4 + j from by omega] at cn
      refine bsq cn (itq ?_ rfl)
      show mx_f2 .ge (Int32.ofNat i) (Int32.ofNat es.length) = true
      rw [f2_ge, of_int (by omega), of_int (by omega)]
      simp
      omega
    | succ m ih =>
      intro i N h u e hN ev hz hty
      obtain ⟨N, rfl⟩ : ∃ M, N = M + 1 := ⟨N - 1, by omega⟩
      have nb := ev.2.2.2.1
      have hp' : pts h q0 q1 p es := by
        rcases hp with ⟨z1, z2⟩ | ⟨l, ar, cap, z1, z2, z3⟩
        · exact Or.inl ⟨nb.1 _ _ _ (by decide) z1, z2⟩
        · exact Or.inr ⟨l, ar, cap, nb.1 _ _ _ (by decide) z1, nb.2.1 _ _ _ _ z2, z3⟩
      obtain ⟨e0, he0⟩ : ∃ d, es[i]? = some d := ⟨es[i]'(by omega), List.getElem?_eq_getElem (by omega)⟩
      obtain ⟨⟨s0, y1⟩, y2, y3, y4⟩ := fa e0 (List.mem_of_getElem? he0)
      have Si := S1 i (by omega)
      obtain ⟨t, h1, u1, r1, r2⟩ := IH i e0 he0 j h u ev (by omega)
      have ev1 := EV_s ev r2
      obtain ⟨h2, v1, v2, v3⟩ := zk_nty (pl := pl) (ph := ph) ev1.1 (ev1.2.2.2.1.2.2.2.2 e0 y2) y3 y4 t
      have ev2 := EV_s ev1 v2
      have z12 := ZR_trans r2 v2
      have u12 : u1 2 ≤ u 2 + c i := r2.2.2.2.2
      obtain ⟨h', u', q1', q2', q3'⟩ := ih (i + 1) N h2 u1 (by omega) (by omega) ev2 (by omega) (fun i' e' hi' he' => by
        by_cases y : i' = i
        · rw [y, he0] at he'
          cases he'
          exact ⟨t, v3⟩
        · obtain ⟨t', y'⟩ := hty i' e' (by omega) he'
          obtain ⟨t'', y''⟩ := wF_t r2.2.1 y'
          exact wF_t v2.2.1 y'')
      refine ⟨h', u', ?_, ZR_le (ZR_trans z12 q2') (by omega), q3'⟩
      have cn := ck_cnt (L := L) (xs := xs) (zf := zf) (w := w) (k := k' + 2 + j) hp' (nb.1 _ _ _ (by decide) e1)
      rw [show k' + 2 + j + 2 = k' + 4 + j from by omega] at cn
      have pa := ck_part (L := L) (xs := xs) (zf := zf) (w := w) (k := k' + j) hp' (nb.1 _ _ _ (by decide) e1) he0 ⟨s0, nb.1 _ _ _ (by decide) y1⟩ (by omega)
      rw [show k' + j + 4 = k' + 4 + j from by omega] at pa
      rw [b173_2]
      refine bsq cn (inq ?_ (bsq pa (bsq r1 (bsq v1 ?_))))
      · show ¬ mx_f2 .ge (Int32.ofNat i) (Int32.ofNat es.length) = true
        rw [f2_ge, of_int (by omega), of_int (by omega)]
        simp
        omega
      · rw [show Int32.ofNat i + 1 = Int32.ofNat (i + 1) from of_add i 1]
        exact q1'
  obtain ⟨h', u', r1, r2, r3⟩ := lp es.length 0 w h u (by omega) (by omega) ev (by omega) (fun i' e0 hi' => by omega)
  rw [S0] at r2
  refine ⟨h', u', ?_, r2, fun e0 he0 => ?_⟩
  · rw [zk_v ev.1, show k' + 4 + 1 + j = k' + 4 + j + 1 from by omega, e173]
    show (b173_2 L xs zf (dM L xs zf w (k' + 4 + j)) w w (some C) (some p) (Int32.ofNat 0) h).bind dxV = _
    rw [r1]
    rfl
  · obtain ⟨i, hi⟩ := List.getElem?_of_mem he0
    obtain ⟨t, ht⟩ := r3 i e0 hi
    obtain ⟨⟨s0, y1⟩, _⟩ := fa e0 he0
    exact ⟨s0, t, (EV_s ev r2).2.2.2.1.1 _ _ _ (by decide) y1, ht⟩
end ZS
