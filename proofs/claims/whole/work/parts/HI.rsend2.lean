/-! THE REFERENCE SENDS. -/
/-- object o: its Kind, where its fields lie, how many they are -/
def OBJ (s : rS) (o c bs nf : Nat) : Prop := s.2.1 87 o = Int32.ofNat c ∧ s.2.1 88 o = Int32.ofNat bs ∧ bs + nf ≤ 400 ∧ ∃ em, KFR s c nf em
/-- what is known of actor a's objects is closed -/
def KNc (s : rS) (a : Nat) (Kn : Nat → Prop) : Prop := ∀ o, Kn o → 1 ≤ o → o ≤ 400 → ∃ c bs nf, OBJ s o c bs nf ∧ ∀ f, f < nf → vKn Kn (s.2.2 96 (400 * a + bs + f))
/-- what was found up to p went over -/
def DON (s : rS) (a s0 : Nat) (bt : Nat → Int64) (L : List Nat) (p : Nat) : Prop := ∀ i o, i < p → L[i]? = some o → ∀ c bs nf, OBJ s o c bs nf → ∀ f, f < nf → bt (400 * s0 + bs + f) = s.2.2 96 (400 * a + bs + f) ∧ vIn L (s.2.2 96 (400 * a + bs + f))
section RS2
variable {s s' : rS} {w k : Nat} {br wl : Nat → Int32} {bt ag : Nat → Int64} {row i a s0 : Nat} {L : List Nat} {Kn : Nat → Prop}
theorem OBJ_u {o c bs nf c2 bs2 nf2 : Nat} (h : OBJ s o c bs nf) (h2 : OBJ s o c2 bs2 nf2) : c = c2 ∧ bs = bs2 ∧ nf = nf2 := by
  obtain ⟨a1, a2, a3, em, c8, f0, a4, a5, a6, a7, _⟩ := h
  obtain ⟨b1, b2, b3, em2, c82, f02, b4, b5, b6, b7, _⟩ := h2
  have e1 : c = c2 := ofn_inj (by omega) (by omega) (a1.symm.trans b1)
  subst e1
  have e2 : bs = bs2 := ofn_inj (by omega) (by omega) (a2.symm.trans b2)
  have e3 : f0 = f02 := ofn_inj (by omega) (by omega) (a4.symm.trans b4)
  have e4 : f0 + nf = f02 + nf2 := ofn_inj (by omega) (by omega) (a5.symm.trans b5)
  exact ⟨rfl, e2, by omega⟩
/-- one object's fields go over -/
theorem r_send_f {K : Int32 → Int32 → Int32 → Int32 → Int32 → rS → Option rA} {o c bs nf p : Nat} (ha : a < 12) (h0 : s0 < 72) (ho : o ≤ 400) (ob : OBJ s o c bs nf) (vk : ∀ f, f < nf → vKn Kn (s.2.2 96 (400 * a + bs + f))) : ∀ (r : Nat) (br wl : Nat → Int32) (bt : Nat → Int64) (L : List Nat) (f N : Nat), f + r = nf → WLI Kn (401 * s0) br wl L → r < N → ∃ (br' wl' : Nat → Int32) (bt' : Nat → Int64) (X : List Nat), s377_215 (rM w (k + 2)) w K N (Int32.ofNat a) (Int32.ofNat s0) (Int32.ofNat (401 * s0)) (Int32.ofNat L.length) (Int32.ofNat p) (Int32.ofNat o) (Int32.ofNat f) (sSd s br wl bt ag) = K (Int32.ofNat a) (Int32.ofNat s0) (Int32.ofNat (401 * s0)) (Int32.ofNat (L ++ X).length) (Int32.ofNat (p + 1)) (sSd s br' wl' bt' ag) ∧ WLI Kn (401 * s0) br' wl' (L ++ X) ∧ (∀ g, f ≤ g → g < nf → bt' (400 * s0 + bs + g) = s.2.2 96 (400 * a + bs + g) ∧ vIn (L ++ X) (s.2.2 96 (400 * a + bs + g))) ∧ (∀ x, x < 400 → bt' (400 * s0 + x) = bt (400 * s0 + x) ∨ bt' (400 * s0 + x) = s.2.2 96 (400 * a + x)) ∧ (∀ j, (j < 400 * s0 ∨ 400 * s0 + 400 ≤ j) → bt' j = bt j) ∧ ∀ j, (j < 401 * s0 ∨ 401 * s0 + 401 ≤ j) → br' j = br j := by
  obtain ⟨b1, b2, b3, em, kf⟩ := id ob
  intro r
  induction r with
  | zero =>
    intro br wl bt L f N hf wi hN
    obtain ⟨N', rfl⟩ : ∃ N', N = N' + 1 := ⟨N - 1, by omega⟩
    have ef : f = nf := by omega
    subst ef
    refine ⟨br, wl, bt, [], ?_, by rw [List.append_nil]; exact wi, fun g h1 h2 => by omega, fun _ _ => Or.inl rfl, fun _ _ => rfl, fun _ _ => rfl⟩
    rw [List.append_nil]
    show (rs_aI (sSd s br wl bt ag) 87 (Int32.ofNat o)).bind _ = _
    refine bsq ((aI_at (s := sSd s br wl bt ag) (p := 87) (i := o) (n := 401) (by decide) rfl (by omega) (by decide)).trans (congrArg some b1)) ?_
    refine bsq (a := (Int32.ofNat f, sSd s br wl bt ag)) (by rw [kf_n (k := k + 1) (kf_k (s' := sSd s br wl bt ag) kf rfl rfl rfl)]; rfl) ?_
    show (if mx_f2 .ge (Int32.ofNat f) (Int32.ofNat f) = true then _ else _) = _
    rw [if_pos (by rw [f2_ge]; exact decide_eq_true (Int.le_refl _)), of_inc]
  | succ r ih =>
    intro br wl bt L f N hf wi hN
    obtain ⟨N', rfl⟩ : ∃ N', N = N' + 1 := ⟨N - 1, by omega⟩
    obtain ⟨br1, wl1, X1, g1, g2, g3, g4⟩ := r_fol (s := s) (w := w) (k := k) (bt := vp_updL bt (400 * s0 + bs + f) (s.2.2 96 (400 * a + bs + f))) (ag := ag) (row := 401 * s0) (by omega) wi (vk f (by omega))
    obtain ⟨br', wl', bt', X2, r1, r2, r3, r4, r5, r6⟩ := ih br1 wl1 (vp_updL bt (400 * s0 + bs + f) (s.2.2 96 (400 * a + bs + f))) (L ++ X1) (f + 1) N' (by omega) g2 (by omega)
    rw [List.append_assoc] at r1 r2 r3
    refine ⟨br', wl', bt', X1 ++ X2, ?_, r2, fun g h1 h2 => ?_, fun x hx => ?_, fun j hj => ?_, fun j hj => (r6 j hj).trans (g4 j hj)⟩
    · show (rs_aI (sSd s br wl bt ag) 87 (Int32.ofNat o)).bind _ = _
      refine bsq ((aI_at (s := sSd s br wl bt ag) (p := 87) (i := o) (n := 401) (by decide) rfl (by omega) (by decide)).trans (congrArg some b1)) ?_
      refine bsq (a := (Int32.ofNat nf, sSd s br wl bt ag)) (by rw [kf_n (k := k + 1) (kf_k (s' := sSd s br wl bt ag) kf rfl rfl rfl)]; rfl) ?_
      show (if mx_f2 .ge (Int32.ofNat f) (Int32.ofNat nf) = true then _ else _) = _
      rw [if_neg (by rw [f2_ge, of_int (by omega), of_int (by omega)]; exact fun z => absurd (of_decide_eq_true z) (by omega))]
      have e88 := (aI_at (s := sSd s br wl bt ag) (p := 88) (i := o) (n := 401) (by decide) rfl (by omega) (by decide)).trans (congrArg some b2)
      refine bsq e88 ?_
      rw [show (400 : Int32) = Int32.ofNat 400 from rfl, mul_of, of_add, of_add]
      refine bsq (aJ_at (s := sSd s br wl bt ag) (p := 96) (i := 400 * a + bs + f) (n := 4800) (by decide) rfl (by omega) (by decide)) ?_
      refine bsq e88 ?_
      rw [mul_of, of_add, of_add]
      refine bsq (sJ_at (p := 107) (i := 400 * s0 + bs + f) (n := 28800) (by decide) rfl (by omega) (by decide)) ?_
      rw [sd_107]
      refine bsq (a := (Int32.ofNat (L ++ X1).length, _)) (by rw [show (sSd s br wl bt ag).2.2 96 (400 * a + bs + f) = s.2.2 96 (400 * a + bs + f) from rfl, g1]; rfl) ?_
      rw [of_inc]
      exact r1
    · by_cases e : g = f
      · subst e
        refine ⟨?_, by rw [← List.append_assoc]; exact vIn_up g3⟩
        rcases r4 (bs + g) (by omega) with z | z
        · rw [show 400 * s0 + bs + g = 400 * s0 + (bs + g) from by omega, z, show 400 * s0 + (bs + g) = 400 * s0 + bs + g from by omega, updL_eq]
        · rw [show 400 * s0 + bs + g = 400 * s0 + (bs + g) from by omega, z, show 400 * a + (bs + g) = 400 * a + bs + g from by omega]
      · exact r3 g (by omega) h2
    · rcases r4 x hx with z | z
      · rw [z]
        by_cases e : x = bs + f
        · right
          rw [e, show 400 * s0 + (bs + f) = 400 * s0 + bs + f from by omega, updL_eq, show 400 * a + (bs + f) = 400 * a + bs + f from by omega]
        · left
          rw [updL_ne (by omega)]
      · exact Or.inr z
    · rw [r5 j hj, updL_ne (by omega)]
/-- all that was found goes over -/
theorem r_send_w (ha : a < 12) (h0 : s0 < 72) (hw : 500 ≤ w) (kn : KNc s a Kn) : ∀ (n : Nat) (br wl : Nat → Int32) (bt : Nat → Int64) (L : List Nat) (p : Nat), 402 ≤ n + p → p ≤ L.length → WLI Kn (401 * s0) br wl L → DON s a s0 bt L p → ∃ (br' wl' : Nat → Int32) (bt' : Nat → Int64) (X : List Nat), s377_196 (rM w (k + 2)) w n (Int32.ofNat a) (Int32.ofNat s0) (Int32.ofNat (401 * s0)) (Int32.ofNat L.length) (Int32.ofNat p) (sSd s br wl bt ag) = some (none, sSd s br' wl' bt' ag) ∧ WLI Kn (401 * s0) br' wl' (L ++ X) ∧ DON s a s0 bt' (L ++ X) (L ++ X).length ∧ (∀ j, (j < 400 * s0 ∨ 400 * s0 + 400 ≤ j) → bt' j = bt j) ∧ ∀ j, (j < 401 * s0 ∨ 401 * s0 + 401 ≤ j) → br' j = br j := by
  intro n
  induction n with
  | zero =>
    intro br wl bt L p hn hp wi dn
    have := nodup_le 400 L wi.1 (fun o ho => (wi.2.2.2 o ho).2)
    omega
  | succ n ih =>
    intro br wl bt L p hn hp wi dn
    have hL := nodup_le 400 L wi.1 (fun o ho => (wi.2.2.2 o ho).2)
    by_cases he : p = L.length
    · subst he
      refine ⟨br, wl, bt, [], ?_, by rw [List.append_nil]; exact wi, by rw [List.append_nil]; exact dn, fun _ _ => rfl, fun _ _ => rfl⟩
      show (if mx_f2 .ge (Int32.ofNat L.length) (Int32.ofNat L.length) = true then _ else _) = _
      exact ift (by rw [f2_ge]; exact decide_eq_true (Int.le_refl _)) rfl
    · have hlt : p < L.length := by omega
      obtain ⟨o, eo⟩ : ∃ o, L[p]? = some o := ⟨L[p], List.getElem?_eq_getElem hlt⟩
      have hm : o ∈ L := List.mem_of_getElem? eo
      obtain ⟨ko, o1, o4⟩ := wi.2.2.2 o hm
      obtain ⟨c, bs, nf, ob, vk⟩ := kn o ko o1 o4
      have n8 : nf ≤ 8 := by obtain ⟨_, _, _, em, _, f0, _, _, _, n8, _⟩ := ob; exact n8
      obtain ⟨br1, wl1, bt1, X1, r1, r2, r3, r4, r5, r6⟩ := r_send_f (s := s) (w := w) (k := k) (ag := ag) (K := s377_196 (rM w (k + 2)) w n) (p := p) ha h0 o4 ob vk nf br wl bt L 0 w (by omega) wi (by omega)
      have dn1 : DON s a s0 bt1 (L ++ X1) (p + 1) := by
        intro i o' hi ho' c' bs' nf' ob' f hf
        rw [List.getElem?_append_left (by omega)] at ho'
        by_cases e : i = p
        · subst e
          rw [eo] at ho'
          have e2 : o = o' := Option.some.inj ho'
          subst e2
          obtain ⟨_, z1, z2⟩ := OBJ_u ob ob'
          subst z1 z2
          exact r3 f (by omega) hf
        · obtain ⟨z1, z2⟩ := dn i o' (by omega) ho' c' bs' nf' ob' f hf
          refine ⟨?_, vIn_up z2⟩
          have := ob'.2.2.1
          rcases r4 (bs' + f) (by omega) with z | z
          · rw [show 400 * s0 + bs' + f = 400 * s0 + (bs' + f) from by omega, z, show 400 * s0 + (bs' + f) = 400 * s0 + bs' + f from by omega]
            exact z1
          · rw [show 400 * s0 + bs' + f = 400 * s0 + (bs' + f) from by omega, z, show 400 * a + (bs' + f) = 400 * a + bs' + f from by omega]
      obtain ⟨br', wl', bt', X2, t1, t2, t3, t4, t5⟩ := ih br1 wl1 bt1 (L ++ X1) (p + 1) (by omega) (by rw [List.length_append]; omega) r2 dn1
      rw [List.append_assoc] at t2 t3
      refine ⟨br', wl', bt', X1 ++ X2, ?_, t2, t3, fun j hj => (t4 j hj).trans (r5 j hj), fun j hj => (t5 j hj).trans (r6 j hj)⟩
      show (if mx_f2 .ge (Int32.ofNat p) (Int32.ofNat L.length) = true then _ else _) = _
      refine ifn (by rw [f2_ge, of_int (by omega), of_int (by omega)]; exact fun z => absurd (of_decide_eq_true z) (by omega)) ?_
      refine bse ((aI_at (s := sSd s br wl bt ag) (p := 110) (i := p) (n := 401) (by decide) rfl (by omega) (by decide)).trans (congrArg some (show (sSd s br wl bt ag).2.1 110 p = Int32.ofNat o from wi.2.1 p o eo))) ?_
      rw [show (0 : Int32) = Int32.ofNat 0 from rfl, r1]
      exact t1
end RS2
