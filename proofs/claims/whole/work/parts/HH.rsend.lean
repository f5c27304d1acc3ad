/-! THE REFERENCE: WHAT A MESSAGE BRINGS. -/
def sSd (s : rS) (br wl : Nat → Int32) (bt ag : Nat → Int64) : rS := rsL (rsL (rsI (rsI s 105 br) 110 wl) 107 bt) 106 ag
/-- the objects L were found so far -/
def WLI (Kn : Nat → Prop) (row : Nat) (br wl : Nat → Int32) (L : List Nat) : Prop := L.Nodup ∧ (∀ i o, L[i]? = some o → wl i = Int32.ofNat o) ∧ (∀ o, o ≤ 400 → br (row + o) = if o ∈ L then 1 else 0) ∧ ∀ o ∈ L, Kn o ∧ 1 ≤ o ∧ o ≤ 400
/-- a value leads to an object that is known -/
def vKn (Kn : Nat → Prop) (v : Int64) : Prop := srt v = 2 → ∃ o : Nat, v = mdV 2 (Int32.ofNat o) ∧ Kn o ∧ 1 ≤ o ∧ o ≤ 400
/-- it is among L -/
def vIn (L : List Nat) (v : Int64) : Prop := srt v = 2 → ∃ o : Nat, v = mdV 2 (Int32.ofNat o) ∧ o ∈ L
section RSE
variable {s s' : rS} {w k : Nat} {br wl : Nat → Int32} {bt ag : Nat → Int64} {row i : Nat} {x : Int32} {y v : Int64} {L : List Nat} {Kn : Nat → Prop}
theorem sde_1 {q : Nat} : (sSd s br wl bt ag).2.1 q = if q = 110 then wl else if q = 105 then br else s.2.1 q := rfl
theorem sde_2 {q : Nat} : (sSd s br wl bt ag).2.2 q = if q = 106 then ag else if q = 107 then bt else s.2.2 q := rfl
theorem sd_105 : rs_wA (sSd s br wl bt ag) 105 i x = sSd s (upd br i x) wl bt ag := by
  refine Prod.ext rfl (Prod.ext (funext fun q => ?_) rfl)
  show (if q = 105 then upd ((sSd s br wl bt ag).2.1 q) i x else (sSd s br wl bt ag).2.1 q) = (sSd s (upd br i x) wl bt ag).2.1 q
  rw [sde_1, sde_1]
  by_cases c : q = 105
  · subst c
    rw [if_pos rfl, if_neg (by decide), if_pos rfl, if_neg (by decide), if_pos rfl]
  · rw [if_neg c, if_neg c, if_neg c]
theorem sd_110 : rs_wA (sSd s br wl bt ag) 110 i x = sSd s br (upd wl i x) bt ag := by
  refine Prod.ext rfl (Prod.ext (funext fun q => ?_) rfl)
  show (if q = 110 then upd ((sSd s br wl bt ag).2.1 q) i x else (sSd s br wl bt ag).2.1 q) = (sSd s br (upd wl i x) bt ag).2.1 q
  rw [sde_1, sde_1]
  by_cases c : q = 110
  · subst c
    rw [if_pos rfl, if_pos rfl, if_pos rfl]
  · rw [if_neg c, if_neg c, if_neg c]
theorem sd_107 : rs_wB (sSd s br wl bt ag) 107 i y = sSd s br wl (vp_updL bt i y) ag := by
  refine Prod.ext rfl (Prod.ext rfl (funext fun q => ?_))
  show (if q = 107 then vp_updL ((sSd s br wl bt ag).2.2 q) i y else (sSd s br wl bt ag).2.2 q) = (sSd s br wl (vp_updL bt i y) ag).2.2 q
  rw [sde_2, sde_2]
  by_cases c : q = 107
  · subst c
    rw [if_pos rfl, if_neg (by decide), if_pos rfl, if_neg (by decide), if_pos rfl]
  · rw [if_neg c, if_neg c, if_neg c]
theorem sd_106 : rs_wB (sSd s br wl bt ag) 106 i y = sSd s br wl bt (vp_updL ag i y) := by
  refine Prod.ext rfl (Prod.ext rfl (funext fun q => ?_))
  show (if q = 106 then vp_updL ((sSd s br wl bt ag).2.2 q) i y else (sSd s br wl bt ag).2.2 q) = (sSd s br wl bt (vp_updL ag i y)).2.2 q
  rw [sde_2, sde_2]
  by_cases c : q = 106
  · subst c
    rw [if_pos rfl, if_pos rfl, if_pos rfl]
  · rw [if_neg c, if_neg c, if_neg c]
theorem nodup_le : ∀ (n : Nat) (L : List Nat), L.Nodup → (∀ o ∈ L, 1 ≤ o ∧ o ≤ n) → L.length ≤ n
  | 0, L, _, h => by
    cases L with
    | nil => exact Nat.le_refl _
    | cons a l =>
      have := h a (List.mem_cons_self)
      omega
  | n + 1, L, nd, h => by
    by_cases c : (n + 1) ∈ L
    · have l1 := List.length_erase_of_mem c
      have nd2 : (L.erase (n + 1)).Nodup := nd.erase (n + 1)
      have := nodup_le n (L.erase (n + 1)) nd2 (fun o ho => by
        have h1 := (nd.mem_erase_iff).mp ho
        have h2 := h o h1.2
        have := h1.1
        omega)
      have hp : 1 ≤ L.length := by
        cases L with
        | nil => cases c
        | cons a l => simp
      omega
    · have := nodup_le n L nd (fun o ho => by
        have h2 := h o ho
        have : o ≠ n + 1 := fun z => c (z ▸ ho)
        omega)
      omega
/-- follow -/
theorem r_fol (hr : row + 401 ≤ 28872) (wi : WLI Kn row br wl L) (hv : vKn Kn v) : ∃ (br' wl' : Nat → Int32) (X : List Nat), rM w (k + 2) 378 [.ref 36, .int (Int32.ofNat row), .long v, .int (Int32.ofNat L.length)] (sSd s br wl bt ag) = some (some (.int (Int32.ofNat (L ++ X).length)), sSd s br' wl' bt ag) ∧ WLI Kn row br' wl' (L ++ X) ∧ vIn (L ++ X) v ∧ ∀ j, (j < row ∨ row + 401 ≤ j) → br' j = br j := by
  have hL := nodup_le 400 L wi.1 (fun o ho => (wi.2.2.2 o ho).2)
  have hd : rM w (k + 2) 378 [.ref 36, .int (Int32.ofNat row), .long v, .int (Int32.ofNat L.length)] (sSd s br wl bt ag) = s378_0 (rM w (k + 1)) w (Int32.ofNat row) v (Int32.ofNat L.length) (sSd s br wl bt ag) := by
    rw [y378]
    rfl
  by_cases c : srt v = 2
  · obtain ⟨o, ev, ko, o1, o4⟩ := hv c
    have rd : rs_aB (sSd s br wl bt ag) 105 (Int32.ofNat row + Int64.toInt32 v) = some (br (row + o)) := by
      rw [ev, md_lo, of_add, aB_at (n := 28872) (by decide) rfl (by omega) (by decide), sde_1, if_neg (by decide), if_pos rfl]
    by_cases hin : o ∈ L
    · refine ⟨br, wl, [], ?_, by rw [List.append_nil]; exact wi, fun _ => ⟨o, ev, List.mem_append.mpr (Or.inl hin)⟩, fun _ _ => rfl⟩
      rw [hd, List.append_nil]
      unfold s378_0
      refine bse (a := (srt v, sSd s br wl bt ag)) (by rw [r_379]; rfl) ?_
      refine ifn (ne_f c) ?_
      refine bse rd ?_
      exact ifn (eq1_f (by rw [wi.2.2.1 o o4, if_pos hin]; decide)) rfl
    · refine ⟨upd br (row + o) 1, upd wl L.length (Int32.ofNat o), [o], ?_, ⟨?_, fun i o' hi => ?_, fun o' ho' => ?_, fun o' ho' => ?_⟩, fun _ => ⟨o, ev, List.mem_append.mpr (Or.inr (List.mem_singleton.mpr rfl))⟩, fun j hj => upd_ne' (by omega)⟩
      · have hL1 : L.length < 400 := by
          have := nodup_le 400 (L ++ [o]) (by
            rw [List.nodup_append]
            refine ⟨wi.1, by simp, fun a ha b hb e => ?_⟩
            rw [List.mem_singleton.mp hb] at e
            exact hin (e ▸ ha)) (fun o' ho' => by
            rcases List.mem_append.mp ho' with z | z
            · exact (wi.2.2.2 o' z).2
            · rw [List.mem_singleton.mp z]; exact ⟨o1, o4⟩)
          rw [List.length_append] at this
          have : [o].length = 1 := rfl
          omega
        rw [hd]
        unfold s378_0
        refine bse (a := (srt v, sSd s br wl bt ag)) (by rw [r_379]; rfl) ?_
        refine ifn (ne_f c) ?_
        refine bse rd ?_
        refine ift (eq1_t (by rw [wi.2.2.1 o o4, if_neg hin])) ?_
        rw [ev, md_lo, of_add]
        refine bse (sB_at (p := 105) (i := row + o) (n := 28872) (by decide) rfl (by omega) (by decide)) ?_
        rw [show ((1 : Int32) &&& 1) = 1 from by decide, sd_105]
        refine bse (sI_at (p := 110) (i := L.length) (n := 401) (by decide) rfl (by omega) (by decide)) ?_
        rw [sd_110, of_inc, List.length_append]
        rfl
      · rw [List.nodup_append]
        refine ⟨wi.1, by simp, fun a ha b hb e => ?_⟩
        rw [List.mem_singleton.mp hb] at e
        exact hin (e ▸ ha)
      · by_cases hlt : i < L.length
        · rw [List.getElem?_append_left hlt] at hi
          rw [upd_ne' (by omega)]
          exact wi.2.1 i o' hi
        · rw [List.getElem?_append_right (by omega)] at hi
          have : i - L.length = 0 := by
            have := (List.getElem?_eq_some_iff.mp hi).1
            have e1 : [o].length = 1 := rfl
            omega
          rw [this] at hi
          have e : o = o' := Option.some.inj hi
          rw [show i = L.length from by omega, upd_eq', e]
      · by_cases e : o' = o
        · rw [e, upd_eq', if_pos (List.mem_append.mpr (Or.inr (List.mem_singleton.mpr rfl)))]
        · rw [upd_ne' (by omega), wi.2.2.1 o' ho']
          by_cases m : o' ∈ L
          · rw [if_pos m, if_pos (List.mem_append.mpr (Or.inl m))]
          · rw [if_neg m, if_neg]
            intro z
            rcases List.mem_append.mp z with z | z
            · exact m z
            · exact e (List.mem_singleton.mp z)
      · rcases List.mem_append.mp ho' with z | z
        · exact wi.2.2.2 o' z
        · rw [List.mem_singleton.mp z]
          exact ⟨ko, o1, o4⟩
  · refine ⟨br, wl, [], ?_, by rw [List.append_nil]; exact wi, fun z => absurd z c, fun _ _ => rfl⟩
    rw [hd, List.append_nil]
    unfold s378_0
    refine bse (a := (srt v, sSd s br wl bt ag)) (by rw [r_379]; rfl) ?_
    exact ift (ne_t c) rfl
theorem vIn_up {X : List Nat} (h : vIn L v) : vIn (L ++ X) v := fun z => by
  obtain ⟨o, e, m⟩ := h z
  exact ⟨o, e, List.mem_append.mpr (Or.inl m)⟩
end RSE
