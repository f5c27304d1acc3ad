/-! A RECOVER GIVES; WHAT IS TOLD. -/
section JGV
variable {sB : rS} {A B : Nat → Int32} {mi : Nat → Nat × Nat × Nat × Nat × Nat} {kc : kCi} {om om' : oMg} {ka ka' : kAp} {la : lAy} {ms : mSg} {N N' cn : Nat} {sg sg' sg2 : cS} {s s' s2 S1 : rS} {a b d e lo q0 J l t r i n p q k k2 f0 w P L sz lv : Nat} {xs : Nat → Int32} {zf : Value} {Z : Nat → Prop} {hB h h' : rm_H} {es : List Nat} {x : Nat → Nat → fDs} {D : Nat → Nat} {S S0 X : List stE} {v : Int64} {y : Int32}
variable {E Ef Pq : Nat → Prop} {g g' g1 : rGt} {W W1 : Nat → Int64} {T T1 : Nat → Nat}
theorem up_cm {f : Nat → Nat} {l1 l2 v1 v2 : Nat} (h : l1 ≠ l2) : rg_up (rg_up f l1 v1) l2 v2 = rg_up (rg_up f l2 v2) l1 v1 := by
  funext j
  by_cases c : j = l2
  · rw [c, rg_up_eq, rg_up_ne _ (fun z => h z.symm), rg_up_eq]
  · rw [rg_up_ne _ c]
    by_cases c2 : j = l1
    · rw [c2, rg_up_eq, rg_up_eq]
    · rw [rg_up_ne _ c2, rg_up_ne _ c2, rg_up_ne _ c]
/-- region Rc is closed: what lies in place l0 of it is laid anew, in region r1 -/
theorem cLs {ob l0 lz t0 t1 r1 Rc : Nat} (gi : GI ob N W T g) (hl : lz ≠ l0) (ho : obP l0 = 0) (hz : obP lz = 0) (hT : T l0 = t0) (t00 : t0 ≠ 0) (t10 : t1 ≠ 0) (hr : g.1 l0 = Rc) (R0 : Rc ≠ 0) (RN : Rc < N) (kR : g.2.2.2.1 Rc = 0) (oR : g.2.2.2.2 Rc = a) (q0 : r1 ≠ 0) (qN : r1 < N) (o1 : g.2.2.2.2 r1 = a) (Er1 : E r1) (EE : ∀ y, E y → Ef y) (ER : Ef Rc) (top : tOp g Ef Rc) (no : ∀ y, E y → ¬ inR g Rc y) (E0 : E 0) (cv : oV (W l0) = 0 ∨ (t0 % 8 ≤ 4 ∧ t1 % 8 = if t0 % 8 < 3 then 0 else 3)) :
    ∃ g' : rGt, GI ob N (wU W lz (W l0)) (rg_up (rg_up T lz 0) l0 t1) g' ∧ g'.1 l0 = r1 ∧ rSt a a E (fun l => l = l0 ∨ l = lz) g g' := by
  have hl' : l0 ≠ lz := fun z => hl z.symm
  have hob := gi.2.2.1 l0
  have t0n : T l0 ≠ 0 := by rw [hT]; exact t00
  rw [tgF_eq t0n] at hob
  have fin : ∀ gx : rGt, GI ob N (wU W l0 (W l0)) (rg_up T l0 t1) gx → GI ob N (wU W lz (W l0)) (rg_up (rg_up T lz 0) l0 t1) gx := by
    intro gx h
    have := GI_drop h lz
    rw [up_cm hl'] at this
    refine GI_w this (fun l tl => ?_)
    by_cases c : l = l0
    · rw [c, wU_ne hl', wU_eq]
    · have c2 : l ≠ lz := by
        intro z
        rw [z, rg_up_ne _ hl, rg_up_eq] at tl
        exact tl rfl
      rw [wU_ne c2, wU_ne c]
  by_cases o0 : oV (W l0) = 0
  · exact ⟨_, fin _ (GI_put gi l0 t1 r1 (W l0) ho qN (Or.inr hob) (Or.inr (Or.inl o0))), rg_up_eq _ _ _, rSt_P rRo_st (fun l z => Or.inl z)⟩
  obtain ⟨c4, e1⟩ : t0 % 8 ≤ 4 ∧ t1 % 8 = if t0 % 8 < 3 then 0 else 3 := by
    rcases cv with z | z
    · exact absurd z o0
    · exact z
  by_cases k4 : t0 % 8 = 4
  · -- box: all is frozen
    rw [if_neg (by omega)] at e1
    obtain ⟨gx, f1, f2, f3, f4⟩ := GI_fz (a := a) (P := fun l => l = l0 ∨ l = lz) gi R0 kR RN no
    rw [oR] at f2
    have fz : gx.2.1 (oV (W l0)) = 0 := by
      have ok := gi.1.1 l0
      rw [tgF_eq t0n, hr, show cpF T l0 = t0 % 8 from by unfold cpF; rw [hT], k4] at ok
      rcases ok with z | z | ⟨_, z | z | z | z | z⟩
      · exact absurd z o0
      · exact absurd z.1 R0
      · exact absurd z.1 (by decide)
      · exact absurd z.1 (by decide)
      · rcases z.2 with y | y
        · exact f4 _ y
        · exact f3 _ (rg_Tr_In y rg_In_self)
      · exact absurd z.1 (by decide)
      · exact absurd z.1 (by decide)
    refine ⟨_, fin _ (GI_put f1 l0 t1 r1 (W l0) ho qN (Or.inr hob) (Or.inr (Or.inr ⟨by omega, ?_⟩))), rg_up_eq _ _ _, rSt_u E0 f2 (rSt_P rRo_st (fun l z => Or.inl z))⟩
    rw [e1]
    exact Or.inr (Or.inr ⟨q0, Or.inl ⟨rfl, fz⟩⟩)
  · -- first to lz, as it is (a trn as a ref)
    have hz2 : rg_good (T l0 % 8) ((if t0 % 8 = 1 then t0 + 1 else t0) % 8) ∧ (if t0 % 8 = 1 then t0 + 1 else t0) % 8 ≤ 4 ∧ T l0 % 8 ≤ 4 := by
      rw [hT]
      unfold rg_good
      split <;> omega
    obtain ⟨gx, f1, f2, f3⟩ := lay_x (a := a) (b := a) (l1 := lz) (t1 := if t0 % 8 = 1 then t0 + 1 else t0) (r1 := Rc) gi top ER R0 R0 RN oR hl hz t0n (by split <;> omega) hr (Or.inr hz2) (Or.inl rfl)
    have st1 : rSt a a E (fun l => l = l0 ∨ l = lz) g gx := rSt_P (rSt_E f3 EE) (fun l z => Or.inr z)
    have eW : wU W lz (W l0) lz = W l0 := wU_eq
    have eT : rg_up (rg_up T l0 0) lz (if t0 % 8 = 1 then t0 + 1 else t0) lz = if t0 % 8 = 1 then t0 + 1 else t0 := rg_up_eq _ _ _
    have oR' : gx.2.2.2.2 Rc = a := by rw [(f3.1 Rc ER).2.1]; exact oR
    have kR' : gx.2.2.2.1 Rc = 0 := by rw [(f3.1 Rc ER).1]; exact kR
    have o1' : gx.2.2.2.2 r1 = a := by rw [(f3.1 r1 (EE _ Er1)).2.1]; exact o1
    have no' : ∀ y, E y → ¬ inR gx Rc y := fun y hy hin => no y hy (((f3.1 y (EE y hy)).2.2.2 Rc).mp hin)
    have top' : tOp gx E Rc := fun y hy hne => no' y hy
    have finW : ∀ gy : rGt, GI ob N (wU (wU W lz (W l0)) l0 (wU W lz (W l0) lz)) (rg_up (rg_up (rg_up (rg_up T l0 0) lz (if t0 % 8 = 1 then t0 + 1 else t0)) lz 0) l0 t1) gy → GI ob N (wU W lz (W l0)) (rg_up (rg_up T lz 0) l0 t1) gy := by
      intro gy h
      have e2 : wU (wU W lz (W l0)) l0 (wU W lz (W l0) lz) = wU W lz (W l0) := by
        funext j
        by_cases c : j = l0
        · rw [c, wU_eq, eW, wU_ne hl']
        · rw [wU_ne c]
      have e3 : rg_up (rg_up (rg_up (rg_up T l0 0) lz (if t0 % 8 = 1 then t0 + 1 else t0)) lz 0) l0 t1 = rg_up (rg_up T lz 0) l0 t1 := by
        rw [rg_up_up, up_cm hl', rg_up_up]
      rw [e2, e3] at h
      exact h
    by_cases k12 : t0 % 8 = 1 ∨ t0 % 8 = 2
    · rw [if_pos (by omega)] at e1
      have c2 : (if t0 % 8 = 1 then t0 + 1 else t0) % 8 = 2 := by split <;> omega
      have hR : gx.2.1 (oV (wU W lz (W l0) lz)) = Rc := by
        have ok := f1.1.1 lz
        rw [tgF_eq (by rw [eT]; split <;> omega), f2, show cpF (rg_up (rg_up T l0 0) lz (if t0 % 8 = 1 then t0 + 1 else t0)) lz = 2 from by unfold cpF; rw [eT]; exact c2] at ok
        rcases ok with z | z | ⟨_, z | z | z | z | z⟩
        · rw [eW] at z; exact absurd z o0
        · exact absurd z.1 R0
        · exact absurd z.1 (by decide)
        · exact z.2
        · exact absurd z.1 (by decide)
        · exact absurd z.1 (by decide)
        · exact absurd z.1 (by decide)
      obtain ⟨gy, y1, y2, y3⟩ := GI_cl2 (a := a) (E := E) (l0 := lz) (l1 := l0) (t1 := t1) f1 hl' ho (by rw [eT]; split <;> omega) t10 (by rw [eW]; exact o0) hR R0 kR' q0 qN (no' r1 Er1) (Or.inl e1) no'
      rw [o1'] at y3
      exact ⟨gy, finW gy y1, y2, rSt_u E0 st1 (rSt_P y3 (fun l z => Or.inl z))⟩
    · have e5 : (if t0 % 8 = 1 then t0 + 1 else t0) = t0 := if_neg (by omega)
      obtain ⟨gy, y1, y2, y3⟩ := lay_x (a := a) (b := a) (l0 := lz) (l1 := l0) (t1 := t1) (r := Rc) (r1 := r1) f1 top' Er1 R0 q0 qN o1' hl' ho (by rw [eT]; split <;> omega) t10 f2 (Or.inr (by
        rw [eT, e5]
        unfold rg_good
        by_cases c3 : t0 % 8 < 3
        · rw [if_pos c3] at e1; omega
        · rw [if_neg c3] at e1; omega)) (by
        right; right
        rw [eT, e5]
        omega)
      exact ⟨gy, finW gy y1, y2, rSt_u E0 st1 (rSt_P y3 (fun l z => Or.inl z))⟩
end JGV
