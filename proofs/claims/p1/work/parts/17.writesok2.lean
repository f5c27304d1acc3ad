section RM_C2
variable {p : Program} {l : Launch} {e : Env} {R : Room} {s : State} {m : MethodId} {args : Array Value} {below : List Frame} {meth : Method} {c : Code} {H : Heap} {locs : List Loc} {cells slots : Nat} {Q : State → Prop} {cc : ByteArray} {ρ : Nat → Nat} {nL : Nat}
theorem rm_def_v (ρ : Nat → Nat) (ty : FieldType) : rm_v ρ (defaultValue ty) = defaultValue ty := by cases ty <;> rfl
set_option maxHeartbeats 4000000 in
theorem rm_sC_ok (hx : p.tables.exec = Jvm.exec) (hb : c.code = cc) {Ts : List Cond} {D : va_G} {cl : List vw_C} {cA : Nat → ClassId} {TY : List FieldType} {FT : Nat → Nat → FieldType} {DV : Nat → List Value} {CA : Nat → Nat → Bool} {own mn : String} {b0 n0 : Nat} {O : Nat → Option rm_E} {H0 : Heap} {hp : rm_H}
    (hts : ∀ w ∈ Ts, w.before args s = true) (hg : ∀ w ∈ Ts, w.before #[] s = true) (hown : s.vm.findClass own = some m.cls) (hnm : mn = "<init>" → meth.name = "<init>") (hcl : rm_Cl Ts cl) (hcn : rm_Cn cl FT DV) (hK : va_K D cl (rm_ty cA TY) s) (hρ : ∀ k : Nat, ρ (n0 + k) = b0 + k)
    (hca : ∀ (ci t : Nat) (r : vw_C), CA ci t = true → cl[ci]? = some r → ∃ E : String, TY[t]? = some (.object E) ∧ (r.1 = E ∨ Cond.castable r.1 E ∈ Ts)) (hcs : ∀ (ci t : Nat), CA ci t = true → ∃ r : vw_C, cl[ci]? = some r)
    (hG : rm_G D cl cA ρ b0 H0 hp H locs) (hrd : ∀ (a : Nat) (x : rm_E), rm_look n0 O hp a = some x → rm_rd s cl TY H (ρ a) (rm_c ρ x))
    {ins : Instr} {len pc : Nat} {lk : List Nat} {lv : rm_L} {st : List Value} {r : Nat × rm_L × List Value × rm_H × Nat × Nat} {ls : Array Slot}
    (hlk : rm_lkC2 Ts cl TY DV own mn ins lk) (hd : decode cc pc = .ok (ins, len)) (hl : lv_has ls nL (rm_lv ρ lv)) (h : rm_sC n0 O TY FT DV CA ins len lk pc lv st hp = some r)
    (hcells : cells + r.2.2.2.2.1 ≤ R.cells) (hslots : slots + r.2.2.2.2.2 ≤ R.slots)
    (kk : ∀ (H' : Heap) (locs' : List Loc) (ls' : Array Slot), rm_G D cl cA ρ b0 H0 r.2.2.2.1 H' locs' → lv_has ls' nL (rm_lv ρ r.2.1) → W p l e R s m args below meth c H' locs' (cells + r.2.2.2.2.1) (slots + r.2.2.2.2.2) Q (F0 m r.1 ls' (r.2.2.1.map (rm_v ρ)))) :
    W p l e R s m args below meth c H locs cells slots Q (F0 m pc ls (st.map (rm_v ρ))) := by
  have hra : ∀ a : Nat, n0 ≤ a → ρ a = b0 + (a - n0) := fun a ha => by rw [← hρ, Nat.add_sub_of_le ha]
  have hlast : ρ (n0 + hp.length) = H.size := by rw [hρ, hG.1]
  cases ins
  case putfield idx =>
    simp only [rm_sC] at h
    split at h
    · rename_i e; subst e; split at h
      · split at h
        · rename_i ha; split at h
          · rename_i hlook; split at h
            · rename_i hc; cases h
              simp only [List.map_cons, rm_v]
              rw [hra _ ha]
              refine rm_putf hx hb hts hown hnm hcl hcn hK (hlk _ (List.contains_iff_mem.mp hc.1)) (hG.2.1 _ _ hlook) (rm_fit_ok ρ hc.2.1) (by rw [List.length_map]; exact hc.2.2) hd (fun H1 i e1 z o => kk H1 _ ls (hG.put (List.getElem?_eq_some_iff.mp hlook).1 z o ?_) hl)
              show va_at D cl (_, .inr (_, (List.set _ _ _).map (rm_v ρ))) H1
              rw [List.map_set]
              exact e1
            · cases h
          · cases h
        · cases h
      · cases h
    · cases h
  case iastore =>
    simp only [rm_sC] at h
    split at h
    · rename_i e; subst e; split at h
      · split at h
        · rename_i ha; split at h
          · rename_i hlook; split at h
            · rename_i hc; cases h
              simp only [List.map_cons, rm_v]
              rw [hra _ ha]
              refine W.iast hx hb (hG.2.1 _ _ hlook) ((hK.2 _ _ (rm_ty_at hc.1)).1 _ _) (fun q => by cases q) (rm_vin hc.2 _ _) rfl rfl hd fun H1 e1 z o => kk H1 _ ls (hG.put (List.getElem?_eq_some_iff.mp hlook).1 z o ?_) hl
              exact e1.trans (congrArg some (rm_st_i _ ρ _ _ _ _))
            · cases h
          · cases h
        · cases h
      · cases h
    · cases h
  case lastore =>
    simp only [rm_sC] at h
    split at h
    · rename_i e; subst e; split at h
      · split at h
        · rename_i ha; split at h
          · rename_i hlook; split at h
            · rename_i hc; cases h
              simp only [List.map_cons, rm_v]
              rw [hra _ ha]
              refine W.last hx hb (hG.2.1 _ _ hlook) ((hK.2 _ _ (rm_ty_at hc.1)).1 _ _) (fun q => by cases q) (rm_vin hc.2 _ _) rfl rfl hd fun H1 e1 z o => kk H1 _ ls (hG.put (List.getElem?_eq_some_iff.mp hlook).1 z o ?_) hl
              exact e1.trans (congrArg some (rm_st_l _ ρ _ _ _ _))
            · cases h
          · cases h
        · cases h
      · cases h
    · cases h
  case bastore =>
    simp only [rm_sC] at h
    split at h
    · rename_i e; subst e; split at h
      · split at h
        · rename_i ha; split at h
          · rename_i hlook; split at h
            · rename_i hc; cases h
              simp only [List.map_cons, rm_v]
              rw [hra _ ha]
              refine W.bast hx hb (hG.2.1 _ _ hlook) ((hK.2 _ _ (rm_ty_at hc.1)).1 _ _) (fun q => by cases q) (rm_vin hc.2 _ _) rfl rfl hd fun H1 e1 z o => kk H1 _ ls (hG.put (List.getElem?_eq_some_iff.mp hlook).1 z o ?_) hl
              exact e1.trans (congrArg some (rm_st_i _ ρ _ _ _ _))
            · split at h
              · rename_i hc; cases h
                simp only [List.map_cons, rm_v]
                rw [hra _ ha]
                refine W.zast hx hb (hG.2.1 _ _ hlook) ((hK.2 _ _ (rm_ty_at hc.1)).1 _ _) (fun q => by cases q) (rm_vin hc.2 _ _) rfl rfl hd fun H1 e1 z o => kk H1 _ ls (hG.put (List.getElem?_eq_some_iff.mp hlook).1 z o ?_) hl
                exact e1.trans (congrArg some (rm_st_i _ ρ _ _ _ _))
              · cases h
          · cases h
        · cases h
      · cases h
    · cases h
  case aastore =>
    simp only [rm_sC] at h
    split at h
    · rename_i e; subst e; split at h
      · split at h
        · rename_i ha; split at h
          · rename_i hlook hlook2; split at h
            · rename_i hc; cases h
              simp only [List.map_cons, rm_v]
              rw [hra _ ha]
              obtain ⟨rc, hrc⟩ := hcs _ _ hc.1
              obtain ⟨E, hE, hcast⟩ := hca _ _ _ hc.1 hrc
              obtain ⟨cellV, g1, g2, g3, g4, -⟩ := hrd _ _ hlook2 rc hrc
              obtain ⟨kA, comp, k1, k2, k3, -⟩ := (hK.2 _ _ (rm_ty_at hE)).2
              obtain ⟨kE, hkE, -⟩ := Vm.findClass_spec k3
              obtain ⟨kV, hkV, -⟩ := Vm.findClass_spec g4
              have hasg : s.vm.assignable cellV.cls comp = true := by
                rcases hcast with rfl | hcast
                · rw [Option.some.inj (k3.symm.trans g4)]
                  exact va_asg _ _
                · obtain ⟨c0, t1, f1, f2, f3⟩ := Cond.castable_spec (hts _ hcast)
                  rw [Option.some.inj (k3.symm.trans f2), Option.some.inj (g4.symm.trans f1)]
                  exact f3
              refine W.aast hx hb (hG.2.1 _ _ hlook) (fun q h => by cases h) (fun h => by cases h) k1 k2 rfl hkE ⟨(fun q => (rm_vin hc.2 (cA 0) (fun _ => .null)) (Or.inl q)), (by show _ < (arrV _ _ _).slots.size; rw [arrV_size]; exact (rm_in_vp hc.2 (Nat.le_refl _)).2)⟩ g1 (fun q h => by rw [h] at g2; cases g2) hkV hasg rfl rfl hd fun H1 e1 z o => kk H1 _ ls (hG.put (List.getElem?_eq_some_iff.mp hlook).1 z o ?_) hl
              exact e1.trans (congrArg some (rm_st_q _ ρ _ _ _ _))
            · cases h
          · cases h
        · cases h
      · cases h
    · cases h
  case new idx =>
    simp only [rm_sC] at h
    split at h
    · rename_i e; subst e; split at h
      · cases h
        obtain ⟨rc, h1, h2, h3, h4, h5⟩ := hlk (List.cons_ne_nil _ _)
        obtain ⟨hty, -, hdv⟩ := hcn _ _ h1
        have hKn := hK.1 _ _ h1
        refine W.newcK hx hb hown (hts _ h2) (hts _ h3) (hts _ h4) rfl hd hcells (by rw [← h5]; exact hslots) hKn.2.1 rfl fun H1 kC hkC e1 z1 o1 => ?_
        rw [← h5]
        have hh := kk H1 locs ls (hG.new z1 o1 ⟨rc, h1, (u_born (FT _) hts (hcl _ _ h1) hKn hkC e1 hty).to (fun j hj => ?_)⟩) hl
        · simp only [List.map_cons, rm_v] at hh
          rw [hlast] at hh
          exact hh
        · show _ = ((DV _).map (rm_v ρ)).getD j .null
          have h9 := hdv j hj
          dsimp only [List.headD] at h9
          rw [List.getD_eq_getElem?_getD, List.getElem?_map, h9]
          exact (rm_def_v ρ _).symm
      · cases h
    · cases h
  case newarray aty =>
    simp only [rm_sC] at h
    split at h
    · rename_i e; subst e; split at h
      · rename_i t n r0
        split at h
        · rename_i hc
          have key : ∀ (a0 : vp_A) (ty : FieldType), newarray.typeOf aty = ty → (∀ cA' : ClassId, vp_cell cA' (rm_a ρ a0) = arrV cA' n.toNatClampNeg (fun _ => defaultValue ty)) → (∀ cA' : ClassId, va_RA s cA' ty → s.vm.findClass ("[" ++ ty.toString) = some cA') → componentBytes ty ≤ 8 → r = (pc + 2, lv, .ref (n0 + hp.length) :: r0, hp ++ [.inl (t, a0)], 1, n.toNatClampNeg) → W p l e R s m args below meth c H locs cells slots Q (F0 m pc ls ((Value.int n :: r0).map (rm_v ρ))) := by
            intro a0 ty hty hcell hRA hby hr
            subst hr
            rw [hty] at hc
            refine va_newaK hx hb (hts _ (hlk (List.cons_ne_nil _ _))) rfl hd rfl hc.2.1 rfl (Nat.le_trans (Nat.mul_le_mul_left _ (by rw [hty]; exact hby)) hc.2.2) hcells hslots rfl fun H1 cA' e1 z1 o1 hAr hNm => ?_
            have hcA : cA' = cA t := by
              rw [hty] at hNm
              exact Option.some.inj (hNm.symm.trans (hRA _ (hK.2 _ _ (rm_ty_at hc.1)).2))
            subst hcA
            have hh := kk H1 locs ls (hG.new z1 o1 (show H1[H.size]? = some (vp_cell (cA t) (rm_a ρ a0)) by rw [hcell, ← hty]; exact e1)) hl
            simp only [List.map_cons, rm_v] at hh
            rw [hlast] at hh
            exact hh
          split at h
          · rename_i hty; cases h; exact key _ _ hty (fun _ => rfl) (fun _ q => q) (by decide) rfl
          · rename_i hty; cases h; exact key _ _ hty (fun _ => rfl) (fun _ q => q) (by decide) rfl
          · rename_i hty; cases h; exact key _ _ hty (fun _ => rfl) (fun _ q => q) (by decide) rfl
          · rename_i hty; cases h; exact key _ _ hty (fun _ => rfl) (fun _ q => q) (by decide) rfl
          · cases h
        · cases h
      · cases h
    · cases h
  case anewarray idx =>
    simp only [rm_sC] at h
    split at h
    · rename_i e; subst e; split at h
      · rename_i t n r0
        split at h
        · rename_i hc; cases h
          obtain ⟨C, h1, h2, h3⟩ := hlk (List.cons_ne_nil _ _)
          dsimp only [List.headD] at h1
          refine W.anew hx hb hown (hts _ h2) (hts _ h3) rfl hd rfl hc.1 hc.2 hcells hslots fun cA' kA comp f1 f2 f3 f4 => ?_
          obtain ⟨kA2, comp2, g1, g2, g3, g4⟩ := (hK.2 _ _ (rm_ty_at h1)).2
          have hcA : cA' = cA t := Option.some.inj (f1.symm.trans g4)
          subst hcA
          generalize hH1 : H.push ({ cls := cA t, slots := Array.replicate n.toNatClampNeg .null, vm := .none } : Cell) = H1
          have z1 : H1.size = H.size + 1 := by rw [← hH1, Array.size_push]
          have e1 : H1[H.size]? = some (arrV (cA t) n.toNatClampNeg (fun _ => .null)) := by rw [← hH1, Array.getElem?_push_size, ← arrV_new]
          have o1 : ∀ q : Nat, q < H.size → H1[q]? = H[q]? := fun q hq => by rw [← hH1, Array.getElem?_push, if_neg (Nat.ne_of_lt hq)]
          have hh := kk H1 locs ls (hG.new z1 o1 e1) hl
          simp only [List.map_cons, rm_v] at hh
          rw [hlast] at hh
          exact hh
        · cases h
      · cases h
    · cases h
  all_goals (simp [rm_sC] at h)
end RM_C2
