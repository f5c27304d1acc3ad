section RM_B2
variable {p : Program} {l : Launch} {e : Env} {R : Room} {s : State} {m : MethodId} {args : Array Value} {below : List Frame} {meth : Method} {c : Code} {H : Heap} {locs : List Loc} {cells slots : Nat} {Q : State → Prop} {cc : ByteArray} {ρ : Nat → Nat} {nL : Nat}
set_option maxHeartbeats 4000000 in
theorem rm_sB_ok (hx : p.tables.exec = Jvm.exec) (hb : c.code = cc) {Ts : List Cond} {cl : List vw_C} {TY : List FieldType} {strs : List (String × Nat × String × Nat)} {stats : List (String × String × String × Nat)} {own : String} {n0 : Nat} {O : Nat → Option rm_E} {Z : Nat → Value} {A : Nat → Prop} {hp : rm_H}
    (hts : ∀ w ∈ Ts, w.before args s = true) (hg : ∀ w ∈ Ts, w.before #[] s = true) (hown : s.vm.findClass own = some m.cls)
    (hrd : ∀ (a : Nat) (x : rm_E), rm_look n0 O hp a = some x → rm_rd s cl TY H (ρ a) (rm_c ρ x))
    (hstr : ∀ (w : String) (i : Nat) (tx : String) (a : Nat), (w, i, tx, a) ∈ strs → vk_R w i tx (ρ a) s)
    (hZ : ∀ (C n d : String) (z : Nat), (C, n, d, z) ∈ stats → va_Z C n d (rm_v ρ (Z z)) A s H)
    {ins : Instr} {len pc : Nat} {lk : List Nat} {lv : rm_L} {st : List Value} {r : Nat × rm_L × List Value} {ls : Array Slot}
    (hlk : rm_lkB Ts cl strs stats own ins lk) (hd : decode cc pc = .ok (ins, len)) (hl : lv_has ls nL (rm_lv ρ lv)) (h : rm_sB n0 O Z TY ins len lk pc lv st hp = some r)
    (kk : ∀ ls' : Array Slot, lv_has ls' nL (rm_lv ρ r.2.1) → W p l e R s m args below meth c H locs cells slots Q (F0 m r.1 ls' (r.2.2.map (rm_v ρ)))) :
    W p l e R s m args below meth c H locs cells slots Q (F0 m pc ls (st.map (rm_v ρ))) := by
  cases ins
  case getfield idx =>
    simp only [rm_sB] at h
    split at h
    · rename_i e; subst e; split at h
      · split at h
        · rename_i hlook; split at h
          · rename_i hc; split at h
            · rename_i hv; cases h
              exact rm_getf hx hb hts hown (hlk _ (List.contains_iff_mem.mp hc)) (hrd _ _ hlook) (by rw [List.getElem?_map]; exact congrArg (Option.map (rm_v ρ)) hv) hd (kk ls hl)
            · cases h
          · cases h
        · cases h
      · cases h
    · cases h
  case arraylength =>
    simp only [rm_sB] at h
    split at h
    · rename_i e; subst e; split at h
      · split at h
        · rename_i hlook; split at h
          · rename_i ht; cases h
            exact rm_alen hx hb (hrd _ _ hlook _ (List.getElem?_eq_getElem ht)) hd (kk ls hl)
          · cases h
        · cases h
      · cases h
    · cases h
  case iaload =>
    simp only [rm_sB] at h
    split at h
    · rename_i e; subst e; split at h
      · split at h
        · rename_i hlook; split at h
          · rename_i ht; cases h
            obtain ⟨cell, h1, h2, h3, h4, h5, h6⟩ := hrd _ _ hlook _ ht.1
            exact W.iald hx hb h1 h2 h3 (rm_in_vp ht.2 h4).1 (h6 _ (rm_in_vp ht.2 h4).2) rfl rfl hd (kk ls hl)
          · cases h
        · cases h
      · cases h
    · cases h
  case laload =>
    simp only [rm_sB] at h
    split at h
    · rename_i e; subst e; split at h
      · split at h
        · rename_i hlook; split at h
          · rename_i ht; cases h
            obtain ⟨cell, h1, h2, h3, h4, h5, h6⟩ := hrd _ _ hlook _ ht.1
            exact W.lald hx hb h1 h2 h3 (rm_in_vp ht.2 h4).1 (h6 _ (rm_in_vp ht.2 h4).2) rfl rfl hd (kk ls hl)
          · cases h
        · cases h
      · cases h
    · cases h
  case baload =>
    simp only [rm_sB] at h
    split at h
    · rename_i e; subst e; split at h
      · split at h
        · rename_i hlook; split at h
          · rename_i ht; cases h
            obtain ⟨ht1 | ht1, ht2⟩ := ht
            · obtain ⟨cell, h1, h2, h3, h4, h5, h6⟩ := hrd _ _ hlook _ ht1
              exact W.bald hx hb h1 h2 h3 (rm_in_vp ht2 h4).1 (h6 _ (rm_in_vp ht2 h4).2) rfl rfl hd (kk ls hl)
            · obtain ⟨cell, h1, h2, h3, h4, h5, h6⟩ := hrd _ _ hlook _ ht1
              exact W.zald hx hb h1 h2 h3 (rm_in_vp ht2 h4).1 (h6 _ (rm_in_vp ht2 h4).2) rfl rfl hd (kk ls hl)
          · cases h
        · cases h
      · cases h
    · cases h
  case aaload =>
    simp only [rm_sB] at h
    split at h
    · rename_i e; subst e; split at h
      · split at h
        · rename_i hlook; split at h
          · rename_i ht; split at h
            · rename_i hi; cases h
              obtain ⟨cell, h1, h2, h3, h4, h5, h6⟩ := hrd _ _ hlook _ ht
              exact W.aald hx hb h1 h2 rfl h3 (rm_in_vp hi h4).1 ((h6 _ (rm_in_vp hi h4).2).trans (congrArg some (rm_rf_c ρ _))) rfl rfl hd (kk ls hl)
            · cases h
          · cases h
        · cases h
      · cases h
    · cases h
  case getstatic idx =>
    simp only [rm_sB] at h
    split at h
    · rename_i e; subst e; split at h
      · cases h
        obtain ⟨C, n, d, h1, h2⟩ := hlk (List.cons_ne_nil _ _)
        obtain ⟨cf, kf, fi, f, a, cell, g1, g2, g3, g4, g5, g6, g7, g8⟩ := hZ _ _ _ _ h1
        rcases h2 with h2 | ⟨host, h2⟩
        · exact W.gets hx hb hown (hts _ h2) g1 g2 g3 g4 g5 (fun e => by rw [e] at g6; cases g6) g7 rfl hd (kk ls hl)
        · exact va_WgetsN hx hb hown (hts _ h2) g1 g2 g3 g4 g5 (fun e => by rw [e] at g6; cases g6) g7 rfl hd (kk ls hl)
      · cases h
    · cases h
  case ldc idx =>
    simp only [rm_sB] at h
    split at h
    · rename_i e; subst e; split at h
      · cases h
        exact lv_ldc hx hb hown (hts _ (hlk.1 rfl)) hd (kk ls hl)
      · cases h
        obtain ⟨tx, h1⟩ := hlk.2 rfl
        exact va_ldcS hx hb hown (hstr _ _ _ _ h1) hd (kk ls hl)
      · cases h
    · cases h
  case ldc_w idx =>
    simp only [rm_sB] at h
    split at h
    · rename_i e; subst e; split at h
      · cases h
        exact lv_ldcw hx hb hown (hts _ (hlk (List.cons_ne_nil _ _))) hd (kk ls hl)
      · cases h
    · cases h
  case ldc2_w idx =>
    simp only [rm_sB] at h
    split at h
    · rename_i e; subst e; split at h
      · cases h
        exact lv_ldc2 hx hb hown (hts _ (hlk (List.cons_ne_nil _ _))) hd (kk ls hl)
      · cases h
    · cases h
  case checkcast idx =>
    simp only [rm_sB] at h
    split at h
    · rename_i e; obtain ⟨e, e77⟩ := e; subst e; split at h
      · cases h
        exact lv_castN hx hb hd (kk ls hl)
      · split at h
        · rename_i hlook; split at h
          · rename_i hc; cases h
            exact rm_cast hx hb hts hg hown (hlk e77 _ (List.contains_iff_mem.mp hc)) (hrd _ _ hlook) hd (kk ls hl)
          · cases h
        · cases h
      · cases h
    · cases h
  case instanceof idx =>
    simp only [rm_sB] at h
    split at h
    · rename_i e; subst e; split at h
      · cases h
        exact lv_instN hx hb hd (kk ls hl)
      · split at h
        · rename_i hlook; split at h
          · rename_i hc; cases h
            exact rm_inst hx hb hts hg hown (hlk _ (List.contains_iff_mem.mp hc)) (hrd _ _ hlook) hd (kk ls hl)
          · cases h
        · cases h
      · cases h
    · cases h
  all_goals (simp [rm_sB] at h)
end RM_B2
