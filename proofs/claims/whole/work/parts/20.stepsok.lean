section RM_D
variable {p : Program} {l : Launch} {e : Env} {R : Room} {s : State} {m : MethodId} {args : Array Value} {below : List Frame} {meth : Method} {c : Code} {H : Heap} {locs : List Loc} {cells slots : Nat} {Q : State → Prop} {cc : ByteArray} {ρ : Nat → Nat} {nL pc : Nat} {ls : Array Slot}
variable {Ts Tg Tb : List Cond} {D : va_G} {cl : List vw_C} {cA : Nat → ClassId} {TY : List FieldType} {FT : Nat → Nat → FieldType} {DV : Nat → List Value} {CA : Nat → Nat → Bool} {own mn : String} {b0 n0 : Nat} {O : Nat → Option rm_E} {Z : Nat → Value} {H0 : Heap} {hp : rm_H} {strs : List (String × Nat × String × Nat)} {stats : List (String × String × String × Nat)}
theorem rm_rt_ok {ret : Option FieldType} {x : Int32} (h : rm_rt ret x = true) : ∃ ty, ret = some ty ∧ narrow ty (.int x) = .int x := by
  unfold rm_rt at h
  split at h
  · exact ⟨_, rfl, rfl⟩
  · simp only [Bool.or_eq_true, decide_eq_true_eq] at h
    rcases h with rfl | rfl
    · exact ⟨_, rfl, rfl⟩
    · exact ⟨_, rfl, rfl⟩
  · exact ⟨_, rfl, congrArg Value.int (of_decide_eq_true h)⟩
  · exact ⟨_, rfl, congrArg Value.int (of_decide_eq_true h)⟩
  · cases h
theorem rm_ret_ok (hx : p.tables.exec = Jvm.exec) (hb : c.code = cc) {ret : Option FieldType} (hr : meth.sig.returnType = ret) (hlocks : meth.locks = false) (hG : rm_G D cl cA ρ b0 H0 hp H locs) {ins : Instr} {len : Nat} {st : List Value} {v : Option Value} (hd : decode cc pc = .ok (ins, len)) (h : rm_ret ret ins len st = some v) :
    W p l e R s m args below meth c H locs cells slots (MQ below (rm_Qc D cl cA ρ b0 H0 v hp) args s cells slots (fun q => b0 ≤ q)) (F0 m pc ls (st.map (rm_v ρ))) := by
  have hq : ∀ t : State, t.heap = H → s.WarmedH t.vm → rm_Qc D cl cA ρ b0 H0 v hp args s (.returned (v.map (rm_v ρ))) t := fun t ht _ => ⟨rfl, by rw [ht]; exact hG.forget⟩
  cases ins
  case return_ =>
    simp only [rm_ret] at h
    split at h
    · rename_i e; subst e; split at h
      · cases h; exact W.vret hx hb hr hq hG.2.2.2 hd hlocks
      · cases h
    · cases h
  case ireturn =>
    simp only [rm_ret] at h
    split at h
    · rename_i e; subst e; split at h
      · split at h
        · rename_i ht; cases h
          obtain ⟨ty, rfl, hn⟩ := rm_rt_ok ht
          exact W.zret hx hb hr hn hq hG.2.2.2 hd hlocks
        · cases h
      · cases h
    · cases h
  case lreturn =>
    simp only [rm_ret] at h
    split at h
    · rename_i e; subst e; split at h
      · cases h; exact W.lret hx hb hr hq hG.2.2.2 hd hlocks
      · cases h
    · cases h
  case areturn =>
    simp only [rm_ret] at h
    split at h
    · rename_i e; subst e; split at h
      · cases h; exact W.aret hx hb hr (Or.inl ⟨_, rfl⟩) (Or.inr ⟨_, rfl⟩) hq hG.2.2.2 hd hlocks
      · cases h; exact W.aret hx hb hr (Or.inl ⟨_, rfl⟩) (Or.inl rfl) hq hG.2.2.2 hd hlocks
      · cases h; exact W.aret hx hb hr (Or.inr ⟨_, rfl⟩) (Or.inr ⟨_, rfl⟩) hq hG.2.2.2 hd hlocks
      · cases h; exact W.aret hx hb hr (Or.inr ⟨_, rfl⟩) (Or.inl rfl) hq hG.2.2.2 hd hlocks
      · cases h
    · cases h
  all_goals (simp [rm_ret] at h)
theorem rm_nn (z : Int32) (hz : ¬ z < 0) : z.toInt = (z.toNatClampNeg : Int) := by
  have hz0 : (0 : Int) ≤ z.toInt := by
    have := Int32.not_lt.mp hz
    simpa using Int32.le_iff_toInt_le.mp this
  show z.toInt = ((z.toInt.toNat : Nat) : Int)
  omega
/-- arraycopy of ints or bytes, into a made array -/
theorem rm_copy (hx : p.tables.exec = Jvm.exec) (hb : c.code = cc) (hml : c.maxLocals = ls.size) {idx : Nat} {rest : List Value} (hown : s.vm.findClass own = some m.cls) (hlink : (Cond.methodLink own idx arraycopyName).before args s = true) (hnat : (Cond.native arraycopyName).before args s = true) (hstat : (Cond.static arraycopyName).before args s = true) (hini : (Cond.initialized "java/lang/System").before args s = true)
    (hK : va_K D cl (rm_ty cA TY) s) {q0 q1 t N0 N1 : Nat} {f f1 : Nat → Int32} {ty : FieldType} (ht : TY[t]? = some ty) (hprim : refKind ty = false) (hc0 : H[q0]? = some (vp_cell (cA t) (N0, .inl f))) (hc1 : H[q1]? = some (vp_cell (cA t) (N1, .inl f1)))
    {sp dp n : Int32} (h1 : ¬ sp < 0) (h2 : ¬ dp < 0) (h3 : ¬ n < 0) (h4 : sp.toNatClampNeg + n.toNatClampNeg ≤ N0) (h5 : dp.toNatClampNeg + n.toNatClampNeg ≤ N1) (hfit : ∀ i, i < n.toNatClampNeg → fits ty (.int (f (sp.toNatClampNeg + i))) = true)
    (hframes : 1 ≤ R.frames) (hlocals : (rest.map fun v => v.category).sum + (nativeFrameWords "java/lang/System" "arraycopy" 5 + 11) ≤ R.locals) (hdg : decode cc pc = .ok (.invokestatic idx, 3))
    (kk : ∀ (H1 : Heap) (L : List Loc), (∀ q ∈ L, q.base = q1) → H1[q1]? = some (vp_cell (cA t) (N1, .inl (va_cpy f f1 sp.toNatClampNeg dp.toNatClampNeg n.toNatClampNeg))) → H1.size = H.size → (∀ q : Nat, q ≠ q1 → H1[q]? = H[q]?) → W p l e R s m args below meth c H1 (locs ++ L) cells slots Q (F0 m (pc + 3) ls rest)) : W p l e R s m args below meth c H locs cells slots Q (F0 m pc ls (.int n :: .int dp :: .ref q1 :: .int sp :: .ref q0 :: rest)) := by
  intro T hT X
  obtain ⟨-, k0, hk0, cm0, hkk0⟩ := (hK.2 t _ (rm_ty_at ht)).1 N0 (fun j => .int (f j))
  obtain ⟨-, k1, hk1, cm1, hkk1⟩ := (hK.2 t _ (rm_ty_at ht)).1 N1 (fun j => .int (f1 j))
  obtain ⟨vm', X', step⟩ := X.arraycopy hx hown hlink hnat hstat hini (src := q0) (dst := q1) (cs := vp_cell (cA t) (N0, .inl f)) (cd := vp_cell (cA t) (N1, .inl f1)) (srcPos := sp) (destPos := dp) (n := n) (by rw [hT]; exact hc0) (by rw [hT]; exact hc1)
    (fun _ h => by cases h) (fun _ h => by cases h) (fun h => by cases h) (fun h => by cases h) hk0 hk1 hkk0 hkk1 (by simp [hprim]) h1 h2 h3
    (by rw [rm_nn sp h1, rm_nn n h3]; show ¬ _ > ((arrV (cA t) N0 (fun j => .int (f j))).slots.size : Int); rw [arrV_size]; omega)
    (by rw [rm_nn dp h2, rm_nn n h3]; show ¬ _ > ((arrV (cA t) N1 (fun j => .int (f1 j))).slots.size : Int); rw [arrV_size]; omega)
    (fun vm₁ _ i hi => by
      have e : (vp_cell (cA t) (N0, .inl f)).slots.getD (sp.toNatClampNeg + i) .null = .int (f (sp.toNatClampNeg + i)) := by
        show (arrV (cA t) N0 (fun j => .int (f j))).slots.getD _ _ = _
        rw [Array.getD_eq_getD_getElem?, arrV_read _ _ (by omega)]
        rfl
      refine ⟨?_, ?_⟩
      · rw [e]
        exact hfit i hi
      · rw [e]
        exact trivial)
    (g := F0 m pc ls (.int n :: .int dp :: .ref q1 :: .int sp :: .ref q0 :: rest)) rfl (by rw [hml]) (rest := rest) rfl (by rw [hb]; exact hdg) hframes (by show 2 * 0 + _ + _ ≤ _; omega)
  have e1 : copied (vp_cell (cA t) (N0, .inl f)) (vp_cell (cA t) (N1, .inl f1)) sp dp n = vp_cell (cA t) (N1, .inl (va_cpy f f1 sp.toNatClampNeg dp.toNatClampNeg n.toNatClampNeg)) := va_copied (fun z => .int z) (cA t) (cA t) f f1 h4
  rw [e1] at X' step
  have hl : q1 < H.size := (Array.getElem?_eq_some_iff.mp hc1).1
  have hheap : ((T.setVm vm').setCell q1 (vp_cell (cA t) (N1, .inl (va_cpy f f1 sp.toNatClampNeg dp.toNatClampNeg n.toNatClampNeg)))).heap = H.setIfInBounds q1 (vp_cell (cA t) (N1, .inl (va_cpy f f1 sp.toNatClampNeg dp.toNatClampNeg n.toNatClampNeg))) := by rw [← hT]; rfl
  have oq : ∀ q : Nat, q ≠ q1 → (H.setIfInBounds q1 (vp_cell (cA t) (N1, .inl (va_cpy f f1 sp.toNatClampNeg dp.toNatClampNeg n.toNatClampNeg))))[q]? = H[q]? := fun q hq => by simp [Array.getElem?_setIfInBounds, Ne.symm hq]
  obtain ⟨t9, a1, b1⟩ := kk _ _ (fun q hq => by
      obtain ⟨z, -, hz⟩ := List.mem_map.mp hq
      rw [← hz]) (show (H.setIfInBounds q1 _)[q1]? = some _ by simp [Array.getElem?_setIfInBounds, hl]) (by simp) oq _ hheap X'
  exact ⟨t9, step t9 a1, b1⟩
/-- Object's constructor and arraycopy -/
theorem rm_sD_ok (hx : p.tables.exec = Jvm.exec) (hb : c.code = cc) (hml : c.maxLocals = nL) (hts : ∀ w ∈ Tg, w.before args s = true) (hown : s.vm.findClass own = some m.cls) (hK : va_K D cl (rm_ty cA TY) s) (hρ : ∀ k : Nat, ρ (n0 + k) = b0 + k) (hG : rm_G D cl cA ρ b0 H0 hp H locs)
    {ins : Instr} {len : Nat} {lk : List Nat} {lv : rm_L} {st : List Value} {r : List Value × rm_H} (hlk : rm_lkD Tg Tb own ins lk) (hd : decode cc pc = .ok (ins, len)) (hl : lv_has ls nL (rm_lv ρ lv)) (h : rm_sD n0 O TY ins len lk st hp = some r) (hframes : 1 ≤ R.frames) (hlocals : 100 ≤ R.locals)
    (kk : ∀ (H' : Heap) (locs' : List Loc), rm_G D cl cA ρ b0 H0 r.2 H' locs' → W p l e R s m args below meth c H' locs' cells slots Q (F0 m (pc + 3) ls (r.1.map (rm_v ρ)))) :
    W p l e R s m args below meth c H locs cells slots Q (F0 m pc ls (st.map (rm_v ρ))) := by
  have hra : ∀ a : Nat, n0 ≤ a → ρ a = b0 + (a - n0) := fun a ha => by rw [← hρ, Nat.add_sub_of_le ha]
  have hcat : ∀ r : List Value, ((r.map (rm_v ρ)).map fun v => v.category).sum = (r.map fun v => v.category).sum := fun r => by
    rw [List.map_map]
    congr 1
    apply List.map_congr_left
    intro v _
    exact rm_v_cat ρ v
  cases ins
  case invokespecial idx =>
    simp only [rm_sD] at h
    split at h
    · split at h
      · rename_i hc; cases h
        obtain ⟨h1, h2, h3⟩ := hlk rfl
        obtain ⟨rfl, hc⟩ := hc
        refine W.objInit hx hb hown (hts _ h1) (hts _ h2) (hts _ h3) rfl (by rw [hml]; exact hl.1) rfl hd hframes ?_ (kk H locs hG)
        show 2 * 0 + _ + 12 ≤ _
        rw [hcat]
        omega
      · cases h
    · cases h
  case invokestatic idx =>
    simp only [rm_sD] at h
    split at h
    · rename_i n dp a sp a0 r0
      split at h
      · rename_i hc; split at h
        · rename_i t mm f t2 m2 f2 hk1 hk2; split at h
          · rename_i hc2; cases h
            obtain ⟨h1, h2, h3, h4⟩ := hlk.1 rfl
            obtain ⟨rfl, hsum, ha, hsp, hdp, hn⟩ := hc
            obtain ⟨ha0, rfl, hty, hi1, hi2⟩ := hc2
            obtain ⟨ty, hty2, hprim, hfit⟩ : ∃ ty : FieldType, TY[t]? = some ty ∧ refKind ty = false ∧ ∀ i, i < n.toNatClampNeg → fits ty (.int (f2 (sp.toNatClampNeg + i))) = true := by
              rcases hty with h | ⟨h, hf⟩
              · exact ⟨_, h, rfl, fun _ _ => rfl⟩
              · exact ⟨_, h, rfl, fun i hi => List.all_eq_true.mp hf i (List.mem_range.mpr hi)⟩
            simp only [List.map_cons, rm_v]
            rw [hra _ ha, hra _ ha0]
            have hroom : ((r0.map (rm_v ρ)).map fun v => v.category).sum + (nativeFrameWords "java/lang/System" "arraycopy" 5 + 11) ≤ R.locals := by
              rw [hcat, show nativeFrameWords "java/lang/System" "arraycopy" 5 = 7 from rfl]
              omega
            refine rm_copy hx hb (hml.trans hl.1.symm) hown (hts _ h1) (hts _ h2) (hts _ h3) (hts _ h4) hK hty2 hprim (hG.2.1 _ _ hk2) (hG.2.1 _ _ hk1) hsp hdp hn hi1 hi2 hfit hframes hroom hd (fun H1 L hL e1 z o => kk H1 _ ?_)
            refine ((hG.put (i := 0) (x := .inl (t, mm, .inl (va_cpy f2 f sp.toNatClampNeg dp.toNatClampNeg n.toNatClampNeg))) (List.getElem?_eq_some_iff.mp hk1).1 z o e1).forget).locs (fun q hq => ?_)
            rcases List.mem_append.mp hq with h9 | h9
            · exact hG.2.2.2 q h9
            · rw [hL q h9]
              exact Nat.le_add_right _ _
          · cases h
        · cases h
      · cases h
    · cases h
  case checkcast idx =>
    simp only [rm_sD] at h
    split at h
    · rename_i a r0
      split at h
      · rename_i hc; split at h
        · rename_i t mm f hk1; split at h
          · rename_i hty; cases h
            obtain ⟨rfl, ha⟩ := hc
            have hw := hts _ (hlk rfl)
            have hnm : s.vm.findClass "[B" = some (cA t) := va_nm_byte (hK.2 t _ (rm_ty_at hty)).2
            have hcell : H[b0 + (a - n0)]? = some (vp_cell (cA t) (mm, .inl f)) := hG.2.1 _ _ hk1
            have kk2 := kk H locs hG
            simp only [List.map_cons, rm_v] at kk2 ⊢
            rw [hra _ ha] at kk2 ⊢
            intro T hT X
            obtain ⟨vm', X', st⟩ := X.checkcastYes hx hown hw (a := b0 + (a - n0)) (cell := vp_cell (cA t) (mm, .inl f)) (by rw [hT]; exact hcell) rfl hnm (va_asg _ _) (g := F0 m pc ls (.ref (b0 + (a - n0)) :: r0.map (rm_v ρ))) rfl rfl (by rw [hb]; exact hd)
            obtain ⟨t9, a1, b1⟩ := kk2 (T.setVm vm') hT X'
            exact ⟨t9, st t9 a1, b1⟩
          · cases h
        · cases h
      · cases h
    · cases h
  all_goals (simp [rm_sD] at h)
end RM_D
