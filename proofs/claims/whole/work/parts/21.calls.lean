/-- a class that some method of an object's class is selected from is no interface: a method of it that it has itself is the one that is found there -/
theorem rm_same_self {args : Array Value} {s : State} {C : String} {x0 y0 y : MethodName} (hs : (Cond.selects C x0 y0).before args s = true) (he : y0.cls = y.cls) (hi : (Cond.instanceMethod y).before args s = true) (hy : y.cls ≠ "java/lang/invoke/MethodHandle" ∧ y.cls ≠ "java/lang/invoke/VarHandle") : (Cond.sameMethod y.cls y.cls y.name y.desc).before args s = true := by
  obtain ⟨mk, methM, hnamed, hmethM, -, -⟩ := Cond.instanceMethod_spec hi
  obtain ⟨c, r, m, hc, -, hm, -, k, hk, hni⟩ := Cond.selects_spec hs
  have e1 := findClass_of_methodNamed hm
  have e2 := findClass_of_methodNamed hnamed
  have e3 : mk.cls = m.cls := by
    rw [he] at e1
    exact Option.some.inj (e2.symm.trans e1)
  rw [← e3] at hk
  have hfound : s.methodFound? y.cls y.name y.desc = some mk := State.methodFound?_of_named hnamed hy
  have hnamed2 : s.methodNamed? ⟨y.cls, y.name, y.desc⟩ = some mk := hnamed
  simp only [Cond.before, Cond.holds, Cond.value, e2, hfound, hnamed2, hk]
  simp
  exact hni
/-- a method of a class above that is seen there alone: it selects itself, on any receiver -/
theorem rm_priv_sel {args : Array Value} {s : State} {C : String} {x0 y0 y : MethodName} (hs : (Cond.selects C x0 y0).before args s = true) (he : y0.cls = y.cls) (hi : (Cond.instanceMethod y).before args s = true) (hp : (Cond.privateMethod y).before args s = true) (hy : y.cls ≠ "java/lang/invoke/MethodHandle" ∧ y.cls ≠ "java/lang/invoke/VarHandle") : (Cond.selects C y y).before args s = true := by
  obtain ⟨mk, methM, hnamed, hmethM, -, -⟩ := Cond.instanceMethod_spec hi
  obtain ⟨c, r, m, hc, -, hm, -, k, hk, hni⟩ := Cond.selects_spec hs
  have e1 := findClass_of_methodNamed hm
  have e2 := findClass_of_methodNamed hnamed
  have e3 : mk.cls = m.cls := by
    rw [he] at e1
    exact Option.some.inj (e2.symm.trans e1)
  rw [← e3] at hk
  have hfound : s.methodFound? y.cls y.name y.desc = some mk := State.methodFound?_of_named hnamed hy
  have hsel : selectMethod {} s.vm c mk = .method mk := selectMethod_private hmethM (Cond.privateMethod_at hp mk methM hnamed hmethM)
  simp only [Cond.before, Cond.holds, Cond.value, hc, hfound, hnamed, hsel, hk]
  simp
  exact hni
section RM_K
variable {p : Program} {l : Launch} {e : Env} {R : Room} {s : State} {m : MethodId} {args : Array Value} {below : List Frame} {meth : Method} {c : Code} {H : Heap} {locs : List Loc} {cells slots mc ms : Nat} {Q : State → Prop} {cc : ByteArray} {ρ : Nat → Nat} {nL pc : Nat} {ls : Array Slot} {st0 rest : List Value} {Qa : State → Outcome → State → Prop} {free : Addr → Prop}
theorem rm_after3 (hr : va_Run p l e R s m args below meth c H locs cells slots mc ms (F0 m pc ls st0) rest Qa free) (kk : ∀ (v : Option Value) (st₀ t : State) (L : List Loc), st₀.heap = H → (∀ q ∈ L, free q.base) → Qa st₀ (.returned v) t → W p l e R s m args below meth c t.heap (locs ++ L) (cells + mc) (slots + ms) Q (F0 m (pc + 3) ls (v.toList ++ rest))) : W p l e R s m args below meth c H locs cells slots Q (F0 m pc ls st0) := by
  intro T hT X
  obtain ⟨v, st₀, t, T', L, h0, X', hL, e1, -, hq, st⟩ := hr T hT X
  obtain ⟨t2, a1, b1⟩ := kk v st₀ t L h0 hL hq T' e1 X'
  exact ⟨t2, st t2 a1, b1⟩
theorem rm_after5 (hr : va_Run5 p l e R s m args below meth c H locs cells slots mc ms (F0 m pc ls st0) rest Qa free) (kk : ∀ (v : Option Value) (st₀ t : State) (L : List Loc), st₀.heap = H → (∀ q ∈ L, free q.base) → Qa st₀ (.returned v) t → W p l e R s m args below meth c t.heap (locs ++ L) (cells + mc) (slots + ms) Q (F0 m (pc + 5) ls (v.toList ++ rest))) : W p l e R s m args below meth c H locs cells slots Q (F0 m pc ls st0) := by
  intro T hT X
  obtain ⟨v, st₀, t, T', L, h0, X', hL, e1, -, hq, st⟩ := hr T hT X
  obtain ⟨t2, a1, b1⟩ := kk v st₀ t L h0 hL hq T' e1 X'
  exact ⟨t2, st t2 a1, b1⟩
theorem rm_good {Tg L : List Cond} {w0 : Cond} (hgood : ∀ w ∈ Tg, goodWord w = true) (h0 : w0 ∈ Tg) (hL : ∀ w ∈ L, w ∈ Tg) : GoodIn Tg (L ++ (w0 :: Tg)) := by
  intro w hw
  have hm : w ∈ Tg := by
    rcases List.mem_append.mp hw with h | h
    · exact hL w h
    · rcases List.mem_cons.mp h with h | h
      · rw [h]; exact h0
      · exact h
  exact ⟨hm, good_of_word (hgood w hm)⟩
theorem rm_cat (ρ : Nat → Nat) (r : List Value) : ((r.map (rm_v ρ)).map fun v => v.category).sum = (r.map fun v => v.category).sum := by
  rw [List.map_map]
  congr 1
  apply List.map_congr_left
  intro v _
  exact rm_v_cat ρ v
theorem rm_toList (ρ : Nat → Nat) (v : Option Value) (r : List Value) : (v.toList ++ r).map (rm_v ρ) = (v.map (rm_v ρ)).toList ++ r.map (rm_v ρ) := by
  cases v <;> simp
variable {Tg Tb : List Cond} {D : va_G} {cl : List vw_C} {cA : Nat → ClassId} {TY : List FieldType} {own : String} {b0 n0 : Nat} {O : Nat → Option rm_E} {Z : Nat → Value} {H0 : Heap} {hp h2 : rm_H} {strs : List (String × Nat × String × Nat)} {stats : List (String × String × String × Nat)} {P : List rm_M} {rm : Room} {v : Option Value}
set_option maxHeartbeats 4000000 in
theorem rm_call_ok (hx : p.tables.exec = Jvm.exec) (hb : c.code = cc) (hml : c.maxLocals = nL) (hown : s.vm.findClass own = some m.cls) (hts : ∀ w ∈ Tg, w.before args s = true) (hgood : ∀ w ∈ Tg, goodWord w = true) (hTb : ∀ w ∈ Tb, rm_bw w = true) (hE : rm_Env D cl cA TY ρ b0 n0 O Z H0 strs stats Tb s) (hG : rm_G D cl cA ρ b0 H0 hp H locs)
    (hrd : ∀ (a : Nat) (x : rm_E), rm_look n0 O hp a = some x → rm_rd s cl TY H (ρ a) (rm_c ρ x)) {ins : Instr} {len : Nat} {lk : List Nat} {lv : rm_L} {st : List Value} {k : rm_M × List Value × List Value} (hlk : rm_lkI Tg Tb cl P own ins lk) (hd : decode cc pc = .ok (ins, len)) (hl : lv_has ls nL (rm_lv ρ lv)) (h : rm_call P n0 O ins len lk st hp = some k) (h8 : rm_ok8 k.1 k.2.1 k.2.2 = true)
    (hcode : Cond.code k.1.1 k.1.2.1 k.1.2.2.1 k.1.2.2.2.1 ∈ Tg) (hM : Met l k.1.1 (Cond.code k.1.1 k.1.2.1 k.1.2.2.1 k.1.2.2.2.1 :: Tg) rm (rm_Pc D cl cA TY ρ b0 n0 O Z H0 strs stats Tb k.2.1 hp) (rm_Qc D cl cA ρ b0 H0 v h2) rm.cells rm.slots (fun q => b0 ≤ q))
    (hR : rm.frames + 1 ≤ R.frames ∧ 8 + (k.1.2.2.1 + 11) + rm.locals ≤ R.locals) (hf : cells + rm.cells ≤ R.cells ∧ slots + rm.slots ≤ R.slots)
    (kk : ∀ (H' : Heap) (locs' : List Loc), rm_G D cl cA ρ b0 H0 h2 H' locs' → W p l e R s m args below meth c H' locs' (cells + rm.cells) (slots + rm.slots) Q (F0 m (pc + len) ls ((v.toList ++ k.2.2).map (rm_v ρ)))) :
    W p l e R s m args below meth c H locs cells slots Q (F0 m pc ls (st.map (rm_v ρ))) := by
  have hpre : ∀ U : State, U.heap = H → s.WarmedH U.vm → rm_Pc D cl cA TY ρ b0 n0 O Z H0 strs stats Tb k.2.1 hp (k.2.1.map (rm_v ρ)).toArray U := fun U hU hW => ⟨rfl, by rw [hU]; exact hG.forget, hE.warm hTb hW⟩
  have h8' : ((k.2.2.map (rm_v ρ)).map fun v => v.category).sum ≤ 8 := by
    rw [rm_cat]
    simp only [rm_ok8, Bool.and_eq_true, decide_eq_true_eq] at h8
    exact h8.2
  have S : CallFix p m c cc nL s args Tg own := ⟨hx, hb, hml, hown, hts⟩
  have kk3 : len = 3 → ∀ (w : Option Value) (st₀ t : State) (L : List Loc), st₀.heap = H → (∀ q ∈ L, (fun q => b0 ≤ q) q.base) → rm_Qc D cl cA ρ b0 H0 v h2 (k.2.1.map (rm_v ρ)).toArray st₀ (.returned w) t → W p l e R s m args below meth c t.heap (locs ++ L) (cells + rm.cells) (slots + rm.slots) Q (F0 m (pc + 3) ls (w.toList ++ k.2.2.map (rm_v ρ))) := by
    intro e3 w st₀ t L _ hL hq
    subst e3
    obtain ⟨hw, hg2⟩ := hq
    cases hw
    have h9 := kk t.heap (locs ++ L) (hg2.locs (fun q hq => (List.mem_append.mp hq).elim (hG.2.2.2 q) (hL q)))
    rw [rm_toList] at h9
    exact h9
  have kk5 : len = 5 → ∀ (w : Option Value) (st₀ t : State) (L : List Loc), st₀.heap = H → (∀ q ∈ L, (fun q => b0 ≤ q) q.base) → rm_Qc D cl cA ρ b0 H0 v h2 (k.2.1.map (rm_v ρ)).toArray st₀ (.returned w) t → W p l e R s m args below meth c t.heap (locs ++ L) (cells + rm.cells) (slots + rm.slots) Q (F0 m (pc + 5) ls (w.toList ++ k.2.2.map (rm_v ρ))) := by
    intro e3 w st₀ t L _ hL hq
    subst e3
    obtain ⟨hw, hg2⟩ := hq
    cases hw
    have h9 := kk t.heap (locs ++ L) (hg2.locs (fun q hq => (List.mem_append.mp hq).elim (hG.2.2.2 q) (hL q)))
    rw [rm_toList] at h9
    exact h9
  have hrecv : ∀ (b : Nat) (cis : List Nat), rm_cis n0 O hp b cis = true → ∃ ci ∈ cis, ∀ r : vw_C, cl[ci]? = some r → ∃ cell : Cell, H[ρ b]? = some cell ∧ cell.vm.isStatics = false ∧ s.vm.findClass r.1 = some cell.cls := by
    intro b cis hc
    unfold rm_cis at hc
    split at hc
    · rename_i ci fs hlook
      refine ⟨ci, List.contains_iff_mem.mp hc, fun r hr => ?_⟩
      obtain ⟨cell, g1, g2, g3, g4, -⟩ := hrd _ _ hlook r hr
      exact ⟨cell, g1, g2, g4⟩
    · cases hc
  unfold rm_call at h
  split at h
  · rename_i mi kind n cis
    split at h
    · rename_i M hP
      have hlk := hlk mi kind n cis M rfl hP
      split at h
      · rename_i hlen
        have htl : ((st.take n).reverse.map (rm_v ρ)).length = n := by
          rw [List.length_map, List.length_reverse, List.length_take]
          omega
        have hst : st.map (rm_v ρ) = ((st.take n).reverse.map (rm_v ρ)).reverse ++ (st.drop n).map (rm_v ρ) := by
          rw [← List.map_reverse, List.reverse_reverse, ← List.map_append, List.take_append_drop]
        split at h
        · rename_i idx
          split at h
          · rename_i hc
            cases h
            obtain ⟨rfl, hc | hc⟩ := hc
            · obtain ⟨h1, h2, h3, h4⟩ := hlk.1 hc
              exact rm_after3 (va_runS S hM (va_cwS n hts (rm_good hgood hcode (by simp only [List.forall_mem_cons]; exact ⟨h2, h3, h4, fun _ hn => by cases hn⟩)) rfl rfl rfl h1 hR) ⟨rm_blind hTb, hpre⟩ rfl htl hl.1 hst (lv_room h8') hd hf) (kk3 rfl)
            · obtain ⟨h1, ⟨host, h2⟩, h3, h4⟩ := hlk.2 hc
              exact rm_after3 (va_runSN S hM ⟨va_cnB (host := host) n hts (rm_good (L := []) hgood hcode (fun _ hn => by cases hn)) rfl rfl rfl (hE.2.2.2.2.1 _ h2) (hts _ h4) h1 hR, hts _ h3, trivial⟩ ⟨rm_blind hTb, hpre⟩ rfl htl hl.1 hst (lv_room h8') hd hf) (kk3 rfl)
          · cases h
        · rename_i idx
          split at h
          · rename_i b rest hdrop
            rw [hdrop] at hst
            split at h
            · rename_i hc
              cases h
              obtain ⟨rfl, hc | hc⟩ := hc
              · obtain ⟨⟨h1, h2, h3, h4, h5⟩, h6⟩ := hlk.1 hc
                exact rm_after3 (va_runI S hM (cwI n hts (rm_good (L := []) hgood hcode (fun _ hn => by cases hn)) (by show Cond.code _ _ _ M.2.2.2.1 :: Tg = _; rw [h6]) rfl rfl (hts _ h5) (hts _ h3) (hts _ h4) h2 h1 hR) ⟨rm_blind hTb, hpre⟩ rfl htl hl.1 hst (lv_room h8') hd hf) (kk3 rfl)
              · obtain ⟨ci, hci, hcell⟩ := hrecv _ _ hc.2
                obtain ⟨⟨r, hr⟩, h1, h2, h3, h4, h5, h6, h7⟩ := hlk.2 hc.1 ci hci
                exact rm_after3 (va_runSU (hE.1.1 ci r hr).2 S hM (va_cwSU n hts (rm_good hgood hcode (by simp only [List.forall_mem_cons]; exact ⟨h3, h4, h5, h6, h7, fun _ hn => by cases hn⟩)) rfl rfl rfl ⟨h2, h1.2.2⟩ hR) ⟨rm_blind hTb, hcell r hr, hpre⟩ rfl htl hl.1 hst (lv_room h8') hd hf) (kk3 rfl)
            · cases h
          · cases h
        · rename_i idx
          split at h
          · rename_i b rest hdrop
            rw [hdrop] at hst
            split at h
            · rename_i hc
              cases h
              obtain ⟨rfl, hc5, hcis⟩ := hc
              obtain ⟨ci, hci, hcell⟩ := hrecv _ _ hcis
              rcases hc5 with hc5 | hc5 | hc5 | hc5
              · obtain ⟨r, hr, h0, h1, h2, h3, h4, h5⟩ := hlk.1 hc5 ci hci
                exact rm_after3 (va_runV S hM (cwV (C := r.1) n hts (rm_good hgood hcode (by simp only [List.forall_mem_cons]; exact ⟨h2, h3, h4, h5, fun _ hn => by cases hn⟩)) rfl rfl rfl ⟨h0, h1⟩ hR) ⟨rm_blind hTb, hcell r hr, hpre⟩ rfl htl hl.1 hst (lv_room h8') hd hf) (kk3 rfl)
              · obtain ⟨r, x, hr, h0, h1, h2, h3, h4, h5, h6⟩ := hlk.2.1 hc5 ci hci
                exact rm_after3 (va_runU S hM (va_cwU (C := r.1) (owner := M.1.cls) (x := x) n hts (rm_good hgood hcode (by simp only [List.forall_mem_cons]; exact ⟨h2, h3, h4, h5, h6, fun _ hn => by cases hn⟩)) rfl rfl rfl h0 ⟨h1.1, h1.2.1, by rw [show x.desc = M.1.desc by rw [h0]]; exact h1.2.2⟩ hR) ⟨rm_blind hTb, hcell r hr, hpre⟩ rfl htl hl.1 hst (lv_room h8') hd hf) (kk3 rfl)
              · obtain ⟨r, x, x0, y0, b0', m0, r0, hr, h1, h2, h3, h4, h5, h6, h7, h9, h10⟩ := hlk.2.2.1 hc5 ci hci
                have hGd := rm_good (L := []) hgood hcode (fun _ hn => by cases hn)
                have hcu : va_CU R s args own r.1 x.cls _ x M.1 M.2.1 M.2.2.1 M.2.2.2.1 (Cond.code M.1 M.2.1 M.2.2.1 M.2.2.2.1 :: Tg) rm rm.cells rm.slots n := ⟨⟨rfl, rfl, hR.1, hR.2, pay_in hts hGd, List.mem_cons_self⟩, hts _ hcode, hts _ h10, ⟨h1.1, h1.2.1⟩, (fun sig h => by have h2 := h1.2.2; rw [h] at h2; exact (Option.some.inj h2).symm), hts _ h2, rm_same_self (hts _ h6) h7 (hts _ h3) ⟨h1.1, h1.2.1⟩, va_Decl.of (hts _ h3) (hts _ h4), hts _ h5, hts _ h9⟩
                exact rm_after3 (va_runU S hM hcu ⟨rm_blind hTb, hcell r hr, hpre⟩ rfl htl hl.1 hst (lv_room h8') hd hf) (kk3 rfl)
              · obtain ⟨r, x0, y0, hr, h1, h2, h3, h4, h5, h6, h7⟩ := hlk.2.2.2 hc5 ci hci
                have hGd := rm_good (L := []) hgood hcode (fun _ hn => by cases hn)
                have hcu : va_CU R s args own r.1 M.1.cls _ M.1 M.1 M.2.1 M.2.2.1 M.2.2.2.1 (Cond.code M.1 M.2.1 M.2.2.1 M.2.2.2.1 :: Tg) rm rm.cells rm.slots n := ⟨⟨rfl, rfl, hR.1, hR.2, pay_in hts hGd, List.mem_cons_self⟩, hts _ hcode, hts _ h7, ⟨h1.1, h1.2.1⟩, (fun sig h => by have h2 := h1.2.2; rw [h] at h2; exact (Option.some.inj h2).symm), hts _ h2, rm_same_self (hts _ h5) h6 (hts _ h3) ⟨h1.1, h1.2.1⟩, va_Decl.of (hts _ h3) (hts _ hcode), rm_priv_sel (hts _ h5) h6 (hts _ h3) (rm_bw_any (hTb _ h4) (hE.2.2.2.2.1 _ h4)) ⟨h1.1, h1.2.1⟩, hts _ h3⟩
                exact rm_after3 (va_runU S hM hcu ⟨rm_blind hTb, hcell r hr, hpre⟩ rfl htl hl.1 hst (lv_room h8') hd hf) (kk3 rfl)
            · cases h
          · cases h
        · rename_i idx cnt
          split at h
          · rename_i b rest hdrop
            rw [hdrop] at hst
            split at h
            · rename_i hc
              cases h
              obtain ⟨rfl, hc7, hcis⟩ := hc
              obtain ⟨ci, hci, hcell⟩ := hrecv _ _ hcis
              obtain ⟨r, x, hr, h1, h2, h3, h4, h5, h6, h7, h9, h10, h11⟩ := hlk hc7 ci hci
              have hF : va_Fw r.1 x M.1 s := ⟨hE.2.2.2.2.1 _ h6, hE.2.2.2.2.1 _ h7, hE.2.2.2.2.1 _ h9, hE.2.2.2.2.1 _ h10, hE.2.2.2.2.1 _ h11⟩
              exact rm_after5 (va_runF (hE.1.1 ci r hr).2 S hM (va_cwF (C := r.1) (x := x) n hts (rm_good hgood hcode (by simp only [List.forall_mem_cons]; exact ⟨h2, h3, h4, h5, fun _ hn => by cases hn⟩)) rfl rfl rfl hF h1 hR) ⟨rm_blind hTb, hcell r hr, hpre⟩ rfl htl hl.1 hst (lv_room h8') hd hf) (kk5 rfl)
            · cases h
          · cases h
        · cases h
      · cases h
    · cases h
  · cases h
/-- a longer copy of an array of objects -/
theorem rm_sE_ok {CA : Nat → Nat → Bool} (hCP : rm_CP Tg Tb cl TY CA strs stats) (hx : p.tables.exec = Jvm.exec) (hb : c.code = cc) (hml : c.maxLocals = nL) (hown : s.vm.findClass own = some m.cls) (hts : ∀ w ∈ Tg, w.before args s = true) (hgood : ∀ w ∈ Tg, goodWord w = true) (hTb : ∀ w ∈ Tb, rm_bw w = true) (hE : rm_Env D cl cA TY ρ b0 n0 O Z H0 strs stats Tb s) (hρ : ∀ k : Nat, ρ (n0 + k) = b0 + k) (hG : rm_G D cl cA ρ b0 H0 hp H locs)
    (hrd : ∀ (a : Nat) (x : rm_E), rm_look n0 O hp a = some x → rm_rd s cl TY H (ρ a) (rm_c ρ x)) {ins : Instr} {len : Nat} {lk : List Nat} {lv : rm_L} {st : List Value} {k : List Value × rm_H × Nat} (hlk : rm_lkD Tg Tb own ins lk) (hd : decode cc pc = .ok (ins, len)) (hl : lv_has ls nL (rm_lv ρ lv)) (h : rm_sE n0 O TY CA ins len lk st hp = some k)
    (hR : 3 ≤ R.frames ∧ 100 ≤ R.locals) (hf : cells + 1 ≤ R.cells ∧ slots + k.2.2 ≤ R.slots)
    (kk : ∀ (H' : Heap) (locs' : List Loc), rm_G D cl cA ρ b0 H0 k.2.1 H' locs' → W p l e R s m args below meth c H' locs' (cells + 1) (slots + k.2.2) Q (F0 m (pc + 3) ls (k.1.map (rm_v ρ)))) :
    W p l e R s m args below meth c H locs cells slots Q (F0 m pc ls (st.map (rm_v ρ))) := by
  cases ins
  case invokestatic idx =>
    simp only [rm_sE] at h
    split at h
    · rename_i t n a r
      split at h
      · rename_i hc
        split at h
        · rename_i t2 mm f hk
          split at h
          · rename_i hc2
            cases h
            obtain ⟨rfl, hsum, ha, hn, hn4, hty⟩ := hc
            obtain ⟨rfl, hm, hel⟩ := hc2
            obtain ⟨hk0, hcode⟩ := hlk.2 _ rfl
            exact rm_call_ok (P := [(rm_cpN, prog_29_method_119_code, 2, some (.array (.object "java/lang/Object")), [])]) (lk := [0, 0, 2]) (len := 3) (k := ((rm_cpN, prog_29_method_119_code, 2, some (.array (.object "java/lang/Object")), []), [.ref a, .int n], r)) (v := some (.ref (n0 + hp.length))) (rm := { frames := 2, cells := 1, slots := n.toNatClampNeg, locals := 79 }) (st := .int n :: .ref a :: r) hx hb hml hown hts hgood hTb hE hG hrd (fun mi kind n cis M e f => by
              cases e
              cases f
              exact ⟨fun _ => hk0, (fun z => by cases z)⟩) hd hl (by simp [rm_call]) (by
              simp only [rm_ok8, Bool.and_eq_true, decide_eq_true_eq]
              exact ⟨Nat.le_of_ble_eq_true rfl, hsum⟩) hcode (hCP l D cA ρ b0 n0 O Z H0 hp a t2 mm n f hρ ha hn hn4 hk hty hm hel) ⟨hR.1, hR.2⟩ hf (fun H' locs' hG' => kk H' locs' hG')
          · cases h
        · cases h
      · cases h
    · cases h
  case invokevirtual idx =>
    simp only [rm_sE] at h
    split at h
    · rename_i a r
      split at h
      · rename_i hc
        split at h
        · rename_i t mm f hk
          split at h
          · rename_i hc2
            cases h
            obtain ⟨rfl, hsum, ha⟩ := hc
            obtain ⟨hty, hfa⟩ := hc2
            obtain ⟨w1, w2, w3, w4, w5, w6⟩ := hlk rfl
            have hnm : s.vm.findClass "[B" = some (cA t) := va_nm_byte (hE.1.2 t _ (rm_ty_at hty)).2
            have hra : ρ a = b0 + (a - n0) := by rw [← hρ, Nat.add_sub_of_le ha]
            have hlast : ρ (n0 + hp.length) = H.size := by rw [hρ, hG.1]
            have hcat : ((r.map (rm_v ρ)).map fun v => v.category).sum = (r.map fun v => v.category).sum := by
              rw [List.map_map]
              congr 1
              apply List.map_congr_left
              intro v _
              exact rm_v_cat ρ v
            obtain ⟨c0, t0, f1, f2, f3⟩ := Cond.castable_spec (rm_bw_any (hTb _ w6) (A' := args) (hE.2.2.2.2.1 _ w6))
            cases hnm.symm.trans f1
            have hcell : H[b0 + (a - n0)]? = some (vp_cell (cA t) (mm, .inl f)) := hG.2.1 _ _ hk
            have hsz : (vp_cell (cA t) (mm, .inl f)).slots.size = mm := arrV_size _ _ _
            have hcE : ({ cls := (vp_cell (cA t) (mm, .inl f)).cls, slots := (vp_cell (cA t) (mm, .inl f)).slots } : Cell) = vp_cell (cA t) (mm, .inl f) := rfl
            dsimp only at hf kk
            simp only [List.map_cons, rm_v]
            rw [hra]
            intro T hT X
            obtain ⟨-, kA, hkA, comp, hkind⟩ := State.isArrayOf_alike X.warmed.alike ((hE.1.2 t _ (rm_ty_at hty)).1 0 (fun _ => .null))
            obtain ⟨-, kS, hkS, compS, hkindS⟩ := (hE.1.2 t _ (rm_ty_at hty)).1 0 (fun _ => .null)
            obtain ⟨vm', X', st⟩ := X.cloneArray hx hown (hts _ w1) (hts _ w2) (hts _ w3) (hts _ w4) (hts _ w5) (a := b0 + (a - n0)) (cell := vp_cell (cA t) (mm, .inl f)) (by rw [hT]; exact hcell) (fun _ h => by cases h) (fun h => by cases h) hnm f2 f3
              (fun i v hv => by
                have hk' : T.vm.classes[cA t]? = some kA := hkA
                have h9 : fits .byte v = true := va_fit (cA := cA t) (n := mm) (F := fun j => .int (f j)) (fun i hi => by
                  have h8 := List.all_eq_true.mp hfa i (List.mem_range.mpr hi)
                  rw [Nat.zero_add] at h8
                  exact h8) i v hv
                show T.fitsSlot (cA t) .none i v = true
                simpa [State.fitsSlot, State.slotType?, hk', hkind] using h9)
              (g := F0 m pc ls (.ref (b0 + (a - n0)) :: r.map (rm_v ρ))) rfl (by rw [hml]; exact hl.1) rfl (by rw [hb]; exact hd) (by omega) (by show 2 * 0 + _ + 14 ≤ _; rw [hcat]; omega) hf.1 (by rw [hsz]; exact hf.2) (hloader := Vm.clonesLoader_of_array hkS hkindS)
            rw [hcE, hsz] at X'
            rw [hcE] at st
            generalize hH1 : H.push (vp_cell (cA t) (mm, .inl f)) = H1
            have z1 : H1.size = H.size + 1 := by rw [← hH1, Array.size_push]
            have e1 : H1[H.size]? = some (vp_cell (cA t) (mm, .inl f)) := by rw [← hH1, Array.getElem?_push_size]
            have o1 : ∀ q : Nat, q < H.size → H1[q]? = H[q]? := fun q hq => by rw [← hH1, Array.getElem?_push, if_neg (Nat.ne_of_lt hq)]
            have hh := kk H1 locs (hG.new z1 o1 e1)
            simp only [List.map_cons, rm_v] at hh
            rw [hlast] at hh
            obtain ⟨t9, b1, b2⟩ := hh ((T.setVm vm').pushCell (vp_cell (cA t) (mm, .inl f))) (by rw [← hH1, ← hT]; rfl) X'
            refine ⟨t9, st t9 ?_, b2⟩
            rw [hT]
            exact b1
          · cases h
        · cases h
      · cases h
    · cases h
  all_goals (simp [rm_sE] at h)
end RM_K
