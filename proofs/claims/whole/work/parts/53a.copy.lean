/-! ARRAYS.COPYOF OF OBJECTS, of the real machine: its contract (getClass of an array, a class constant, a copy of references). -/
section CPY
variable {p : Program} {l : Launch} {e : Env} {R : Room} {s : State} {m : MethodId} {args : Array Value} {below : List Frame} {meth : Method} {c : Code} {H : Heap} {locs : List Loc} {cells slots : Nat} {Q : State → Prop} {cc : ByteArray} {pc : Nat} {ls : Array Slot} {rest : List Value} {D : va_G} {cl : List vw_C} {cA : Nat → ClassId} {TY : List FieldType} {own : String}
/-- arraycopy of references, into a made array -/
theorem cp_copy (hx : p.tables.exec = Jvm.exec) (hb : c.code = cc) (hml : c.maxLocals = ls.size) {idx : Nat} (hown : s.vm.findClass own = some m.cls) (hlink : (Cond.methodLink own idx arraycopyName).before args s = true) (hnat : (Cond.native arraycopyName).before args s = true) (hstat : (Cond.static arraycopyName).before args s = true) (hini : (Cond.initialized "java/lang/System").before args s = true)
    (hK : va_K D cl (rm_ty cA TY) s) {q0 q1 t N0 N1 : Nat} {f f1 : Nat → Option Nat} {E : String} (ht : TY[t]? = some (.object E)) (hc0 : H[q0]? = some (vp_cell (cA t) (N0, .inr (.inr (.inr (.inr f)))))) (hc1 : H[q1]? = some (vp_cell (cA t) (N1, .inr (.inr (.inr (.inr f1))))))
    {sp dp n : Int32} (h1 : ¬ sp < 0) (h2 : ¬ dp < 0) (h3 : ¬ n < 0) (h4 : sp.toNatClampNeg + n.toNatClampNeg ≤ N0) (h5 : dp.toNatClampNeg + n.toNatClampNeg ≤ N1) (hel : ∀ i : Nat, i < n.toNatClampNeg → ∀ y : Nat, f (sp.toNatClampNeg + i) = some y → va_Any E s H y)
    (hframes : 1 ≤ R.frames) (hlocals : (rest.map fun v => v.category).sum + (nativeFrameWords "java/lang/System" "arraycopy" 5 + 11) ≤ R.locals) (hdg : decode cc pc = .ok (.invokestatic idx, 3))
    (kk : ∀ (H1 : Heap) (L : List Loc), (∀ q ∈ L, q.base = q1) → H1[q1]? = some (vp_cell (cA t) (N1, .inr (.inr (.inr (.inr (va_cpy f f1 sp.toNatClampNeg dp.toNatClampNeg n.toNatClampNeg)))))) → H1.size = H.size → (∀ q : Nat, q ≠ q1 → H1[q]? = H[q]?) → W p l e R s m args below meth c H1 (locs ++ L) cells slots Q (F0 m (pc + 3) ls rest)) : W p l e R s m args below meth c H locs cells slots Q (F0 m pc ls (.int n :: .int dp :: .ref q1 :: .int sp :: .ref q0 :: rest)) := by
  intro T hT X
  obtain ⟨-, k0, hk0, cm0, hkk0⟩ := (hK.2 t _ (rm_ty_at ht)).1 N0 (fun j => va_rf (f j))
  obtain ⟨-, k1, hk1, cm1, hkk1⟩ := (hK.2 t _ (rm_ty_at ht)).1 N1 (fun j => va_rf (f1 j))
  obtain ⟨vm', X', step⟩ := X.arraycopy hx hown hlink hnat hstat hini (src := q0) (dst := q1) (cs := vp_cell (cA t) (N0, .inr (.inr (.inr (.inr f))))) (cd := vp_cell (cA t) (N1, .inr (.inr (.inr (.inr f1))))) (srcPos := sp) (destPos := dp) (n := n) (by rw [hT]; exact hc0) (by rw [hT]; exact hc1)
    (fun _ h => by cases h) (fun _ h => by cases h) (fun h => by cases h) (fun h => by cases h) hk0 hk1 hkk0 hkk1 rfl h1 h2 h3
    (by rw [rm_nn sp h1, rm_nn n h3]; show ¬ _ > ((arrV (cA t) N0 (fun j => va_rf (f j))).slots.size : Int); rw [arrV_size]; omega)
    (by rw [rm_nn dp h2, rm_nn n h3]; show ¬ _ > ((arrV (cA t) N1 (fun j => va_rf (f1 j))).slots.size : Int); rw [arrV_size]; omega)
    (fun vm₁ hal i hi => by
      have e : (vp_cell (cA t) (N0, .inr (.inr (.inr (.inr f))))).slots.getD (sp.toNatClampNeg + i) .null = va_rf (f (sp.toNatClampNeg + i)) := by
        show (arrV (cA t) N0 (fun j => va_rf (f j))).slots.getD _ _ = _
        rw [Array.getD_eq_getD_getElem?, arrV_read _ _ (by omega)]
        rfl
      rw [e]
      cases hy : f (sp.toNatClampNeg + i) with
      | none => exact ⟨rfl, trivial⟩
      | some y =>
        obtain ⟨cellV, g1, g2, ⟨kC, hkC⟩, hasg⟩ := hel i hi y hy
        obtain ⟨kA, comp, r1, r2, r3, -⟩ := (hK.2 t _ (rm_ty_at ht)).2
        cases hk1.symm.trans r1
        cases hkk1.symm.trans r2
        obtain ⟨kE, hkE, -⟩ := Vm.findClass_spec r3
        obtain ⟨kC', hkC', -⟩ := hal.2.2 _ _ hkC
        obtain ⟨kE', hkE', -⟩ := hal.2.2 _ _ hkE
        refine ⟨rfl, cellV, (show T.heap[y]? = some cellV by rw [hT]; exact g1), (fun q h => by rw [h] at g2; cases g2), ⟨kC', hkC'⟩, ?_, ?_⟩
        · exact ⟨kE', hkE'⟩
        · show vm₁.assignable _ _ = true
          rw [hal.assignable]
          exact hasg _ r3)
    (g := F0 m pc ls (.int n :: .int dp :: .ref q1 :: .int sp :: .ref q0 :: rest)) rfl (by rw [hml]) (rest := rest) rfl (by rw [hb]; exact hdg) hframes (by show 2 * 0 + _ + _ ≤ _; omega)
  have e1 : copied (vp_cell (cA t) (N0, .inr (.inr (.inr (.inr f))))) (vp_cell (cA t) (N1, .inr (.inr (.inr (.inr f1))))) sp dp n = vp_cell (cA t) (N1, .inr (.inr (.inr (.inr (va_cpy f f1 sp.toNatClampNeg dp.toNatClampNeg n.toNatClampNeg))))) := by
    rw [vp_cell_q, vp_cell_q, vp_cell_q]
    exact va_copied (fun z => va_rf z) (cA t) (cA t) f f1 h4
  rw [e1] at X' step
  have hl : q1 < H.size := (Array.getElem?_eq_some_iff.mp hc1).1
  have hheap : ((T.setVm vm').setCell q1 (vp_cell (cA t) (N1, .inr (.inr (.inr (.inr (va_cpy f f1 sp.toNatClampNeg dp.toNatClampNeg n.toNatClampNeg))))))).heap = H.setIfInBounds q1 (vp_cell (cA t) (N1, .inr (.inr (.inr (.inr (va_cpy f f1 sp.toNatClampNeg dp.toNatClampNeg n.toNatClampNeg)))))) := by rw [← hT]; rfl
  have oq : ∀ q : Nat, q ≠ q1 → (H.setIfInBounds q1 (vp_cell (cA t) (N1, .inr (.inr (.inr (.inr (va_cpy f f1 sp.toNatClampNeg dp.toNatClampNeg n.toNatClampNeg)))))))[q]? = H[q]? := fun q hq => by simp [Array.getElem?_setIfInBounds, Ne.symm hq]
  obtain ⟨t9, a1, b1⟩ := kk _ _ (fun q hq => by
      obtain ⟨z, -, hz⟩ := List.mem_map.mp hq
      rw [← hz]) (show (H.setIfInBounds q1 _)[q1]? = some _ by simp [Array.getElem?_setIfInBounds, hl]) (by simp) oq _ hheap X'
  exact ⟨t9, step t9 a1, b1⟩
end CPY
theorem cp_cpy (ρ : Nat → Nat) (f g : Nat → Option Nat) (a b n : Nat) : (fun j => (va_cpy f g a b n j).map ρ) = va_cpy (fun j => (f j).map ρ) (fun j => (g j).map ρ) a b n := by
  funext j
  unfold va_cpy
  split <;> rfl
theorem cp_t {t : Nat} (h : ah_TY[t]? = some (.object "java/lang/Object")) : t = 4 := by
  have hl : t < ah_TY.length := (List.getElem?_eq_some_iff.mp h).1
  have key : ∀ t, t < ah_TY.length → ah_TY[t]? = some (.object "java/lang/Object") → t = 4 := by decide +kernel
  exact key t hl h
theorem cd_21_0 : decode ah_M21.2.1 0 = .ok (.iload_n 0, 1) := by decide +kernel
theorem cd_21_1 : decode ah_M21.2.1 1 = .ok (.iload_n 1, 1) := by decide +kernel
theorem cd_21_2 : decode ah_M21.2.1 2 = .ok (.if_icmp .gt 7, 3) := by decide +kernel
theorem cd_21_3 : decode ah_M21.2.1 5 = .ok (.iload_n 0, 1) := by decide +kernel
theorem cd_21_4 : decode ah_M21.2.1 6 = .ok (.goto 4, 3) := by decide +kernel
theorem cd_21_6 : decode ah_M21.2.1 10 = .ok (.ireturn, 1) := by decide +kernel
theorem cd_107_0 : decode ah_M107.2.1 0 = .ok (.aload_n 0, 1) := by decide +kernel
theorem cd_107_1 : decode ah_M107.2.1 1 = .ok (.iload_n 1, 1) := by decide +kernel
theorem cd_107_2 : decode ah_M107.2.1 2 = .ok (.aload_n 0, 1) := by decide +kernel
theorem cd_107_3 : decode ah_M107.2.1 3 = .ok (.invokevirtual 86, 3) := by decide +kernel
theorem cd_107_4 : decode ah_M107.2.1 6 = .ok (.invokestatic 300, 3) := by decide +kernel
theorem cd_107_5 : decode ah_M107.2.1 9 = .ok (.areturn, 1) := by decide +kernel
theorem cd_108_0 : decode ah_M108.2.1 0 = .ok (.aload_n 2, 1) := by decide +kernel
theorem cd_108_1 : decode ah_M108.2.1 1 = .ok (.ldc 110, 2) := by decide +kernel
theorem cd_108_2 : decode ah_M108.2.1 3 = .ok (.if_acmp .ne 10, 3) := by decide +kernel
theorem cd_108_3 : decode ah_M108.2.1 6 = .ok (.iload_n 1, 1) := by decide +kernel
theorem cd_108_4 : decode ah_M108.2.1 7 = .ok (.anewarray 2, 3) := by decide +kernel
theorem cd_108_5 : decode ah_M108.2.1 10 = .ok (.goto 14, 3) := by decide +kernel
theorem cd_108_11 : decode ah_M108.2.1 24 = .ok (.astore_n 3, 1) := by decide +kernel
theorem cd_108_12 : decode ah_M108.2.1 25 = .ok (.aload_n 0, 1) := by decide +kernel
theorem cd_108_13 : decode ah_M108.2.1 26 = .ok (.iconst 0, 1) := by decide +kernel
theorem cd_108_14 : decode ah_M108.2.1 27 = .ok (.aload_n 3, 1) := by decide +kernel
theorem cd_108_15 : decode ah_M108.2.1 28 = .ok (.iconst 0, 1) := by decide +kernel
theorem cd_108_16 : decode ah_M108.2.1 29 = .ok (.aload_n 0, 1) := by decide +kernel
theorem cd_108_17 : decode ah_M108.2.1 30 = .ok (.arraylength, 1) := by decide +kernel
theorem cd_108_18 : decode ah_M108.2.1 31 = .ok (.iload_n 1, 1) := by decide +kernel
theorem cd_108_19 : decode ah_M108.2.1 32 = .ok (.invokestatic 304, 3) := by decide +kernel
theorem cd_108_20 : decode ah_M108.2.1 35 = .ok (.invokestatic 150, 3) := by decide +kernel
theorem cd_108_21 : decode ah_M108.2.1 38 = .ok (.aload_n 3, 1) := by decide +kernel
theorem cd_108_22 : decode ah_M108.2.1 39 = .ok (.areturn, 1) := by decide +kernel
section CPM
variable {D : va_G} {cA : Nat → ClassId} {ρ : Nat → Nat} {b0 n0 : Nat} {O : Nat → Option rm_E} {Z : Nat → Value} {H0 : Heap} {hp : rm_H}
theorem cp_Tb : ∀ w ∈ ah_Tb, rm_bw w = true := fun _ h => (List.mem_filter.mp h).2
theorem cp_Tg : ∀ w ∈ ah_Tg, goodWord w = true := fun _ h => (List.mem_filter.mp h).2
set_option maxHeartbeats 2000000 in
theorem cp_min (l : Launch) (x y : Int32) (hxy : ¬ y < x) : Met l ah_M21.1 (Cond.code ah_M21.1 ah_M21.2.1 ah_M21.2.2.1 ah_M21.2.2.2.1 :: ah_Tg) { frames := 0, cells := 0, slots := 0, locals := 0 } (rm_Pc D ah_cl cA ah_TY ρ b0 n0 O Z H0 ah_strs ah_stats ah_Tb [.int x, .int y] hp) (rm_Qc D ah_cl cA ρ b0 H0 (some (.int x)) hp) 0 0 (fun q => b0 ≤ q) := by
  refine va_MetF (cc := ah_M21.2.1) (maxL := 2) (ret := some .int) (by decide +kernel) rfl ?_
  intro p e s m args below meth c s₁ B hml hv
  obtain ⟨rfl, hG, hE⟩ := hv
  have hl := lv_entry (([.int x, .int y] : List Value).map (rm_v ρ)) (n := 2) (Nat.le_of_ble_eq_true rfl)
  rw [← rm_lv_args] at hl
  rw [lg_entry_eq]
  refine rm_sA_ok (ρ := ρ) (g := fun _ => false) (nL := 2) (pc := 0) (st := []) (r := (1, lv_args 0 [.int x, .int y], [.int x])) B.exec B.bytes (fun _ _ h => by cases h) cd_21_0 hl rfl (fun ls1 hl1 => ?_)
  refine rm_sA_ok (ρ := ρ) (g := fun _ => false) (nL := 2) (pc := 1) (st := [.int x]) (r := (2, lv_args 0 [.int x, .int y], [.int y, .int x])) B.exec B.bytes (fun _ _ h => by cases h) cd_21_1 hl1 rfl (fun ls2 hl2 => ?_)
  refine rm_sA_ok (ρ := ρ) (g := fun _ => false) (nL := 2) (pc := 2) (st := [.int y, .int x]) (r := (5, lv_args 0 [.int x, .int y], [])) B.exec B.bytes (fun _ _ h => by cases h) cd_21_2 hl2 (by simp [rm_sA, rm_b2, hxy]) (fun ls3 hl3 => ?_)
  refine rm_sA_ok (ρ := ρ) (g := fun _ => false) (nL := 2) (pc := 5) (st := []) (r := (6, lv_args 0 [.int x, .int y], [.int x])) B.exec B.bytes (fun _ _ h => by cases h) cd_21_3 hl3 rfl (fun ls4 hl4 => ?_)
  refine rm_sA_ok (ρ := ρ) (g := fun _ => false) (nL := 2) (pc := 6) (st := [.int x]) (r := (10, lv_args 0 [.int x, .int y], [.int x])) B.exec B.bytes (fun _ _ h => by cases h) cd_21_4 hl4 rfl (fun ls5 hl5 => ?_)
  exact rm_ret_ok (ret := some .int) (st := [.int x]) B.exec B.bytes B.returns B.notSynchronized hG cd_21_6 rfl
def cp_P (D : va_G) (cA : Nat → ClassId) (ρ : Nat → Nat) (b0 n0 : Nat) (O : Nat → Option rm_E) (Z : Nat → Value) (H0 : Heap) (a mi : Nat) (n : Int32) (hp : rm_H) : Array Value → State → Prop := fun q U => q = ([.ref (ρ a), .int n, .ref mi] : List Value).toArray ∧ rm_G D ah_cl cA ρ b0 H0 hp U.heap [] ∧ rm_Env D ah_cl cA ah_TY ρ b0 n0 O Z H0 ah_strs ah_stats ah_Tb U ∧ va_Mi "[Ljava/lang/Object;" mi U
theorem cp_blind {a mi : Nat} {n : Int32} : FrameBlind (cp_P D cA ρ b0 n0 O Z H0 a mi n hp) := fun q U g mk z => ⟨z.1, z.2.1, rm_Env.same (s := U) (U := U.calling g mk q) cp_Tb rfl z.2.2.1, va_Mi.moved (u := U) (U := U.calling g mk q) (Vm.Alike.refl _) z.2.2.2⟩
set_option maxHeartbeats 4000000 in
theorem cp_108 (l : Launch) {a mi m : Nat} {n : Int32} {f : Nat → Option Nat} (hρ : ∀ k : Nat, ρ (n0 + k) = b0 + k) (ha : n0 ≤ a) (hn : ¬ n < 0) (hn4 : n.toNatClampNeg * 4 ≤ 536870912) (hk : hp[a - n0]? = some (.inl (4, m, .inr (.inr (.inr (.inr f)))))) (hm : m ≤ n.toNatClampNeg) (hel : rm_el n0 O ah_CA hp 4 f m = true) :
    Met l ah_M108.1 (Cond.code ah_M108.1 ah_M108.2.1 ah_M108.2.2.1 ah_M108.2.2.2.1 :: ah_Tg) { frames := 1, cells := 1, slots := n.toNatClampNeg, locals := 30 } (cp_P D cA ρ b0 n0 O Z H0 a mi n hp) (rm_Qc D ah_cl cA ρ b0 H0 (some (.ref (n0 + hp.length))) (hp ++ [rm_cpA 4 n.toNatClampNeg m f])) 1 n.toNatClampNeg (fun q => b0 ≤ q) := by
  refine va_MetF (cc := ah_M108.2.1) (maxL := 4) (ret := ah_M108.2.2.2.1) (by decide +kernel) rfl ?_
  intro p e s mt args below meth c s₁ B hml hv
  obtain ⟨rfl, hG, hE, hMi⟩ := hv
  have htsg : ∀ w ∈ ah_Tg, w.before ([.ref (ρ a), .int n, .ref mi] : List Value).toArray s = true := fun w hw => atoms_spec (ws := Cond.code ah_M108.1 ah_M108.2.1 ah_M108.2.2.1 ah_M108.2.2.2.1 :: ah_Tg) B.pre w (List.mem_cons_of_mem _ hw)
  have hts2 : ∀ w ∈ ah_Tg ++ ah_Tb, w.before ([.ref (ρ a), .int n, .ref mi] : List Value).toArray s = true := fun w hw => (List.mem_append.mp hw).elim (htsg w) (fun h => rm_bw_any (cp_Tb w h) (hE.2.2.2.2.1 w h))
  have hg2 : ∀ w ∈ ah_Tg ++ ah_Tb, w.before #[] s = true := fun w hw => (List.mem_append.mp hw).elim (fun h => rm_good_any (cp_Tg w h) (htsg w h)) (fun h => hE.2.2.2.2.1 w h)
  have hown : s.vm.findClass "java/util/Arrays" = some mt.cls := findClass_of_methodNamed B.named
  have hrd : ∀ (a : Nat) (x : rm_E), rm_look n0 O hp a = some x → rm_rd s ah_cl ah_TY s.heap (ρ a) (rm_c ρ x) := fun a x hx => rm_rd_look hts2 ah_Cl hE.1 hE.2.1 hρ hG hx
  have hra : ∀ a : Nat, n0 ≤ a → ρ a = b0 + (a - n0) := fun a ha => by rw [← hρ, Nat.add_sub_of_le ha]
  have hl := lv_entry ([.ref (ρ a), .int n, .ref mi]) (n := 4) (Nat.le_of_ble_eq_true rfl)
  rw [lg_entry_eq]
  refine rm_sA_ok (ρ := id) (g := fun _ => true) (nL := 4) (pc := 0) (lv := lv_args 0 [.ref (ρ a), .int n, .ref mi]) (st := []) (r := (1, lv_args 0 [.ref (ρ a), .int n, .ref mi], [.ref mi])) B.exec B.bytes (fun _ _ _ _ h => h) cd_108_0 hl rfl (fun ls1 hl1 => ?_)
  refine va_ldcM (pc := 1) (rest := [.ref mi]) B.exec B.bytes hown (htsg _ tg_786) hMi cd_108_1 ?_
  refine rm_sA_ok (ρ := id) (g := fun _ => true) (nL := 4) (pc := 3) (st := [.ref mi, .ref mi]) (r := (6, lv_args 0 [.ref (ρ a), .int n, .ref mi], [])) B.exec B.bytes (fun _ _ _ _ h => h) cd_108_2 hl1 (by simp [rm_sA, rm_b3, rm_rf, rm_cm]) (fun ls2 hl2 => ?_)
  have hl3 : lv_has ls2 4 (rm_lv ρ [(0, .ref a), (1, .int n)]) := ⟨hl2.1, hl2.2.1, fun q hq => hl2.2.2 q (by
    have hq : q ∈ ([(0, .ref (ρ a)), (1, .int n)] : rm_L) := hq
    show q ∈ ([(0, .ref (ρ a)), (1, .int n), (2, .ref mi)] : rm_L)
    simp only [List.mem_cons, List.not_mem_nil, or_false] at hq ⊢
    rcases hq with h9 | h9
    · exact Or.inl h9
    · exact Or.inr (Or.inl h9))⟩
  refine rm_sA_ok (ρ := ρ) (g := fun _ => false) (nL := 4) (pc := 6) (st := []) (r := (7, [(0, .ref a), (1, .int n)], [.int n])) B.exec B.bytes (fun _ _ h => by cases h) cd_108_3 hl3 rfl (fun ls3 hl4 => ?_)
  have h0 : rm_sC n0 O ah_TY ah_FT ah_DV ah_CA (.anewarray 2) 3 [4] 7 [(0, .ref a), (1, .int n)] [.int n] hp = some (10, [(0, .ref a), (1, .int n)], [.ref (n0 + hp.length)], hp ++ [.inl (4, n.toNatClampNeg, .inr (.inr (.inr (.inr (fun _ => none)))))], 1, n.toNatClampNeg) := by
    show (if ¬ n < 0 ∧ n.toNatClampNeg * 4 ≤ 536870912 then _ else none) = _
    rw [if_pos ⟨hn, hn4⟩]
  refine rm_sC_ok (nL := 4) (pc := 7) (own := "java/util/Arrays") (mn := "copyOf") (st := [.int n]) B.exec B.bytes hts2 hg2 hown (fun h => absurd h (by decide)) ah_Cl ah_Cn hE.1 hρ ah_ca ah_cs hG hrd (ar_108 _ (List.mem_of_getElem? (i := 4) rfl)).2.1 cd_108_4 hl4 h0 (by show 0 + 1 ≤ 1; omega) (by show 0 + n.toNatClampNeg ≤ n.toNatClampNeg; omega) (fun H1 locs1 ls4 hG1 hl5 => ?_)
  dsimp only at hG1 hl5
  have hlen : a - n0 < hp.length := (List.getElem?_eq_some_iff.mp hk).1
  have hk1 : (hp ++ [.inl (4, n.toNatClampNeg, .inr (.inr (.inr (.inr (fun _ => none)))))] : rm_H)[a - n0]? = some (.inl (4, m, .inr (.inr (.inr (.inr f))))) := by rw [List.getElem?_append_left hlen]; exact hk
  have hk2 : (hp ++ [.inl (4, n.toNatClampNeg, .inr (.inr (.inr (.inr (fun _ => none)))))] : rm_H)[hp.length]? = some (.inl (4, n.toNatClampNeg, .inr (.inr (.inr (.inr (fun _ => none)))))) := by rw [List.getElem?_append_right (Nat.le_refl _), Nat.sub_self]; rfl
  have hlook1 : rm_look n0 O (hp ++ [.inl (4, n.toNatClampNeg, .inr (.inr (.inr (.inr (fun _ => none)))))]) a = some (.inl (4, m, .inr (.inr (.inr (.inr f))))) := by
    unfold rm_look
    rw [if_neg (Nat.not_lt.mpr ha)]
    exact hk1
  have hm31 : m < 2 ^ 31 := by omega
  have hmin : ¬ n < Int32.ofNat m := by
    intro h
    have h9 := Int32.lt_iff_toInt_lt.mp h
    rw [rm_nn n hn, show (Int32.ofNat m).toInt = (m : Int) from nI_toInt hm31] at h9
    omega
  have hmc : (Int32.ofNat m).toNatClampNeg = m := nI_clamp hm31
  have hmp : ¬ Int32.ofNat m < 0 := nI_pos hm31
  refine rm_sA_ok (ρ := ρ) (g := fun _ => false) (nL := 4) (pc := 10) (st := [.ref (n0 + hp.length)]) (r := (24, [(0, .ref a), (1, .int n)], [.ref (n0 + hp.length)])) B.exec B.bytes (fun _ _ h => by cases h) cd_108_5 hl5 rfl (fun ls5 hl6 => ?_)
  refine rm_sA_ok (ρ := ρ) (g := fun _ => false) (nL := 4) (pc := 24) (st := [.ref (n0 + hp.length)]) (r := (25, [(3, .ref (n0 + hp.length)), (0, .ref a), (1, .int n)], [])) B.exec B.bytes (fun _ _ h => by cases h) cd_108_11 hl6 rfl (fun ls6 hl7 => ?_)
  refine rm_sA_ok (ρ := ρ) (g := fun _ => false) (nL := 4) (pc := 25) (st := []) (r := (26, [(3, .ref (n0 + hp.length)), (0, .ref a), (1, .int n)], [.ref a])) B.exec B.bytes (fun _ _ h => by cases h) cd_108_12 hl7 rfl (fun ls7 hl8 => ?_)
  refine rm_sA_ok (ρ := ρ) (g := fun _ => false) (nL := 4) (pc := 26) (st := [.ref a]) (r := (27, [(3, .ref (n0 + hp.length)), (0, .ref a), (1, .int n)], [.int 0, .ref a])) B.exec B.bytes (fun _ _ h => by cases h) cd_108_13 hl8 rfl (fun ls8 hl9 => ?_)
  refine rm_sA_ok (ρ := ρ) (g := fun _ => false) (nL := 4) (pc := 27) (st := [.int 0, .ref a]) (r := (28, [(3, .ref (n0 + hp.length)), (0, .ref a), (1, .int n)], [.ref (n0 + hp.length), .int 0, .ref a])) B.exec B.bytes (fun _ _ h => by cases h) cd_108_14 hl9 rfl (fun ls9 hl10 => ?_)
  refine rm_sA_ok (ρ := ρ) (g := fun _ => false) (nL := 4) (pc := 28) (st := [.ref (n0 + hp.length), .int 0, .ref a]) (r := (29, [(3, .ref (n0 + hp.length)), (0, .ref a), (1, .int n)], [.int 0, .ref (n0 + hp.length), .int 0, .ref a])) B.exec B.bytes (fun _ _ h => by cases h) cd_108_15 hl10 rfl (fun ls10 hl11 => ?_)
  refine rm_sA_ok (ρ := ρ) (g := fun _ => false) (nL := 4) (pc := 29) (st := [.int 0, .ref (n0 + hp.length), .int 0, .ref a]) (r := (30, [(3, .ref (n0 + hp.length)), (0, .ref a), (1, .int n)], [.ref a, .int 0, .ref (n0 + hp.length), .int 0, .ref a])) B.exec B.bytes (fun _ _ h => by cases h) cd_108_16 hl11 rfl (fun ls11 hl12 => ?_)
  have hrd1 : ∀ (a : Nat) (x : rm_E), rm_look n0 O (hp ++ [.inl (4, n.toNatClampNeg, .inr (.inr (.inr (.inr (fun _ => none)))))]) a = some x → rm_rd s ah_cl ah_TY H1 (ρ a) (rm_c ρ x) := fun a x hx => rm_rd_look hts2 ah_Cl hE.1 hE.2.1 hρ hG1 hx
  refine rm_alen (q := ρ a) (n := m) (pc := 30) B.exec B.bytes (hrd1 a _ hlook1 _ rfl) cd_108_17 ?_
  refine rm_sA_ok (ρ := ρ) (g := fun _ => false) (nL := 4) (pc := 31) (st := [.int (Int32.ofNat m), .int 0, .ref (n0 + hp.length), .int 0, .ref a]) (r := (32, [(3, .ref (n0 + hp.length)), (0, .ref a), (1, .int n)], [.int n, .int (Int32.ofNat m), .int 0, .ref (n0 + hp.length), .int 0, .ref a])) B.exec B.bytes (fun _ _ h => by cases h) cd_108_18 hl12 rfl (fun ls12 hl13 => ?_)
  refine rm_call_ok (P := ah_P) (lk := [21, 0, 2]) (len := 3) (pc := 32) (nL := 4) (own := "java/util/Arrays") (k := (ah_M21, [.int (Int32.ofNat m), .int n], [.int 0, .ref (n0 + hp.length), .int 0, .ref a])) (v := some (.int (Int32.ofNat m))) (rm := { frames := 0, cells := 0, slots := 0, locals := 0 }) (st := [.int n, .int (Int32.ofNat m), .int 0, .ref (n0 + hp.length), .int 0, .ref a]) B.exec B.bytes hml hown htsg cp_Tg cp_Tb hE hG1 hrd1 (ar_108 _ (List.mem_of_getElem? (i := 19) rfl)).2.2.1 cd_108_19 hl13 rfl rfl am_21.1 (cp_min l (Int32.ofNat m) n hmin) ⟨by show 0 + 1 ≤ 1; omega, by show 8 + (2 + 11) + 0 ≤ 30; omega⟩ ⟨by show 0 + 1 + 0 ≤ 1; omega, by show 0 + n.toNatClampNeg + 0 ≤ n.toNatClampNeg; omega⟩ (fun H2 locs2 hG2 => ?_)
  have hnew : ρ (n0 + hp.length) = b0 + hp.length := hρ _
  have hrow := (ar_108 _ (List.mem_of_getElem? (i := 20) rfl)).2.2.2.1 rfl
  have hrd2 : ∀ (a : Nat) (x : rm_E), rm_look n0 O (hp ++ [.inl (4, n.toNatClampNeg, .inr (.inr (.inr (.inr (fun _ => none)))))]) a = some x → rm_rd s ah_cl ah_TY H2 (ρ a) (rm_c ρ x) := fun a x hx => rm_rd_look hts2 ah_Cl hE.1 hE.2.1 hρ hG2 hx
  show W p l e _ s mt _ below meth c H2 locs2 _ _ _ (F0 mt 35 ls12 [.int (Int32.ofNat m), .int 0, .ref (ρ (n0 + hp.length)), .int 0, .ref (ρ a)])
  rw [hnew]
  refine cp_copy (pc := 35) (q0 := ρ a) (rest := []) (t := 4) (N0 := m) (N1 := n.toNatClampNeg) (f := fun j => (f j).map ρ) (f1 := fun _ => none) (E := "java/lang/Object") (sp := 0) (dp := 0) (n := Int32.ofNat m) B.exec B.bytes (hml.trans hl13.1.symm) hown (htsg _ hrow.1) (htsg _ hrow.2.1) (htsg _ hrow.2.2.1) (htsg _ hrow.2.2.2) hE.1 rfl (by rw [hra a ha]; exact hG2.2.1 _ _ hk1) (hG2.2.1 _ _ hk2) (by decide) (by decide) hmp ?_ ?_ (fun i hi y hy => ?_) ?_ ?_ cd_108_20 (fun H3 L hL e1 z o => ?_)
  · rw [hmc]; show 0 + m ≤ m; omega
  · rw [hmc]; show 0 + m ≤ n.toNatClampNeg; omega
  · rw [hmc] at hi
    have hy : (f (0 + i)).map ρ = some y := hy
    rw [Nat.zero_add] at hy
    have hq := List.all_eq_true.mp hel i (List.mem_range.mpr hi)
    cases hfi : f i with
    | none => rw [hfi] at hy; cases hy
    | some b =>
      rw [hfi] at hy hq
      cases hy
      dsimp only at hq
      split at hq
      · rename_i ci fs hlb
        obtain ⟨rc, hrc⟩ := ah_cs _ _ hq
        obtain ⟨E, hE4, hcast⟩ := ah_ca _ _ _ hq hrc
        have hE5 : E = "java/lang/Object" := by
          have h9 : (ah_TY[4]? : Option FieldType) = some (.object "java/lang/Object") := rfl
          rw [h9] at hE4
          cases hE4
          rfl
        subst hE5
        have hlb2 : rm_look n0 O (hp ++ [.inl (4, n.toNatClampNeg, .inr (.inr (.inr (.inr (fun _ => none)))))]) b = some (.inr (ci, fs)) := by
          unfold rm_look at hlb ⊢
          by_cases hb9 : b < n0
          · rw [if_pos hb9] at hlb ⊢
            exact hlb
          · rw [if_neg hb9] at hlb ⊢
            rw [List.getElem?_append_left (List.getElem?_eq_some_iff.mp hlb).1]
            exact hlb
        obtain ⟨cellV, g1, g2, g3, g4, -⟩ := hrd2 _ _ hlb2 rc hrc
        obtain ⟨kV, hkV, -⟩ := Vm.findClass_spec g4
        refine ⟨cellV, g1, g2, ⟨kV, hkV⟩, fun comp hcomp => ?_⟩
        rcases hcast with h9 | hcast
        · rw [h9] at g4
          rw [Option.some.inj (hcomp.symm.trans g4)]
          exact va_asg _ _
        · obtain ⟨c0, t1, f1, f2, f3⟩ := Cond.castable_spec (hts2 _ hcast)
          rw [Option.some.inj (hcomp.symm.trans f2), Option.some.inj (g4.symm.trans f1)]
          exact f3
      · cases hq
  · show 1 ≤ 1; omega
  · show 0 + (7 + 11) ≤ 30; omega
  · have hG3 : rm_G D ah_cl cA ρ b0 H0 (hp ++ [rm_cpA 4 n.toNatClampNeg m f]) H3 (locs2 ++ L) := by
      have h9 := (hG2.put (i := 0) (k := hp.length) (x := rm_cpA 4 n.toNatClampNeg m f) (by rw [List.length_append]; simp) z o (by
        refine e1.trans ?_
        rw [hmc]
        show some (vp_cell (cA 4) (n.toNatClampNeg, .inr (.inr (.inr (.inr (va_cpy (fun j => (f j).map ρ) (fun _ => none) 0 0 m)))))) = some (vp_cell (cA 4) (n.toNatClampNeg, .inr (.inr (.inr (.inr (fun j => (va_cpy f (fun _ => none) 0 0 m j).map ρ))))))
        rw [cp_cpy]
        rfl)).forget
      have e9 : (hp ++ [.inl (4, n.toNatClampNeg, .inr (.inr (.inr (.inr (fun _ => none)))))] : rm_H).set hp.length (rm_cpA 4 n.toNatClampNeg m f) = hp ++ [rm_cpA 4 n.toNatClampNeg m f] := by
        rw [List.set_append_right _ _ (Nat.le_refl _), Nat.sub_self]
        rfl
      rw [e9] at h9
      refine h9.locs (fun q hq => ?_)
      rcases List.mem_append.mp hq with h8 | h8
      · exact hG2.2.2.2 q h8
      · rw [hL q h8]
        exact Nat.le_add_right _ _
    refine rm_sA_ok (ρ := ρ) (g := fun _ => false) (nL := 4) (pc := 38) (st := []) (r := (39, [(3, .ref (n0 + hp.length)), (0, .ref a), (1, .int n)], [.ref (n0 + hp.length)])) B.exec B.bytes (fun _ _ h => by cases h) cd_108_21 hl13 rfl (fun ls13 hl14 => ?_)
    have h9 := rm_ret_ok (p := p) (l := l) (e := e) (R := (headSpec (Cond.code ah_M108.1 ah_M108.2.1 ah_M108.2.2.1 ah_M108.2.2.2.1 :: ah_Tg) { frames := 1, cells := 1, slots := n.toNatClampNeg, locals := 30 }).room) (below := below) (ls := ls13) (cells := 0 + 1 + 0) (slots := 0 + n.toNatClampNeg + 0) (args := ([.ref (ρ a), .int n, .ref mi] : List Value).toArray) (s := s) (m := mt) (ret := ah_M108.2.2.2.1) (st := [.ref (n0 + hp.length)]) (v := some (.ref (n0 + hp.length))) B.exec B.bytes B.returns B.notSynchronized hG3 cd_108_22 rfl
    simp only [Nat.zero_add, Nat.add_zero] at h9 ⊢
    exact h9
end CPM
set_option maxHeartbeats 4000000 in
theorem ah_cp : rm_CP ah_Tg ah_Tb ah_cl ah_TY ah_CA ah_strs ah_stats := by
  intro l D cA ρ b0 n0 O Z H0 hp a t m n f hρ ha hn hn4 hk hty hm hel
  have ht := cp_t hty
  subst ht
  refine va_MetF (cc := ah_M107.2.1) (maxL := 2) (ret := ah_M107.2.2.2.1) (by decide +kernel) rfl ?_
  intro p e s mt args below meth c s₁ B hml hv
  obtain ⟨rfl, hG, hE⟩ := hv
  have htsg : ∀ w ∈ ah_Tg, w.before (([.ref a, .int n] : List Value).map (rm_v ρ)).toArray s = true := fun w hw => atoms_spec (ws := Cond.code rm_cpN prog_29_method_119_code 2 (some (.array (.object "java/lang/Object"))) :: ah_Tg) B.pre w (List.mem_cons_of_mem _ hw)
  have hown : s.vm.findClass "java/util/Arrays" = some mt.cls := findClass_of_methodNamed B.named
  have hra : ρ a = b0 + (a - n0) := by rw [← hρ, Nat.add_sub_of_le ha]
  obtain ⟨mi, hMi⟩ := hE.2.2.2.2.2
  have hl := lv_entry (([.ref a, .int n] : List Value).map (rm_v ρ)) (n := 2) (Nat.le_of_ble_eq_true rfl)
  rw [← rm_lv_args] at hl
  rw [lg_entry_eq]
  refine rm_sA_ok (ρ := ρ) (g := fun _ => false) (nL := 2) (pc := 0) (st := []) (r := (1, lv_args 0 [.ref a, .int n], [.ref a])) B.exec B.bytes (fun _ _ h => by cases h) cd_107_0 hl rfl (fun ls1 hl1 => ?_)
  refine rm_sA_ok (ρ := ρ) (g := fun _ => false) (nL := 2) (pc := 1) (st := [.ref a]) (r := (2, lv_args 0 [.ref a, .int n], [.int n, .ref a])) B.exec B.bytes (fun _ _ h => by cases h) cd_107_1 hl1 rfl (fun ls2 hl2 => ?_)
  refine rm_sA_ok (ρ := ρ) (g := fun _ => false) (nL := 2) (pc := 2) (st := [.int n, .ref a]) (r := (3, lv_args 0 [.ref a, .int n], [.ref a, .int n, .ref a])) B.exec B.bytes (fun _ _ h => by cases h) cd_107_2 hl2 rfl (fun ls3 hl3 => ?_)
  refine va_getC (a := ρ a) (pc := 3) (rest := [.int n, .ref (ρ a)]) (C := "[Ljava/lang/Object;") B.exec B.bytes (hml.trans hl3.1.symm) hown (htsg _ tg_763) (rm_bw_any rfl (hE.2.2.2.2.1 _ tb_2747)) (htsg _ tg_2746) (htsg _ tg_764) (htsg _ tg_782) hMi ⟨vp_cell (cA 4) (rm_a ρ (m, .inr (.inr (.inr (.inr f))))), by rw [hra]; exact hG.2.1 _ _ hk, rfl, va_nmO (hE.1.2 4 _ (rm_ty_at hty)).2 (by decide +kernel)⟩ (by show 1 ≤ 2; omega) (by show 2 + 14 ≤ 79; omega) cd_107_3 ?_
  have S : CallFix p mt c ah_M107.2.1 2 s (([.ref a, .int n] : List Value).map (rm_v ρ)).toArray ah_Tg "java/util/Arrays" := ⟨B.exec, B.bytes, hml, hown, htsg⟩
  have hcode : Cond.code ah_M108.1 ah_M108.2.1 ah_M108.2.2.1 ah_M108.2.2.2.1 ∈ ah_Tg := am_108.1
  refine rm_after3 (pc := 6) (st0 := [.ref mi, .int n, .ref (ρ a)]) (rest := []) (va_runS (cells := 0) (slots := 0) S (cp_108 (D := D) (cA := cA) (ρ := ρ) (b0 := b0) (Z := Z) (H0 := H0) (mi := mi) l hρ ha hn hn4 hk hm hel) (va_cwS 3 htsg (rm_good cp_Tg hcode (by simp only [List.forall_mem_cons]; exact ⟨tg_783, tg_784, lm_8_300_0.2.2.2, fun _ hn => by cases hn⟩)) rfl rfl rfl lm_8_300_0.1 ⟨by show 1 + 1 ≤ 2; omega, by show 8 + (4 + 11) + 30 ≤ 79; omega⟩) ⟨cp_blind, fun U hU hW => ⟨rfl, by rw [hU]; exact hG.forget, hE.warm cp_Tb hW, hMi.moved hW.alike⟩⟩ rfl rfl hl3.1 rfl (lv_room (by decide)) cd_107_4 ⟨by show 0 + 1 ≤ 1; omega, by show 0 + n.toNatClampNeg ≤ n.toNatClampNeg; omega⟩) (fun w st₀ t L _ hL hq => ?_)
  obtain ⟨hw, hg2⟩ := hq
  cases hw
  have h9 := rm_ret_ok (p := p) (l := l) (e := e) (R := (headSpec (Cond.code rm_cpN prog_29_method_119_code 2 (some (.array (.object "java/lang/Object"))) :: ah_Tg) { frames := 2, cells := 1, slots := n.toNatClampNeg, locals := 79 }).room) (below := below) (ls := ls3) (cells := 0 + 1) (slots := 0 + n.toNatClampNeg) (args := (([.ref a, .int n] : List Value).map (rm_v ρ)).toArray) (s := s) (m := mt) (ret := ah_M107.2.2.2.1) (st := [.ref (n0 + hp.length)]) (v := some (.ref (n0 + hp.length))) (locs := [] ++ L) B.exec B.bytes B.returns B.notSynchronized (hg2.locs (locs := [] ++ L) (fun q hq => hL q hq)) cd_107_5 rfl
  simp only [Nat.zero_add] at h9 ⊢
  exact h9
