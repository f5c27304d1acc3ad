/-! THE MACHINE OF THE MIND IS SOUND: what rm_run answers, the real machine answers. -/
theorem rm_call_mem {P : List rm_M} {n0 : Nat} {O : Nat → Option rm_E} {ins : Instr} {len : Nat} {lk : List Nat} {st : List Value} {h : rm_H} {k : rm_M × List Value × List Value} (hk : rm_call P n0 O ins len lk st h = some k) : k.1 ∈ P := by
  unfold rm_call at hk
  split at hk
  · split at hk
    · rename_i hP
      have hm := List.mem_of_getElem? hP
      split at hk
      · split at hk
        · split at hk
          · cases hk; exact hm
          · cases hk
        · split at hk
          · split at hk
            · cases hk; exact hm
            · cases hk
          · cases hk
        · split at hk
          · split at hk
            · cases hk; exact hm
            · cases hk
          · cases hk
        · split at hk
          · split at hk
            · cases hk; exact hm
            · cases hk
          · cases hk
        · cases hk
      · cases hk
    · cases hk
  · cases hk
theorem rm_good_any {w : Cond} (hw : goodWord w = true) {A A' : Array Value} {U : State} (h : w.before A U = true) : w.before A' U = true := by
  rcases good_of_word hw with h1 | ⟨ty, rfl⟩
  · simp only [Bool.and_eq_true] at h1
    exact va_any h1.1 h
  · exact h
section RM_S
variable {l : Launch} {Tg Tb : List Cond} {D : va_G} {cl : List vw_C} {cA : Nat → ClassId} {TY : List FieldType} {FT : Nat → Nat → FieldType} {DV : Nat → List Value} {CA : Nat → Nat → Bool} {g : Nat → Bool} {ρ : Nat → Nat} {b0 n0 : Nat} {O : Nat → Option rm_E} {Z : Nat → Value} {H0 : Heap} {strs : List (String × Nat × String × Nat)} {stats : List (String × String × String × Nat)} {P : List rm_M}
/-- all that is known of a claim's tables -/
def rm_Know (Tg Tb : List Cond) (cl : List vw_C) (TY : List FieldType) (FT : Nat → Nat → FieldType) (DV : Nat → List Value) (CA : Nat → Nat → Bool) (strs : List (String × Nat × String × Nat)) (stats : List (String × String × String × Nat)) (P : List rm_M) : Prop :=
  (∀ w ∈ Tg, goodWord w = true) ∧ (∀ w ∈ Tb, rm_bw w = true) ∧ rm_Cl (Tg ++ Tb) cl ∧ rm_Cn cl FT DV ∧ (∀ (ci t : Nat) (r : vw_C), CA ci t = true → cl[ci]? = some r → ∃ E : String, TY[t]? = some (.object E) ∧ (r.1 = E ∨ Cond.castable r.1 E ∈ Tg ++ Tb)) ∧ (∀ (ci t : Nat), CA ci t = true → ∃ r : vw_C, cl[ci]? = some r) ∧ ∀ M ∈ P, rm_Mok Tg Tb cl TY DV strs stats P M
/-- a walk of f steps, and its contract -/
def rm_Walk (l : Launch) (Tg Tb : List Cond) (D : va_G) (cl : List vw_C) (cA : Nat → ClassId) (TY : List FieldType) (FT : Nat → Nat → FieldType) (DV : Nat → List Value) (CA : Nat → Nat → Bool) (g : Nat → Bool) (ρ : Nat → Nat) (b0 n0 : Nat) (O : Nat → Option rm_E) (Z : Nat → Value) (H0 : Heap) (strs : List (String × Nat × String × Nat)) (stats : List (String × String × String × Nat)) (P : List rm_M) (f : Nat) : Prop :=
  ∀ (M : rm_M), rm_Mrw Tg Tb cl TY DV strs stats P M → ∀ (pc : Nat) (lv : rm_L) (st : List Value) (h : rm_H) (r : rm_R), rm_run P g n0 O Z TY FT DV CA f M pc lv st h = some r → ∀ (p : Program) (e : Env) (R : Room) (s : State) (m : MethodId) (args : Array Value) (below : List Frame) (meth : Method) (c : Code) (H : Heap) (locs : List Loc) (ls : Array Slot) (cells slots : Nat),
    p.tables.exec = Jvm.exec → c.code = M.2.1 → c.maxLocals = M.2.2.1 → meth.sig.returnType = M.2.2.2.1 → meth.locks = false → (M.1.name = "<init>" → meth.name = "<init>") → s.vm.findClass M.1.cls = some m.cls → (∀ w ∈ Tg, w.before args s = true) → rm_Env D cl cA TY ρ b0 n0 O Z H0 strs stats Tb s → rm_G D cl cA ρ b0 H0 h H locs → lv_has ls M.2.2.1 (rm_lv ρ lv) →
    cells + r.2.2.1 ≤ R.cells → slots + r.2.2.2.1 ≤ R.slots → r.2.2.2.2.1 ≤ R.frames → r.2.2.2.2.2 ≤ R.locals →
    W p l e R s m args below meth c H locs cells slots (MQ below (rm_Qc D cl cA ρ b0 H0 r.1 r.2.1) args s (cells + r.2.2.1) (slots + r.2.2.2.1) (fun q => b0 ≤ q)) (F0 m pc ls (st.map (rm_v ρ)))
theorem rm_met {f : Nat} (hK : rm_Know Tg Tb cl TY FT DV CA strs stats P) (hw : rm_Walk l Tg Tb D cl cA TY FT DV CA g ρ b0 n0 O Z H0 strs stats P f) {M : rm_M} (hM : M ∈ P) {As : List Value} {h : rm_H} {r : rm_R} (hr : rm_run P g n0 O Z TY FT DV CA f M 0 (lv_args 0 As) [] h = some r) (hlen : (lg_sl As).length ≤ M.2.2.1) :
    Met l M.1 (Cond.code M.1 M.2.1 M.2.2.1 M.2.2.2.1 :: Tg) { frames := r.2.2.2.2.1, cells := r.2.2.1, slots := r.2.2.2.1, locals := r.2.2.2.2.2 } (rm_Pc D cl cA TY ρ b0 n0 O Z H0 strs stats Tb As h) (rm_Qc D cl cA ρ b0 H0 r.1 r.2.1) r.2.2.1 r.2.2.2.1 (fun q => b0 ≤ q) := by
  obtain ⟨hc, hpl, hrw⟩ := hK.2.2.2.2.2.2 M hM
  refine va_MetF (cc := M.2.1) (maxL := M.2.2.1) (ret := M.2.2.2.1) hpl rfl ?_
  intro p e s m args below meth c s₁ B hml hv
  obtain ⟨rfl, hG, hE⟩ := hv
  have hts := atoms_spec (ws := Cond.code M.1 M.2.1 M.2.2.1 M.2.2.2.1 :: Tg) B.pre
  have hown : s.vm.findClass M.1.cls = some m.cls := findClass_of_methodNamed B.named
  have hl := lv_entry (As.map (rm_v ρ)) (n := M.2.2.1) (by rw [rm_sl_len]; exact hlen)
  rw [← rm_lv_args] at hl
  rw [lg_entry_eq]
  have h9 := hw M hrw 0 (lv_args 0 As) [] h r hr p e (headSpec (Cond.code M.1 M.2.1 M.2.2.1 M.2.2.2.1 :: Tg) { frames := r.2.2.2.2.1, cells := r.2.2.1, slots := r.2.2.2.1, locals := r.2.2.2.2.2 }).room s m _ below meth c s.heap [] _ 0 0 B.exec B.bytes hml B.returns B.notSynchronized (fun h => (name_of_methodNamed B.named B.method).1.trans h) hown (fun w hw => hts w (List.mem_cons_of_mem _ hw)) hE hG hl (by rw [Nat.zero_add]; exact Nat.le_refl _) (by rw [Nat.zero_add]; exact Nat.le_refl _) (Nat.le_refl _) (Nat.le_refl _)
  rw [Nat.zero_add, Nat.zero_add] at h9
  exact h9
set_option maxHeartbeats 4000000 in
theorem rm_walk (hK : rm_Know Tg Tb cl TY FT DV CA strs stats P) (hCP : rm_CP Tg Tb cl TY CA strs stats) (hρ : ∀ k : Nat, ρ (n0 + k) = b0 + k) (hinj : ∀ a b, g a = true → g b = true → ρ a = ρ b → a = b) : ∀ f : Nat, rm_Walk l Tg Tb D cl cA TY FT DV CA g ρ b0 n0 O Z H0 strs stats P f := by
  intro f
  induction f with
  | zero =>
    intro M hM pc lv st h r hr
    simp [rm_run] at hr
  | succ f ih =>
    intro M hM pc lv st h r hr p e R s m args below meth c H locs ls cells slots hx hb hml hret hlocks hnm hown htsg hE hG hl hc hs hf hlo
    obtain ⟨hgood, hTb, hcl, hcn, hca, hcs, hMs⟩ := id hK
    have hrows := hM
    have hts : ∀ w ∈ Tg ++ Tb, w.before args s = true := fun w hw => (List.mem_append.mp hw).elim (htsg w) (fun h => rm_bw_any (hTb w h) (hE.2.2.2.2.1 w h))
    have hg : ∀ w ∈ Tg ++ Tb, w.before #[] s = true := fun w hw => (List.mem_append.mp hw).elim (fun h => rm_good_any (hgood w h) (htsg w h)) (fun h => hE.2.2.2.2.1 w h)
    have hrd : ∀ (a : Nat) (x : rm_E), rm_look n0 O h a = some x → rm_rd s cl TY H (ρ a) (rm_c ρ x) := fun a x hx => rm_rd_look hts hcl hE.1 hE.2.1 hρ hG hx
    have hZ : ∀ (C n d : String) (z : Nat), (C, n, d, z) ∈ stats → va_Z C n d (rm_v ρ (Z z)) (fun q => b0 ≤ q) s H := fun C n d z hm => (hE.2.2.2.1 C n d z hm).kept (fun a _ ha => hG.2.2.1 a (Nat.not_le.mp ha))
    rw [rm_run] at hr
    split at hr
    · cases hr
    · rename_i i hi
      obtain ⟨hd, hkB, hkC, hkI, hkD⟩ := hrows pc i hi
      split at hr
      · rename_i v hv
        cases hr
        exact rm_ret_ok hx hb hret hlocks hG hd hv
      · split at hr
        · rename_i k hk
          split at hr
          · rename_i h8
            split at hr
            · cases hr
            · rename_i a ha
              split at hr
              · cases hr
              · rename_i b hb2
                cases hr
                dsimp only at hc hs hf hlo ⊢
                have hkm := rm_call_mem hk
                have h8' := h8
                simp only [rm_ok8, Bool.and_eq_true, decide_eq_true_eq] at h8'
                have hmet := rm_met hK ih hkm ha h8'.1
                refine rm_call_ok hx hb hml hown htsg hgood hTb hE hG hrd hkI hd hl hk h8 (hMs _ hkm).1 hmet ⟨Nat.le_trans (Nat.le_max_left _ _) hf, Nat.le_trans (Nat.le_max_left _ _) hlo⟩ ⟨by dsimp only; omega, by dsimp only; omega⟩ (fun H' locs' hG' => ?_)
                have h9 := ih M hM _ _ _ _ b hb2 p e R s m args below meth c H' locs' ls (cells + a.2.2.1) (slots + a.2.2.2.1) hx hb hml hret hlocks hnm hown htsg hE hG' hl (by omega) (by omega) (Nat.le_trans (Nat.le_max_right _ _) hf) (Nat.le_trans (Nat.le_max_right _ _) hlo)
                rw [Nat.add_assoc, Nat.add_assoc] at h9
                exact h9
          · cases hr
        · split at hr
          · rename_i k hk
            split at hr
            · cases hr
            · rename_i b hb2
              cases hr
              dsimp only at hc hs hf hlo ⊢
              exact rm_sD_ok hx hb hml htsg hown hE.1 hρ hG hkD hd hl hk (Nat.le_trans (Nat.le_max_left _ _) hf) (Nat.le_trans (Nat.le_max_left _ _) hlo) (fun H' locs' hG' => ih M hM _ _ _ _ b hb2 p e R s m args below meth c H' locs' ls cells slots hx hb hml hret hlocks hnm hown htsg hE hG' hl hc hs (Nat.le_trans (Nat.le_max_right _ _) hf) (Nat.le_trans (Nat.le_max_right _ _) hlo))
          · split at hr
            · split at hr
              · cases hr
              · rename_i k hk
                split at hr
                · cases hr
                · rename_i b hb2
                  cases hr
                  dsimp only at hc hs hf hlo ⊢
                  refine rm_sE_ok hCP hx hb hml hown htsg hgood hTb hE hρ hG hrd hkD hd hl hk ⟨Nat.le_trans (Nat.le_max_left _ _) hf, Nat.le_trans (Nat.le_max_left _ _) hlo⟩ ⟨by omega, by omega⟩ (fun H' locs' hG' => ?_)
                  have h9 := ih M hM _ _ _ _ b hb2 p e R s m args below meth c H' locs' ls (cells + 1) (slots + k.2.2) hx hb hml hret hlocks hnm hown htsg hE hG' hl (by omega) (by omega) (Nat.le_trans (Nat.le_max_right _ _) hf) (Nat.le_trans (Nat.le_max_right _ _) hlo)
                  rw [Nat.add_assoc, Nat.add_assoc] at h9
                  exact h9
            · rename_i k hk
              split at hr
              · cases hr
              · rename_i b hb2
                cases hr
                dsimp only at hc hs hf hlo ⊢
                have hgo : ∀ (H' : Heap) (locs' : List Loc) (ls' : Array Slot), rm_G D cl cA ρ b0 H0 k.2.2.2.1 H' locs' → lv_has ls' M.2.2.1 (rm_lv ρ k.2.1) → W p l e R s m args below meth c H' locs' (cells + k.2.2.2.2.1) (slots + k.2.2.2.2.2) (MQ below (rm_Qc D cl cA ρ b0 H0 b.1 b.2.1) args s (cells + (k.2.2.2.2.1 + b.2.2.1)) (slots + (k.2.2.2.2.2 + b.2.2.2.1)) (fun q => b0 ≤ q)) (F0 m k.1 ls' (k.2.2.1.map (rm_v ρ))) := by
                  intro H' locs' ls' hG' hl'
                  have h9 := ih M hM _ _ _ _ b hb2 p e R s m args below meth c H' locs' ls' (cells + k.2.2.2.2.1) (slots + k.2.2.2.2.2) hx hb hml hret hlocks hnm hown htsg hE hG' hl' (by omega) (by omega) hf hlo
                  rw [Nat.add_assoc, Nat.add_assoc] at h9
                  exact h9
                unfold rm_s at hk
                split at hk
                · rename_i q hq
                  cases hk
                  exact rm_sA_ok hx hb hinj hd hl hq (fun ls' hl' => hgo H locs ls' hG hl')
                · split at hk
                  · rename_i q hq
                    cases hk
                    exact rm_sB_ok hx hb hts hg hown hrd hE.2.2.1 hZ hkB hd hl hq (fun ls' hl' => hgo H locs ls' hG hl')
                  · exact rm_sC_ok hx hb hts hg hown hnm hcl hcn hE.1 hρ hca hcs hG hrd hkC hd hl hk (by omega) (by omega) hgo
end RM_S
