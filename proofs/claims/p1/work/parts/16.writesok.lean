section RM_C
variable {p : Program} {l : Launch} {e : Env} {R : Room} {s : State} {m : MethodId} {args : Array Value} {below : List Frame} {meth : Method} {c : Code} {H : Heap} {locs : List Loc} {cells slots : Nat} {Q : State → Prop} {cc : ByteArray} {ρ : Nat → Nat} {nL : Nat} {pc : Nat} {ls : Array Slot} {rest : List Value}
theorem rm_putf (hx : p.tables.exec = Jvm.exec) (hb : c.code = cc) {Ts : List Cond} {D : va_G} {cl : List vw_C} {tys : List (ClassId × FieldType)} {FT : Nat → Nat → FieldType} {DV : Nat → List Value} {own mn : String} {idx k ci q : Nat} {fs : List Value} {v : Value} (hts : ∀ w ∈ Ts, w.before args s = true) (hown : s.vm.findClass own = some m.cls) (hnm : mn = "<init>" → meth.name = "<init>") (hcl : rm_Cl Ts cl) (hcn : rm_Cn cl FT DV) (hK : va_K D cl tys s) (hk : rm_lkP Ts cl own mn idx k ci)
    (hat : va_at D cl (q, .inr (ci, fs)) H) (hfit : narrow (FT ci k) v = v ∧ fits (FT ci k) v = true) (hlen : k < fs.length) (hd : decode cc pc = .ok (.putfield idx, 3))
    (kk : ∀ (H1 : Heap) (i : Nat), va_at D cl (q, .inr (ci, fs.set k v)) H1 → H1.size = H.size → (∀ x : Nat, x ≠ q → H1[x]? = H[x]?) → W p l e R s m args below meth c H1 (locs ++ [⟨q, i⟩]) cells slots Q (F0 m (pc + 3) ls rest)) : W p l e R s m args below meth c H locs cells slots Q (F0 m pc ls (v :: .ref q :: rest)) := by
  obtain ⟨⟨C, T, N⟩, ref, hc, hkn, hsm, hlk, hfin⟩ := hk
  dsimp only at hkn hsm hlk hfin
  have hin := hcl _ _ hc
  obtain ⟨hty, hnms, -⟩ := hcn _ _ hc
  have hap := va_apart (own := own) hts hin (FT ci) hty hnms hK hc
  obtain ⟨r, h1, cell, q1, q2, q3, q4⟩ := hat
  have hr : r = (C, T, N) := Option.some.inj (h1.symm.trans hc)
  subst hr
  obtain ⟨hS, hfc, kC, hkC, hkind⟩ := hK.1 ci _ hc
  obtain ⟨cf, kf, fi, f, hi, hsl⟩ := hS k hkn
  have hst := (u_facts hfc hkC (u_lays hts hin hkn) hi).1
  have hi2 : s.fieldFound? ref (T k).2.1 (T k).2.2.1 = some (cf, kf, fi, f) := by
    rcases hsm with rfl | hsm
    · exact hi
    · exact u_same (hts _ hsm) _ hi
  have hlay := hts _ (hin _ (u_in_lay hkn))
  unfold u_lay at hlay
  rcases hfin with hfin | ⟨hfin, hmn, hdecl⟩
  · rw [if_neg (by rw [hfin]; decide)] at hlay
    have h6 := u_store hfc hkC hkind hlay hi (hty k hkn) hfit.1 hfit.2
    refine W.putK hx hb (f := f) ⟨hown, hts _ hlk, ⟨_, _, _, hi2⟩, hst⟩ (by rw [q2]; exact h6) q1 q3 (by rw [hsl]; exact k2_hasslot (q4 k hkn)) rfl rfl hd fun H' e1 e2 e3 => ?_
    rw [hsl] at e1 ⊢
    exact kk H' _ ⟨_, hc, t_OB.to (V := updV (vp_V fs) k v) ⟨_, e1, q2, q3, t_set q4 hap hkn v⟩ (fun j _ => vp_updV_set hlen v j)⟩ e2 e3
  · rw [if_pos hfin] at hlay
    have hcf : m.cls = cf := by
      obtain ⟨_, _, c', _, _, _, -, -, hf', -, -, -, hown2, -⟩ := Cond.laysFinal_spec hlay
      have e1 : c' = cf := by have := hi.symm.trans hf'; simp at this; exact this.1.symm
      rw [hdecl] at hown2
      rw [← e1]; exact Option.some.inj (hown.symm.trans hown2)
    have h6 := u_fits hfc hkC hkind (Or.inr hlay) hi (hty k hkn) hfit.1 hfit.2
    refine W.putFinK hx hb hown (hts _ hlk) hi2 hst hcf (hnm hmn) (by rw [q2]; exact h6) q1 q3 (by rw [hsl]; exact k2_hasslot (q4 k hkn)) rfl rfl hd fun H' e1 e2 e3 => ?_
    rw [hsl] at e1 ⊢
    exact kk H' _ ⟨_, hc, t_OB.to (V := updV (vp_V fs) k v) ⟨_, e1, q2, q3, t_set q4 hap hkn v⟩ (fun j _ => vp_updV_set hlen v j)⟩ e2 e3
theorem rm_upd_i (f : Nat → Int32) (k : Nat) (x : Int32) : updV (fun j => Value.int (f j)) k (.int x) = fun j => Value.int (upd f k x j) := by
  funext q
  by_cases hq : q = k
  · subst hq; simp [updV, upd]
  · simp [updV, upd, hq]
theorem rm_upd_l (f : Nat → Int64) (k : Nat) (x : Int64) : updV (fun j => Value.long (f j)) k (.long x) = fun j => Value.long (vp_updL f k x j) := by
  funext q
  by_cases hq : q = k
  · subst hq; simp [updV, vp_updL]
  · simp [updV, vp_updL, hq]
theorem rm_upd_q (f : Nat → Option Nat) (k : Nat) (x : Option Nat) : updV (fun j => va_rf (f j)) k (va_rf x) = fun j => va_rf (va_up f k x j) := by
  funext q
  by_cases hq : q = k
  · subst hq; simp [updV, va_up]
  · simp [updV, va_up, hq]
theorem rm_vin {i : Int32} {n : Nat} (h : rm_in i n = true) (cA : ClassId) (f : Nat → Value) : ¬ (i < 0 ∨ (arrV cA n f).slots.size ≤ i.toNatClampNeg) := by
  rw [arrV_size]
  exact (rm_in_vp h (Nat.le_refl n)).1
theorem rm_st_i (cA : ClassId) (ρ : Nat → Nat) (n : Nat) (f : Nat → Int32) (k : Nat) (x : Int32) : (vp_cell cA (rm_a ρ (n, .inl f))).setSlot k (.int x) = vp_cell cA (rm_a ρ (n, .inl (upd f k x))) := by
  show (vp_cell cA (n, .inl f)).setSlot k (.int x) = vp_cell cA (n, .inl (upd f k x))
  rw [vp_cell_i, vp_cell_i, arrV_store, rm_upd_i]
theorem rm_st_l (cA : ClassId) (ρ : Nat → Nat) (n : Nat) (f : Nat → Int64) (k : Nat) (x : Int64) : (vp_cell cA (rm_a ρ (n, .inr (.inl f)))).setSlot k (.long x) = vp_cell cA (rm_a ρ (n, .inr (.inl (vp_updL f k x)))) := by
  show (vp_cell cA (n, .inr (.inl f))).setSlot k (.long x) = vp_cell cA (n, .inr (.inl (vp_updL f k x)))
  rw [vp_cell_l, vp_cell_l, arrV_store, rm_upd_l]
theorem rm_up_map (ρ : Nat → Nat) (f : Nat → Option Nat) (k : Nat) (x : Option Nat) : (fun j => (va_up f k x j).map ρ) = va_up (fun j => (f j).map ρ) k (x.map ρ) := by
  funext j
  unfold va_up
  split <;> rfl
theorem rm_st_q (cA : ClassId) (ρ : Nat → Nat) (n : Nat) (f : Nat → Option Nat) (k b : Nat) : (vp_cell cA (rm_a ρ (n, .inr (.inr (.inr (.inr f)))))).setSlot k (.ref (ρ b)) = vp_cell cA (rm_a ρ (n, .inr (.inr (.inr (.inr (va_up f k (some b))))))) := by
  show (vp_cell cA (n, .inr (.inr (.inr (.inr (fun j => (f j).map ρ)))))).setSlot k (va_rf ((some b).map ρ)) = vp_cell cA (n, .inr (.inr (.inr (.inr (fun j => (va_up f k (some b) j).map ρ)))))
  rw [rm_up_map, vp_cell_q, vp_cell_q, arrV_store, rm_upd_q]
end RM_C
