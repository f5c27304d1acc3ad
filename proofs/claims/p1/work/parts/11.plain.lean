section RM_A
variable {p : Program} {l : Launch} {e : Env} {R : Room} {s : State} {m : MethodId} {args : Array Value} {below : List Frame} {meth : Method} {c : Code} {H : Heap} {locs : List Loc} {cells slots : Nat} {Q : State → Prop} {cc : ByteArray} {ρ : Nat → Nat} {nL : Nat} {g : Nat → Bool}
set_option maxHeartbeats 4000000 in
theorem rm_sA_ok (hx : p.tables.exec = Jvm.exec) (hb : c.code = cc) (hρ : ∀ a b, g a = true → g b = true → ρ a = ρ b → a = b) {ins : Instr} {len pc : Nat} {lv : rm_L} {st : List Value} {r : Nat × rm_L × List Value} {ls : Array Slot}
    (hd : decode cc pc = .ok (ins, len)) (hl : lv_has ls nL (rm_lv ρ lv)) (h : rm_sA g nL ins len pc lv st = some r)
    (kk : ∀ ls' : Array Slot, lv_has ls' nL (rm_lv ρ r.2.1) → W p l e R s m args below meth c H locs cells slots Q (F0 m r.1 ls' (r.2.2.map (rm_v ρ)))) :
    W p l e R s m args below meth c H locs cells slots Q (F0 m pc ls (st.map (rm_v ρ))) := by
  cases ins
  case iconst n =>
    simp only [rm_sA] at h
    split at h
    · rename_i e; subst e; cases h; exact lv_iconst hx hb hd rfl (kk ls hl)
    · cases h
  case bipush n =>
    simp only [rm_sA] at h
    split at h
    · rename_i e; subst e; cases h; exact lv_bipush hx hb hd rfl (kk ls hl)
    · cases h
  case sipush n =>
    simp only [rm_sA] at h
    split at h
    · rename_i e; subst e; cases h; exact lv_sipush hx hb hd rfl (kk ls hl)
    · cases h
  case lconst n =>
    simp only [rm_sA] at h
    split at h
    · rename_i e; subst e; cases h; exact lv_lconst hx hb hd rfl (kk ls hl)
    · cases h
  case aconst_null =>
    simp only [rm_sA] at h
    split at h
    · rename_i e; subst e; cases h; exact lv_null hx hb hd (kk ls hl)
    · cases h
  case iload i =>
    simp only [rm_sA] at h
    split at h
    · rename_i e; subst e; split at h
      · rename_i e; cases h; exact lv_iload hx hb hd (rm_get_at hl e) (kk ls hl)
      · cases h
    · cases h
  case iload_n i =>
    simp only [rm_sA] at h
    split at h
    · rename_i e; subst e; split at h
      · rename_i e; cases h; exact lv_iload_n hx hb hd rfl (rm_get_at hl e) (kk ls hl)
      · cases h
    · cases h
  case lload i =>
    simp only [rm_sA] at h
    split at h
    · rename_i e; subst e; split at h
      · rename_i e; cases h; exact lv_lload hx hb hd (rm_get_at hl e) (kk ls hl)
      · cases h
    · cases h
  case lload_n i =>
    simp only [rm_sA] at h
    split at h
    · rename_i e; subst e; split at h
      · rename_i e; cases h; exact lv_lload_n hx hb hd rfl (rm_get_at hl e) (kk ls hl)
      · cases h
    · cases h
  case aload i =>
    simp only [rm_sA] at h
    split at h
    · rename_i e; subst e; split at h
      · rename_i e; cases h; exact lv_aload hx hb hd (rm_get_at hl e) (kk ls hl)
      · rename_i e; cases h; exact lv_aloadN hx hb hd (rm_get_at hl e) (kk ls hl)
      · cases h
    · cases h
  case aload_n i =>
    simp only [rm_sA] at h
    split at h
    · rename_i e; subst e; split at h
      · rename_i e; cases h; exact lv_aload_n hx hb hd rfl (rm_get_at hl e) (kk ls hl)
      · rename_i e; cases h; exact lv_aload_nN hx hb hd rfl (rm_get_at hl e) (kk ls hl)
      · cases h
    · cases h
  case istore i =>
    simp only [rm_sA] at h
    split at h
    · rename_i e; subst e; split at h
      · split at h
        · rename_i hn; cases h; exact lv_istore hx hb hd hl hn (rm_set1_lv ρ lv _ (.int _)) (fun ls' hl' => kk ls' hl')
        · cases h
      · cases h
    · cases h
  case istore_n i =>
    simp only [rm_sA] at h
    split at h
    · rename_i e; subst e; split at h
      · split at h
        · rename_i hn; cases h; exact lv_istore_n hx hb hd rfl hl hn (rm_set1_lv ρ lv _ (.int _)) (fun ls' hl' => kk ls' hl')
        · cases h
      · cases h
    · cases h
  case lstore i =>
    simp only [rm_sA] at h
    split at h
    · rename_i e; subst e; split at h
      · split at h
        · rename_i hn; cases h; exact lv_lstore hx hb hd hl hn (rm_set2_lv ρ lv _ (.long _)) (fun ls' hl' => kk ls' hl')
        · cases h
      · cases h
    · cases h
  case lstore_n i =>
    simp only [rm_sA] at h
    split at h
    · rename_i e; subst e; split at h
      · split at h
        · rename_i hn; cases h; exact lv_lstore_n hx hb hd rfl hl hn (rm_set2_lv ρ lv _ (.long _)) (fun ls' hl' => kk ls' hl')
        · cases h
      · cases h
    · cases h
  case astore i =>
    simp only [rm_sA] at h
    split at h
    · rename_i e; subst e; split at h
      · split at h
        · rename_i hn; cases h; exact lv_astore hx hb hd hl hn (rm_set1_lv ρ lv _ (.ref _)) (fun ls' hl' => kk ls' hl')
        · cases h
      · split at h
        · rename_i hn; cases h; exact lv_astoreN hx hb hd hl hn (rm_set1_lv ρ lv _ .null) (fun ls' hl' => kk ls' hl')
        · cases h
      · cases h
    · cases h
  case astore_n i =>
    simp only [rm_sA] at h
    split at h
    · rename_i e; subst e; split at h
      · split at h
        · rename_i hn; cases h; exact lv_astore_n hx hb hd rfl hl hn (rm_set1_lv ρ lv _ (.ref _)) (fun ls' hl' => kk ls' hl')
        · cases h
      · split at h
        · rename_i hn; cases h; exact lv_astore_nN hx hb hd rfl hl hn (rm_set1_lv ρ lv _ .null) (fun ls' hl' => kk ls' hl')
        · cases h
      · cases h
    · cases h
  case iinc i n =>
    simp only [rm_sA] at h
    split at h
    · rename_i e; subst e; split at h
      · rename_i e; split at h
        · rename_i hn; cases h; obtain ⟨k, hk⟩ := rm_get_ix ρ e; exact lv_iinc hx hb hd hl hk rfl hn (rm_set1_lv ρ lv i (.int _)) (fun ls' hl' => kk ls' hl')
        · cases h
      · cases h
    · cases h
  case iadd =>
    simp only [rm_sA] at h
    split at h
    · rename_i e; subst e; split at h
      · cases h; exact lv_iadd hx hb hd (kk ls hl)
      · cases h
    · cases h
  case isub =>
    simp only [rm_sA] at h
    split at h
    · rename_i e; subst e; split at h
      · cases h; exact lv_isub hx hb hd (kk ls hl)
      · cases h
    · cases h
  case imul =>
    simp only [rm_sA] at h
    split at h
    · rename_i e; subst e; split at h
      · cases h; exact lv_imul hx hb hd (kk ls hl)
      · cases h
    · cases h
  case iand =>
    simp only [rm_sA] at h
    split at h
    · rename_i e; subst e; split at h
      · cases h; exact lv_iand hx hb hd (kk ls hl)
      · cases h
    · cases h
  case ior =>
    simp only [rm_sA] at h
    split at h
    · rename_i e; subst e; split at h
      · cases h; exact lv_ior hx hb hd (kk ls hl)
      · cases h
    · cases h
  case ixor =>
    simp only [rm_sA] at h
    split at h
    · rename_i e; subst e; split at h
      · cases h; exact lv_ixor hx hb hd (kk ls hl)
      · cases h
    · cases h
  case ishl =>
    simp only [rm_sA] at h
    split at h
    · rename_i e; subst e; split at h
      · cases h; exact lv_ishl hx hb hd (kk ls hl)
      · cases h
    · cases h
  case ishr =>
    simp only [rm_sA] at h
    split at h
    · rename_i e; subst e; split at h
      · cases h; exact lv_ishr hx hb hd (kk ls hl)
      · cases h
    · cases h
  case idiv =>
    simp only [rm_sA] at h
    split at h
    · rename_i e; subst e; split at h
      · split at h
        · cases h
        · rename_i hne; cases h; exact lv_idiv hx hb hd hne (kk ls hl)
      · cases h
    · cases h
  case irem =>
    simp only [rm_sA] at h
    split at h
    · rename_i e; subst e; split at h
      · split at h
        · cases h
        · rename_i hne; cases h; exact lv_irem hx hb hd hne (kk ls hl)
      · cases h
    · cases h
  case iushr =>
    simp only [rm_sA] at h
    split at h
    · rename_i e; subst e; split at h
      · cases h; exact lv_iushr hx hb hd rfl (kk ls hl)
      · cases h
    · cases h
  case ladd =>
    simp only [rm_sA] at h
    split at h
    · rename_i e; subst e; split at h
      · cases h; exact lv_ladd hx hb hd (kk ls hl)
      · cases h
    · cases h
  case lsub =>
    simp only [rm_sA] at h
    split at h
    · rename_i e; subst e; split at h
      · cases h; exact lv_lsub hx hb hd (kk ls hl)
      · cases h
    · cases h
  case lmul =>
    simp only [rm_sA] at h
    split at h
    · rename_i e; subst e; split at h
      · cases h; exact lv_lmul hx hb hd (kk ls hl)
      · cases h
    · cases h
  case land =>
    simp only [rm_sA] at h
    split at h
    · rename_i e; subst e; split at h
      · cases h; exact lv_land hx hb hd (kk ls hl)
      · cases h
    · cases h
  case lor =>
    simp only [rm_sA] at h
    split at h
    · rename_i e; subst e; split at h
      · cases h; exact lv_lor hx hb hd (kk ls hl)
      · cases h
    · cases h
  case lxor =>
    simp only [rm_sA] at h
    split at h
    · rename_i e; subst e; split at h
      · cases h; exact lv_lxor hx hb hd (kk ls hl)
      · cases h
    · cases h
  case ldiv =>
    simp only [rm_sA] at h
    split at h
    · rename_i e; subst e; split at h
      · split at h
        · cases h
        · rename_i hne; cases h; exact lv_ldiv hx hb hd hne (kk ls hl)
      · cases h
    · cases h
  case lrem =>
    simp only [rm_sA] at h
    split at h
    · rename_i e; subst e; split at h
      · split at h
        · cases h
        · rename_i hne; cases h; exact lv_lrem hx hb hd hne (kk ls hl)
      · cases h
    · cases h
  case lshl =>
    simp only [rm_sA] at h
    split at h
    · rename_i e; subst e; split at h
      · cases h; exact lv_lshl hx hb hd rfl (kk ls hl)
      · cases h
    · cases h
  case lshr =>
    simp only [rm_sA] at h
    split at h
    · rename_i e; subst e; split at h
      · cases h; exact lv_lshr hx hb hd rfl (kk ls hl)
      · cases h
    · cases h
  case lcmp =>
    simp only [rm_sA] at h
    split at h
    · rename_i e; subst e; split at h
      · cases h; exact W.lcmp hx hb hd (kk ls hl)
      · cases h
    · cases h
  case ineg =>
    simp only [rm_sA] at h
    split at h
    · rename_i e; subst e; split at h
      · cases h; exact lv_ineg hx hb hd (kk ls hl)
      · cases h
    · cases h
  case lneg =>
    simp only [rm_sA] at h
    split at h
    · rename_i e; subst e; split at h
      · cases h; exact lv_lneg hx hb hd (kk ls hl)
      · cases h
    · cases h
  case i2l =>
    simp only [rm_sA] at h
    split at h
    · rename_i e; subst e; split at h
      · cases h; exact lv_i2l hx hb hd rfl (kk ls hl)
      · cases h
    · cases h
  case l2i =>
    simp only [rm_sA] at h
    split at h
    · rename_i e; subst e; split at h
      · cases h; exact lv_l2i hx hb hd rfl (kk ls hl)
      · cases h
    · cases h
  case i2b =>
    simp only [rm_sA] at h
    split at h
    · rename_i e; subst e; split at h
      · cases h; exact lv_i2b hx hb hd rfl (kk ls hl)
      · cases h
    · cases h
  case i2c =>
    simp only [rm_sA] at h
    split at h
    · rename_i e; subst e; split at h
      · cases h; exact lv_i2c hx hb hd rfl (kk ls hl)
      · cases h
    · cases h
  case dup =>
    simp only [rm_sA] at h
    split at h
    · rename_i e; subst e; split at h
      · split at h
        · rename_i hc; cases h; exact lv_dup hx hb hd ((rm_v_cat ρ _).trans hc) (kk ls hl)
        · cases h
      · cases h
    · cases h
  case pop =>
    simp only [rm_sA] at h
    split at h
    · rename_i e; subst e; split at h
      · split at h
        · rename_i hc; cases h; exact lv_pop hx hb hd ((rm_v_cat ρ _).trans hc) (kk ls hl)
        · cases h
      · cases h
    · cases h
  case dup_x1 =>
    simp only [rm_sA] at h
    split at h
    · rename_i e; subst e; split at h
      · split at h
        · rename_i hc; cases h; exact lv_dup_x1 hx hb hd ((rm_v_cat ρ _).trans hc.1) ((rm_v_cat ρ _).trans hc.2) (kk ls hl)
        · cases h
      · cases h
    · cases h
  case dup2 =>
    simp only [rm_sA] at h
    split at h
    · rename_i e; subst e; split at h
      · split at h
        · rename_i hc; cases h; exact lv_dup2_11 hx hb hd ((rm_v_cat ρ _).trans hc.1) ((rm_v_cat ρ _).trans hc.2) (kk ls hl)
        · cases h
      · cases h
    · cases h
  case goto off =>
    simp only [rm_sA] at h
    split at h
    · rename_i e; obtain ⟨rfl, hz⟩ := e; cases h; exact lv_goto hx hb hd (Int.toNat_of_nonneg hz).symm (kk ls hl)
    · cases h
  case ifCond cnd off =>
    simp only [rm_sA] at h
    cases cnd
    case eq =>
      obtain ⟨rfl, hz, x, r, rfl, ⟨q, rfl⟩ | ⟨q, rfl⟩⟩ := rm_b1_some h
      · exact lv_if_eq hx hb hd (Int.toNat_of_nonneg hz).symm (fun _ => kk ls hl) (fun z => absurd (of_decide_eq_true q) z)
      · exact lv_if_eq hx hb hd (Int.toNat_of_nonneg hz).symm (fun z => absurd z (of_decide_eq_false q)) (fun _ => kk ls hl)
    case ne =>
      obtain ⟨rfl, hz, x, r, rfl, ⟨q, rfl⟩ | ⟨q, rfl⟩⟩ := rm_b1_some h
      · exact lv_if_ne hx hb hd (Int.toNat_of_nonneg hz).symm (fun _ => kk ls hl) (fun z => absurd z (of_decide_eq_true q))
      · exact lv_if_ne hx hb hd (Int.toNat_of_nonneg hz).symm (fun z => absurd z (of_decide_eq_false q)) (fun _ => kk ls hl)
    case lt =>
      obtain ⟨rfl, hz, x, r, rfl, ⟨q, rfl⟩ | ⟨q, rfl⟩⟩ := rm_b1_some h
      · exact lv_if_lt hx hb hd (Int.toNat_of_nonneg hz).symm (fun _ => kk ls hl) (fun z => absurd (of_decide_eq_true q) z)
      · exact lv_if_lt hx hb hd (Int.toNat_of_nonneg hz).symm (fun z => absurd z (of_decide_eq_false q)) (fun _ => kk ls hl)
    case ge =>
      obtain ⟨rfl, hz, x, r, rfl, ⟨q, rfl⟩ | ⟨q, rfl⟩⟩ := rm_b1_some h
      · exact lv_if_ge hx hb hd (Int.toNat_of_nonneg hz).symm (fun _ => kk ls hl) (fun z => absurd (of_decide_eq_true q) z)
      · exact lv_if_ge hx hb hd (Int.toNat_of_nonneg hz).symm (fun z => absurd z (of_decide_eq_false q)) (fun _ => kk ls hl)
    case gt =>
      obtain ⟨rfl, hz, x, r, rfl, ⟨q, rfl⟩ | ⟨q, rfl⟩⟩ := rm_b1_some h
      · exact lv_if_gt hx hb hd (Int.toNat_of_nonneg hz).symm (fun _ => kk ls hl) (fun z => absurd (of_decide_eq_true q) z)
      · exact lv_if_gt hx hb hd (Int.toNat_of_nonneg hz).symm (fun z => absurd z (of_decide_eq_false q)) (fun _ => kk ls hl)
    case le =>
      obtain ⟨rfl, hz, x, r, rfl, ⟨q, rfl⟩ | ⟨q, rfl⟩⟩ := rm_b1_some h
      · exact lv_if_le hx hb hd (Int.toNat_of_nonneg hz).symm (fun _ => kk ls hl) (fun z => absurd (of_decide_eq_true q) z)
      · exact lv_if_le hx hb hd (Int.toNat_of_nonneg hz).symm (fun z => absurd z (of_decide_eq_false q)) (fun _ => kk ls hl)
  case if_icmp cnd off =>
    simp only [rm_sA] at h
    cases cnd
    case eq =>
      obtain ⟨rfl, hz, x, y, r, rfl, ⟨q, rfl⟩ | ⟨q, rfl⟩⟩ := rm_b2_some h
      · exact lv_icmp_eq hx hb hd (Int.toNat_of_nonneg hz).symm (fun _ => kk ls hl) (fun z => absurd (of_decide_eq_true q) z)
      · exact lv_icmp_eq hx hb hd (Int.toNat_of_nonneg hz).symm (fun z => absurd z (of_decide_eq_false q)) (fun _ => kk ls hl)
    case ne =>
      obtain ⟨rfl, hz, x, y, r, rfl, ⟨q, rfl⟩ | ⟨q, rfl⟩⟩ := rm_b2_some h
      · exact lv_icmp_ne hx hb hd (Int.toNat_of_nonneg hz).symm (fun _ => kk ls hl) (fun z => absurd z (of_decide_eq_true q))
      · exact lv_icmp_ne hx hb hd (Int.toNat_of_nonneg hz).symm (fun z => absurd z (of_decide_eq_false q)) (fun _ => kk ls hl)
    case lt =>
      obtain ⟨rfl, hz, x, y, r, rfl, ⟨q, rfl⟩ | ⟨q, rfl⟩⟩ := rm_b2_some h
      · exact lv_icmp_lt hx hb hd (Int.toNat_of_nonneg hz).symm (fun _ => kk ls hl) (fun z => absurd (of_decide_eq_true q) z)
      · exact lv_icmp_lt hx hb hd (Int.toNat_of_nonneg hz).symm (fun z => absurd z (of_decide_eq_false q)) (fun _ => kk ls hl)
    case ge =>
      obtain ⟨rfl, hz, x, y, r, rfl, ⟨q, rfl⟩ | ⟨q, rfl⟩⟩ := rm_b2_some h
      · exact lv_icmp_ge hx hb hd (Int.toNat_of_nonneg hz).symm (fun _ => kk ls hl) (fun z => absurd (of_decide_eq_true q) z)
      · exact lv_icmp_ge hx hb hd (Int.toNat_of_nonneg hz).symm (fun z => absurd z (of_decide_eq_false q)) (fun _ => kk ls hl)
    case gt =>
      obtain ⟨rfl, hz, x, y, r, rfl, ⟨q, rfl⟩ | ⟨q, rfl⟩⟩ := rm_b2_some h
      · exact lv_icmp_gt hx hb hd (Int.toNat_of_nonneg hz).symm (fun _ => kk ls hl) (fun z => absurd (of_decide_eq_true q) z)
      · exact lv_icmp_gt hx hb hd (Int.toNat_of_nonneg hz).symm (fun z => absurd z (of_decide_eq_false q)) (fun _ => kk ls hl)
    case le =>
      obtain ⟨rfl, hz, x, y, r, rfl, ⟨q, rfl⟩ | ⟨q, rfl⟩⟩ := rm_b2_some h
      · exact lv_icmp_le hx hb hd (Int.toNat_of_nonneg hz).symm (fun _ => kk ls hl) (fun z => absurd (of_decide_eq_true q) z)
      · exact lv_icmp_le hx hb hd (Int.toNat_of_nonneg hz).symm (fun z => absurd z (of_decide_eq_false q)) (fun _ => kk ls hl)
  case ifnull off =>
    simp only [rm_sA] at h
    split at h
    · rename_i e; obtain ⟨rfl, hz⟩ := e; split at h
      · cases h; exact lv_ifnull hx hb hd (kk ls hl)
      · cases h; exact lv_ifnullN hx hb hd (Int.toNat_of_nonneg hz).symm (kk ls hl)
      · cases h
    · cases h
  case ifnonnull off =>
    simp only [rm_sA] at h
    split at h
    · rename_i e; obtain ⟨rfl, hz⟩ := e; split at h
      · cases h; exact lv_ifnonnull hx hb hd (Int.toNat_of_nonneg hz).symm (kk ls hl)
      · cases h; exact lv_ifnonnullN hx hb hd (kk ls hl)
      · cases h
    · cases h
  case if_acmp cnd off =>
    simp only [rm_sA] at h
    cases cnd
    case eq =>
      obtain ⟨rfl, hz, x, y, r, rfl, gx, gy, ⟨q, rfl⟩ | ⟨q, rfl⟩⟩ := rm_b3_some h
      · rw [rm_rf_st ρ x y r]; exact lv_acmp_eq hx hb hd (Int.toNat_of_nonneg hz).symm (fun _ => kk ls hl) (fun z => absurd (congrArg (Option.map ρ) (of_decide_eq_true q)) z)
      · rw [rm_rf_st ρ x y r]; exact lv_acmp_eq hx hb hd (Int.toNat_of_nonneg hz).symm (fun z => absurd (rm_inj hρ gx gy z) (of_decide_eq_false q)) (fun _ => kk ls hl)
    case ne =>
      obtain ⟨rfl, hz, x, y, r, rfl, gx, gy, ⟨q, rfl⟩ | ⟨q, rfl⟩⟩ := rm_b3_some h
      · rw [rm_rf_st ρ x y r]; exact lv_acmp_ne hx hb hd (Int.toNat_of_nonneg hz).symm (fun _ => kk ls hl) (fun z => absurd (rm_inj hρ gx gy z) (of_decide_eq_true q))
      · rw [rm_rf_st ρ x y r]; exact lv_acmp_ne hx hb hd (Int.toNat_of_nonneg hz).symm (fun z => absurd (show ¬ x = y from fun w => z (congrArg (Option.map ρ) w)) (of_decide_eq_false q)) (fun _ => kk ls hl)
  case tableswitch dflt lo hi offs =>
    simp only [rm_sA] at h
    split at h
    · split at h
      · rename_i ho; split at h
        · rename_i hz; cases h; exact lv_tableOut hx hb hd ho (Int.toNat_of_nonneg hz).symm (kk ls hl)
        · cases h
      · rename_i hn; split at h
        · rename_i ho; split at h
          · rename_i hz; cases h; exact lv_tableIn hx hb hd (fun z => hn (Or.inl z)) (fun z => hn (Or.inr z)) ho (Int.toNat_of_nonneg hz).symm (kk ls hl)
          · cases h
        · cases h
    · cases h
  case lookupswitch dflt ps =>
    simp only [rm_sA] at h
    split at h
    · split at h
      · rename_i hz; cases h; exact lv_lookup hx hb hd hz.1 rfl (Int.toNat_of_nonneg hz.2).symm (kk ls hl)
      · cases h
    · cases h
  all_goals (simp [rm_sA] at h)
end RM_A
