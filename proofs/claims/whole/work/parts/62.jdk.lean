/-! CONTRACTS over the machine of the mind, 2: the JDK's leaves, for any heap. -/
section CT2
variable (L : Nat) (xs : Nat → Int32) (zf : Value)
theorem ct_checkIndex3 {x n : Int32} (h : rm_H) (h1 : mx_f1 .lt x = false) (h2 : mx_f2 .lt x n = true) : mx_R L xs zf ah_M35 0 [(0, .int x), (1, .int n), (2, zf)] [] h 0 0 0 0 (fun v h' => v = some (.int x) ∧ h' = h) := by
  refine mx_S (.iload_n 0) 1 [] 1 [(0, .int x), (1, .int n), (2, zf)] [.int x] (by decide +kernel) rfl ?_
  refine mx_1 .lt 8 false 4 h1 (by decide +kernel) ?_
  refine mx_S (.iload_n 0) 1 [] 5 [(0, .int x), (1, .int n), (2, zf)] [.int x] (by decide +kernel) rfl ?_
  refine mx_S (.iload_n 1) 1 [] 6 [(0, .int x), (1, .int n), (2, zf)] [.int n, .int x] (by decide +kernel) rfl ?_
  refine mx_2 .lt 10 true 16 h2 (by decide +kernel) ?_
  refine mx_S (.iload_n 0) 1 [] 17 [(0, .int x), (1, .int n), (2, zf)] [.int x] (by decide +kernel) rfl ?_
  exact mx_ret (some (.int x)) rfl ⟨rfl, rfl⟩
theorem ct_ok8z (hz : zf.category = 1) (x n : Int32) : rm_ok8 ah_M35 [.int x, .int n, zf] [] = true := by
  have e : lg_sl [.int x, .int n, zf] = [.val (.int x), .val (.int n), .val zf] := by
    show [Slot.val (.int x)] ++ ([Slot.val (.int n)] ++ ((if zf.category = 2 then [Slot.val zf, .second] else [.val zf]) ++ [])) = _
    rw [if_neg (by rw [hz]; decide)]
    rfl
  unfold rm_ok8
  rw [e]
  rfl
theorem ct_checkIndex2 (hz : zf.category = 1) {x n : Int32} (h : rm_H) (h1 : mx_f1 .lt x = false) (h2 : mx_f2 .lt x n = true) : mx_R L xs zf ah_M34 0 [(0, .int x), (1, .int n)] [] h 0 0 1 22 (fun v h' => v = none ∧ h' = h) := by
  refine mx_S (.iload_n 0) 1 [] 1 [(0, .int x), (1, .int n)] [.int x] (by decide +kernel) rfl ?_
  refine mx_S (.iload_n 1) 1 [] 2 [(0, .int x), (1, .int n)] [.int n, .int x] (by decide +kernel) rfl ?_
  refine mx_S (.getstatic 1053) 3 [1] 5 [(0, .int x), (1, .int n)] [zf, .int n, .int x] (by decide +kernel) rfl ?_
  refine mx_call 35 3 [.int x, .int n, zf] [] [(0, .int x), (1, .int n), (2, zf)] (some (.int x)) h 0 0 0 0 0 0 8 [.int x] ap_35 rfl ⟨by decide +kernel, rfl, ct_ok8z zf hz x n, rfl, rfl⟩ (ct_checkIndex3 L xs zf h h1 h2) ?_
  refine mx_S .pop 1 [] 9 [(0, .int x), (1, .int n)] [] (by decide +kernel) rfl ?_
  exact mx_ret none rfl ⟨rfl, rfl⟩
end CT2
section MX2
variable {L : Nat} {xs : Nat → Int32} {zf : Value} {M : rm_M} {pc : Nat} {lv : rm_L} {st : List Value} {h : rm_H} {c s f l : Nat} {post : Option Value → rm_H → Prop}
theorem mx_Sb (ins : Instr) (len : Nat) (lk : List Nat) (pc' : Nat) (lv' : rm_L) (st' : List Value) (hi : mx_at M pc ins len lk = true) (hA : rm_sA ah_gc M.2.2.1 ins len pc lv st = none) (hk : rm_sB 21 (ah_O L xs) (ah_Z zf) ah_TY ins len lk pc lv st h = some (pc', lv', st')) (hr : mx_R L xs zf M pc' lv' st' h c s f l post) : mx_R L xs zf M pc lv st h c s f l post := by
  refine mx_S ins len lk pc' lv' st' hi ?_ hr
  unfold mx_AB
  rw [hA]
  exact hk
/-- reads by what is known of the cell -/
theorem mx_get {v : Value} (idx k : Nat) (cis : List Nat) {a ci : Nat} {fs : List Value} (pc' : Nat) (hi : mx_at M pc (.getfield idx) 3 (k :: cis) = true) (hl : rm_look 21 (ah_O L xs) h a = some (.inr (ci, fs))) (hf : cis.contains ci = true ∧ pc + 3 = pc') (hv : fs[k]? = some v) (hr : mx_R L xs zf M pc' lv (v :: st) h c s f l post) : mx_R L xs zf M pc lv (.ref a :: st) h c s f l post := by
  obtain ⟨h1, h2⟩ := hf
  subst h2
  refine mx_Sb _ _ _ _ _ _ hi rfl ?_ hr
  unfold rm_sB
  dsimp only
  rw [if_pos rfl, hl]
  dsimp only
  rw [if_pos h1, hv]
theorem mx_len {a t : Nat} {x : vp_A} (pc' : Nat) (hi : mx_at M pc .arraylength 1 [] = true) (hl : rm_look 21 (ah_O L xs) h a = some (.inl (t, x))) (hf : t < ah_TY.length ∧ pc + 1 = pc') (hr : mx_R L xs zf M pc' lv (.int (Int32.ofNat x.1) :: st) h c s f l post) : mx_R L xs zf M pc lv (.ref a :: st) h c s f l post := by
  obtain ⟨h1, h2⟩ := hf
  subst h2
  refine mx_Sb _ _ _ _ _ _ hi rfl ?_ hr
  unfold rm_sB
  dsimp only
  rw [if_pos rfl, hl]
  dsimp only
  rw [if_pos h1]
theorem mx_bal {a t n : Nat} {i : Int32} {g : Nat → Int32} (pc' : Nat) (hi : mx_at M pc .baload 1 [] = true) (hl : rm_look 21 (ah_O L xs) h a = some (.inl (t, n, .inl g))) (hf : (ah_TY[t]? = some .byte ∨ ah_TY[t]? = some .boolean) ∧ pc + 1 = pc') (hin : rm_in i n = true) (hr : mx_R L xs zf M pc' lv (.int (g i.toNatClampNeg) :: st) h c s f l post) : mx_R L xs zf M pc lv (.int i :: .ref a :: st) h c s f l post := by
  obtain ⟨h1, h2⟩ := hf
  subst h2
  refine mx_Sb _ _ _ _ _ _ hi rfl ?_ hr
  unfold rm_sB
  dsimp only
  rw [if_pos rfl, hl]
  dsimp only
  rw [if_pos ⟨h1, hin⟩]
theorem mx_ial {a t n : Nat} {i : Int32} {g : Nat → Int32} (pc' : Nat) (hi : mx_at M pc .iaload 1 [] = true) (hl : rm_look 21 (ah_O L xs) h a = some (.inl (t, n, .inl g))) (hf : ah_TY[t]? = some .int ∧ pc + 1 = pc') (hin : rm_in i n = true) (hr : mx_R L xs zf M pc' lv (.int (g i.toNatClampNeg) :: st) h c s f l post) : mx_R L xs zf M pc lv (.int i :: .ref a :: st) h c s f l post := by
  obtain ⟨h1, h2⟩ := hf
  subst h2
  refine mx_Sb _ _ _ _ _ _ hi rfl ?_ hr
  unfold rm_sB
  dsimp only
  rw [if_pos rfl, hl]
  dsimp only
  rw [if_pos ⟨h1, hin⟩]
end MX2
section CT3
variable (L : Nat) (xs : Nat → Int32) (zf : Value)
/-- StringLatin1.charAt -/
theorem ct_charAt1 (hz : zf.category = 1) {a n : Nat} {i : Int32} {g : Nat → Int32} (y : Int32) (h : rm_H) (hl : rm_look 21 (ah_O L xs) h a = some (.inl (1, n, .inl g))) (h1 : mx_f1 .lt i = false) (h2 : mx_f2 .lt i (Int32.ofNat n) = true) (hin : rm_in i n = true) (hy : ((g i.toNatClampNeg &&& 255).toUInt32 % 65536).toInt32 = y) (hc : rm_rt (some .char) y = true) : mx_R L xs zf ah_M65 0 [(0, .ref a), (1, .int i)] [] h 0 0 2 43 (fun v h' => v = some (.int y) ∧ h' = h) := by
  refine mx_S (.iload_n 1) 1 [] 1 [(0, .ref a), (1, .int i)] [.int i] (by decide +kernel) rfl ?_
  refine mx_S (.aload_n 0) 1 [] 2 [(0, .ref a), (1, .int i)] [.ref a, .int i] (by decide +kernel) rfl ?_
  refine mx_len 3 (by decide +kernel) hl (by decide +kernel) ?_
  refine mx_call 34 3 [.int i, .int (Int32.ofNat n)] [] [(0, .int i), (1, .int (Int32.ofNat n))] none h 0 0 1 22 0 0 6 [] ap_34 rfl ⟨by decide +kernel, rfl, rfl, rfl, rfl⟩ (ct_checkIndex2 L xs zf hz h h1 h2) ?_
  refine mx_S (.aload_n 0) 1 [] 7 [(0, .ref a), (1, .int i)] [.ref a] (by decide +kernel) rfl ?_
  refine mx_S (.iload_n 1) 1 [] 8 [(0, .ref a), (1, .int i)] [.int i, .ref a] (by decide +kernel) rfl ?_
  refine mx_bal 9 (by decide +kernel) hl (by decide +kernel) hin ?_
  refine mx_S (.sipush 255) 3 [] 12 [(0, .ref a), (1, .int i)] [.int 255, .int (g i.toNatClampNeg)] (by decide +kernel) rfl ?_
  refine mx_S .iand 1 [] 13 [(0, .ref a), (1, .int i)] [.int (g i.toNatClampNeg &&& 255)] (by decide +kernel) rfl ?_
  refine mx_S .i2c 1 [] 14 [(0, .ref a), (1, .int i)] [.int ((g i.toNatClampNeg &&& 255).toUInt32 % 65536).toInt32] (by decide +kernel) rfl ?_
  rw [hy]
  refine mx_ret (some (.int y)) ?_ ⟨rfl, rfl⟩
  show (if rm_rt (some .char) y = true then some (some (Value.int y)) else none) = _
  rw [if_pos hc]
/-- String.coder, isLatin1, charAt of a text of bytes -/
theorem ct_coder {a ci : Nat} {fs : List Value} (h : rm_H) (hl : rm_look 21 (ah_O L xs) h a = some (.inr (ci, fs))) (hci : [7, 16].contains ci = true) (h1 : fs[1]? = some (.int 0)) : mx_R L xs zf ah_M61 0 [(0, .ref a)] [] h 0 0 0 0 (fun v h' => v = some (.int 0) ∧ h' = h) := by
  refine mx_S (.getstatic 38) 3 [0] 3 [(0, .ref a)] [.int 1] (by decide +kernel) rfl ?_
  refine mx_1 .eq 10 false 6 (by decide +kernel) (by decide +kernel) ?_
  refine mx_S (.aload_n 0) 1 [] 7 [(0, .ref a)] [.ref a] (by decide +kernel) rfl ?_
  refine mx_get 15 1 [7, 16] 10 (by decide +kernel) hl ⟨hci, rfl⟩ h1 ?_
  refine mx_S (.goto 4) 3 [] 14 [(0, .ref a)] [.int 0] (by decide +kernel) rfl ?_
  exact mx_ret (some (.int 0)) (by decide +kernel) ⟨rfl, rfl⟩
theorem ct_isLatin1 {a ci : Nat} {fs : List Value} (h : rm_H) (hl : rm_look 21 (ah_O L xs) h a = some (.inr (ci, fs))) (hci : [7, 16].contains ci = true) (h1 : fs[1]? = some (.int 0)) : mx_R L xs zf ah_M64 0 [(0, .ref a)] [] h 0 0 0 0 (fun v h' => v = some (.int 1) ∧ h' = h) := by
  refine mx_S (.getstatic 38) 3 [0] 3 [(0, .ref a)] [.int 1] (by decide +kernel) rfl ?_
  refine mx_1 .eq 14 false 6 (by decide +kernel) (by decide +kernel) ?_
  refine mx_S (.aload_n 0) 1 [] 7 [(0, .ref a)] [.ref a] (by decide +kernel) rfl ?_
  refine mx_get 15 1 [7, 16] 10 (by decide +kernel) hl ⟨hci, rfl⟩ h1 ?_
  refine mx_1 .ne 7 false 13 (by decide +kernel) (by decide +kernel) ?_
  refine mx_S (.iconst 1) 1 [] 14 [(0, .ref a)] [.int 1] (by decide +kernel) rfl ?_
  refine mx_S (.goto 4) 3 [] 18 [(0, .ref a)] [.int 1] (by decide +kernel) rfl ?_
  exact mx_ret (some (.int 1)) (by decide +kernel) ⟨rfl, rfl⟩
end CT3
/-- a virtual call on a cell that is known, its arguments as they stand -/
theorem mx_vcall {L : Nat} {xs : Nat → Int32} {zf : Value} {M : rm_M} {pc : Nat} {lv : rm_L} {st : List Value} {h : rm_H} {c s f l : Nat} {post : Option Value → rm_H → Prop} {M1 : rm_M} (idx mi kind n : Nat) (cis : List Nat) (b : Nat) (As rest : List Value) (lv1 : rm_L) (v : Option Value) (h1 : rm_H) (c1 s1 f1 l1 c2 s2 pc' : Nat) (st' : List Value) {ci : Nat} {fs : List Value} (hP : ah_P[mi]? = some M1) (hi : rm_fnd M.2.2.2.2 pc = some (.invokevirtual idx, 3, mi :: kind :: n :: cis)) (hn : n ≤ st.length ∧ (kind = 5 ∨ kind = 6 ∨ kind = 8 ∨ kind = 9)) (hd : st.drop n = .ref b :: rest) (ht : (st.take n).reverse = As) (hl : rm_look 21 (ah_O L xs) h b = some (.inr (ci, fs))) (hci : cis.contains ci = true) (hf : (c1 + c2 ≤ c ∧ s1 + s2 ≤ s ∧ f1 + 1 ≤ f ∧ 8 + (M1.2.2.1 + 11) + l1 ≤ l) ∧ lv_args 0 (.ref b :: As) = lv1 ∧ rm_ok8 M1 (.ref b :: As) rest = true ∧ pc + 3 = pc' ∧ v.toList ++ rest = st')
    (ha : mx_R L xs zf M1 0 lv1 [] h c1 s1 f1 l1 (fun u h' => u = v ∧ h' = h1)) (hr : mx_R L xs zf M pc' lv st' h1 c2 s2 f l post) : mx_R L xs zf M pc lv st h c s f l post := by
  obtain ⟨⟨hc, hs, hff, hll⟩, hlv, h8, hp, hst⟩ := hf
  subst hlv hp hst ht
  refine rm_Runs.call (i := (.invokevirtual idx, 3, mi :: kind :: n :: cis)) (k := (M1, .ref b :: (st.take n).reverse, rest)) hi rfl ?_ h8 ha hc hs hff hll ?_
  · unfold rm_call
    dsimp only
    rw [hP]
    dsimp only
    rw [if_pos hn.1, hd]
    dsimp only
    rw [if_pos ⟨rfl, hn.2, by unfold rm_cis; rw [hl]; exact hci⟩]
  · rintro u h' ⟨rfl, rfl⟩
    exact hr
section CT4
variable (L : Nat) (xs : Nat → Int32) (zf : Value)
theorem ct_charAt (hz : zf.category = 1) {b a n ci : Nat} {fs : List Value} {i : Int32} {g : Nat → Int32} (y : Int32) (h : rm_H) (hs : rm_look 21 (ah_O L xs) h b = some (.inr (ci, fs))) (hci : [7, 16].contains ci = true) (hs0 : fs[0]? = some (.ref a)) (hs1 : fs[1]? = some (.int 0)) (hl : rm_look 21 (ah_O L xs) h a = some (.inl (1, n, .inl g))) (h1 : mx_f1 .lt i = false) (h2 : mx_f2 .lt i (Int32.ofNat n) = true) (hin : rm_in i n = true) (hy : ((g i.toNatClampNeg &&& 255).toUInt32 % 65536).toInt32 = y) (hc : rm_rt (some .char) y = true) : mx_R L xs zf ah_M63 0 [(0, .ref b), (1, .int i)] [] h 0 0 3 64 (fun v h' => v = some (.int y) ∧ h' = h) := by
  refine mx_S (.aload_n 0) 1 [] 1 [(0, .ref b), (1, .int i)] [.ref b] (by decide +kernel) rfl ?_
  refine mx_vcall 492 64 5 0 [7, 16] b [] [] [(0, .ref b)] (some (.int 1)) h 0 0 0 0 0 0 4 [.int 1] ap_64 (by decide +kernel) ⟨Nat.zero_le _, Or.inl rfl⟩ rfl rfl hs hci ⟨by decide +kernel, rfl, rfl, rfl, rfl⟩ (ct_isLatin1 L xs zf h hs hci hs1) ?_
  refine mx_1 .eq 12 false 7 (by decide +kernel) (by decide +kernel) ?_
  refine mx_S (.aload_n 0) 1 [] 8 [(0, .ref b), (1, .int i)] [.ref b] (by decide +kernel) rfl ?_
  refine mx_get 9 0 [7, 16] 11 (by decide +kernel) hs ⟨hci, rfl⟩ hs0 ?_
  refine mx_S (.iload_n 1) 1 [] 12 [(0, .ref b), (1, .int i)] [.int i, .ref a] (by decide +kernel) rfl ?_
  refine mx_call 65 3 [.ref a, .int i] [] [(0, .ref a), (1, .int i)] (some (.int y)) h 0 0 2 43 0 0 15 [.int y] ap_65 rfl ⟨by decide +kernel, rfl, rfl, rfl, rfl⟩ (ct_charAt1 L xs zf hz y h hl h1 h2 hin hy hc) ?_
  refine mx_ret (some (.int y)) ?_ ⟨rfl, rfl⟩
  show (if rm_rt (some .char) y = true then some (some (Value.int y)) else none) = _
  rw [if_pos hc]
theorem ct_length {b a n ci : Nat} {fs : List Value} {t : Nat} {g : (Nat → Int32) ⊕ (Nat → Int64) ⊕ (Nat → UInt32) ⊕ (Nat → UInt64) ⊕ (Nat → Option Nat)} (y : Int32) (h : rm_H) (hs : rm_look 21 (ah_O L xs) h b = some (.inr (ci, fs))) (hci : [7, 16].contains ci = true) (hs0 : fs[0]? = some (.ref a)) (hs1 : fs[1]? = some (.int 0)) (hl : rm_look 21 (ah_O L xs) h a = some (.inl (1, n, g))) (hy : (Int32.ofNat n >>> (0 &&& 31)) = y) : mx_R L xs zf ah_M60 0 [(0, .ref b)] [] h 0 0 1 20 (fun v h' => v = some (.int y) ∧ h' = h) := by
  refine mx_S (.aload_n 0) 1 [] 1 [(0, .ref b)] [.ref b] (by decide +kernel) rfl ?_
  refine mx_get 9 0 [7, 16] 4 (by decide +kernel) hs ⟨hci, rfl⟩ hs0 ?_
  refine mx_len 5 (by decide +kernel) hl (by decide +kernel) ?_
  refine mx_S (.aload_n 0) 1 [] 6 [(0, .ref b)] [.ref b, .int (Int32.ofNat n)] (by decide +kernel) rfl ?_
  refine mx_vcall 335 61 5 0 [7, 16] b [] [.int (Int32.ofNat n)] [(0, .ref b)] (some (.int 0)) h 0 0 0 0 0 0 9 [.int 0, .int (Int32.ofNat n)] ap_61 (by decide +kernel) ⟨Nat.zero_le _, Or.inl rfl⟩ rfl rfl hs hci ⟨by decide +kernel, rfl, rfl, rfl, rfl⟩ (ct_coder L xs zf h hs hci hs1) ?_
  refine mx_S .ishr 1 [] 10 [(0, .ref b)] [.int (Int32.ofNat n >>> (0 &&& 31))] (by decide +kernel) rfl ?_
  rw [hy]
  exact mx_ret (some (.int y)) rfl ⟨rfl, rfl⟩
end CT4
