/-! WHERE A ROW OF LETTERS ENDS: Reader.endOf's loop, for any text of bytes. -/
def rd_c (g : Nat → Int32) (k : Nat) : Int32 := ((g k &&& 255).toUInt32 % 65536).toInt32
theorem rd_c_char (g : Nat → Int32) (k : Nat) : rm_rt (some .char) (rd_c g k) = true := by
  unfold rm_rt rd_c
  apply decide_eq_true
  show ((g k &&& 255).toUInt32 % 65536).toUInt16.toUInt32.toInt32 = _
  congr 1
  apply UInt32.toNat_inj.mp
  simp
theorem rd_len (n : Nat) : (Int32.ofNat n >>> (0 &&& 31)) = Int32.ofNat n := by
  rw [show ((0 : Int32) &&& 31) = 0 from by decide]
  simp
theorem rd_int {k : Nat} (h : k ≤ 2000) : (Int32.ofNat k).toInt = (k : Int) := Int32.toInt_ofNat_of_lt (by omega)
theorem rd_clamp {k : Nat} (h : k ≤ 2000) : (Int32.ofNat k).toNatClampNeg = k := by
  show (Int32.ofNat k).toInt.toNat = k
  rw [rd_int h]
  rfl
theorem rd_succ (k : Nat) : Int32.ofNat k + 1 = Int32.ofNat (k + 1) := by
  rw [Int32.ofNat_add]
  rfl
theorem rd_lt0 {k : Nat} (h : k ≤ 2000) : mx_f1 .lt (Int32.ofNat k) = false := mx_v1 .lt 0 2000 (by rw [rd_int h]; omega) (by rw [rd_int h]; omega) rfl
theorem rd_ltn {k n : Nat} (h : k < n) (hn : n ≤ 2000) : mx_f2 .lt (Int32.ofNat k) (Int32.ofNat n) = true :=
  mx_v2 .lt k k n (by rw [rd_int (by omega)]; omega) (by rw [rd_int (by omega)]; omega) (rd_int hn) (by show decide ((k : Int) < n) = true; exact decide_eq_true (by omega))
theorem rd_gen {k n : Nat} (h : k < n) (hn : n ≤ 2000) : mx_f2 .ge (Int32.ofNat k) (Int32.ofNat n) = false :=
  mx_v2 .ge k k n (by rw [rd_int (by omega)]; omega) (by rw [rd_int (by omega)]; omega) (rd_int hn) (by show decide ((k : Int) < n) = true; exact decide_eq_true (by omega))
theorem rd_gee {n : Nat} (hn : n ≤ 2000) : mx_f2 .ge (Int32.ofNat n) (Int32.ofNat n) = true :=
  mx_v2 .ge n n n (by rw [rd_int hn]; omega) (by rw [rd_int hn]; omega) (rd_int hn) (by show decide ((n : Int) ≤ n) = true; exact decide_eq_true (by omega))
theorem rd_in {k n : Nat} (h : k < n) (hn : n ≤ 2000) : rm_in (Int32.ofNat k) n = true := by
  unfold rm_in
  rw [rd_clamp (by omega), decide_eq_true h, Bool.and_true, decide_eq_false, Bool.not_false]
  rw [Int32.lt_iff_toInt_lt, rd_int (by omega)]
  show ¬ (k : Int) < 0
  omega
def rd_skip (g : Nat → Int32) (n : Nat) : Nat → Nat → Nat
  | 0, k => k
  | f + 1, k => if rd_al (rd_c g k) = true then rd_skip g n f (k + 1) else k
section RD
variable {L : Nat} {xs : Nat → Int32} {zf : Value} {h : rm_H} {r t a n ci : Nat} {rf fs : List Value} {g : Nat → Int32} {b : Int32} {c s : Nat} {post : Option Value → rm_H → Prop}
theorem ct_endOf_loop (hz : zf.category = 1) (hn : n ≤ 2000) (hrd : rm_look 21 (ah_O L xs) h r = some (.inr (6, rf))) (hr0 : rf[0]? = some (.ref t)) (hs : rm_look 21 (ah_O L xs) h t = some (.inr (ci, fs))) (hci : [7, 16].contains ci = true) (hs0 : fs[0]? = some (.ref a)) (hs1 : fs[1]? = some (.int 0)) (hl : rm_look 21 (ah_O L xs) h a = some (.inl (1, n, .inl g)))
    (f : Nat) : ∀ k : Nat, k + f = n → mx_R L xs zf ah_M67 33 [(2, .int (Int32.ofNat (rd_skip g n f k))), (0, .ref r), (1, .int b)] [] h c s 4 100 post → mx_R L xs zf ah_M67 2 [(2, .int (Int32.ofNat k)), (0, .ref r), (1, .int b)] [] h c s 4 100 post := by
  induction f with
  | zero =>
    intro k hk hr
    have hk : k = n := hk
    subst hk
    refine mx_S (.iload_n 2) 1 [] 3 [(2, .int (Int32.ofNat k)), (0, .ref r), (1, .int b)] [.int (Int32.ofNat k)] (by decide +kernel) rfl ?_
    refine mx_S (.aload_n 0) 1 [] 4 [(2, .int (Int32.ofNat k)), (0, .ref r), (1, .int b)] [.ref r, .int (Int32.ofNat k)] (by decide +kernel) rfl ?_
    refine mx_get 9 0 [6] 7 (by decide +kernel) hrd (by decide +kernel) hr0 ?_
    refine mx_vcall 15 60 5 0 [7, 16] t [] [.int (Int32.ofNat k)] [(0, .ref t)] (some (.int (Int32.ofNat k))) h 0 0 1 20 c s 10 [.int (Int32.ofNat k), .int (Int32.ofNat k)] ap_60 (by decide +kernel) ⟨Nat.zero_le _, Or.inl rfl⟩ rfl rfl hs hci ⟨⟨by omega, by omega, by decide +kernel, by decide +kernel⟩, rfl, rfl, rfl, rfl⟩ (ct_length L xs zf (t := 1) _ h hs hci hs0 hs1 hl (rd_len _)) ?_
    exact mx_2 .ge 23 true 33 (rd_gee hn) (by decide +kernel) hr
  | succ f ih =>
    intro k hk hr
    have hkn : k < n := by omega
    refine mx_S (.iload_n 2) 1 [] 3 [(2, .int (Int32.ofNat k)), (0, .ref r), (1, .int b)] [.int (Int32.ofNat k)] (by decide +kernel) rfl ?_
    refine mx_S (.aload_n 0) 1 [] 4 [(2, .int (Int32.ofNat k)), (0, .ref r), (1, .int b)] [.ref r, .int (Int32.ofNat k)] (by decide +kernel) rfl ?_
    refine mx_get 9 0 [6] 7 (by decide +kernel) hrd (by decide +kernel) hr0 ?_
    refine mx_vcall 15 60 5 0 [7, 16] t [] [.int (Int32.ofNat k)] [(0, .ref t)] (some (.int (Int32.ofNat n))) h 0 0 1 20 c s 10 [.int (Int32.ofNat n), .int (Int32.ofNat k)] ap_60 (by decide +kernel) ⟨Nat.zero_le _, Or.inl rfl⟩ rfl rfl hs hci ⟨⟨by omega, by omega, by decide +kernel, by decide +kernel⟩, rfl, rfl, rfl, rfl⟩ (ct_length L xs zf (t := 1) _ h hs hci hs0 hs1 hl (rd_len _)) ?_
    refine mx_2 .ge 23 false 13 (rd_gen hkn hn) (by decide +kernel) ?_
    refine mx_S (.aload_n 0) 1 [] 14 [(2, .int (Int32.ofNat k)), (0, .ref r), (1, .int b)] [.ref r] (by decide +kernel) rfl ?_
    refine mx_get 9 0 [6] 17 (by decide +kernel) hrd (by decide +kernel) hr0 ?_
    refine mx_S (.iload_n 2) 1 [] 18 [(2, .int (Int32.ofNat k)), (0, .ref r), (1, .int b)] [.int (Int32.ofNat k), .ref t] (by decide +kernel) rfl ?_
    refine mx_vcall 47 63 5 1 [7, 16] t [.int (Int32.ofNat k)] [] [(0, .ref t), (1, .int (Int32.ofNat k))] (some (.int (rd_c g k))) h 0 0 3 64 c s 21 [.int (rd_c g k)] ap_63 (by decide +kernel) ⟨Nat.le_of_ble_eq_true rfl, Or.inl rfl⟩ rfl rfl hs hci ⟨⟨by omega, by omega, by decide +kernel, by decide +kernel⟩, rfl, rfl, rfl, rfl⟩ (ct_charAt L xs zf hz _ h hs hci hs0 hs1 hl (rd_lt0 (by omega)) (rd_ltn hkn hn) (rd_in hkn hn) (by rw [rd_clamp (by omega)]; rfl) (rd_c_char g k)) ?_
    refine mx_calls (.invokestatic 55) [68, 0, 1] 68 3 [.int (rd_c g k)] [] [(0, .int (rd_c g k))] (some (.int (rd_01 (rd_al (rd_c g k))))) h 0 0 1 20 c s 24 [.int (rd_01 (rd_al (rd_c g k)))] ap_68 (by decide +kernel) rfl ⟨⟨by omega, by omega, by decide +kernel, by decide +kernel⟩, rfl, rfl, rfl, rfl⟩ (ct_alnum L xs zf _ h) ?_
    cases hq : rd_al (rd_c g k) with
    | false =>
      refine mx_1 .eq 9 true 33 rfl (by decide +kernel) ?_
      rw [rd_skip, hq] at hr
      exact hr
    | true =>
      refine mx_1 .eq 9 false 27 rfl (by decide +kernel) ?_
      refine mx_S (.iinc 2 1) 3 [] 30 [(2, .int (Int32.ofNat k + 1)), (0, .ref r), (1, .int b)] [] (by decide +kernel) rfl ?_
      refine mx_S (.goto (-28)) 3 [] 2 [(2, .int (Int32.ofNat k + 1)), (0, .ref r), (1, .int b)] [] (by decide +kernel) rfl ?_
      rw [rd_succ]
      rw [rd_skip, hq] at hr
      exact ih (k + 1) (by omega) hr
theorem rd_skip_ge (g : Nat → Int32) (n f : Nat) : ∀ k : Nat, k ≤ rd_skip g n f k ∧ rd_skip g n f k ≤ k + f := by
  induction f with
  | zero => exact fun k => ⟨Nat.le_refl _, Nat.le_refl _⟩
  | succ f ih =>
    intro k
    rw [rd_skip]
    split
    · have := ih (k + 1)
      omega
    · omega
/-- where the word or sign that begins at k ends -/
def rd_end (g : Nat → Int32) (n k : Nat) : Nat := if k < rd_skip g n (n - k) k then rd_skip g n (n - k) k else if rd_c g k = 61 ∧ k + 1 < n ∧ rd_c g (k + 1) = 61 then k + 2 else k + 1
theorem rd_le {k m : Nat} {q : Bool} (hk : k ≤ 2000) (hm : m ≤ 2000) (hq : q = decide (m ≤ k)) : mx_f2 .le (Int32.ofNat m) (Int32.ofNat k) = q := by
  subst hq
  by_cases hmk : m ≤ k
  · rw [decide_eq_true hmk]
    exact mx_v2 .le m m k (by rw [rd_int hm]; omega) (by rw [rd_int hm]; omega) (rd_int hk) (by show decide ((m : Int) ≤ k) = true; exact decide_eq_true (by omega))
  · rw [decide_eq_false hmk]
    exact mx_v2 .le m m k (by rw [rd_int hm]; omega) (by rw [rd_int hm]; omega) (rd_int hk) (by show decide ((k : Int) < m) = true; exact decide_eq_true (by omega))
theorem rd_succ2 (k : Nat) : Int32.ofNat k + 2 = Int32.ofNat (k + 2) := by
  rw [Int32.ofNat_add]
  rfl
theorem ct_endOf (hz : zf.category = 1) (hn : n ≤ 2000) (hrd : rm_look 21 (ah_O L xs) h r = some (.inr (6, rf))) (hr0 : rf[0]? = some (.ref t)) (hs : rm_look 21 (ah_O L xs) h t = some (.inr (ci, fs))) (hci : [7, 16].contains ci = true) (hs0 : fs[0]? = some (.ref a)) (hs1 : fs[1]? = some (.int 0)) (hl : rm_look 21 (ah_O L xs) h a = some (.inl (1, n, .inl g)))
    (k : Nat) (hk : k < n) : mx_R L xs zf ah_M67 0 [(0, .ref r), (1, .int (Int32.ofNat k))] [] h 0 0 4 100 (fun v h' => v = some (.int (Int32.ofNat (rd_end g n k))) ∧ h' = h) := by
  refine mx_S (.iload_n 1) 1 [] 1 [(0, .ref r), (1, .int (Int32.ofNat k))] [.int (Int32.ofNat k)] (by decide +kernel) rfl ?_
  refine mx_S (.istore_n 2) 1 [] 2 [(2, .int (Int32.ofNat k)), (0, .ref r), (1, .int (Int32.ofNat k))] [] (by decide +kernel) rfl ?_
  refine ct_endOf_loop hz hn hrd hr0 hs hci hs0 hs1 hl (n - k) k (by omega) ?_
  have hb := rd_skip_ge g n (n - k) k
  refine mx_S (.iload_n 2) 1 [] 34 [(2, .int (Int32.ofNat (rd_skip g n (n - k) k))), (0, .ref r), (1, .int (Int32.ofNat k))] [.int (Int32.ofNat (rd_skip g n (n - k) k))] (by decide +kernel) rfl ?_
  refine mx_S (.iload_n 1) 1 [] 35 [(2, .int (Int32.ofNat (rd_skip g n (n - k) k))), (0, .ref r), (1, .int (Int32.ofNat k))] [.int (Int32.ofNat k), .int (Int32.ofNat (rd_skip g n (n - k) k))] (by decide +kernel) rfl ?_
  by_cases hd : k < rd_skip g n (n - k) k
  · refine mx_2 .le 5 false 38 (rd_le (by omega) (by omega) (decide_eq_false (by omega)).symm) (by decide +kernel) ?_
    refine mx_S (.iload_n 2) 1 [] 39 [(2, .int (Int32.ofNat (rd_skip g n (n - k) k))), (0, .ref r), (1, .int (Int32.ofNat k))] [.int (Int32.ofNat (rd_skip g n (n - k) k))] (by decide +kernel) rfl ?_
    refine mx_rets .ireturn 1 [] (some (.int (Int32.ofNat (rd_skip g n (n - k) k)))) (by decide +kernel) rfl ⟨?_, rfl⟩
    rw [rd_end, if_pos hd]
  · have he : rd_skip g n (n - k) k = k := by omega
    rw [he]
    refine mx_2 .le 5 true 40 (rd_le (by omega) (by omega) (decide_eq_true (Nat.le_refl _)).symm) (by decide +kernel) ?_
    have hend : rd_end g n k = if rd_c g k = 61 ∧ k + 1 < n ∧ rd_c g (k + 1) = 61 then k + 2 else k + 1 := by rw [rd_end, if_neg hd]
    refine mx_S (.aload_n 0) 1 [] 41 [(2, .int (Int32.ofNat k)), (0, .ref r), (1, .int (Int32.ofNat k))] [.ref r] (by decide +kernel) rfl ?_
    refine mx_get 9 0 [6] 44 (by decide +kernel) hrd (by decide +kernel) hr0 ?_
    refine mx_S (.iload_n 2) 1 [] 45 [(2, .int (Int32.ofNat k)), (0, .ref r), (1, .int (Int32.ofNat k))] [.int (Int32.ofNat k), .ref t] (by decide +kernel) rfl ?_
    refine mx_vcall 47 63 5 1 [7, 16] t [.int (Int32.ofNat k)] [] [(0, .ref t), (1, .int (Int32.ofNat k))] (some (.int (rd_c g k))) h 0 0 3 64 0 0 48 [.int (rd_c g k)] ap_63 (by decide +kernel) ⟨Nat.le_of_ble_eq_true rfl, Or.inl rfl⟩ rfl rfl hs hci ⟨⟨by omega, by omega, by decide +kernel, by decide +kernel⟩, rfl, rfl, rfl, rfl⟩ (ct_charAt L xs zf hz _ h hs hci hs0 hs1 hl (rd_lt0 (by omega)) (rd_ltn hk hn) (rd_in hk hn) (by rw [rd_clamp (by omega)]; rfl) (rd_c_char g k)) ?_
    refine mx_S (.bipush 61) 2 [] 50 [(2, .int (Int32.ofNat k)), (0, .ref r), (1, .int (Int32.ofNat k))] [.int 61, .int (rd_c g k)] (by decide +kernel) rfl ?_
    have fin0 : ∀ lv3 : rm_L, lv3 = [(2, .int (Int32.ofNat k)), (0, .ref r), (1, .int (Int32.ofNat k))] → rd_end g n k = k + 1 → mx_R L xs zf ah_M67 85 lv3 [] h 0 0 4 100 (fun v h' => v = some (.int (Int32.ofNat (rd_end g n k))) ∧ h' = h) := by
      intro lv3 e3 e4
      subst e3
      rw [e4]
      refine mx_S (.iconst 0) 1 [] 86 [(2, .int (Int32.ofNat k)), (0, .ref r), (1, .int (Int32.ofNat k))] [.int 0] (by decide +kernel) rfl ?_
      refine mx_S (.istore_n 3) 1 [] 87 [(3, .int 0), (2, .int (Int32.ofNat k)), (0, .ref r), (1, .int (Int32.ofNat k))] [] (by decide +kernel) rfl ?_
      refine mx_S (.iload_n 3) 1 [] 88 [(3, .int 0), (2, .int (Int32.ofNat k)), (0, .ref r), (1, .int (Int32.ofNat k))] [.int 0] (by decide +kernel) rfl ?_
      refine mx_1 .eq 9 true 97 rfl (by decide +kernel) ?_
      refine mx_S (.iload_n 2) 1 [] 98 [(3, .int 0), (2, .int (Int32.ofNat k)), (0, .ref r), (1, .int (Int32.ofNat k))] [.int (Int32.ofNat k)] (by decide +kernel) rfl ?_
      refine mx_S (.iconst 1) 1 [] 99 [(3, .int 0), (2, .int (Int32.ofNat k)), (0, .ref r), (1, .int (Int32.ofNat k))] [.int 1, .int (Int32.ofNat k)] (by decide +kernel) rfl ?_
      refine mx_S .iadd 1 [] 100 [(3, .int 0), (2, .int (Int32.ofNat k)), (0, .ref r), (1, .int (Int32.ofNat k))] [.int (Int32.ofNat k + 1)] (by decide +kernel) rfl ?_
      exact mx_rets .ireturn 1 [] (some (.int (Int32.ofNat k + 1))) (by decide +kernel) rfl ⟨by rw [rd_succ], rfl⟩
    by_cases h61 : rd_c g k = 61
    · refine mx_2 .ne 35 false 53 (by show decide (¬ rd_c g k = 61) = false; exact decide_eq_false (fun z => z h61)) (by decide +kernel) ?_
      refine mx_S (.iload_n 2) 1 [] 54 [(2, .int (Int32.ofNat k)), (0, .ref r), (1, .int (Int32.ofNat k))] [.int (Int32.ofNat k)] (by decide +kernel) rfl ?_
      refine mx_S (.iconst 1) 1 [] 55 [(2, .int (Int32.ofNat k)), (0, .ref r), (1, .int (Int32.ofNat k))] [.int 1, .int (Int32.ofNat k)] (by decide +kernel) rfl ?_
      refine mx_S .iadd 1 [] 56 [(2, .int (Int32.ofNat k)), (0, .ref r), (1, .int (Int32.ofNat k))] [.int (Int32.ofNat k + 1)] (by decide +kernel) rfl ?_
      rw [rd_succ]
      refine mx_S (.aload_n 0) 1 [] 57 [(2, .int (Int32.ofNat k)), (0, .ref r), (1, .int (Int32.ofNat k))] [.ref r, .int (Int32.ofNat (k + 1))] (by decide +kernel) rfl ?_
      refine mx_get 9 0 [6] 60 (by decide +kernel) hrd (by decide +kernel) hr0 ?_
      refine mx_vcall 15 60 5 0 [7, 16] t [] [.int (Int32.ofNat (k + 1))] [(0, .ref t)] (some (.int (Int32.ofNat n))) h 0 0 1 20 0 0 63 [.int (Int32.ofNat n), .int (Int32.ofNat (k + 1))] ap_60 (by decide +kernel) ⟨Nat.zero_le _, Or.inl rfl⟩ rfl rfl hs hci ⟨⟨by omega, by omega, by decide +kernel, by decide +kernel⟩, rfl, rfl, rfl, rfl⟩ (ct_length L xs zf (t := 1) _ h hs hci hs0 hs1 hl (rd_len _)) ?_
      by_cases hk1 : k + 1 < n
      · refine mx_2 .ge 22 false 66 (rd_gen hk1 hn) (by decide +kernel) ?_
        refine mx_S (.aload_n 0) 1 [] 67 [(2, .int (Int32.ofNat k)), (0, .ref r), (1, .int (Int32.ofNat k))] [.ref r] (by decide +kernel) rfl ?_
        refine mx_get 9 0 [6] 70 (by decide +kernel) hrd (by decide +kernel) hr0 ?_
        refine mx_S (.iload_n 2) 1 [] 71 [(2, .int (Int32.ofNat k)), (0, .ref r), (1, .int (Int32.ofNat k))] [.int (Int32.ofNat k), .ref t] (by decide +kernel) rfl ?_
        refine mx_S (.iconst 1) 1 [] 72 [(2, .int (Int32.ofNat k)), (0, .ref r), (1, .int (Int32.ofNat k))] [.int 1, .int (Int32.ofNat k), .ref t] (by decide +kernel) rfl ?_
        refine mx_S .iadd 1 [] 73 [(2, .int (Int32.ofNat k)), (0, .ref r), (1, .int (Int32.ofNat k))] [.int (Int32.ofNat k + 1), .ref t] (by decide +kernel) rfl ?_
        rw [rd_succ]
        refine mx_vcall 47 63 5 1 [7, 16] t [.int (Int32.ofNat (k + 1))] [] [(0, .ref t), (1, .int (Int32.ofNat (k + 1)))] (some (.int (rd_c g (k + 1)))) h 0 0 3 64 0 0 76 [.int (rd_c g (k + 1))] ap_63 (by decide +kernel) ⟨Nat.le_of_ble_eq_true rfl, Or.inl rfl⟩ rfl rfl hs hci ⟨⟨by omega, by omega, by decide +kernel, by decide +kernel⟩, rfl, rfl, rfl, rfl⟩ (ct_charAt L xs zf hz _ h hs hci hs0 hs1 hl (rd_lt0 (by omega)) (rd_ltn hk1 hn) (rd_in hk1 hn) (by rw [rd_clamp (by omega)]; rfl) (rd_c_char g (k + 1))) ?_
        refine mx_S (.bipush 61) 2 [] 78 [(2, .int (Int32.ofNat k)), (0, .ref r), (1, .int (Int32.ofNat k))] [.int 61, .int (rd_c g (k + 1))] (by decide +kernel) rfl ?_
        by_cases h62 : rd_c g (k + 1) = 61
        · refine mx_2 .ne 7 false 81 (by show decide (¬ rd_c g (k + 1) = 61) = false; exact decide_eq_false (fun z => z h62)) (by decide +kernel) ?_
          rw [hend, if_pos ⟨h61, hk1, h62⟩]
          refine mx_S (.iconst 1) 1 [] 82 [(2, .int (Int32.ofNat k)), (0, .ref r), (1, .int (Int32.ofNat k))] [.int 1] (by decide +kernel) rfl ?_
          refine mx_S (.goto 4) 3 [] 86 [(2, .int (Int32.ofNat k)), (0, .ref r), (1, .int (Int32.ofNat k))] [.int 1] (by decide +kernel) rfl ?_
          refine mx_S (.istore_n 3) 1 [] 87 [(3, .int 1), (2, .int (Int32.ofNat k)), (0, .ref r), (1, .int (Int32.ofNat k))] [] (by decide +kernel) rfl ?_
          refine mx_S (.iload_n 3) 1 [] 88 [(3, .int 1), (2, .int (Int32.ofNat k)), (0, .ref r), (1, .int (Int32.ofNat k))] [.int 1] (by decide +kernel) rfl ?_
          refine mx_1 .eq 9 false 91 rfl (by decide +kernel) ?_
          refine mx_S (.iload_n 2) 1 [] 92 [(3, .int 1), (2, .int (Int32.ofNat k)), (0, .ref r), (1, .int (Int32.ofNat k))] [.int (Int32.ofNat k)] (by decide +kernel) rfl ?_
          refine mx_S (.iconst 2) 1 [] 93 [(3, .int 1), (2, .int (Int32.ofNat k)), (0, .ref r), (1, .int (Int32.ofNat k))] [.int 2, .int (Int32.ofNat k)] (by decide +kernel) rfl ?_
          refine mx_S .iadd 1 [] 94 [(3, .int 1), (2, .int (Int32.ofNat k)), (0, .ref r), (1, .int (Int32.ofNat k))] [.int (Int32.ofNat k + 2)] (by decide +kernel) rfl ?_
          refine mx_S (.goto 6) 3 [] 100 [(3, .int 1), (2, .int (Int32.ofNat k)), (0, .ref r), (1, .int (Int32.ofNat k))] [.int (Int32.ofNat k + 2)] (by decide +kernel) rfl ?_
          exact mx_rets .ireturn 1 [] (some (.int (Int32.ofNat k + 2))) (by decide +kernel) rfl ⟨by rw [rd_succ2], rfl⟩
        · refine mx_2 .ne 7 true 85 (by show decide (¬ rd_c g (k + 1) = 61) = true; exact decide_eq_true h62) (by decide +kernel) ?_
          exact fin0 _ rfl (by rw [hend, if_neg (fun z => h62 z.2.2)])
      · have e1 : k + 1 = n := by omega
        refine mx_2 .ge 22 true 85 (by rw [e1]; exact rd_gee hn) (by decide +kernel) ?_
        exact fin0 _ rfl (by rw [hend, if_neg (fun z => hk1 z.2.1)])
    · refine mx_2 .ne 35 true 85 (by show decide (¬ rd_c g k = 61) = true; exact decide_eq_true h61) (by decide +kernel) ?_
      exact fin0 _ rfl (by rw [hend, if_neg (fun z => h61 z.1)])
end RD
