/-! METHODS AS FUNCTIONS, printed by wip/whole/gen_fun.py -/
def b0_536 (L : Nat) (xs : Nat → Int32) (zf : Value) (D : dD) (w : Nat) (K18 : Option Nat → Option Nat → Option Nat → Int32 → rm_H → Option dR) (o0 : Option Nat) (o1 : Option Nat) (o2 : Option Nat) (i3 : Int32) (h : rm_H) : Option dR :=
  K18 o0 o1 o2 (i3 + 6) h
theorem c0_536 {L : Nat} {xs : Nat → Int32} {zf : Value} {D : dD} {w k : Nat} {K18 : Option Nat → Option Nat → Option Nat → Int32 → rm_H → Option dR} (hD : dO L xs zf D k) (hz : zf.category = 1) (hK18 : ∀ (o0 : Option Nat) (o1 : Option Nat) (o2 : Option Nat) (i3 : Int32) (lv : rm_L) (h : rm_H) (r : dR), rm_get lv 0 = some (va_rf o0) → rm_get lv 1 = some (va_rf o1) → rm_get lv 2 = some (va_rf o2) → rm_get lv 3 = some (.int i3) → K18 o0 o1 o2 i3 h = some r → dq L xs zf ah_M0 18 lv [] h (k + 1) r) : ∀ (o0 : Option Nat) (o1 : Option Nat) (o2 : Option Nat) (i3 : Int32) (lv : rm_L) (h : rm_H) (r : dR), rm_get lv 0 = some (va_rf o0) → rm_get lv 1 = some (va_rf o1) → rm_get lv 2 = some (va_rf o2) → rm_get lv 3 = some (.int i3) → b0_536 L xs zf D w K18  o0 o1 o2 i3 h = some r → dq L xs zf ah_M0 536 lv [] h (k + 1) r := by
  intro o0 o1 o2 i3 lv h r G0 G1 G2 G3 hh
  unfold b0_536 at hh
  refine dq_incy 3 6 6 539 (by decide +kernel) ⟨rfl, by decide +kernel, by decide +kernel⟩ G3 ?_
  have g1 := dg_ne (i := 3) (u := .int (i3 + 6)) (by decide) (Or.inl (by decide)) G0
  have g2 := dg_ne (i := 3) (u := .int (i3 + 6)) (by decide) (Or.inl (by decide)) G1
  have g3 := dg_ne (i := 3) (u := .int (i3 + 6)) (by decide) (Or.inr (drc _)) G2
  have g4 := dg_eq (lv) 3 (.int (i3 + 6))
  refine dq_S (.goto (-521)) 3 [] 18 _ [] (by decide +kernel) rfl ?_
  exact hK18 _ _ _ _ _ _ _ g1 g2 g3 g4 hh
def b0_18 (L : Nat) (xs : Nat → Int32) (zf : Value) (D : dD) (w : Nat) : Nat → Option Nat → Option Nat → Option Nat → Int32 → rm_H → Option dR
  | 0, _, _, _, _, _ => none
  | n + 1, o0, o1, o2, i3, h =>
    (daN L xs h o0).bind fun x1 =>
    if mx_f2 .gt i3 (x1 - 6) = true then
      drI (some .boolean) 1 h
    else
      (daI L xs h o0 i3).bind fun x4 =>
      if dsw 0 13 (x4 &&& 15) = true then
        b0_536 L xs zf D w (b0_18 L xs zf D w n) o0 o1 o2 i3 h
      else if (x4 &&& 15) = 0 then
        (daI L xs h o0 (i3 + 1)).bind fun x8 =>
        (daI L xs h o0 (i3 + 2)).bind fun x10 =>
        (daI L xs h o0 (i3 + 3)).bind fun x12 =>
        (daI L xs h o0 (i3 + 4)).bind fun x14 =>
        (daI L xs h o0 (i3 + 5)).bind fun x16 =>
        ((dcV L xs D 9 [0] o1 [.int x8, .int x10, .int x12, .int x14, .int x16] h).bind dxI).bind fun x18 =>
        (daI L xs x18.2 o0 (i3 + 1)).bind fun x22 =>
        (daI L xs x18.2 o0 (i3 + 2)).bind fun x24 =>
        (daI L xs x18.2 o0 (i3 + 3)).bind fun x26 =>
        (daI L xs x18.2 o0 (i3 + 4)).bind fun x28 =>
        (daI L xs x18.2 o0 (i3 + 5)).bind fun x30 =>
        ((dcV L xs D 286 [15] o2 [.int x22, .int x24, .int x26, .int x28, .int x30] x18.2).bind dxI).bind fun x32 =>
        if mx_f2 .eq x18.1 x32.1 = true then
          b0_536 L xs zf D w (b0_18 L xs zf D w n) o0 o1 o2 i3 x32.2
        else
          drI (some .boolean) 0 x32.2
      else if (x4 &&& 15) = 1 then
        (daI L xs h o0 (i3 + 1)).bind fun x38 =>
        ((dcV L xs D 36 [0] o1 [.int x38] h).bind dxI).bind fun x40 =>
        (daI L xs x40.2 o0 (i3 + 1)).bind fun x44 =>
        ((dcV L xs D 287 [15] o2 [.int x44] x40.2).bind dxI).bind fun x46 =>
        if mx_f2 .eq x40.1 x46.1 = true then
          b0_536 L xs zf D w (b0_18 L xs zf D w n) o0 o1 o2 i3 x46.2
        else
          drI (some .boolean) 0 x46.2
      else if (x4 &&& 15) = 2 then
        ((dcV L xs D 43 [0] o1 [] h).bind dxI).bind fun x52 =>
        ((dcV L xs D 294 [15] o2 [] x52.2).bind dxI).bind fun x56 =>
        if mx_f2 .eq x52.1 x56.1 = true then
          b0_536 L xs zf D w (b0_18 L xs zf D w n) o0 o1 o2 i3 x56.2
        else
          drI (some .boolean) 0 x56.2
      else if (x4 &&& 15) = 3 then
        (daI L xs h o0 (i3 + 1)).bind fun x62 =>
        ((dcV L xs D 218 [0] o1 [.int x62] h).bind dxI).bind fun x64 =>
        (daI L xs x64.2 o0 (i3 + 1)).bind fun x68 =>
        ((dcV L xs D 370 [15] o2 [.int x68] x64.2).bind dxI).bind fun x70 =>
        if mx_f2 .eq x64.1 x70.1 = true then
          b0_536 L xs zf D w (b0_18 L xs zf D w n) o0 o1 o2 i3 x70.2
        else
          drI (some .boolean) 0 x70.2
      else if (x4 &&& 15) = 4 then
        (daI L xs h o0 (i3 + 1)).bind fun x76 =>
        ((dcV L xs D 219 [0] o1 [.int x76] h).bind dxI).bind fun x78 =>
        (daI L xs x78.2 o0 (i3 + 1)).bind fun x82 =>
        ((dcV L xs D 371 [15] o2 [.int x82] x78.2).bind dxI).bind fun x84 =>
        if mx_f2 .eq x78.1 x84.1 = true then
          b0_536 L xs zf D w (b0_18 L xs zf D w n) o0 o1 o2 i3 x84.2
        else
          drI (some .boolean) 0 x84.2
      else if (x4 &&& 15) = 5 then
        (daI L xs h o0 (i3 + 1)).bind fun x90 =>
        (daI L xs h o0 (i3 + 2)).bind fun x92 =>
        (daI L xs h o0 (i3 + 3)).bind fun x94 =>
        ((dcV L xs D 221 [0] o1 [.int x90, .int x92, .int x94] h).bind dxI).bind fun x96 =>
        (daI L xs x96.2 o0 (i3 + 1)).bind fun x100 =>
        (daI L xs x96.2 o0 (i3 + 2)).bind fun x102 =>
        (daI L xs x96.2 o0 (i3 + 3)).bind fun x104 =>
        ((dcV L xs D 289 [15] o2 [.int x100, .int x102, .int x104] x96.2).bind dxI).bind fun x106 =>
        if mx_f2 .eq x96.1 x106.1 = true then
          b0_536 L xs zf D w (b0_18 L xs zf D w n) o0 o1 o2 i3 x106.2
        else
          drI (some .boolean) 0 x106.2
      else if (x4 &&& 15) = 6 then
        (daI L xs h o0 (i3 + 1)).bind fun x112 =>
        (daI L xs h o0 (i3 + 2)).bind fun x114 =>
        ((dcV L xs D 222 [0] o1 [.int x112, .int x114] h).bind dxI).bind fun x116 =>
        (daI L xs x116.2 o0 (i3 + 1)).bind fun x120 =>
        (daI L xs x116.2 o0 (i3 + 2)).bind fun x122 =>
        ((dcV L xs D 372 [15] o2 [.int x120, .int x122] x116.2).bind dxI).bind fun x124 =>
        if mx_f2 .eq x116.1 x124.1 = true then
          b0_536 L xs zf D w (b0_18 L xs zf D w n) o0 o1 o2 i3 x124.2
        else
          drI (some .boolean) 0 x124.2
      else if (x4 &&& 15) = 7 then
        (daI L xs h o0 (i3 + 1)).bind fun x130 =>
        (daI L xs h o0 (i3 + 2)).bind fun x132 =>
        ((dcV L xs D 235 [0] o1 [.int x130, .int x132] h).bind dxI).bind fun x134 =>
        (daI L xs x134.2 o0 (i3 + 1)).bind fun x138 =>
        (daI L xs x134.2 o0 (i3 + 2)).bind fun x140 =>
        ((dcV L xs D 380 [15] o2 [.int x138, .int x140] x134.2).bind dxI).bind fun x142 =>
        if mx_f2 .eq x134.1 x142.1 = true then
          b0_536 L xs zf D w (b0_18 L xs zf D w n) o0 o1 o2 i3 x142.2
        else
          drI (some .boolean) 0 x142.2
      else if (x4 &&& 15) = 8 then
        (daI L xs h o0 (i3 + 1)).bind fun x148 =>
        ((dcV L xs D 267 [0] o1 [.int x148] h).bind dxI).bind fun x150 =>
        (daI L xs x150.2 o0 (i3 + 1)).bind fun x154 =>
        ((dcV L xs D 402 [15] o2 [.int x154] x150.2).bind dxI).bind fun x156 =>
        if mx_f2 .eq x150.1 x156.1 = true then
          b0_536 L xs zf D w (b0_18 L xs zf D w n) o0 o1 o2 i3 x156.2
        else
          drI (some .boolean) 0 x156.2
      else if (x4 &&& 15) = 9 then
        (daI L xs h o0 (i3 + 1)).bind fun x162 =>
        (daI L xs h o0 (i3 + 2)).bind fun x164 =>
        ((dcV L xs D 268 [0] o1 [.int x162, .int x164] h).bind dxI).bind fun x166 =>
        (daI L xs x166.2 o0 (i3 + 1)).bind fun x170 =>
        (daI L xs x166.2 o0 (i3 + 2)).bind fun x172 =>
        ((dcV L xs D 403 [15] o2 [.int x170, .int x172] x166.2).bind dxI).bind fun x174 =>
        if mx_f2 .eq x166.1 x174.1 = true then
          b0_536 L xs zf D w (b0_18 L xs zf D w n) o0 o1 o2 i3 x174.2
        else
          drI (some .boolean) 0 x174.2
      else if (x4 &&& 15) = 10 then
        (daI L xs h o0 (i3 + 1)).bind fun x180 =>
        (daI L xs h o0 (i3 + 2)).bind fun x182 =>
        ((dcV L xs D 269 [0] o1 [.int x180, .int x182] h).bind dxI).bind fun x184 =>
        (daI L xs x184.2 o0 (i3 + 1)).bind fun x188 =>
        (daI L xs x184.2 o0 (i3 + 2)).bind fun x190 =>
        ((dcV L xs D 404 [15] o2 [.int x188, .int x190] x184.2).bind dxI).bind fun x192 =>
        if mx_f2 .eq x184.1 x192.1 = true then
          b0_536 L xs zf D w (b0_18 L xs zf D w n) o0 o1 o2 i3 x192.2
        else
          drI (some .boolean) 0 x192.2
      else if (x4 &&& 15) = 11 then
        (daI L xs h o0 (i3 + 1)).bind fun x198 =>
        (daI L xs h o0 (i3 + 2)).bind fun x200 =>
        ((dcV L xs D 270 [0] o1 [.int x198, .int x200] h).bind dxI).bind fun x202 =>
        (daI L xs x202.2 o0 (i3 + 1)).bind fun x206 =>
        (daI L xs x202.2 o0 (i3 + 2)).bind fun x208 =>
        ((dcV L xs D 405 [15] o2 [.int x206, .int x208] x202.2).bind dxI).bind fun x210 =>
        if mx_f2 .eq x202.1 x210.1 = true then
          b0_536 L xs zf D w (b0_18 L xs zf D w n) o0 o1 o2 i3 x210.2
        else
          drI (some .boolean) 0 x210.2
      else if (x4 &&& 15) = 12 then
        (daI L xs h o0 (i3 + 1)).bind fun x216 =>
        (daI L xs h o0 (i3 + 2)).bind fun x218 =>
        ((dcV L xs D 280 [0] o1 [.int x216, .int x218] h).bind dxI).bind fun x220 =>
        (daI L xs x220.2 o0 (i3 + 1)).bind fun x224 =>
        (daI L xs x220.2 o0 (i3 + 2)).bind fun x226 =>
        ((dcV L xs D 412 [15] o2 [.int x224, .int x226] x220.2).bind dxI).bind fun x228 =>
        if mx_f2 .eq x220.1 x228.1 = true then
          b0_536 L xs zf D w (b0_18 L xs zf D w n) o0 o1 o2 i3 x228.2
        else
          drI (some .boolean) 0 x228.2
      else if (x4 &&& 15) = 13 then
        (daI L xs h o0 (i3 + 1)).bind fun x234 =>
        ((dcV L xs D 282 [0] o1 [.int x234] h).bind dxI).bind fun x236 =>
        (daI L xs x236.2 o0 (i3 + 1)).bind fun x240 =>
        ((dcV L xs D 413 [15] o2 [.int x240] x236.2).bind dxI).bind fun x242 =>
        if mx_f2 .eq x236.1 x242.1 = true then
          b0_536 L xs zf D w (b0_18 L xs zf D w n) o0 o1 o2 i3 x242.2
        else
          drI (some .boolean) 0 x242.2
      else none
theorem c0_18 {L : Nat} {xs : Nat → Int32} {zf : Value} {D : dD} {w k : Nat} (hD : dO L xs zf D k) (hz : zf.category = 1) : ∀ (n : Nat) (o0 : Option Nat) (o1 : Option Nat) (o2 : Option Nat) (i3 : Int32) (lv : rm_L) (h : rm_H) (r : dR), rm_get lv 0 = some (va_rf o0) → rm_get lv 1 = some (va_rf o1) → rm_get lv 2 = some (va_rf o2) → rm_get lv 3 = some (.int i3) → b0_18 L xs zf D w n  o0 o1 o2 i3 h = some r → dq L xs zf ah_M0 18 lv [] h (k + 1) r := by
  intro n
  induction n with
  | zero =>
    intro o0 o1 o2 i3 lv h r G0 G1 G2 G3 hh
    cases hh
  | succ n ih =>
    intro o0 o1 o2 i3 lv h r G0 G1 G2 G3 hh
    rw [b0_18] at hh
    refine dq_iln 3 19 (by decide +kernel) rfl G3 ?_
    refine dq_aln 0 20 (by decide +kernel) rfl G0 ?_
    obtain ⟨x1, q2, hh⟩ := db hh
    refine dq_aN 21 (by decide +kernel) rfl q2 ?_
    refine dq_S (.bipush 6) 2 [] 23 _ [.int 6, .int x1, .int i3] (by decide +kernel) rfl ?_
    refine dq_S (.isub) 1 [] 24 _ [.int (x1 - 6), .int i3] (by decide +kernel) rfl ?_
    rcases di hh with ⟨q3, hh⟩ | ⟨q3, hh⟩
    · refine dq_2 .gt 518 true 542 q3 (by decide +kernel) ?_
      refine dq_S (.iconst 1) 1 [] 543 _ [.int 1] (by decide +kernel) rfl ?_
      exact dq_retI (some .boolean) (by decide +kernel) rfl hh
    · refine dq_2 .gt 518 false 27 q3 (by decide +kernel) ?_
      refine dq_aln 0 28 (by decide +kernel) rfl G0 ?_
      refine dq_iln 3 29 (by decide +kernel) rfl G3 ?_
      obtain ⟨x4, q5, hh⟩ := db hh
      refine dq_aI 30 (by decide +kernel) rfl q5 ?_
      refine dq_S (.bipush 15) 2 [] 32 _ [.int 15, .int x4] (by decide +kernel) rfl ?_
      refine dq_S (.iand) 1 [] 33 _ [.int (x4 &&& 15)] (by decide +kernel) rfl ?_
      rcases di hh with ⟨q6, hh⟩ | ⟨_, hh⟩
      · refine dq_sd 503 0 13 #[71, 134, 157, 170, 193, 216, 259, 292, 325, 348, 381, 414, 447, 480] 71 536 (by decide +kernel) (by decide +kernel) q6 ?_
        exact c0_536 hD hz ih _ _ _ _ _ _ _ G0 G1 G2 G3 hh
      rcases dp hh with ⟨q7, hh⟩ | ⟨_, hh⟩
      · refine dq_eq 0 q7 ?_
        refine dq_S (.tableswitch 503 0 13 #[71, 134, 157, 170, 193, 216, 259, 292, 325, 348, 381, 414, 447, 480]) 71 [] 104 _ [] (by decide +kernel) rfl ?_
        refine dq_aln 1 105 (by decide +kernel) rfl G1 ?_
        refine dq_aln 0 106 (by decide +kernel) rfl G0 ?_
        refine dq_iln 3 107 (by decide +kernel) rfl G3 ?_
        refine dq_S (.iconst 1) 1 [] 108 _ [.int 1, .int i3, va_rf o0, va_rf o1] (by decide +kernel) rfl ?_
        refine dq_S (.iadd) 1 [] 109 _ [.int (i3 + 1), va_rf o0, va_rf o1] (by decide +kernel) rfl ?_
        obtain ⟨x8, q9, hh⟩ := db hh
        refine dq_aI 110 (by decide +kernel) rfl q9 ?_
        refine dq_aln 0 111 (by decide +kernel) rfl G0 ?_
        refine dq_iln 3 112 (by decide +kernel) rfl G3 ?_
        refine dq_S (.iconst 2) 1 [] 113 _ [.int 2, .int i3, va_rf o0, .int x8, va_rf o1] (by decide +kernel) rfl ?_
        refine dq_S (.iadd) 1 [] 114 _ [.int (i3 + 2), va_rf o0, .int x8, va_rf o1] (by decide +kernel) rfl ?_
        obtain ⟨x10, q11, hh⟩ := db hh
        refine dq_aI 115 (by decide +kernel) rfl q11 ?_
        refine dq_aln 0 116 (by decide +kernel) rfl G0 ?_
        refine dq_iln 3 117 (by decide +kernel) rfl G3 ?_
        refine dq_S (.iconst 3) 1 [] 118 _ [.int 3, .int i3, va_rf o0, .int x10, .int x8, va_rf o1] (by decide +kernel) rfl ?_
        refine dq_S (.iadd) 1 [] 119 _ [.int (i3 + 3), va_rf o0, .int x10, .int x8, va_rf o1] (by decide +kernel) rfl ?_
        obtain ⟨x12, q13, hh⟩ := db hh
        refine dq_aI 120 (by decide +kernel) rfl q13 ?_
        refine dq_aln 0 121 (by decide +kernel) rfl G0 ?_
        refine dq_iln 3 122 (by decide +kernel) rfl G3 ?_
        refine dq_S (.iconst 4) 1 [] 123 _ [.int 4, .int i3, va_rf o0, .int x12, .int x10, .int x8, va_rf o1] (by decide +kernel) rfl ?_
        refine dq_S (.iadd) 1 [] 124 _ [.int (i3 + 4), va_rf o0, .int x12, .int x10, .int x8, va_rf o1] (by decide +kernel) rfl ?_
        obtain ⟨x14, q15, hh⟩ := db hh
        refine dq_aI 125 (by decide +kernel) rfl q15 ?_
        refine dq_aln 0 126 (by decide +kernel) rfl G0 ?_
        refine dq_iln 3 127 (by decide +kernel) rfl G3 ?_
        refine dq_S (.iconst 5) 1 [] 128 _ [.int 5, .int i3, va_rf o0, .int x14, .int x12, .int x10, .int x8, va_rf o1] (by decide +kernel) rfl ?_
        refine dq_S (.iadd) 1 [] 129 _ [.int (i3 + 5), va_rf o0, .int x14, .int x12, .int x10, .int x8, va_rf o1] (by decide +kernel) rfl ?_
        obtain ⟨x16, q17, hh⟩ := db hh
        refine dq_aI 130 (by decide +kernel) rfl q17 ?_
        obtain ⟨x18, q19, hh⟩ := db hh
        obtain ⟨a20, q21, q19⟩ := db q19
        rw [dq_xI q19] at q21
        refine dq_cvi hD 13 9 5 5 [0] o1 [.int x8, .int x10, .int x12, .int x14, .int x16] [] 133 [.int x18.1] (by decide +kernel) ap_9 ⟨⟨Nat.le_of_ble_eq_true rfl, by decide⟩, rfl, rfl⟩ (dq_ok8 [1, 1, 1, 1, 1, 1] [] (dc_r (dc_i (dc_i (dc_i (dc_i (dc_i dc_n)))))) dc_n (by decide +kernel)) (by decide +kernel) rfl q21 rfl ?_
        refine dq_aln 2 134 (by decide +kernel) rfl G2 ?_
        refine dq_aln 0 135 (by decide +kernel) rfl G0 ?_
        refine dq_iln 3 136 (by decide +kernel) rfl G3 ?_
        refine dq_S (.iconst 1) 1 [] 137 _ [.int 1, .int i3, va_rf o0, va_rf o2, .int x18.1] (by decide +kernel) rfl ?_
        refine dq_S (.iadd) 1 [] 138 _ [.int (i3 + 1), va_rf o0, va_rf o2, .int x18.1] (by decide +kernel) rfl ?_
        obtain ⟨x22, q23, hh⟩ := db hh
        refine dq_aI 139 (by decide +kernel) rfl q23 ?_
        refine dq_aln 0 140 (by decide +kernel) rfl G0 ?_
        refine dq_iln 3 141 (by decide +kernel) rfl G3 ?_
        refine dq_S (.iconst 2) 1 [] 142 _ [.int 2, .int i3, va_rf o0, .int x22, va_rf o2, .int x18.1] (by decide +kernel) rfl ?_
        refine dq_S (.iadd) 1 [] 143 _ [.int (i3 + 2), va_rf o0, .int x22, va_rf o2, .int x18.1] (by decide +kernel) rfl ?_
        obtain ⟨x24, q25, hh⟩ := db hh
        refine dq_aI 144 (by decide +kernel) rfl q25 ?_
        refine dq_aln 0 145 (by decide +kernel) rfl G0 ?_
        refine dq_iln 3 146 (by decide +kernel) rfl G3 ?_
        refine dq_S (.iconst 3) 1 [] 147 _ [.int 3, .int i3, va_rf o0, .int x24, .int x22, va_rf o2, .int x18.1] (by decide +kernel) rfl ?_
        refine dq_S (.iadd) 1 [] 148 _ [.int (i3 + 3), va_rf o0, .int x24, .int x22, va_rf o2, .int x18.1] (by decide +kernel) rfl ?_
        obtain ⟨x26, q27, hh⟩ := db hh
        refine dq_aI 149 (by decide +kernel) rfl q27 ?_
        refine dq_aln 0 150 (by decide +kernel) rfl G0 ?_
        refine dq_iln 3 151 (by decide +kernel) rfl G3 ?_
        refine dq_S (.iconst 4) 1 [] 152 _ [.int 4, .int i3, va_rf o0, .int x26, .int x24, .int x22, va_rf o2, .int x18.1] (by decide +kernel) rfl ?_
        refine dq_S (.iadd) 1 [] 153 _ [.int (i3 + 4), va_rf o0, .int x26, .int x24, .int x22, va_rf o2, .int x18.1] (by decide +kernel) rfl ?_
        obtain ⟨x28, q29, hh⟩ := db hh
        refine dq_aI 154 (by decide +kernel) rfl q29 ?_
        refine dq_aln 0 155 (by decide +kernel) rfl G0 ?_
        refine dq_iln 3 156 (by decide +kernel) rfl G3 ?_
        refine dq_S (.iconst 5) 1 [] 157 _ [.int 5, .int i3, va_rf o0, .int x28, .int x26, .int x24, .int x22, va_rf o2, .int x18.1] (by decide +kernel) rfl ?_
        refine dq_S (.iadd) 1 [] 158 _ [.int (i3 + 5), va_rf o0, .int x28, .int x26, .int x24, .int x22, va_rf o2, .int x18.1] (by decide +kernel) rfl ?_
        obtain ⟨x30, q31, hh⟩ := db hh
        refine dq_aI 159 (by decide +kernel) rfl q31 ?_
        obtain ⟨x32, q33, hh⟩ := db hh
        obtain ⟨a34, q35, q33⟩ := db q33
        rw [dq_xI q33] at q35
        refine dq_cvi hD 17 286 5 5 [15] o2 [.int x22, .int x24, .int x26, .int x28, .int x30] [.int x18.1] 162 [.int x32.1, .int x18.1] (by decide +kernel) ap_286 ⟨⟨Nat.le_of_ble_eq_true rfl, by decide⟩, rfl, rfl⟩ (dq_ok8 [1, 1, 1, 1, 1, 1] [1] (dc_r (dc_i (dc_i (dc_i (dc_i (dc_i dc_n)))))) (dc_i dc_n) (by decide +kernel)) (by decide +kernel) rfl q35 rfl ?_
        rcases di hh with ⟨q36, hh⟩ | ⟨q36, hh⟩
        · refine dq_2 .eq 374 true 536 q36 (by decide +kernel) ?_
          exact c0_536 hD hz ih _ _ _ _ _ _ _ G0 G1 G2 G3 hh
        · refine dq_2 .eq 374 false 165 q36 (by decide +kernel) ?_
          refine dq_S (.iconst 0) 1 [] 166 _ [.int 0] (by decide +kernel) rfl ?_
          exact dq_retI (some .boolean) (by decide +kernel) rfl hh
      rcases dp hh with ⟨q37, hh⟩ | ⟨_, hh⟩
      · refine dq_eq 1 q37 ?_
        refine dq_S (.tableswitch 503 0 13 #[71, 134, 157, 170, 193, 216, 259, 292, 325, 348, 381, 414, 447, 480]) 71 [] 167 _ [] (by decide +kernel) rfl ?_
        refine dq_aln 1 168 (by decide +kernel) rfl G1 ?_
        refine dq_aln 0 169 (by decide +kernel) rfl G0 ?_
        refine dq_iln 3 170 (by decide +kernel) rfl G3 ?_
        refine dq_S (.iconst 1) 1 [] 171 _ [.int 1, .int i3, va_rf o0, va_rf o1] (by decide +kernel) rfl ?_
        refine dq_S (.iadd) 1 [] 172 _ [.int (i3 + 1), va_rf o0, va_rf o1] (by decide +kernel) rfl ?_
        obtain ⟨x38, q39, hh⟩ := db hh
        refine dq_aI 173 (by decide +kernel) rfl q39 ?_
        obtain ⟨x40, q41, hh⟩ := db hh
        obtain ⟨a42, q43, q41⟩ := db q41
        rw [dq_xI q41] at q43
        refine dq_cvi hD 18 36 5 1 [0] o1 [.int x38] [] 176 [.int x40.1] (by decide +kernel) ap_36 ⟨⟨Nat.le_of_ble_eq_true rfl, by decide⟩, rfl, rfl⟩ (dq_ok8 [1, 1] [] (dc_r (dc_i dc_n)) dc_n (by decide +kernel)) (by decide +kernel) rfl q43 rfl ?_
        refine dq_aln 2 177 (by decide +kernel) rfl G2 ?_
        refine dq_aln 0 178 (by decide +kernel) rfl G0 ?_
        refine dq_iln 3 179 (by decide +kernel) rfl G3 ?_
        refine dq_S (.iconst 1) 1 [] 180 _ [.int 1, .int i3, va_rf o0, va_rf o2, .int x40.1] (by decide +kernel) rfl ?_
        refine dq_S (.iadd) 1 [] 181 _ [.int (i3 + 1), va_rf o0, va_rf o2, .int x40.1] (by decide +kernel) rfl ?_
        obtain ⟨x44, q45, hh⟩ := db hh
        refine dq_aI 182 (by decide +kernel) rfl q45 ?_
        obtain ⟨x46, q47, hh⟩ := db hh
        obtain ⟨a48, q49, q47⟩ := db q47
        rw [dq_xI q47] at q49
        refine dq_cvi hD 22 287 5 1 [15] o2 [.int x44] [.int x40.1] 185 [.int x46.1, .int x40.1] (by decide +kernel) ap_287 ⟨⟨Nat.le_of_ble_eq_true rfl, by decide⟩, rfl, rfl⟩ (dq_ok8 [1, 1] [1] (dc_r (dc_i dc_n)) (dc_i dc_n) (by decide +kernel)) (by decide +kernel) rfl q49 rfl ?_
        rcases di hh with ⟨q50, hh⟩ | ⟨q50, hh⟩
        · refine dq_2 .eq 351 true 536 q50 (by decide +kernel) ?_
          exact c0_536 hD hz ih _ _ _ _ _ _ _ G0 G1 G2 G3 hh
        · refine dq_2 .eq 351 false 188 q50 (by decide +kernel) ?_
          refine dq_S (.iconst 0) 1 [] 189 _ [.int 0] (by decide +kernel) rfl ?_
          exact dq_retI (some .boolean) (by decide +kernel) rfl hh
      rcases dp hh with ⟨q51, hh⟩ | ⟨_, hh⟩
      · refine dq_eq 2 q51 ?_
        refine dq_S (.tableswitch 503 0 13 #[71, 134, 157, 170, 193, 216, 259, 292, 325, 348, 381, 414, 447, 480]) 71 [] 190 _ [] (by decide +kernel) rfl ?_
        refine dq_aln 1 191 (by decide +kernel) rfl G1 ?_
        obtain ⟨x52, q53, hh⟩ := db hh
        obtain ⟨a54, q55, q53⟩ := db q53
        rw [dq_xI q53] at q55
        refine dq_cvi hD 23 43 5 0 [0] o1 [] [] 194 [.int x52.1] (by decide +kernel) ap_43 ⟨⟨Nat.le_of_ble_eq_true rfl, by decide⟩, rfl, rfl⟩ (dq_ok8 [1] [] (dc_r dc_n) dc_n (by decide +kernel)) (by decide +kernel) rfl q55 rfl ?_
        refine dq_aln 2 195 (by decide +kernel) rfl G2 ?_
        obtain ⟨x56, q57, hh⟩ := db hh
        obtain ⟨a58, q59, q57⟩ := db q57
        rw [dq_xI q57] at q59
        refine dq_cvi hD 27 294 5 0 [15] o2 [] [.int x52.1] 198 [.int x56.1, .int x52.1] (by decide +kernel) ap_294 ⟨⟨Nat.le_of_ble_eq_true rfl, by decide⟩, rfl, rfl⟩ (dq_ok8 [1] [1] (dc_r dc_n) (dc_i dc_n) (by decide +kernel)) (by decide +kernel) rfl q59 rfl ?_
        rcases di hh with ⟨q60, hh⟩ | ⟨q60, hh⟩
        · refine dq_2 .eq 338 true 536 q60 (by decide +kernel) ?_
          exact c0_536 hD hz ih _ _ _ _ _ _ _ G0 G1 G2 G3 hh
        · refine dq_2 .eq 338 false 201 q60 (by decide +kernel) ?_
          refine dq_S (.iconst 0) 1 [] 202 _ [.int 0] (by decide +kernel) rfl ?_
          exact dq_retI (some .boolean) (by decide +kernel) rfl hh
      rcases dp hh with ⟨q61, hh⟩ | ⟨_, hh⟩
      · refine dq_eq 3 q61 ?_
        refine dq_S (.tableswitch 503 0 13 #[71, 134, 157, 170, 193, 216, 259, 292, 325, 348, 381, 414, 447, 480]) 71 [] 203 _ [] (by decide +kernel) rfl ?_
        refine dq_aln 1 204 (by decide +kernel) rfl G1 ?_
        refine dq_aln 0 205 (by decide +kernel) rfl G0 ?_
        refine dq_iln 3 206 (by decide +kernel) rfl G3 ?_
        refine dq_S (.iconst 1) 1 [] 207 _ [.int 1, .int i3, va_rf o0, va_rf o1] (by decide +kernel) rfl ?_
        refine dq_S (.iadd) 1 [] 208 _ [.int (i3 + 1), va_rf o0, va_rf o1] (by decide +kernel) rfl ?_
        obtain ⟨x62, q63, hh⟩ := db hh
        refine dq_aI 209 (by decide +kernel) rfl q63 ?_
        obtain ⟨x64, q65, hh⟩ := db hh
        obtain ⟨a66, q67, q65⟩ := db q65
        rw [dq_xI q65] at q67
        refine dq_cvi hD 28 218 5 1 [0] o1 [.int x62] [] 212 [.int x64.1] (by decide +kernel) ap_218 ⟨⟨Nat.le_of_ble_eq_true rfl, by decide⟩, rfl, rfl⟩ (dq_ok8 [1, 1] [] (dc_r (dc_i dc_n)) dc_n (by decide +kernel)) (by decide +kernel) rfl q67 rfl ?_
        refine dq_aln 2 213 (by decide +kernel) rfl G2 ?_
        refine dq_aln 0 214 (by decide +kernel) rfl G0 ?_
        refine dq_iln 3 215 (by decide +kernel) rfl G3 ?_
        refine dq_S (.iconst 1) 1 [] 216 _ [.int 1, .int i3, va_rf o0, va_rf o2, .int x64.1] (by decide +kernel) rfl ?_
        refine dq_S (.iadd) 1 [] 217 _ [.int (i3 + 1), va_rf o0, va_rf o2, .int x64.1] (by decide +kernel) rfl ?_
        obtain ⟨x68, q69, hh⟩ := db hh
        refine dq_aI 218 (by decide +kernel) rfl q69 ?_
        obtain ⟨x70, q71, hh⟩ := db hh
        obtain ⟨a72, q73, q71⟩ := db q71
        rw [dq_xI q71] at q73
        refine dq_cvi hD 31 370 5 1 [15] o2 [.int x68] [.int x64.1] 221 [.int x70.1, .int x64.1] (by decide +kernel) ap_370 ⟨⟨Nat.le_of_ble_eq_true rfl, by decide⟩, rfl, rfl⟩ (dq_ok8 [1, 1] [1] (dc_r (dc_i dc_n)) (dc_i dc_n) (by decide +kernel)) (by decide +kernel) rfl q73 rfl ?_
        rcases di hh with ⟨q74, hh⟩ | ⟨q74, hh⟩
        · refine dq_2 .eq 315 true 536 q74 (by decide +kernel) ?_
          exact c0_536 hD hz ih _ _ _ _ _ _ _ G0 G1 G2 G3 hh
        · refine dq_2 .eq 315 false 224 q74 (by decide +kernel) ?_
          refine dq_S (.iconst 0) 1 [] 225 _ [.int 0] (by decide +kernel) rfl ?_
          exact dq_retI (some .boolean) (by decide +kernel) rfl hh
      rcases dp hh with ⟨q75, hh⟩ | ⟨_, hh⟩
      · refine dq_eq 4 q75 ?_
        refine dq_S (.tableswitch 503 0 13 #[71, 134, 157, 170, 193, 216, 259, 292, 325, 348, 381, 414, 447, 480]) 71 [] 226 _ [] (by decide +kernel) rfl ?_
        refine dq_aln 1 227 (by decide +kernel) rfl G1 ?_
        refine dq_aln 0 228 (by decide +kernel) rfl G0 ?_
        refine dq_iln 3 229 (by decide +kernel) rfl G3 ?_
        refine dq_S (.iconst 1) 1 [] 230 _ [.int 1, .int i3, va_rf o0, va_rf o1] (by decide +kernel) rfl ?_
        refine dq_S (.iadd) 1 [] 231 _ [.int (i3 + 1), va_rf o0, va_rf o1] (by decide +kernel) rfl ?_
        obtain ⟨x76, q77, hh⟩ := db hh
        refine dq_aI 232 (by decide +kernel) rfl q77 ?_
        obtain ⟨x78, q79, hh⟩ := db hh
        obtain ⟨a80, q81, q79⟩ := db q79
        rw [dq_xI q79] at q81
        refine dq_cvi hD 32 219 5 1 [0] o1 [.int x76] [] 235 [.int x78.1] (by decide +kernel) ap_219 ⟨⟨Nat.le_of_ble_eq_true rfl, by decide⟩, rfl, rfl⟩ (dq_ok8 [1, 1] [] (dc_r (dc_i dc_n)) dc_n (by decide +kernel)) (by decide +kernel) rfl q81 rfl ?_
        refine dq_aln 2 236 (by decide +kernel) rfl G2 ?_
        refine dq_aln 0 237 (by decide +kernel) rfl G0 ?_
        refine dq_iln 3 238 (by decide +kernel) rfl G3 ?_
        refine dq_S (.iconst 1) 1 [] 239 _ [.int 1, .int i3, va_rf o0, va_rf o2, .int x78.1] (by decide +kernel) rfl ?_
        refine dq_S (.iadd) 1 [] 240 _ [.int (i3 + 1), va_rf o0, va_rf o2, .int x78.1] (by decide +kernel) rfl ?_
        obtain ⟨x82, q83, hh⟩ := db hh
        refine dq_aI 241 (by decide +kernel) rfl q83 ?_
        obtain ⟨x84, q85, hh⟩ := db hh
        obtain ⟨a86, q87, q85⟩ := db q85
        rw [dq_xI q85] at q87
        refine dq_cvi hD 35 371 5 1 [15] o2 [.int x82] [.int x78.1] 244 [.int x84.1, .int x78.1] (by decide +kernel) ap_371 ⟨⟨Nat.le_of_ble_eq_true rfl, by decide⟩, rfl, rfl⟩ (dq_ok8 [1, 1] [1] (dc_r (dc_i dc_n)) (dc_i dc_n) (by decide +kernel)) (by decide +kernel) rfl q87 rfl ?_
        rcases di hh with ⟨q88, hh⟩ | ⟨q88, hh⟩
        · refine dq_2 .eq 292 true 536 q88 (by decide +kernel) ?_
          exact c0_536 hD hz ih _ _ _ _ _ _ _ G0 G1 G2 G3 hh
        · refine dq_2 .eq 292 false 247 q88 (by decide +kernel) ?_
          refine dq_S (.iconst 0) 1 [] 248 _ [.int 0] (by decide +kernel) rfl ?_
          exact dq_retI (some .boolean) (by decide +kernel) rfl hh
      rcases dp hh with ⟨q89, hh⟩ | ⟨_, hh⟩
      · refine dq_eq 5 q89 ?_
        refine dq_S (.tableswitch 503 0 13 #[71, 134, 157, 170, 193, 216, 259, 292, 325, 348, 381, 414, 447, 480]) 71 [] 249 _ [] (by decide +kernel) rfl ?_
        refine dq_aln 1 250 (by decide +kernel) rfl G1 ?_
        refine dq_aln 0 251 (by decide +kernel) rfl G0 ?_
        refine dq_iln 3 252 (by decide +kernel) rfl G3 ?_
        refine dq_S (.iconst 1) 1 [] 253 _ [.int 1, .int i3, va_rf o0, va_rf o1] (by decide +kernel) rfl ?_
        refine dq_S (.iadd) 1 [] 254 _ [.int (i3 + 1), va_rf o0, va_rf o1] (by decide +kernel) rfl ?_
        obtain ⟨x90, q91, hh⟩ := db hh
        refine dq_aI 255 (by decide +kernel) rfl q91 ?_
        refine dq_aln 0 256 (by decide +kernel) rfl G0 ?_
        refine dq_iln 3 257 (by decide +kernel) rfl G3 ?_
        refine dq_S (.iconst 2) 1 [] 258 _ [.int 2, .int i3, va_rf o0, .int x90, va_rf o1] (by decide +kernel) rfl ?_
        refine dq_S (.iadd) 1 [] 259 _ [.int (i3 + 2), va_rf o0, .int x90, va_rf o1] (by decide +kernel) rfl ?_
        obtain ⟨x92, q93, hh⟩ := db hh
        refine dq_aI 260 (by decide +kernel) rfl q93 ?_
        refine dq_aln 0 261 (by decide +kernel) rfl G0 ?_
        refine dq_iln 3 262 (by decide +kernel) rfl G3 ?_
        refine dq_S (.iconst 3) 1 [] 263 _ [.int 3, .int i3, va_rf o0, .int x92, .int x90, va_rf o1] (by decide +kernel) rfl ?_
        refine dq_S (.iadd) 1 [] 264 _ [.int (i3 + 3), va_rf o0, .int x92, .int x90, va_rf o1] (by decide +kernel) rfl ?_
        obtain ⟨x94, q95, hh⟩ := db hh
        refine dq_aI 265 (by decide +kernel) rfl q95 ?_
        obtain ⟨x96, q97, hh⟩ := db hh
        obtain ⟨a98, q99, q97⟩ := db q97
        rw [dq_xI q97] at q99
        refine dq_cvi hD 36 221 5 3 [0] o1 [.int x90, .int x92, .int x94] [] 268 [.int x96.1] (by decide +kernel) ap_221 ⟨⟨Nat.le_of_ble_eq_true rfl, by decide⟩, rfl, rfl⟩ (dq_ok8 [1, 1, 1, 1] [] (dc_r (dc_i (dc_i (dc_i dc_n)))) dc_n (by decide +kernel)) (by decide +kernel) rfl q99 rfl ?_
        refine dq_aln 2 269 (by decide +kernel) rfl G2 ?_
        refine dq_aln 0 270 (by decide +kernel) rfl G0 ?_
        refine dq_iln 3 271 (by decide +kernel) rfl G3 ?_
        refine dq_S (.iconst 1) 1 [] 272 _ [.int 1, .int i3, va_rf o0, va_rf o2, .int x96.1] (by decide +kernel) rfl ?_
        refine dq_S (.iadd) 1 [] 273 _ [.int (i3 + 1), va_rf o0, va_rf o2, .int x96.1] (by decide +kernel) rfl ?_
        obtain ⟨x100, q101, hh⟩ := db hh
        refine dq_aI 274 (by decide +kernel) rfl q101 ?_
        refine dq_aln 0 275 (by decide +kernel) rfl G0 ?_
        refine dq_iln 3 276 (by decide +kernel) rfl G3 ?_
        refine dq_S (.iconst 2) 1 [] 277 _ [.int 2, .int i3, va_rf o0, .int x100, va_rf o2, .int x96.1] (by decide +kernel) rfl ?_
        refine dq_S (.iadd) 1 [] 278 _ [.int (i3 + 2), va_rf o0, .int x100, va_rf o2, .int x96.1] (by decide +kernel) rfl ?_
        obtain ⟨x102, q103, hh⟩ := db hh
        refine dq_aI 279 (by decide +kernel) rfl q103 ?_
        refine dq_aln 0 280 (by decide +kernel) rfl G0 ?_
        refine dq_iln 3 281 (by decide +kernel) rfl G3 ?_
        refine dq_S (.iconst 3) 1 [] 282 _ [.int 3, .int i3, va_rf o0, .int x102, .int x100, va_rf o2, .int x96.1] (by decide +kernel) rfl ?_
        refine dq_S (.iadd) 1 [] 283 _ [.int (i3 + 3), va_rf o0, .int x102, .int x100, va_rf o2, .int x96.1] (by decide +kernel) rfl ?_
        obtain ⟨x104, q105, hh⟩ := db hh
        refine dq_aI 284 (by decide +kernel) rfl q105 ?_
        obtain ⟨x106, q107, hh⟩ := db hh
        obtain ⟨a108, q109, q107⟩ := db q107
        rw [dq_xI q107] at q109
        refine dq_cvi hD 40 289 5 3 [15] o2 [.int x100, .int x102, .int x104] [.int x96.1] 287 [.int x106.1, .int x96.1] (by decide +kernel) ap_289 ⟨⟨Nat.le_of_ble_eq_true rfl, by decide⟩, rfl, rfl⟩ (dq_ok8 [1, 1, 1, 1] [1] (dc_r (dc_i (dc_i (dc_i dc_n)))) (dc_i dc_n) (by decide +kernel)) (by decide +kernel) rfl q109 rfl ?_
        rcases di hh with ⟨q110, hh⟩ | ⟨q110, hh⟩
        · refine dq_2 .eq 249 true 536 q110 (by decide +kernel) ?_
          exact c0_536 hD hz ih _ _ _ _ _ _ _ G0 G1 G2 G3 hh
        · refine dq_2 .eq 249 false 290 q110 (by decide +kernel) ?_
          refine dq_S (.iconst 0) 1 [] 291 _ [.int 0] (by decide +kernel) rfl ?_
          exact dq_retI (some .boolean) (by decide +kernel) rfl hh
      rcases dp hh with ⟨q111, hh⟩ | ⟨_, hh⟩
      · refine dq_eq 6 q111 ?_
        refine dq_S (.tableswitch 503 0 13 #[71, 134, 157, 170, 193, 216, 259, 292, 325, 348, 381, 414, 447, 480]) 71 [] 292 _ [] (by decide +kernel) rfl ?_
        refine dq_aln 1 293 (by decide +kernel) rfl G1 ?_
        refine dq_aln 0 294 (by decide +kernel) rfl G0 ?_
        refine dq_iln 3 295 (by decide +kernel) rfl G3 ?_
        refine dq_S (.iconst 1) 1 [] 296 _ [.int 1, .int i3, va_rf o0, va_rf o1] (by decide +kernel) rfl ?_
        refine dq_S (.iadd) 1 [] 297 _ [.int (i3 + 1), va_rf o0, va_rf o1] (by decide +kernel) rfl ?_
        obtain ⟨x112, q113, hh⟩ := db hh
        refine dq_aI 298 (by decide +kernel) rfl q113 ?_
        refine dq_aln 0 299 (by decide +kernel) rfl G0 ?_
        refine dq_iln 3 300 (by decide +kernel) rfl G3 ?_
        refine dq_S (.iconst 2) 1 [] 301 _ [.int 2, .int i3, va_rf o0, .int x112, va_rf o1] (by decide +kernel) rfl ?_
        refine dq_S (.iadd) 1 [] 302 _ [.int (i3 + 2), va_rf o0, .int x112, va_rf o1] (by decide +kernel) rfl ?_
        obtain ⟨x114, q115, hh⟩ := db hh
        refine dq_aI 303 (by decide +kernel) rfl q115 ?_
        obtain ⟨x116, q117, hh⟩ := db hh
        obtain ⟨a118, q119, q117⟩ := db q117
        rw [dq_xI q117] at q119
        refine dq_cvi hD 41 222 5 2 [0] o1 [.int x112, .int x114] [] 306 [.int x116.1] (by decide +kernel) ap_222 ⟨⟨Nat.le_of_ble_eq_true rfl, by decide⟩, rfl, rfl⟩ (dq_ok8 [1, 1, 1] [] (dc_r (dc_i (dc_i dc_n))) dc_n (by decide +kernel)) (by decide +kernel) rfl q119 rfl ?_
        refine dq_aln 2 307 (by decide +kernel) rfl G2 ?_
        refine dq_aln 0 308 (by decide +kernel) rfl G0 ?_
        refine dq_iln 3 309 (by decide +kernel) rfl G3 ?_
        refine dq_S (.iconst 1) 1 [] 310 _ [.int 1, .int i3, va_rf o0, va_rf o2, .int x116.1] (by decide +kernel) rfl ?_
        refine dq_S (.iadd) 1 [] 311 _ [.int (i3 + 1), va_rf o0, va_rf o2, .int x116.1] (by decide +kernel) rfl ?_
        obtain ⟨x120, q121, hh⟩ := db hh
        refine dq_aI 312 (by decide +kernel) rfl q121 ?_
        refine dq_aln 0 313 (by decide +kernel) rfl G0 ?_
        refine dq_iln 3 314 (by decide +kernel) rfl G3 ?_
        refine dq_S (.iconst 2) 1 [] 315 _ [.int 2, .int i3, va_rf o0, .int x120, va_rf o2, .int x116.1] (by decide +kernel) rfl ?_
        refine dq_S (.iadd) 1 [] 316 _ [.int (i3 + 2), va_rf o0, .int x120, va_rf o2, .int x116.1] (by decide +kernel) rfl ?_
        obtain ⟨x122, q123, hh⟩ := db hh
        refine dq_aI 317 (by decide +kernel) rfl q123 ?_
        obtain ⟨x124, q125, hh⟩ := db hh
        obtain ⟨a126, q127, q125⟩ := db q125
        rw [dq_xI q125] at q127
        refine dq_cvi hD 45 372 5 2 [15] o2 [.int x120, .int x122] [.int x116.1] 320 [.int x124.1, .int x116.1] (by decide +kernel) ap_372 ⟨⟨Nat.le_of_ble_eq_true rfl, by decide⟩, rfl, rfl⟩ (dq_ok8 [1, 1, 1] [1] (dc_r (dc_i (dc_i dc_n))) (dc_i dc_n) (by decide +kernel)) (by decide +kernel) rfl q127 rfl ?_
        rcases di hh with ⟨q128, hh⟩ | ⟨q128, hh⟩
        · refine dq_2 .eq 216 true 536 q128 (by decide +kernel) ?_
          exact c0_536 hD hz ih _ _ _ _ _ _ _ G0 G1 G2 G3 hh
        · refine dq_2 .eq 216 false 323 q128 (by decide +kernel) ?_
          refine dq_S (.iconst 0) 1 [] 324 _ [.int 0] (by decide +kernel) rfl ?_
          exact dq_retI (some .boolean) (by decide +kernel) rfl hh
      rcases dp hh with ⟨q129, hh⟩ | ⟨_, hh⟩
      · refine dq_eq 7 q129 ?_
        refine dq_S (.tableswitch 503 0 13 #[71, 134, 157, 170, 193, 216, 259, 292, 325, 348, 381, 414, 447, 480]) 71 [] 325 _ [] (by decide +kernel) rfl ?_
        refine dq_aln 1 326 (by decide +kernel) rfl G1 ?_
        refine dq_aln 0 327 (by decide +kernel) rfl G0 ?_
        refine dq_iln 3 328 (by decide +kernel) rfl G3 ?_
        refine dq_S (.iconst 1) 1 [] 329 _ [.int 1, .int i3, va_rf o0, va_rf o1] (by decide +kernel) rfl ?_
        refine dq_S (.iadd) 1 [] 330 _ [.int (i3 + 1), va_rf o0, va_rf o1] (by decide +kernel) rfl ?_
        obtain ⟨x130, q131, hh⟩ := db hh
        refine dq_aI 331 (by decide +kernel) rfl q131 ?_
        refine dq_aln 0 332 (by decide +kernel) rfl G0 ?_
        refine dq_iln 3 333 (by decide +kernel) rfl G3 ?_
        refine dq_S (.iconst 2) 1 [] 334 _ [.int 2, .int i3, va_rf o0, .int x130, va_rf o1] (by decide +kernel) rfl ?_
        refine dq_S (.iadd) 1 [] 335 _ [.int (i3 + 2), va_rf o0, .int x130, va_rf o1] (by decide +kernel) rfl ?_
        obtain ⟨x132, q133, hh⟩ := db hh
        refine dq_aI 336 (by decide +kernel) rfl q133 ?_
        obtain ⟨x134, q135, hh⟩ := db hh
        obtain ⟨a136, q137, q135⟩ := db q135
        rw [dq_xI q135] at q137
        refine dq_cvi hD 46 235 5 2 [0] o1 [.int x130, .int x132] [] 339 [.int x134.1] (by decide +kernel) ap_235 ⟨⟨Nat.le_of_ble_eq_true rfl, by decide⟩, rfl, rfl⟩ (dq_ok8 [1, 1, 1] [] (dc_r (dc_i (dc_i dc_n))) dc_n (by decide +kernel)) (by decide +kernel) rfl q137 rfl ?_
        refine dq_aln 2 340 (by decide +kernel) rfl G2 ?_
        refine dq_aln 0 341 (by decide +kernel) rfl G0 ?_
        refine dq_iln 3 342 (by decide +kernel) rfl G3 ?_
        refine dq_S (.iconst 1) 1 [] 343 _ [.int 1, .int i3, va_rf o0, va_rf o2, .int x134.1] (by decide +kernel) rfl ?_
        refine dq_S (.iadd) 1 [] 344 _ [.int (i3 + 1), va_rf o0, va_rf o2, .int x134.1] (by decide +kernel) rfl ?_
        obtain ⟨x138, q139, hh⟩ := db hh
        refine dq_aI 345 (by decide +kernel) rfl q139 ?_
        refine dq_aln 0 346 (by decide +kernel) rfl G0 ?_
        refine dq_iln 3 347 (by decide +kernel) rfl G3 ?_
        refine dq_S (.iconst 2) 1 [] 348 _ [.int 2, .int i3, va_rf o0, .int x138, va_rf o2, .int x134.1] (by decide +kernel) rfl ?_
        refine dq_S (.iadd) 1 [] 349 _ [.int (i3 + 2), va_rf o0, .int x138, va_rf o2, .int x134.1] (by decide +kernel) rfl ?_
        obtain ⟨x140, q141, hh⟩ := db hh
        refine dq_aI 350 (by decide +kernel) rfl q141 ?_
        obtain ⟨x142, q143, hh⟩ := db hh
        obtain ⟨a144, q145, q143⟩ := db q143
        rw [dq_xI q143] at q145
        refine dq_cvi hD 50 380 5 2 [15] o2 [.int x138, .int x140] [.int x134.1] 353 [.int x142.1, .int x134.1] (by decide +kernel) ap_380 ⟨⟨Nat.le_of_ble_eq_true rfl, by decide⟩, rfl, rfl⟩ (dq_ok8 [1, 1, 1] [1] (dc_r (dc_i (dc_i dc_n))) (dc_i dc_n) (by decide +kernel)) (by decide +kernel) rfl q145 rfl ?_
        rcases di hh with ⟨q146, hh⟩ | ⟨q146, hh⟩
        · refine dq_2 .eq 183 true 536 q146 (by decide +kernel) ?_
          exact c0_536 hD hz ih _ _ _ _ _ _ _ G0 G1 G2 G3 hh
        · refine dq_2 .eq 183 false 356 q146 (by decide +kernel) ?_
          refine dq_S (.iconst 0) 1 [] 357 _ [.int 0] (by decide +kernel) rfl ?_
          exact dq_retI (some .boolean) (by decide +kernel) rfl hh
      rcases dp hh with ⟨q147, hh⟩ | ⟨_, hh⟩
      · refine dq_eq 8 q147 ?_
        refine dq_S (.tableswitch 503 0 13 #[71, 134, 157, 170, 193, 216, 259, 292, 325, 348, 381, 414, 447, 480]) 71 [] 358 _ [] (by decide +kernel) rfl ?_
        refine dq_aln 1 359 (by decide +kernel) rfl G1 ?_
        refine dq_aln 0 360 (by decide +kernel) rfl G0 ?_
        refine dq_iln 3 361 (by decide +kernel) rfl G3 ?_
        refine dq_S (.iconst 1) 1 [] 362 _ [.int 1, .int i3, va_rf o0, va_rf o1] (by decide +kernel) rfl ?_
        refine dq_S (.iadd) 1 [] 363 _ [.int (i3 + 1), va_rf o0, va_rf o1] (by decide +kernel) rfl ?_
        obtain ⟨x148, q149, hh⟩ := db hh
        refine dq_aI 364 (by decide +kernel) rfl q149 ?_
        obtain ⟨x150, q151, hh⟩ := db hh
        obtain ⟨a152, q153, q151⟩ := db q151
        rw [dq_xI q151] at q153
        refine dq_cvi hD 51 267 5 1 [0] o1 [.int x148] [] 367 [.int x150.1] (by decide +kernel) ap_267 ⟨⟨Nat.le_of_ble_eq_true rfl, by decide⟩, rfl, rfl⟩ (dq_ok8 [1, 1] [] (dc_r (dc_i dc_n)) dc_n (by decide +kernel)) (by decide +kernel) rfl q153 rfl ?_
        refine dq_aln 2 368 (by decide +kernel) rfl G2 ?_
        refine dq_aln 0 369 (by decide +kernel) rfl G0 ?_
        refine dq_iln 3 370 (by decide +kernel) rfl G3 ?_
        refine dq_S (.iconst 1) 1 [] 371 _ [.int 1, .int i3, va_rf o0, va_rf o2, .int x150.1] (by decide +kernel) rfl ?_
        refine dq_S (.iadd) 1 [] 372 _ [.int (i3 + 1), va_rf o0, va_rf o2, .int x150.1] (by decide +kernel) rfl ?_
        obtain ⟨x154, q155, hh⟩ := db hh
        refine dq_aI 373 (by decide +kernel) rfl q155 ?_
        obtain ⟨x156, q157, hh⟩ := db hh
        obtain ⟨a158, q159, q157⟩ := db q157
        rw [dq_xI q157] at q159
        refine dq_cvi hD 54 402 5 1 [15] o2 [.int x154] [.int x150.1] 376 [.int x156.1, .int x150.1] (by decide +kernel) ap_402 ⟨⟨Nat.le_of_ble_eq_true rfl, by decide⟩, rfl, rfl⟩ (dq_ok8 [1, 1] [1] (dc_r (dc_i dc_n)) (dc_i dc_n) (by decide +kernel)) (by decide +kernel) rfl q159 rfl ?_
        rcases di hh with ⟨q160, hh⟩ | ⟨q160, hh⟩
        · refine dq_2 .eq 160 true 536 q160 (by decide +kernel) ?_
          exact c0_536 hD hz ih _ _ _ _ _ _ _ G0 G1 G2 G3 hh
        · refine dq_2 .eq 160 false 379 q160 (by decide +kernel) ?_
          refine dq_S (.iconst 0) 1 [] 380 _ [.int 0] (by decide +kernel) rfl ?_
          exact dq_retI (some .boolean) (by decide +kernel) rfl hh
      rcases dp hh with ⟨q161, hh⟩ | ⟨_, hh⟩
      · refine dq_eq 9 q161 ?_
        refine dq_S (.tableswitch 503 0 13 #[71, 134, 157, 170, 193, 216, 259, 292, 325, 348, 381, 414, 447, 480]) 71 [] 381 _ [] (by decide +kernel) rfl ?_
        refine dq_aln 1 382 (by decide +kernel) rfl G1 ?_
        refine dq_aln 0 383 (by decide +kernel) rfl G0 ?_
        refine dq_iln 3 384 (by decide +kernel) rfl G3 ?_
        refine dq_S (.iconst 1) 1 [] 385 _ [.int 1, .int i3, va_rf o0, va_rf o1] (by decide +kernel) rfl ?_
        refine dq_S (.iadd) 1 [] 386 _ [.int (i3 + 1), va_rf o0, va_rf o1] (by decide +kernel) rfl ?_
        obtain ⟨x162, q163, hh⟩ := db hh
        refine dq_aI 387 (by decide +kernel) rfl q163 ?_
        refine dq_aln 0 388 (by decide +kernel) rfl G0 ?_
        refine dq_iln 3 389 (by decide +kernel) rfl G3 ?_
        refine dq_S (.iconst 2) 1 [] 390 _ [.int 2, .int i3, va_rf o0, .int x162, va_rf o1] (by decide +kernel) rfl ?_
        refine dq_S (.iadd) 1 [] 391 _ [.int (i3 + 2), va_rf o0, .int x162, va_rf o1] (by decide +kernel) rfl ?_
        obtain ⟨x164, q165, hh⟩ := db hh
        refine dq_aI 392 (by decide +kernel) rfl q165 ?_
        obtain ⟨x166, q167, hh⟩ := db hh
        obtain ⟨a168, q169, q167⟩ := db q167
        rw [dq_xI q167] at q169
        refine dq_cvi hD 55 268 5 2 [0] o1 [.int x162, .int x164] [] 395 [.int x166.1] (by decide +kernel) ap_268 ⟨⟨Nat.le_of_ble_eq_true rfl, by decide⟩, rfl, rfl⟩ (dq_ok8 [1, 1, 1] [] (dc_r (dc_i (dc_i dc_n))) dc_n (by decide +kernel)) (by decide +kernel) rfl q169 rfl ?_
        refine dq_aln 2 396 (by decide +kernel) rfl G2 ?_
        refine dq_aln 0 397 (by decide +kernel) rfl G0 ?_
        refine dq_iln 3 398 (by decide +kernel) rfl G3 ?_
        refine dq_S (.iconst 1) 1 [] 399 _ [.int 1, .int i3, va_rf o0, va_rf o2, .int x166.1] (by decide +kernel) rfl ?_
        refine dq_S (.iadd) 1 [] 400 _ [.int (i3 + 1), va_rf o0, va_rf o2, .int x166.1] (by decide +kernel) rfl ?_
        obtain ⟨x170, q171, hh⟩ := db hh
        refine dq_aI 401 (by decide +kernel) rfl q171 ?_
        refine dq_aln 0 402 (by decide +kernel) rfl G0 ?_
        refine dq_iln 3 403 (by decide +kernel) rfl G3 ?_
        refine dq_S (.iconst 2) 1 [] 404 _ [.int 2, .int i3, va_rf o0, .int x170, va_rf o2, .int x166.1] (by decide +kernel) rfl ?_
        refine dq_S (.iadd) 1 [] 405 _ [.int (i3 + 2), va_rf o0, .int x170, va_rf o2, .int x166.1] (by decide +kernel) rfl ?_
        obtain ⟨x172, q173, hh⟩ := db hh
        refine dq_aI 406 (by decide +kernel) rfl q173 ?_
        obtain ⟨x174, q175, hh⟩ := db hh
        obtain ⟨a176, q177, q175⟩ := db q175
        rw [dq_xI q175] at q177
        refine dq_cvi hD 58 403 5 2 [15] o2 [.int x170, .int x172] [.int x166.1] 409 [.int x174.1, .int x166.1] (by decide +kernel) ap_403 ⟨⟨Nat.le_of_ble_eq_true rfl, by decide⟩, rfl, rfl⟩ (dq_ok8 [1, 1, 1] [1] (dc_r (dc_i (dc_i dc_n))) (dc_i dc_n) (by decide +kernel)) (by decide +kernel) rfl q177 rfl ?_
        rcases di hh with ⟨q178, hh⟩ | ⟨q178, hh⟩
        · refine dq_2 .eq 127 true 536 q178 (by decide +kernel) ?_
          exact c0_536 hD hz ih _ _ _ _ _ _ _ G0 G1 G2 G3 hh
        · refine dq_2 .eq 127 false 412 q178 (by decide +kernel) ?_
          refine dq_S (.iconst 0) 1 [] 413 _ [.int 0] (by decide +kernel) rfl ?_
          exact dq_retI (some .boolean) (by decide +kernel) rfl hh
      rcases dp hh with ⟨q179, hh⟩ | ⟨_, hh⟩
      · refine dq_eq 10 q179 ?_
        refine dq_S (.tableswitch 503 0 13 #[71, 134, 157, 170, 193, 216, 259, 292, 325, 348, 381, 414, 447, 480]) 71 [] 414 _ [] (by decide +kernel) rfl ?_
        refine dq_aln 1 415 (by decide +kernel) rfl G1 ?_
        refine dq_aln 0 416 (by decide +kernel) rfl G0 ?_
        refine dq_iln 3 417 (by decide +kernel) rfl G3 ?_
        refine dq_S (.iconst 1) 1 [] 418 _ [.int 1, .int i3, va_rf o0, va_rf o1] (by decide +kernel) rfl ?_
        refine dq_S (.iadd) 1 [] 419 _ [.int (i3 + 1), va_rf o0, va_rf o1] (by decide +kernel) rfl ?_
        obtain ⟨x180, q181, hh⟩ := db hh
        refine dq_aI 420 (by decide +kernel) rfl q181 ?_
        refine dq_aln 0 421 (by decide +kernel) rfl G0 ?_
        refine dq_iln 3 422 (by decide +kernel) rfl G3 ?_
        refine dq_S (.iconst 2) 1 [] 423 _ [.int 2, .int i3, va_rf o0, .int x180, va_rf o1] (by decide +kernel) rfl ?_
        refine dq_S (.iadd) 1 [] 424 _ [.int (i3 + 2), va_rf o0, .int x180, va_rf o1] (by decide +kernel) rfl ?_
        obtain ⟨x182, q183, hh⟩ := db hh
        refine dq_aI 425 (by decide +kernel) rfl q183 ?_
        obtain ⟨x184, q185, hh⟩ := db hh
        obtain ⟨a186, q187, q185⟩ := db q185
        rw [dq_xI q185] at q187
        refine dq_cvi hD 59 269 5 2 [0] o1 [.int x180, .int x182] [] 428 [.int x184.1] (by decide +kernel) ap_269 ⟨⟨Nat.le_of_ble_eq_true rfl, by decide⟩, rfl, rfl⟩ (dq_ok8 [1, 1, 1] [] (dc_r (dc_i (dc_i dc_n))) dc_n (by decide +kernel)) (by decide +kernel) rfl q187 rfl ?_
        refine dq_aln 2 429 (by decide +kernel) rfl G2 ?_
        refine dq_aln 0 430 (by decide +kernel) rfl G0 ?_
        refine dq_iln 3 431 (by decide +kernel) rfl G3 ?_
        refine dq_S (.iconst 1) 1 [] 432 _ [.int 1, .int i3, va_rf o0, va_rf o2, .int x184.1] (by decide +kernel) rfl ?_
        refine dq_S (.iadd) 1 [] 433 _ [.int (i3 + 1), va_rf o0, va_rf o2, .int x184.1] (by decide +kernel) rfl ?_
        obtain ⟨x188, q189, hh⟩ := db hh
        refine dq_aI 434 (by decide +kernel) rfl q189 ?_
        refine dq_aln 0 435 (by decide +kernel) rfl G0 ?_
        refine dq_iln 3 436 (by decide +kernel) rfl G3 ?_
        refine dq_S (.iconst 2) 1 [] 437 _ [.int 2, .int i3, va_rf o0, .int x188, va_rf o2, .int x184.1] (by decide +kernel) rfl ?_
        refine dq_S (.iadd) 1 [] 438 _ [.int (i3 + 2), va_rf o0, .int x188, va_rf o2, .int x184.1] (by decide +kernel) rfl ?_
        obtain ⟨x190, q191, hh⟩ := db hh
        refine dq_aI 439 (by decide +kernel) rfl q191 ?_
        obtain ⟨x192, q193, hh⟩ := db hh
        obtain ⟨a194, q195, q193⟩ := db q193
        rw [dq_xI q193] at q195
        refine dq_cvi hD 62 404 5 2 [15] o2 [.int x188, .int x190] [.int x184.1] 442 [.int x192.1, .int x184.1] (by decide +kernel) ap_404 ⟨⟨Nat.le_of_ble_eq_true rfl, by decide⟩, rfl, rfl⟩ (dq_ok8 [1, 1, 1] [1] (dc_r (dc_i (dc_i dc_n))) (dc_i dc_n) (by decide +kernel)) (by decide +kernel) rfl q195 rfl ?_
        rcases di hh with ⟨q196, hh⟩ | ⟨q196, hh⟩
        · refine dq_2 .eq 94 true 536 q196 (by decide +kernel) ?_
          exact c0_536 hD hz ih _ _ _ _ _ _ _ G0 G1 G2 G3 hh
        · refine dq_2 .eq 94 false 445 q196 (by decide +kernel) ?_
          refine dq_S (.iconst 0) 1 [] 446 _ [.int 0] (by decide +kernel) rfl ?_
          exact dq_retI (some .boolean) (by decide +kernel) rfl hh
      rcases dp hh with ⟨q197, hh⟩ | ⟨_, hh⟩
      · refine dq_eq 11 q197 ?_
        refine dq_S (.tableswitch 503 0 13 #[71, 134, 157, 170, 193, 216, 259, 292, 325, 348, 381, 414, 447, 480]) 71 [] 447 _ [] (by decide +kernel) rfl ?_
        refine dq_aln 1 448 (by decide +kernel) rfl G1 ?_
        refine dq_aln 0 449 (by decide +kernel) rfl G0 ?_
        refine dq_iln 3 450 (by decide +kernel) rfl G3 ?_
        refine dq_S (.iconst 1) 1 [] 451 _ [.int 1, .int i3, va_rf o0, va_rf o1] (by decide +kernel) rfl ?_
        refine dq_S (.iadd) 1 [] 452 _ [.int (i3 + 1), va_rf o0, va_rf o1] (by decide +kernel) rfl ?_
        obtain ⟨x198, q199, hh⟩ := db hh
        refine dq_aI 453 (by decide +kernel) rfl q199 ?_
        refine dq_aln 0 454 (by decide +kernel) rfl G0 ?_
        refine dq_iln 3 455 (by decide +kernel) rfl G3 ?_
        refine dq_S (.iconst 2) 1 [] 456 _ [.int 2, .int i3, va_rf o0, .int x198, va_rf o1] (by decide +kernel) rfl ?_
        refine dq_S (.iadd) 1 [] 457 _ [.int (i3 + 2), va_rf o0, .int x198, va_rf o1] (by decide +kernel) rfl ?_
        obtain ⟨x200, q201, hh⟩ := db hh
        refine dq_aI 458 (by decide +kernel) rfl q201 ?_
        obtain ⟨x202, q203, hh⟩ := db hh
        obtain ⟨a204, q205, q203⟩ := db q203
        rw [dq_xI q203] at q205
        refine dq_cvi hD 63 270 5 2 [0] o1 [.int x198, .int x200] [] 461 [.int x202.1] (by decide +kernel) ap_270 ⟨⟨Nat.le_of_ble_eq_true rfl, by decide⟩, rfl, rfl⟩ (dq_ok8 [1, 1, 1] [] (dc_r (dc_i (dc_i dc_n))) dc_n (by decide +kernel)) (by decide +kernel) rfl q205 rfl ?_
        refine dq_aln 2 462 (by decide +kernel) rfl G2 ?_
        refine dq_aln 0 463 (by decide +kernel) rfl G0 ?_
        refine dq_iln 3 464 (by decide +kernel) rfl G3 ?_
        refine dq_S (.iconst 1) 1 [] 465 _ [.int 1, .int i3, va_rf o0, va_rf o2, .int x202.1] (by decide +kernel) rfl ?_
        refine dq_S (.iadd) 1 [] 466 _ [.int (i3 + 1), va_rf o0, va_rf o2, .int x202.1] (by decide +kernel) rfl ?_
        obtain ⟨x206, q207, hh⟩ := db hh
        refine dq_aI 467 (by decide +kernel) rfl q207 ?_
        refine dq_aln 0 468 (by decide +kernel) rfl G0 ?_
        refine dq_iln 3 469 (by decide +kernel) rfl G3 ?_
        refine dq_S (.iconst 2) 1 [] 470 _ [.int 2, .int i3, va_rf o0, .int x206, va_rf o2, .int x202.1] (by decide +kernel) rfl ?_
        refine dq_S (.iadd) 1 [] 471 _ [.int (i3 + 2), va_rf o0, .int x206, va_rf o2, .int x202.1] (by decide +kernel) rfl ?_
        obtain ⟨x208, q209, hh⟩ := db hh
        refine dq_aI 472 (by decide +kernel) rfl q209 ?_
        obtain ⟨x210, q211, hh⟩ := db hh
        obtain ⟨a212, q213, q211⟩ := db q211
        rw [dq_xI q211] at q213
        refine dq_cvi hD 66 405 5 2 [15] o2 [.int x206, .int x208] [.int x202.1] 475 [.int x210.1, .int x202.1] (by decide +kernel) ap_405 ⟨⟨Nat.le_of_ble_eq_true rfl, by decide⟩, rfl, rfl⟩ (dq_ok8 [1, 1, 1] [1] (dc_r (dc_i (dc_i dc_n))) (dc_i dc_n) (by decide +kernel)) (by decide +kernel) rfl q213 rfl ?_
        rcases di hh with ⟨q214, hh⟩ | ⟨q214, hh⟩
        · refine dq_2 .eq 61 true 536 q214 (by decide +kernel) ?_
          exact c0_536 hD hz ih _ _ _ _ _ _ _ G0 G1 G2 G3 hh
        · refine dq_2 .eq 61 false 478 q214 (by decide +kernel) ?_
          refine dq_S (.iconst 0) 1 [] 479 _ [.int 0] (by decide +kernel) rfl ?_
          exact dq_retI (some .boolean) (by decide +kernel) rfl hh
      rcases dp hh with ⟨q215, hh⟩ | ⟨_, hh⟩
      · refine dq_eq 12 q215 ?_
        refine dq_S (.tableswitch 503 0 13 #[71, 134, 157, 170, 193, 216, 259, 292, 325, 348, 381, 414, 447, 480]) 71 [] 480 _ [] (by decide +kernel) rfl ?_
        refine dq_aln 1 481 (by decide +kernel) rfl G1 ?_
        refine dq_aln 0 482 (by decide +kernel) rfl G0 ?_
        refine dq_iln 3 483 (by decide +kernel) rfl G3 ?_
        refine dq_S (.iconst 1) 1 [] 484 _ [.int 1, .int i3, va_rf o0, va_rf o1] (by decide +kernel) rfl ?_
        refine dq_S (.iadd) 1 [] 485 _ [.int (i3 + 1), va_rf o0, va_rf o1] (by decide +kernel) rfl ?_
        obtain ⟨x216, q217, hh⟩ := db hh
        refine dq_aI 486 (by decide +kernel) rfl q217 ?_
        refine dq_aln 0 487 (by decide +kernel) rfl G0 ?_
        refine dq_iln 3 488 (by decide +kernel) rfl G3 ?_
        refine dq_S (.iconst 2) 1 [] 489 _ [.int 2, .int i3, va_rf o0, .int x216, va_rf o1] (by decide +kernel) rfl ?_
        refine dq_S (.iadd) 1 [] 490 _ [.int (i3 + 2), va_rf o0, .int x216, va_rf o1] (by decide +kernel) rfl ?_
        obtain ⟨x218, q219, hh⟩ := db hh
        refine dq_aI 491 (by decide +kernel) rfl q219 ?_
        obtain ⟨x220, q221, hh⟩ := db hh
        obtain ⟨a222, q223, q221⟩ := db q221
        rw [dq_xI q221] at q223
        refine dq_cvi hD 67 280 5 2 [0] o1 [.int x216, .int x218] [] 494 [.int x220.1] (by decide +kernel) ap_280 ⟨⟨Nat.le_of_ble_eq_true rfl, by decide⟩, rfl, rfl⟩ (dq_ok8 [1, 1, 1] [] (dc_r (dc_i (dc_i dc_n))) dc_n (by decide +kernel)) (by decide +kernel) rfl q223 rfl ?_
        refine dq_aln 2 495 (by decide +kernel) rfl G2 ?_
        refine dq_aln 0 496 (by decide +kernel) rfl G0 ?_
        refine dq_iln 3 497 (by decide +kernel) rfl G3 ?_
        refine dq_S (.iconst 1) 1 [] 498 _ [.int 1, .int i3, va_rf o0, va_rf o2, .int x220.1] (by decide +kernel) rfl ?_
        refine dq_S (.iadd) 1 [] 499 _ [.int (i3 + 1), va_rf o0, va_rf o2, .int x220.1] (by decide +kernel) rfl ?_
        obtain ⟨x224, q225, hh⟩ := db hh
        refine dq_aI 500 (by decide +kernel) rfl q225 ?_
        refine dq_aln 0 501 (by decide +kernel) rfl G0 ?_
        refine dq_iln 3 502 (by decide +kernel) rfl G3 ?_
        refine dq_S (.iconst 2) 1 [] 503 _ [.int 2, .int i3, va_rf o0, .int x224, va_rf o2, .int x220.1] (by decide +kernel) rfl ?_
        refine dq_S (.iadd) 1 [] 504 _ [.int (i3 + 2), va_rf o0, .int x224, va_rf o2, .int x220.1] (by decide +kernel) rfl ?_
        obtain ⟨x226, q227, hh⟩ := db hh
        refine dq_aI 505 (by decide +kernel) rfl q227 ?_
        obtain ⟨x228, q229, hh⟩ := db hh
        obtain ⟨a230, q231, q229⟩ := db q229
        rw [dq_xI q229] at q231
        refine dq_cvi hD 70 412 5 2 [15] o2 [.int x224, .int x226] [.int x220.1] 508 [.int x228.1, .int x220.1] (by decide +kernel) ap_412 ⟨⟨Nat.le_of_ble_eq_true rfl, by decide⟩, rfl, rfl⟩ (dq_ok8 [1, 1, 1] [1] (dc_r (dc_i (dc_i dc_n))) (dc_i dc_n) (by decide +kernel)) (by decide +kernel) rfl q231 rfl ?_
        rcases di hh with ⟨q232, hh⟩ | ⟨q232, hh⟩
        · refine dq_2 .eq 28 true 536 q232 (by decide +kernel) ?_
          exact c0_536 hD hz ih _ _ _ _ _ _ _ G0 G1 G2 G3 hh
        · refine dq_2 .eq 28 false 511 q232 (by decide +kernel) ?_
          refine dq_S (.iconst 0) 1 [] 512 _ [.int 0] (by decide +kernel) rfl ?_
          exact dq_retI (some .boolean) (by decide +kernel) rfl hh
      rcases dp hh with ⟨q233, hh⟩ | ⟨_, hh⟩
      · refine dq_eq 13 q233 ?_
        refine dq_S (.tableswitch 503 0 13 #[71, 134, 157, 170, 193, 216, 259, 292, 325, 348, 381, 414, 447, 480]) 71 [] 513 _ [] (by decide +kernel) rfl ?_
        refine dq_aln 1 514 (by decide +kernel) rfl G1 ?_
        refine dq_aln 0 515 (by decide +kernel) rfl G0 ?_
        refine dq_iln 3 516 (by decide +kernel) rfl G3 ?_
        refine dq_S (.iconst 1) 1 [] 517 _ [.int 1, .int i3, va_rf o0, va_rf o1] (by decide +kernel) rfl ?_
        refine dq_S (.iadd) 1 [] 518 _ [.int (i3 + 1), va_rf o0, va_rf o1] (by decide +kernel) rfl ?_
        obtain ⟨x234, q235, hh⟩ := db hh
        refine dq_aI 519 (by decide +kernel) rfl q235 ?_
        obtain ⟨x236, q237, hh⟩ := db hh
        obtain ⟨a238, q239, q237⟩ := db q237
        rw [dq_xI q237] at q239
        refine dq_cvi hD 71 282 5 1 [0] o1 [.int x234] [] 522 [.int x236.1] (by decide +kernel) ap_282 ⟨⟨Nat.le_of_ble_eq_true rfl, by decide⟩, rfl, rfl⟩ (dq_ok8 [1, 1] [] (dc_r (dc_i dc_n)) dc_n (by decide +kernel)) (by decide +kernel) rfl q239 rfl ?_
        refine dq_aln 2 523 (by decide +kernel) rfl G2 ?_
        refine dq_aln 0 524 (by decide +kernel) rfl G0 ?_
        refine dq_iln 3 525 (by decide +kernel) rfl G3 ?_
        refine dq_S (.iconst 1) 1 [] 526 _ [.int 1, .int i3, va_rf o0, va_rf o2, .int x236.1] (by decide +kernel) rfl ?_
        refine dq_S (.iadd) 1 [] 527 _ [.int (i3 + 1), va_rf o0, va_rf o2, .int x236.1] (by decide +kernel) rfl ?_
        obtain ⟨x240, q241, hh⟩ := db hh
        refine dq_aI 528 (by decide +kernel) rfl q241 ?_
        obtain ⟨x242, q243, hh⟩ := db hh
        obtain ⟨a244, q245, q243⟩ := db q243
        rw [dq_xI q243] at q245
        refine dq_cvi hD 74 413 5 1 [15] o2 [.int x240] [.int x236.1] 531 [.int x242.1, .int x236.1] (by decide +kernel) ap_413 ⟨⟨Nat.le_of_ble_eq_true rfl, by decide⟩, rfl, rfl⟩ (dq_ok8 [1, 1] [1] (dc_r (dc_i dc_n)) (dc_i dc_n) (by decide +kernel)) (by decide +kernel) rfl q245 rfl ?_
        rcases di hh with ⟨q246, hh⟩ | ⟨q246, hh⟩
        · refine dq_2 .eq 5 true 536 q246 (by decide +kernel) ?_
          exact c0_536 hD hz ih _ _ _ _ _ _ _ G0 G1 G2 G3 hh
        · refine dq_2 .eq 5 false 534 q246 (by decide +kernel) ?_
          refine dq_S (.iconst 0) 1 [] 535 _ [.int 0] (by decide +kernel) rfl ?_
          exact dq_retI (some .boolean) (by decide +kernel) rfl hh
      cases hh
def b0_0 (L : Nat) (xs : Nat → Int32) (zf : Value) (D : dD) (w : Nat) (o0 : Option Nat) (h : rm_H) : Option dR :=
  (some (h ++ [.inr (0, ah_DV 0)])).bind fun h1 =>
  ((dcN D 1 (some (21 + List.length h)) [] h1).bind dxV).bind fun h3 =>
  (some (h3 ++ [.inr (15, ah_DV 15)])).bind fun h9 =>
  ((dcN D 288 (some (21 + List.length h3)) [] h9).bind dxV).bind fun h11 =>
  b0_18 L xs zf D w w o0 (some (21 + List.length h)) (some (21 + List.length h3)) 0 h11
theorem c0_0 {L : Nat} {xs : Nat → Int32} {zf : Value} {D : dD} {w k : Nat} (hD : dO L xs zf D k) (hz : zf.category = 1) : ∀ (o0 : Option Nat) (lv : rm_L) (h : rm_H) (r : dR), rm_get lv 0 = some (va_rf o0) → b0_0 L xs zf D w  o0 h = some r → dq L xs zf ah_M0 0 lv [] h (k + 1) r := by
  intro o0 lv h r G0 hh
  unfold b0_0 at hh
  obtain ⟨h1, q2, hh⟩ := db hh
  refine dq_new 7 0 3 (by decide +kernel) rfl ?_
  rw [Option.some.inj q2]
  refine dq_dup 4 (by decide +kernel) rfl ?_
  obtain ⟨h3, q4, hh⟩ := db hh
  obtain ⟨a5, q6, q4⟩ := db q4
  rw [dq_xV q4] at q6
  refine dq_csp hD 9 1 0 [] (some (21 + List.length h)) [] [va_rf (some (21 + List.length h))] 7 [va_rf (some (21 + List.length h))] (by decide +kernel) ap_1 ⟨Nat.le_of_ble_eq_true rfl, rfl, rfl⟩ (dq_ok8 [1] [1] (dc_r dc_n) (dc_r dc_n) (by decide +kernel)) (by decide +kernel) rfl q6 rfl ?_
  refine dq_asn 1 8 (by decide +kernel) (by decide +kernel) ?_
  have g7 := dg_ne (i := 1) (u := va_rf (some (21 + List.length h))) (by decide) (Or.inr (drc _)) G0
  have g8 := dg_eq (lv) 1 (va_rf (some (21 + List.length h)))
  obtain ⟨h9, q10, hh⟩ := db hh
  refine dq_new 10 15 11 (by decide +kernel) rfl ?_
  rw [Option.some.inj q10]
  refine dq_dup 12 (by decide +kernel) rfl ?_
  obtain ⟨h11, q12, hh⟩ := db hh
  obtain ⟨a13, q14, q12⟩ := db q12
  rw [dq_xV q12] at q14
  refine dq_csp hD 12 288 0 [] (some (21 + List.length h3)) [] [va_rf (some (21 + List.length h3))] 15 [va_rf (some (21 + List.length h3))] (by decide +kernel) ap_288 ⟨Nat.le_of_ble_eq_true rfl, rfl, rfl⟩ (dq_ok8 [1] [1] (dc_r dc_n) (dc_r dc_n) (by decide +kernel)) (by decide +kernel) rfl q14 rfl ?_
  refine dq_asn 2 16 (by decide +kernel) (by decide +kernel) ?_
  have g15 := dg_ne (i := 2) (u := va_rf (some (21 + List.length h3))) (by decide) (Or.inl (by decide)) g7
  have g16 := dg_ne (i := 2) (u := va_rf (some (21 + List.length h3))) (by decide) (Or.inr (drc _)) g8
  have g17 := dg_eq (rm_set1 (lv) 1 (va_rf (some (21 + List.length h)))) 2 (va_rf (some (21 + List.length h3)))
  refine dq_S (.iconst 0) 1 [] 17 _ [.int 0] (by decide +kernel) rfl ?_
  refine dq_isn 3 18 (by decide +kernel) (by decide +kernel) ?_
  have g18 := dg_ne (i := 3) (u := .int 0) (by decide) (Or.inl (by decide)) g15
  have g19 := dg_ne (i := 3) (u := .int 0) (by decide) (Or.inl (by decide)) g16
  have g20 := dg_ne (i := 3) (u := .int 0) (by decide) (Or.inr (drc _)) g17
  have g21 := dg_eq (rm_set1 (rm_set1 (lv) 1 (va_rf (some (21 + List.length h)))) 2 (va_rf (some (21 + List.length h3)))) 3 (.int 0)
  exact c0_18 hD hz _ _ _ _ _ _ _ _ g18 g19 g20 g21 hh
def f0 (L : Nat) (xs : Nat → Int32) (zf : Value) (D : dD) (w : Nat) (As : List Value) (h : rm_H) : Option dR := match As with
  | [v0] => (rm_rf v0).bind fun o0 => b0_0 L xs zf D w o0 h
  | _ => none
theorem d0 {L : Nat} {xs : Nat → Int32} {zf : Value} {D : dD} {w k : Nat} (hD : dO L xs zf D k) (hz : zf.category = 1) (As : List Value) (h : rm_H) (r : dR) (hh : f0 L xs zf D w As h = some r) : dq L xs zf ah_M0 0 (lv_args 0 As) [] h (k + 1) r := by
  unfold f0 at hh
  split at hh
  · obtain ⟨o0, e0, hb0⟩ := db hh
    have e0 := rm_rf_v _ _ e0
    subst e0
    refine c0_0 hD hz _ _ _ _ ?_ hb0
    all_goals (simp only [la_r, la_i, la_j]; rfl)
  · cases hh
def b1_0 (L : Nat) (xs : Nat → Int32) (zf : Value) (D : dD) (w : Nat) (o0 : Option Nat) (h : rm_H) : Option dR :=
  if dnl o0 = true then none else
  (some (h ++ [.inr (1, ah_DV 1)])).bind fun h2 =>
  ((dcN D 3 (some (21 + List.length h)) [] h2).bind dxV).bind fun h4 =>
  (dpF h4 0 [0] o0 (va_rf (some (21 + List.length h)))).bind fun h8 =>
  (some (h8 ++ [.inr (2, ah_DV 2)])).bind fun h10 =>
  ((dcN D 7 (some (21 + List.length h8)) [] h10).bind dxV).bind fun h12 =>
  (dpF h12 1 [0] o0 (va_rf (some (21 + List.length h8)))).bind fun h16 =>
  (some (h16 ++ [.inr (3, ah_DV 3)])).bind fun h18 =>
  ((dcN D 8 (some (21 + List.length h16)) [] h18).bind dxV).bind fun h20 =>
  (dpF h20 2 [0] o0 (va_rf (some (21 + List.length h16)))).bind fun h24 =>
  (dpF h24 3 [0] o0 (va_rf none)).bind fun h26 =>
  (dpF h26 4 [0] o0 (.int (-1))).bind fun h28 =>
  (dpF h28 5 [0] o0 (.int (-1))).bind fun h30 =>
  some (none, h30)
theorem c1_0 {L : Nat} {xs : Nat → Int32} {zf : Value} {D : dD} {w k : Nat} (hD : dO L xs zf D k) (hz : zf.category = 1) : ∀ (o0 : Option Nat) (lv : rm_L) (h : rm_H) (r : dR), rm_get lv 0 = some (va_rf o0) → b1_0 L xs zf D w  o0 h = some r → dq L xs zf ah_M1 0 lv [] h (k + 1) r := by
  intro o0 lv h r G0 hh
  unfold b1_0 at hh
  refine dq_aln 0 1 (by decide +kernel) rfl G0 ?_
  rcases di hh with ⟨_, hh⟩ | ⟨q1, hh⟩
  · cases hh
  refine dq_obj 1 4 (by decide +kernel) (dc_s dc_n (by decide +kernel)) rfl q1 ?_
  refine dq_aln 0 5 (by decide +kernel) rfl G0 ?_
  obtain ⟨h2, q3, hh⟩ := db hh
  refine dq_new 7 1 8 (by decide +kernel) rfl ?_
  rw [Option.some.inj q3]
  refine dq_dup 9 (by decide +kernel) rfl ?_
  obtain ⟨h4, q5, hh⟩ := db hh
  obtain ⟨a6, q7, q5⟩ := db q5
  rw [dq_xV q5] at q7
  refine dq_csp hD 9 3 0 [] (some (21 + List.length h)) [] [va_rf (some (21 + List.length h)), va_rf o0] 12 [va_rf (some (21 + List.length h)), va_rf o0] (by decide +kernel) ap_3 ⟨Nat.le_of_ble_eq_true rfl, rfl, rfl⟩ (dq_ok8 [1] [1, 1] (dc_r dc_n) (dc_r (dc_r dc_n)) (by decide +kernel)) (by decide +kernel) rfl q7 rfl ?_
  obtain ⟨h8, q9, hh⟩ := db hh
  refine dq_put 10 0 [0] 15 (by decide +kernel) rfl q9 ?_
  refine dq_aln 0 16 (by decide +kernel) rfl G0 ?_
  obtain ⟨h10, q11, hh⟩ := db hh
  refine dq_new 16 2 19 (by decide +kernel) rfl ?_
  rw [Option.some.inj q11]
  refine dq_dup 20 (by decide +kernel) rfl ?_
  obtain ⟨h12, q13, hh⟩ := db hh
  obtain ⟨a14, q15, q13⟩ := db q13
  rw [dq_xV q13] at q15
  refine dq_csp hD 18 7 0 [] (some (21 + List.length h8)) [] [va_rf (some (21 + List.length h8)), va_rf o0] 23 [va_rf (some (21 + List.length h8)), va_rf o0] (by decide +kernel) ap_7 ⟨Nat.le_of_ble_eq_true rfl, rfl, rfl⟩ (dq_ok8 [1] [1, 1] (dc_r dc_n) (dc_r (dc_r dc_n)) (by decide +kernel)) (by decide +kernel) rfl q15 rfl ?_
  obtain ⟨h16, q17, hh⟩ := db hh
  refine dq_put 19 1 [0] 26 (by decide +kernel) rfl q17 ?_
  refine dq_aln 0 27 (by decide +kernel) rfl G0 ?_
  obtain ⟨h18, q19, hh⟩ := db hh
  refine dq_new 23 3 30 (by decide +kernel) rfl ?_
  rw [Option.some.inj q19]
  refine dq_dup 31 (by decide +kernel) rfl ?_
  obtain ⟨h20, q21, hh⟩ := db hh
  obtain ⟨a22, q23, q21⟩ := db q21
  rw [dq_xV q21] at q23
  refine dq_csp hD 25 8 0 [] (some (21 + List.length h16)) [] [va_rf (some (21 + List.length h16)), va_rf o0] 34 [va_rf (some (21 + List.length h16)), va_rf o0] (by decide +kernel) ap_8 ⟨Nat.le_of_ble_eq_true rfl, rfl, rfl⟩ (dq_ok8 [1] [1, 1] (dc_r dc_n) (dc_r (dc_r dc_n)) (by decide +kernel)) (by decide +kernel) rfl q23 rfl ?_
  obtain ⟨h24, q25, hh⟩ := db hh
  refine dq_put 26 2 [0] 37 (by decide +kernel) rfl q25 ?_
  refine dq_aln 0 38 (by decide +kernel) rfl G0 ?_
  refine dq_S (.aconst_null) 1 [] 39 _ [va_rf none, va_rf o0] (by decide +kernel) rfl ?_
  obtain ⟨h26, q27, hh⟩ := db hh
  refine dq_put 30 3 [0] 42 (by decide +kernel) rfl q27 ?_
  refine dq_aln 0 43 (by decide +kernel) rfl G0 ?_
  refine dq_S (.iconst (-1)) 1 [] 44 _ [.int (-1), va_rf o0] (by decide +kernel) rfl ?_
  obtain ⟨h28, q29, hh⟩ := db hh
  refine dq_put 34 4 [0] 47 (by decide +kernel) rfl q29 ?_
  refine dq_aln 0 48 (by decide +kernel) rfl G0 ?_
  refine dq_S (.iconst (-1)) 1 [] 49 _ [.int (-1), va_rf o0] (by decide +kernel) rfl ?_
  obtain ⟨h30, q31, hh⟩ := db hh
  refine dq_put 38 5 [0] 52 (by decide +kernel) rfl q31 ?_
  cases hh
  exact dq_ret0 (by decide +kernel) rfl
def f1 (L : Nat) (xs : Nat → Int32) (zf : Value) (D : dD) (w : Nat) (As : List Value) (h : rm_H) : Option dR := match As with
  | [v0] => (rm_rf v0).bind fun o0 => b1_0 L xs zf D w o0 h
  | _ => none
theorem d1 {L : Nat} {xs : Nat → Int32} {zf : Value} {D : dD} {w k : Nat} (hD : dO L xs zf D k) (hz : zf.category = 1) (As : List Value) (h : rm_H) (r : dR) (hh : f1 L xs zf D w As h = some r) : dq L xs zf ah_M1 0 (lv_args 0 As) [] h (k + 1) r := by
  unfold f1 at hh
  split at hh
  · obtain ⟨o0, e0, hb0⟩ := db hh
    have e0 := rm_rf_v _ _ e0
    subst e0
    refine c1_0 hD hz _ _ _ _ ?_ hb0
    all_goals (simp only [la_r, la_i, la_j]; rfl)
  · cases hh
def b2_0 (L : Nat) (xs : Nat → Int32) (zf : Value) (D : dD) (w : Nat) (h : rm_H) : Option dR :=
  some (none, h)
theorem c2_0 {L : Nat} {xs : Nat → Int32} {zf : Value} {D : dD} {w k : Nat} (hD : dO L xs zf D k) (hz : zf.category = 1) : ∀ (lv : rm_L) (h : rm_H) (r : dR), b2_0 L xs zf D w  h = some r → dq L xs zf ah_M2 0 lv [] h (k + 1) r := by
  intro lv h r hh
  unfold b2_0 at hh
  cases hh
  exact dq_ret0 (by decide +kernel) rfl
def f2 (L : Nat) (xs : Nat → Int32) (zf : Value) (D : dD) (w : Nat) (As : List Value) (h : rm_H) : Option dR := match As with
  | [u0] => b2_0 L xs zf D w h
  | _ => none
theorem d2 {L : Nat} {xs : Nat → Int32} {zf : Value} {D : dD} {w k : Nat} (hD : dO L xs zf D k) (hz : zf.category = 1) (As : List Value) (h : rm_H) (r : dR) (hh : f2 L xs zf D w As h = some r) : dq L xs zf ah_M2 0 (lv_args 0 As) [] h (k + 1) r := by
  unfold f2 at hh
  split at hh
  · refine c2_0 hD hz  _ _ _  hh
  · cases hh
def b3_0 (L : Nat) (xs : Nat → Int32) (zf : Value) (D : dD) (w : Nat) (o0 : Option Nat) (h : rm_H) : Option dR :=
  ((dcN D 4 o0 [.int 16] h).bind dxV).bind fun h1 =>
  some (none, h1)
theorem c3_0 {L : Nat} {xs : Nat → Int32} {zf : Value} {D : dD} {w k : Nat} (hD : dO L xs zf D k) (hz : zf.category = 1) : ∀ (o0 : Option Nat) (lv : rm_L) (h : rm_H) (r : dR), rm_get lv 0 = some (va_rf o0) → b3_0 L xs zf D w  o0 h = some r → dq L xs zf ah_M3 0 lv [] h (k + 1) r := by
  intro o0 lv h r G0 hh
  unfold b3_0 at hh
  refine dq_aln 0 1 (by decide +kernel) rfl G0 ?_
  refine dq_S (.bipush 16) 2 [] 3 _ [.int 16, va_rf o0] (by decide +kernel) rfl ?_
  obtain ⟨h1, q2, hh⟩ := db hh
  obtain ⟨a3, q4, q2⟩ := db q2
  rw [dq_xV q2] at q4
  refine dq_csp hD 1 4 1 [] o0 [.int 16] [] 6 [] (by decide +kernel) ap_4 ⟨Nat.le_of_ble_eq_true rfl, rfl, rfl⟩ (dq_ok8 [1, 1] [] (dc_r (dc_i dc_n)) dc_n (by decide +kernel)) (by decide +kernel) rfl q4 rfl ?_
  cases hh
  exact dq_ret0 (by decide +kernel) rfl
def f3 (L : Nat) (xs : Nat → Int32) (zf : Value) (D : dD) (w : Nat) (As : List Value) (h : rm_H) : Option dR := match As with
  | [v0] => (rm_rf v0).bind fun o0 => b3_0 L xs zf D w o0 h
  | _ => none
theorem d3 {L : Nat} {xs : Nat → Int32} {zf : Value} {D : dD} {w k : Nat} (hD : dO L xs zf D k) (hz : zf.category = 1) (As : List Value) (h : rm_H) (r : dR) (hh : f3 L xs zf D w As h = some r) : dq L xs zf ah_M3 0 (lv_args 0 As) [] h (k + 1) r := by
  unfold f3 at hh
  split at hh
  · obtain ⟨o0, e0, hb0⟩ := db hh
    have e0 := rm_rf_v _ _ e0
    subst e0
    refine c3_0 hD hz _ _ _ _ ?_ hb0
    all_goals (simp only [la_r, la_i, la_j]; rfl)
  · cases hh
def b4_38 (L : Nat) (xs : Nat → Int32) (zf : Value) (D : dD) (w : Nat) (h : rm_H) : Option dR :=
  some (none, h)
theorem c4_38 {L : Nat} {xs : Nat → Int32} {zf : Value} {D : dD} {w k : Nat} (hD : dO L xs zf D k) (hz : zf.category = 1) : ∀ (lv : rm_L) (h : rm_H) (r : dR), b4_38 L xs zf D w  h = some r → dq L xs zf ah_M4 38 lv [] h (k + 1) r := by
  intro lv h r hh
  unfold b4_38 at hh
  cases hh
  exact dq_ret0 (by decide +kernel) rfl
def b4_0 (L : Nat) (xs : Nat → Int32) (zf : Value) (D : dD) (w : Nat) (o0 : Option Nat) (i1 : Int32) (h : rm_H) : Option dR :=
  if dnl o0 = true then none else
  if mx_f1 .eq 1 = true then
    ((D 5 [.int i1] h).bind dxR).bind fun p3 =>
    (dpF p3.2 0 [1] o0 (va_rf p3.1)).bind fun h7 =>
    (dpF h7 1 [1] o0 (.int 1)).bind fun h9 =>
    b4_38 L xs zf D w h9
  else
    (dnI 1 i1 h).bind fun h11 =>
    (dpF h11 0 [1] o0 (va_rf (some (21 + List.length h)))).bind fun h13 =>
    (dpF h13 1 [1] o0 (.int 0)).bind fun h15 =>
    b4_38 L xs zf D w h15
theorem c4_0 {L : Nat} {xs : Nat → Int32} {zf : Value} {D : dD} {w k : Nat} (hD : dO L xs zf D k) (hz : zf.category = 1) : ∀ (o0 : Option Nat) (i1 : Int32) (lv : rm_L) (h : rm_H) (r : dR), rm_get lv 0 = some (va_rf o0) → rm_get lv 1 = some (.int i1) → b4_0 L xs zf D w  o0 i1 h = some r → dq L xs zf ah_M4 0 lv [] h (k + 1) r := by
  intro o0 i1 lv h r G0 G1 hh
  unfold b4_0 at hh
  refine dq_aln 0 1 (by decide +kernel) rfl G0 ?_
  rcases di hh with ⟨_, hh⟩ | ⟨q1, hh⟩
  · cases hh
  refine dq_obj 3 4 (by decide +kernel) (dc_s dc_n (by decide +kernel)) rfl q1 ?_
  refine dq_S (.getstatic 18) 3 [0] 7 _ [.int 1] (by decide +kernel) rfl ?_
  rcases di hh with ⟨q2, hh⟩ | ⟨q2, hh⟩
  · refine dq_1 .eq 18 true 25 q2 (by decide +kernel) ?_
    refine dq_aln 0 26 (by decide +kernel) rfl G0 ?_
    refine dq_iln 1 27 (by decide +kernel) rfl G1 ?_
    obtain ⟨p3, q4, hh⟩ := db hh
    obtain ⟨a5, q6, q4⟩ := db q4
    rw [dq_xR q4] at q6
    refine dq_cst hD 26 5 0 1 [.int i1] [va_rf o0] 30 [va_rf p3.1, va_rf o0] (by decide +kernel) ap_5 ⟨⟨Nat.le_of_ble_eq_true rfl, by decide⟩, rfl, rfl⟩ (dq_ok8 [1] [1] (dc_i dc_n) (dc_r dc_n) (by decide +kernel)) (by decide +kernel) rfl q6 rfl ?_
    obtain ⟨h7, q8, hh⟩ := db hh
    refine dq_put 15 0 [1] 33 (by decide +kernel) rfl q8 ?_
    refine dq_aln 0 34 (by decide +kernel) rfl G0 ?_
    refine dq_S (.iconst 1) 1 [] 35 _ [.int 1, va_rf o0] (by decide +kernel) rfl ?_
    obtain ⟨h9, q10, hh⟩ := db hh
    refine dq_put 22 1 [1] 38 (by decide +kernel) rfl q10 ?_
    exact c4_38 hD hz  _ _ _  hh
  · refine dq_1 .eq 18 false 10 q2 (by decide +kernel) ?_
    refine dq_aln 0 11 (by decide +kernel) rfl G0 ?_
    refine dq_iln 1 12 (by decide +kernel) rfl G1 ?_
    obtain ⟨h11, q12, hh⟩ := db hh
    refine dq_nI .byte 1 14 ⟨Or.inr (Or.inl rfl), rfl⟩ (by decide +kernel) rfl q12 ?_
    obtain ⟨h13, q14, hh⟩ := db hh
    refine dq_put 15 0 [1] 17 (by decide +kernel) rfl q14 ?_
    refine dq_aln 0 18 (by decide +kernel) rfl G0 ?_
    refine dq_S (.iconst 0) 1 [] 19 _ [.int 0, va_rf o0] (by decide +kernel) rfl ?_
    obtain ⟨h15, q16, hh⟩ := db hh
    refine dq_put 22 1 [1] 22 (by decide +kernel) rfl q16 ?_
    refine dq_S (.goto 16) 3 [] 38 _ [] (by decide +kernel) rfl ?_
    exact c4_38 hD hz  _ _ _  hh
def f4 (L : Nat) (xs : Nat → Int32) (zf : Value) (D : dD) (w : Nat) (As : List Value) (h : rm_H) : Option dR := match As with
  | [v0, .int i1] => (rm_rf v0).bind fun o0 => b4_0 L xs zf D w o0 i1 h
  | _ => none
theorem d4 {L : Nat} {xs : Nat → Int32} {zf : Value} {D : dD} {w k : Nat} (hD : dO L xs zf D k) (hz : zf.category = 1) (As : List Value) (h : rm_H) (r : dR) (hh : f4 L xs zf D w As h = some r) : dq L xs zf ah_M4 0 (lv_args 0 As) [] h (k + 1) r := by
  unfold f4 at hh
  split at hh
  · obtain ⟨o0, e0, hb0⟩ := db hh
    have e0 := rm_rf_v _ _ e0
    subst e0
    refine c4_0 hD hz _ _ _ _ _ ?_ ?_ hb0
    all_goals (simp only [la_r, la_i, la_j]; rfl)
  · cases hh
def b5_0 (L : Nat) (xs : Nat → Int32) (zf : Value) (D : dD) (w : Nat) (i0 : Int32) (h : rm_H) : Option dR :=
  ((D 6 [.int i0] h).bind dxI).bind fun x1 =>
  (dnI 1 x1.1 x1.2).bind fun h5 =>
  some (some (va_rf (some (21 + List.length x1.2))), h5)
theorem c5_0 {L : Nat} {xs : Nat → Int32} {zf : Value} {D : dD} {w k : Nat} (hD : dO L xs zf D k) (hz : zf.category = 1) : ∀ (i0 : Int32) (lv : rm_L) (h : rm_H) (r : dR), rm_get lv 0 = some (.int i0) → b5_0 L xs zf D w  i0 h = some r → dq L xs zf ah_M5 0 lv [] h (k + 1) r := by
  intro i0 lv h r G0 hh
  unfold b5_0 at hh
  refine dq_iln 0 1 (by decide +kernel) rfl G0 ?_
  obtain ⟨x1, q2, hh⟩ := db hh
  obtain ⟨a3, q4, q2⟩ := db q2
  rw [dq_xI q2] at q4
  refine dq_cst hD 11 6 0 1 [.int i0] [] 4 [.int x1.1] (by decide +kernel) ap_6 ⟨⟨Nat.le_of_ble_eq_true rfl, by decide⟩, rfl, rfl⟩ (dq_ok8 [1] [] (dc_i dc_n) dc_n (by decide +kernel)) (by decide +kernel) rfl q4 rfl ?_
  obtain ⟨h5, q6, hh⟩ := db hh
  refine dq_nI .byte 1 6 ⟨Or.inr (Or.inl rfl), rfl⟩ (by decide +kernel) rfl q6 ?_
  cases hh
  exact dq_retR (by decide +kernel) rfl
def f5 (L : Nat) (xs : Nat → Int32) (zf : Value) (D : dD) (w : Nat) (As : List Value) (h : rm_H) : Option dR := match As with
  | [.int i0] => b5_0 L xs zf D w i0 h
  | _ => none
theorem d5 {L : Nat} {xs : Nat → Int32} {zf : Value} {D : dD} {w k : Nat} (hD : dO L xs zf D k) (hz : zf.category = 1) (As : List Value) (h : rm_H) (r : dR) (hh : f5 L xs zf D w As h = some r) : dq L xs zf ah_M5 0 (lv_args 0 As) [] h (k + 1) r := by
  unfold f5 at hh
  split at hh
  · refine c5_0 hD hz _ _ _ _ ?_ hh
    all_goals (simp only [la_r, la_i, la_j]; rfl)
  · cases hh
def b6_0 (L : Nat) (xs : Nat → Int32) (zf : Value) (D : dD) (w : Nat) (i0 : Int32) (h : rm_H) : Option dR :=
  if mx_f1 .ge i0 = true then
    if mx_f2 .lt i0 1073741823 = true then
      drI (some .int) (i0 <<< ((1 : Int32) &&& 31)) h
    else
      none
  else
    none
theorem c6_0 {L : Nat} {xs : Nat → Int32} {zf : Value} {D : dD} {w k : Nat} (hD : dO L xs zf D k) (hz : zf.category = 1) : ∀ (i0 : Int32) (lv : rm_L) (h : rm_H) (r : dR), rm_get lv 0 = some (.int i0) → b6_0 L xs zf D w  i0 h = some r → dq L xs zf ah_M6 0 lv [] h (k + 1) r := by
  intro i0 lv h r G0 hh
  unfold b6_0 at hh
  refine dq_iln 0 1 (by decide +kernel) rfl G0 ?_
  rcases di hh with ⟨q1, hh⟩ | ⟨q1, hh⟩
  · refine dq_1 .ge 11 true 12 q1 (by decide +kernel) ?_
    refine dq_iln 0 13 (by decide +kernel) rfl G0 ?_
    refine dq_S (.ldc 20) 2 [0, 1073741823] 15 _ [.int 1073741823, .int i0] (by decide +kernel) rfl ?_
    rcases di hh with ⟨q2, hh⟩ | ⟨q2, hh⟩
    · refine dq_2 .lt 40 true 55 q2 (by decide +kernel) ?_
      refine dq_iln 0 56 (by decide +kernel) rfl G0 ?_
      refine dq_S (.iconst 1) 1 [] 57 _ [.int 1, .int i0] (by decide +kernel) rfl ?_
      refine dq_S (.ishl) 1 [] 58 _ [.int (i0 <<< ((1 : Int32) &&& 31))] (by decide +kernel) rfl ?_
      exact dq_retI (some .int) (by decide +kernel) rfl hh
    · refine dq_2 .lt 40 false 18 q2 (by decide +kernel) ?_
      cases hh
  · refine dq_1 .ge 11 false 4 q1 (by decide +kernel) ?_
    cases hh
def f6 (L : Nat) (xs : Nat → Int32) (zf : Value) (D : dD) (w : Nat) (As : List Value) (h : rm_H) : Option dR := match As with
  | [.int i0] => b6_0 L xs zf D w i0 h
  | _ => none
theorem d6 {L : Nat} {xs : Nat → Int32} {zf : Value} {D : dD} {w k : Nat} (hD : dO L xs zf D k) (hz : zf.category = 1) (As : List Value) (h : rm_H) (r : dR) (hh : f6 L xs zf D w As h = some r) : dq L xs zf ah_M6 0 (lv_args 0 As) [] h (k + 1) r := by
  unfold f6 at hh
  split at hh
  · refine c6_0 hD hz _ _ _ _ ?_ hh
    all_goals (simp only [la_r, la_i, la_j]; rfl)
  · cases hh
def b7_0 (L : Nat) (xs : Nat → Int32) (zf : Value) (D : dD) (w : Nat) (o0 : Option Nat) (h : rm_H) : Option dR :=
  if dnl o0 = true then none else
  (dnI 0 400 h).bind fun h2 =>
  (dpF h2 0 [2] o0 (va_rf (some (21 + List.length h)))).bind fun h4 =>
  (dnI 0 401 h4).bind fun h6 =>
  (dpF h6 1 [2] o0 (va_rf (some (21 + List.length h4)))).bind fun h8 =>
  (dnR 5 12 h8).bind fun h10 =>
  (dpF h10 2 [2] o0 (va_rf (some (21 + List.length h8)))).bind fun h12 =>
  (dnI 0 200 h12).bind fun h14 =>
  (dpF h14 3 [2] o0 (va_rf (some (21 + List.length h12)))).bind fun h16 =>
  (dnI 0 200 h16).bind fun h18 =>
  (dpF h18 4 [2] o0 (va_rf (some (21 + List.length h16)))).bind fun h20 =>
  (dpF h20 7 [2] o0 (va_rf none)).bind fun h22 =>
  some (none, h22)
theorem c7_0 {L : Nat} {xs : Nat → Int32} {zf : Value} {D : dD} {w k : Nat} (hD : dO L xs zf D k) (hz : zf.category = 1) : ∀ (o0 : Option Nat) (lv : rm_L) (h : rm_H) (r : dR), rm_get lv 0 = some (va_rf o0) → b7_0 L xs zf D w  o0 h = some r → dq L xs zf ah_M7 0 lv [] h (k + 1) r := by
  intro o0 lv h r G0 hh
  unfold b7_0 at hh
  refine dq_aln 0 1 (by decide +kernel) rfl G0 ?_
  rcases di hh with ⟨_, hh⟩ | ⟨q1, hh⟩
  · cases hh
  refine dq_obj 3 4 (by decide +kernel) (dc_s dc_n (by decide +kernel)) rfl q1 ?_
  refine dq_aln 0 5 (by decide +kernel) rfl G0 ?_
  refine dq_S (.sipush 400) 3 [] 8 _ [.int 400, va_rf o0] (by decide +kernel) rfl ?_
  obtain ⟨h2, q3, hh⟩ := db hh
  refine dq_nI .int 0 10 ⟨Or.inl rfl, rfl⟩ (by decide +kernel) rfl q3 ?_
  obtain ⟨h4, q5, hh⟩ := db hh
  refine dq_put 9 0 [2] 13 (by decide +kernel) rfl q5 ?_
  refine dq_aln 0 14 (by decide +kernel) rfl G0 ?_
  refine dq_S (.sipush 401) 3 [] 17 _ [.int 401, va_rf o0] (by decide +kernel) rfl ?_
  obtain ⟨h6, q7, hh⟩ := db hh
  refine dq_nI .int 0 19 ⟨Or.inl rfl, rfl⟩ (by decide +kernel) rfl q7 ?_
  obtain ⟨h8, q9, hh⟩ := db hh
  refine dq_put 15 1 [2] 22 (by decide +kernel) rfl q9 ?_
  refine dq_aln 0 23 (by decide +kernel) rfl G0 ?_
  refine dq_S (.bipush 12) 2 [] 25 _ [.int 12, va_rf o0] (by decide +kernel) rfl ?_
  obtain ⟨h10, q11, hh⟩ := db hh
  refine dq_nR 18 5 28 (by decide +kernel) rfl q11 ?_
  obtain ⟨h12, q13, hh⟩ := db hh
  refine dq_put 20 2 [2] 31 (by decide +kernel) rfl q13 ?_
  refine dq_aln 0 32 (by decide +kernel) rfl G0 ?_
  refine dq_S (.sipush 200) 3 [] 35 _ [.int 200, va_rf o0] (by decide +kernel) rfl ?_
  obtain ⟨h14, q15, hh⟩ := db hh
  refine dq_nI .int 0 37 ⟨Or.inl rfl, rfl⟩ (by decide +kernel) rfl q15 ?_
  obtain ⟨h16, q17, hh⟩ := db hh
  refine dq_put 24 3 [2] 40 (by decide +kernel) rfl q17 ?_
  refine dq_aln 0 41 (by decide +kernel) rfl G0 ?_
  refine dq_S (.sipush 200) 3 [] 44 _ [.int 200, va_rf o0] (by decide +kernel) rfl ?_
  obtain ⟨h18, q19, hh⟩ := db hh
  refine dq_nI .int 0 46 ⟨Or.inl rfl, rfl⟩ (by decide +kernel) rfl q19 ?_
  obtain ⟨h20, q21, hh⟩ := db hh
  refine dq_put 27 4 [2] 49 (by decide +kernel) rfl q21 ?_
  refine dq_aln 0 50 (by decide +kernel) rfl G0 ?_
  refine dq_S (.aconst_null) 1 [] 51 _ [va_rf none, va_rf o0] (by decide +kernel) rfl ?_
  obtain ⟨h22, q23, hh⟩ := db hh
  refine dq_put 30 7 [2] 54 (by decide +kernel) rfl q23 ?_
  cases hh
  exact dq_ret0 (by decide +kernel) rfl
def f7 (L : Nat) (xs : Nat → Int32) (zf : Value) (D : dD) (w : Nat) (As : List Value) (h : rm_H) : Option dR := match As with
  | [v0] => (rm_rf v0).bind fun o0 => b7_0 L xs zf D w o0 h
  | _ => none
theorem d7 {L : Nat} {xs : Nat → Int32} {zf : Value} {D : dD} {w k : Nat} (hD : dO L xs zf D k) (hz : zf.category = 1) (As : List Value) (h : rm_H) (r : dR) (hh : f7 L xs zf D w As h = some r) : dq L xs zf ah_M7 0 (lv_args 0 As) [] h (k + 1) r := by
  unfold f7 at hh
  split at hh
  · obtain ⟨o0, e0, hb0⟩ := db hh
    have e0 := rm_rf_v _ _ e0
    subst e0
    refine c7_0 hD hz _ _ _ _ ?_ hb0
    all_goals (simp only [la_r, la_i, la_j]; rfl)
  · cases hh
def b8_0 (L : Nat) (xs : Nat → Int32) (zf : Value) (D : dD) (w : Nat) (o0 : Option Nat) (h : rm_H) : Option dR :=
  if dnl o0 = true then none else
  (some (h ++ [.inr (1, ah_DV 1)])).bind fun h2 =>
  ((dcN D 3 (some (21 + List.length h)) [] h2).bind dxV).bind fun h4 =>
  (dpF h4 0 [3] o0 (va_rf (some (21 + List.length h)))).bind fun h8 =>
  (dnI 0 401 h8).bind fun h10 =>
  (dpF h10 1 [3] o0 (va_rf (some (21 + List.length h8)))).bind fun h12 =>
  (dnI 0 401 h12).bind fun h14 =>
  (dpF h14 2 [3] o0 (va_rf (some (21 + List.length h12)))).bind fun h16 =>
  (dnI 0 401 h16).bind fun h18 =>
  (dpF h18 3 [3] o0 (va_rf (some (21 + List.length h16)))).bind fun h20 =>
  (dpF h20 4 [3] o0 (.int 0)).bind fun h22 =>
  (dpF h22 5 [3] o0 (.int 0)).bind fun h24 =>
  (dpF h24 6 [3] o0 (.int 0)).bind fun h26 =>
  some (none, h26)
theorem c8_0 {L : Nat} {xs : Nat → Int32} {zf : Value} {D : dD} {w k : Nat} (hD : dO L xs zf D k) (hz : zf.category = 1) : ∀ (o0 : Option Nat) (lv : rm_L) (h : rm_H) (r : dR), rm_get lv 0 = some (va_rf o0) → b8_0 L xs zf D w  o0 h = some r → dq L xs zf ah_M8 0 lv [] h (k + 1) r := by
  intro o0 lv h r G0 hh
  unfold b8_0 at hh
  refine dq_aln 0 1 (by decide +kernel) rfl G0 ?_
  rcases di hh with ⟨_, hh⟩ | ⟨q1, hh⟩
  · cases hh
  refine dq_obj 3 4 (by decide +kernel) (dc_s dc_n (by decide +kernel)) rfl q1 ?_
  refine dq_aln 0 5 (by decide +kernel) rfl G0 ?_
  obtain ⟨h2, q3, hh⟩ := db hh
  refine dq_new 9 1 8 (by decide +kernel) rfl ?_
  rw [Option.some.inj q3]
  refine dq_dup 9 (by decide +kernel) rfl ?_
  obtain ⟨h4, q5, hh⟩ := db hh
  obtain ⟨a6, q7, q5⟩ := db q5
  rw [dq_xV q5] at q7
  refine dq_csp hD 11 3 0 [] (some (21 + List.length h)) [] [va_rf (some (21 + List.length h)), va_rf o0] 12 [va_rf (some (21 + List.length h)), va_rf o0] (by decide +kernel) ap_3 ⟨Nat.le_of_ble_eq_true rfl, rfl, rfl⟩ (dq_ok8 [1] [1, 1] (dc_r dc_n) (dc_r (dc_r dc_n)) (by decide +kernel)) (by decide +kernel) rfl q7 rfl ?_
  obtain ⟨h8, q9, hh⟩ := db hh
  refine dq_put 12 0 [3] 15 (by decide +kernel) rfl q9 ?_
  refine dq_aln 0 16 (by decide +kernel) rfl G0 ?_
  refine dq_S (.sipush 401) 3 [] 19 _ [.int 401, va_rf o0] (by decide +kernel) rfl ?_
  obtain ⟨h10, q11, hh⟩ := db hh
  refine dq_nI .int 0 21 ⟨Or.inl rfl, rfl⟩ (by decide +kernel) rfl q11 ?_
  obtain ⟨h12, q13, hh⟩ := db hh
  refine dq_put 18 1 [3] 24 (by decide +kernel) rfl q13 ?_
  refine dq_aln 0 25 (by decide +kernel) rfl G0 ?_
  refine dq_S (.sipush 401) 3 [] 28 _ [.int 401, va_rf o0] (by decide +kernel) rfl ?_
  obtain ⟨h14, q15, hh⟩ := db hh
  refine dq_nI .int 0 30 ⟨Or.inl rfl, rfl⟩ (by decide +kernel) rfl q15 ?_
  obtain ⟨h16, q17, hh⟩ := db hh
  refine dq_put 22 2 [3] 33 (by decide +kernel) rfl q17 ?_
  refine dq_aln 0 34 (by decide +kernel) rfl G0 ?_
  refine dq_S (.sipush 401) 3 [] 37 _ [.int 401, va_rf o0] (by decide +kernel) rfl ?_
  obtain ⟨h18, q19, hh⟩ := db hh
  refine dq_nI .int 0 39 ⟨Or.inl rfl, rfl⟩ (by decide +kernel) rfl q19 ?_
  obtain ⟨h20, q21, hh⟩ := db hh
  refine dq_put 25 3 [3] 42 (by decide +kernel) rfl q21 ?_
  refine dq_aln 0 43 (by decide +kernel) rfl G0 ?_
  refine dq_S (.iconst 0) 1 [] 44 _ [.int 0, va_rf o0] (by decide +kernel) rfl ?_
  obtain ⟨h22, q23, hh⟩ := db hh
  refine dq_put 28 4 [3] 47 (by decide +kernel) rfl q23 ?_
  refine dq_aln 0 48 (by decide +kernel) rfl G0 ?_
  refine dq_S (.iconst 0) 1 [] 49 _ [.int 0, va_rf o0] (by decide +kernel) rfl ?_
  obtain ⟨h24, q25, hh⟩ := db hh
  refine dq_put 32 5 [3] 52 (by decide +kernel) rfl q25 ?_
  refine dq_aln 0 53 (by decide +kernel) rfl G0 ?_
  refine dq_S (.iconst 0) 1 [] 54 _ [.int 0, va_rf o0] (by decide +kernel) rfl ?_
  obtain ⟨h26, q27, hh⟩ := db hh
  refine dq_put 35 6 [3] 57 (by decide +kernel) rfl q27 ?_
  cases hh
  exact dq_ret0 (by decide +kernel) rfl
def f8 (L : Nat) (xs : Nat → Int32) (zf : Value) (D : dD) (w : Nat) (As : List Value) (h : rm_H) : Option dR := match As with
  | [v0] => (rm_rf v0).bind fun o0 => b8_0 L xs zf D w o0 h
  | _ => none
theorem d8 {L : Nat} {xs : Nat → Int32} {zf : Value} {D : dD} {w k : Nat} (hD : dO L xs zf D k) (hz : zf.category = 1) (As : List Value) (h : rm_H) (r : dR) (hh : f8 L xs zf D w As h = some r) : dq L xs zf ah_M8 0 (lv_args 0 As) [] h (k + 1) r := by
  unfold f8 at hh
  split at hh
  · obtain ⟨o0, e0, hb0⟩ := db hh
    have e0 := rm_rf_v _ _ e0
    subst e0
    refine c8_0 hD hz _ _ _ _ ?_ hb0
    all_goals (simp only [la_r, la_i, la_j]; rfl)
  · cases hh
def b9_0 (L : Nat) (xs : Nat → Int32) (zf : Value) (D : dD) (w : Nat) (o0 : Option Nat) (i1 : Int32) (i2 : Int32) (i3 : Int32) (i4 : Int32) (i5 : Int32) (h : rm_H) : Option dR :=
  (dgR L xs h 0 [0] o0).bind fun p1 =>
  ((dcV L xs D 10 [1] p1 [] h).bind dxI).bind fun x3 =>
  if mx_f2 .le (x3.1 + 20) 2000 = true then
    ((dcV L xs D 12 [0] o0 [.int i1] x3.2).bind dxV).bind fun h8 =>
    ((dcV L xs D 12 [0] o0 [.int i2] h8).bind dxV).bind fun h12 =>
    ((dcV L xs D 12 [0] o0 [.int i3] h12).bind dxV).bind fun h16 =>
    ((dcV L xs D 12 [0] o0 [.int i4] h16).bind dxV).bind fun h20 =>
    ((dcV L xs D 12 [0] o0 [.int i5] h20).bind dxV).bind fun h24 =>
    (dgR L xs h24 0 [0] o0).bind fun p28 =>
    ((dcV L xs D 10 [1] p28 [] h24).bind dxI).bind fun x30 =>
    drI (some .int) x30.1 x30.2
  else
    drI (some .int) (-1) x3.2
theorem c9_0 {L : Nat} {xs : Nat → Int32} {zf : Value} {D : dD} {w k : Nat} (hD : dO L xs zf D k) (hz : zf.category = 1) : ∀ (o0 : Option Nat) (i1 : Int32) (i2 : Int32) (i3 : Int32) (i4 : Int32) (i5 : Int32) (lv : rm_L) (h : rm_H) (r : dR), rm_get lv 0 = some (va_rf o0) → rm_get lv 1 = some (.int i1) → rm_get lv 2 = some (.int i2) → rm_get lv 3 = some (.int i3) → rm_get lv 4 = some (.int i4) → rm_get lv 5 = some (.int i5) → b9_0 L xs zf D w  o0 i1 i2 i3 i4 i5 h = some r → dq L xs zf ah_M9 0 lv [] h (k + 1) r := by
  intro o0 i1 i2 i3 i4 i5 lv h r G0 G1 G2 G3 G4 G5 hh
  unfold b9_0 at hh
  refine dq_aln 0 1 (by decide +kernel) rfl G0 ?_
  obtain ⟨p1, q2, hh⟩ := db hh
  refine dq_gR 10 0 [0] 4 (by decide +kernel) rfl q2 ?_
  obtain ⟨x3, q4, hh⟩ := db hh
  obtain ⟨a5, q6, q4⟩ := db q4
  rw [dq_xI q4] at q6
  refine dq_cvi hD 41 10 5 0 [1] p1 [] [] 7 [.int x3.1] (by decide +kernel) ap_10 ⟨⟨Nat.le_of_ble_eq_true rfl, by decide⟩, rfl, rfl⟩ (dq_ok8 [1] [] (dc_r dc_n) dc_n (by decide +kernel)) (by decide +kernel) rfl q6 rfl ?_
  refine dq_S (.bipush 20) 2 [] 9 _ [.int 20, .int x3.1] (by decide +kernel) rfl ?_
  refine dq_S (.iadd) 1 [] 10 _ [.int (x3.1 + 20)] (by decide +kernel) rfl ?_
  refine dq_S (.sipush 2000) 3 [] 13 _ [.int 2000, .int (x3.1 + 20)] (by decide +kernel) rfl ?_
  rcases di hh with ⟨q7, hh⟩ | ⟨q7, hh⟩
  · refine dq_2 .le 5 true 18 q7 (by decide +kernel) ?_
    refine dq_aln 0 19 (by decide +kernel) rfl G0 ?_
    refine dq_iln 1 20 (by decide +kernel) rfl G1 ?_
    obtain ⟨h8, q9, hh⟩ := db hh
    obtain ⟨a10, q11, q9⟩ := db q9
    rw [dq_xV q9] at q11
    refine dq_cvi hD 45 12 5 1 [0] o0 [.int i1] [] 23 [] (by decide +kernel) ap_12 ⟨⟨Nat.le_of_ble_eq_true rfl, by decide⟩, rfl, rfl⟩ (dq_ok8 [1, 1] [] (dc_r (dc_i dc_n)) dc_n (by decide +kernel)) (by decide +kernel) rfl q11 rfl ?_
    refine dq_aln 0 24 (by decide +kernel) rfl G0 ?_
    refine dq_iln 2 25 (by decide +kernel) rfl G2 ?_
    obtain ⟨h12, q13, hh⟩ := db hh
    obtain ⟨a14, q15, q13⟩ := db q13
    rw [dq_xV q13] at q15
    refine dq_cvi hD 45 12 5 1 [0] o0 [.int i2] [] 28 [] (by decide +kernel) ap_12 ⟨⟨Nat.le_of_ble_eq_true rfl, by decide⟩, rfl, rfl⟩ (dq_ok8 [1, 1] [] (dc_r (dc_i dc_n)) dc_n (by decide +kernel)) (by decide +kernel) rfl q15 rfl ?_
    refine dq_aln 0 29 (by decide +kernel) rfl G0 ?_
    refine dq_iln 3 30 (by decide +kernel) rfl G3 ?_
    obtain ⟨h16, q17, hh⟩ := db hh
    obtain ⟨a18, q19, q17⟩ := db q17
    rw [dq_xV q17] at q19
    refine dq_cvi hD 45 12 5 1 [0] o0 [.int i3] [] 33 [] (by decide +kernel) ap_12 ⟨⟨Nat.le_of_ble_eq_true rfl, by decide⟩, rfl, rfl⟩ (dq_ok8 [1, 1] [] (dc_r (dc_i dc_n)) dc_n (by decide +kernel)) (by decide +kernel) rfl q19 rfl ?_
    refine dq_aln 0 34 (by decide +kernel) rfl G0 ?_
    refine dq_il 4 36 (by decide +kernel) rfl G4 ?_
    obtain ⟨h20, q21, hh⟩ := db hh
    obtain ⟨a22, q23, q21⟩ := db q21
    rw [dq_xV q21] at q23
    refine dq_cvi hD 45 12 5 1 [0] o0 [.int i4] [] 39 [] (by decide +kernel) ap_12 ⟨⟨Nat.le_of_ble_eq_true rfl, by decide⟩, rfl, rfl⟩ (dq_ok8 [1, 1] [] (dc_r (dc_i dc_n)) dc_n (by decide +kernel)) (by decide +kernel) rfl q23 rfl ?_
    refine dq_aln 0 40 (by decide +kernel) rfl G0 ?_
    refine dq_il 5 42 (by decide +kernel) rfl G5 ?_
    obtain ⟨h24, q25, hh⟩ := db hh
    obtain ⟨a26, q27, q25⟩ := db q25
    rw [dq_xV q25] at q27
    refine dq_cvi hD 45 12 5 1 [0] o0 [.int i5] [] 45 [] (by decide +kernel) ap_12 ⟨⟨Nat.le_of_ble_eq_true rfl, by decide⟩, rfl, rfl⟩ (dq_ok8 [1, 1] [] (dc_r (dc_i dc_n)) dc_n (by decide +kernel)) (by decide +kernel) rfl q27 rfl ?_
    refine dq_aln 0 46 (by decide +kernel) rfl G0 ?_
    obtain ⟨p28, q29, hh⟩ := db hh
    refine dq_gR 10 0 [0] 49 (by decide +kernel) rfl q29 ?_
    obtain ⟨x30, q31, hh⟩ := db hh
    obtain ⟨a32, q33, q31⟩ := db q31
    rw [dq_xI q31] at q33
    refine dq_cvi hD 41 10 5 0 [1] p28 [] [] 52 [.int x30.1] (by decide +kernel) ap_10 ⟨⟨Nat.le_of_ble_eq_true rfl, by decide⟩, rfl, rfl⟩ (dq_ok8 [1] [] (dc_r dc_n) dc_n (by decide +kernel)) (by decide +kernel) rfl q33 rfl ?_
    exact dq_retI (some .int) (by decide +kernel) rfl hh
  · refine dq_2 .le 5 false 16 q7 (by decide +kernel) ?_
    refine dq_S (.iconst (-1)) 1 [] 17 _ [.int (-1)] (by decide +kernel) rfl ?_
    exact dq_retI (some .int) (by decide +kernel) rfl hh
def f9 (L : Nat) (xs : Nat → Int32) (zf : Value) (D : dD) (w : Nat) (As : List Value) (h : rm_H) : Option dR := match As with
  | [v0, .int i1, .int i2, .int i3, .int i4, .int i5] => (rm_rf v0).bind fun o0 => b9_0 L xs zf D w o0 i1 i2 i3 i4 i5 h
  | _ => none
theorem d9 {L : Nat} {xs : Nat → Int32} {zf : Value} {D : dD} {w k : Nat} (hD : dO L xs zf D k) (hz : zf.category = 1) (As : List Value) (h : rm_H) (r : dR) (hh : f9 L xs zf D w As h = some r) : dq L xs zf ah_M9 0 (lv_args 0 As) [] h (k + 1) r := by
  unfold f9 at hh
  split at hh
  · obtain ⟨o0, e0, hb0⟩ := db hh
    have e0 := rm_rf_v _ _ e0
    subst e0
    refine c9_0 hD hz _ _ _ _ _ _ _ _ _ ?_ ?_ ?_ ?_ ?_ ?_ hb0
    all_goals (simp only [la_r, la_i, la_j]; rfl)
  · cases hh
def b10_0 (L : Nat) (xs : Nat → Int32) (zf : Value) (D : dD) (w : Nat) (o0 : Option Nat) (h : rm_H) : Option dR :=
  ((dcV L xs D 11 [1] o0 [] h).bind dxI).bind fun x1 =>
  drI (some .int) x1.1 x1.2
theorem c10_0 {L : Nat} {xs : Nat → Int32} {zf : Value} {D : dD} {w k : Nat} (hD : dO L xs zf D k) (hz : zf.category = 1) : ∀ (o0 : Option Nat) (lv : rm_L) (h : rm_H) (r : dR), rm_get lv 0 = some (va_rf o0) → b10_0 L xs zf D w  o0 h = some r → dq L xs zf ah_M10 0 lv [] h (k + 1) r := by
  intro o0 lv h r G0 hh
  unfold b10_0 at hh
  refine dq_aln 0 1 (by decide +kernel) rfl G0 ?_
  obtain ⟨x1, q2, hh⟩ := db hh
  obtain ⟨a3, q4, q2⟩ := db q2
  rw [dq_xI q2] at q4
  refine dq_csu hD 343 11 0 [1] o0 [] [] 4 [.int x1.1] (by decide +kernel) ap_11 ⟨Nat.le_of_ble_eq_true rfl, rfl, rfl⟩ (dq_ok8 [1] [] (dc_r dc_n) dc_n (by decide +kernel)) (by decide +kernel) rfl q4 rfl ?_
  exact dq_retI (some .int) (by decide +kernel) rfl hh
def f10 (L : Nat) (xs : Nat → Int32) (zf : Value) (D : dD) (w : Nat) (As : List Value) (h : rm_H) : Option dR := match As with
  | [v0] => (rm_rf v0).bind fun o0 => b10_0 L xs zf D w o0 h
  | _ => none
theorem d10 {L : Nat} {xs : Nat → Int32} {zf : Value} {D : dD} {w k : Nat} (hD : dO L xs zf D k) (hz : zf.category = 1) (As : List Value) (h : rm_H) (r : dR) (hh : f10 L xs zf D w As h = some r) : dq L xs zf ah_M10 0 (lv_args 0 As) [] h (k + 1) r := by
  unfold f10 at hh
  split at hh
  · obtain ⟨o0, e0, hb0⟩ := db hh
    have e0 := rm_rf_v _ _ e0
    subst e0
    refine c10_0 hD hz _ _ _ _ ?_ hb0
    all_goals (simp only [la_r, la_i, la_j]; rfl)
  · cases hh
def b11_0 (L : Nat) (xs : Nat → Int32) (zf : Value) (D : dD) (w : Nat) (o0 : Option Nat) (h : rm_H) : Option dR :=
  (dgI L xs h 3 [1] o0).bind fun x1 =>
  drI (some .int) x1 h
theorem c11_0 {L : Nat} {xs : Nat → Int32} {zf : Value} {D : dD} {w k : Nat} (hD : dO L xs zf D k) (hz : zf.category = 1) : ∀ (o0 : Option Nat) (lv : rm_L) (h : rm_H) (r : dR), rm_get lv 0 = some (va_rf o0) → b11_0 L xs zf D w  o0 h = some r → dq L xs zf ah_M11 0 lv [] h (k + 1) r := by
  intro o0 lv h r G0 hh
  unfold b11_0 at hh
  refine dq_aln 0 1 (by decide +kernel) rfl G0 ?_
  obtain ⟨x1, q2, hh⟩ := db hh
  refine dq_gI 79 3 [1] 4 (by decide +kernel) rfl q2 ?_
  exact dq_retI (some .int) (by decide +kernel) rfl hh
def f11 (L : Nat) (xs : Nat → Int32) (zf : Value) (D : dD) (w : Nat) (As : List Value) (h : rm_H) : Option dR := match As with
  | [v0] => (rm_rf v0).bind fun o0 => b11_0 L xs zf D w o0 h
  | _ => none
theorem d11 {L : Nat} {xs : Nat → Int32} {zf : Value} {D : dD} {w k : Nat} (hD : dO L xs zf D k) (hz : zf.category = 1) (As : List Value) (h : rm_H) (r : dR) (hh : f11 L xs zf D w As h = some r) : dq L xs zf ah_M11 0 (lv_args 0 As) [] h (k + 1) r := by
  unfold f11 at hh
  split at hh
  · obtain ⟨o0, e0, hb0⟩ := db hh
    have e0 := rm_rf_v _ _ e0
    subst e0
    refine c11_0 hD hz _ _ _ _ ?_ hb0
    all_goals (simp only [la_r, la_i, la_j]; rfl)
  · cases hh
def b12_3 (L : Nat) (xs : Nat → Int32) (zf : Value) (D : dD) (w : Nat) : Nat → Option Nat → Int32 → Int32 → rm_H → Option dR
  | 0, _, _, _, _ => none
  | n + 1, o0, i1, i2, h =>
    if mx_f1 .lt i2 = true then
      some (none, h)
    else
      (dgR L xs h 0 [0] o0).bind fun p2 =>
      ((dcV L xs D 13 [1] p2 [.int (UInt32.toInt32 (Int32.toUInt32 ((i1 >>> (i2 &&& 31)) &&& 255) % 65536))] h).bind dxR).bind fun p4 =>
      b12_3 L xs zf D w n o0 i1 (i2 + (-8)) p4.2
theorem c12_3 {L : Nat} {xs : Nat → Int32} {zf : Value} {D : dD} {w k : Nat} (hD : dO L xs zf D k) (hz : zf.category = 1) : ∀ (n : Nat) (o0 : Option Nat) (i1 : Int32) (i2 : Int32) (lv : rm_L) (h : rm_H) (r : dR), rm_get lv 0 = some (va_rf o0) → rm_get lv 1 = some (.int i1) → rm_get lv 2 = some (.int i2) → b12_3 L xs zf D w n  o0 i1 i2 h = some r → dq L xs zf ah_M12 3 lv [] h (k + 1) r := by
  intro n
  induction n with
  | zero =>
    intro o0 i1 i2 lv h r G0 G1 G2 hh
    cases hh
  | succ n ih =>
    intro o0 i1 i2 lv h r G0 G1 G2 hh
    rw [b12_3] at hh
    refine dq_iln 2 4 (by decide +kernel) rfl G2 ?_
    rcases di hh with ⟨q1, hh⟩ | ⟨q1, hh⟩
    · refine dq_1 .lt 25 true 29 q1 (by decide +kernel) ?_
      cases hh
      exact dq_ret0 (by decide +kernel) rfl
    · refine dq_1 .lt 25 false 7 q1 (by decide +kernel) ?_
      refine dq_aln 0 8 (by decide +kernel) rfl G0 ?_
      obtain ⟨p2, q3, hh⟩ := db hh
      refine dq_gR 10 0 [0] 11 (by decide +kernel) rfl q3 ?_
      refine dq_iln 1 12 (by decide +kernel) rfl G1 ?_
      refine dq_iln 2 13 (by decide +kernel) rfl G2 ?_
      refine dq_S (.ishr) 1 [] 14 _ [.int (i1 >>> (i2 &&& 31)), va_rf p2] (by decide +kernel) rfl ?_
      refine dq_S (.sipush 255) 3 [] 17 _ [.int 255, .int (i1 >>> (i2 &&& 31)), va_rf p2] (by decide +kernel) rfl ?_
      refine dq_S (.iand) 1 [] 18 _ [.int ((i1 >>> (i2 &&& 31)) &&& 255), va_rf p2] (by decide +kernel) rfl ?_
      refine dq_S (.i2c) 1 [] 19 _ [.int (UInt32.toInt32 (Int32.toUInt32 ((i1 >>> (i2 &&& 31)) &&& 255) % 65536)), va_rf p2] (by decide +kernel) rfl ?_
      obtain ⟨p4, q5, hh⟩ := db hh
      obtain ⟨a6, q7, q5⟩ := db q5
      rw [dq_xR q5] at q7
      refine dq_cvi hD 218 13 5 1 [1] p2 [.int (UInt32.toInt32 (Int32.toUInt32 ((i1 >>> (i2 &&& 31)) &&& 255) % 65536))] [] 22 [va_rf p4.1] (by decide +kernel) ap_13 ⟨⟨Nat.le_of_ble_eq_true rfl, by decide⟩, rfl, rfl⟩ (dq_ok8 [1, 1] [] (dc_r (dc_i dc_n)) dc_n (by decide +kernel)) (by decide +kernel) rfl q7 rfl ?_
      refine dq_pop 23 (by decide +kernel) rfl ?_
      refine dq_incy 2 (-8) (-8) 26 (by decide +kernel) ⟨rfl, by decide +kernel, by decide +kernel⟩ G2 ?_
      have g8 := dg_ne (i := 2) (u := .int (i2 + (-8))) (by decide) (Or.inl (by decide)) G0
      have g9 := dg_ne (i := 2) (u := .int (i2 + (-8))) (by decide) (Or.inr rfl) G1
      have g10 := dg_eq (lv) 2 (.int (i2 + (-8)))
      refine dq_S (.goto (-23)) 3 [] 3 _ [] (by decide +kernel) rfl ?_
      exact ih _ _ _ _ _ _ g8 g9 g10 hh
def b12_0 (L : Nat) (xs : Nat → Int32) (zf : Value) (D : dD) (w : Nat) (o0 : Option Nat) (i1 : Int32) (h : rm_H) : Option dR :=
  b12_3 L xs zf D w w o0 i1 24 h
theorem c12_0 {L : Nat} {xs : Nat → Int32} {zf : Value} {D : dD} {w k : Nat} (hD : dO L xs zf D k) (hz : zf.category = 1) : ∀ (o0 : Option Nat) (i1 : Int32) (lv : rm_L) (h : rm_H) (r : dR), rm_get lv 0 = some (va_rf o0) → rm_get lv 1 = some (.int i1) → b12_0 L xs zf D w  o0 i1 h = some r → dq L xs zf ah_M12 0 lv [] h (k + 1) r := by
  intro o0 i1 lv h r G0 G1 hh
  unfold b12_0 at hh
  refine dq_S (.bipush 24) 2 [] 2 _ [.int 24] (by decide +kernel) rfl ?_
  refine dq_isn 2 3 (by decide +kernel) (by decide +kernel) ?_
  have g1 := dg_ne (i := 2) (u := .int 24) (by decide) (Or.inl (by decide)) G0
  have g2 := dg_ne (i := 2) (u := .int 24) (by decide) (Or.inr rfl) G1
  have g3 := dg_eq (lv) 2 (.int 24)
  exact c12_3 hD hz _ _ _ _ _ _ _ g1 g2 g3 hh
def f12 (L : Nat) (xs : Nat → Int32) (zf : Value) (D : dD) (w : Nat) (As : List Value) (h : rm_H) : Option dR := match As with
  | [v0, .int i1] => (rm_rf v0).bind fun o0 => b12_0 L xs zf D w o0 i1 h
  | _ => none
theorem d12 {L : Nat} {xs : Nat → Int32} {zf : Value} {D : dD} {w k : Nat} (hD : dO L xs zf D k) (hz : zf.category = 1) (As : List Value) (h : rm_H) (r : dR) (hh : f12 L xs zf D w As h = some r) : dq L xs zf ah_M12 0 (lv_args 0 As) [] h (k + 1) r := by
  unfold f12 at hh
  split at hh
  · obtain ⟨o0, e0, hb0⟩ := db hh
    have e0 := rm_rf_v _ _ e0
    subst e0
    refine c12_0 hD hz _ _ _ _ _ ?_ ?_ hb0
    all_goals (simp only [la_r, la_i, la_j]; rfl)
  · cases hh
def b13_0 (L : Nat) (xs : Nat → Int32) (zf : Value) (D : dD) (w : Nat) (o0 : Option Nat) (i1 : Int32) (h : rm_H) : Option dR :=
  ((dcV L xs D 14 [1] o0 [.int i1] h).bind dxR).bind fun p1 =>
  some (some (va_rf o0), p1.2)
theorem c13_0 {L : Nat} {xs : Nat → Int32} {zf : Value} {D : dD} {w k : Nat} (hD : dO L xs zf D k) (hz : zf.category = 1) : ∀ (o0 : Option Nat) (i1 : Int32) (lv : rm_L) (h : rm_H) (r : dR), rm_get lv 0 = some (va_rf o0) → rm_get lv 1 = some (.int i1) → b13_0 L xs zf D w  o0 i1 h = some r → dq L xs zf ah_M13 0 lv [] h (k + 1) r := by
  intro o0 i1 lv h r G0 G1 hh
  unfold b13_0 at hh
  refine dq_aln 0 1 (by decide +kernel) rfl G0 ?_
  refine dq_iln 1 2 (by decide +kernel) rfl G1 ?_
  obtain ⟨p1, q2, hh⟩ := db hh
  obtain ⟨a3, q4, q2⟩ := db q2
  rw [dq_xR q2] at q4
  refine dq_csu hD 50 14 1 [1] o0 [.int i1] [] 5 [va_rf p1.1] (by decide +kernel) ap_14 ⟨Nat.le_of_ble_eq_true rfl, rfl, rfl⟩ (dq_ok8 [1, 1] [] (dc_r (dc_i dc_n)) dc_n (by decide +kernel)) (by decide +kernel) rfl q4 rfl ?_
  refine dq_pop 6 (by decide +kernel) rfl ?_
  refine dq_aln 0 7 (by decide +kernel) rfl G0 ?_
  cases hh
  exact dq_retR (by decide +kernel) rfl
def f13 (L : Nat) (xs : Nat → Int32) (zf : Value) (D : dD) (w : Nat) (As : List Value) (h : rm_H) : Option dR := match As with
  | [v0, .int i1] => (rm_rf v0).bind fun o0 => b13_0 L xs zf D w o0 i1 h
  | _ => none
theorem d13 {L : Nat} {xs : Nat → Int32} {zf : Value} {D : dD} {w k : Nat} (hD : dO L xs zf D k) (hz : zf.category = 1) (As : List Value) (h : rm_H) (r : dR) (hh : f13 L xs zf D w As h = some r) : dq L xs zf ah_M13 0 (lv_args 0 As) [] h (k + 1) r := by
  unfold f13 at hh
  split at hh
  · obtain ⟨o0, e0, hb0⟩ := db hh
    have e0 := rm_rf_v _ _ e0
    subst e0
    refine c13_0 hD hz _ _ _ _ _ ?_ ?_ hb0
    all_goals (simp only [la_r, la_i, la_j]; rfl)
  · cases hh
def b14_75 (L : Nat) (xs : Nat → Int32) (zf : Value) (D : dD) (w : Nat) (o0 : Option Nat) (h : rm_H) : Option dR :=
  some (some (va_rf o0), h)
theorem c14_75 {L : Nat} {xs : Nat → Int32} {zf : Value} {D : dD} {w k : Nat} (hD : dO L xs zf D k) (hz : zf.category = 1) : ∀ (o0 : Option Nat) (lv : rm_L) (h : rm_H) (r : dR), rm_get lv 0 = some (va_rf o0) → b14_75 L xs zf D w  o0 h = some r → dq L xs zf ah_M14 75 lv [] h (k + 1) r := by
  intro o0 lv h r G0 hh
  unfold b14_75 at hh
  refine dq_aln 0 76 (by decide +kernel) rfl G0 ?_
  cases hh
  exact dq_retR (by decide +kernel) rfl
def b14_56 (L : Nat) (xs : Nat → Int32) (zf : Value) (D : dD) (w : Nat) (o0 : Option Nat) (i1 : Int32) (h : rm_H) : Option dR :=
  (dgR L xs h 0 [1] o0).bind fun p1 =>
  (dgI L xs h 3 [1] o0).bind fun x3 =>
  (dpF h 3 [1] o0 (.int (x3 + 1))).bind fun h5 =>
  ((D 32 [va_rf p1, .int x3, .int i1] h5).bind dxV).bind fun h7 =>
  b14_75 L xs zf D w o0 h7
theorem c14_56 {L : Nat} {xs : Nat → Int32} {zf : Value} {D : dD} {w k : Nat} (hD : dO L xs zf D k) (hz : zf.category = 1) : ∀ (o0 : Option Nat) (i1 : Int32) (lv : rm_L) (h : rm_H) (r : dR), rm_get lv 0 = some (va_rf o0) → rm_get lv 1 = some (.int i1) → b14_56 L xs zf D w  o0 i1 h = some r → dq L xs zf ah_M14 56 lv [] h (k + 1) r := by
  intro o0 i1 lv h r G0 G1 hh
  unfold b14_56 at hh
  refine dq_aln 0 57 (by decide +kernel) rfl G0 ?_
  obtain ⟨p1, q2, hh⟩ := db hh
  refine dq_gR 15 0 [1] 60 (by decide +kernel) rfl q2 ?_
  refine dq_aln 0 61 (by decide +kernel) rfl G0 ?_
  refine dq_dup 62 (by decide +kernel) rfl ?_
  obtain ⟨x3, q4, hh⟩ := db hh
  refine dq_gI 79 3 [1] 65 (by decide +kernel) rfl q4 ?_
  refine dq_dx1 66 (by decide +kernel) rfl ?_
  refine dq_S (.iconst 1) 1 [] 67 _ [.int 1, .int x3, va_rf o0, .int x3, va_rf p1] (by decide +kernel) rfl ?_
  refine dq_S (.iadd) 1 [] 68 _ [.int (x3 + 1), va_rf o0, .int x3, va_rf p1] (by decide +kernel) rfl ?_
  obtain ⟨h5, q6, hh⟩ := db hh
  refine dq_put 79 3 [1] 71 (by decide +kernel) rfl q6 ?_
  refine dq_iln 1 72 (by decide +kernel) rfl G1 ?_
  obtain ⟨h7, q8, hh⟩ := db hh
  obtain ⟨a9, q10, q8⟩ := db q8
  rw [dq_xV q8] at q10
  refine dq_cst hD 197 32 0 3 [va_rf p1, .int x3, .int i1] [] 75 [] (by decide +kernel) ap_32 ⟨⟨Nat.le_of_ble_eq_true rfl, by decide⟩, rfl, rfl⟩ (dq_ok8 [1, 1, 1] [] (dc_r (dc_i (dc_i dc_n))) dc_n (by decide +kernel)) (by decide +kernel) rfl q10 rfl ?_
  exact c14_75 hD hz _ _ _ _ G0 hh
def b14_45 (L : Nat) (xs : Nat → Int32) (zf : Value) (D : dD) (w : Nat) (o0 : Option Nat) (i1 : Int32) (h : rm_H) : Option dR :=
  ((dcV L xs D 22 [1] o0 [] h).bind dxI).bind fun x1 =>
  if mx_f1 .eq x1.1 = true then
    b14_56 L xs zf D w o0 i1 x1.2
  else
    ((dcV L xs D 24 [1] o0 [] x1.2).bind dxV).bind fun h6 =>
    b14_56 L xs zf D w o0 i1 h6
theorem c14_45 {L : Nat} {xs : Nat → Int32} {zf : Value} {D : dD} {w k : Nat} (hD : dO L xs zf D k) (hz : zf.category = 1) : ∀ (o0 : Option Nat) (i1 : Int32) (lv : rm_L) (h : rm_H) (r : dR), rm_get lv 0 = some (va_rf o0) → rm_get lv 1 = some (.int i1) → b14_45 L xs zf D w  o0 i1 h = some r → dq L xs zf ah_M14 45 lv [] h (k + 1) r := by
  intro o0 i1 lv h r G0 G1 hh
  unfold b14_45 at hh
  refine dq_aln 0 46 (by decide +kernel) rfl G0 ?_
  obtain ⟨x1, q2, hh⟩ := db hh
  obtain ⟨a3, q4, q2⟩ := db q2
  rw [dq_xI q2] at q4
  refine dq_cvi hD 83 22 6 0 [1] o0 [] [] 49 [.int x1.1] (by decide +kernel) ap_22 ⟨⟨Nat.le_of_ble_eq_true rfl, by decide⟩, rfl, rfl⟩ (dq_ok8 [1] [] (dc_r dc_n) dc_n (by decide +kernel)) (by decide +kernel) rfl q4 rfl ?_
  rcases di hh with ⟨q5, hh⟩ | ⟨q5, hh⟩
  · refine dq_1 .eq 7 true 56 q5 (by decide +kernel) ?_
    exact c14_56 hD hz _ _ _ _ _ G0 G1 hh
  · refine dq_1 .eq 7 false 52 q5 (by decide +kernel) ?_
    refine dq_aln 0 53 (by decide +kernel) rfl G0 ?_
    obtain ⟨h6, q7, hh⟩ := db hh
    obtain ⟨a8, q9, q7⟩ := db q7
    rw [dq_xV q7] at q9
    refine dq_cvi hD 195 24 9 0 [1] o0 [] [] 56 [] (by decide +kernel) ap_24 ⟨⟨Nat.le_of_ble_eq_true rfl, by decide⟩, rfl, rfl⟩ (dq_ok8 [1] [] (dc_r dc_n) dc_n (by decide +kernel)) (by decide +kernel) rfl q9 rfl ?_
    exact c14_56 hD hz _ _ _ _ _ G0 G1 hh
def b14_0 (L : Nat) (xs : Nat → Int32) (zf : Value) (D : dD) (w : Nat) (o0 : Option Nat) (i1 : Int32) (h : rm_H) : Option dR :=
  (dgI L xs h 3 [1] o0).bind fun x1 =>
  ((dcV L xs D 15 [1] o0 [.int (x1 + 1)] h).bind dxV).bind fun h3 =>
  ((dcV L xs D 22 [1] o0 [] h3).bind dxI).bind fun x7 =>
  if mx_f1 .eq x7.1 = true then
    b14_45 L xs zf D w o0 i1 x7.2
  else
    ((D 23 [.int i1] x7.2).bind dxI).bind fun x12 =>
    if mx_f1 .eq x12.1 = true then
      b14_45 L xs zf D w o0 i1 x12.2
    else
      (dgR L xs x12.2 0 [1] o0).bind fun p17 =>
      (dgI L xs x12.2 3 [1] o0).bind fun x19 =>
      (dpF x12.2 3 [1] o0 (.int (x19 + 1))).bind fun h21 =>
      (dsB h21 p17 x19 (Int8.toInt32 (Int32.toInt8 i1))).bind fun h23 =>
      b14_75 L xs zf D w o0 h23
theorem c14_0 {L : Nat} {xs : Nat → Int32} {zf : Value} {D : dD} {w k : Nat} (hD : dO L xs zf D k) (hz : zf.category = 1) : ∀ (o0 : Option Nat) (i1 : Int32) (lv : rm_L) (h : rm_H) (r : dR), rm_get lv 0 = some (va_rf o0) → rm_get lv 1 = some (.int i1) → b14_0 L xs zf D w  o0 i1 h = some r → dq L xs zf ah_M14 0 lv [] h (k + 1) r := by
  intro o0 i1 lv h r G0 G1 hh
  unfold b14_0 at hh
  refine dq_aln 0 1 (by decide +kernel) rfl G0 ?_
  refine dq_aln 0 2 (by decide +kernel) rfl G0 ?_
  obtain ⟨x1, q2, hh⟩ := db hh
  refine dq_gI 79 3 [1] 5 (by decide +kernel) rfl q2 ?_
  refine dq_S (.iconst 1) 1 [] 6 _ [.int 1, .int x1, va_rf o0] (by decide +kernel) rfl ?_
  refine dq_S (.iadd) 1 [] 7 _ [.int (x1 + 1), va_rf o0] (by decide +kernel) rfl ?_
  obtain ⟨h3, q4, hh⟩ := db hh
  obtain ⟨a5, q6, q4⟩ := db q4
  rw [dq_xV q4] at q6
  refine dq_cvi hD 100 15 9 1 [1] o0 [.int (x1 + 1)] [] 10 [] (by decide +kernel) ap_15 ⟨⟨Nat.le_of_ble_eq_true rfl, by decide⟩, rfl, rfl⟩ (dq_ok8 [1, 1] [] (dc_r (dc_i dc_n)) dc_n (by decide +kernel)) (by decide +kernel) rfl q6 rfl ?_
  refine dq_aln 0 11 (by decide +kernel) rfl G0 ?_
  obtain ⟨x7, q8, hh⟩ := db hh
  obtain ⟨a9, q10, q8⟩ := db q8
  rw [dq_xI q8] at q10
  refine dq_cvi hD 83 22 6 0 [1] o0 [] [] 14 [.int x7.1] (by decide +kernel) ap_22 ⟨⟨Nat.le_of_ble_eq_true rfl, by decide⟩, rfl, rfl⟩ (dq_ok8 [1] [] (dc_r dc_n) dc_n (by decide +kernel)) (by decide +kernel) rfl q10 rfl ?_
  rcases di hh with ⟨q11, hh⟩ | ⟨q11, hh⟩
  · refine dq_1 .eq 31 true 45 q11 (by decide +kernel) ?_
    exact c14_45 hD hz _ _ _ _ _ G0 G1 hh
  · refine dq_1 .eq 31 false 17 q11 (by decide +kernel) ?_
    refine dq_iln 1 18 (by decide +kernel) rfl G1 ?_
    obtain ⟨x12, q13, hh⟩ := db hh
    obtain ⟨a14, q15, q13⟩ := db q13
    rw [dq_xI q13] at q15
    refine dq_cst hD 191 23 0 1 [.int i1] [] 21 [.int x12.1] (by decide +kernel) ap_23 ⟨⟨Nat.le_of_ble_eq_true rfl, by decide⟩, rfl, rfl⟩ (dq_ok8 [1] [] (dc_i dc_n) dc_n (by decide +kernel)) (by decide +kernel) rfl q15 rfl ?_
    rcases di hh with ⟨q16, hh⟩ | ⟨q16, hh⟩
    · refine dq_1 .eq 24 true 45 q16 (by decide +kernel) ?_
      exact c14_45 hD hz _ _ _ _ _ G0 G1 hh
    · refine dq_1 .eq 24 false 24 q16 (by decide +kernel) ?_
      refine dq_aln 0 25 (by decide +kernel) rfl G0 ?_
      obtain ⟨p17, q18, hh⟩ := db hh
      refine dq_gR 15 0 [1] 28 (by decide +kernel) rfl q18 ?_
      refine dq_aln 0 29 (by decide +kernel) rfl G0 ?_
      refine dq_dup 30 (by decide +kernel) rfl ?_
      obtain ⟨x19, q20, hh⟩ := db hh
      refine dq_gI 79 3 [1] 33 (by decide +kernel) rfl q20 ?_
      refine dq_dx1 34 (by decide +kernel) rfl ?_
      refine dq_S (.iconst 1) 1 [] 35 _ [.int 1, .int x19, va_rf o0, .int x19, va_rf p17] (by decide +kernel) rfl ?_
      refine dq_S (.iadd) 1 [] 36 _ [.int (x19 + 1), va_rf o0, .int x19, va_rf p17] (by decide +kernel) rfl ?_
      obtain ⟨h21, q22, hh⟩ := db hh
      refine dq_put 79 3 [1] 39 (by decide +kernel) rfl q22 ?_
      refine dq_iln 1 40 (by decide +kernel) rfl G1 ?_
      refine dq_S (.i2b) 1 [] 41 _ [.int (Int8.toInt32 (Int32.toInt8 i1)), .int x19, va_rf p17] (by decide +kernel) rfl ?_
      obtain ⟨h23, q24, hh⟩ := db hh
      refine dq_sB1 42 (by decide +kernel) rfl q24 ?_
      refine dq_S (.goto 33) 3 [] 75 _ [] (by decide +kernel) rfl ?_
      exact c14_75 hD hz _ _ _ _ G0 hh
def f14 (L : Nat) (xs : Nat → Int32) (zf : Value) (D : dD) (w : Nat) (As : List Value) (h : rm_H) : Option dR := match As with
  | [v0, .int i1] => (rm_rf v0).bind fun o0 => b14_0 L xs zf D w o0 i1 h
  | _ => none
theorem d14 {L : Nat} {xs : Nat → Int32} {zf : Value} {D : dD} {w k : Nat} (hD : dO L xs zf D k) (hz : zf.category = 1) (As : List Value) (h : rm_H) (r : dR) (hh : f14 L xs zf D w As h = some r) : dq L xs zf ah_M14 0 (lv_args 0 As) [] h (k + 1) r := by
  unfold f14 at hh
  split at hh
  · obtain ⟨o0, e0, hb0⟩ := db hh
    have e0 := rm_rf_v _ _ e0
    subst e0
    refine c14_0 hD hz _ _ _ _ _ ?_ ?_ hb0
    all_goals (simp only [la_r, la_i, la_j]; rfl)
  · cases hh
def b15_38 (L : Nat) (xs : Nat → Int32) (zf : Value) (D : dD) (w : Nat) (h : rm_H) : Option dR :=
  some (none, h)
theorem c15_38 {L : Nat} {xs : Nat → Int32} {zf : Value} {D : dD} {w k : Nat} (hD : dO L xs zf D k) (hz : zf.category = 1) : ∀ (lv : rm_L) (h : rm_H) (r : dR), b15_38 L xs zf D w  h = some r → dq L xs zf ah_M15 38 lv [] h (k + 1) r := by
  intro lv h r hh
  unfold b15_38 at hh
  cases hh
  exact dq_ret0 (by decide +kernel) rfl
def b15_0 (L : Nat) (xs : Nat → Int32) (zf : Value) (D : dD) (w : Nat) (o0 : Option Nat) (i1 : Int32) (h : rm_H) : Option dR :=
  (dgR L xs h 0 [1] o0).bind fun p1 =>
  (daN L xs h p1).bind fun x3 =>
  (dgI L xs h 1 [1] o0).bind fun x5 =>
  if mx_f1 .le (i1 - (x3 >>> (x5 &&& 31))) = true then
    b15_38 L xs zf D w h
  else
    (dgR L xs h 0 [1] o0).bind fun p11 =>
    ((dcV L xs D 16 [1] o0 [.int i1] h).bind dxI).bind fun x13 =>
    (dgI L xs x13.2 1 [1] o0).bind fun x17 =>
    ((D 20 [va_rf p11, .int (x13.1 <<< (x17 &&& 31))] x13.2).bind dxR).bind fun p19 =>
    (dpF p19.2 0 [1] o0 (va_rf p19.1)).bind fun h23 =>
    b15_38 L xs zf D w h23
theorem c15_0 {L : Nat} {xs : Nat → Int32} {zf : Value} {D : dD} {w k : Nat} (hD : dO L xs zf D k) (hz : zf.category = 1) : ∀ (o0 : Option Nat) (i1 : Int32) (lv : rm_L) (h : rm_H) (r : dR), rm_get lv 0 = some (va_rf o0) → rm_get lv 1 = some (.int i1) → b15_0 L xs zf D w  o0 i1 h = some r → dq L xs zf ah_M15 0 lv [] h (k + 1) r := by
  intro o0 i1 lv h r G0 G1 hh
  unfold b15_0 at hh
  refine dq_aln 0 1 (by decide +kernel) rfl G0 ?_
  obtain ⟨p1, q2, hh⟩ := db hh
  refine dq_gR 15 0 [1] 4 (by decide +kernel) rfl q2 ?_
  obtain ⟨x3, q4, hh⟩ := db hh
  refine dq_aN 5 (by decide +kernel) rfl q4 ?_
  refine dq_aln 0 6 (by decide +kernel) rfl G0 ?_
  obtain ⟨x5, q6, hh⟩ := db hh
  refine dq_gI 22 1 [1] 9 (by decide +kernel) rfl q6 ?_
  refine dq_S (.ishr) 1 [] 10 _ [.int (x3 >>> (x5 &&& 31))] (by decide +kernel) rfl ?_
  refine dq_isn 2 11 (by decide +kernel) (by decide +kernel) ?_
  have g7 := dg_ne (i := 2) (u := .int (x3 >>> (x5 &&& 31))) (by decide) (Or.inl (by decide)) G0
  have g8 := dg_ne (i := 2) (u := .int (x3 >>> (x5 &&& 31))) (by decide) (Or.inr rfl) G1
  have g9 := dg_eq (lv) 2 (.int (x3 >>> (x5 &&& 31)))
  refine dq_iln 1 12 (by decide +kernel) rfl g8 ?_
  refine dq_iln 2 13 (by decide +kernel) rfl g9 ?_
  refine dq_S (.isub) 1 [] 14 _ [.int (i1 - (x3 >>> (x5 &&& 31)))] (by decide +kernel) rfl ?_
  rcases di hh with ⟨q10, hh⟩ | ⟨q10, hh⟩
  · refine dq_1 .le 24 true 38 q10 (by decide +kernel) ?_
    exact c15_38 hD hz  _ _ _  hh
  · refine dq_1 .le 24 false 17 q10 (by decide +kernel) ?_
    refine dq_aln 0 18 (by decide +kernel) rfl g7 ?_
    refine dq_aln 0 19 (by decide +kernel) rfl g7 ?_
    obtain ⟨p11, q12, hh⟩ := db hh
    refine dq_gR 15 0 [1] 22 (by decide +kernel) rfl q12 ?_
    refine dq_aln 0 23 (by decide +kernel) rfl g7 ?_
    refine dq_iln 1 24 (by decide +kernel) rfl g8 ?_
    obtain ⟨x13, q14, hh⟩ := db hh
    obtain ⟨a15, q16, q14⟩ := db q14
    rw [dq_xI q14] at q16
    refine dq_cvi hD 104 16 9 1 [1] o0 [.int i1] [va_rf p11, va_rf o0] 27 [.int x13.1, va_rf p11, va_rf o0] (by decide +kernel) ap_16 ⟨⟨Nat.le_of_ble_eq_true rfl, by decide⟩, rfl, rfl⟩ (dq_ok8 [1, 1] [1, 1] (dc_r (dc_i dc_n)) (dc_r (dc_r dc_n)) (by decide +kernel)) (by decide +kernel) rfl q16 rfl ?_
    refine dq_aln 0 28 (by decide +kernel) rfl g7 ?_
    obtain ⟨x17, q18, hh⟩ := db hh
    refine dq_gI 22 1 [1] 31 (by decide +kernel) rfl q18 ?_
    refine dq_S (.ishl) 1 [] 32 _ [.int (x13.1 <<< (x17 &&& 31)), va_rf p11, va_rf o0] (by decide +kernel) rfl ?_
    obtain ⟨p19, q20, hh⟩ := db hh
    obtain ⟨a21, q22, q20⟩ := db q20
    rw [dq_xR q20] at q22
    refine dq_cst hD 108 20 0 2 [va_rf p11, .int (x13.1 <<< (x17 &&& 31))] [va_rf o0] 35 [va_rf p19.1, va_rf o0] (by decide +kernel) ap_20 ⟨⟨Nat.le_of_ble_eq_true rfl, by decide⟩, rfl, rfl⟩ (dq_ok8 [1, 1] [1] (dc_r (dc_i dc_n)) (dc_r dc_n) (by decide +kernel)) (by decide +kernel) rfl q22 rfl ?_
    obtain ⟨h23, q24, hh⟩ := db hh
    refine dq_put 15 0 [1] 38 (by decide +kernel) rfl q24 ?_
    exact c15_38 hD hz  _ _ _  hh
def f15 (L : Nat) (xs : Nat → Int32) (zf : Value) (D : dD) (w : Nat) (As : List Value) (h : rm_H) : Option dR := match As with
  | [v0, .int i1] => (rm_rf v0).bind fun o0 => b15_0 L xs zf D w o0 i1 h
  | _ => none
theorem d15 {L : Nat} {xs : Nat → Int32} {zf : Value} {D : dD} {w k : Nat} (hD : dO L xs zf D k) (hz : zf.category = 1) (As : List Value) (h : rm_H) (r : dR) (hh : f15 L xs zf D w As h = some r) : dq L xs zf ah_M15 0 (lv_args 0 As) [] h (k + 1) r := by
  unfold f15 at hh
  split at hh
  · obtain ⟨o0, e0, hb0⟩ := db hh
    have e0 := rm_rf_v _ _ e0
    subst e0
    refine c15_0 hD hz _ _ _ _ _ ?_ ?_ hb0
    all_goals (simp only [la_r, la_i, la_j]; rfl)
  · cases hh
def b16_0 (L : Nat) (xs : Nat → Int32) (zf : Value) (D : dD) (w : Nat) (o0 : Option Nat) (i1 : Int32) (h : rm_H) : Option dR :=
  (dgR L xs h 0 [1] o0).bind fun p1 =>
  (daN L xs h p1).bind fun x3 =>
  (dgI L xs h 1 [1] o0).bind fun x8 =>
  (dgI L xs h 1 [1] o0).bind fun x19 =>
  ((D 17 [.int x3, .int ((i1 <<< (x8 &&& 31)) - x3), .int (x3 + ((2 : Int32) <<< (x19 &&& 31)))] h).bind dxI).bind fun x21 =>
  if mx_f2 .ne x21.1 2147483647 = true then
    (dgI L xs x21.2 1 [1] o0).bind fun x32 =>
    drI (some .int) (x21.1 >>> (x32 &&& 31)) x21.2
  else
    none
theorem c16_0 {L : Nat} {xs : Nat → Int32} {zf : Value} {D : dD} {w k : Nat} (hD : dO L xs zf D k) (hz : zf.category = 1) : ∀ (o0 : Option Nat) (i1 : Int32) (lv : rm_L) (h : rm_H) (r : dR), rm_get lv 0 = some (va_rf o0) → rm_get lv 1 = some (.int i1) → b16_0 L xs zf D w  o0 i1 h = some r → dq L xs zf ah_M16 0 lv [] h (k + 1) r := by
  intro o0 i1 lv h r G0 G1 hh
  unfold b16_0 at hh
  refine dq_aln 0 1 (by decide +kernel) rfl G0 ?_
  obtain ⟨p1, q2, hh⟩ := db hh
  refine dq_gR 15 0 [1] 4 (by decide +kernel) rfl q2 ?_
  obtain ⟨x3, q4, hh⟩ := db hh
  refine dq_aN 5 (by decide +kernel) rfl q4 ?_
  refine dq_isn 2 6 (by decide +kernel) (by decide +kernel) ?_
  have g5 := dg_ne (i := 2) (u := .int x3) (by decide) (Or.inl (by decide)) G0
  have g6 := dg_ne (i := 2) (u := .int x3) (by decide) (Or.inr rfl) G1
  have g7 := dg_eq (lv) 2 (.int x3)
  refine dq_iln 1 7 (by decide +kernel) rfl g6 ?_
  refine dq_aln 0 8 (by decide +kernel) rfl g5 ?_
  obtain ⟨x8, q9, hh⟩ := db hh
  refine dq_gI 22 1 [1] 11 (by decide +kernel) rfl q9 ?_
  refine dq_S (.ishl) 1 [] 12 _ [.int (i1 <<< (x8 &&& 31))] (by decide +kernel) rfl ?_
  refine dq_isn 3 13 (by decide +kernel) (by decide +kernel) ?_
  have g10 := dg_ne (i := 3) (u := .int (i1 <<< (x8 &&& 31))) (by decide) (Or.inl (by decide)) g5
  have g11 := dg_ne (i := 3) (u := .int (i1 <<< (x8 &&& 31))) (by decide) (Or.inl (by decide)) g6
  have g12 := dg_ne (i := 3) (u := .int (i1 <<< (x8 &&& 31))) (by decide) (Or.inr rfl) g7
  have g13 := dg_eq (rm_set1 (lv) 2 (.int x3)) 3 (.int (i1 <<< (x8 &&& 31)))
  refine dq_iln 3 14 (by decide +kernel) rfl g13 ?_
  refine dq_iln 2 15 (by decide +kernel) rfl g12 ?_
  refine dq_S (.isub) 1 [] 16 _ [.int ((i1 <<< (x8 &&& 31)) - x3)] (by decide +kernel) rfl ?_
  refine dq_is 4 18 (by decide +kernel) (by decide +kernel) ?_
  have g14 := dg_ne (i := 4) (u := .int ((i1 <<< (x8 &&& 31)) - x3)) (by decide) (Or.inl (by decide)) g10
  have g15 := dg_ne (i := 4) (u := .int ((i1 <<< (x8 &&& 31)) - x3)) (by decide) (Or.inl (by decide)) g11
  have g16 := dg_ne (i := 4) (u := .int ((i1 <<< (x8 &&& 31)) - x3)) (by decide) (Or.inl (by decide)) g12
  have g17 := dg_ne (i := 4) (u := .int ((i1 <<< (x8 &&& 31)) - x3)) (by decide) (Or.inr rfl) g13
  have g18 := dg_eq (rm_set1 (rm_set1 (lv) 2 (.int x3)) 3 (.int (i1 <<< (x8 &&& 31)))) 4 (.int ((i1 <<< (x8 &&& 31)) - x3))
  refine dq_iln 2 19 (by decide +kernel) rfl g16 ?_
  refine dq_il 4 21 (by decide +kernel) rfl g18 ?_
  refine dq_iln 2 22 (by decide +kernel) rfl g16 ?_
  refine dq_S (.iconst 2) 1 [] 23 _ [.int 2, .int x3, .int ((i1 <<< (x8 &&& 31)) - x3), .int x3] (by decide +kernel) rfl ?_
  refine dq_aln 0 24 (by decide +kernel) rfl g14 ?_
  obtain ⟨x19, q20, hh⟩ := db hh
  refine dq_gI 22 1 [1] 27 (by decide +kernel) rfl q20 ?_
  refine dq_S (.ishl) 1 [] 28 _ [.int ((2 : Int32) <<< (x19 &&& 31)), .int x3, .int ((i1 <<< (x8 &&& 31)) - x3), .int x3] (by decide +kernel) rfl ?_
  refine dq_S (.iadd) 1 [] 29 _ [.int (x3 + ((2 : Int32) <<< (x19 &&& 31))), .int ((i1 <<< (x8 &&& 31)) - x3), .int x3] (by decide +kernel) rfl ?_
  obtain ⟨x21, q22, hh⟩ := db hh
  obtain ⟨a23, q24, q22⟩ := db q22
  rw [dq_xI q22] at q24
  refine dq_cst hD 114 17 0 3 [.int x3, .int ((i1 <<< (x8 &&& 31)) - x3), .int (x3 + ((2 : Int32) <<< (x19 &&& 31)))] [] 32 [.int x21.1] (by decide +kernel) ap_17 ⟨⟨Nat.le_of_ble_eq_true rfl, by decide⟩, rfl, rfl⟩ (dq_ok8 [1, 1, 1] [] (dc_i (dc_i (dc_i dc_n))) dc_n (by decide +kernel)) (by decide +kernel) rfl q24 rfl ?_
  refine dq_is 5 34 (by decide +kernel) (by decide +kernel) ?_
  have g25 := dg_ne (i := 5) (u := .int x21.1) (by decide) (Or.inl (by decide)) g14
  have g26 := dg_ne (i := 5) (u := .int x21.1) (by decide) (Or.inl (by decide)) g15
  have g27 := dg_ne (i := 5) (u := .int x21.1) (by decide) (Or.inl (by decide)) g16
  have g28 := dg_ne (i := 5) (u := .int x21.1) (by decide) (Or.inl (by decide)) g17
  have g29 := dg_ne (i := 5) (u := .int x21.1) (by decide) (Or.inr rfl) g18
  have g30 := dg_eq (rm_set1 (rm_set1 (rm_set1 (lv) 2 (.int x3)) 3 (.int (i1 <<< (x8 &&& 31)))) 4 (.int ((i1 <<< (x8 &&& 31)) - x3))) 5 (.int x21.1)
  refine dq_il 5 36 (by decide +kernel) rfl g30 ?_
  refine dq_S (.ldc 39) 2 [0, 2147483647] 38 _ [.int 2147483647, .int x21.1] (by decide +kernel) rfl ?_
  rcases di hh with ⟨q31, hh⟩ | ⟨q31, hh⟩
  · refine dq_2 .ne 13 true 51 q31 (by decide +kernel) ?_
    refine dq_il 5 53 (by decide +kernel) rfl g30 ?_
    refine dq_aln 0 54 (by decide +kernel) rfl g25 ?_
    obtain ⟨x32, q33, hh⟩ := db hh
    refine dq_gI 22 1 [1] 57 (by decide +kernel) rfl q33 ?_
    refine dq_S (.ishr) 1 [] 58 _ [.int (x21.1 >>> (x32 &&& 31))] (by decide +kernel) rfl ?_
    exact dq_retI (some .int) (by decide +kernel) rfl hh
  · refine dq_2 .ne 13 false 41 q31 (by decide +kernel) ?_
    cases hh
def f16 (L : Nat) (xs : Nat → Int32) (zf : Value) (D : dD) (w : Nat) (As : List Value) (h : rm_H) : Option dR := match As with
  | [v0, .int i1] => (rm_rf v0).bind fun o0 => b16_0 L xs zf D w o0 i1 h
  | _ => none
theorem d16 {L : Nat} {xs : Nat → Int32} {zf : Value} {D : dD} {w k : Nat} (hD : dO L xs zf D k) (hz : zf.category = 1) (As : List Value) (h : rm_H) (r : dR) (hh : f16 L xs zf D w As h = some r) : dq L xs zf ah_M16 0 (lv_args 0 As) [] h (k + 1) r := by
  unfold f16 at hh
  split at hh
  · obtain ⟨o0, e0, hb0⟩ := db hh
    have e0 := rm_rf_v _ _ e0
    subst e0
    refine c16_0 hD hz _ _ _ _ _ ?_ ?_ hb0
    all_goals (simp only [la_r, la_i, la_j]; rfl)
  · cases hh
def b17_21 (L : Nat) (xs : Nat → Int32) (zf : Value) (D : dD) (w : Nat) (i0 : Int32) (i1 : Int32) (h : rm_H) : Option dR :=
  ((D 19 [.int i0, .int i1] h).bind dxI).bind fun x1 =>
  drI (some .int) x1.1 x1.2
theorem c17_21 {L : Nat} {xs : Nat → Int32} {zf : Value} {D : dD} {w k : Nat} (hD : dO L xs zf D k) (hz : zf.category = 1) : ∀ (i0 : Int32) (i1 : Int32) (lv : rm_L) (h : rm_H) (r : dR), rm_get lv 0 = some (.int i0) → rm_get lv 1 = some (.int i1) → b17_21 L xs zf D w  i0 i1 h = some r → dq L xs zf ah_M17 21 lv [] h (k + 1) r := by
  intro i0 i1 lv h r G0 G1 hh
  unfold b17_21 at hh
  refine dq_iln 0 22 (by decide +kernel) rfl G0 ?_
  refine dq_iln 1 23 (by decide +kernel) rfl G1 ?_
  obtain ⟨x1, q2, hh⟩ := db hh
  obtain ⟨a3, q4, q2⟩ := db q2
  rw [dq_xI q2] at q4
  refine dq_cst hD 201 19 0 2 [.int i0, .int i1] [] 26 [.int x1.1] (by decide +kernel) ap_19 ⟨⟨Nat.le_of_ble_eq_true rfl, by decide⟩, rfl, rfl⟩ (dq_ok8 [1, 1] [] (dc_i (dc_i dc_n)) dc_n (by decide +kernel)) (by decide +kernel) rfl q4 rfl ?_
  exact dq_retI (some .int) (by decide +kernel) rfl hh
def b17_0 (L : Nat) (xs : Nat → Int32) (zf : Value) (D : dD) (w : Nat) (i0 : Int32) (i1 : Int32) (i2 : Int32) (h : rm_H) : Option dR :=
  ((D 18 [.int i1, .int i2] h).bind dxI).bind fun x1 =>
  if mx_f2 .ge 0 (i0 + x1.1) = true then
    b17_21 L xs zf D w i0 i1 x1.2
  else
    if mx_f2 .gt (i0 + x1.1) 2147483639 = true then
      b17_21 L xs zf D w i0 i1 x1.2
    else
      drI (some .int) (i0 + x1.1) x1.2
theorem c17_0 {L : Nat} {xs : Nat → Int32} {zf : Value} {D : dD} {w k : Nat} (hD : dO L xs zf D k) (hz : zf.category = 1) : ∀ (i0 : Int32) (i1 : Int32) (i2 : Int32) (lv : rm_L) (h : rm_H) (r : dR), rm_get lv 0 = some (.int i0) → rm_get lv 1 = some (.int i1) → rm_get lv 2 = some (.int i2) → b17_0 L xs zf D w  i0 i1 i2 h = some r → dq L xs zf ah_M17 0 lv [] h (k + 1) r := by
  intro i0 i1 i2 lv h r G0 G1 G2 hh
  unfold b17_0 at hh
  refine dq_iln 0 1 (by decide +kernel) rfl G0 ?_
  refine dq_iln 1 2 (by decide +kernel) rfl G1 ?_
  refine dq_iln 2 3 (by decide +kernel) rfl G2 ?_
  obtain ⟨x1, q2, hh⟩ := db hh
  obtain ⟨a3, q4, q2⟩ := db q2
  rw [dq_xI q2] at q4
  refine dq_cst hD 194 18 0 2 [.int i1, .int i2] [.int i0] 6 [.int x1.1, .int i0] (by decide +kernel) ap_18 ⟨⟨Nat.le_of_ble_eq_true rfl, by decide⟩, rfl, rfl⟩ (dq_ok8 [1, 1] [1] (dc_i (dc_i dc_n)) (dc_i dc_n) (by decide +kernel)) (by decide +kernel) rfl q4 rfl ?_
  refine dq_S (.iadd) 1 [] 7 _ [.int (i0 + x1.1)] (by decide +kernel) rfl ?_
  refine dq_isn 3 8 (by decide +kernel) (by decide +kernel) ?_
  have g5 := dg_ne (i := 3) (u := .int (i0 + x1.1)) (by decide) (Or.inl (by decide)) G0
  have g6 := dg_ne (i := 3) (u := .int (i0 + x1.1)) (by decide) (Or.inl (by decide)) G1
  have g7 := dg_ne (i := 3) (u := .int (i0 + x1.1)) (by decide) (Or.inr rfl) G2
  have g8 := dg_eq (lv) 3 (.int (i0 + x1.1))
  refine dq_S (.iconst 0) 1 [] 9 _ [.int 0] (by decide +kernel) rfl ?_
  refine dq_iln 3 10 (by decide +kernel) rfl g8 ?_
  rcases di hh with ⟨q9, hh⟩ | ⟨q9, hh⟩
  · refine dq_2 .ge 11 true 21 q9 (by decide +kernel) ?_
    exact c17_21 hD hz _ _ _ _ _ g5 g6 hh
  · refine dq_2 .ge 11 false 13 q9 (by decide +kernel) ?_
    refine dq_iln 3 14 (by decide +kernel) rfl g8 ?_
    refine dq_S (.ldc 200) 2 [0, 2147483639] 16 _ [.int 2147483639, .int (i0 + x1.1)] (by decide +kernel) rfl ?_
    rcases di hh with ⟨q10, hh⟩ | ⟨q10, hh⟩
    · refine dq_2 .gt 5 true 21 q10 (by decide +kernel) ?_
      exact c17_21 hD hz _ _ _ _ _ g5 g6 hh
    · refine dq_2 .gt 5 false 19 q10 (by decide +kernel) ?_
      refine dq_iln 3 20 (by decide +kernel) rfl g8 ?_
      exact dq_retI (some .int) (by decide +kernel) rfl hh
def f17 (L : Nat) (xs : Nat → Int32) (zf : Value) (D : dD) (w : Nat) (As : List Value) (h : rm_H) : Option dR := match As with
  | [.int i0, .int i1, .int i2] => b17_0 L xs zf D w i0 i1 i2 h
  | _ => none
theorem d17 {L : Nat} {xs : Nat → Int32} {zf : Value} {D : dD} {w k : Nat} (hD : dO L xs zf D k) (hz : zf.category = 1) (As : List Value) (h : rm_H) (r : dR) (hh : f17 L xs zf D w As h = some r) : dq L xs zf ah_M17 0 (lv_args 0 As) [] h (k + 1) r := by
  unfold f17 at hh
  split at hh
  · refine c17_0 hD hz _ _ _ _ _ _ ?_ ?_ ?_ hh
    all_goals (simp only [la_r, la_i, la_j]; rfl)
  · cases hh
def b18_10 (L : Nat) (xs : Nat → Int32) (zf : Value) (D : dD) (w : Nat) (s0 : Int32) (h : rm_H) : Option dR :=
  drI (some .int) s0 h
theorem c18_10 {L : Nat} {xs : Nat → Int32} {zf : Value} {D : dD} {w k : Nat} (hD : dO L xs zf D k) (hz : zf.category = 1) : ∀ (s0 : Int32) (lv : rm_L) (h : rm_H) (r : dR), b18_10 L xs zf D w  s0 h = some r → dq L xs zf ah_M18 10 lv [.int s0] h (k + 1) r := by
  intro s0 lv h r hh
  unfold b18_10 at hh
  exact dq_retI (some .int) (by decide +kernel) rfl hh
def b18_0 (L : Nat) (xs : Nat → Int32) (zf : Value) (D : dD) (w : Nat) (i0 : Int32) (i1 : Int32) (h : rm_H) : Option dR :=
  if mx_f2 .lt i0 i1 = true then
    b18_10 L xs zf D w i1 h
  else
    b18_10 L xs zf D w i0 h
theorem c18_0 {L : Nat} {xs : Nat → Int32} {zf : Value} {D : dD} {w k : Nat} (hD : dO L xs zf D k) (hz : zf.category = 1) : ∀ (i0 : Int32) (i1 : Int32) (lv : rm_L) (h : rm_H) (r : dR), rm_get lv 0 = some (.int i0) → rm_get lv 1 = some (.int i1) → b18_0 L xs zf D w  i0 i1 h = some r → dq L xs zf ah_M18 0 lv [] h (k + 1) r := by
  intro i0 i1 lv h r G0 G1 hh
  unfold b18_0 at hh
  refine dq_iln 0 1 (by decide +kernel) rfl G0 ?_
  refine dq_iln 1 2 (by decide +kernel) rfl G1 ?_
  rcases di hh with ⟨q1, hh⟩ | ⟨q1, hh⟩
  · refine dq_2 .lt 7 true 9 q1 (by decide +kernel) ?_
    refine dq_iln 1 10 (by decide +kernel) rfl G1 ?_
    exact c18_10 hD hz _ _ _ _  hh
  · refine dq_2 .lt 7 false 5 q1 (by decide +kernel) ?_
    refine dq_iln 0 6 (by decide +kernel) rfl G0 ?_
    refine dq_S (.goto 4) 3 [] 10 _ [.int i0] (by decide +kernel) rfl ?_
    exact c18_10 hD hz _ _ _ _  hh
def f18 (L : Nat) (xs : Nat → Int32) (zf : Value) (D : dD) (w : Nat) (As : List Value) (h : rm_H) : Option dR := match As with
  | [.int i0, .int i1] => b18_0 L xs zf D w i0 i1 h
  | _ => none
theorem d18 {L : Nat} {xs : Nat → Int32} {zf : Value} {D : dD} {w k : Nat} (hD : dO L xs zf D k) (hz : zf.category = 1) (As : List Value) (h : rm_H) (r : dR) (hh : f18 L xs zf D w As h = some r) : dq L xs zf ah_M18 0 (lv_args 0 As) [] h (k + 1) r := by
  unfold f18 at hh
  split at hh
  · refine c18_0 hD hz _ _ _ _ _ ?_ ?_ hh
    all_goals (simp only [la_r, la_i, la_j]; rfl)
  · cases hh
def b19_0 (L : Nat) (xs : Nat → Int32) (zf : Value) (D : dD) (w : Nat) (i0 : Int32) (i1 : Int32) (h : rm_H) : Option dR :=
  if mx_f1 .ge (i0 + i1) = true then
    if mx_f2 .gt (i0 + i1) 2147483639 = true then
      drI (some .int) (i0 + i1) h
    else
      drI (some .int) 2147483639 h
  else
    none
theorem c19_0 {L : Nat} {xs : Nat → Int32} {zf : Value} {D : dD} {w k : Nat} (hD : dO L xs zf D k) (hz : zf.category = 1) : ∀ (i0 : Int32) (i1 : Int32) (lv : rm_L) (h : rm_H) (r : dR), rm_get lv 0 = some (.int i0) → rm_get lv 1 = some (.int i1) → b19_0 L xs zf D w  i0 i1 h = some r → dq L xs zf ah_M19 0 lv [] h (k + 1) r := by
  intro i0 i1 lv h r G0 G1 hh
  unfold b19_0 at hh
  refine dq_iln 0 1 (by decide +kernel) rfl G0 ?_
  refine dq_iln 1 2 (by decide +kernel) rfl G1 ?_
  refine dq_S (.iadd) 1 [] 3 _ [.int (i0 + i1)] (by decide +kernel) rfl ?_
  refine dq_isn 2 4 (by decide +kernel) (by decide +kernel) ?_
  have g1 := dg_ne (i := 2) (u := .int (i0 + i1)) (by decide) (Or.inl (by decide)) G0
  have g2 := dg_ne (i := 2) (u := .int (i0 + i1)) (by decide) (Or.inr rfl) G1
  have g3 := dg_eq (lv) 2 (.int (i0 + i1))
  refine dq_iln 2 5 (by decide +kernel) rfl g3 ?_
  rcases di hh with ⟨q4, hh⟩ | ⟨q4, hh⟩
  · refine dq_1 .ge 44 true 49 q4 (by decide +kernel) ?_
    refine dq_iln 2 50 (by decide +kernel) rfl g3 ?_
    refine dq_S (.ldc 200) 2 [0, 2147483639] 52 _ [.int 2147483639, .int (i0 + i1)] (by decide +kernel) rfl ?_
    rcases di hh with ⟨q5, hh⟩ | ⟨q5, hh⟩
    · refine dq_2 .gt 6 true 58 q5 (by decide +kernel) ?_
      refine dq_iln 2 59 (by decide +kernel) rfl g3 ?_
      exact dq_retI (some .int) (by decide +kernel) rfl hh
    · refine dq_2 .gt 6 false 55 q5 (by decide +kernel) ?_
      refine dq_S (.ldc 200) 2 [0, 2147483639] 57 _ [.int 2147483639] (by decide +kernel) rfl ?_
      exact dq_retI (some .int) (by decide +kernel) rfl hh
  · refine dq_1 .ge 44 false 8 q4 (by decide +kernel) ?_
    cases hh
def f19 (L : Nat) (xs : Nat → Int32) (zf : Value) (D : dD) (w : Nat) (As : List Value) (h : rm_H) : Option dR := match As with
  | [.int i0, .int i1] => b19_0 L xs zf D w i0 i1 h
  | _ => none
theorem d19 {L : Nat} {xs : Nat → Int32} {zf : Value} {D : dD} {w k : Nat} (hD : dO L xs zf D k) (hz : zf.category = 1) (As : List Value) (h : rm_H) (r : dR) (hh : f19 L xs zf D w As h = some r) : dq L xs zf ah_M19 0 (lv_args 0 As) [] h (k + 1) r := by
  unfold f19 at hh
  split at hh
  · refine c19_0 hD hz _ _ _ _ _ ?_ ?_ hh
    all_goals (simp only [la_r, la_i, la_j]; rfl)
  · cases hh
def b20_0 (L : Nat) (xs : Nat → Int32) (zf : Value) (D : dD) (w : Nat) (o0 : Option Nat) (i1 : Int32) (h : rm_H) : Option dR :=
  (daN L xs h o0).bind fun x1 =>
  if mx_f2 .ne i1 x1 = true then
    (dnI 1 i1 h).bind fun h4 =>
    (daN L xs h4 o0).bind fun x9 =>
    ((D 21 [.int x9, .int i1] h4).bind dxI).bind fun x11 =>
    (dcpy x11.2 o0 0 (some (21 + List.length h)) 0 x11.1).bind fun h15 =>
    some (some (va_rf (some (21 + List.length h))), h15)
  else
    (dclo h o0).bind fun h17 =>
    if dcB h17 (some (21 + List.length h)) = false then none else
    some (some (va_rf (some (21 + List.length h))), h17)
theorem c20_0 {L : Nat} {xs : Nat → Int32} {zf : Value} {D : dD} {w k : Nat} (hD : dO L xs zf D k) (hz : zf.category = 1) : ∀ (o0 : Option Nat) (i1 : Int32) (lv : rm_L) (h : rm_H) (r : dR), rm_get lv 0 = some (va_rf o0) → rm_get lv 1 = some (.int i1) → b20_0 L xs zf D w  o0 i1 h = some r → dq L xs zf ah_M20 0 lv [] h (k + 1) r := by
  intro o0 i1 lv h r G0 G1 hh
  unfold b20_0 at hh
  refine dq_iln 1 1 (by decide +kernel) rfl G1 ?_
  refine dq_aln 0 2 (by decide +kernel) rfl G0 ?_
  obtain ⟨x1, q2, hh⟩ := db hh
  refine dq_aN 3 (by decide +kernel) rfl q2 ?_
  rcases di hh with ⟨q3, hh⟩ | ⟨q3, hh⟩
  · refine dq_2 .ne 11 true 14 q3 (by decide +kernel) ?_
    refine dq_iln 1 15 (by decide +kernel) rfl G1 ?_
    obtain ⟨h4, q5, hh⟩ := db hh
    refine dq_nI .byte 1 17 ⟨Or.inr (Or.inl rfl), rfl⟩ (by decide +kernel) rfl q5 ?_
    refine dq_asn 2 18 (by decide +kernel) (by decide +kernel) ?_
    have g6 := dg_ne (i := 2) (u := va_rf (some (21 + List.length h))) (by decide) (Or.inl (by decide)) G0
    have g7 := dg_ne (i := 2) (u := va_rf (some (21 + List.length h))) (by decide) (Or.inr rfl) G1
    have g8 := dg_eq (lv) 2 (va_rf (some (21 + List.length h)))
    refine dq_aln 0 19 (by decide +kernel) rfl g6 ?_
    refine dq_S (.iconst 0) 1 [] 20 _ [.int 0, va_rf o0] (by decide +kernel) rfl ?_
    refine dq_aln 2 21 (by decide +kernel) rfl g8 ?_
    refine dq_S (.iconst 0) 1 [] 22 _ [.int 0, va_rf (some (21 + List.length h)), .int 0, va_rf o0] (by decide +kernel) rfl ?_
    refine dq_aln 0 23 (by decide +kernel) rfl g6 ?_
    obtain ⟨x9, q10, hh⟩ := db hh
    refine dq_aN 24 (by decide +kernel) rfl q10 ?_
    refine dq_iln 1 25 (by decide +kernel) rfl g7 ?_
    obtain ⟨x11, q12, hh⟩ := db hh
    obtain ⟨a13, q14, q12⟩ := db q12
    rw [dq_xI q12] at q14
    refine dq_cst hD 304 21 0 2 [.int x9, .int i1] [.int 0, va_rf (some (21 + List.length h)), .int 0, va_rf o0] 28 [.int x11.1, .int 0, va_rf (some (21 + List.length h)), .int 0, va_rf o0] (by decide +kernel) ap_21 ⟨⟨Nat.le_of_ble_eq_true rfl, by decide⟩, rfl, rfl⟩ (dq_ok8 [1, 1] [1, 1, 1, 1] (dc_i (dc_i dc_n)) (dc_i (dc_r (dc_i (dc_r dc_n)))) (by decide +kernel)) (by decide +kernel) rfl q14 rfl ?_
    obtain ⟨h15, q16, hh⟩ := db hh
    refine dq_acp 150 31 (by decide +kernel) (dc_s dc_n (by decide +kernel)) rfl q16 ?_
    refine dq_aln 2 32 (by decide +kernel) rfl g8 ?_
    cases hh
    exact dq_retR (by decide +kernel) rfl
  · refine dq_2 .ne 11 false 6 q3 (by decide +kernel) ?_
    refine dq_aln 0 7 (by decide +kernel) rfl G0 ?_
    obtain ⟨h17, q18, hh⟩ := db hh
    refine dq_clo 310 10 (by decide +kernel) (dc_s dc_n (by decide +kernel)) rfl q18 ?_
    rcases dp hh with ⟨_, hh⟩ | ⟨q19, hh⟩
    · cases hh
    refine dq_castB 311 13 (by decide +kernel) rfl (by rw [Bool.not_eq_false] at q19; exact q19) ?_
    cases hh
    exact dq_retR (by decide +kernel) rfl
def f20 (L : Nat) (xs : Nat → Int32) (zf : Value) (D : dD) (w : Nat) (As : List Value) (h : rm_H) : Option dR := match As with
  | [v0, .int i1] => (rm_rf v0).bind fun o0 => b20_0 L xs zf D w o0 i1 h
  | _ => none
theorem d20 {L : Nat} {xs : Nat → Int32} {zf : Value} {D : dD} {w k : Nat} (hD : dO L xs zf D k) (hz : zf.category = 1) (As : List Value) (h : rm_H) (r : dR) (hh : f20 L xs zf D w As h = some r) : dq L xs zf ah_M20 0 (lv_args 0 As) [] h (k + 1) r := by
  unfold f20 at hh
  split at hh
  · obtain ⟨o0, e0, hb0⟩ := db hh
    have e0 := rm_rf_v _ _ e0
    subst e0
    refine c20_0 hD hz _ _ _ _ _ ?_ ?_ hb0
    all_goals (simp only [la_r, la_i, la_j]; rfl)
  · cases hh
def b21_10 (L : Nat) (xs : Nat → Int32) (zf : Value) (D : dD) (w : Nat) (s0 : Int32) (h : rm_H) : Option dR :=
  drI (some .int) s0 h
theorem c21_10 {L : Nat} {xs : Nat → Int32} {zf : Value} {D : dD} {w k : Nat} (hD : dO L xs zf D k) (hz : zf.category = 1) : ∀ (s0 : Int32) (lv : rm_L) (h : rm_H) (r : dR), b21_10 L xs zf D w  s0 h = some r → dq L xs zf ah_M21 10 lv [.int s0] h (k + 1) r := by
  intro s0 lv h r hh
  unfold b21_10 at hh
  exact dq_retI (some .int) (by decide +kernel) rfl hh
def b21_0 (L : Nat) (xs : Nat → Int32) (zf : Value) (D : dD) (w : Nat) (i0 : Int32) (i1 : Int32) (h : rm_H) : Option dR :=
  if mx_f2 .gt i0 i1 = true then
    b21_10 L xs zf D w i1 h
  else
    b21_10 L xs zf D w i0 h
theorem c21_0 {L : Nat} {xs : Nat → Int32} {zf : Value} {D : dD} {w k : Nat} (hD : dO L xs zf D k) (hz : zf.category = 1) : ∀ (i0 : Int32) (i1 : Int32) (lv : rm_L) (h : rm_H) (r : dR), rm_get lv 0 = some (.int i0) → rm_get lv 1 = some (.int i1) → b21_0 L xs zf D w  i0 i1 h = some r → dq L xs zf ah_M21 0 lv [] h (k + 1) r := by
  intro i0 i1 lv h r G0 G1 hh
  unfold b21_0 at hh
  refine dq_iln 0 1 (by decide +kernel) rfl G0 ?_
  refine dq_iln 1 2 (by decide +kernel) rfl G1 ?_
  rcases di hh with ⟨q1, hh⟩ | ⟨q1, hh⟩
  · refine dq_2 .gt 7 true 9 q1 (by decide +kernel) ?_
    refine dq_iln 1 10 (by decide +kernel) rfl G1 ?_
    exact c21_10 hD hz _ _ _ _  hh
  · refine dq_2 .gt 7 false 5 q1 (by decide +kernel) ?_
    refine dq_iln 0 6 (by decide +kernel) rfl G0 ?_
    refine dq_S (.goto 4) 3 [] 10 _ [.int i0] (by decide +kernel) rfl ?_
    exact c21_10 hD hz _ _ _ _  hh
def f21 (L : Nat) (xs : Nat → Int32) (zf : Value) (D : dD) (w : Nat) (As : List Value) (h : rm_H) : Option dR := match As with
  | [.int i0, .int i1] => b21_0 L xs zf D w i0 i1 h
  | _ => none
theorem d21 {L : Nat} {xs : Nat → Int32} {zf : Value} {D : dD} {w k : Nat} (hD : dO L xs zf D k) (hz : zf.category = 1) (As : List Value) (h : rm_H) (r : dR) (hh : f21 L xs zf D w As h = some r) : dq L xs zf ah_M21 0 (lv_args 0 As) [] h (k + 1) r := by
  unfold f21 at hh
  split at hh
  · refine c21_0 hD hz _ _ _ _ _ ?_ ?_ hh
    all_goals (simp only [la_r, la_i, la_j]; rfl)
  · cases hh
def b22_18 (L : Nat) (xs : Nat → Int32) (zf : Value) (D : dD) (w : Nat) (s0 : Int32) (h : rm_H) : Option dR :=
  drI (some .boolean) s0 h
theorem c22_18 {L : Nat} {xs : Nat → Int32} {zf : Value} {D : dD} {w k : Nat} (hD : dO L xs zf D k) (hz : zf.category = 1) : ∀ (s0 : Int32) (lv : rm_L) (h : rm_H) (r : dR), b22_18 L xs zf D w  s0 h = some r → dq L xs zf ah_M22 18 lv [.int s0] h (k + 1) r := by
  intro s0 lv h r hh
  unfold b22_18 at hh
  exact dq_retI (some .boolean) (by decide +kernel) rfl hh
def b22_17 (L : Nat) (xs : Nat → Int32) (zf : Value) (D : dD) (w : Nat) (h : rm_H) : Option dR :=
  b22_18 L xs zf D w 0 h
theorem c22_17 {L : Nat} {xs : Nat → Int32} {zf : Value} {D : dD} {w k : Nat} (hD : dO L xs zf D k) (hz : zf.category = 1) : ∀ (lv : rm_L) (h : rm_H) (r : dR), b22_17 L xs zf D w  h = some r → dq L xs zf ah_M22 17 lv [] h (k + 1) r := by
  intro lv h r hh
  unfold b22_17 at hh
  refine dq_S (.iconst 0) 1 [] 18 _ [.int 0] (by decide +kernel) rfl ?_
  exact c22_18 hD hz _ _ _ _  hh
def b22_0 (L : Nat) (xs : Nat → Int32) (zf : Value) (D : dD) (w : Nat) (o0 : Option Nat) (h : rm_H) : Option dR :=
  if mx_f1 .eq 1 = true then
    b22_17 L xs zf D w h
  else
    (dgI L xs h 1 [1] o0).bind fun x2 =>
    if mx_f1 .ne x2 = true then
      b22_17 L xs zf D w h
    else
      b22_18 L xs zf D w 1 h
theorem c22_0 {L : Nat} {xs : Nat → Int32} {zf : Value} {D : dD} {w k : Nat} (hD : dO L xs zf D k) (hz : zf.category = 1) : ∀ (o0 : Option Nat) (lv : rm_L) (h : rm_H) (r : dR), rm_get lv 0 = some (va_rf o0) → b22_0 L xs zf D w  o0 h = some r → dq L xs zf ah_M22 0 lv [] h (k + 1) r := by
  intro o0 lv h r G0 hh
  unfold b22_0 at hh
  refine dq_S (.getstatic 18) 3 [0] 3 _ [.int 1] (by decide +kernel) rfl ?_
  rcases di hh with ⟨q1, hh⟩ | ⟨q1, hh⟩
  · refine dq_1 .eq 14 true 17 q1 (by decide +kernel) ?_
    exact c22_17 hD hz  _ _ _  hh
  · refine dq_1 .eq 14 false 6 q1 (by decide +kernel) ?_
    refine dq_aln 0 7 (by decide +kernel) rfl G0 ?_
    obtain ⟨x2, q3, hh⟩ := db hh
    refine dq_gI 22 1 [1] 10 (by decide +kernel) rfl q3 ?_
    rcases di hh with ⟨q4, hh⟩ | ⟨q4, hh⟩
    · refine dq_1 .ne 7 true 17 q4 (by decide +kernel) ?_
      exact c22_17 hD hz  _ _ _  hh
    · refine dq_1 .ne 7 false 13 q4 (by decide +kernel) ?_
      refine dq_S (.iconst 1) 1 [] 14 _ [.int 1] (by decide +kernel) rfl ?_
      refine dq_S (.goto 4) 3 [] 18 _ [.int 1] (by decide +kernel) rfl ?_
      exact c22_18 hD hz _ _ _ _  hh
def f22 (L : Nat) (xs : Nat → Int32) (zf : Value) (D : dD) (w : Nat) (As : List Value) (h : rm_H) : Option dR := match As with
  | [v0] => (rm_rf v0).bind fun o0 => b22_0 L xs zf D w o0 h
  | _ => none
theorem d22 {L : Nat} {xs : Nat → Int32} {zf : Value} {D : dD} {w k : Nat} (hD : dO L xs zf D k) (hz : zf.category = 1) (As : List Value) (h : rm_H) (r : dR) (hh : f22 L xs zf D w As h = some r) : dq L xs zf ah_M22 0 (lv_args 0 As) [] h (k + 1) r := by
  unfold f22 at hh
  split at hh
  · obtain ⟨o0, e0, hb0⟩ := db hh
    have e0 := rm_rf_v _ _ e0
    subst e0
    refine c22_0 hD hz _ _ _ _ ?_ hb0
    all_goals (simp only [la_r, la_i, la_j]; rfl)
  · cases hh
def b23_12 (L : Nat) (xs : Nat → Int32) (zf : Value) (D : dD) (w : Nat) (s0 : Int32) (h : rm_H) : Option dR :=
  drI (some .boolean) s0 h
theorem c23_12 {L : Nat} {xs : Nat → Int32} {zf : Value} {D : dD} {w k : Nat} (hD : dO L xs zf D k) (hz : zf.category = 1) : ∀ (s0 : Int32) (lv : rm_L) (h : rm_H) (r : dR), b23_12 L xs zf D w  s0 h = some r → dq L xs zf ah_M23 12 lv [.int s0] h (k + 1) r := by
  intro s0 lv h r hh
  unfold b23_12 at hh
  exact dq_retI (some .boolean) (by decide +kernel) rfl hh
def b23_0 (L : Nat) (xs : Nat → Int32) (zf : Value) (D : dD) (w : Nat) (i0 : Int32) (h : rm_H) : Option dR :=
  if mx_f2 .gt i0 255 = true then
    b23_12 L xs zf D w 0 h
  else
    b23_12 L xs zf D w 1 h
theorem c23_0 {L : Nat} {xs : Nat → Int32} {zf : Value} {D : dD} {w k : Nat} (hD : dO L xs zf D k) (hz : zf.category = 1) : ∀ (i0 : Int32) (lv : rm_L) (h : rm_H) (r : dR), rm_get lv 0 = some (.int i0) → b23_0 L xs zf D w  i0 h = some r → dq L xs zf ah_M23 0 lv [] h (k + 1) r := by
  intro i0 lv h r G0 hh
  unfold b23_0 at hh
  refine dq_iln 0 1 (by decide +kernel) rfl G0 ?_
  refine dq_S (.sipush 255) 3 [] 4 _ [.int 255, .int i0] (by decide +kernel) rfl ?_
  rcases di hh with ⟨q1, hh⟩ | ⟨q1, hh⟩
  · refine dq_2 .gt 7 true 11 q1 (by decide +kernel) ?_
    refine dq_S (.iconst 0) 1 [] 12 _ [.int 0] (by decide +kernel) rfl ?_
    exact c23_12 hD hz _ _ _ _  hh
  · refine dq_2 .gt 7 false 7 q1 (by decide +kernel) ?_
    refine dq_S (.iconst 1) 1 [] 8 _ [.int 1] (by decide +kernel) rfl ?_
    refine dq_S (.goto 4) 3 [] 12 _ [.int 1] (by decide +kernel) rfl ?_
    exact c23_12 hD hz _ _ _ _  hh
def f23 (L : Nat) (xs : Nat → Int32) (zf : Value) (D : dD) (w : Nat) (As : List Value) (h : rm_H) : Option dR := match As with
  | [.int i0] => b23_0 L xs zf D w i0 h
  | _ => none
theorem d23 {L : Nat} {xs : Nat → Int32} {zf : Value} {D : dD} {w k : Nat} (hD : dO L xs zf D k) (hz : zf.category = 1) (As : List Value) (h : rm_H) (r : dR) (hh : f23 L xs zf D w As h = some r) : dq L xs zf ah_M23 0 (lv_args 0 As) [] h (k + 1) r := by
  unfold f23 at hh
  split at hh
  · refine c23_0 hD hz _ _ _ _ ?_ hh
    all_goals (simp only [la_r, la_i, la_j]; rfl)
  · cases hh
def b24_0 (L : Nat) (xs : Nat → Int32) (zf : Value) (D : dD) (w : Nat) (o0 : Option Nat) (h : rm_H) : Option dR :=
  ((dcV L xs D 22 [1] o0 [] h).bind dxI).bind fun x1 =>
  if mx_f1 .ne x1.1 = true then
    (dgR L xs x1.2 0 [1] o0).bind fun p6 =>
    (daN L xs x1.2 p6).bind fun x8 =>
    ((D 5 [.int x8] x1.2).bind dxR).bind fun p10 =>
    (dgR L xs p10.2 0 [1] o0).bind fun p16 =>
    (dgI L xs p10.2 3 [1] o0).bind fun x18 =>
    ((D 25 [va_rf p16, .int 0, va_rf p10.1, .int 0, .int x18] p10.2).bind dxV).bind fun h20 =>
    (dpF h20 0 [1] o0 (va_rf p10.1)).bind fun h24 =>
    (dpF h24 1 [1] o0 (.int 1)).bind fun h26 =>
    some (none, h26)
  else
    some (none, x1.2)
theorem c24_0 {L : Nat} {xs : Nat → Int32} {zf : Value} {D : dD} {w k : Nat} (hD : dO L xs zf D k) (hz : zf.category = 1) : ∀ (o0 : Option Nat) (lv : rm_L) (h : rm_H) (r : dR), rm_get lv 0 = some (va_rf o0) → b24_0 L xs zf D w  o0 h = some r → dq L xs zf ah_M24 0 lv [] h (k + 1) r := by
  intro o0 lv h r G0 hh
  unfold b24_0 at hh
  refine dq_aln 0 1 (by decide +kernel) rfl G0 ?_
  obtain ⟨x1, q2, hh⟩ := db hh
  obtain ⟨a3, q4, q2⟩ := db q2
  rw [dq_xI q2] at q4
  refine dq_cvi hD 83 22 6 0 [1] o0 [] [] 4 [.int x1.1] (by decide +kernel) ap_22 ⟨⟨Nat.le_of_ble_eq_true rfl, by decide⟩, rfl, rfl⟩ (dq_ok8 [1] [] (dc_r dc_n) dc_n (by decide +kernel)) (by decide +kernel) rfl q4 rfl ?_
  rcases di hh with ⟨q5, hh⟩ | ⟨q5, hh⟩
  · refine dq_1 .ne 4 true 8 q5 (by decide +kernel) ?_
    refine dq_aln 0 9 (by decide +kernel) rfl G0 ?_
    obtain ⟨p6, q7, hh⟩ := db hh
    refine dq_gR 15 0 [1] 12 (by decide +kernel) rfl q7 ?_
    obtain ⟨x8, q9, hh⟩ := db hh
    refine dq_aN 13 (by decide +kernel) rfl q9 ?_
    obtain ⟨p10, q11, hh⟩ := db hh
    obtain ⟨a12, q13, q11⟩ := db q11
    rw [dq_xR q11] at q13
    refine dq_cst hD 26 5 0 1 [.int x8] [] 16 [va_rf p10.1] (by decide +kernel) ap_5 ⟨⟨Nat.le_of_ble_eq_true rfl, by decide⟩, rfl, rfl⟩ (dq_ok8 [1] [] (dc_i dc_n) dc_n (by decide +kernel)) (by decide +kernel) rfl q13 rfl ?_
    refine dq_asn 1 17 (by decide +kernel) (by decide +kernel) ?_
    have g14 := dg_ne (i := 1) (u := va_rf p10.1) (by decide) (Or.inr (drc _)) G0
    have g15 := dg_eq (lv) 1 (va_rf p10.1)
    refine dq_aln 0 18 (by decide +kernel) rfl g14 ?_
    obtain ⟨p16, q17, hh⟩ := db hh
    refine dq_gR 15 0 [1] 21 (by decide +kernel) rfl q17 ?_
    refine dq_S (.iconst 0) 1 [] 22 _ [.int 0, va_rf p16] (by decide +kernel) rfl ?_
    refine dq_aln 1 23 (by decide +kernel) rfl g15 ?_
    refine dq_S (.iconst 0) 1 [] 24 _ [.int 0, va_rf p10.1, .int 0, va_rf p16] (by decide +kernel) rfl ?_
    refine dq_aln 0 25 (by decide +kernel) rfl g14 ?_
    obtain ⟨x18, q19, hh⟩ := db hh
    refine dq_gI 79 3 [1] 28 (by decide +kernel) rfl q19 ?_
    obtain ⟨h20, q21, hh⟩ := db hh
    obtain ⟨a22, q23, q21⟩ := db q21
    rw [dq_xV q21] at q23
    refine dq_cst hD 125 25 0 5 [va_rf p16, .int 0, va_rf p10.1, .int 0, .int x18] [] 31 [] (by decide +kernel) ap_25 ⟨⟨Nat.le_of_ble_eq_true rfl, by decide⟩, rfl, rfl⟩ (dq_ok8 [1, 1, 1, 1, 1] [] (dc_r (dc_i (dc_r (dc_i (dc_i dc_n))))) dc_n (by decide +kernel)) (by decide +kernel) rfl q23 rfl ?_
    refine dq_aln 0 32 (by decide +kernel) rfl g14 ?_
    refine dq_aln 1 33 (by decide +kernel) rfl g15 ?_
    obtain ⟨h24, q25, hh⟩ := db hh
    refine dq_put 15 0 [1] 36 (by decide +kernel) rfl q25 ?_
    refine dq_aln 0 37 (by decide +kernel) rfl g14 ?_
    refine dq_S (.iconst 1) 1 [] 38 _ [.int 1, va_rf o0] (by decide +kernel) rfl ?_
    obtain ⟨h26, q27, hh⟩ := db hh
    refine dq_put 22 1 [1] 41 (by decide +kernel) rfl q27 ?_
    cases hh
    exact dq_ret0 (by decide +kernel) rfl
  · refine dq_1 .ne 4 false 7 q5 (by decide +kernel) ?_
    cases hh
    exact dq_ret0 (by decide +kernel) rfl
def f24 (L : Nat) (xs : Nat → Int32) (zf : Value) (D : dD) (w : Nat) (As : List Value) (h : rm_H) : Option dR := match As with
  | [v0] => (rm_rf v0).bind fun o0 => b24_0 L xs zf D w o0 h
  | _ => none
theorem d24 {L : Nat} {xs : Nat → Int32} {zf : Value} {D : dD} {w k : Nat} (hD : dO L xs zf D k) (hz : zf.category = 1) (As : List Value) (h : rm_H) (r : dR) (hh : f24 L xs zf D w As h = some r) : dq L xs zf ah_M24 0 (lv_args 0 As) [] h (k + 1) r := by
  unfold f24 at hh
  split at hh
  · obtain ⟨o0, e0, hb0⟩ := db hh
    have e0 := rm_rf_v _ _ e0
    subst e0
    refine c24_0 hD hz _ _ _ _ ?_ hb0
    all_goals (simp only [la_r, la_i, la_j]; rfl)
  · cases hh
def b25_0 (L : Nat) (xs : Nat → Int32) (zf : Value) (D : dD) (w : Nat) (o0 : Option Nat) (i1 : Int32) (o2 : Option Nat) (i3 : Int32) (i4 : Int32) (h : rm_H) : Option dR :=
  ((D 26 [va_rf o0, .int i1, va_rf o2, .int i3, .int i4] h).bind dxV).bind fun h1 =>
  some (none, h1)
theorem c25_0 {L : Nat} {xs : Nat → Int32} {zf : Value} {D : dD} {w k : Nat} (hD : dO L xs zf D k) (hz : zf.category = 1) : ∀ (o0 : Option Nat) (i1 : Int32) (o2 : Option Nat) (i3 : Int32) (i4 : Int32) (lv : rm_L) (h : rm_H) (r : dR), rm_get lv 0 = some (va_rf o0) → rm_get lv 1 = some (.int i1) → rm_get lv 2 = some (va_rf o2) → rm_get lv 3 = some (.int i3) → rm_get lv 4 = some (.int i4) → b25_0 L xs zf D w  o0 i1 o2 i3 i4 h = some r → dq L xs zf ah_M25 0 lv [] h (k + 1) r := by
  intro o0 i1 o2 i3 i4 lv h r G0 G1 G2 G3 G4 hh
  unfold b25_0 at hh
  refine dq_aln 0 1 (by decide +kernel) rfl G0 ?_
  refine dq_iln 1 2 (by decide +kernel) rfl G1 ?_
  refine dq_aln 2 3 (by decide +kernel) rfl G2 ?_
  refine dq_iln 3 4 (by decide +kernel) rfl G3 ?_
  refine dq_il 4 6 (by decide +kernel) rfl G4 ?_
  obtain ⟨h1, q2, hh⟩ := db hh
  obtain ⟨a3, q4, q2⟩ := db q2
  rw [dq_xV q2] at q4
  refine dq_cst hD 240 26 0 5 [va_rf o0, .int i1, va_rf o2, .int i3, .int i4] [] 9 [] (by decide +kernel) ap_26 ⟨⟨Nat.le_of_ble_eq_true rfl, by decide⟩, rfl, rfl⟩ (dq_ok8 [1, 1, 1, 1, 1] [] (dc_r (dc_i (dc_r (dc_i (dc_i dc_n))))) dc_n (by decide +kernel)) (by decide +kernel) rfl q4 rfl ?_
  cases hh
  exact dq_ret0 (by decide +kernel) rfl
def f25 (L : Nat) (xs : Nat → Int32) (zf : Value) (D : dD) (w : Nat) (As : List Value) (h : rm_H) : Option dR := match As with
  | [v0, .int i1, v2, .int i3, .int i4] => (rm_rf v0).bind fun o0 => (rm_rf v2).bind fun o2 => b25_0 L xs zf D w o0 i1 o2 i3 i4 h
  | _ => none
theorem d25 {L : Nat} {xs : Nat → Int32} {zf : Value} {D : dD} {w k : Nat} (hD : dO L xs zf D k) (hz : zf.category = 1) (As : List Value) (h : rm_H) (r : dR) (hh : f25 L xs zf D w As h = some r) : dq L xs zf ah_M25 0 (lv_args 0 As) [] h (k + 1) r := by
  unfold f25 at hh
  split at hh
  · obtain ⟨o0, e0, hb0⟩ := db hh
    have e0 := rm_rf_v _ _ e0
    obtain ⟨o2, e2, hb2⟩ := db hb0
    have e2 := rm_rf_v _ _ e2
    subst e0 e2
    refine c25_0 hD hz _ _ _ _ _ _ _ _ ?_ ?_ ?_ ?_ ?_ hb2
    all_goals (simp only [la_r, la_i, la_j]; rfl)
  · cases hh
def b26_10 (L : Nat) (xs : Nat → Int32) (zf : Value) (D : dD) (w : Nat) : Nat → Option Nat → Int32 → Option Nat → Int32 → Int32 → Int32 → rm_H → Option dR
  | 0, _, _, _, _, _, _, _ => none
  | n + 1, o0, i1, o2, i3, i4, i5, h =>
    if mx_f2 .ge i5 i4 = true then
      some (none, h)
    else
      (daB L xs h o0 i1).bind fun x14 =>
      ((D 31 [va_rf o2, .int i3, .int (x14 &&& 255)] h).bind dxV).bind fun h16 =>
      b26_10 L xs zf D w n o0 (i1 + 1) o2 (i3 + 1) i4 (i5 + 1) h16
theorem c26_10 {L : Nat} {xs : Nat → Int32} {zf : Value} {D : dD} {w k : Nat} (hD : dO L xs zf D k) (hz : zf.category = 1) : ∀ (n : Nat) (o0 : Option Nat) (i1 : Int32) (o2 : Option Nat) (i3 : Int32) (i4 : Int32) (i5 : Int32) (lv : rm_L) (h : rm_H) (r : dR), rm_get lv 0 = some (va_rf o0) → rm_get lv 1 = some (.int i1) → rm_get lv 2 = some (va_rf o2) → rm_get lv 3 = some (.int i3) → rm_get lv 4 = some (.int i4) → rm_get lv 5 = some (.int i5) → b26_10 L xs zf D w n  o0 i1 o2 i3 i4 i5 h = some r → dq L xs zf ah_M26 10 lv [] h (k + 1) r := by
  intro n
  induction n with
  | zero =>
    intro o0 i1 o2 i3 i4 i5 lv h r G0 G1 G2 G3 G4 G5 hh
    cases hh
  | succ n ih =>
    intro o0 i1 o2 i3 i4 i5 lv h r G0 G1 G2 G3 G4 G5 hh
    rw [b26_10] at hh
    refine dq_il 5 12 (by decide +kernel) rfl G5 ?_
    refine dq_il 4 14 (by decide +kernel) rfl G4 ?_
    rcases di hh with ⟨q1, hh⟩ | ⟨q1, hh⟩
    · refine dq_2 .ge 27 true 41 q1 (by decide +kernel) ?_
      cases hh
      exact dq_ret0 (by decide +kernel) rfl
    · refine dq_2 .ge 27 false 17 q1 (by decide +kernel) ?_
      refine dq_aln 2 18 (by decide +kernel) rfl G2 ?_
      refine dq_iln 3 19 (by decide +kernel) rfl G3 ?_
      refine dq_incy 3 1 1 22 (by decide +kernel) ⟨rfl, by decide +kernel, by decide +kernel⟩ G3 ?_
      have g2 := dg_ne (i := 3) (u := .int (i3 + 1)) (by decide) (Or.inl (by decide)) G0
      have g3 := dg_ne (i := 3) (u := .int (i3 + 1)) (by decide) (Or.inl (by decide)) G1
      have g4 := dg_ne (i := 3) (u := .int (i3 + 1)) (by decide) (Or.inr (drc _)) G2
      have g5 := dg_ne (i := 3) (u := .int (i3 + 1)) (by decide) (Or.inl (by decide)) G4
      have g6 := dg_ne (i := 3) (u := .int (i3 + 1)) (by decide) (Or.inl (by decide)) G5
      have g7 := dg_eq (lv) 3 (.int (i3 + 1))
      refine dq_aln 0 23 (by decide +kernel) rfl g2 ?_
      refine dq_iln 1 24 (by decide +kernel) rfl g3 ?_
      refine dq_incy 1 1 1 27 (by decide +kernel) ⟨rfl, by decide +kernel, by decide +kernel⟩ g3 ?_
      have g8 := dg_ne (i := 1) (u := .int (i1 + 1)) (by decide) (Or.inr (drc _)) g2
      have g9 := dg_ne (i := 1) (u := .int (i1 + 1)) (by decide) (Or.inl (by decide)) g4
      have g10 := dg_ne (i := 1) (u := .int (i1 + 1)) (by decide) (Or.inl (by decide)) g5
      have g11 := dg_ne (i := 1) (u := .int (i1 + 1)) (by decide) (Or.inl (by decide)) g6
      have g12 := dg_ne (i := 1) (u := .int (i1 + 1)) (by decide) (Or.inl (by decide)) g7
      have g13 := dg_eq (rm_set1 (lv) 3 (.int (i3 + 1))) 1 (.int (i1 + 1))
      obtain ⟨x14, q15, hh⟩ := db hh
      refine dq_aB 28 (by decide +kernel) rfl q15 ?_
      refine dq_S (.sipush 255) 3 [] 31 _ [.int 255, .int x14, .int i3, va_rf o2] (by decide +kernel) rfl ?_
      refine dq_S (.iand) 1 [] 32 _ [.int (x14 &&& 255), .int i3, va_rf o2] (by decide +kernel) rfl ?_
      obtain ⟨h16, q17, hh⟩ := db hh
      obtain ⟨a18, q19, q17⟩ := db q17
      rw [dq_xV q17] at q19
      refine dq_cst hD 111 31 0 3 [va_rf o2, .int i3, .int (x14 &&& 255)] [] 35 [] (by decide +kernel) ap_31 ⟨⟨Nat.le_of_ble_eq_true rfl, by decide⟩, rfl, rfl⟩ (dq_ok8 [1, 1, 1] [] (dc_r (dc_i (dc_i dc_n))) dc_n (by decide +kernel)) (by decide +kernel) rfl q19 rfl ?_
      refine dq_incy 5 1 1 38 (by decide +kernel) ⟨rfl, by decide +kernel, by decide +kernel⟩ g11 ?_
      have g20 := dg_ne (i := 5) (u := .int (i5 + 1)) (by decide) (Or.inl (by decide)) g8
      have g21 := dg_ne (i := 5) (u := .int (i5 + 1)) (by decide) (Or.inl (by decide)) g9
      have g22 := dg_ne (i := 5) (u := .int (i5 + 1)) (by decide) (Or.inr rfl) g10
      have g23 := dg_ne (i := 5) (u := .int (i5 + 1)) (by decide) (Or.inl (by decide)) g12
      have g24 := dg_ne (i := 5) (u := .int (i5 + 1)) (by decide) (Or.inl (by decide)) g13
      have g25 := dg_eq (rm_set1 (rm_set1 (lv) 3 (.int (i3 + 1))) 1 (.int (i1 + 1))) 5 (.int (i5 + 1))
      refine dq_S (.goto (-28)) 3 [] 10 _ [] (by decide +kernel) rfl ?_
      exact ih _ _ _ _ _ _ _ _ _ g20 g24 g21 g23 g22 g25 hh
def b26_0 (L : Nat) (xs : Nat → Int32) (zf : Value) (D : dD) (w : Nat) (o0 : Option Nat) (i1 : Int32) (o2 : Option Nat) (i3 : Int32) (i4 : Int32) (h : rm_H) : Option dR :=
  ((D 27 [.int i3, .int i4, va_rf o2] h).bind dxV).bind fun h1 =>
  b26_10 L xs zf D w w o0 i1 o2 i3 i4 0 h1
theorem c26_0 {L : Nat} {xs : Nat → Int32} {zf : Value} {D : dD} {w k : Nat} (hD : dO L xs zf D k) (hz : zf.category = 1) : ∀ (o0 : Option Nat) (i1 : Int32) (o2 : Option Nat) (i3 : Int32) (i4 : Int32) (lv : rm_L) (h : rm_H) (r : dR), rm_get lv 0 = some (va_rf o0) → rm_get lv 1 = some (.int i1) → rm_get lv 2 = some (va_rf o2) → rm_get lv 3 = some (.int i3) → rm_get lv 4 = some (.int i4) → b26_0 L xs zf D w  o0 i1 o2 i3 i4 h = some r → dq L xs zf ah_M26 0 lv [] h (k + 1) r := by
  intro o0 i1 o2 i3 i4 lv h r G0 G1 G2 G3 G4 hh
  unfold b26_0 at hh
  refine dq_iln 3 1 (by decide +kernel) rfl G3 ?_
  refine dq_il 4 3 (by decide +kernel) rfl G4 ?_
  refine dq_aln 2 4 (by decide +kernel) rfl G2 ?_
  obtain ⟨h1, q2, hh⟩ := db hh
  obtain ⟨a3, q4, q2⟩ := db q2
  rw [dq_xV q2] at q4
  refine dq_cst hD 173 27 0 3 [.int i3, .int i4, va_rf o2] [] 7 [] (by decide +kernel) ap_27 ⟨⟨Nat.le_of_ble_eq_true rfl, by decide⟩, rfl, rfl⟩ (dq_ok8 [1, 1, 1] [] (dc_i (dc_i (dc_r dc_n))) dc_n (by decide +kernel)) (by decide +kernel) rfl q4 rfl ?_
  refine dq_S (.iconst 0) 1 [] 8 _ [.int 0] (by decide +kernel) rfl ?_
  refine dq_is 5 10 (by decide +kernel) (by decide +kernel) ?_
  have g5 := dg_ne (i := 5) (u := .int 0) (by decide) (Or.inl (by decide)) G0
  have g6 := dg_ne (i := 5) (u := .int 0) (by decide) (Or.inl (by decide)) G1
  have g7 := dg_ne (i := 5) (u := .int 0) (by decide) (Or.inl (by decide)) G2
  have g8 := dg_ne (i := 5) (u := .int 0) (by decide) (Or.inl (by decide)) G3
  have g9 := dg_ne (i := 5) (u := .int 0) (by decide) (Or.inr rfl) G4
  have g10 := dg_eq (lv) 5 (.int 0)
  exact c26_10 hD hz _ _ _ _ _ _ _ _ _ _ g5 g6 g7 g8 g9 g10 hh
def f26 (L : Nat) (xs : Nat → Int32) (zf : Value) (D : dD) (w : Nat) (As : List Value) (h : rm_H) : Option dR := match As with
  | [v0, .int i1, v2, .int i3, .int i4] => (rm_rf v0).bind fun o0 => (rm_rf v2).bind fun o2 => b26_0 L xs zf D w o0 i1 o2 i3 i4 h
  | _ => none
theorem d26 {L : Nat} {xs : Nat → Int32} {zf : Value} {D : dD} {w k : Nat} (hD : dO L xs zf D k) (hz : zf.category = 1) (As : List Value) (h : rm_H) (r : dR) (hh : f26 L xs zf D w As h = some r) : dq L xs zf ah_M26 0 (lv_args 0 As) [] h (k + 1) r := by
  unfold f26 at hh
  split at hh
  · obtain ⟨o0, e0, hb0⟩ := db hh
    have e0 := rm_rf_v _ _ e0
    obtain ⟨o2, e2, hb2⟩ := db hb0
    have e2 := rm_rf_v _ _ e2
    subst e0 e2
    refine c26_0 hD hz _ _ _ _ _ _ _ _ ?_ ?_ ?_ ?_ ?_ hb2
    all_goals (simp only [la_r, la_i, la_j]; rfl)
  · cases hh
def b27_0 (L : Nat) (xs : Nat → Int32) (zf : Value) (D : dD) (w : Nat) (i0 : Int32) (i1 : Int32) (o2 : Option Nat) (h : rm_H) : Option dR :=
  ((D 28 [va_rf o2] h).bind dxI).bind fun x1 =>
  ((D 29 [.int i0, .int i1, .int x1.1] x1.2).bind dxI).bind fun x5 =>
  some (none, x5.2)
theorem c27_0 {L : Nat} {xs : Nat → Int32} {zf : Value} {D : dD} {w k : Nat} (hD : dO L xs zf D k) (hz : zf.category = 1) : ∀ (i0 : Int32) (i1 : Int32) (o2 : Option Nat) (lv : rm_L) (h : rm_H) (r : dR), rm_get lv 0 = some (.int i0) → rm_get lv 1 = some (.int i1) → rm_get lv 2 = some (va_rf o2) → b27_0 L xs zf D w  i0 i1 o2 h = some r → dq L xs zf ah_M27 0 lv [] h (k + 1) r := by
  intro i0 i1 o2 lv h r G0 G1 G2 hh
  unfold b27_0 at hh
  refine dq_iln 0 1 (by decide +kernel) rfl G0 ?_
  refine dq_iln 1 2 (by decide +kernel) rfl G1 ?_
  refine dq_aln 2 3 (by decide +kernel) rfl G2 ?_
  obtain ⟨x1, q2, hh⟩ := db hh
  obtain ⟨a3, q4, q2⟩ := db q2
  rw [dq_xI q2] at q4
  refine dq_cst hD 48 28 0 1 [va_rf o2] [.int i1, .int i0] 6 [.int x1.1, .int i1, .int i0] (by decide +kernel) ap_28 ⟨⟨Nat.le_of_ble_eq_true rfl, by decide⟩, rfl, rfl⟩ (dq_ok8 [1] [1, 1] (dc_r dc_n) (dc_i (dc_i dc_n)) (by decide +kernel)) (by decide +kernel) rfl q4 rfl ?_
  obtain ⟨x5, q6, hh⟩ := db hh
  obtain ⟨a7, q8, q6⟩ := db q6
  rw [dq_xI q6] at q8
  refine dq_cst hD 419 29 0 3 [.int i0, .int i1, .int x1.1] [] 9 [.int x5.1] (by decide +kernel) ap_29 ⟨⟨Nat.le_of_ble_eq_true rfl, by decide⟩, rfl, rfl⟩ (dq_ok8 [1, 1, 1] [] (dc_i (dc_i (dc_i dc_n))) dc_n (by decide +kernel)) (by decide +kernel) rfl q8 rfl ?_
  refine dq_S (.pop) 1 [] 10 _ [] (by decide +kernel) rfl ?_
  cases hh
  exact dq_ret0 (by decide +kernel) rfl
def f27 (L : Nat) (xs : Nat → Int32) (zf : Value) (D : dD) (w : Nat) (As : List Value) (h : rm_H) : Option dR := match As with
  | [.int i0, .int i1, v2] => (rm_rf v2).bind fun o2 => b27_0 L xs zf D w i0 i1 o2 h
  | _ => none
theorem d27 {L : Nat} {xs : Nat → Int32} {zf : Value} {D : dD} {w k : Nat} (hD : dO L xs zf D k) (hz : zf.category = 1) (As : List Value) (h : rm_H) (r : dR) (hh : f27 L xs zf D w As h = some r) : dq L xs zf ah_M27 0 (lv_args 0 As) [] h (k + 1) r := by
  unfold f27 at hh
  split at hh
  · obtain ⟨o2, e2, hb2⟩ := db hh
    have e2 := rm_rf_v _ _ e2
    subst e2
    refine c27_0 hD hz _ _ _ _ _ _ ?_ ?_ ?_ hb2
    all_goals (simp only [la_r, la_i, la_j]; rfl)
  · cases hh
def b28_0 (L : Nat) (xs : Nat → Int32) (zf : Value) (D : dD) (w : Nat) (o0 : Option Nat) (h : rm_H) : Option dR :=
  (daN L xs h o0).bind fun x1 =>
  drI (some .int) (x1 >>> ((1 : Int32) &&& 31)) h
theorem c28_0 {L : Nat} {xs : Nat → Int32} {zf : Value} {D : dD} {w k : Nat} (hD : dO L xs zf D k) (hz : zf.category = 1) : ∀ (o0 : Option Nat) (lv : rm_L) (h : rm_H) (r : dR), rm_get lv 0 = some (va_rf o0) → b28_0 L xs zf D w  o0 h = some r → dq L xs zf ah_M28 0 lv [] h (k + 1) r := by
  intro o0 lv h r G0 hh
  unfold b28_0 at hh
  refine dq_aln 0 1 (by decide +kernel) rfl G0 ?_
  obtain ⟨x1, q2, hh⟩ := db hh
  refine dq_aN 2 (by decide +kernel) rfl q2 ?_
  refine dq_S (.iconst 1) 1 [] 3 _ [.int 1, .int x1] (by decide +kernel) rfl ?_
  refine dq_S (.ishr) 1 [] 4 _ [.int (x1 >>> ((1 : Int32) &&& 31))] (by decide +kernel) rfl ?_
  exact dq_retI (some .int) (by decide +kernel) rfl hh
def f28 (L : Nat) (xs : Nat → Int32) (zf : Value) (D : dD) (w : Nat) (As : List Value) (h : rm_H) : Option dR := match As with
  | [v0] => (rm_rf v0).bind fun o0 => b28_0 L xs zf D w o0 h
  | _ => none
theorem d28 {L : Nat} {xs : Nat → Int32} {zf : Value} {D : dD} {w k : Nat} (hD : dO L xs zf D k) (hz : zf.category = 1) (As : List Value) (h : rm_H) (r : dR) (hh : f28 L xs zf D w As h = some r) : dq L xs zf ah_M28 0 (lv_args 0 As) [] h (k + 1) r := by
  unfold f28 at hh
  split at hh
  · obtain ⟨o0, e0, hb0⟩ := db hh
    have e0 := rm_rf_v _ _ e0
    subst e0
    refine c28_0 hD hz _ _ _ _ ?_ hb0
    all_goals (simp only [la_r, la_i, la_j]; rfl)
  · cases hh
def b29_0 (L : Nat) (xs : Nat → Int32) (zf : Value) (D : dD) (w : Nat) (i0 : Int32) (i1 : Int32) (i2 : Int32) (h : rm_H) : Option dR :=
  ((D 30 [.int i0, .int i1, .int i2, zf] h).bind dxI).bind fun x1 =>
  drI (some .int) x1.1 x1.2
theorem c29_0 {L : Nat} {xs : Nat → Int32} {zf : Value} {D : dD} {w k : Nat} (hD : dO L xs zf D k) (hz : zf.category = 1) : ∀ (i0 : Int32) (i1 : Int32) (i2 : Int32) (lv : rm_L) (h : rm_H) (r : dR), rm_get lv 0 = some (.int i0) → rm_get lv 1 = some (.int i1) → rm_get lv 2 = some (.int i2) → b29_0 L xs zf D w  i0 i1 i2 h = some r → dq L xs zf ah_M29 0 lv [] h (k + 1) r := by
  intro i0 i1 i2 lv h r G0 G1 G2 hh
  unfold b29_0 at hh
  refine dq_iln 0 1 (by decide +kernel) rfl G0 ?_
  refine dq_iln 1 2 (by decide +kernel) rfl G1 ?_
  refine dq_iln 2 3 (by decide +kernel) rfl G2 ?_
  refine dq_S (.getstatic 1053) 3 [1] 6 _ [zf, .int i2, .int i1, .int i0] (by decide +kernel) rfl ?_
  obtain ⟨x1, q2, hh⟩ := db hh
  obtain ⟨a3, q4, q2⟩ := db q2
  rw [dq_xI q2] at q4
  refine dq_cst hD 1065 30 0 4 [.int i0, .int i1, .int i2, zf] [] 9 [.int x1.1] (by decide +kernel) ap_30 ⟨⟨Nat.le_of_ble_eq_true rfl, by decide⟩, rfl, rfl⟩ (dq_ok8 [1, 1, 1, 1] [] (dc_i (dc_i (dc_i (dc_v hz dc_n)))) dc_n (by decide +kernel)) (by decide +kernel) rfl q4 rfl ?_
  exact dq_retI (some .int) (by decide +kernel) rfl hh
def f29 (L : Nat) (xs : Nat → Int32) (zf : Value) (D : dD) (w : Nat) (As : List Value) (h : rm_H) : Option dR := match As with
  | [.int i0, .int i1, .int i2] => b29_0 L xs zf D w i0 i1 i2 h
  | _ => none
theorem d29 {L : Nat} {xs : Nat → Int32} {zf : Value} {D : dD} {w k : Nat} (hD : dO L xs zf D k) (hz : zf.category = 1) (As : List Value) (h : rm_H) (r : dR) (hh : f29 L xs zf D w As h = some r) : dq L xs zf ah_M29 0 (lv_args 0 As) [] h (k + 1) r := by
  unfold f29 at hh
  split at hh
  · refine c29_0 hD hz _ _ _ _ _ _ ?_ ?_ ?_ hh
    all_goals (simp only [la_r, la_i, la_j]; rfl)
  · cases hh
def b30_0 (L : Nat) (xs : Nat → Int32) (zf : Value) (D : dD) (w : Nat) (i0 : Int32) (i1 : Int32) (i2 : Int32) (h : rm_H) : Option dR :=
  if mx_f1 .lt ((i2 ||| i0) ||| i1) = true then
    none
  else
    if mx_f2 .le i1 (i2 - i0) = true then
      drI (some .int) i0 h
    else
      none
theorem c30_0 {L : Nat} {xs : Nat → Int32} {zf : Value} {D : dD} {w k : Nat} (hD : dO L xs zf D k) (hz : zf.category = 1) : ∀ (i0 : Int32) (i1 : Int32) (i2 : Int32) (lv : rm_L) (h : rm_H) (r : dR), rm_get lv 0 = some (.int i0) → rm_get lv 1 = some (.int i1) → rm_get lv 2 = some (.int i2) → b30_0 L xs zf D w  i0 i1 i2 h = some r → dq L xs zf ah_M30 0 lv [] h (k + 1) r := by
  intro i0 i1 i2 lv h r G0 G1 G2 hh
  unfold b30_0 at hh
  refine dq_iln 2 1 (by decide +kernel) rfl G2 ?_
  refine dq_iln 0 2 (by decide +kernel) rfl G0 ?_
  refine dq_S (.ior) 1 [] 3 _ [.int (i2 ||| i0)] (by decide +kernel) rfl ?_
  refine dq_iln 1 4 (by decide +kernel) rfl G1 ?_
  refine dq_S (.ior) 1 [] 5 _ [.int ((i2 ||| i0) ||| i1)] (by decide +kernel) rfl ?_
  rcases di hh with ⟨q1, hh⟩ | ⟨q1, hh⟩
  · refine dq_1 .lt 10 true 15 q1 (by decide +kernel) ?_
    cases hh
  · refine dq_1 .lt 10 false 8 q1 (by decide +kernel) ?_
    refine dq_iln 1 9 (by decide +kernel) rfl G1 ?_
    refine dq_iln 2 10 (by decide +kernel) rfl G2 ?_
    refine dq_iln 0 11 (by decide +kernel) rfl G0 ?_
    refine dq_S (.isub) 1 [] 12 _ [.int (i2 - i0), .int i1] (by decide +kernel) rfl ?_
    rcases di hh with ⟨q2, hh⟩ | ⟨q2, hh⟩
    · refine dq_2 .le 11 true 23 q2 (by decide +kernel) ?_
      refine dq_iln 0 24 (by decide +kernel) rfl G0 ?_
      exact dq_retI (some .int) (by decide +kernel) rfl hh
    · refine dq_2 .le 11 false 15 q2 (by decide +kernel) ?_
      cases hh
def f30 (L : Nat) (xs : Nat → Int32) (zf : Value) (D : dD) (w : Nat) (As : List Value) (h : rm_H) : Option dR := match As with
  | [.int i0, .int i1, .int i2, u3] => b30_0 L xs zf D w i0 i1 i2 h
  | _ => none
theorem d30 {L : Nat} {xs : Nat → Int32} {zf : Value} {D : dD} {w k : Nat} (hD : dO L xs zf D k) (hz : zf.category = 1) (As : List Value) (h : rm_H) (r : dR) (hh : f30 L xs zf D w As h = some r) : dq L xs zf ah_M30 0 (lv_args 0 As) [] h (k + 1) r := by
  unfold f30 at hh
  split at hh
  · refine c30_0 hD hz _ _ _ _ _ _ ?_ ?_ ?_ hh
    all_goals (simp only [la_r, la_i, la_j]; rfl)
  · cases hh
def b31_28 (L : Nat) (xs : Nat → Int32) (zf : Value) (D : dD) (w : Nat) (o0 : Option Nat) (i1 : Int32) (i2 : Int32) (h : rm_H) : Option dR :=
  (dsB h o0 (i1 <<< ((1 : Int32) &&& 31)) (Int8.toInt32 (Int32.toInt8 (i2 >>> ((0 : Int32) &&& 31))))).bind fun h7 =>
  (dsB h7 o0 ((i1 <<< ((1 : Int32) &&& 31)) + 1) (Int8.toInt32 (Int32.toInt8 (i2 >>> ((8 : Int32) &&& 31))))).bind fun h9 =>
  some (none, h9)
theorem c31_28 {L : Nat} {xs : Nat → Int32} {zf : Value} {D : dD} {w k : Nat} (hD : dO L xs zf D k) (hz : zf.category = 1) : ∀ (o0 : Option Nat) (i1 : Int32) (i2 : Int32) (lv : rm_L) (h : rm_H) (r : dR), rm_get lv 0 = some (va_rf o0) → rm_get lv 1 = some (.int i1) → rm_get lv 2 = some (.int i2) → b31_28 L xs zf D w  o0 i1 i2 h = some r → dq L xs zf ah_M31 28 lv [] h (k + 1) r := by
  intro o0 i1 i2 lv h r G0 G1 G2 hh
  unfold b31_28 at hh
  refine dq_iln 1 29 (by decide +kernel) rfl G1 ?_
  refine dq_S (.iconst 1) 1 [] 30 _ [.int 1, .int i1] (by decide +kernel) rfl ?_
  refine dq_S (.ishl) 1 [] 31 _ [.int (i1 <<< ((1 : Int32) &&& 31))] (by decide +kernel) rfl ?_
  refine dq_isn 1 32 (by decide +kernel) (by decide +kernel) ?_
  have g1 := dg_ne (i := 1) (u := .int (i1 <<< ((1 : Int32) &&& 31))) (by decide) (Or.inr (drc _)) G0
  have g2 := dg_ne (i := 1) (u := .int (i1 <<< ((1 : Int32) &&& 31))) (by decide) (Or.inl (by decide)) G2
  have g3 := dg_eq (lv) 1 (.int (i1 <<< ((1 : Int32) &&& 31)))
  refine dq_aln 0 33 (by decide +kernel) rfl g1 ?_
  refine dq_iln 1 34 (by decide +kernel) rfl g3 ?_
  refine dq_incy 1 1 1 37 (by decide +kernel) ⟨rfl, by decide +kernel, by decide +kernel⟩ g3 ?_
  have g4 := dg_ne (i := 1) (u := .int ((i1 <<< ((1 : Int32) &&& 31)) + 1)) (by decide) (Or.inr (drc _)) g1
  have g5 := dg_ne (i := 1) (u := .int ((i1 <<< ((1 : Int32) &&& 31)) + 1)) (by decide) (Or.inl (by decide)) g2
  have g6 := dg_eq (rm_set1 (lv) 1 (.int (i1 <<< ((1 : Int32) &&& 31)))) 1 (.int ((i1 <<< ((1 : Int32) &&& 31)) + 1))
  refine dq_iln 2 38 (by decide +kernel) rfl g5 ?_
  refine dq_S (.getstatic 59) 3 [3] 41 _ [.int 0, .int i2, .int (i1 <<< ((1 : Int32) &&& 31)), va_rf o0] (by decide +kernel) rfl ?_
  refine dq_S (.ishr) 1 [] 42 _ [.int (i2 >>> ((0 : Int32) &&& 31)), .int (i1 <<< ((1 : Int32) &&& 31)), va_rf o0] (by decide +kernel) rfl ?_
  refine dq_S (.i2b) 1 [] 43 _ [.int (Int8.toInt32 (Int32.toInt8 (i2 >>> ((0 : Int32) &&& 31)))), .int (i1 <<< ((1 : Int32) &&& 31)), va_rf o0] (by decide +kernel) rfl ?_
  obtain ⟨h7, q8, hh⟩ := db hh
  refine dq_sB1 44 (by decide +kernel) rfl q8 ?_
  refine dq_aln 0 45 (by decide +kernel) rfl g4 ?_
  refine dq_iln 1 46 (by decide +kernel) rfl g6 ?_
  refine dq_iln 2 47 (by decide +kernel) rfl g5 ?_
  refine dq_S (.getstatic 63) 3 [4] 50 _ [.int 8, .int i2, .int ((i1 <<< ((1 : Int32) &&& 31)) + 1), va_rf o0] (by decide +kernel) rfl ?_
  refine dq_S (.ishr) 1 [] 51 _ [.int (i2 >>> ((8 : Int32) &&& 31)), .int ((i1 <<< ((1 : Int32) &&& 31)) + 1), va_rf o0] (by decide +kernel) rfl ?_
  refine dq_S (.i2b) 1 [] 52 _ [.int (Int8.toInt32 (Int32.toInt8 (i2 >>> ((8 : Int32) &&& 31)))), .int ((i1 <<< ((1 : Int32) &&& 31)) + 1), va_rf o0] (by decide +kernel) rfl ?_
  obtain ⟨h9, q10, hh⟩ := db hh
  refine dq_sB1 53 (by decide +kernel) rfl q10 ?_
  cases hh
  exact dq_ret0 (by decide +kernel) rfl
def b31_0 (L : Nat) (xs : Nat → Int32) (zf : Value) (D : dD) (w : Nat) (o0 : Option Nat) (i1 : Int32) (i2 : Int32) (h : rm_H) : Option dR :=
  if mx_f1 .ne 1 = true then
    b31_28 L xs zf D w o0 i1 i2 h
  else
    if mx_f1 .lt i1 = true then
      none
    else
      ((D 28 [va_rf o0] h).bind dxI).bind fun x3 =>
      if mx_f2 .lt i1 x3.1 = true then
        b31_28 L xs zf D w o0 i1 i2 x3.2
      else
        none
theorem c31_0 {L : Nat} {xs : Nat → Int32} {zf : Value} {D : dD} {w k : Nat} (hD : dO L xs zf D k) (hz : zf.category = 1) : ∀ (o0 : Option Nat) (i1 : Int32) (i2 : Int32) (lv : rm_L) (h : rm_H) (r : dR), rm_get lv 0 = some (va_rf o0) → rm_get lv 1 = some (.int i1) → rm_get lv 2 = some (.int i2) → b31_0 L xs zf D w  o0 i1 i2 h = some r → dq L xs zf ah_M31 0 lv [] h (k + 1) r := by
  intro o0 i1 i2 lv h r G0 G1 G2 hh
  unfold b31_0 at hh
  refine dq_S (.getstatic 44) 3 [2] 3 _ [.int 1] (by decide +kernel) rfl ?_
  rcases di hh with ⟨q1, hh⟩ | ⟨q1, hh⟩
  · refine dq_1 .ne 25 true 28 q1 (by decide +kernel) ?_
    exact c31_28 hD hz _ _ _ _ _ _ G0 G1 G2 hh
  · refine dq_1 .ne 25 false 6 q1 (by decide +kernel) ?_
    refine dq_iln 1 7 (by decide +kernel) rfl G1 ?_
    rcases di hh with ⟨q2, hh⟩ | ⟨q2, hh⟩
    · refine dq_1 .lt 11 true 18 q2 (by decide +kernel) ?_
      cases hh
    · refine dq_1 .lt 11 false 10 q2 (by decide +kernel) ?_
      refine dq_iln 1 11 (by decide +kernel) rfl G1 ?_
      refine dq_aln 0 12 (by decide +kernel) rfl G0 ?_
      obtain ⟨x3, q4, hh⟩ := db hh
      obtain ⟨a5, q6, q4⟩ := db q4
      rw [dq_xI q4] at q6
      refine dq_cst hD 48 28 0 1 [va_rf o0] [.int i1] 15 [.int x3.1, .int i1] (by decide +kernel) ap_28 ⟨⟨Nat.le_of_ble_eq_true rfl, by decide⟩, rfl, rfl⟩ (dq_ok8 [1] [1] (dc_r dc_n) (dc_i dc_n) (by decide +kernel)) (by decide +kernel) rfl q6 rfl ?_
      rcases di hh with ⟨q7, hh⟩ | ⟨q7, hh⟩
      · refine dq_2 .lt 13 true 28 q7 (by decide +kernel) ?_
        exact c31_28 hD hz _ _ _ _ _ _ G0 G1 G2 hh
      · refine dq_2 .lt 13 false 18 q7 (by decide +kernel) ?_
        cases hh
def f31 (L : Nat) (xs : Nat → Int32) (zf : Value) (D : dD) (w : Nat) (As : List Value) (h : rm_H) : Option dR := match As with
  | [v0, .int i1, .int i2] => (rm_rf v0).bind fun o0 => b31_0 L xs zf D w o0 i1 i2 h
  | _ => none
theorem d31 {L : Nat} {xs : Nat → Int32} {zf : Value} {D : dD} {w k : Nat} (hD : dO L xs zf D k) (hz : zf.category = 1) (As : List Value) (h : rm_H) (r : dR) (hh : f31 L xs zf D w As h = some r) : dq L xs zf ah_M31 0 (lv_args 0 As) [] h (k + 1) r := by
  unfold f31 at hh
  split at hh
  · obtain ⟨o0, e0, hb0⟩ := db hh
    have e0 := rm_rf_v _ _ e0
    subst e0
    refine c31_0 hD hz _ _ _ _ _ _ ?_ ?_ ?_ hb0
    all_goals (simp only [la_r, la_i, la_j]; rfl)
  · cases hh
def b32_0 (L : Nat) (xs : Nat → Int32) (zf : Value) (D : dD) (w : Nat) (o0 : Option Nat) (i1 : Int32) (i2 : Int32) (h : rm_H) : Option dR :=
  ((D 33 [.int i1, va_rf o0] h).bind dxV).bind fun h1 =>
  ((D 31 [va_rf o0, .int i1, .int i2] h1).bind dxV).bind fun h5 =>
  some (none, h5)
theorem c32_0 {L : Nat} {xs : Nat → Int32} {zf : Value} {D : dD} {w k : Nat} (hD : dO L xs zf D k) (hz : zf.category = 1) : ∀ (o0 : Option Nat) (i1 : Int32) (i2 : Int32) (lv : rm_L) (h : rm_H) (r : dR), rm_get lv 0 = some (va_rf o0) → rm_get lv 1 = some (.int i1) → rm_get lv 2 = some (.int i2) → b32_0 L xs zf D w  o0 i1 i2 h = some r → dq L xs zf ah_M32 0 lv [] h (k + 1) r := by
  intro o0 i1 i2 lv h r G0 G1 G2 hh
  unfold b32_0 at hh
  refine dq_iln 1 1 (by decide +kernel) rfl G1 ?_
  refine dq_aln 0 2 (by decide +kernel) rfl G0 ?_
  obtain ⟨h1, q2, hh⟩ := db hh
  obtain ⟨a3, q4, q2⟩ := db q2
  rw [dq_xV q2] at q4
  refine dq_cst hD 67 33 0 2 [.int i1, va_rf o0] [] 5 [] (by decide +kernel) ap_33 ⟨⟨Nat.le_of_ble_eq_true rfl, by decide⟩, rfl, rfl⟩ (dq_ok8 [1, 1] [] (dc_i (dc_r dc_n)) dc_n (by decide +kernel)) (by decide +kernel) rfl q4 rfl ?_
  refine dq_aln 0 6 (by decide +kernel) rfl G0 ?_
  refine dq_iln 1 7 (by decide +kernel) rfl G1 ?_
  refine dq_iln 2 8 (by decide +kernel) rfl G2 ?_
  obtain ⟨h5, q6, hh⟩ := db hh
  obtain ⟨a7, q8, q6⟩ := db q6
  rw [dq_xV q6] at q8
  refine dq_cst hD 111 31 0 3 [va_rf o0, .int i1, .int i2] [] 11 [] (by decide +kernel) ap_31 ⟨⟨Nat.le_of_ble_eq_true rfl, by decide⟩, rfl, rfl⟩ (dq_ok8 [1, 1, 1] [] (dc_r (dc_i (dc_i dc_n))) dc_n (by decide +kernel)) (by decide +kernel) rfl q8 rfl ?_
  cases hh
  exact dq_ret0 (by decide +kernel) rfl
def f32 (L : Nat) (xs : Nat → Int32) (zf : Value) (D : dD) (w : Nat) (As : List Value) (h : rm_H) : Option dR := match As with
  | [v0, .int i1, .int i2] => (rm_rf v0).bind fun o0 => b32_0 L xs zf D w o0 i1 i2 h
  | _ => none
theorem d32 {L : Nat} {xs : Nat → Int32} {zf : Value} {D : dD} {w k : Nat} (hD : dO L xs zf D k) (hz : zf.category = 1) (As : List Value) (h : rm_H) (r : dR) (hh : f32 L xs zf D w As h = some r) : dq L xs zf ah_M32 0 (lv_args 0 As) [] h (k + 1) r := by
  unfold f32 at hh
  split at hh
  · obtain ⟨o0, e0, hb0⟩ := db hh
    have e0 := rm_rf_v _ _ e0
    subst e0
    refine c32_0 hD hz _ _ _ _ _ _ ?_ ?_ ?_ hb0
    all_goals (simp only [la_r, la_i, la_j]; rfl)
  · cases hh
def b33_0 (L : Nat) (xs : Nat → Int32) (zf : Value) (D : dD) (w : Nat) (i0 : Int32) (o1 : Option Nat) (h : rm_H) : Option dR :=
  ((D 28 [va_rf o1] h).bind dxI).bind fun x1 =>
  ((D 34 [.int i0, .int x1.1] x1.2).bind dxV).bind fun h5 =>
  some (none, h5)
theorem c33_0 {L : Nat} {xs : Nat → Int32} {zf : Value} {D : dD} {w k : Nat} (hD : dO L xs zf D k) (hz : zf.category = 1) : ∀ (i0 : Int32) (o1 : Option Nat) (lv : rm_L) (h : rm_H) (r : dR), rm_get lv 0 = some (.int i0) → rm_get lv 1 = some (va_rf o1) → b33_0 L xs zf D w  i0 o1 h = some r → dq L xs zf ah_M33 0 lv [] h (k + 1) r := by
  intro i0 o1 lv h r G0 G1 hh
  unfold b33_0 at hh
  refine dq_iln 0 1 (by decide +kernel) rfl G0 ?_
  refine dq_aln 1 2 (by decide +kernel) rfl G1 ?_
  obtain ⟨x1, q2, hh⟩ := db hh
  obtain ⟨a3, q4, q2⟩ := db q2
  rw [dq_xI q2] at q4
  refine dq_cst hD 48 28 0 1 [va_rf o1] [.int i0] 5 [.int x1.1, .int i0] (by decide +kernel) ap_28 ⟨⟨Nat.le_of_ble_eq_true rfl, by decide⟩, rfl, rfl⟩ (dq_ok8 [1] [1] (dc_r dc_n) (dc_i dc_n) (by decide +kernel)) (by decide +kernel) rfl q4 rfl ?_
  obtain ⟨h5, q6, hh⟩ := db hh
  obtain ⟨a7, q8, q6⟩ := db q6
  rw [dq_xV q6] at q8
  refine dq_cst hD 414 34 0 2 [.int i0, .int x1.1] [] 8 [] (by decide +kernel) ap_34 ⟨⟨Nat.le_of_ble_eq_true rfl, by decide⟩, rfl, rfl⟩ (dq_ok8 [1, 1] [] (dc_i (dc_i dc_n)) dc_n (by decide +kernel)) (by decide +kernel) rfl q8 rfl ?_
  cases hh
  exact dq_ret0 (by decide +kernel) rfl
def f33 (L : Nat) (xs : Nat → Int32) (zf : Value) (D : dD) (w : Nat) (As : List Value) (h : rm_H) : Option dR := match As with
  | [.int i0, v1] => (rm_rf v1).bind fun o1 => b33_0 L xs zf D w i0 o1 h
  | _ => none
theorem d33 {L : Nat} {xs : Nat → Int32} {zf : Value} {D : dD} {w k : Nat} (hD : dO L xs zf D k) (hz : zf.category = 1) (As : List Value) (h : rm_H) (r : dR) (hh : f33 L xs zf D w As h = some r) : dq L xs zf ah_M33 0 (lv_args 0 As) [] h (k + 1) r := by
  unfold f33 at hh
  split at hh
  · obtain ⟨o1, e1, hb1⟩ := db hh
    have e1 := rm_rf_v _ _ e1
    subst e1
    refine c33_0 hD hz _ _ _ _ _ ?_ ?_ hb1
    all_goals (simp only [la_r, la_i, la_j]; rfl)
  · cases hh
def b34_0 (L : Nat) (xs : Nat → Int32) (zf : Value) (D : dD) (w : Nat) (i0 : Int32) (i1 : Int32) (h : rm_H) : Option dR :=
  ((D 35 [.int i0, .int i1, zf] h).bind dxI).bind fun x1 =>
  some (none, x1.2)
theorem c34_0 {L : Nat} {xs : Nat → Int32} {zf : Value} {D : dD} {w k : Nat} (hD : dO L xs zf D k) (hz : zf.category = 1) : ∀ (i0 : Int32) (i1 : Int32) (lv : rm_L) (h : rm_H) (r : dR), rm_get lv 0 = some (.int i0) → rm_get lv 1 = some (.int i1) → b34_0 L xs zf D w  i0 i1 h = some r → dq L xs zf ah_M34 0 lv [] h (k + 1) r := by
  intro i0 i1 lv h r G0 G1 hh
  unfold b34_0 at hh
  refine dq_iln 0 1 (by decide +kernel) rfl G0 ?_
  refine dq_iln 1 2 (by decide +kernel) rfl G1 ?_
  refine dq_S (.getstatic 1053) 3 [1] 5 _ [zf, .int i1, .int i0] (by decide +kernel) rfl ?_
  obtain ⟨x1, q2, hh⟩ := db hh
  obtain ⟨a3, q4, q2⟩ := db q2
  rw [dq_xI q2] at q4
  refine dq_cst hD 1059 35 0 3 [.int i0, .int i1, zf] [] 8 [.int x1.1] (by decide +kernel) ap_35 ⟨⟨Nat.le_of_ble_eq_true rfl, by decide⟩, rfl, rfl⟩ (dq_ok8 [1, 1, 1] [] (dc_i (dc_i (dc_v hz dc_n))) dc_n (by decide +kernel)) (by decide +kernel) rfl q4 rfl ?_
  refine dq_S (.pop) 1 [] 9 _ [] (by decide +kernel) rfl ?_
  cases hh
  exact dq_ret0 (by decide +kernel) rfl
def f34 (L : Nat) (xs : Nat → Int32) (zf : Value) (D : dD) (w : Nat) (As : List Value) (h : rm_H) : Option dR := match As with
  | [.int i0, .int i1] => b34_0 L xs zf D w i0 i1 h
  | _ => none
theorem d34 {L : Nat} {xs : Nat → Int32} {zf : Value} {D : dD} {w k : Nat} (hD : dO L xs zf D k) (hz : zf.category = 1) (As : List Value) (h : rm_H) (r : dR) (hh : f34 L xs zf D w As h = some r) : dq L xs zf ah_M34 0 (lv_args 0 As) [] h (k + 1) r := by
  unfold f34 at hh
  split at hh
  · refine c34_0 hD hz _ _ _ _ _ ?_ ?_ hh
    all_goals (simp only [la_r, la_i, la_j]; rfl)
  · cases hh
def b35_0 (L : Nat) (xs : Nat → Int32) (zf : Value) (D : dD) (w : Nat) (i0 : Int32) (i1 : Int32) (h : rm_H) : Option dR :=
  if mx_f1 .lt i0 = true then
    none
  else
    if mx_f2 .lt i0 i1 = true then
      drI (some .int) i0 h
    else
      none
theorem c35_0 {L : Nat} {xs : Nat → Int32} {zf : Value} {D : dD} {w k : Nat} (hD : dO L xs zf D k) (hz : zf.category = 1) : ∀ (i0 : Int32) (i1 : Int32) (lv : rm_L) (h : rm_H) (r : dR), rm_get lv 0 = some (.int i0) → rm_get lv 1 = some (.int i1) → b35_0 L xs zf D w  i0 i1 h = some r → dq L xs zf ah_M35 0 lv [] h (k + 1) r := by
  intro i0 i1 lv h r G0 G1 hh
  unfold b35_0 at hh
  refine dq_iln 0 1 (by decide +kernel) rfl G0 ?_
  rcases di hh with ⟨q1, hh⟩ | ⟨q1, hh⟩
  · refine dq_1 .lt 8 true 9 q1 (by decide +kernel) ?_
    cases hh
  · refine dq_1 .lt 8 false 4 q1 (by decide +kernel) ?_
    refine dq_iln 0 5 (by decide +kernel) rfl G0 ?_
    refine dq_iln 1 6 (by decide +kernel) rfl G1 ?_
    rcases di hh with ⟨q2, hh⟩ | ⟨q2, hh⟩
    · refine dq_2 .lt 10 true 16 q2 (by decide +kernel) ?_
      refine dq_iln 0 17 (by decide +kernel) rfl G0 ?_
      exact dq_retI (some .int) (by decide +kernel) rfl hh
    · refine dq_2 .lt 10 false 9 q2 (by decide +kernel) ?_
      cases hh
def f35 (L : Nat) (xs : Nat → Int32) (zf : Value) (D : dD) (w : Nat) (As : List Value) (h : rm_H) : Option dR := match As with
  | [.int i0, .int i1, u2] => b35_0 L xs zf D w i0 i1 h
  | _ => none
theorem d35 {L : Nat} {xs : Nat → Int32} {zf : Value} {D : dD} {w k : Nat} (hD : dO L xs zf D k) (hz : zf.category = 1) (As : List Value) (h : rm_H) (r : dR) (hh : f35 L xs zf D w As h = some r) : dq L xs zf ah_M35 0 (lv_args 0 As) [] h (k + 1) r := by
  unfold f35 at hh
  split at hh
  · refine c35_0 hD hz _ _ _ _ _ ?_ ?_ hh
    all_goals (simp only [la_r, la_i, la_j]; rfl)
  · cases hh
def b36_15 (L : Nat) (xs : Nat → Int32) (zf : Value) (D : dD) (w : Nat) (h : rm_H) : Option dR :=
  drI (some .int) (-1) h
theorem c36_15 {L : Nat} {xs : Nat → Int32} {zf : Value} {D : dD} {w k : Nat} (hD : dO L xs zf D k) (hz : zf.category = 1) : ∀ (lv : rm_L) (h : rm_H) (r : dR), b36_15 L xs zf D w  h = some r → dq L xs zf ah_M36 15 lv [] h (k + 1) r := by
  intro lv h r hh
  unfold b36_15 at hh
  refine dq_S (.iconst (-1)) 1 [] 16 _ [.int (-1)] (by decide +kernel) rfl ?_
  exact dq_retI (some .int) (by decide +kernel) rfl hh
def b36_0 (L : Nat) (xs : Nat → Int32) (zf : Value) (D : dD) (w : Nat) (o0 : Option Nat) (i1 : Int32) (h : rm_H) : Option dR :=
  if mx_f1 .lt i1 = true then
    b36_15 L xs zf D w h
  else
    (dgR L xs h 0 [0] o0).bind fun p2 =>
    ((dcV L xs D 10 [1] p2 [] h).bind dxI).bind fun x4 =>
    if mx_f2 .le i1 x4.1 = true then
      (dgR L xs x4.2 0 [0] o0).bind fun p9 =>
      ((dcV L xs D 37 [1] p9 [.int i1] x4.2).bind dxV).bind fun h11 =>
      drI (some .int) i1 h11
    else
      b36_15 L xs zf D w x4.2
theorem c36_0 {L : Nat} {xs : Nat → Int32} {zf : Value} {D : dD} {w k : Nat} (hD : dO L xs zf D k) (hz : zf.category = 1) : ∀ (o0 : Option Nat) (i1 : Int32) (lv : rm_L) (h : rm_H) (r : dR), rm_get lv 0 = some (va_rf o0) → rm_get lv 1 = some (.int i1) → b36_0 L xs zf D w  o0 i1 h = some r → dq L xs zf ah_M36 0 lv [] h (k + 1) r := by
  intro o0 i1 lv h r G0 G1 hh
  unfold b36_0 at hh
  refine dq_iln 1 1 (by decide +kernel) rfl G1 ?_
  rcases di hh with ⟨q1, hh⟩ | ⟨q1, hh⟩
  · refine dq_1 .lt 14 true 15 q1 (by decide +kernel) ?_
    exact c36_15 hD hz  _ _ _  hh
  · refine dq_1 .lt 14 false 4 q1 (by decide +kernel) ?_
    refine dq_iln 1 5 (by decide +kernel) rfl G1 ?_
    refine dq_aln 0 6 (by decide +kernel) rfl G0 ?_
    obtain ⟨p2, q3, hh⟩ := db hh
    refine dq_gR 10 0 [0] 9 (by decide +kernel) rfl q3 ?_
    obtain ⟨x4, q5, hh⟩ := db hh
    obtain ⟨a6, q7, q5⟩ := db q5
    rw [dq_xI q5] at q7
    refine dq_cvi hD 41 10 5 0 [1] p2 [] [.int i1] 12 [.int x4.1, .int i1] (by decide +kernel) ap_10 ⟨⟨Nat.le_of_ble_eq_true rfl, by decide⟩, rfl, rfl⟩ (dq_ok8 [1] [1] (dc_r dc_n) (dc_i dc_n) (by decide +kernel)) (by decide +kernel) rfl q7 rfl ?_
    rcases di hh with ⟨q8, hh⟩ | ⟨q8, hh⟩
    · refine dq_2 .le 5 true 17 q8 (by decide +kernel) ?_
      refine dq_aln 0 18 (by decide +kernel) rfl G0 ?_
      obtain ⟨p9, q10, hh⟩ := db hh
      refine dq_gR 10 0 [0] 21 (by decide +kernel) rfl q10 ?_
      refine dq_iln 1 22 (by decide +kernel) rfl G1 ?_
      obtain ⟨h11, q12, hh⟩ := db hh
      obtain ⟨a13, q14, q12⟩ := db q12
      rw [dq_xV q12] at q14
      refine dq_cvi hD 49 37 5 1 [1] p9 [.int i1] [] 25 [] (by decide +kernel) ap_37 ⟨⟨Nat.le_of_ble_eq_true rfl, by decide⟩, rfl, rfl⟩ (dq_ok8 [1, 1] [] (dc_r (dc_i dc_n)) dc_n (by decide +kernel)) (by decide +kernel) rfl q14 rfl ?_
      refine dq_iln 1 26 (by decide +kernel) rfl G1 ?_
      exact dq_retI (some .int) (by decide +kernel) rfl hh
    · refine dq_2 .le 5 false 15 q8 (by decide +kernel) ?_
      exact c36_15 hD hz  _ _ _  hh
def f36 (L : Nat) (xs : Nat → Int32) (zf : Value) (D : dD) (w : Nat) (As : List Value) (h : rm_H) : Option dR := match As with
  | [v0, .int i1] => (rm_rf v0).bind fun o0 => b36_0 L xs zf D w o0 i1 h
  | _ => none
theorem d36 {L : Nat} {xs : Nat → Int32} {zf : Value} {D : dD} {w k : Nat} (hD : dO L xs zf D k) (hz : zf.category = 1) (As : List Value) (h : rm_H) (r : dR) (hh : f36 L xs zf D w As h = some r) : dq L xs zf ah_M36 0 (lv_args 0 As) [] h (k + 1) r := by
  unfold f36 at hh
  split at hh
  · obtain ⟨o0, e0, hb0⟩ := db hh
    have e0 := rm_rf_v _ _ e0
    subst e0
    refine c36_0 hD hz _ _ _ _ _ ?_ ?_ hb0
    all_goals (simp only [la_r, la_i, la_j]; rfl)
  · cases hh
def b37_0 (L : Nat) (xs : Nat → Int32) (zf : Value) (D : dD) (w : Nat) (o0 : Option Nat) (i1 : Int32) (h : rm_H) : Option dR :=
  ((dcV L xs D 38 [1] o0 [.int i1] h).bind dxV).bind fun h1 =>
  some (none, h1)
theorem c37_0 {L : Nat} {xs : Nat → Int32} {zf : Value} {D : dD} {w k : Nat} (hD : dO L xs zf D k) (hz : zf.category = 1) : ∀ (o0 : Option Nat) (i1 : Int32) (lv : rm_L) (h : rm_H) (r : dR), rm_get lv 0 = some (va_rf o0) → rm_get lv 1 = some (.int i1) → b37_0 L xs zf D w  o0 i1 h = some r → dq L xs zf ah_M37 0 lv [] h (k + 1) r := by
  intro o0 i1 lv h r G0 G1 hh
  unfold b37_0 at hh
  refine dq_aln 0 1 (by decide +kernel) rfl G0 ?_
  refine dq_iln 1 2 (by decide +kernel) rfl G1 ?_
  obtain ⟨h1, q2, hh⟩ := db hh
  obtain ⟨a3, q4, q2⟩ := db q2
  rw [dq_xV q2] at q4
  refine dq_csu hD 333 38 1 [1] o0 [.int i1] [] 5 [] (by decide +kernel) ap_38 ⟨Nat.le_of_ble_eq_true rfl, rfl, rfl⟩ (dq_ok8 [1, 1] [] (dc_r (dc_i dc_n)) dc_n (by decide +kernel)) (by decide +kernel) rfl q4 rfl ?_
  cases hh
  exact dq_ret0 (by decide +kernel) rfl
def f37 (L : Nat) (xs : Nat → Int32) (zf : Value) (D : dD) (w : Nat) (As : List Value) (h : rm_H) : Option dR := match As with
  | [v0, .int i1] => (rm_rf v0).bind fun o0 => b37_0 L xs zf D w o0 i1 h
  | _ => none
theorem d37 {L : Nat} {xs : Nat → Int32} {zf : Value} {D : dD} {w k : Nat} (hD : dO L xs zf D k) (hz : zf.category = 1) (As : List Value) (h : rm_H) (r : dR) (hh : f37 L xs zf D w As h = some r) : dq L xs zf ah_M37 0 (lv_args 0 As) [] h (k + 1) r := by
  unfold f37 at hh
  split at hh
  · obtain ⟨o0, e0, hb0⟩ := db hh
    have e0 := rm_rf_v _ _ e0
    subst e0
    refine c37_0 hD hz _ _ _ _ _ ?_ ?_ hb0
    all_goals (simp only [la_r, la_i, la_j]; rfl)
  · cases hh
def b38_76 (L : Nat) (xs : Nat → Int32) (zf : Value) (D : dD) (w : Nat) (o0 : Option Nat) (i1 : Int32) (h : rm_H) : Option dR :=
  (dpF h 3 [1] o0 (.int i1)).bind fun h1 =>
  some (none, h1)
theorem c38_76 {L : Nat} {xs : Nat → Int32} {zf : Value} {D : dD} {w k : Nat} (hD : dO L xs zf D k) (hz : zf.category = 1) : ∀ (o0 : Option Nat) (i1 : Int32) (lv : rm_L) (h : rm_H) (r : dR), rm_get lv 0 = some (va_rf o0) → rm_get lv 1 = some (.int i1) → b38_76 L xs zf D w  o0 i1 h = some r → dq L xs zf ah_M38 76 lv [] h (k + 1) r := by
  intro o0 i1 lv h r G0 G1 hh
  unfold b38_76 at hh
  refine dq_aln 0 77 (by decide +kernel) rfl G0 ?_
  refine dq_iln 1 78 (by decide +kernel) rfl G1 ?_
  obtain ⟨h1, q2, hh⟩ := db hh
  refine dq_put 79 3 [1] 81 (by decide +kernel) rfl q2 ?_
  cases hh
  exact dq_ret0 (by decide +kernel) rfl
def b38_0 (L : Nat) (xs : Nat → Int32) (zf : Value) (D : dD) (w : Nat) (o0 : Option Nat) (i1 : Int32) (h : rm_H) : Option dR :=
  if mx_f1 .ge i1 = true then
    ((dcV L xs D 15 [1] o0 [.int i1] h).bind dxV).bind fun h2 =>
    (dgI L xs h2 3 [1] o0).bind fun x6 =>
    if mx_f2 .ge x6 i1 = true then
      (dgI L xs h2 3 [1] o0).bind fun x9 =>
      if mx_f2 .le x9 i1 = true then
        b38_76 L xs zf D w o0 i1 h2
      else
        (dpF h2 2 [1] o0 (.int 1)).bind fun h12 =>
        b38_76 L xs zf D w o0 i1 h12
    else
      ((dcV L xs D 22 [1] o0 [] h2).bind dxI).bind fun x14 =>
      if mx_f1 .eq x14.1 = true then
        (dgR L xs x14.2 0 [1] o0).bind fun p19 =>
        (dgI L xs x14.2 3 [1] o0).bind fun x21 =>
        ((D 42 [va_rf p19, .int x21, .int i1] x14.2).bind dxV).bind fun h23 =>
        b38_76 L xs zf D w o0 i1 h23
      else
        (dgR L xs x14.2 0 [1] o0).bind fun p27 =>
        (dgI L xs x14.2 3 [1] o0).bind fun x29 =>
        ((D 39 [va_rf p27, .int x29, .int i1] x14.2).bind dxV).bind fun h31 =>
        b38_76 L xs zf D w o0 i1 h31
  else
    none
theorem c38_0 {L : Nat} {xs : Nat → Int32} {zf : Value} {D : dD} {w k : Nat} (hD : dO L xs zf D k) (hz : zf.category = 1) : ∀ (o0 : Option Nat) (i1 : Int32) (lv : rm_L) (h : rm_H) (r : dR), rm_get lv 0 = some (va_rf o0) → rm_get lv 1 = some (.int i1) → b38_0 L xs zf D w  o0 i1 h = some r → dq L xs zf ah_M38 0 lv [] h (k + 1) r := by
  intro o0 i1 lv h r G0 G1 hh
  unfold b38_0 at hh
  refine dq_iln 1 1 (by decide +kernel) rfl G1 ?_
  rcases di hh with ⟨q1, hh⟩ | ⟨q1, hh⟩
  · refine dq_1 .ge 12 true 13 q1 (by decide +kernel) ?_
    refine dq_aln 0 14 (by decide +kernel) rfl G0 ?_
    refine dq_iln 1 15 (by decide +kernel) rfl G1 ?_
    obtain ⟨h2, q3, hh⟩ := db hh
    obtain ⟨a4, q5, q3⟩ := db q3
    rw [dq_xV q3] at q5
    refine dq_cvi hD 100 15 9 1 [1] o0 [.int i1] [] 18 [] (by decide +kernel) ap_15 ⟨⟨Nat.le_of_ble_eq_true rfl, by decide⟩, rfl, rfl⟩ (dq_ok8 [1, 1] [] (dc_r (dc_i dc_n)) dc_n (by decide +kernel)) (by decide +kernel) rfl q5 rfl ?_
    refine dq_aln 0 19 (by decide +kernel) rfl G0 ?_
    obtain ⟨x6, q7, hh⟩ := db hh
    refine dq_gI 79 3 [1] 22 (by decide +kernel) rfl q7 ?_
    refine dq_iln 1 23 (by decide +kernel) rfl G1 ?_
    rcases di hh with ⟨q8, hh⟩ | ⟨q8, hh⟩
    · refine dq_2 .ge 40 true 63 q8 (by decide +kernel) ?_
      refine dq_aln 0 64 (by decide +kernel) rfl G0 ?_
      obtain ⟨x9, q10, hh⟩ := db hh
      refine dq_gI 79 3 [1] 67 (by decide +kernel) rfl q10 ?_
      refine dq_iln 1 68 (by decide +kernel) rfl G1 ?_
      rcases di hh with ⟨q11, hh⟩ | ⟨q11, hh⟩
      · refine dq_2 .le 8 true 76 q11 (by decide +kernel) ?_
        exact c38_76 hD hz _ _ _ _ _ G0 G1 hh
      · refine dq_2 .le 8 false 71 q11 (by decide +kernel) ?_
        refine dq_aln 0 72 (by decide +kernel) rfl G0 ?_
        refine dq_S (.iconst 1) 1 [] 73 _ [.int 1, va_rf o0] (by decide +kernel) rfl ?_
        obtain ⟨h12, q13, hh⟩ := db hh
        refine dq_put 73 2 [1] 76 (by decide +kernel) rfl q13 ?_
        exact c38_76 hD hz _ _ _ _ _ G0 G1 hh
    · refine dq_2 .ge 40 false 26 q8 (by decide +kernel) ?_
      refine dq_aln 0 27 (by decide +kernel) rfl G0 ?_
      obtain ⟨x14, q15, hh⟩ := db hh
      obtain ⟨a16, q17, q15⟩ := db q15
      rw [dq_xI q15] at q17
      refine dq_cvi hD 83 22 6 0 [1] o0 [] [] 30 [.int x14.1] (by decide +kernel) ap_22 ⟨⟨Nat.le_of_ble_eq_true rfl, by decide⟩, rfl, rfl⟩ (dq_ok8 [1] [] (dc_r dc_n) dc_n (by decide +kernel)) (by decide +kernel) rfl q17 rfl ?_
      rcases di hh with ⟨q18, hh⟩ | ⟨q18, hh⟩
      · refine dq_1 .eq 18 true 48 q18 (by decide +kernel) ?_
        refine dq_aln 0 49 (by decide +kernel) rfl G0 ?_
        obtain ⟨p19, q20, hh⟩ := db hh
        refine dq_gR 15 0 [1] 52 (by decide +kernel) rfl q20 ?_
        refine dq_aln 0 53 (by decide +kernel) rfl G0 ?_
        obtain ⟨x21, q22, hh⟩ := db hh
        refine dq_gI 79 3 [1] 56 (by decide +kernel) rfl q22 ?_
        refine dq_iln 1 57 (by decide +kernel) rfl G1 ?_
        obtain ⟨h23, q24, hh⟩ := db hh
        obtain ⟨a25, q26, q24⟩ := db q24
        rw [dq_xV q24] at q26
        refine dq_cst hD 137 42 0 3 [va_rf p19, .int x21, .int i1] [] 60 [] (by decide +kernel) ap_42 ⟨⟨Nat.le_of_ble_eq_true rfl, by decide⟩, rfl, rfl⟩ (dq_ok8 [1, 1, 1] [] (dc_r (dc_i (dc_i dc_n))) dc_n (by decide +kernel)) (by decide +kernel) rfl q26 rfl ?_
        refine dq_S (.goto 16) 3 [] 76 _ [] (by decide +kernel) rfl ?_
        exact c38_76 hD hz _ _ _ _ _ G0 G1 hh
      · refine dq_1 .eq 18 false 33 q18 (by decide +kernel) ?_
        refine dq_aln 0 34 (by decide +kernel) rfl G0 ?_
        obtain ⟨p27, q28, hh⟩ := db hh
        refine dq_gR 15 0 [1] 37 (by decide +kernel) rfl q28 ?_
        refine dq_aln 0 38 (by decide +kernel) rfl G0 ?_
        obtain ⟨x29, q30, hh⟩ := db hh
        refine dq_gI 79 3 [1] 41 (by decide +kernel) rfl q30 ?_
        refine dq_iln 1 42 (by decide +kernel) rfl G1 ?_
        obtain ⟨h31, q32, hh⟩ := db hh
        obtain ⟨a33, q34, q32⟩ := db q32
        rw [dq_xV q32] at q34
        refine dq_cst hD 133 39 0 3 [va_rf p27, .int x29, .int i1] [] 45 [] (by decide +kernel) ap_39 ⟨⟨Nat.le_of_ble_eq_true rfl, by decide⟩, rfl, rfl⟩ (dq_ok8 [1, 1, 1] [] (dc_r (dc_i (dc_i dc_n))) dc_n (by decide +kernel)) (by decide +kernel) rfl q34 rfl ?_
        refine dq_S (.goto 31) 3 [] 76 _ [] (by decide +kernel) rfl ?_
        exact c38_76 hD hz _ _ _ _ _ G0 G1 hh
  · refine dq_1 .ge 12 false 4 q1 (by decide +kernel) ?_
    cases hh
def f38 (L : Nat) (xs : Nat → Int32) (zf : Value) (D : dD) (w : Nat) (As : List Value) (h : rm_H) : Option dR := match As with
  | [v0, .int i1] => (rm_rf v0).bind fun o0 => b38_0 L xs zf D w o0 i1 h
  | _ => none
theorem d38 {L : Nat} {xs : Nat → Int32} {zf : Value} {D : dD} {w k : Nat} (hD : dO L xs zf D k) (hz : zf.category = 1) (As : List Value) (h : rm_H) (r : dR) (hh : f38 L xs zf D w As h = some r) : dq L xs zf ah_M38 0 (lv_args 0 As) [] h (k + 1) r := by
  unfold f38 at hh
  split at hh
  · obtain ⟨o0, e0, hb0⟩ := db hh
    have e0 := rm_rf_v _ _ e0
    subst e0
    refine c38_0 hD hz _ _ _ _ _ ?_ ?_ hb0
    all_goals (simp only [la_r, la_i, la_j]; rfl)
  · cases hh
def b39_0 (L : Nat) (xs : Nat → Int32) (zf : Value) (D : dD) (w : Nat) (o0 : Option Nat) (i1 : Int32) (i2 : Int32) (h : rm_H) : Option dR :=
  ((D 40 [va_rf o0, .int i1, .int i2, .int 0] h).bind dxV).bind fun h1 =>
  some (none, h1)
theorem c39_0 {L : Nat} {xs : Nat → Int32} {zf : Value} {D : dD} {w k : Nat} (hD : dO L xs zf D k) (hz : zf.category = 1) : ∀ (o0 : Option Nat) (i1 : Int32) (i2 : Int32) (lv : rm_L) (h : rm_H) (r : dR), rm_get lv 0 = some (va_rf o0) → rm_get lv 1 = some (.int i1) → rm_get lv 2 = some (.int i2) → b39_0 L xs zf D w  o0 i1 i2 h = some r → dq L xs zf ah_M39 0 lv [] h (k + 1) r := by
  intro o0 i1 i2 lv h r G0 G1 G2 hh
  unfold b39_0 at hh
  refine dq_aln 0 1 (by decide +kernel) rfl G0 ?_
  refine dq_iln 1 2 (by decide +kernel) rfl G1 ?_
  refine dq_iln 2 3 (by decide +kernel) rfl G2 ?_
  refine dq_S (.iconst 0) 1 [] 4 _ [.int 0, .int i2, .int i1, va_rf o0] (by decide +kernel) rfl ?_
  obtain ⟨h1, q2, hh⟩ := db hh
  obtain ⟨a3, q4, q2⟩ := db q2
  rw [dq_xV q2] at q4
  refine dq_cst hD 236 40 0 4 [va_rf o0, .int i1, .int i2, .int 0] [] 7 [] (by decide +kernel) ap_40 ⟨⟨Nat.le_of_ble_eq_true rfl, by decide⟩, rfl, rfl⟩ (dq_ok8 [1, 1, 1, 1] [] (dc_r (dc_i (dc_i (dc_i dc_n)))) dc_n (by decide +kernel)) (by decide +kernel) rfl q4 rfl ?_
  cases hh
  exact dq_ret0 (by decide +kernel) rfl
def f39 (L : Nat) (xs : Nat → Int32) (zf : Value) (D : dD) (w : Nat) (As : List Value) (h : rm_H) : Option dR := match As with
  | [v0, .int i1, .int i2] => (rm_rf v0).bind fun o0 => b39_0 L xs zf D w o0 i1 i2 h
  | _ => none
theorem d39 {L : Nat} {xs : Nat → Int32} {zf : Value} {D : dD} {w k : Nat} (hD : dO L xs zf D k) (hz : zf.category = 1) (As : List Value) (h : rm_H) (r : dR) (hh : f39 L xs zf D w As h = some r) : dq L xs zf ah_M39 0 (lv_args 0 As) [] h (k + 1) r := by
  unfold f39 at hh
  split at hh
  · obtain ⟨o0, e0, hb0⟩ := db hh
    have e0 := rm_rf_v _ _ e0
    subst e0
    refine c39_0 hD hz _ _ _ _ _ _ ?_ ?_ ?_ hb0
    all_goals (simp only [la_r, la_i, la_j]; rfl)
  · cases hh
def b40_10 (L : Nat) (xs : Nat → Int32) (zf : Value) (D : dD) (w : Nat) : Nat → Option Nat → Int32 → Int32 → Int32 → rm_H → Option dR
  | 0, _, _, _, _, _ => none
  | n + 1, o0, i2, i3, i4, h =>
    if mx_f2 .ge i4 i2 = true then
      some (none, h)
    else
      (dsB h o0 i4 i3).bind fun h2 =>
      b40_10 L xs zf D w n o0 i2 i3 (i4 + 1) h2
theorem c40_10 {L : Nat} {xs : Nat → Int32} {zf : Value} {D : dD} {w k : Nat} (hD : dO L xs zf D k) (hz : zf.category = 1) : ∀ (n : Nat) (o0 : Option Nat) (i2 : Int32) (i3 : Int32) (i4 : Int32) (lv : rm_L) (h : rm_H) (r : dR), rm_get lv 0 = some (va_rf o0) → rm_get lv 2 = some (.int i2) → rm_get lv 3 = some (.int i3) → rm_get lv 4 = some (.int i4) → b40_10 L xs zf D w n  o0 i2 i3 i4 h = some r → dq L xs zf ah_M40 10 lv [] h (k + 1) r := by
  intro n
  induction n with
  | zero =>
    intro o0 i2 i3 i4 lv h r G0 G2 G3 G4 hh
    cases hh
  | succ n ih =>
    intro o0 i2 i3 i4 lv h r G0 G2 G3 G4 hh
    rw [b40_10] at hh
    refine dq_il 4 12 (by decide +kernel) rfl G4 ?_
    refine dq_iln 2 13 (by decide +kernel) rfl G2 ?_
    rcases di hh with ⟨q1, hh⟩ | ⟨q1, hh⟩
    · refine dq_2 .ge 14 true 27 q1 (by decide +kernel) ?_
      cases hh
      exact dq_ret0 (by decide +kernel) rfl
    · refine dq_2 .ge 14 false 16 q1 (by decide +kernel) ?_
      refine dq_aln 0 17 (by decide +kernel) rfl G0 ?_
      refine dq_il 4 19 (by decide +kernel) rfl G4 ?_
      refine dq_iln 3 20 (by decide +kernel) rfl G3 ?_
      obtain ⟨h2, q3, hh⟩ := db hh
      refine dq_sB1 21 (by decide +kernel) rfl q3 ?_
      refine dq_incy 4 1 1 24 (by decide +kernel) ⟨rfl, by decide +kernel, by decide +kernel⟩ G4 ?_
      have g4 := dg_ne (i := 4) (u := .int (i4 + 1)) (by decide) (Or.inl (by decide)) G0
      have g5 := dg_ne (i := 4) (u := .int (i4 + 1)) (by decide) (Or.inl (by decide)) G2
      have g6 := dg_ne (i := 4) (u := .int (i4 + 1)) (by decide) (Or.inr rfl) G3
      have g7 := dg_eq (lv) 4 (.int (i4 + 1))
      refine dq_S (.goto (-14)) 3 [] 10 _ [] (by decide +kernel) rfl ?_
      exact ih _ _ _ _ _ _ _ g4 g5 g6 g7 hh
def b40_0 (L : Nat) (xs : Nat → Int32) (zf : Value) (D : dD) (w : Nat) (o0 : Option Nat) (i1 : Int32) (i2 : Int32) (i3 : Int32) (h : rm_H) : Option dR :=
  (daN L xs h o0).bind fun x1 =>
  ((D 41 [.int x1, .int i1, .int i2] h).bind dxV).bind fun h3 =>
  b40_10 L xs zf D w w o0 i2 i3 i1 h3
theorem c40_0 {L : Nat} {xs : Nat → Int32} {zf : Value} {D : dD} {w k : Nat} (hD : dO L xs zf D k) (hz : zf.category = 1) : ∀ (o0 : Option Nat) (i1 : Int32) (i2 : Int32) (i3 : Int32) (lv : rm_L) (h : rm_H) (r : dR), rm_get lv 0 = some (va_rf o0) → rm_get lv 1 = some (.int i1) → rm_get lv 2 = some (.int i2) → rm_get lv 3 = some (.int i3) → b40_0 L xs zf D w  o0 i1 i2 i3 h = some r → dq L xs zf ah_M40 0 lv [] h (k + 1) r := by
  intro o0 i1 i2 i3 lv h r G0 G1 G2 G3 hh
  unfold b40_0 at hh
  refine dq_aln 0 1 (by decide +kernel) rfl G0 ?_
  obtain ⟨x1, q2, hh⟩ := db hh
  refine dq_aN 2 (by decide +kernel) rfl q2 ?_
  refine dq_iln 1 3 (by decide +kernel) rfl G1 ?_
  refine dq_iln 2 4 (by decide +kernel) rfl G2 ?_
  obtain ⟨h3, q4, hh⟩ := db hh
  obtain ⟨a5, q6, q4⟩ := db q4
  rw [dq_xV q4] at q6
  refine dq_cst hD 13 41 0 3 [.int x1, .int i1, .int i2] [] 7 [] (by decide +kernel) ap_41 ⟨⟨Nat.le_of_ble_eq_true rfl, by decide⟩, rfl, rfl⟩ (dq_ok8 [1, 1, 1] [] (dc_i (dc_i (dc_i dc_n))) dc_n (by decide +kernel)) (by decide +kernel) rfl q6 rfl ?_
  refine dq_iln 1 8 (by decide +kernel) rfl G1 ?_
  refine dq_is 4 10 (by decide +kernel) (by decide +kernel) ?_
  have g7 := dg_ne (i := 4) (u := .int i1) (by decide) (Or.inl (by decide)) G0
  have g8 := dg_ne (i := 4) (u := .int i1) (by decide) (Or.inl (by decide)) G1
  have g9 := dg_ne (i := 4) (u := .int i1) (by decide) (Or.inl (by decide)) G2
  have g10 := dg_ne (i := 4) (u := .int i1) (by decide) (Or.inr rfl) G3
  have g11 := dg_eq (lv) 4 (.int i1)
  exact c40_10 hD hz _ _ _ _ _ _ _ _ g7 g9 g10 g11 hh
def f40 (L : Nat) (xs : Nat → Int32) (zf : Value) (D : dD) (w : Nat) (As : List Value) (h : rm_H) : Option dR := match As with
  | [v0, .int i1, .int i2, .int i3] => (rm_rf v0).bind fun o0 => b40_0 L xs zf D w o0 i1 i2 i3 h
  | _ => none
theorem d40 {L : Nat} {xs : Nat → Int32} {zf : Value} {D : dD} {w k : Nat} (hD : dO L xs zf D k) (hz : zf.category = 1) (As : List Value) (h : rm_H) (r : dR) (hh : f40 L xs zf D w As h = some r) : dq L xs zf ah_M40 0 (lv_args 0 As) [] h (k + 1) r := by
  unfold f40 at hh
  split at hh
  · obtain ⟨o0, e0, hb0⟩ := db hh
    have e0 := rm_rf_v _ _ e0
    subst e0
    refine c40_0 hD hz _ _ _ _ _ _ _ ?_ ?_ ?_ ?_ hb0
    all_goals (simp only [la_r, la_i, la_j]; rfl)
  · cases hh
def b41_0 (L : Nat) (xs : Nat → Int32) (zf : Value) (D : dD) (w : Nat) (i0 : Int32) (i1 : Int32) (i2 : Int32) (h : rm_H) : Option dR :=
  if mx_f2 .le i1 i2 = true then
    if mx_f1 .ge i1 = true then
      if mx_f2 .le i2 i0 = true then
        some (none, h)
      else
        none
    else
      none
  else
    none
theorem c41_0 {L : Nat} {xs : Nat → Int32} {zf : Value} {D : dD} {w k : Nat} (hD : dO L xs zf D k) (hz : zf.category = 1) : ∀ (i0 : Int32) (i1 : Int32) (i2 : Int32) (lv : rm_L) (h : rm_H) (r : dR), rm_get lv 0 = some (.int i0) → rm_get lv 1 = some (.int i1) → rm_get lv 2 = some (.int i2) → b41_0 L xs zf D w  i0 i1 i2 h = some r → dq L xs zf ah_M41 0 lv [] h (k + 1) r := by
  intro i0 i1 i2 lv h r G0 G1 G2 hh
  unfold b41_0 at hh
  refine dq_iln 1 1 (by decide +kernel) rfl G1 ?_
  refine dq_iln 2 2 (by decide +kernel) rfl G2 ?_
  rcases di hh with ⟨q1, hh⟩ | ⟨q1, hh⟩
  · refine dq_2 .le 44 true 46 q1 (by decide +kernel) ?_
    refine dq_iln 1 47 (by decide +kernel) rfl G1 ?_
    rcases di hh with ⟨q2, hh⟩ | ⟨q2, hh⟩
    · refine dq_1 .ge 12 true 59 q2 (by decide +kernel) ?_
      refine dq_iln 2 60 (by decide +kernel) rfl G2 ?_
      refine dq_iln 0 61 (by decide +kernel) rfl G0 ?_
      rcases di hh with ⟨q3, hh⟩ | ⟨q3, hh⟩
      · refine dq_2 .le 12 true 73 q3 (by decide +kernel) ?_
        cases hh
        exact dq_ret0 (by decide +kernel) rfl
      · refine dq_2 .le 12 false 64 q3 (by decide +kernel) ?_
        cases hh
    · refine dq_1 .ge 12 false 50 q2 (by decide +kernel) ?_
      cases hh
  · refine dq_2 .le 44 false 5 q1 (by decide +kernel) ?_
    cases hh
def f41 (L : Nat) (xs : Nat → Int32) (zf : Value) (D : dD) (w : Nat) (As : List Value) (h : rm_H) : Option dR := match As with
  | [.int i0, .int i1, .int i2] => b41_0 L xs zf D w i0 i1 i2 h
  | _ => none
theorem d41 {L : Nat} {xs : Nat → Int32} {zf : Value} {D : dD} {w k : Nat} (hD : dO L xs zf D k) (hz : zf.category = 1) (As : List Value) (h : rm_H) (r : dR) (hh : f41 L xs zf D w As h = some r) : dq L xs zf ah_M41 0 (lv_args 0 As) [] h (k + 1) r := by
  unfold f41 at hh
  split at hh
  · refine c41_0 hD hz _ _ _ _ _ _ ?_ ?_ ?_ hh
    all_goals (simp only [la_r, la_i, la_j]; rfl)
  · cases hh
def b42_0 (L : Nat) (xs : Nat → Int32) (zf : Value) (D : dD) (w : Nat) (o0 : Option Nat) (i1 : Int32) (i2 : Int32) (h : rm_H) : Option dR :=
  ((D 40 [va_rf o0, .int (i1 <<< ((1 : Int32) &&& 31)), .int (i2 <<< ((1 : Int32) &&& 31)), .int 0] h).bind dxV).bind fun h1 =>
  some (none, h1)
theorem c42_0 {L : Nat} {xs : Nat → Int32} {zf : Value} {D : dD} {w k : Nat} (hD : dO L xs zf D k) (hz : zf.category = 1) : ∀ (o0 : Option Nat) (i1 : Int32) (i2 : Int32) (lv : rm_L) (h : rm_H) (r : dR), rm_get lv 0 = some (va_rf o0) → rm_get lv 1 = some (.int i1) → rm_get lv 2 = some (.int i2) → b42_0 L xs zf D w  o0 i1 i2 h = some r → dq L xs zf ah_M42 0 lv [] h (k + 1) r := by
  intro o0 i1 i2 lv h r G0 G1 G2 hh
  unfold b42_0 at hh
  refine dq_aln 0 1 (by decide +kernel) rfl G0 ?_
  refine dq_iln 1 2 (by decide +kernel) rfl G1 ?_
  refine dq_S (.iconst 1) 1 [] 3 _ [.int 1, .int i1, va_rf o0] (by decide +kernel) rfl ?_
  refine dq_S (.ishl) 1 [] 4 _ [.int (i1 <<< ((1 : Int32) &&& 31)), va_rf o0] (by decide +kernel) rfl ?_
  refine dq_iln 2 5 (by decide +kernel) rfl G2 ?_
  refine dq_S (.iconst 1) 1 [] 6 _ [.int 1, .int i2, .int (i1 <<< ((1 : Int32) &&& 31)), va_rf o0] (by decide +kernel) rfl ?_
  refine dq_S (.ishl) 1 [] 7 _ [.int (i2 <<< ((1 : Int32) &&& 31)), .int (i1 <<< ((1 : Int32) &&& 31)), va_rf o0] (by decide +kernel) rfl ?_
  refine dq_S (.iconst 0) 1 [] 8 _ [.int 0, .int (i2 <<< ((1 : Int32) &&& 31)), .int (i1 <<< ((1 : Int32) &&& 31)), va_rf o0] (by decide +kernel) rfl ?_
  obtain ⟨h1, q2, hh⟩ := db hh
  obtain ⟨a3, q4, q2⟩ := db q2
  rw [dq_xV q2] at q4
  refine dq_cst hD 380 40 0 4 [va_rf o0, .int (i1 <<< ((1 : Int32) &&& 31)), .int (i2 <<< ((1 : Int32) &&& 31)), .int 0] [] 11 [] (by decide +kernel) ap_40 ⟨⟨Nat.le_of_ble_eq_true rfl, by decide⟩, rfl, rfl⟩ (dq_ok8 [1, 1, 1, 1] [] (dc_r (dc_i (dc_i (dc_i dc_n)))) dc_n (by decide +kernel)) (by decide +kernel) rfl q4 rfl ?_
  cases hh
  exact dq_ret0 (by decide +kernel) rfl
def f42 (L : Nat) (xs : Nat → Int32) (zf : Value) (D : dD) (w : Nat) (As : List Value) (h : rm_H) : Option dR := match As with
  | [v0, .int i1, .int i2] => (rm_rf v0).bind fun o0 => b42_0 L xs zf D w o0 i1 i2 h
  | _ => none
theorem d42 {L : Nat} {xs : Nat → Int32} {zf : Value} {D : dD} {w k : Nat} (hD : dO L xs zf D k) (hz : zf.category = 1) (As : List Value) (h : rm_H) (r : dR) (hh : f42 L xs zf D w As h = some r) : dq L xs zf ah_M42 0 (lv_args 0 As) [] h (k + 1) r := by
  unfold f42 at hh
  split at hh
  · obtain ⟨o0, e0, hb0⟩ := db hh
    have e0 := rm_rf_v _ _ e0
    subst e0
    refine c42_0 hD hz _ _ _ _ _ _ ?_ ?_ ?_ hb0
    all_goals (simp only [la_r, la_i, la_j]; rfl)
  · cases hh
def b43_155 (L : Nat) (xs : Nat → Int32) (zf : Value) (D : dD) (w : Nat) (s0 : Int32) (h : rm_H) : Option dR :=
  drI (some .int) s0 h
theorem c43_155 {L : Nat} {xs : Nat → Int32} {zf : Value} {D : dD} {w k : Nat} (hD : dO L xs zf D k) (hz : zf.category = 1) : ∀ (s0 : Int32) (lv : rm_L) (h : rm_H) (r : dR), b43_155 L xs zf D w  s0 h = some r → dq L xs zf ah_M43 155 lv [.int s0] h (k + 1) r := by
  intro s0 lv h r hh
  unfold b43_155 at hh
  exact dq_retI (some .int) (by decide +kernel) rfl hh
def b43_132 (L : Nat) (xs : Nat → Int32) (zf : Value) (D : dD) (w : Nat) (o0 : Option Nat) (o1 : Option Nat) (s0 : Option Nat) (s1 : Option Nat) (h : rm_H) : Option dR :=
  (dpF h 3 [0] s1 (va_rf s0)).bind fun h1 =>
  (dgI L xs h1 4 [0] o0).bind fun x3 =>
  if mx_f1 .ne x3 = true then
    b43_155 L xs zf D w (-1) h1
  else
    (dgR L xs h1 1 [4] o1).bind fun p6 =>
    ((dcV L xs D 101 [5] p6 [] h1).bind dxI).bind fun x8 =>
    b43_155 L xs zf D w x8.1 x8.2
theorem c43_132 {L : Nat} {xs : Nat → Int32} {zf : Value} {D : dD} {w k : Nat} (hD : dO L xs zf D k) (hz : zf.category = 1) : ∀ (o0 : Option Nat) (o1 : Option Nat) (s0 : Option Nat) (s1 : Option Nat) (lv : rm_L) (h : rm_H) (r : dR), rm_get lv 0 = some (va_rf o0) → rm_get lv 1 = some (va_rf o1) → b43_132 L xs zf D w  o0 o1 s0 s1 h = some r → dq L xs zf ah_M43 132 lv [va_rf s0, va_rf s1] h (k + 1) r := by
  intro o0 o1 s0 s1 lv h r G0 G1 hh
  unfold b43_132 at hh
  obtain ⟨h1, q2, hh⟩ := db hh
  refine dq_put 30 3 [0] 135 (by decide +kernel) rfl q2 ?_
  refine dq_aln 0 136 (by decide +kernel) rfl G0 ?_
  obtain ⟨x3, q4, hh⟩ := db hh
  refine dq_gI 34 4 [0] 139 (by decide +kernel) rfl q4 ?_
  rcases di hh with ⟨q5, hh⟩ | ⟨q5, hh⟩
  · refine dq_1 .ne 15 true 154 q5 (by decide +kernel) ?_
    refine dq_S (.iconst (-1)) 1 [] 155 _ [.int (-1)] (by decide +kernel) rfl ?_
    exact c43_155 hD hz _ _ _ _  hh
  · refine dq_1 .ne 15 false 142 q5 (by decide +kernel) ?_
    refine dq_aln 1 143 (by decide +kernel) rfl G1 ?_
    obtain ⟨p6, q7, hh⟩ := db hh
    refine dq_gR 95 1 [4] 146 (by decide +kernel) rfl q7 ?_
    obtain ⟨x8, q9, hh⟩ := db hh
    obtain ⟨a10, q11, q9⟩ := db q9
    rw [dq_xI q9] at q11
    refine dq_cif hD 99 1 101 7 0 [5] p6 [] [] 151 [.int x8.1] (by decide +kernel) ap_101 ⟨⟨Nat.le_of_ble_eq_true rfl, by decide⟩, rfl, rfl⟩ (dq_ok8 [1] [] (dc_r dc_n) dc_n (by decide +kernel)) (by decide +kernel) rfl q11 rfl ?_
    refine dq_S (.goto 4) 3 [] 155 _ [.int x8.1] (by decide +kernel) rfl ?_
    exact c43_155 hD hz _ _ _ _  hh
def b43_81 (L : Nat) (xs : Nat → Int32) (zf : Value) (D : dD) (w : Nat) (o0 : Option Nat) (o1 : Option Nat) (h : rm_H) : Option dR :=
  (dgR L xs h 0 [0] o0).bind fun p1 =>
  ((dcV L xs D 37 [1] p1 [.int 0] h).bind dxV).bind fun h3 =>
  (dgR L xs h3 1 [0] o0).bind fun p7 =>
  ((dcV L xs D 216 [2] p7 [] h3).bind dxV).bind fun h9 =>
  (dgR L xs h9 2 [0] o0).bind fun p13 =>
  ((dcV L xs D 217 [3] p13 [] h9).bind dxV).bind fun h15 =>
  (dgI L xs h15 7 [4] o1).bind fun x19 =>
  (dpF h15 4 [0] o0 (.int x19)).bind fun h21 =>
  (dgI L xs h21 8 [4] o1).bind fun x23 =>
  (dpF h21 5 [0] o0 (.int x23)).bind fun h25 =>
  (dgI L xs h25 4 [0] o0).bind fun x27 =>
  if mx_f1 .ne x27 = true then
    b43_132 L xs zf D w o0 o1 none o0 h25
  else
    b43_132 L xs zf D w o0 o1 o1 o0 h25
theorem c43_81 {L : Nat} {xs : Nat → Int32} {zf : Value} {D : dD} {w k : Nat} (hD : dO L xs zf D k) (hz : zf.category = 1) : ∀ (o0 : Option Nat) (o1 : Option Nat) (lv : rm_L) (h : rm_H) (r : dR), rm_get lv 0 = some (va_rf o0) → rm_get lv 1 = some (va_rf o1) → b43_81 L xs zf D w  o0 o1 h = some r → dq L xs zf ah_M43 81 lv [] h (k + 1) r := by
  intro o0 o1 lv h r G0 G1 hh
  unfold b43_81 at hh
  refine dq_aln 0 82 (by decide +kernel) rfl G0 ?_
  obtain ⟨p1, q2, hh⟩ := db hh
  refine dq_gR 10 0 [0] 85 (by decide +kernel) rfl q2 ?_
  refine dq_S (.iconst 0) 1 [] 86 _ [.int 0, va_rf p1] (by decide +kernel) rfl ?_
  obtain ⟨h3, q4, hh⟩ := db hh
  obtain ⟨a5, q6, q4⟩ := db q4
  rw [dq_xV q4] at q6
  refine dq_cvi hD 49 37 5 1 [1] p1 [.int 0] [] 89 [] (by decide +kernel) ap_37 ⟨⟨Nat.le_of_ble_eq_true rfl, by decide⟩, rfl, rfl⟩ (dq_ok8 [1, 1] [] (dc_r (dc_i dc_n)) dc_n (by decide +kernel)) (by decide +kernel) rfl q6 rfl ?_
  refine dq_aln 0 90 (by decide +kernel) rfl G0 ?_
  obtain ⟨p7, q8, hh⟩ := db hh
  refine dq_gR 19 1 [0] 93 (by decide +kernel) rfl q8 ?_
  obtain ⟨h9, q10, hh⟩ := db hh
  obtain ⟨a11, q12, q10⟩ := db q10
  rw [dq_xV q10] at q12
  refine dq_cvi hD 88 216 5 0 [2] p7 [] [] 96 [] (by decide +kernel) ap_216 ⟨⟨Nat.le_of_ble_eq_true rfl, by decide⟩, rfl, rfl⟩ (dq_ok8 [1] [] (dc_r dc_n) dc_n (by decide +kernel)) (by decide +kernel) rfl q12 rfl ?_
  refine dq_aln 0 97 (by decide +kernel) rfl G0 ?_
  obtain ⟨p13, q14, hh⟩ := db hh
  refine dq_gR 26 2 [0] 100 (by decide +kernel) rfl q14 ?_
  obtain ⟨h15, q16, hh⟩ := db hh
  obtain ⟨a17, q18, q16⟩ := db q16
  rw [dq_xV q16] at q18
  refine dq_cvi hD 91 217 5 0 [3] p13 [] [] 103 [] (by decide +kernel) ap_217 ⟨⟨Nat.le_of_ble_eq_true rfl, by decide⟩, rfl, rfl⟩ (dq_ok8 [1] [] (dc_r dc_n) dc_n (by decide +kernel)) (by decide +kernel) rfl q18 rfl ?_
  refine dq_aln 0 104 (by decide +kernel) rfl G0 ?_
  refine dq_aln 1 105 (by decide +kernel) rfl G1 ?_
  obtain ⟨x19, q20, hh⟩ := db hh
  refine dq_gI 76 7 [4] 108 (by decide +kernel) rfl q20 ?_
  obtain ⟨h21, q22, hh⟩ := db hh
  refine dq_put 34 4 [0] 111 (by decide +kernel) rfl q22 ?_
  refine dq_aln 0 112 (by decide +kernel) rfl G0 ?_
  refine dq_aln 1 113 (by decide +kernel) rfl G1 ?_
  obtain ⟨x23, q24, hh⟩ := db hh
  refine dq_gI 94 8 [4] 116 (by decide +kernel) rfl q24 ?_
  obtain ⟨h25, q26, hh⟩ := db hh
  refine dq_put 38 5 [0] 119 (by decide +kernel) rfl q26 ?_
  refine dq_aln 0 120 (by decide +kernel) rfl G0 ?_
  refine dq_aln 0 121 (by decide +kernel) rfl G0 ?_
  obtain ⟨x27, q28, hh⟩ := db hh
  refine dq_gI 34 4 [0] 124 (by decide +kernel) rfl q28 ?_
  rcases di hh with ⟨q29, hh⟩ | ⟨q29, hh⟩
  · refine dq_1 .ne 7 true 131 q29 (by decide +kernel) ?_
    refine dq_S (.aconst_null) 1 [] 132 _ [va_rf none, va_rf o0] (by decide +kernel) rfl ?_
    exact c43_132 hD hz _ _ _ _ _ _ _ G0 G1 hh
  · refine dq_1 .ne 7 false 127 q29 (by decide +kernel) ?_
    refine dq_aln 1 128 (by decide +kernel) rfl G1 ?_
    refine dq_S (.goto 4) 3 [] 132 _ [va_rf o1, va_rf o0] (by decide +kernel) rfl ?_
    exact c43_132 hD hz _ _ _ _ _ _ _ G0 G1 hh
def b43_59 (L : Nat) (xs : Nat → Int32) (zf : Value) (D : dD) (w : Nat) (o0 : Option Nat) (o1 : Option Nat) (h : rm_H) : Option dR :=
  (dgI L xs h 7 [4] o1).bind fun x1 =>
  if mx_f1 .ne x1 = true then
    b43_81 L xs zf D w o0 o1 h
  else
    (some (h ++ [.inr (13, ah_DV 13)])).bind fun h4 =>
    ((dcN D 162 (some (21 + List.length h)) [va_rf o1] h4).bind dxV).bind fun h6 =>
    ((dcV L xs D 163 [13] (some (21 + List.length h)) [] h6).bind dxV).bind fun h13 =>
    b43_81 L xs zf D w o0 o1 h13
theorem c43_59 {L : Nat} {xs : Nat → Int32} {zf : Value} {D : dD} {w k : Nat} (hD : dO L xs zf D k) (hz : zf.category = 1) : ∀ (o0 : Option Nat) (o1 : Option Nat) (lv : rm_L) (h : rm_H) (r : dR), rm_get lv 0 = some (va_rf o0) → rm_get lv 1 = some (va_rf o1) → b43_59 L xs zf D w  o0 o1 h = some r → dq L xs zf ah_M43 59 lv [] h (k + 1) r := by
  intro o0 o1 lv h r G0 G1 hh
  unfold b43_59 at hh
  refine dq_aln 1 60 (by decide +kernel) rfl G1 ?_
  obtain ⟨x1, q2, hh⟩ := db hh
  refine dq_gI 76 7 [4] 63 (by decide +kernel) rfl q2 ?_
  rcases di hh with ⟨q3, hh⟩ | ⟨q3, hh⟩
  · refine dq_1 .ne 18 true 81 q3 (by decide +kernel) ?_
    exact c43_81 hD hz _ _ _ _ _ G0 G1 hh
  · refine dq_1 .ne 18 false 66 q3 (by decide +kernel) ?_
    obtain ⟨h4, q5, hh⟩ := db hh
    refine dq_new 80 13 69 (by decide +kernel) rfl ?_
    rw [Option.some.inj q5]
    refine dq_dup 70 (by decide +kernel) rfl ?_
    refine dq_aln 1 71 (by decide +kernel) rfl G1 ?_
    obtain ⟨h6, q7, hh⟩ := db hh
    obtain ⟨a8, q9, q7⟩ := db q7
    rw [dq_xV q7] at q9
    refine dq_csp hD 82 162 1 [] (some (21 + List.length h)) [va_rf o1] [va_rf (some (21 + List.length h))] 74 [va_rf (some (21 + List.length h))] (by decide +kernel) ap_162 ⟨Nat.le_of_ble_eq_true rfl, rfl, rfl⟩ (dq_ok8 [1, 1] [1] (dc_r (dc_r dc_n)) (dc_r dc_n) (by decide +kernel)) (by decide +kernel) rfl q9 rfl ?_
    refine dq_as 4 76 (by decide +kernel) (by decide +kernel) ?_
    have g10 := dg_ne (i := 4) (u := va_rf (some (21 + List.length h))) (by decide) (Or.inl (by decide)) G0
    have g11 := dg_ne (i := 4) (u := va_rf (some (21 + List.length h))) (by decide) (Or.inl (by decide)) G1
    have g12 := dg_eq (lv) 4 (va_rf (some (21 + List.length h)))
    refine dq_al 4 78 (by decide +kernel) rfl g12 ?_
    obtain ⟨h13, q14, hh⟩ := db hh
    obtain ⟨a15, q16, q14⟩ := db q14
    rw [dq_xV q14] at q16
    refine dq_cvi hD 85 163 5 0 [13] (some (21 + List.length h)) [] [] 81 [] (by decide +kernel) ap_163 ⟨⟨Nat.le_of_ble_eq_true rfl, by decide⟩, rfl, rfl⟩ (dq_ok8 [1] [] (dc_r dc_n) dc_n (by decide +kernel)) (by decide +kernel) rfl q16 rfl ?_
    exact c43_81 hD hz _ _ _ _ _ g10 g11 hh
def b43_0 (L : Nat) (xs : Nat → Int32) (zf : Value) (D : dD) (w : Nat) (o0 : Option Nat) (h : rm_H) : Option dR :=
  (some (h ++ [.inr (4, ah_DV 4)])).bind fun h1 =>
  (dgR L xs h1 0 [0] o0).bind fun p3 =>
  ((dcV L xs D 10 [1] p3 [] h1).bind dxI).bind fun x5 =>
  ((dcN D 44 (some (21 + List.length h)) [.int x5.1] x5.2).bind dxV).bind fun h9 =>
  (some (h9 ++ [.inr (6, ah_DV 6)])).bind fun h15 =>
  (dgR L xs h15 0 [0] o0).bind fun p17 =>
  ((dcV L xs D 48 [1] p17 [] h15).bind dxR).bind fun p19 =>
  ((dcN D 59 (some (21 + List.length h9)) [va_rf p19.1] p19.2).bind dxV).bind fun h23 =>
  ((dcV L xs D 62 [6] (some (21 + List.length h9)) [] h23).bind dxV).bind fun h30 =>
  (some (h30 ++ [.inr (8, ah_DV 8)])).bind fun h34 =>
  ((dcN D 90 (some (21 + List.length h30)) [va_rf (some (21 + List.length h9)), va_rf (some (21 + List.length h))] h34).bind dxV).bind fun h36 =>
  ((dcV L xs D 91 [8] (some (21 + List.length h30)) [] h36).bind dxV).bind fun h44 =>
  (dgI L xs h44 7 [4] (some (21 + List.length h))).bind fun x48 =>
  if mx_f1 .ne x48 = true then
    b43_59 L xs zf D w o0 (some (21 + List.length h)) h44
  else
    ((dcV L xs D 145 [4] (some (21 + List.length h)) [] h44).bind dxV).bind fun h51 =>
    b43_59 L xs zf D w o0 (some (21 + List.length h)) h51
theorem c43_0 {L : Nat} {xs : Nat → Int32} {zf : Value} {D : dD} {w k : Nat} (hD : dO L xs zf D k) (hz : zf.category = 1) : ∀ (o0 : Option Nat) (lv : rm_L) (h : rm_H) (r : dR), rm_get lv 0 = some (va_rf o0) → b43_0 L xs zf D w  o0 h = some r → dq L xs zf ah_M43 0 lv [] h (k + 1) r := by
  intro o0 lv h r G0 hh
  unfold b43_0 at hh
  obtain ⟨h1, q2, hh⟩ := db hh
  refine dq_new 52 4 3 (by decide +kernel) rfl ?_
  rw [Option.some.inj q2]
  refine dq_dup 4 (by decide +kernel) rfl ?_
  refine dq_aln 0 5 (by decide +kernel) rfl G0 ?_
  obtain ⟨p3, q4, hh⟩ := db hh
  refine dq_gR 10 0 [0] 8 (by decide +kernel) rfl q4 ?_
  obtain ⟨x5, q6, hh⟩ := db hh
  obtain ⟨a7, q8, q6⟩ := db q6
  rw [dq_xI q6] at q8
  refine dq_cvi hD 41 10 5 0 [1] p3 [] [va_rf (some (21 + List.length h)), va_rf (some (21 + List.length h))] 11 [.int x5.1, va_rf (some (21 + List.length h)), va_rf (some (21 + List.length h))] (by decide +kernel) ap_10 ⟨⟨Nat.le_of_ble_eq_true rfl, by decide⟩, rfl, rfl⟩ (dq_ok8 [1] [1, 1] (dc_r dc_n) (dc_r (dc_r dc_n)) (by decide +kernel)) (by decide +kernel) rfl q8 rfl ?_
  obtain ⟨h9, q10, hh⟩ := db hh
  obtain ⟨a11, q12, q10⟩ := db q10
  rw [dq_xV q10] at q12
  refine dq_csp hD 54 44 1 [] (some (21 + List.length h)) [.int x5.1] [va_rf (some (21 + List.length h))] 14 [va_rf (some (21 + List.length h))] (by decide +kernel) ap_44 ⟨Nat.le_of_ble_eq_true rfl, rfl, rfl⟩ (dq_ok8 [1, 1] [1] (dc_r (dc_i dc_n)) (dc_r dc_n) (by decide +kernel)) (by decide +kernel) rfl q12 rfl ?_
  refine dq_asn 1 15 (by decide +kernel) (by decide +kernel) ?_
  have g13 := dg_ne (i := 1) (u := va_rf (some (21 + List.length h))) (by decide) (Or.inr (drc _)) G0
  have g14 := dg_eq (lv) 1 (va_rf (some (21 + List.length h)))
  obtain ⟨h15, q16, hh⟩ := db hh
  refine dq_new 56 6 18 (by decide +kernel) rfl ?_
  rw [Option.some.inj q16]
  refine dq_dup 19 (by decide +kernel) rfl ?_
  refine dq_aln 0 20 (by decide +kernel) rfl g13 ?_
  obtain ⟨p17, q18, hh⟩ := db hh
  refine dq_gR 10 0 [0] 23 (by decide +kernel) rfl q18 ?_
  obtain ⟨p19, q20, hh⟩ := db hh
  obtain ⟨a21, q22, q20⟩ := db q20
  rw [dq_xR q20] at q22
  refine dq_cvi hD 58 48 5 0 [1] p17 [] [va_rf (some (21 + List.length h9)), va_rf (some (21 + List.length h9))] 26 [va_rf p19.1, va_rf (some (21 + List.length h9)), va_rf (some (21 + List.length h9))] (by decide +kernel) ap_48 ⟨⟨Nat.le_of_ble_eq_true rfl, by decide⟩, rfl, rfl⟩ (dq_ok8 [1] [1, 1] (dc_r dc_n) (dc_r (dc_r dc_n)) (by decide +kernel)) (by decide +kernel) rfl q22 rfl ?_
  obtain ⟨h23, q24, hh⟩ := db hh
  obtain ⟨a25, q26, q24⟩ := db q24
  rw [dq_xV q24] at q26
  refine dq_csp hD 62 59 1 [] (some (21 + List.length h9)) [va_rf p19.1] [va_rf (some (21 + List.length h9))] 29 [va_rf (some (21 + List.length h9))] (by decide +kernel) ap_59 ⟨Nat.le_of_ble_eq_true rfl, rfl, rfl⟩ (dq_ok8 [1, 1] [1] (dc_r (dc_r dc_n)) (dc_r dc_n) (by decide +kernel)) (by decide +kernel) rfl q26 rfl ?_
  refine dq_asn 2 30 (by decide +kernel) (by decide +kernel) ?_
  have g27 := dg_ne (i := 2) (u := va_rf (some (21 + List.length h9))) (by decide) (Or.inl (by decide)) g13
  have g28 := dg_ne (i := 2) (u := va_rf (some (21 + List.length h9))) (by decide) (Or.inr (drc _)) g14
  have g29 := dg_eq (rm_set1 (lv) 1 (va_rf (some (21 + List.length h)))) 2 (va_rf (some (21 + List.length h9)))
  refine dq_aln 2 31 (by decide +kernel) rfl g29 ?_
  obtain ⟨h30, q31, hh⟩ := db hh
  obtain ⟨a32, q33, q31⟩ := db q31
  rw [dq_xV q31] at q33
  refine dq_cvi hD 65 62 5 0 [6] (some (21 + List.length h9)) [] [] 34 [] (by decide +kernel) ap_62 ⟨⟨Nat.le_of_ble_eq_true rfl, by decide⟩, rfl, rfl⟩ (dq_ok8 [1] [] (dc_r dc_n) dc_n (by decide +kernel)) (by decide +kernel) rfl q33 rfl ?_
  obtain ⟨h34, q35, hh⟩ := db hh
  refine dq_new 68 8 37 (by decide +kernel) rfl ?_
  rw [Option.some.inj q35]
  refine dq_dup 38 (by decide +kernel) rfl ?_
  refine dq_aln 2 39 (by decide +kernel) rfl g29 ?_
  refine dq_aln 1 40 (by decide +kernel) rfl g28 ?_
  obtain ⟨h36, q37, hh⟩ := db hh
  obtain ⟨a38, q39, q37⟩ := db q37
  rw [dq_xV q37] at q39
  refine dq_csp hD 70 90 2 [] (some (21 + List.length h30)) [va_rf (some (21 + List.length h9)), va_rf (some (21 + List.length h))] [va_rf (some (21 + List.length h30))] 43 [va_rf (some (21 + List.length h30))] (by decide +kernel) ap_90 ⟨Nat.le_of_ble_eq_true rfl, rfl, rfl⟩ (dq_ok8 [1, 1, 1] [1] (dc_r (dc_r (dc_r dc_n))) (dc_r dc_n) (by decide +kernel)) (by decide +kernel) rfl q39 rfl ?_
  refine dq_asn 3 44 (by decide +kernel) (by decide +kernel) ?_
  have g40 := dg_ne (i := 3) (u := va_rf (some (21 + List.length h30))) (by decide) (Or.inl (by decide)) g27
  have g41 := dg_ne (i := 3) (u := va_rf (some (21 + List.length h30))) (by decide) (Or.inl (by decide)) g28
  have g42 := dg_ne (i := 3) (u := va_rf (some (21 + List.length h30))) (by decide) (Or.inr (drc _)) g29
  have g43 := dg_eq (rm_set1 (rm_set1 (lv) 1 (va_rf (some (21 + List.length h)))) 2 (va_rf (some (21 + List.length h9)))) 3 (va_rf (some (21 + List.length h30)))
  refine dq_aln 3 45 (by decide +kernel) rfl g43 ?_
  obtain ⟨h44, q45, hh⟩ := db hh
  obtain ⟨a46, q47, q45⟩ := db q45
  rw [dq_xV q45] at q47
  refine dq_cvi hD 73 91 5 0 [8] (some (21 + List.length h30)) [] [] 48 [] (by decide +kernel) ap_91 ⟨⟨Nat.le_of_ble_eq_true rfl, by decide⟩, rfl, rfl⟩ (dq_ok8 [1] [] (dc_r dc_n) dc_n (by decide +kernel)) (by decide +kernel) rfl q47 rfl ?_
  refine dq_aln 1 49 (by decide +kernel) rfl g41 ?_
  obtain ⟨x48, q49, hh⟩ := db hh
  refine dq_gI 76 7 [4] 52 (by decide +kernel) rfl q49 ?_
  rcases di hh with ⟨q50, hh⟩ | ⟨q50, hh⟩
  · refine dq_1 .ne 7 true 59 q50 (by decide +kernel) ?_
    exact c43_59 hD hz _ _ _ _ _ g40 g41 hh
  · refine dq_1 .ne 7 false 55 q50 (by decide +kernel) ?_
    refine dq_aln 1 56 (by decide +kernel) rfl g41 ?_
    obtain ⟨h51, q52, hh⟩ := db hh
    obtain ⟨a53, q54, q52⟩ := db q52
    rw [dq_xV q52] at q54
    refine dq_cvi hD 77 145 5 0 [4] (some (21 + List.length h)) [] [] 59 [] (by decide +kernel) ap_145 ⟨⟨Nat.le_of_ble_eq_true rfl, by decide⟩, rfl, rfl⟩ (dq_ok8 [1] [] (dc_r dc_n) dc_n (by decide +kernel)) (by decide +kernel) rfl q54 rfl ?_
    exact c43_59 hD hz _ _ _ _ _ g40 g41 hh
def f43 (L : Nat) (xs : Nat → Int32) (zf : Value) (D : dD) (w : Nat) (As : List Value) (h : rm_H) : Option dR := match As with
  | [v0] => (rm_rf v0).bind fun o0 => b43_0 L xs zf D w o0 h
  | _ => none
theorem d43 {L : Nat} {xs : Nat → Int32} {zf : Value} {D : dD} {w k : Nat} (hD : dO L xs zf D k) (hz : zf.category = 1) (As : List Value) (h : rm_H) (r : dR) (hh : f43 L xs zf D w As h = some r) : dq L xs zf ah_M43 0 (lv_args 0 As) [] h (k + 1) r := by
  unfold f43 at hh
  split at hh
  · obtain ⟨o0, e0, hb0⟩ := db hh
    have e0 := rm_rf_v _ _ e0
    subst e0
    refine c43_0 hD hz _ _ _ _ ?_ hb0
    all_goals (simp only [la_r, la_i, la_j]; rfl)
  · cases hh
