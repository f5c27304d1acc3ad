/-! methods -/
section N5B
variable {L : Nat} {xs : Nat → Int32} {zf : Value} {D : dD} {w : Nat} {Hz : rm_H}
theorem n6_5 (hE : fE5 D) (As : List Value) (h : rm_H) (z : nF5 Hz h) : oK5 Hz (f5 L xs zf D w As h) := by
  unfold f5
  split
  · repeat' (first
    | with_reducible exact n5_5_0 hE _ _ z
    | (with_reducible refine o5_rd (fun _ => ?_)))
  · exact o5_none
theorem n6_6 (hE : fE5 D) (As : List Value) (h : rm_H) (z : nF5 Hz h) : oK5 Hz (f6 L xs zf D w As h) := by
  unfold f6
  split
  · repeat' (first
    | with_reducible exact n5_6_0 hE _ _ z
    | (with_reducible refine o5_rd (fun _ => ?_)))
  · exact o5_none
theorem n6_9 (hE : fE5 D) (As : List Value) (h : rm_H) (z : nF5 Hz h) : oK5 Hz (f9 L xs zf D w As h) := by
  unfold f9
  split
  · repeat' (first
    | with_reducible exact n5_9_0 hE _ _ _ _ _ _ _ z
    | (with_reducible refine o5_rd (fun _ => ?_)))
  · exact o5_none
theorem n6_10 (hE : fE5 D) (As : List Value) (h : rm_H) (z : nF5 Hz h) : oK5 Hz (f10 L xs zf D w As h) := by
  unfold f10
  split
  · repeat' (first
    | with_reducible exact n5_10_0 hE _ _ z
    | (with_reducible refine o5_rd (fun _ => ?_)))
  · exact o5_none
theorem n6_11 (hE : fE5 D) (As : List Value) (h : rm_H) (z : nF5 Hz h) : oK5 Hz (f11 L xs zf D w As h) := by
  unfold f11
  split
  · repeat' (first
    | with_reducible exact n5_11_0 hE _ _ z
    | (with_reducible refine o5_rd (fun _ => ?_)))
  · exact o5_none
theorem n6_12 (hE : fE5 D) (As : List Value) (h : rm_H) (z : nF5 Hz h) : oK5 Hz (f12 L xs zf D w As h) := by
  unfold f12
  split
  · repeat' (first
    | with_reducible exact n5_12_0 hE _ _ _ z
    | (with_reducible refine o5_rd (fun _ => ?_)))
  · exact o5_none
theorem n6_13 (hE : fE5 D) (As : List Value) (h : rm_H) (z : nF5 Hz h) : oK5 Hz (f13 L xs zf D w As h) := by
  unfold f13
  split
  · repeat' (first
    | with_reducible exact n5_13_0 hE _ _ _ z
    | (with_reducible refine o5_rd (fun _ => ?_)))
  · exact o5_none
theorem n6_14 (hE : fE5 D) (As : List Value) (h : rm_H) (z : nF5 Hz h) : oK5 Hz (f14 L xs zf D w As h) := by
  unfold f14
  split
  · repeat' (first
    | with_reducible exact n5_14_0 hE _ _ _ z
    | (with_reducible refine o5_rd (fun _ => ?_)))
  · exact o5_none
theorem n6_15 (hE : fE5 D) (As : List Value) (h : rm_H) (z : nF5 Hz h) : oK5 Hz (f15 L xs zf D w As h) := by
  unfold f15
  split
  · repeat' (first
    | with_reducible exact n5_15_0 hE _ _ _ z
    | (with_reducible refine o5_rd (fun _ => ?_)))
  · exact o5_none
theorem n6_16 (hE : fE5 D) (As : List Value) (h : rm_H) (z : nF5 Hz h) : oK5 Hz (f16 L xs zf D w As h) := by
  unfold f16
  split
  · repeat' (first
    | with_reducible exact n5_16_0 hE _ _ _ z
    | (with_reducible refine o5_rd (fun _ => ?_)))
  · exact o5_none
theorem n6_17 (hE : fE5 D) (As : List Value) (h : rm_H) (z : nF5 Hz h) : oK5 Hz (f17 L xs zf D w As h) := by
  unfold f17
  split
  · repeat' (first
    | with_reducible exact n5_17_0 hE _ _ _ _ z
    | (with_reducible refine o5_rd (fun _ => ?_)))
  · exact o5_none
theorem n6_18 (hE : fE5 D) (As : List Value) (h : rm_H) (z : nF5 Hz h) : oK5 Hz (f18 L xs zf D w As h) := by
  unfold f18
  split
  · repeat' (first
    | with_reducible exact n5_18_0 hE _ _ _ z
    | (with_reducible refine o5_rd (fun _ => ?_)))
  · exact o5_none
theorem n6_19 (hE : fE5 D) (As : List Value) (h : rm_H) (z : nF5 Hz h) : oK5 Hz (f19 L xs zf D w As h) := by
  unfold f19
  split
  · repeat' (first
    | with_reducible exact n5_19_0 hE _ _ _ z
    | (with_reducible refine o5_rd (fun _ => ?_)))
  · exact o5_none
theorem n6_20 (hE : fE5 D) (As : List Value) (h : rm_H) (z : nF5 Hz h) : oK5 Hz (f20 L xs zf D w As h) := by
  unfold f20
  split
  · repeat' (first
    | with_reducible exact n5_20_0 hE _ _ _ z
    | (with_reducible refine o5_rd (fun _ => ?_)))
  · exact o5_none
theorem n6_21 (hE : fE5 D) (As : List Value) (h : rm_H) (z : nF5 Hz h) : oK5 Hz (f21 L xs zf D w As h) := by
  unfold f21
  split
  · repeat' (first
    | with_reducible exact n5_21_0 hE _ _ _ z
    | (with_reducible refine o5_rd (fun _ => ?_)))
  · exact o5_none
theorem n6_22 (hE : fE5 D) (As : List Value) (h : rm_H) (z : nF5 Hz h) : oK5 Hz (f22 L xs zf D w As h) := by
  unfold f22
  split
  · repeat' (first
    | with_reducible exact n5_22_0 hE _ _ z
    | (with_reducible refine o5_rd (fun _ => ?_)))
  · exact o5_none
theorem n6_23 (hE : fE5 D) (As : List Value) (h : rm_H) (z : nF5 Hz h) : oK5 Hz (f23 L xs zf D w As h) := by
  unfold f23
  split
  · repeat' (first
    | with_reducible exact n5_23_0 hE _ _ z
    | (with_reducible refine o5_rd (fun _ => ?_)))
  · exact o5_none
theorem n6_24 (hE : fE5 D) (As : List Value) (h : rm_H) (z : nF5 Hz h) : oK5 Hz (f24 L xs zf D w As h) := by
  unfold f24
  split
  · repeat' (first
    | with_reducible exact n5_24_0 hE _ _ z
    | (with_reducible refine o5_rd (fun _ => ?_)))
  · exact o5_none
theorem n6_25 (hE : fE5 D) (As : List Value) (h : rm_H) (z : nF5 Hz h) : oK5 Hz (f25 L xs zf D w As h) := by
  unfold f25
  split
  · repeat' (first
    | with_reducible exact n5_25_0 hE _ _ _ _ _ _ z
    | (with_reducible refine o5_rd (fun _ => ?_)))
  · exact o5_none
theorem n6_26 (hE : fE5 D) (As : List Value) (h : rm_H) (z : nF5 Hz h) : oK5 Hz (f26 L xs zf D w As h) := by
  unfold f26
  split
  · repeat' (first
    | with_reducible exact n5_26_0 hE _ _ _ _ _ _ z
    | (with_reducible refine o5_rd (fun _ => ?_)))
  · exact o5_none
theorem n6_27 (hE : fE5 D) (As : List Value) (h : rm_H) (z : nF5 Hz h) : oK5 Hz (f27 L xs zf D w As h) := by
  unfold f27
  split
  · repeat' (first
    | with_reducible exact n5_27_0 hE _ _ _ _ z
    | (with_reducible refine o5_rd (fun _ => ?_)))
  · exact o5_none
theorem n6_28 (hE : fE5 D) (As : List Value) (h : rm_H) (z : nF5 Hz h) : oK5 Hz (f28 L xs zf D w As h) := by
  unfold f28
  split
  · repeat' (first
    | with_reducible exact n5_28_0 hE _ _ z
    | (with_reducible refine o5_rd (fun _ => ?_)))
  · exact o5_none
theorem n6_29 (hE : fE5 D) (As : List Value) (h : rm_H) (z : nF5 Hz h) : oK5 Hz (f29 L xs zf D w As h) := by
  unfold f29
  split
  · repeat' (first
    | with_reducible exact n5_29_0 hE _ _ _ _ z
    | (with_reducible refine o5_rd (fun _ => ?_)))
  · exact o5_none
theorem n6_30 (hE : fE5 D) (As : List Value) (h : rm_H) (z : nF5 Hz h) : oK5 Hz (f30 L xs zf D w As h) := by
  unfold f30
  split
  · repeat' (first
    | with_reducible exact n5_30_0 hE _ _ _ _ z
    | (with_reducible refine o5_rd (fun _ => ?_)))
  · exact o5_none
theorem n6_31 (hE : fE5 D) (As : List Value) (h : rm_H) (z : nF5 Hz h) : oK5 Hz (f31 L xs zf D w As h) := by
  unfold f31
  split
  · repeat' (first
    | with_reducible exact n5_31_0 hE _ _ _ _ z
    | (with_reducible refine o5_rd (fun _ => ?_)))
  · exact o5_none
theorem n6_32 (hE : fE5 D) (As : List Value) (h : rm_H) (z : nF5 Hz h) : oK5 Hz (f32 L xs zf D w As h) := by
  unfold f32
  split
  · repeat' (first
    | with_reducible exact n5_32_0 hE _ _ _ _ z
    | (with_reducible refine o5_rd (fun _ => ?_)))
  · exact o5_none
theorem n6_33 (hE : fE5 D) (As : List Value) (h : rm_H) (z : nF5 Hz h) : oK5 Hz (f33 L xs zf D w As h) := by
  unfold f33
  split
  · repeat' (first
    | with_reducible exact n5_33_0 hE _ _ _ z
    | (with_reducible refine o5_rd (fun _ => ?_)))
  · exact o5_none
theorem n6_34 (hE : fE5 D) (As : List Value) (h : rm_H) (z : nF5 Hz h) : oK5 Hz (f34 L xs zf D w As h) := by
  unfold f34
  split
  · repeat' (first
    | with_reducible exact n5_34_0 hE _ _ _ z
    | (with_reducible refine o5_rd (fun _ => ?_)))
  · exact o5_none
theorem n6_35 (hE : fE5 D) (As : List Value) (h : rm_H) (z : nF5 Hz h) : oK5 Hz (f35 L xs zf D w As h) := by
  unfold f35
  split
  · repeat' (first
    | with_reducible exact n5_35_0 hE _ _ _ z
    | (with_reducible refine o5_rd (fun _ => ?_)))
  · exact o5_none
theorem n6_36 (hE : fE5 D) (As : List Value) (h : rm_H) (z : nF5 Hz h) : oK5 Hz (f36 L xs zf D w As h) := by
  unfold f36
  split
  · repeat' (first
    | with_reducible exact n5_36_0 hE _ _ _ z
    | (with_reducible refine o5_rd (fun _ => ?_)))
  · exact o5_none
theorem n6_37 (hE : fE5 D) (As : List Value) (h : rm_H) (z : nF5 Hz h) : oK5 Hz (f37 L xs zf D w As h) := by
  unfold f37
  split
  · repeat' (first
    | with_reducible exact n5_37_0 hE _ _ _ z
    | (with_reducible refine o5_rd (fun _ => ?_)))
  · exact o5_none
theorem n6_38 (hE : fE5 D) (As : List Value) (h : rm_H) (z : nF5 Hz h) : oK5 Hz (f38 L xs zf D w As h) := by
  unfold f38
  split
  · repeat' (first
    | with_reducible exact n5_38_0 hE _ _ _ z
    | (with_reducible refine o5_rd (fun _ => ?_)))
  · exact o5_none
theorem n6_39 (hE : fE5 D) (As : List Value) (h : rm_H) (z : nF5 Hz h) : oK5 Hz (f39 L xs zf D w As h) := by
  unfold f39
  split
  · repeat' (first
    | with_reducible exact n5_39_0 hE _ _ _ _ z
    | (with_reducible refine o5_rd (fun _ => ?_)))
  · exact o5_none
theorem n6_40 (hE : fE5 D) (As : List Value) (h : rm_H) (z : nF5 Hz h) : oK5 Hz (f40 L xs zf D w As h) := by
  unfold f40
  split
  · repeat' (first
    | with_reducible exact n5_40_0 hE _ _ _ _ _ z
    | (with_reducible refine o5_rd (fun _ => ?_)))
  · exact o5_none
theorem n6_41 (hE : fE5 D) (As : List Value) (h : rm_H) (z : nF5 Hz h) : oK5 Hz (f41 L xs zf D w As h) := by
  unfold f41
  split
  · repeat' (first
    | with_reducible exact n5_41_0 hE _ _ _ _ z
    | (with_reducible refine o5_rd (fun _ => ?_)))
  · exact o5_none
theorem n6_42 (hE : fE5 D) (As : List Value) (h : rm_H) (z : nF5 Hz h) : oK5 Hz (f42 L xs zf D w As h) := by
  unfold f42
  split
  · repeat' (first
    | with_reducible exact n5_42_0 hE _ _ _ _ z
    | (with_reducible refine o5_rd (fun _ => ?_)))
  · exact o5_none
theorem n6_57 (hE : fE5 D) (As : List Value) (h : rm_H) (z : nF5 Hz h) : oK5 Hz (f57 L xs zf D w As h) := by
  unfold f57
  split
  · repeat' (first
    | with_reducible exact n5_57_0 hE _ _ _ z
    | (with_reducible refine o5_rd (fun _ => ?_)))
  · exact o5_none
theorem n6_60 (hE : fE5 D) (As : List Value) (h : rm_H) (z : nF5 Hz h) : oK5 Hz (f60 L xs zf D w As h) := by
  unfold f60
  split
  · repeat' (first
    | with_reducible exact n5_60_0 hE _ _ z
    | (with_reducible refine o5_rd (fun _ => ?_)))
  · exact o5_none
theorem n6_61 (hE : fE5 D) (As : List Value) (h : rm_H) (z : nF5 Hz h) : oK5 Hz (f61 L xs zf D w As h) := by
  unfold f61
  split
  · repeat' (first
    | with_reducible exact n5_61_0 hE _ _ z
    | (with_reducible refine o5_rd (fun _ => ?_)))
  · exact o5_none
theorem n6_63 (hE : fE5 D) (As : List Value) (h : rm_H) (z : nF5 Hz h) : oK5 Hz (f63 L xs zf D w As h) := by
  unfold f63
  split
  · repeat' (first
    | with_reducible exact n5_63_0 hE _ _ _ z
    | (with_reducible refine o5_rd (fun _ => ?_)))
  · exact o5_none
theorem n6_64 (hE : fE5 D) (As : List Value) (h : rm_H) (z : nF5 Hz h) : oK5 Hz (f64 L xs zf D w As h) := by
  unfold f64
  split
  · repeat' (first
    | with_reducible exact n5_64_0 hE _ _ z
    | (with_reducible refine o5_rd (fun _ => ?_)))
  · exact o5_none
theorem n6_65 (hE : fE5 D) (As : List Value) (h : rm_H) (z : nF5 Hz h) : oK5 Hz (f65 L xs zf D w As h) := by
  unfold f65
  split
  · repeat' (first
    | with_reducible exact n5_65_0 hE _ _ _ z
    | (with_reducible refine o5_rd (fun _ => ?_)))
  · exact o5_none
theorem n6_66 (hE : fE5 D) (As : List Value) (h : rm_H) (z : nF5 Hz h) : oK5 Hz (f66 L xs zf D w As h) := by
  unfold f66
  split
  · repeat' (first
    | with_reducible exact n5_66_0 hE _ _ _ z
    | (with_reducible refine o5_rd (fun _ => ?_)))
  · exact o5_none
theorem n6_101 (hE : fE5 D) (As : List Value) (h : rm_H) (z : nF5 Hz h) : oK5 Hz (f101 L xs zf D w As h) := by
  unfold f101
  split
  · repeat' (first
    | with_reducible exact n5_101_0 hE _ _ z
    | (with_reducible refine o5_rd (fun _ => ?_)))
  · exact o5_none
theorem n6_146 (hE : fE5 D) (As : List Value) (h : rm_H) (z : nF5 Hz h) : oK5 Hz (f146 L xs zf D w As h) := by
  unfold f146
  split
  · repeat' (first
    | with_reducible exact n5_146_0 hE _ _ _ z
    | (with_reducible refine o5_rd (fun _ => ?_)))
  · exact o5_none
theorem n6_147 (hE : fE5 D) (As : List Value) (h : rm_H) (z : nF5 Hz h) : oK5 Hz (f147 L xs zf D w As h) := by
  unfold f147
  split
  · repeat' (first
    | with_reducible exact n5_147_0 hE _ _ _ z
    | (with_reducible refine o5_rd (fun _ => ?_)))
  · exact o5_none
theorem n6_148 (hE : fE5 D) (As : List Value) (h : rm_H) (z : nF5 Hz h) : oK5 Hz (f148 L xs zf D w As h) := by
  unfold f148
  split
  · repeat' (first
    | with_reducible exact n5_148_0 hE _ _ _ z
    | (with_reducible refine o5_rd (fun _ => ?_)))
  · exact o5_none
theorem n6_159 (hE : fE5 D) (As : List Value) (h : rm_H) (z : nF5 Hz h) : oK5 Hz (f159 L xs zf D w As h) := by
  unfold f159
  split
  · repeat' (first
    | with_reducible exact n5_159_0 hE _ _ z
    | (with_reducible refine o5_rd (fun _ => ?_)))
  · exact o5_none
theorem n6_176 (hE : fE5 D) (As : List Value) (h : rm_H) (z : nF5 Hz h) : oK5 Hz (f176 L xs zf D w As h) := by
  unfold f176
  split
  · repeat' (first
    | with_reducible exact n5_176_0 hE _ _ _ z
    | (with_reducible refine o5_rd (fun _ => ?_)))
  · exact o5_none
theorem n6_189 (hE : fE5 D) (As : List Value) (h : rm_H) (z : nF5 Hz h) : oK5 Hz (f189 L xs zf D w As h) := by
  unfold f189
  split
  · repeat' (first
    | with_reducible exact n5_189_0 hE _ _ z
    | (with_reducible refine o5_rd (fun _ => ?_)))
  · exact o5_none
theorem n6_194 (hE : fE5 D) (As : List Value) (h : rm_H) (z : nF5 Hz h) : oK5 Hz (f194 L xs zf D w As h) := by
  unfold f194
  split
  · repeat' (first
    | with_reducible exact n5_194_0 hE _ _ _ z
    | (with_reducible refine o5_rd (fun _ => ?_)))
  · exact o5_none
theorem n6_216 (hE : fE5 D) (As : List Value) (h : rm_H) (z : nF5 Hz h) : oK5 Hz (f216 L xs zf D w As h) := by
  unfold f216
  split
  · repeat' (first
    | with_reducible exact n5_216_0 hE _ _ z
    | (with_reducible refine o5_rd (fun _ => ?_)))
  · exact o5_none
theorem n6_217 (hE : fE5 D) (As : List Value) (h : rm_H) (z : nF5 Hz h) : oK5 Hz (f217 L xs zf D w As h) := by
  unfold f217
  split
  · repeat' (first
    | with_reducible exact n5_217_0 hE _ _ z
    | (with_reducible refine o5_rd (fun _ => ?_)))
  · exact o5_none
theorem n6_222 (hE : fE5 D) (As : List Value) (h : rm_H) (z : nF5 Hz h) : oK5 Hz (f222 L xs zf D w As h) := by
  unfold f222
  split
  · repeat' (first
    | with_reducible exact n5_222_0 hE _ _ _ _ z
    | (with_reducible refine o5_rd (fun _ => ?_)))
  · exact o5_none
theorem n6_223 (hE : fE5 D) (As : List Value) (h : rm_H) (z : nF5 Hz h) : oK5 Hz (f223 L xs zf D w As h) := by
  unfold f223
  split
  · repeat' (first
    | with_reducible exact n5_223_0 hE _ _ z
    | (with_reducible refine o5_rd (fun _ => ?_)))
  · exact o5_none
theorem n6_224 (hE : fE5 D) (As : List Value) (h : rm_H) (z : nF5 Hz h) : oK5 Hz (f224 L xs zf D w As h) := by
  unfold f224
  split
  · repeat' (first
    | with_reducible exact n5_224_0 hE _ _ _ _ _ z
    | (with_reducible refine o5_rd (fun _ => ?_)))
  · exact o5_none
theorem n6_225 (hE : fE5 D) (As : List Value) (h : rm_H) (z : nF5 Hz h) : oK5 Hz (f225 L xs zf D w As h) := by
  unfold f225
  split
  · repeat' (first
    | with_reducible exact n5_225_0 hE _ _ _ z
    | (with_reducible refine o5_rd (fun _ => ?_)))
  · exact o5_none
theorem n6_226 (hE : fE5 D) (As : List Value) (h : rm_H) (z : nF5 Hz h) : oK5 Hz (f226 L xs zf D w As h) := by
  unfold f226
  split
  · repeat' (first
    | with_reducible exact n5_226_0 hE _ _ _ _ z
    | (with_reducible refine o5_rd (fun _ => ?_)))
  · exact o5_none
theorem n6_227 (hE : fE5 D) (As : List Value) (h : rm_H) (z : nF5 Hz h) : oK5 Hz (f227 L xs zf D w As h) := by
  unfold f227
  split
  · repeat' (first
    | with_reducible exact n5_227_0 hE _ _ _ z
    | (with_reducible refine o5_rd (fun _ => ?_)))
  · exact o5_none
theorem n6_228 (hE : fE5 D) (As : List Value) (h : rm_H) (z : nF5 Hz h) : oK5 Hz (f228 L xs zf D w As h) := by
  unfold f228
  split
  · repeat' (first
    | with_reducible exact n5_228_0 hE _ _ _ _ z
    | (with_reducible refine o5_rd (fun _ => ?_)))
  · exact o5_none
theorem n6_229 (hE : fE5 D) (As : List Value) (h : rm_H) (z : nF5 Hz h) : oK5 Hz (f229 L xs zf D w As h) := by
  unfold f229
  split
  · repeat' (first
    | with_reducible exact n5_229_0 hE _ _ z
    | (with_reducible refine o5_rd (fun _ => ?_)))
  · exact o5_none
theorem n6_230 (hE : fE5 D) (As : List Value) (h : rm_H) (z : nF5 Hz h) : oK5 Hz (f230 L xs zf D w As h) := by
  unfold f230
  split
  · repeat' (first
    | with_reducible exact n5_230_0 hE _ _ _ _ _ z
    | (with_reducible refine o5_rd (fun _ => ?_)))
  · exact o5_none
theorem n6_231 (hE : fE5 D) (As : List Value) (h : rm_H) (z : nF5 Hz h) : oK5 Hz (f231 L xs zf D w As h) := by
  unfold f231
  split
  · repeat' (first
    | with_reducible exact n5_231_0 hE _ _ _ _ z
    | (with_reducible refine o5_rd (fun _ => ?_)))
  · exact o5_none
theorem n6_232 (hE : fE5 D) (As : List Value) (h : rm_H) (z : nF5 Hz h) : oK5 Hz (f232 L xs zf D w As h) := by
  unfold f232
  split
  · repeat' (first
    | with_reducible exact n5_232_0 hE _ _ _ z
    | (with_reducible refine o5_rd (fun _ => ?_)))
  · exact o5_none
theorem n6_233 (hE : fE5 D) (As : List Value) (h : rm_H) (z : nF5 Hz h) : oK5 Hz (f233 L xs zf D w As h) := by
  unfold f233
  split
  · repeat' (first
    | with_reducible exact n5_233_0 hE _ _ _ z
    | (with_reducible refine o5_rd (fun _ => ?_)))
  · exact o5_none
theorem n6_234 (hE : fE5 D) (As : List Value) (h : rm_H) (z : nF5 Hz h) : oK5 Hz (f234 L xs zf D w As h) := by
  unfold f234
  split
  · repeat' (first
    | with_reducible exact n5_234_0 hE _ _ z
    | (with_reducible refine o5_rd (fun _ => ?_)))
  · exact o5_none
theorem n6_235 (hE : fE5 D) (As : List Value) (h : rm_H) (z : nF5 Hz h) : oK5 Hz (f235 L xs zf D w As h) := by
  unfold f235
  split
  · repeat' (first
    | with_reducible exact n5_235_0 hE _ _ _ _ z
    | (with_reducible refine o5_rd (fun _ => ?_)))
  · exact o5_none
theorem n6_236 (hE : fE5 D) (As : List Value) (h : rm_H) (z : nF5 Hz h) : oK5 Hz (f236 L xs zf D w As h) := by
  unfold f236
  split
  · repeat' (first
    | with_reducible exact n5_236_0 hE _ _ _ z
    | (with_reducible refine o5_rd (fun _ => ?_)))
  · exact o5_none
theorem n6_237 (hE : fE5 D) (As : List Value) (h : rm_H) (z : nF5 Hz h) : oK5 Hz (f237 L xs zf D w As h) := by
  unfold f237
  split
  · repeat' (first
    | with_reducible exact n5_237_0 hE _ _ _ z
    | (with_reducible refine o5_rd (fun _ => ?_)))
  · exact o5_none
theorem n6_238 (hE : fE5 D) (As : List Value) (h : rm_H) (z : nF5 Hz h) : oK5 Hz (f238 L xs zf D w As h) := by
  unfold f238
  split
  · repeat' (first
    | with_reducible exact n5_238_0 hE _ _ z
    | (with_reducible refine o5_rd (fun _ => ?_)))
  · exact o5_none
theorem n6_239 (hE : fE5 D) (As : List Value) (h : rm_H) (z : nF5 Hz h) : oK5 Hz (f239 L xs zf D w As h) := by
  unfold f239
  split
  · repeat' (first
    | with_reducible exact n5_239_0 hE _ _ _ z
    | (with_reducible refine o5_rd (fun _ => ?_)))
  · exact o5_none
theorem n6_240 (hE : fE5 D) (As : List Value) (h : rm_H) (z : nF5 Hz h) : oK5 Hz (f240 L xs zf D w As h) := by
  unfold f240
  split
  · repeat' (first
    | with_reducible exact n5_240_0 hE _ _ _ z
    | (with_reducible refine o5_rd (fun _ => ?_)))
  · exact o5_none
theorem n6_241 (hE : fE5 D) (As : List Value) (h : rm_H) (z : nF5 Hz h) : oK5 Hz (f241 L xs zf D w As h) := by
  unfold f241
  split
  · repeat' (first
    | with_reducible exact n5_241_0 hE _ _ _ z
    | (with_reducible refine o5_rd (fun _ => ?_)))
  · exact o5_none
theorem n6_242 (hE : fE5 D) (As : List Value) (h : rm_H) (z : nF5 Hz h) : oK5 Hz (f242 L xs zf D w As h) := by
  unfold f242
  split
  · repeat' (first
    | with_reducible exact n5_242_0 hE _ _ _ _ z
    | (with_reducible refine o5_rd (fun _ => ?_)))
  · exact o5_none
theorem n6_243 (hE : fE5 D) (As : List Value) (h : rm_H) (z : nF5 Hz h) : oK5 Hz (f243 L xs zf D w As h) := by
  unfold f243
  split
  · repeat' (first
    | with_reducible exact n5_243_0 hE _ _ _ z
    | (with_reducible refine o5_rd (fun _ => ?_)))
  · exact o5_none
theorem n6_244 (hE : fE5 D) (As : List Value) (h : rm_H) (z : nF5 Hz h) : oK5 Hz (f244 L xs zf D w As h) := by
  unfold f244
  split
  · repeat' (first
    | with_reducible exact n5_244_0 hE _ _ _ _ z
    | (with_reducible refine o5_rd (fun _ => ?_)))
  · exact o5_none
theorem n6_245 (hE : fE5 D) (As : List Value) (h : rm_H) (z : nF5 Hz h) : oK5 Hz (f245 L xs zf D w As h) := by
  unfold f245
  split
  · repeat' (first
    | with_reducible exact n5_245_0 hE _ _ z
    | (with_reducible refine o5_rd (fun _ => ?_)))
  · exact o5_none
theorem n6_246 (hE : fE5 D) (As : List Value) (h : rm_H) (z : nF5 Hz h) : oK5 Hz (f246 L xs zf D w As h) := by
  unfold f246
  split
  · repeat' (first
    | with_reducible exact n5_246_0 hE _ _ z
    | (with_reducible refine o5_rd (fun _ => ?_)))
  · exact o5_none
theorem n6_247 (hE : fE5 D) (As : List Value) (h : rm_H) (z : nF5 Hz h) : oK5 Hz (f247 L xs zf D w As h) := by
  unfold f247
  split
  · repeat' (first
    | with_reducible exact n5_247_0 hE _ _ _ z
    | (with_reducible refine o5_rd (fun _ => ?_)))
  · exact o5_none
theorem n6_248 (hE : fE5 D) (As : List Value) (h : rm_H) (z : nF5 Hz h) : oK5 Hz (f248 L xs zf D w As h) := by
  unfold f248
  split
  · repeat' (first
    | with_reducible exact n5_248_0 hE _ _ _ z
    | (with_reducible refine o5_rd (fun _ => ?_)))
  · exact o5_none
theorem n6_249 (hE : fE5 D) (As : List Value) (h : rm_H) (z : nF5 Hz h) : oK5 Hz (f249 L xs zf D w As h) := by
  unfold f249
  split
  · repeat' (first
    | with_reducible exact n5_249_0 hE _ _ _ z
    | (with_reducible refine o5_rd (fun _ => ?_)))
  · exact o5_none
theorem n6_250 (hE : fE5 D) (As : List Value) (h : rm_H) (z : nF5 Hz h) : oK5 Hz (f250 L xs zf D w As h) := by
  unfold f250
  split
  · repeat' (first
    | with_reducible exact n5_250_0 hE _ _ _ z
    | (with_reducible refine o5_rd (fun _ => ?_)))
  · exact o5_none
theorem n6_251 (hE : fE5 D) (As : List Value) (h : rm_H) (z : nF5 Hz h) : oK5 Hz (f251 L xs zf D w As h) := by
  unfold f251
  split
  · repeat' (first
    | with_reducible exact n5_251_0 hE _ _ _ _ z
    | (with_reducible refine o5_rd (fun _ => ?_)))
  · exact o5_none
theorem n6_252 (hE : fE5 D) (As : List Value) (h : rm_H) (z : nF5 Hz h) : oK5 Hz (f252 L xs zf D w As h) := by
  unfold f252
  split
  · repeat' (first
    | with_reducible exact n5_252_0 hE _ _ z
    | (with_reducible refine o5_rd (fun _ => ?_)))
  · exact o5_none
theorem n6_253 (hE : fE5 D) (As : List Value) (h : rm_H) (z : nF5 Hz h) : oK5 Hz (f253 L xs zf D w As h) := by
  unfold f253
  split
  · repeat' (first
    | with_reducible exact n5_253_0 hE _ _ _ z
    | (with_reducible refine o5_rd (fun _ => ?_)))
  · exact o5_none
theorem n6_254 (hE : fE5 D) (As : List Value) (h : rm_H) (z : nF5 Hz h) : oK5 Hz (f254 L xs zf D w As h) := by
  unfold f254
  split
  · repeat' (first
    | with_reducible exact n5_254_0 hE _ _ _ _ z
    | (with_reducible refine o5_rd (fun _ => ?_)))
  · exact o5_none
theorem n6_255 (hE : fE5 D) (As : List Value) (h : rm_H) (z : nF5 Hz h) : oK5 Hz (f255 L xs zf D w As h) := by
  unfold f255
  split
  · repeat' (first
    | with_reducible exact n5_255_0 hE _ _ _ z
    | (with_reducible refine o5_rd (fun _ => ?_)))
  · exact o5_none
theorem n6_256 (hE : fE5 D) (As : List Value) (h : rm_H) (z : nF5 Hz h) : oK5 Hz (f256 L xs zf D w As h) := by
  unfold f256
  split
  · repeat' (first
    | with_reducible exact n5_256_0 hE _ _ _ z
    | (with_reducible refine o5_rd (fun _ => ?_)))
  · exact o5_none
theorem n6_257 (hE : fE5 D) (As : List Value) (h : rm_H) (z : nF5 Hz h) : oK5 Hz (f257 L xs zf D w As h) := by
  unfold f257
  split
  · repeat' (first
    | with_reducible exact n5_257_0 hE _ _ _ z
    | (with_reducible refine o5_rd (fun _ => ?_)))
  · exact o5_none
theorem n6_258 (hE : fE5 D) (As : List Value) (h : rm_H) (z : nF5 Hz h) : oK5 Hz (f258 L xs zf D w As h) := by
  unfold f258
  split
  · repeat' (first
    | with_reducible exact n5_258_0 hE _ _ _ z
    | (with_reducible refine o5_rd (fun _ => ?_)))
  · exact o5_none
theorem n6_259 (hE : fE5 D) (As : List Value) (h : rm_H) (z : nF5 Hz h) : oK5 Hz (f259 L xs zf D w As h) := by
  unfold f259
  split
  · repeat' (first
    | with_reducible exact n5_259_0 hE _ _ _ z
    | (with_reducible refine o5_rd (fun _ => ?_)))
  · exact o5_none
theorem n6_260 (hE : fE5 D) (As : List Value) (h : rm_H) (z : nF5 Hz h) : oK5 Hz (f260 L xs zf D w As h) := by
  unfold f260
  split
  · repeat' (first
    | with_reducible exact n5_260_0 hE _ _ _ _ _ z
    | (with_reducible refine o5_rd (fun _ => ?_)))
  · exact o5_none
theorem n6_261 (hE : fE5 D) (As : List Value) (h : rm_H) (z : nF5 Hz h) : oK5 Hz (f261 L xs zf D w As h) := by
  unfold f261
  split
  · repeat' (first
    | with_reducible exact n5_261_0 hE _ _ _ _ z
    | (with_reducible refine o5_rd (fun _ => ?_)))
  · exact o5_none
theorem n6_262 (hE : fE5 D) (As : List Value) (h : rm_H) (z : nF5 Hz h) : oK5 Hz (f262 L xs zf D w As h) := by
  unfold f262
  split
  · repeat' (first
    | with_reducible exact n5_262_0 hE _ _ _ _ z
    | (with_reducible refine o5_rd (fun _ => ?_)))
  · exact o5_none
theorem n6_263 (hE : fE5 D) (As : List Value) (h : rm_H) (z : nF5 Hz h) : oK5 Hz (f263 L xs zf D w As h) := by
  unfold f263
  split
  · repeat' (first
    | with_reducible exact n5_263_0 hE _ _ _ _ z
    | (with_reducible refine o5_rd (fun _ => ?_)))
  · exact o5_none
theorem n6_264 (hE : fE5 D) (As : List Value) (h : rm_H) (z : nF5 Hz h) : oK5 Hz (f264 L xs zf D w As h) := by
  unfold f264
  split
  · repeat' (first
    | with_reducible exact n5_264_0 hE _ _ _ _ z
    | (with_reducible refine o5_rd (fun _ => ?_)))
  · exact o5_none
theorem n6_265 (hE : fE5 D) (As : List Value) (h : rm_H) (z : nF5 Hz h) : oK5 Hz (f265 L xs zf D w As h) := by
  unfold f265
  split
  · repeat' (first
    | with_reducible exact n5_265_0 hE _ _ _ _ _ z
    | (with_reducible refine o5_rd (fun _ => ?_)))
  · exact o5_none
theorem n6_266 (hE : fE5 D) (As : List Value) (h : rm_H) (z : nF5 Hz h) : oK5 Hz (f266 L xs zf D w As h) := by
  unfold f266
  split
  · repeat' (first
    | with_reducible exact n5_266_0 hE _ _ _ z
    | (with_reducible refine o5_rd (fun _ => ?_)))
  · exact o5_none
theorem n6_270 (hE : fE5 D) (As : List Value) (h : rm_H) (z : nF5 Hz h) : oK5 Hz (f270 L xs zf D w As h) := by
  unfold f270
  split
  · repeat' (first
    | with_reducible exact n5_270_0 hE _ _ _ _ z
    | (with_reducible refine o5_rd (fun _ => ?_)))
  · exact o5_none
theorem n6_271 (hE : fE5 D) (As : List Value) (h : rm_H) (z : nF5 Hz h) : oK5 Hz (f271 L xs zf D w As h) := by
  unfold f271
  split
  · repeat' (first
    | with_reducible exact n5_271_0 hE _ _ _ _ _ z
    | (with_reducible refine o5_rd (fun _ => ?_)))
  · exact o5_none
theorem n6_272 (hE : fE5 D) (As : List Value) (h : rm_H) (z : nF5 Hz h) : oK5 Hz (f272 L xs zf D w As h) := by
  unfold f272
  split
  · repeat' (first
    | with_reducible exact n5_272_0 hE _ _ _ z
    | (with_reducible refine o5_rd (fun _ => ?_)))
  · exact o5_none
theorem n6_273 (hE : fE5 D) (As : List Value) (h : rm_H) (z : nF5 Hz h) : oK5 Hz (f273 L xs zf D w As h) := by
  unfold f273
  split
  · repeat' (first
    | with_reducible exact n5_273_0 hE _ _ _ _ _ z
    | (with_reducible refine o5_rd (fun _ => ?_)))
  · exact o5_none
theorem n6_274 (hE : fE5 D) (As : List Value) (h : rm_H) (z : nF5 Hz h) : oK5 Hz (f274 L xs zf D w As h) := by
  unfold f274
  split
  · repeat' (first
    | with_reducible exact n5_274_0 hE _ _ _ _ _ z
    | (with_reducible refine o5_rd (fun _ => ?_)))
  · exact o5_none
theorem n6_275 (hE : fE5 D) (As : List Value) (h : rm_H) (z : nF5 Hz h) : oK5 Hz (f275 L xs zf D w As h) := by
  unfold f275
  split
  · repeat' (first
    | with_reducible exact n5_275_0 hE _ _ _ z
    | (with_reducible refine o5_rd (fun _ => ?_)))
  · exact o5_none
theorem n6_276 (hE : fE5 D) (As : List Value) (h : rm_H) (z : nF5 Hz h) : oK5 Hz (f276 L xs zf D w As h) := by
  unfold f276
  split
  · repeat' (first
    | with_reducible exact n5_276_0 hE _ _ _ z
    | (with_reducible refine o5_rd (fun _ => ?_)))
  · exact o5_none
theorem n6_277 (hE : fE5 D) (As : List Value) (h : rm_H) (z : nF5 Hz h) : oK5 Hz (f277 L xs zf D w As h) := by
  unfold f277
  split
  · repeat' (first
    | with_reducible exact n5_277_0 hE _ _ _ z
    | (with_reducible refine o5_rd (fun _ => ?_)))
  · exact o5_none
theorem n6_278 (hE : fE5 D) (As : List Value) (h : rm_H) (z : nF5 Hz h) : oK5 Hz (f278 L xs zf D w As h) := by
  unfold f278
  split
  · repeat' (first
    | with_reducible exact n5_278_0 hE _ _ _ z
    | (with_reducible refine o5_rd (fun _ => ?_)))
  · exact o5_none
theorem n6_279 (hE : fE5 D) (As : List Value) (h : rm_H) (z : nF5 Hz h) : oK5 Hz (f279 L xs zf D w As h) := by
  unfold f279
  split
  · repeat' (first
    | with_reducible exact n5_279_0 hE _ _ z
    | (with_reducible refine o5_rd (fun _ => ?_)))
  · exact o5_none
theorem n6_280 (hE : fE5 D) (As : List Value) (h : rm_H) (z : nF5 Hz h) : oK5 Hz (f280 L xs zf D w As h) := by
  unfold f280
  split
  · repeat' (first
    | with_reducible exact n5_280_0 hE _ _ _ _ z
    | (with_reducible refine o5_rd (fun _ => ?_)))
  · exact o5_none
theorem n6_281 (hE : fE5 D) (As : List Value) (h : rm_H) (z : nF5 Hz h) : oK5 Hz (f281 L xs zf D w As h) := by
  unfold f281
  split
  · repeat' (first
    | with_reducible exact n5_281_0 hE _ _ _ _ _ z
    | (with_reducible refine o5_rd (fun _ => ?_)))
  · exact o5_none
end N5B
