/-! all of them -/
section N5C
variable {L : Nat} {xs : Nat → Int32} {zf : Value} {w k : Nat}
theorem n7_5 (ih : fE5 (dM L xs zf w k)) : ∀ As h r h', dM L xs zf w (k + 1) 5 As h = some (r, h') → nF5 h h' := fun As h r h' e => by rw [e5] at e; exact n6_5 ih As h (nF5_r h) r h' e
theorem n7_6 (ih : fE5 (dM L xs zf w k)) : ∀ As h r h', dM L xs zf w (k + 1) 6 As h = some (r, h') → nF5 h h' := fun As h r h' e => by rw [e6] at e; exact n6_6 ih As h (nF5_r h) r h' e
theorem n7_9 (ih : fE5 (dM L xs zf w k)) : ∀ As h r h', dM L xs zf w (k + 1) 9 As h = some (r, h') → nF5 h h' := fun As h r h' e => by rw [e9] at e; exact n6_9 ih As h (nF5_r h) r h' e
theorem n7_10 (ih : fE5 (dM L xs zf w k)) : ∀ As h r h', dM L xs zf w (k + 1) 10 As h = some (r, h') → nF5 h h' := fun As h r h' e => by rw [e10] at e; exact n6_10 ih As h (nF5_r h) r h' e
theorem n7_11 (ih : fE5 (dM L xs zf w k)) : ∀ As h r h', dM L xs zf w (k + 1) 11 As h = some (r, h') → nF5 h h' := fun As h r h' e => by rw [e11] at e; exact n6_11 ih As h (nF5_r h) r h' e
theorem n7_12 (ih : fE5 (dM L xs zf w k)) : ∀ As h r h', dM L xs zf w (k + 1) 12 As h = some (r, h') → nF5 h h' := fun As h r h' e => by rw [e12] at e; exact n6_12 ih As h (nF5_r h) r h' e
theorem n7_13 (ih : fE5 (dM L xs zf w k)) : ∀ As h r h', dM L xs zf w (k + 1) 13 As h = some (r, h') → nF5 h h' := fun As h r h' e => by rw [e13] at e; exact n6_13 ih As h (nF5_r h) r h' e
theorem n7_14 (ih : fE5 (dM L xs zf w k)) : ∀ As h r h', dM L xs zf w (k + 1) 14 As h = some (r, h') → nF5 h h' := fun As h r h' e => by rw [e14] at e; exact n6_14 ih As h (nF5_r h) r h' e
theorem n7_15 (ih : fE5 (dM L xs zf w k)) : ∀ As h r h', dM L xs zf w (k + 1) 15 As h = some (r, h') → nF5 h h' := fun As h r h' e => by rw [e15] at e; exact n6_15 ih As h (nF5_r h) r h' e
theorem n7_16 (ih : fE5 (dM L xs zf w k)) : ∀ As h r h', dM L xs zf w (k + 1) 16 As h = some (r, h') → nF5 h h' := fun As h r h' e => by rw [e16] at e; exact n6_16 ih As h (nF5_r h) r h' e
theorem n7_17 (ih : fE5 (dM L xs zf w k)) : ∀ As h r h', dM L xs zf w (k + 1) 17 As h = some (r, h') → nF5 h h' := fun As h r h' e => by rw [e17] at e; exact n6_17 ih As h (nF5_r h) r h' e
theorem n7_18 (ih : fE5 (dM L xs zf w k)) : ∀ As h r h', dM L xs zf w (k + 1) 18 As h = some (r, h') → nF5 h h' := fun As h r h' e => by rw [e18] at e; exact n6_18 ih As h (nF5_r h) r h' e
theorem n7_19 (ih : fE5 (dM L xs zf w k)) : ∀ As h r h', dM L xs zf w (k + 1) 19 As h = some (r, h') → nF5 h h' := fun As h r h' e => by rw [e19] at e; exact n6_19 ih As h (nF5_r h) r h' e
theorem n7_20 (ih : fE5 (dM L xs zf w k)) : ∀ As h r h', dM L xs zf w (k + 1) 20 As h = some (r, h') → nF5 h h' := fun As h r h' e => by rw [e20] at e; exact n6_20 ih As h (nF5_r h) r h' e
theorem n7_21 (ih : fE5 (dM L xs zf w k)) : ∀ As h r h', dM L xs zf w (k + 1) 21 As h = some (r, h') → nF5 h h' := fun As h r h' e => by rw [e21] at e; exact n6_21 ih As h (nF5_r h) r h' e
theorem n7_22 (ih : fE5 (dM L xs zf w k)) : ∀ As h r h', dM L xs zf w (k + 1) 22 As h = some (r, h') → nF5 h h' := fun As h r h' e => by rw [e22] at e; exact n6_22 ih As h (nF5_r h) r h' e
theorem n7_23 (ih : fE5 (dM L xs zf w k)) : ∀ As h r h', dM L xs zf w (k + 1) 23 As h = some (r, h') → nF5 h h' := fun As h r h' e => by rw [e23] at e; exact n6_23 ih As h (nF5_r h) r h' e
theorem n7_24 (ih : fE5 (dM L xs zf w k)) : ∀ As h r h', dM L xs zf w (k + 1) 24 As h = some (r, h') → nF5 h h' := fun As h r h' e => by rw [e24] at e; exact n6_24 ih As h (nF5_r h) r h' e
theorem n7_25 (ih : fE5 (dM L xs zf w k)) : ∀ As h r h', dM L xs zf w (k + 1) 25 As h = some (r, h') → nF5 h h' := fun As h r h' e => by rw [e25] at e; exact n6_25 ih As h (nF5_r h) r h' e
theorem n7_26 (ih : fE5 (dM L xs zf w k)) : ∀ As h r h', dM L xs zf w (k + 1) 26 As h = some (r, h') → nF5 h h' := fun As h r h' e => by rw [e26] at e; exact n6_26 ih As h (nF5_r h) r h' e
theorem n7_27 (ih : fE5 (dM L xs zf w k)) : ∀ As h r h', dM L xs zf w (k + 1) 27 As h = some (r, h') → nF5 h h' := fun As h r h' e => by rw [e27] at e; exact n6_27 ih As h (nF5_r h) r h' e
theorem n7_28 (ih : fE5 (dM L xs zf w k)) : ∀ As h r h', dM L xs zf w (k + 1) 28 As h = some (r, h') → nF5 h h' := fun As h r h' e => by rw [e28] at e; exact n6_28 ih As h (nF5_r h) r h' e
theorem n7_29 (ih : fE5 (dM L xs zf w k)) : ∀ As h r h', dM L xs zf w (k + 1) 29 As h = some (r, h') → nF5 h h' := fun As h r h' e => by rw [e29] at e; exact n6_29 ih As h (nF5_r h) r h' e
theorem n7_30 (ih : fE5 (dM L xs zf w k)) : ∀ As h r h', dM L xs zf w (k + 1) 30 As h = some (r, h') → nF5 h h' := fun As h r h' e => by rw [e30] at e; exact n6_30 ih As h (nF5_r h) r h' e
theorem n7_31 (ih : fE5 (dM L xs zf w k)) : ∀ As h r h', dM L xs zf w (k + 1) 31 As h = some (r, h') → nF5 h h' := fun As h r h' e => by rw [e31] at e; exact n6_31 ih As h (nF5_r h) r h' e
theorem n7_32 (ih : fE5 (dM L xs zf w k)) : ∀ As h r h', dM L xs zf w (k + 1) 32 As h = some (r, h') → nF5 h h' := fun As h r h' e => by rw [e32] at e; exact n6_32 ih As h (nF5_r h) r h' e
theorem n7_33 (ih : fE5 (dM L xs zf w k)) : ∀ As h r h', dM L xs zf w (k + 1) 33 As h = some (r, h') → nF5 h h' := fun As h r h' e => by rw [e33] at e; exact n6_33 ih As h (nF5_r h) r h' e
theorem n7_34 (ih : fE5 (dM L xs zf w k)) : ∀ As h r h', dM L xs zf w (k + 1) 34 As h = some (r, h') → nF5 h h' := fun As h r h' e => by rw [e34] at e; exact n6_34 ih As h (nF5_r h) r h' e
theorem n7_35 (ih : fE5 (dM L xs zf w k)) : ∀ As h r h', dM L xs zf w (k + 1) 35 As h = some (r, h') → nF5 h h' := fun As h r h' e => by rw [e35] at e; exact n6_35 ih As h (nF5_r h) r h' e
theorem n7_36 (ih : fE5 (dM L xs zf w k)) : ∀ As h r h', dM L xs zf w (k + 1) 36 As h = some (r, h') → nF5 h h' := fun As h r h' e => by rw [e36] at e; exact n6_36 ih As h (nF5_r h) r h' e
theorem n7_37 (ih : fE5 (dM L xs zf w k)) : ∀ As h r h', dM L xs zf w (k + 1) 37 As h = some (r, h') → nF5 h h' := fun As h r h' e => by rw [e37] at e; exact n6_37 ih As h (nF5_r h) r h' e
theorem n7_38 (ih : fE5 (dM L xs zf w k)) : ∀ As h r h', dM L xs zf w (k + 1) 38 As h = some (r, h') → nF5 h h' := fun As h r h' e => by rw [e38] at e; exact n6_38 ih As h (nF5_r h) r h' e
theorem n7_39 (ih : fE5 (dM L xs zf w k)) : ∀ As h r h', dM L xs zf w (k + 1) 39 As h = some (r, h') → nF5 h h' := fun As h r h' e => by rw [e39] at e; exact n6_39 ih As h (nF5_r h) r h' e
theorem n7_40 (ih : fE5 (dM L xs zf w k)) : ∀ As h r h', dM L xs zf w (k + 1) 40 As h = some (r, h') → nF5 h h' := fun As h r h' e => by rw [e40] at e; exact n6_40 ih As h (nF5_r h) r h' e
theorem n7_41 (ih : fE5 (dM L xs zf w k)) : ∀ As h r h', dM L xs zf w (k + 1) 41 As h = some (r, h') → nF5 h h' := fun As h r h' e => by rw [e41] at e; exact n6_41 ih As h (nF5_r h) r h' e
theorem n7_42 (ih : fE5 (dM L xs zf w k)) : ∀ As h r h', dM L xs zf w (k + 1) 42 As h = some (r, h') → nF5 h h' := fun As h r h' e => by rw [e42] at e; exact n6_42 ih As h (nF5_r h) r h' e
theorem n7_57 (ih : fE5 (dM L xs zf w k)) : ∀ As h r h', dM L xs zf w (k + 1) 57 As h = some (r, h') → nF5 h h' := fun As h r h' e => by rw [e57] at e; exact n6_57 ih As h (nF5_r h) r h' e
theorem n7_60 (ih : fE5 (dM L xs zf w k)) : ∀ As h r h', dM L xs zf w (k + 1) 60 As h = some (r, h') → nF5 h h' := fun As h r h' e => by rw [e60] at e; exact n6_60 ih As h (nF5_r h) r h' e
theorem n7_61 (ih : fE5 (dM L xs zf w k)) : ∀ As h r h', dM L xs zf w (k + 1) 61 As h = some (r, h') → nF5 h h' := fun As h r h' e => by rw [e61] at e; exact n6_61 ih As h (nF5_r h) r h' e
theorem n7_63 (ih : fE5 (dM L xs zf w k)) : ∀ As h r h', dM L xs zf w (k + 1) 63 As h = some (r, h') → nF5 h h' := fun As h r h' e => by rw [e63] at e; exact n6_63 ih As h (nF5_r h) r h' e
theorem n7_64 (ih : fE5 (dM L xs zf w k)) : ∀ As h r h', dM L xs zf w (k + 1) 64 As h = some (r, h') → nF5 h h' := fun As h r h' e => by rw [e64] at e; exact n6_64 ih As h (nF5_r h) r h' e
theorem n7_65 (ih : fE5 (dM L xs zf w k)) : ∀ As h r h', dM L xs zf w (k + 1) 65 As h = some (r, h') → nF5 h h' := fun As h r h' e => by rw [e65] at e; exact n6_65 ih As h (nF5_r h) r h' e
theorem n7_66 (ih : fE5 (dM L xs zf w k)) : ∀ As h r h', dM L xs zf w (k + 1) 66 As h = some (r, h') → nF5 h h' := fun As h r h' e => by rw [e66] at e; exact n6_66 ih As h (nF5_r h) r h' e
theorem n7_101 (ih : fE5 (dM L xs zf w k)) : ∀ As h r h', dM L xs zf w (k + 1) 101 As h = some (r, h') → nF5 h h' := fun As h r h' e => by rw [e101] at e; exact n6_101 ih As h (nF5_r h) r h' e
theorem n7_146 (ih : fE5 (dM L xs zf w k)) : ∀ As h r h', dM L xs zf w (k + 1) 146 As h = some (r, h') → nF5 h h' := fun As h r h' e => by rw [e146] at e; exact n6_146 ih As h (nF5_r h) r h' e
theorem n7_147 (ih : fE5 (dM L xs zf w k)) : ∀ As h r h', dM L xs zf w (k + 1) 147 As h = some (r, h') → nF5 h h' := fun As h r h' e => by rw [e147] at e; exact n6_147 ih As h (nF5_r h) r h' e
theorem n7_148 (ih : fE5 (dM L xs zf w k)) : ∀ As h r h', dM L xs zf w (k + 1) 148 As h = some (r, h') → nF5 h h' := fun As h r h' e => by rw [e148] at e; exact n6_148 ih As h (nF5_r h) r h' e
theorem n7_159 (ih : fE5 (dM L xs zf w k)) : ∀ As h r h', dM L xs zf w (k + 1) 159 As h = some (r, h') → nF5 h h' := fun As h r h' e => by rw [e159] at e; exact n6_159 ih As h (nF5_r h) r h' e
theorem n7_176 (ih : fE5 (dM L xs zf w k)) : ∀ As h r h', dM L xs zf w (k + 1) 176 As h = some (r, h') → nF5 h h' := fun As h r h' e => by rw [e176] at e; exact n6_176 ih As h (nF5_r h) r h' e
theorem n7_189 (ih : fE5 (dM L xs zf w k)) : ∀ As h r h', dM L xs zf w (k + 1) 189 As h = some (r, h') → nF5 h h' := fun As h r h' e => by rw [e189] at e; exact n6_189 ih As h (nF5_r h) r h' e
theorem n7_194 (ih : fE5 (dM L xs zf w k)) : ∀ As h r h', dM L xs zf w (k + 1) 194 As h = some (r, h') → nF5 h h' := fun As h r h' e => by rw [e194] at e; exact n6_194 ih As h (nF5_r h) r h' e
theorem n7_216 (ih : fE5 (dM L xs zf w k)) : ∀ As h r h', dM L xs zf w (k + 1) 216 As h = some (r, h') → nF5 h h' := fun As h r h' e => by rw [e216] at e; exact n6_216 ih As h (nF5_r h) r h' e
theorem n7_217 (ih : fE5 (dM L xs zf w k)) : ∀ As h r h', dM L xs zf w (k + 1) 217 As h = some (r, h') → nF5 h h' := fun As h r h' e => by rw [e217] at e; exact n6_217 ih As h (nF5_r h) r h' e
theorem n7_222 (ih : fE5 (dM L xs zf w k)) : ∀ As h r h', dM L xs zf w (k + 1) 222 As h = some (r, h') → nF5 h h' := fun As h r h' e => by rw [e222] at e; exact n6_222 ih As h (nF5_r h) r h' e
theorem n7_223 (ih : fE5 (dM L xs zf w k)) : ∀ As h r h', dM L xs zf w (k + 1) 223 As h = some (r, h') → nF5 h h' := fun As h r h' e => by rw [e223] at e; exact n6_223 ih As h (nF5_r h) r h' e
theorem n7_224 (ih : fE5 (dM L xs zf w k)) : ∀ As h r h', dM L xs zf w (k + 1) 224 As h = some (r, h') → nF5 h h' := fun As h r h' e => by rw [e224] at e; exact n6_224 ih As h (nF5_r h) r h' e
theorem n7_225 (ih : fE5 (dM L xs zf w k)) : ∀ As h r h', dM L xs zf w (k + 1) 225 As h = some (r, h') → nF5 h h' := fun As h r h' e => by rw [e225] at e; exact n6_225 ih As h (nF5_r h) r h' e
theorem n7_226 (ih : fE5 (dM L xs zf w k)) : ∀ As h r h', dM L xs zf w (k + 1) 226 As h = some (r, h') → nF5 h h' := fun As h r h' e => by rw [e226] at e; exact n6_226 ih As h (nF5_r h) r h' e
theorem n7_227 (ih : fE5 (dM L xs zf w k)) : ∀ As h r h', dM L xs zf w (k + 1) 227 As h = some (r, h') → nF5 h h' := fun As h r h' e => by rw [e227] at e; exact n6_227 ih As h (nF5_r h) r h' e
theorem n7_228 (ih : fE5 (dM L xs zf w k)) : ∀ As h r h', dM L xs zf w (k + 1) 228 As h = some (r, h') → nF5 h h' := fun As h r h' e => by rw [e228] at e; exact n6_228 ih As h (nF5_r h) r h' e
theorem n7_229 (ih : fE5 (dM L xs zf w k)) : ∀ As h r h', dM L xs zf w (k + 1) 229 As h = some (r, h') → nF5 h h' := fun As h r h' e => by rw [e229] at e; exact n6_229 ih As h (nF5_r h) r h' e
theorem n7_230 (ih : fE5 (dM L xs zf w k)) : ∀ As h r h', dM L xs zf w (k + 1) 230 As h = some (r, h') → nF5 h h' := fun As h r h' e => by rw [e230] at e; exact n6_230 ih As h (nF5_r h) r h' e
theorem n7_231 (ih : fE5 (dM L xs zf w k)) : ∀ As h r h', dM L xs zf w (k + 1) 231 As h = some (r, h') → nF5 h h' := fun As h r h' e => by rw [e231] at e; exact n6_231 ih As h (nF5_r h) r h' e
theorem n7_232 (ih : fE5 (dM L xs zf w k)) : ∀ As h r h', dM L xs zf w (k + 1) 232 As h = some (r, h') → nF5 h h' := fun As h r h' e => by rw [e232] at e; exact n6_232 ih As h (nF5_r h) r h' e
theorem n7_233 (ih : fE5 (dM L xs zf w k)) : ∀ As h r h', dM L xs zf w (k + 1) 233 As h = some (r, h') → nF5 h h' := fun As h r h' e => by rw [e233] at e; exact n6_233 ih As h (nF5_r h) r h' e
theorem n7_234 (ih : fE5 (dM L xs zf w k)) : ∀ As h r h', dM L xs zf w (k + 1) 234 As h = some (r, h') → nF5 h h' := fun As h r h' e => by rw [e234] at e; exact n6_234 ih As h (nF5_r h) r h' e
theorem n7_235 (ih : fE5 (dM L xs zf w k)) : ∀ As h r h', dM L xs zf w (k + 1) 235 As h = some (r, h') → nF5 h h' := fun As h r h' e => by rw [e235] at e; exact n6_235 ih As h (nF5_r h) r h' e
theorem n7_236 (ih : fE5 (dM L xs zf w k)) : ∀ As h r h', dM L xs zf w (k + 1) 236 As h = some (r, h') → nF5 h h' := fun As h r h' e => by rw [e236] at e; exact n6_236 ih As h (nF5_r h) r h' e
theorem n7_237 (ih : fE5 (dM L xs zf w k)) : ∀ As h r h', dM L xs zf w (k + 1) 237 As h = some (r, h') → nF5 h h' := fun As h r h' e => by rw [e237] at e; exact n6_237 ih As h (nF5_r h) r h' e
theorem n7_238 (ih : fE5 (dM L xs zf w k)) : ∀ As h r h', dM L xs zf w (k + 1) 238 As h = some (r, h') → nF5 h h' := fun As h r h' e => by rw [e238] at e; exact n6_238 ih As h (nF5_r h) r h' e
theorem n7_239 (ih : fE5 (dM L xs zf w k)) : ∀ As h r h', dM L xs zf w (k + 1) 239 As h = some (r, h') → nF5 h h' := fun As h r h' e => by rw [e239] at e; exact n6_239 ih As h (nF5_r h) r h' e
theorem n7_240 (ih : fE5 (dM L xs zf w k)) : ∀ As h r h', dM L xs zf w (k + 1) 240 As h = some (r, h') → nF5 h h' := fun As h r h' e => by rw [e240] at e; exact n6_240 ih As h (nF5_r h) r h' e
theorem n7_241 (ih : fE5 (dM L xs zf w k)) : ∀ As h r h', dM L xs zf w (k + 1) 241 As h = some (r, h') → nF5 h h' := fun As h r h' e => by rw [e241] at e; exact n6_241 ih As h (nF5_r h) r h' e
theorem n7_242 (ih : fE5 (dM L xs zf w k)) : ∀ As h r h', dM L xs zf w (k + 1) 242 As h = some (r, h') → nF5 h h' := fun As h r h' e => by rw [e242] at e; exact n6_242 ih As h (nF5_r h) r h' e
theorem n7_243 (ih : fE5 (dM L xs zf w k)) : ∀ As h r h', dM L xs zf w (k + 1) 243 As h = some (r, h') → nF5 h h' := fun As h r h' e => by rw [e243] at e; exact n6_243 ih As h (nF5_r h) r h' e
theorem n7_244 (ih : fE5 (dM L xs zf w k)) : ∀ As h r h', dM L xs zf w (k + 1) 244 As h = some (r, h') → nF5 h h' := fun As h r h' e => by rw [e244] at e; exact n6_244 ih As h (nF5_r h) r h' e
theorem n7_245 (ih : fE5 (dM L xs zf w k)) : ∀ As h r h', dM L xs zf w (k + 1) 245 As h = some (r, h') → nF5 h h' := fun As h r h' e => by rw [e245] at e; exact n6_245 ih As h (nF5_r h) r h' e
theorem n7_246 (ih : fE5 (dM L xs zf w k)) : ∀ As h r h', dM L xs zf w (k + 1) 246 As h = some (r, h') → nF5 h h' := fun As h r h' e => by rw [e246] at e; exact n6_246 ih As h (nF5_r h) r h' e
theorem n7_247 (ih : fE5 (dM L xs zf w k)) : ∀ As h r h', dM L xs zf w (k + 1) 247 As h = some (r, h') → nF5 h h' := fun As h r h' e => by rw [e247] at e; exact n6_247 ih As h (nF5_r h) r h' e
theorem n7_248 (ih : fE5 (dM L xs zf w k)) : ∀ As h r h', dM L xs zf w (k + 1) 248 As h = some (r, h') → nF5 h h' := fun As h r h' e => by rw [e248] at e; exact n6_248 ih As h (nF5_r h) r h' e
theorem n7_249 (ih : fE5 (dM L xs zf w k)) : ∀ As h r h', dM L xs zf w (k + 1) 249 As h = some (r, h') → nF5 h h' := fun As h r h' e => by rw [e249] at e; exact n6_249 ih As h (nF5_r h) r h' e
theorem n7_250 (ih : fE5 (dM L xs zf w k)) : ∀ As h r h', dM L xs zf w (k + 1) 250 As h = some (r, h') → nF5 h h' := fun As h r h' e => by rw [e250] at e; exact n6_250 ih As h (nF5_r h) r h' e
theorem n7_251 (ih : fE5 (dM L xs zf w k)) : ∀ As h r h', dM L xs zf w (k + 1) 251 As h = some (r, h') → nF5 h h' := fun As h r h' e => by rw [e251] at e; exact n6_251 ih As h (nF5_r h) r h' e
theorem n7_252 (ih : fE5 (dM L xs zf w k)) : ∀ As h r h', dM L xs zf w (k + 1) 252 As h = some (r, h') → nF5 h h' := fun As h r h' e => by rw [e252] at e; exact n6_252 ih As h (nF5_r h) r h' e
theorem n7_253 (ih : fE5 (dM L xs zf w k)) : ∀ As h r h', dM L xs zf w (k + 1) 253 As h = some (r, h') → nF5 h h' := fun As h r h' e => by rw [e253] at e; exact n6_253 ih As h (nF5_r h) r h' e
theorem n7_254 (ih : fE5 (dM L xs zf w k)) : ∀ As h r h', dM L xs zf w (k + 1) 254 As h = some (r, h') → nF5 h h' := fun As h r h' e => by rw [e254] at e; exact n6_254 ih As h (nF5_r h) r h' e
theorem n7_255 (ih : fE5 (dM L xs zf w k)) : ∀ As h r h', dM L xs zf w (k + 1) 255 As h = some (r, h') → nF5 h h' := fun As h r h' e => by rw [e255] at e; exact n6_255 ih As h (nF5_r h) r h' e
theorem n7_256 (ih : fE5 (dM L xs zf w k)) : ∀ As h r h', dM L xs zf w (k + 1) 256 As h = some (r, h') → nF5 h h' := fun As h r h' e => by rw [e256] at e; exact n6_256 ih As h (nF5_r h) r h' e
theorem n7_257 (ih : fE5 (dM L xs zf w k)) : ∀ As h r h', dM L xs zf w (k + 1) 257 As h = some (r, h') → nF5 h h' := fun As h r h' e => by rw [e257] at e; exact n6_257 ih As h (nF5_r h) r h' e
theorem n7_258 (ih : fE5 (dM L xs zf w k)) : ∀ As h r h', dM L xs zf w (k + 1) 258 As h = some (r, h') → nF5 h h' := fun As h r h' e => by rw [e258] at e; exact n6_258 ih As h (nF5_r h) r h' e
theorem n7_259 (ih : fE5 (dM L xs zf w k)) : ∀ As h r h', dM L xs zf w (k + 1) 259 As h = some (r, h') → nF5 h h' := fun As h r h' e => by rw [e259] at e; exact n6_259 ih As h (nF5_r h) r h' e
theorem n7_260 (ih : fE5 (dM L xs zf w k)) : ∀ As h r h', dM L xs zf w (k + 1) 260 As h = some (r, h') → nF5 h h' := fun As h r h' e => by rw [e260] at e; exact n6_260 ih As h (nF5_r h) r h' e
theorem n7_261 (ih : fE5 (dM L xs zf w k)) : ∀ As h r h', dM L xs zf w (k + 1) 261 As h = some (r, h') → nF5 h h' := fun As h r h' e => by rw [e261] at e; exact n6_261 ih As h (nF5_r h) r h' e
theorem n7_262 (ih : fE5 (dM L xs zf w k)) : ∀ As h r h', dM L xs zf w (k + 1) 262 As h = some (r, h') → nF5 h h' := fun As h r h' e => by rw [e262] at e; exact n6_262 ih As h (nF5_r h) r h' e
theorem n7_263 (ih : fE5 (dM L xs zf w k)) : ∀ As h r h', dM L xs zf w (k + 1) 263 As h = some (r, h') → nF5 h h' := fun As h r h' e => by rw [e263] at e; exact n6_263 ih As h (nF5_r h) r h' e
theorem n7_264 (ih : fE5 (dM L xs zf w k)) : ∀ As h r h', dM L xs zf w (k + 1) 264 As h = some (r, h') → nF5 h h' := fun As h r h' e => by rw [e264] at e; exact n6_264 ih As h (nF5_r h) r h' e
theorem n7_265 (ih : fE5 (dM L xs zf w k)) : ∀ As h r h', dM L xs zf w (k + 1) 265 As h = some (r, h') → nF5 h h' := fun As h r h' e => by rw [e265] at e; exact n6_265 ih As h (nF5_r h) r h' e
theorem n7_266 (ih : fE5 (dM L xs zf w k)) : ∀ As h r h', dM L xs zf w (k + 1) 266 As h = some (r, h') → nF5 h h' := fun As h r h' e => by rw [e266] at e; exact n6_266 ih As h (nF5_r h) r h' e
theorem n7_270 (ih : fE5 (dM L xs zf w k)) : ∀ As h r h', dM L xs zf w (k + 1) 270 As h = some (r, h') → nF5 h h' := fun As h r h' e => by rw [e270] at e; exact n6_270 ih As h (nF5_r h) r h' e
theorem n7_271 (ih : fE5 (dM L xs zf w k)) : ∀ As h r h', dM L xs zf w (k + 1) 271 As h = some (r, h') → nF5 h h' := fun As h r h' e => by rw [e271] at e; exact n6_271 ih As h (nF5_r h) r h' e
theorem n7_272 (ih : fE5 (dM L xs zf w k)) : ∀ As h r h', dM L xs zf w (k + 1) 272 As h = some (r, h') → nF5 h h' := fun As h r h' e => by rw [e272] at e; exact n6_272 ih As h (nF5_r h) r h' e
theorem n7_273 (ih : fE5 (dM L xs zf w k)) : ∀ As h r h', dM L xs zf w (k + 1) 273 As h = some (r, h') → nF5 h h' := fun As h r h' e => by rw [e273] at e; exact n6_273 ih As h (nF5_r h) r h' e
theorem n7_274 (ih : fE5 (dM L xs zf w k)) : ∀ As h r h', dM L xs zf w (k + 1) 274 As h = some (r, h') → nF5 h h' := fun As h r h' e => by rw [e274] at e; exact n6_274 ih As h (nF5_r h) r h' e
theorem n7_275 (ih : fE5 (dM L xs zf w k)) : ∀ As h r h', dM L xs zf w (k + 1) 275 As h = some (r, h') → nF5 h h' := fun As h r h' e => by rw [e275] at e; exact n6_275 ih As h (nF5_r h) r h' e
theorem n7_276 (ih : fE5 (dM L xs zf w k)) : ∀ As h r h', dM L xs zf w (k + 1) 276 As h = some (r, h') → nF5 h h' := fun As h r h' e => by rw [e276] at e; exact n6_276 ih As h (nF5_r h) r h' e
theorem n7_277 (ih : fE5 (dM L xs zf w k)) : ∀ As h r h', dM L xs zf w (k + 1) 277 As h = some (r, h') → nF5 h h' := fun As h r h' e => by rw [e277] at e; exact n6_277 ih As h (nF5_r h) r h' e
theorem n7_278 (ih : fE5 (dM L xs zf w k)) : ∀ As h r h', dM L xs zf w (k + 1) 278 As h = some (r, h') → nF5 h h' := fun As h r h' e => by rw [e278] at e; exact n6_278 ih As h (nF5_r h) r h' e
theorem n7_279 (ih : fE5 (dM L xs zf w k)) : ∀ As h r h', dM L xs zf w (k + 1) 279 As h = some (r, h') → nF5 h h' := fun As h r h' e => by rw [e279] at e; exact n6_279 ih As h (nF5_r h) r h' e
theorem n7_280 (ih : fE5 (dM L xs zf w k)) : ∀ As h r h', dM L xs zf w (k + 1) 280 As h = some (r, h') → nF5 h h' := fun As h r h' e => by rw [e280] at e; exact n6_280 ih As h (nF5_r h) r h' e
theorem n7_281 (ih : fE5 (dM L xs zf w k)) : ∀ As h r h', dM L xs zf w (k + 1) 281 As h = some (r, h') → nF5 h h' := fun As h r h' e => by rw [e281] at e; exact n6_281 ih As h (nF5_r h) r h' e
theorem fE5_s (ih : fE5 (dM L xs zf w k)) : ∀ m ∈ ([5, 6, 9, 10, 11, 12, 13, 14, 15, 16, 17, 18, 19, 20, 21, 22, 23, 24, 25, 26, 27, 28, 29, 30, 31, 32, 33, 34, 35, 36, 37, 38, 39, 40, 41, 42, 57, 60, 61, 63, 64, 65, 66, 101, 146, 147, 148, 159, 176, 189, 194, 216, 217, 222, 223, 224, 225, 226, 227, 228, 229, 230, 231, 232, 233, 234, 235, 236, 237, 238, 239, 240, 241, 242, 243, 244, 245, 246, 247, 248, 249, 250, 251, 252, 253, 254, 255, 256, 257, 258, 259, 260, 261, 262, 263, 264, 265, 266, 270, 271, 272, 273, 274, 275, 276, 277, 278, 279, 280, 281] : List Nat), ∀ As h r h', dM L xs zf w (k + 1) m As h = some (r, h') → nF5 h h' := by
  refine List.forall_mem_cons.mpr ⟨n7_5 ih, ?_⟩
  refine List.forall_mem_cons.mpr ⟨n7_6 ih, ?_⟩
  refine List.forall_mem_cons.mpr ⟨n7_9 ih, ?_⟩
  refine List.forall_mem_cons.mpr ⟨n7_10 ih, ?_⟩
  refine List.forall_mem_cons.mpr ⟨n7_11 ih, ?_⟩
  refine List.forall_mem_cons.mpr ⟨n7_12 ih, ?_⟩
  refine List.forall_mem_cons.mpr ⟨n7_13 ih, ?_⟩
  refine List.forall_mem_cons.mpr ⟨n7_14 ih, ?_⟩
  refine List.forall_mem_cons.mpr ⟨n7_15 ih, ?_⟩
  refine List.forall_mem_cons.mpr ⟨n7_16 ih, ?_⟩
  refine List.forall_mem_cons.mpr ⟨n7_17 ih, ?_⟩
  refine List.forall_mem_cons.mpr ⟨n7_18 ih, ?_⟩
  refine List.forall_mem_cons.mpr ⟨n7_19 ih, ?_⟩
  refine List.forall_mem_cons.mpr ⟨n7_20 ih, ?_⟩
  refine List.forall_mem_cons.mpr ⟨n7_21 ih, ?_⟩
  refine List.forall_mem_cons.mpr ⟨n7_22 ih, ?_⟩
  refine List.forall_mem_cons.mpr ⟨n7_23 ih, ?_⟩
  refine List.forall_mem_cons.mpr ⟨n7_24 ih, ?_⟩
  refine List.forall_mem_cons.mpr ⟨n7_25 ih, ?_⟩
  refine List.forall_mem_cons.mpr ⟨n7_26 ih, ?_⟩
  refine List.forall_mem_cons.mpr ⟨n7_27 ih, ?_⟩
  refine List.forall_mem_cons.mpr ⟨n7_28 ih, ?_⟩
  refine List.forall_mem_cons.mpr ⟨n7_29 ih, ?_⟩
  refine List.forall_mem_cons.mpr ⟨n7_30 ih, ?_⟩
  refine List.forall_mem_cons.mpr ⟨n7_31 ih, ?_⟩
  refine List.forall_mem_cons.mpr ⟨n7_32 ih, ?_⟩
  refine List.forall_mem_cons.mpr ⟨n7_33 ih, ?_⟩
  refine List.forall_mem_cons.mpr ⟨n7_34 ih, ?_⟩
  refine List.forall_mem_cons.mpr ⟨n7_35 ih, ?_⟩
  refine List.forall_mem_cons.mpr ⟨n7_36 ih, ?_⟩
  refine List.forall_mem_cons.mpr ⟨n7_37 ih, ?_⟩
  refine List.forall_mem_cons.mpr ⟨n7_38 ih, ?_⟩
  refine List.forall_mem_cons.mpr ⟨n7_39 ih, ?_⟩
  refine List.forall_mem_cons.mpr ⟨n7_40 ih, ?_⟩
  refine List.forall_mem_cons.mpr ⟨n7_41 ih, ?_⟩
  refine List.forall_mem_cons.mpr ⟨n7_42 ih, ?_⟩
  refine List.forall_mem_cons.mpr ⟨n7_57 ih, ?_⟩
  refine List.forall_mem_cons.mpr ⟨n7_60 ih, ?_⟩
  refine List.forall_mem_cons.mpr ⟨n7_61 ih, ?_⟩
  refine List.forall_mem_cons.mpr ⟨n7_63 ih, ?_⟩
  refine List.forall_mem_cons.mpr ⟨n7_64 ih, ?_⟩
  refine List.forall_mem_cons.mpr ⟨n7_65 ih, ?_⟩
  refine List.forall_mem_cons.mpr ⟨n7_66 ih, ?_⟩
  refine List.forall_mem_cons.mpr ⟨n7_101 ih, ?_⟩
  refine List.forall_mem_cons.mpr ⟨n7_146 ih, ?_⟩
  refine List.forall_mem_cons.mpr ⟨n7_147 ih, ?_⟩
  refine List.forall_mem_cons.mpr ⟨n7_148 ih, ?_⟩
  refine List.forall_mem_cons.mpr ⟨n7_159 ih, ?_⟩
  refine List.forall_mem_cons.mpr ⟨n7_176 ih, ?_⟩
  refine List.forall_mem_cons.mpr ⟨n7_189 ih, ?_⟩
  refine List.forall_mem_cons.mpr ⟨n7_194 ih, ?_⟩
  refine List.forall_mem_cons.mpr ⟨n7_216 ih, ?_⟩
  refine List.forall_mem_cons.mpr ⟨n7_217 ih, ?_⟩
  refine List.forall_mem_cons.mpr ⟨n7_222 ih, ?_⟩
  refine List.forall_mem_cons.mpr ⟨n7_223 ih, ?_⟩
  refine List.forall_mem_cons.mpr ⟨n7_224 ih, ?_⟩
  refine List.forall_mem_cons.mpr ⟨n7_225 ih, ?_⟩
  refine List.forall_mem_cons.mpr ⟨n7_226 ih, ?_⟩
  refine List.forall_mem_cons.mpr ⟨n7_227 ih, ?_⟩
  refine List.forall_mem_cons.mpr ⟨n7_228 ih, ?_⟩
  refine List.forall_mem_cons.mpr ⟨n7_229 ih, ?_⟩
  refine List.forall_mem_cons.mpr ⟨n7_230 ih, ?_⟩
  refine List.forall_mem_cons.mpr ⟨n7_231 ih, ?_⟩
  refine List.forall_mem_cons.mpr ⟨n7_232 ih, ?_⟩
  refine List.forall_mem_cons.mpr ⟨n7_233 ih, ?_⟩
  refine List.forall_mem_cons.mpr ⟨n7_234 ih, ?_⟩
  refine List.forall_mem_cons.mpr ⟨n7_235 ih, ?_⟩
  refine List.forall_mem_cons.mpr ⟨n7_236 ih, ?_⟩
  refine List.forall_mem_cons.mpr ⟨n7_237 ih, ?_⟩
  refine List.forall_mem_cons.mpr ⟨n7_238 ih, ?_⟩
  refine List.forall_mem_cons.mpr ⟨n7_239 ih, ?_⟩
  refine List.forall_mem_cons.mpr ⟨n7_240 ih, ?_⟩
  refine List.forall_mem_cons.mpr ⟨n7_241 ih, ?_⟩
  refine List.forall_mem_cons.mpr ⟨n7_242 ih, ?_⟩
  refine List.forall_mem_cons.mpr ⟨n7_243 ih, ?_⟩
  refine List.forall_mem_cons.mpr ⟨n7_244 ih, ?_⟩
  refine List.forall_mem_cons.mpr ⟨n7_245 ih, ?_⟩
  refine List.forall_mem_cons.mpr ⟨n7_246 ih, ?_⟩
  refine List.forall_mem_cons.mpr ⟨n7_247 ih, ?_⟩
  refine List.forall_mem_cons.mpr ⟨n7_248 ih, ?_⟩
  refine List.forall_mem_cons.mpr ⟨n7_249 ih, ?_⟩
  refine List.forall_mem_cons.mpr ⟨n7_250 ih, ?_⟩
  refine List.forall_mem_cons.mpr ⟨n7_251 ih, ?_⟩
  refine List.forall_mem_cons.mpr ⟨n7_252 ih, ?_⟩
  refine List.forall_mem_cons.mpr ⟨n7_253 ih, ?_⟩
  refine List.forall_mem_cons.mpr ⟨n7_254 ih, ?_⟩
  refine List.forall_mem_cons.mpr ⟨n7_255 ih, ?_⟩
  refine List.forall_mem_cons.mpr ⟨n7_256 ih, ?_⟩
  refine List.forall_mem_cons.mpr ⟨n7_257 ih, ?_⟩
  refine List.forall_mem_cons.mpr ⟨n7_258 ih, ?_⟩
  refine List.forall_mem_cons.mpr ⟨n7_259 ih, ?_⟩
  refine List.forall_mem_cons.mpr ⟨n7_260 ih, ?_⟩
  refine List.forall_mem_cons.mpr ⟨n7_261 ih, ?_⟩
  refine List.forall_mem_cons.mpr ⟨n7_262 ih, ?_⟩
  refine List.forall_mem_cons.mpr ⟨n7_263 ih, ?_⟩
  refine List.forall_mem_cons.mpr ⟨n7_264 ih, ?_⟩
  refine List.forall_mem_cons.mpr ⟨n7_265 ih, ?_⟩
  refine List.forall_mem_cons.mpr ⟨n7_266 ih, ?_⟩
  refine List.forall_mem_cons.mpr ⟨n7_270 ih, ?_⟩
  refine List.forall_mem_cons.mpr ⟨n7_271 ih, ?_⟩
  refine List.forall_mem_cons.mpr ⟨n7_272 ih, ?_⟩
  refine List.forall_mem_cons.mpr ⟨n7_273 ih, ?_⟩
  refine List.forall_mem_cons.mpr ⟨n7_274 ih, ?_⟩
  refine List.forall_mem_cons.mpr ⟨n7_275 ih, ?_⟩
  refine List.forall_mem_cons.mpr ⟨n7_276 ih, ?_⟩
  refine List.forall_mem_cons.mpr ⟨n7_277 ih, ?_⟩
  refine List.forall_mem_cons.mpr ⟨n7_278 ih, ?_⟩
  refine List.forall_mem_cons.mpr ⟨n7_279 ih, ?_⟩
  refine List.forall_mem_cons.mpr ⟨n7_280 ih, ?_⟩
  refine List.forall_mem_cons.mpr ⟨n7_281 ih, ?_⟩
  intro m hm
  exact absurd hm List.not_mem_nil
theorem fE5_all (L : Nat) (xs : Nat → Int32) (zf : Value) (w : Nat) : ∀ k, fE5 (dM L xs zf w k)
  | 0 => fun m _ As h r h' e => by
    have e : (none : Option dR) = some (r, h') := e
    cases e
  | k + 1 => fun m hm As h r h' e => fE5_s (fE5_all L xs zf w k) m (List.contains_iff_mem.mp hm) As h r h' e
end N5C
