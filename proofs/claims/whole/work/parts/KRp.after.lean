/-! all of them -/
section N8C
variable {L : Nat} {xs : Nat → Int32} {zf : Value} {w k : Nat}
theorem nA_15 (ih : fE8 (dM L xs zf w k)) : ∀ As h r h', dM L xs zf w (k + 1) 15 As h = some (r, h') → nF5 h h' := fun As h r h' e => by rw [e15] at e; exact n9_15 ih As h (nF5_r h) r h' e
theorem nA_16 (ih : fE8 (dM L xs zf w k)) : ∀ As h r h', dM L xs zf w (k + 1) 16 As h = some (r, h') → nF5 h h' := fun As h r h' e => by rw [e16] at e; exact n9_16 ih As h (nF5_r h) r h' e
theorem nA_17 (ih : fE8 (dM L xs zf w k)) : ∀ As h r h', dM L xs zf w (k + 1) 17 As h = some (r, h') → nF5 h h' := fun As h r h' e => by rw [e17] at e; exact n9_17 ih As h (nF5_r h) r h' e
theorem nA_18 (ih : fE8 (dM L xs zf w k)) : ∀ As h r h', dM L xs zf w (k + 1) 18 As h = some (r, h') → nF5 h h' := fun As h r h' e => by rw [e18] at e; exact n9_18 ih As h (nF5_r h) r h' e
theorem nA_19 (ih : fE8 (dM L xs zf w k)) : ∀ As h r h', dM L xs zf w (k + 1) 19 As h = some (r, h') → nF5 h h' := fun As h r h' e => by rw [e19] at e; exact n9_19 ih As h (nF5_r h) r h' e
theorem nA_20 (ih : fE8 (dM L xs zf w k)) : ∀ As h r h', dM L xs zf w (k + 1) 20 As h = some (r, h') → nF5 h h' := fun As h r h' e => by rw [e20] at e; exact n9_20 ih As h (nF5_r h) r h' e
theorem nA_21 (ih : fE8 (dM L xs zf w k)) : ∀ As h r h', dM L xs zf w (k + 1) 21 As h = some (r, h') → nF5 h h' := fun As h r h' e => by rw [e21] at e; exact n9_21 ih As h (nF5_r h) r h' e
theorem nA_22 (ih : fE8 (dM L xs zf w k)) : ∀ As h r h', dM L xs zf w (k + 1) 22 As h = some (r, h') → nF5 h h' := fun As h r h' e => by rw [e22] at e; exact n9_22 ih As h (nF5_r h) r h' e
theorem nA_35 (ih : fE8 (dM L xs zf w k)) : ∀ As h r h', dM L xs zf w (k + 1) 35 As h = some (r, h') → nF5 h h' := fun As h r h' e => by rw [e35] at e; exact n9_35 ih As h (nF5_r h) r h' e
theorem nA_37 (ih : fE8 (dM L xs zf w k)) : ∀ As h r h', dM L xs zf w (k + 1) 37 As h = some (r, h') → nF5 h h' := fun As h r h' e => by rw [e37] at e; exact n9_37 ih As h (nF5_r h) r h' e
theorem nA_38 (ih : fE8 (dM L xs zf w k)) : ∀ As h r h', dM L xs zf w (k + 1) 38 As h = some (r, h') → nF5 h h' := fun As h r h' e => by rw [e38] at e; exact n9_38 ih As h (nF5_r h) r h' e
theorem nA_39 (ih : fE8 (dM L xs zf w k)) : ∀ As h r h', dM L xs zf w (k + 1) 39 As h = some (r, h') → nF5 h h' := fun As h r h' e => by rw [e39] at e; exact n9_39 ih As h (nF5_r h) r h' e
theorem nA_40 (ih : fE8 (dM L xs zf w k)) : ∀ As h r h', dM L xs zf w (k + 1) 40 As h = some (r, h') → nF5 h h' := fun As h r h' e => by rw [e40] at e; exact n9_40 ih As h (nF5_r h) r h' e
theorem nA_41 (ih : fE8 (dM L xs zf w k)) : ∀ As h r h', dM L xs zf w (k + 1) 41 As h = some (r, h') → nF5 h h' := fun As h r h' e => by rw [e41] at e; exact n9_41 ih As h (nF5_r h) r h' e
theorem nA_42 (ih : fE8 (dM L xs zf w k)) : ∀ As h r h', dM L xs zf w (k + 1) 42 As h = some (r, h') → nF5 h h' := fun As h r h' e => by rw [e42] at e; exact n9_42 ih As h (nF5_r h) r h' e
theorem nA_101 (ih : fE8 (dM L xs zf w k)) : ∀ As h r h', dM L xs zf w (k + 1) 101 As h = some (r, h') → nF5 h h' := fun As h r h' e => by rw [e101] at e; exact n9_101 ih As h (nF5_r h) r h' e
theorem nA_144 (ih : fE8 (dM L xs zf w k)) : ∀ As h r h', dM L xs zf w (k + 1) 144 As h = some (r, h') → nF5 h h' := fun As h r h' e => by rw [e144] at e; exact n9_144 ih As h (nF5_r h) r h' e
theorem nA_145 (ih : fE8 (dM L xs zf w k)) : ∀ As h r h', dM L xs zf w (k + 1) 145 As h = some (r, h') → nF5 h h' := fun As h r h' e => by rw [e145] at e; exact n9_145 ih As h (nF5_r h) r h' e
theorem nA_146 (ih : fE8 (dM L xs zf w k)) : ∀ As h r h', dM L xs zf w (k + 1) 146 As h = some (r, h') → nF5 h h' := fun As h r h' e => by rw [e146] at e; exact n9_146 ih As h (nF5_r h) r h' e
theorem nA_147 (ih : fE8 (dM L xs zf w k)) : ∀ As h r h', dM L xs zf w (k + 1) 147 As h = some (r, h') → nF5 h h' := fun As h r h' e => by rw [e147] at e; exact n9_147 ih As h (nF5_r h) r h' e
theorem nA_148 (ih : fE8 (dM L xs zf w k)) : ∀ As h r h', dM L xs zf w (k + 1) 148 As h = some (r, h') → nF5 h h' := fun As h r h' e => by rw [e148] at e; exact n9_148 ih As h (nF5_r h) r h' e
theorem nA_149 (ih : fE8 (dM L xs zf w k)) : ∀ As h r h', dM L xs zf w (k + 1) 149 As h = some (r, h') → nF5 h h' := fun As h r h' e => by rw [e149] at e; exact n9_149 ih As h (nF5_r h) r h' e
theorem nA_150 (ih : fE8 (dM L xs zf w k)) : ∀ As h r h', dM L xs zf w (k + 1) 150 As h = some (r, h') → nF5 h h' := fun As h r h' e => by rw [e150] at e; exact n9_150 ih As h (nF5_r h) r h' e
theorem nA_151 (ih : fE8 (dM L xs zf w k)) : ∀ As h r h', dM L xs zf w (k + 1) 151 As h = some (r, h') → nF5 h h' := fun As h r h' e => by rw [e151] at e; exact n9_151 ih As h (nF5_r h) r h' e
theorem nA_152 (ih : fE8 (dM L xs zf w k)) : ∀ As h r h', dM L xs zf w (k + 1) 152 As h = some (r, h') → nF5 h h' := fun As h r h' e => by rw [e152] at e; exact n9_152 ih As h (nF5_r h) r h' e
theorem nA_153 (ih : fE8 (dM L xs zf w k)) : ∀ As h r h', dM L xs zf w (k + 1) 153 As h = some (r, h') → nF5 h h' := fun As h r h' e => by rw [e153] at e; exact n9_153 ih As h (nF5_r h) r h' e
theorem nA_154 (ih : fE8 (dM L xs zf w k)) : ∀ As h r h', dM L xs zf w (k + 1) 154 As h = some (r, h') → nF5 h h' := fun As h r h' e => by rw [e154] at e; exact n9_154 ih As h (nF5_r h) r h' e
theorem nA_155 (ih : fE8 (dM L xs zf w k)) : ∀ As h r h', dM L xs zf w (k + 1) 155 As h = some (r, h') → nF5 h h' := fun As h r h' e => by rw [e155] at e; exact n9_155 ih As h (nF5_r h) r h' e
theorem nA_156 (ih : fE8 (dM L xs zf w k)) : ∀ As h r h', dM L xs zf w (k + 1) 156 As h = some (r, h') → nF5 h h' := fun As h r h' e => by rw [e156] at e; exact n9_156 ih As h (nF5_r h) r h' e
theorem nA_157 (ih : fE8 (dM L xs zf w k)) : ∀ As h r h', dM L xs zf w (k + 1) 157 As h = some (r, h') → nF5 h h' := fun As h r h' e => by rw [e157] at e; exact n9_157 ih As h (nF5_r h) r h' e
theorem nA_158 (ih : fE8 (dM L xs zf w k)) : ∀ As h r h', dM L xs zf w (k + 1) 158 As h = some (r, h') → nF5 h h' := fun As h r h' e => by rw [e158] at e; exact n9_158 ih As h (nF5_r h) r h' e
theorem nA_159 (ih : fE8 (dM L xs zf w k)) : ∀ As h r h', dM L xs zf w (k + 1) 159 As h = some (r, h') → nF5 h h' := fun As h r h' e => by rw [e159] at e; exact n9_159 ih As h (nF5_r h) r h' e
theorem nA_160 (ih : fE8 (dM L xs zf w k)) : ∀ As h r h', dM L xs zf w (k + 1) 160 As h = some (r, h') → nF5 h h' := fun As h r h' e => by rw [e160] at e; exact n9_160 ih As h (nF5_r h) r h' e
theorem nA_161 (ih : fE8 (dM L xs zf w k)) : ∀ As h r h', dM L xs zf w (k + 1) 161 As h = some (r, h') → nF5 h h' := fun As h r h' e => by rw [e161] at e; exact n9_161 ih As h (nF5_r h) r h' e
theorem nA_162 (ih : fE8 (dM L xs zf w k)) : ∀ As h r h', dM L xs zf w (k + 1) 162 As h = some (r, h') → nF5 h h' := fun As h r h' e => by rw [e162] at e; exact n9_162 ih As h (nF5_r h) r h' e
theorem nA_163 (ih : fE8 (dM L xs zf w k)) : ∀ As h r h', dM L xs zf w (k + 1) 163 As h = some (r, h') → nF5 h h' := fun As h r h' e => by rw [e163] at e; exact n9_163 ih As h (nF5_r h) r h' e
theorem nA_164 (ih : fE8 (dM L xs zf w k)) : ∀ As h r h', dM L xs zf w (k + 1) 164 As h = some (r, h') → nF5 h h' := fun As h r h' e => by rw [e164] at e; exact n9_164 ih As h (nF5_r h) r h' e
theorem nA_165 (ih : fE8 (dM L xs zf w k)) : ∀ As h r h', dM L xs zf w (k + 1) 165 As h = some (r, h') → nF5 h h' := fun As h r h' e => by rw [e165] at e; exact n9_165 ih As h (nF5_r h) r h' e
theorem nA_166 (ih : fE8 (dM L xs zf w k)) : ∀ As h r h', dM L xs zf w (k + 1) 166 As h = some (r, h') → nF5 h h' := fun As h r h' e => by rw [e166] at e; exact n9_166 ih As h (nF5_r h) r h' e
theorem nA_167 (ih : fE8 (dM L xs zf w k)) : ∀ As h r h', dM L xs zf w (k + 1) 167 As h = some (r, h') → nF5 h h' := fun As h r h' e => by rw [e167] at e; exact n9_167 ih As h (nF5_r h) r h' e
theorem nA_168 (ih : fE8 (dM L xs zf w k)) : ∀ As h r h', dM L xs zf w (k + 1) 168 As h = some (r, h') → nF5 h h' := fun As h r h' e => by rw [e168] at e; exact n9_168 ih As h (nF5_r h) r h' e
theorem nA_169 (ih : fE8 (dM L xs zf w k)) : ∀ As h r h', dM L xs zf w (k + 1) 169 As h = some (r, h') → nF5 h h' := fun As h r h' e => by rw [e169] at e; exact n9_169 ih As h (nF5_r h) r h' e
theorem nA_170 (ih : fE8 (dM L xs zf w k)) : ∀ As h r h', dM L xs zf w (k + 1) 170 As h = some (r, h') → nF5 h h' := fun As h r h' e => by rw [e170] at e; exact n9_170 ih As h (nF5_r h) r h' e
theorem nA_171 (ih : fE8 (dM L xs zf w k)) : ∀ As h r h', dM L xs zf w (k + 1) 171 As h = some (r, h') → nF5 h h' := fun As h r h' e => by rw [e171] at e; exact n9_171 ih As h (nF5_r h) r h' e
theorem nA_172 (ih : fE8 (dM L xs zf w k)) : ∀ As h r h', dM L xs zf w (k + 1) 172 As h = some (r, h') → nF5 h h' := fun As h r h' e => by rw [e172] at e; exact n9_172 ih As h (nF5_r h) r h' e
theorem nA_173 (ih : fE8 (dM L xs zf w k)) : ∀ As h r h', dM L xs zf w (k + 1) 173 As h = some (r, h') → nF5 h h' := fun As h r h' e => by rw [e173] at e; exact n9_173 ih As h (nF5_r h) r h' e
theorem nA_174 (ih : fE8 (dM L xs zf w k)) : ∀ As h r h', dM L xs zf w (k + 1) 174 As h = some (r, h') → nF5 h h' := fun As h r h' e => by rw [e174] at e; exact n9_174 ih As h (nF5_r h) r h' e
theorem nA_175 (ih : fE8 (dM L xs zf w k)) : ∀ As h r h', dM L xs zf w (k + 1) 175 As h = some (r, h') → nF5 h h' := fun As h r h' e => by rw [e175] at e; exact n9_175 ih As h (nF5_r h) r h' e
theorem nA_176 (ih : fE8 (dM L xs zf w k)) : ∀ As h r h', dM L xs zf w (k + 1) 176 As h = some (r, h') → nF5 h h' := fun As h r h' e => by rw [e176] at e; exact n9_176 ih As h (nF5_r h) r h' e
theorem nA_177 (ih : fE8 (dM L xs zf w k)) : ∀ As h r h', dM L xs zf w (k + 1) 177 As h = some (r, h') → nF5 h h' := fun As h r h' e => by rw [e177] at e; exact n9_177 ih As h (nF5_r h) r h' e
theorem nA_178 (ih : fE8 (dM L xs zf w k)) : ∀ As h r h', dM L xs zf w (k + 1) 178 As h = some (r, h') → nF5 h h' := fun As h r h' e => by rw [e178] at e; exact n9_178 ih As h (nF5_r h) r h' e
theorem nA_179 (ih : fE8 (dM L xs zf w k)) : ∀ As h r h', dM L xs zf w (k + 1) 179 As h = some (r, h') → nF5 h h' := fun As h r h' e => by rw [e179] at e; exact n9_179 ih As h (nF5_r h) r h' e
theorem nA_180 (ih : fE8 (dM L xs zf w k)) : ∀ As h r h', dM L xs zf w (k + 1) 180 As h = some (r, h') → nF5 h h' := fun As h r h' e => by rw [e180] at e; exact n9_180 ih As h (nF5_r h) r h' e
theorem nA_181 (ih : fE8 (dM L xs zf w k)) : ∀ As h r h', dM L xs zf w (k + 1) 181 As h = some (r, h') → nF5 h h' := fun As h r h' e => by rw [e181] at e; exact n9_181 ih As h (nF5_r h) r h' e
theorem nA_182 (ih : fE8 (dM L xs zf w k)) : ∀ As h r h', dM L xs zf w (k + 1) 182 As h = some (r, h') → nF5 h h' := fun As h r h' e => by rw [e182] at e; exact n9_182 ih As h (nF5_r h) r h' e
theorem nA_183 (ih : fE8 (dM L xs zf w k)) : ∀ As h r h', dM L xs zf w (k + 1) 183 As h = some (r, h') → nF5 h h' := fun As h r h' e => by rw [e183] at e; exact n9_183 ih As h (nF5_r h) r h' e
theorem nA_184 (ih : fE8 (dM L xs zf w k)) : ∀ As h r h', dM L xs zf w (k + 1) 184 As h = some (r, h') → nF5 h h' := fun As h r h' e => by rw [e184] at e; exact n9_184 ih As h (nF5_r h) r h' e
theorem nA_185 (ih : fE8 (dM L xs zf w k)) : ∀ As h r h', dM L xs zf w (k + 1) 185 As h = some (r, h') → nF5 h h' := fun As h r h' e => by rw [e185] at e; exact n9_185 ih As h (nF5_r h) r h' e
theorem nA_186 (ih : fE8 (dM L xs zf w k)) : ∀ As h r h', dM L xs zf w (k + 1) 186 As h = some (r, h') → nF5 h h' := fun As h r h' e => by rw [e186] at e; exact n9_186 ih As h (nF5_r h) r h' e
theorem nA_187 (ih : fE8 (dM L xs zf w k)) : ∀ As h r h', dM L xs zf w (k + 1) 187 As h = some (r, h') → nF5 h h' := fun As h r h' e => by rw [e187] at e; exact n9_187 ih As h (nF5_r h) r h' e
theorem nA_188 (ih : fE8 (dM L xs zf w k)) : ∀ As h r h', dM L xs zf w (k + 1) 188 As h = some (r, h') → nF5 h h' := fun As h r h' e => by rw [e188] at e; exact n9_188 ih As h (nF5_r h) r h' e
theorem nA_189 (ih : fE8 (dM L xs zf w k)) : ∀ As h r h', dM L xs zf w (k + 1) 189 As h = some (r, h') → nF5 h h' := fun As h r h' e => by rw [e189] at e; exact n9_189 ih As h (nF5_r h) r h' e
theorem nA_190 (ih : fE8 (dM L xs zf w k)) : ∀ As h r h', dM L xs zf w (k + 1) 190 As h = some (r, h') → nF5 h h' := fun As h r h' e => by rw [e190] at e; exact n9_190 ih As h (nF5_r h) r h' e
theorem nA_191 (ih : fE8 (dM L xs zf w k)) : ∀ As h r h', dM L xs zf w (k + 1) 191 As h = some (r, h') → nF5 h h' := fun As h r h' e => by rw [e191] at e; exact n9_191 ih As h (nF5_r h) r h' e
theorem nA_192 (ih : fE8 (dM L xs zf w k)) : ∀ As h r h', dM L xs zf w (k + 1) 192 As h = some (r, h') → nF5 h h' := fun As h r h' e => by rw [e192] at e; exact n9_192 ih As h (nF5_r h) r h' e
theorem nA_193 (ih : fE8 (dM L xs zf w k)) : ∀ As h r h', dM L xs zf w (k + 1) 193 As h = some (r, h') → nF5 h h' := fun As h r h' e => by rw [e193] at e; exact n9_193 ih As h (nF5_r h) r h' e
theorem nA_194 (ih : fE8 (dM L xs zf w k)) : ∀ As h r h', dM L xs zf w (k + 1) 194 As h = some (r, h') → nF5 h h' := fun As h r h' e => by rw [e194] at e; exact n9_194 ih As h (nF5_r h) r h' e
theorem nA_195 (ih : fE8 (dM L xs zf w k)) : ∀ As h r h', dM L xs zf w (k + 1) 195 As h = some (r, h') → nF5 h h' := fun As h r h' e => by rw [e195] at e; exact n9_195 ih As h (nF5_r h) r h' e
theorem nA_196 (ih : fE8 (dM L xs zf w k)) : ∀ As h r h', dM L xs zf w (k + 1) 196 As h = some (r, h') → nF5 h h' := fun As h r h' e => by rw [e196] at e; exact n9_196 ih As h (nF5_r h) r h' e
theorem nA_197 (ih : fE8 (dM L xs zf w k)) : ∀ As h r h', dM L xs zf w (k + 1) 197 As h = some (r, h') → nF5 h h' := fun As h r h' e => by rw [e197] at e; exact n9_197 ih As h (nF5_r h) r h' e
theorem nA_198 (ih : fE8 (dM L xs zf w k)) : ∀ As h r h', dM L xs zf w (k + 1) 198 As h = some (r, h') → nF5 h h' := fun As h r h' e => by rw [e198] at e; exact n9_198 ih As h (nF5_r h) r h' e
theorem nA_199 (ih : fE8 (dM L xs zf w k)) : ∀ As h r h', dM L xs zf w (k + 1) 199 As h = some (r, h') → nF5 h h' := fun As h r h' e => by rw [e199] at e; exact n9_199 ih As h (nF5_r h) r h' e
theorem nA_200 (ih : fE8 (dM L xs zf w k)) : ∀ As h r h', dM L xs zf w (k + 1) 200 As h = some (r, h') → nF5 h h' := fun As h r h' e => by rw [e200] at e; exact n9_200 ih As h (nF5_r h) r h' e
theorem nA_201 (ih : fE8 (dM L xs zf w k)) : ∀ As h r h', dM L xs zf w (k + 1) 201 As h = some (r, h') → nF5 h h' := fun As h r h' e => by rw [e201] at e; exact n9_201 ih As h (nF5_r h) r h' e
theorem nA_202 (ih : fE8 (dM L xs zf w k)) : ∀ As h r h', dM L xs zf w (k + 1) 202 As h = some (r, h') → nF5 h h' := fun As h r h' e => by rw [e202] at e; exact n9_202 ih As h (nF5_r h) r h' e
theorem nA_203 (ih : fE8 (dM L xs zf w k)) : ∀ As h r h', dM L xs zf w (k + 1) 203 As h = some (r, h') → nF5 h h' := fun As h r h' e => by rw [e203] at e; exact n9_203 ih As h (nF5_r h) r h' e
theorem nA_204 (ih : fE8 (dM L xs zf w k)) : ∀ As h r h', dM L xs zf w (k + 1) 204 As h = some (r, h') → nF5 h h' := fun As h r h' e => by rw [e204] at e; exact n9_204 ih As h (nF5_r h) r h' e
theorem nA_205 (ih : fE8 (dM L xs zf w k)) : ∀ As h r h', dM L xs zf w (k + 1) 205 As h = some (r, h') → nF5 h h' := fun As h r h' e => by rw [e205] at e; exact n9_205 ih As h (nF5_r h) r h' e
theorem nA_206 (ih : fE8 (dM L xs zf w k)) : ∀ As h r h', dM L xs zf w (k + 1) 206 As h = some (r, h') → nF5 h h' := fun As h r h' e => by rw [e206] at e; exact n9_206 ih As h (nF5_r h) r h' e
theorem nA_207 (ih : fE8 (dM L xs zf w k)) : ∀ As h r h', dM L xs zf w (k + 1) 207 As h = some (r, h') → nF5 h h' := fun As h r h' e => by rw [e207] at e; exact n9_207 ih As h (nF5_r h) r h' e
theorem nA_208 (ih : fE8 (dM L xs zf w k)) : ∀ As h r h', dM L xs zf w (k + 1) 208 As h = some (r, h') → nF5 h h' := fun As h r h' e => by rw [e208] at e; exact n9_208 ih As h (nF5_r h) r h' e
theorem nA_209 (ih : fE8 (dM L xs zf w k)) : ∀ As h r h', dM L xs zf w (k + 1) 209 As h = some (r, h') → nF5 h h' := fun As h r h' e => by rw [e209] at e; exact n9_209 ih As h (nF5_r h) r h' e
theorem nA_210 (ih : fE8 (dM L xs zf w k)) : ∀ As h r h', dM L xs zf w (k + 1) 210 As h = some (r, h') → nF5 h h' := fun As h r h' e => by rw [e210] at e; exact n9_210 ih As h (nF5_r h) r h' e
theorem nA_211 (ih : fE8 (dM L xs zf w k)) : ∀ As h r h', dM L xs zf w (k + 1) 211 As h = some (r, h') → nF5 h h' := fun As h r h' e => by rw [e211] at e; exact n9_211 ih As h (nF5_r h) r h' e
theorem nA_212 (ih : fE8 (dM L xs zf w k)) : ∀ As h r h', dM L xs zf w (k + 1) 212 As h = some (r, h') → nF5 h h' := fun As h r h' e => by rw [e212] at e; exact n9_212 ih As h (nF5_r h) r h' e
theorem nA_213 (ih : fE8 (dM L xs zf w k)) : ∀ As h r h', dM L xs zf w (k + 1) 213 As h = some (r, h') → nF5 h h' := fun As h r h' e => by rw [e213] at e; exact n9_213 ih As h (nF5_r h) r h' e
theorem nA_214 (ih : fE8 (dM L xs zf w k)) : ∀ As h r h', dM L xs zf w (k + 1) 214 As h = some (r, h') → nF5 h h' := fun As h r h' e => by rw [e214] at e; exact n9_214 ih As h (nF5_r h) r h' e
theorem nA_215 (ih : fE8 (dM L xs zf w k)) : ∀ As h r h', dM L xs zf w (k + 1) 215 As h = some (r, h') → nF5 h h' := fun As h r h' e => by rw [e215] at e; exact n9_215 ih As h (nF5_r h) r h' e
theorem nA_216 (ih : fE8 (dM L xs zf w k)) : ∀ As h r h', dM L xs zf w (k + 1) 216 As h = some (r, h') → nF5 h h' := fun As h r h' e => by rw [e216] at e; exact n9_216 ih As h (nF5_r h) r h' e
theorem nA_217 (ih : fE8 (dM L xs zf w k)) : ∀ As h r h', dM L xs zf w (k + 1) 217 As h = some (r, h') → nF5 h h' := fun As h r h' e => by rw [e217] at e; exact n9_217 ih As h (nF5_r h) r h' e
theorem fE8_s (ih : fE8 (dM L xs zf w k)) : ∀ m ∈ ([15, 16, 17, 18, 19, 20, 21, 22, 35, 37, 38, 39, 40, 41, 42, 101, 144, 145, 146, 147, 148, 149, 150, 151, 152, 153, 154, 155, 156, 157, 158, 159, 160, 161, 162, 163, 164, 165, 166, 167, 168, 169, 170, 171, 172, 173, 174, 175, 176, 177, 178, 179, 180, 181, 182, 183, 184, 185, 186, 187, 188, 189, 190, 191, 192, 193, 194, 195, 196, 197, 198, 199, 200, 201, 202, 203, 204, 205, 206, 207, 208, 209, 210, 211, 212, 213, 214, 215, 216, 217] : List Nat), ∀ As h r h', dM L xs zf w (k + 1) m As h = some (r, h') → nF5 h h' := by
  refine List.forall_mem_cons.mpr ⟨nA_15 ih, ?_⟩
  refine List.forall_mem_cons.mpr ⟨nA_16 ih, ?_⟩
  refine List.forall_mem_cons.mpr ⟨nA_17 ih, ?_⟩
  refine List.forall_mem_cons.mpr ⟨nA_18 ih, ?_⟩
  refine List.forall_mem_cons.mpr ⟨nA_19 ih, ?_⟩
  refine List.forall_mem_cons.mpr ⟨nA_20 ih, ?_⟩
  refine List.forall_mem_cons.mpr ⟨nA_21 ih, ?_⟩
  refine List.forall_mem_cons.mpr ⟨nA_22 ih, ?_⟩
  refine List.forall_mem_cons.mpr ⟨nA_35 ih, ?_⟩
  refine List.forall_mem_cons.mpr ⟨nA_37 ih, ?_⟩
  refine List.forall_mem_cons.mpr ⟨nA_38 ih, ?_⟩
  refine List.forall_mem_cons.mpr ⟨nA_39 ih, ?_⟩
  refine List.forall_mem_cons.mpr ⟨nA_40 ih, ?_⟩
  refine List.forall_mem_cons.mpr ⟨nA_41 ih, ?_⟩
  refine List.forall_mem_cons.mpr ⟨nA_42 ih, ?_⟩
  refine List.forall_mem_cons.mpr ⟨nA_101 ih, ?_⟩
  refine List.forall_mem_cons.mpr ⟨nA_144 ih, ?_⟩
  refine List.forall_mem_cons.mpr ⟨nA_145 ih, ?_⟩
  refine List.forall_mem_cons.mpr ⟨nA_146 ih, ?_⟩
  refine List.forall_mem_cons.mpr ⟨nA_147 ih, ?_⟩
  refine List.forall_mem_cons.mpr ⟨nA_148 ih, ?_⟩
  refine List.forall_mem_cons.mpr ⟨nA_149 ih, ?_⟩
  refine List.forall_mem_cons.mpr ⟨nA_150 ih, ?_⟩
  refine List.forall_mem_cons.mpr ⟨nA_151 ih, ?_⟩
  refine List.forall_mem_cons.mpr ⟨nA_152 ih, ?_⟩
  refine List.forall_mem_cons.mpr ⟨nA_153 ih, ?_⟩
  refine List.forall_mem_cons.mpr ⟨nA_154 ih, ?_⟩
  refine List.forall_mem_cons.mpr ⟨nA_155 ih, ?_⟩
  refine List.forall_mem_cons.mpr ⟨nA_156 ih, ?_⟩
  refine List.forall_mem_cons.mpr ⟨nA_157 ih, ?_⟩
  refine List.forall_mem_cons.mpr ⟨nA_158 ih, ?_⟩
  refine List.forall_mem_cons.mpr ⟨nA_159 ih, ?_⟩
  refine List.forall_mem_cons.mpr ⟨nA_160 ih, ?_⟩
  refine List.forall_mem_cons.mpr ⟨nA_161 ih, ?_⟩
  refine List.forall_mem_cons.mpr ⟨nA_162 ih, ?_⟩
  refine List.forall_mem_cons.mpr ⟨nA_163 ih, ?_⟩
  refine List.forall_mem_cons.mpr ⟨nA_164 ih, ?_⟩
  refine List.forall_mem_cons.mpr ⟨nA_165 ih, ?_⟩
  refine List.forall_mem_cons.mpr ⟨nA_166 ih, ?_⟩
  refine List.forall_mem_cons.mpr ⟨nA_167 ih, ?_⟩
  refine List.forall_mem_cons.mpr ⟨nA_168 ih, ?_⟩
  refine List.forall_mem_cons.mpr ⟨nA_169 ih, ?_⟩
  refine List.forall_mem_cons.mpr ⟨nA_170 ih, ?_⟩
  refine List.forall_mem_cons.mpr ⟨nA_171 ih, ?_⟩
  refine List.forall_mem_cons.mpr ⟨nA_172 ih, ?_⟩
  refine List.forall_mem_cons.mpr ⟨nA_173 ih, ?_⟩
  refine List.forall_mem_cons.mpr ⟨nA_174 ih, ?_⟩
  refine List.forall_mem_cons.mpr ⟨nA_175 ih, ?_⟩
  refine List.forall_mem_cons.mpr ⟨nA_176 ih, ?_⟩
  refine List.forall_mem_cons.mpr ⟨nA_177 ih, ?_⟩
  refine List.forall_mem_cons.mpr ⟨nA_178 ih, ?_⟩
  refine List.forall_mem_cons.mpr ⟨nA_179 ih, ?_⟩
  refine List.forall_mem_cons.mpr ⟨nA_180 ih, ?_⟩
  refine List.forall_mem_cons.mpr ⟨nA_181 ih, ?_⟩
  refine List.forall_mem_cons.mpr ⟨nA_182 ih, ?_⟩
  refine List.forall_mem_cons.mpr ⟨nA_183 ih, ?_⟩
  refine List.forall_mem_cons.mpr ⟨nA_184 ih, ?_⟩
  refine List.forall_mem_cons.mpr ⟨nA_185 ih, ?_⟩
  refine List.forall_mem_cons.mpr ⟨nA_186 ih, ?_⟩
  refine List.forall_mem_cons.mpr ⟨nA_187 ih, ?_⟩
  refine List.forall_mem_cons.mpr ⟨nA_188 ih, ?_⟩
  refine List.forall_mem_cons.mpr ⟨nA_189 ih, ?_⟩
  refine List.forall_mem_cons.mpr ⟨nA_190 ih, ?_⟩
  refine List.forall_mem_cons.mpr ⟨nA_191 ih, ?_⟩
  refine List.forall_mem_cons.mpr ⟨nA_192 ih, ?_⟩
  refine List.forall_mem_cons.mpr ⟨nA_193 ih, ?_⟩
  refine List.forall_mem_cons.mpr ⟨nA_194 ih, ?_⟩
  refine List.forall_mem_cons.mpr ⟨nA_195 ih, ?_⟩
  refine List.forall_mem_cons.mpr ⟨nA_196 ih, ?_⟩
  refine List.forall_mem_cons.mpr ⟨nA_197 ih, ?_⟩
  refine List.forall_mem_cons.mpr ⟨nA_198 ih, ?_⟩
  refine List.forall_mem_cons.mpr ⟨nA_199 ih, ?_⟩
  refine List.forall_mem_cons.mpr ⟨nA_200 ih, ?_⟩
  refine List.forall_mem_cons.mpr ⟨nA_201 ih, ?_⟩
  refine List.forall_mem_cons.mpr ⟨nA_202 ih, ?_⟩
  refine List.forall_mem_cons.mpr ⟨nA_203 ih, ?_⟩
  refine List.forall_mem_cons.mpr ⟨nA_204 ih, ?_⟩
  refine List.forall_mem_cons.mpr ⟨nA_205 ih, ?_⟩
  refine List.forall_mem_cons.mpr ⟨nA_206 ih, ?_⟩
  refine List.forall_mem_cons.mpr ⟨nA_207 ih, ?_⟩
  refine List.forall_mem_cons.mpr ⟨nA_208 ih, ?_⟩
  refine List.forall_mem_cons.mpr ⟨nA_209 ih, ?_⟩
  refine List.forall_mem_cons.mpr ⟨nA_210 ih, ?_⟩
  refine List.forall_mem_cons.mpr ⟨nA_211 ih, ?_⟩
  refine List.forall_mem_cons.mpr ⟨nA_212 ih, ?_⟩
  refine List.forall_mem_cons.mpr ⟨nA_213 ih, ?_⟩
  refine List.forall_mem_cons.mpr ⟨nA_214 ih, ?_⟩
  refine List.forall_mem_cons.mpr ⟨nA_215 ih, ?_⟩
  refine List.forall_mem_cons.mpr ⟨nA_216 ih, ?_⟩
  refine List.forall_mem_cons.mpr ⟨nA_217 ih, ?_⟩
  intro m hm
  exact absurd hm List.not_mem_nil
theorem fE8_all (L : Nat) (xs : Nat → Int32) (zf : Value) (w : Nat) : ∀ k, fE8 (dM L xs zf w k)
  | 0 => fun m _ As h r h' e => by
    have e : (none : Option dR) = some (r, h') := e
    cases e
  | k + 1 => fun m hm As h r h' e => fE8_s (fE8_all L xs zf w k) m (List.contains_iff_mem.mp hm) As h r h' e
end N8C
