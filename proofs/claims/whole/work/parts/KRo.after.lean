/-! methods -/
section N8B
variable {L : Nat} {xs : Nat → Int32} {zf : Value} {D : dD} {w : Nat} {Hz : rm_H}
theorem n9_15 (hE : fE8 D) (As : List Value) (h : rm_H) (z : nF5 Hz h) : oK5 Hz (f15 L xs zf D w As h) := by
  unfold f15
  split
  · repeat' (first
    | with_reducible exact n8_15_0 hE _ _ _ z
    | (with_reducible refine o5_rd (fun _ => ?_)))
  · exact o5_none
theorem n9_16 (hE : fE8 D) (As : List Value) (h : rm_H) (z : nF5 Hz h) : oK5 Hz (f16 L xs zf D w As h) := by
  unfold f16
  split
  · repeat' (first
    | with_reducible exact n8_16_0 hE _ _ _ z
    | (with_reducible refine o5_rd (fun _ => ?_)))
  · exact o5_none
theorem n9_17 (hE : fE8 D) (As : List Value) (h : rm_H) (z : nF5 Hz h) : oK5 Hz (f17 L xs zf D w As h) := by
  unfold f17
  split
  · repeat' (first
    | with_reducible exact n8_17_0 hE _ _ _ _ z
    | (with_reducible refine o5_rd (fun _ => ?_)))
  · exact o5_none
theorem n9_18 (hE : fE8 D) (As : List Value) (h : rm_H) (z : nF5 Hz h) : oK5 Hz (f18 L xs zf D w As h) := by
  unfold f18
  split
  · repeat' (first
    | with_reducible exact n8_18_0 hE _ _ _ z
    | (with_reducible refine o5_rd (fun _ => ?_)))
  · exact o5_none
theorem n9_19 (hE : fE8 D) (As : List Value) (h : rm_H) (z : nF5 Hz h) : oK5 Hz (f19 L xs zf D w As h) := by
  unfold f19
  split
  · repeat' (first
    | with_reducible exact n8_19_0 hE _ _ _ z
    | (with_reducible refine o5_rd (fun _ => ?_)))
  · exact o5_none
theorem n9_20 (hE : fE8 D) (As : List Value) (h : rm_H) (z : nF5 Hz h) : oK5 Hz (f20 L xs zf D w As h) := by
  unfold f20
  split
  · repeat' (first
    | with_reducible exact n8_20_0 hE _ _ _ z
    | (with_reducible refine o5_rd (fun _ => ?_)))
  · exact o5_none
theorem n9_21 (hE : fE8 D) (As : List Value) (h : rm_H) (z : nF5 Hz h) : oK5 Hz (f21 L xs zf D w As h) := by
  unfold f21
  split
  · repeat' (first
    | with_reducible exact n8_21_0 hE _ _ _ z
    | (with_reducible refine o5_rd (fun _ => ?_)))
  · exact o5_none
theorem n9_22 (hE : fE8 D) (As : List Value) (h : rm_H) (z : nF5 Hz h) : oK5 Hz (f22 L xs zf D w As h) := by
  unfold f22
  split
  · repeat' (first
    | with_reducible exact n8_22_0 hE _ _ z
    | (with_reducible refine o5_rd (fun _ => ?_)))
  · exact o5_none
theorem n9_35 (hE : fE8 D) (As : List Value) (h : rm_H) (z : nF5 Hz h) : oK5 Hz (f35 L xs zf D w As h) := by
  unfold f35
  split
  · repeat' (first
    | with_reducible exact n8_35_0 hE _ _ _ z
    | (with_reducible refine o5_rd (fun _ => ?_)))
  · exact o5_none
theorem n9_37 (hE : fE8 D) (As : List Value) (h : rm_H) (z : nF5 Hz h) : oK5 Hz (f37 L xs zf D w As h) := by
  unfold f37
  split
  · repeat' (first
    | with_reducible exact n8_37_0 hE _ _ _ z
    | (with_reducible refine o5_rd (fun _ => ?_)))
  · exact o5_none
theorem n9_38 (hE : fE8 D) (As : List Value) (h : rm_H) (z : nF5 Hz h) : oK5 Hz (f38 L xs zf D w As h) := by
  unfold f38
  split
  · repeat' (first
    | with_reducible exact n8_38_0 hE _ _ _ z
    | (with_reducible refine o5_rd (fun _ => ?_)))
  · exact o5_none
theorem n9_39 (hE : fE8 D) (As : List Value) (h : rm_H) (z : nF5 Hz h) : oK5 Hz (f39 L xs zf D w As h) := by
  unfold f39
  split
  · repeat' (first
    | with_reducible exact n8_39_0 hE _ _ _ _ z
    | (with_reducible refine o5_rd (fun _ => ?_)))
  · exact o5_none
theorem n9_40 (hE : fE8 D) (As : List Value) (h : rm_H) (z : nF5 Hz h) : oK5 Hz (f40 L xs zf D w As h) := by
  unfold f40
  split
  · repeat' (first
    | with_reducible exact n8_40_0 hE _ _ _ _ _ z
    | (with_reducible refine o5_rd (fun _ => ?_)))
  · exact o5_none
theorem n9_41 (hE : fE8 D) (As : List Value) (h : rm_H) (z : nF5 Hz h) : oK5 Hz (f41 L xs zf D w As h) := by
  unfold f41
  split
  · repeat' (first
    | with_reducible exact n8_41_0 hE _ _ _ _ z
    | (with_reducible refine o5_rd (fun _ => ?_)))
  · exact o5_none
theorem n9_42 (hE : fE8 D) (As : List Value) (h : rm_H) (z : nF5 Hz h) : oK5 Hz (f42 L xs zf D w As h) := by
  unfold f42
  split
  · repeat' (first
    | with_reducible exact n8_42_0 hE _ _ _ _ z
    | (with_reducible refine o5_rd (fun _ => ?_)))
  · exact o5_none
theorem n9_101 (hE : fE8 D) (As : List Value) (h : rm_H) (z : nF5 Hz h) : oK5 Hz (f101 L xs zf D w As h) := by
  unfold f101
  split
  · repeat' (first
    | with_reducible exact n8_101_0 hE _ _ z
    | (with_reducible refine o5_rd (fun _ => ?_)))
  · exact o5_none
theorem n9_144 (hE : fE8 D) (As : List Value) (h : rm_H) (z : nF5 Hz h) : oK5 Hz (f144 L xs zf D w As h) := by
  unfold f144
  split
  · repeat' (first
    | with_reducible exact n8_144_0 hE _ _ _ _ z
    | (with_reducible refine o5_rd (fun _ => ?_)))
  · exact o5_none
theorem n9_145 (hE : fE8 D) (As : List Value) (h : rm_H) (z : nF5 Hz h) : oK5 Hz (f145 L xs zf D w As h) := by
  unfold f145
  split
  · repeat' (first
    | with_reducible exact n8_145_0 hE _ _ z
    | (with_reducible refine o5_rd (fun _ => ?_)))
  · exact o5_none
theorem n9_146 (hE : fE8 D) (As : List Value) (h : rm_H) (z : nF5 Hz h) : oK5 Hz (f146 L xs zf D w As h) := by
  unfold f146
  split
  · repeat' (first
    | with_reducible exact n8_146_0 hE _ _ _ z
    | (with_reducible refine o5_rd (fun _ => ?_)))
  · exact o5_none
theorem n9_147 (hE : fE8 D) (As : List Value) (h : rm_H) (z : nF5 Hz h) : oK5 Hz (f147 L xs zf D w As h) := by
  unfold f147
  split
  · repeat' (first
    | with_reducible exact n8_147_0 hE _ _ _ z
    | (with_reducible refine o5_rd (fun _ => ?_)))
  · exact o5_none
theorem n9_148 (hE : fE8 D) (As : List Value) (h : rm_H) (z : nF5 Hz h) : oK5 Hz (f148 L xs zf D w As h) := by
  unfold f148
  split
  · repeat' (first
    | with_reducible exact n8_148_0 hE _ _ _ z
    | (with_reducible refine o5_rd (fun _ => ?_)))
  · exact o5_none
theorem n9_149 (hE : fE8 D) (As : List Value) (h : rm_H) (z : nF5 Hz h) : oK5 Hz (f149 L xs zf D w As h) := by
  unfold f149
  split
  · repeat' (first
    | with_reducible exact n8_149_0 hE _ _ _ z
    | (with_reducible refine o5_rd (fun _ => ?_)))
  · exact o5_none
theorem n9_150 (hE : fE8 D) (As : List Value) (h : rm_H) (z : nF5 Hz h) : oK5 Hz (f150 L xs zf D w As h) := by
  unfold f150
  split
  · repeat' (first
    | with_reducible exact n8_150_0 hE _ _ _ z
    | (with_reducible refine o5_rd (fun _ => ?_)))
  · exact o5_none
theorem n9_151 (hE : fE8 D) (As : List Value) (h : rm_H) (z : nF5 Hz h) : oK5 Hz (f151 L xs zf D w As h) := by
  unfold f151
  split
  · repeat' (first
    | with_reducible exact n8_151_0 hE _ _ _ z
    | (with_reducible refine o5_rd (fun _ => ?_)))
  · exact o5_none
theorem n9_152 (hE : fE8 D) (As : List Value) (h : rm_H) (z : nF5 Hz h) : oK5 Hz (f152 L xs zf D w As h) := by
  unfold f152
  split
  · repeat' (first
    | with_reducible exact n8_152_0 hE _ _ _ z
    | (with_reducible refine o5_rd (fun _ => ?_)))
  · exact o5_none
theorem n9_153 (hE : fE8 D) (As : List Value) (h : rm_H) (z : nF5 Hz h) : oK5 Hz (f153 L xs zf D w As h) := by
  unfold f153
  split
  · repeat' (first
    | with_reducible exact n8_153_0 hE _ _ _ _ z
    | (with_reducible refine o5_rd (fun _ => ?_)))
  · exact o5_none
theorem n9_154 (hE : fE8 D) (As : List Value) (h : rm_H) (z : nF5 Hz h) : oK5 Hz (f154 L xs zf D w As h) := by
  unfold f154
  split
  · repeat' (first
    | with_reducible exact n8_154_0 hE _ _ _ z
    | (with_reducible refine o5_rd (fun _ => ?_)))
  · exact o5_none
theorem n9_155 (hE : fE8 D) (As : List Value) (h : rm_H) (z : nF5 Hz h) : oK5 Hz (f155 L xs zf D w As h) := by
  unfold f155
  split
  · repeat' (first
    | with_reducible exact n8_155_0 hE _ _ _ z
    | (with_reducible refine o5_rd (fun _ => ?_)))
  · exact o5_none
theorem n9_156 (hE : fE8 D) (As : List Value) (h : rm_H) (z : nF5 Hz h) : oK5 Hz (f156 L xs zf D w As h) := by
  unfold f156
  split
  · repeat' (first
    | with_reducible exact n8_156_0 hE _ _ _ _ z
    | (with_reducible refine o5_rd (fun _ => ?_)))
  · exact o5_none
theorem n9_157 (hE : fE8 D) (As : List Value) (h : rm_H) (z : nF5 Hz h) : oK5 Hz (f157 L xs zf D w As h) := by
  unfold f157
  split
  · repeat' (first
    | with_reducible exact n8_157_0 hE _ _ _ z
    | (with_reducible refine o5_rd (fun _ => ?_)))
  · exact o5_none
theorem n9_158 (hE : fE8 D) (As : List Value) (h : rm_H) (z : nF5 Hz h) : oK5 Hz (f158 L xs zf D w As h) := by
  unfold f158
  split
  · repeat' (first
    | with_reducible exact n8_158_0 hE _ _ z
    | (with_reducible refine o5_rd (fun _ => ?_)))
  · exact o5_none
theorem n9_159 (hE : fE8 D) (As : List Value) (h : rm_H) (z : nF5 Hz h) : oK5 Hz (f159 L xs zf D w As h) := by
  unfold f159
  split
  · repeat' (first
    | with_reducible exact n8_159_0 hE _ _ z
    | (with_reducible refine o5_rd (fun _ => ?_)))
  · exact o5_none
theorem n9_160 (hE : fE8 D) (As : List Value) (h : rm_H) (z : nF5 Hz h) : oK5 Hz (f160 L xs zf D w As h) := by
  unfold f160
  split
  · repeat' (first
    | with_reducible exact n8_160_0 hE _ _ z
    | (with_reducible refine o5_rd (fun _ => ?_)))
  · exact o5_none
theorem n9_161 (hE : fE8 D) (As : List Value) (h : rm_H) (z : nF5 Hz h) : oK5 Hz (f161 L xs zf D w As h) := by
  unfold f161
  split
  · repeat' (first
    | with_reducible exact n8_161_0 hE _ _ z
    | (with_reducible refine o5_rd (fun _ => ?_)))
  · exact o5_none
theorem n9_162 (hE : fE8 D) (As : List Value) (h : rm_H) (z : nF5 Hz h) : oK5 Hz (f162 L xs zf D w As h) := by
  unfold f162
  split
  · repeat' (first
    | with_reducible exact n8_162_0 hE _ _ _ z
    | (with_reducible refine o5_rd (fun _ => ?_)))
  · exact o5_none
theorem n9_163 (hE : fE8 D) (As : List Value) (h : rm_H) (z : nF5 Hz h) : oK5 Hz (f163 L xs zf D w As h) := by
  unfold f163
  split
  · repeat' (first
    | with_reducible exact n8_163_0 hE _ _ z
    | (with_reducible refine o5_rd (fun _ => ?_)))
  · exact o5_none
theorem n9_164 (hE : fE8 D) (As : List Value) (h : rm_H) (z : nF5 Hz h) : oK5 Hz (f164 L xs zf D w As h) := by
  unfold f164
  split
  · repeat' (first
    | with_reducible exact n8_164_0 hE _ _ _ z
    | (with_reducible refine o5_rd (fun _ => ?_)))
  · exact o5_none
theorem n9_165 (hE : fE8 D) (As : List Value) (h : rm_H) (z : nF5 Hz h) : oK5 Hz (f165 L xs zf D w As h) := by
  unfold f165
  split
  · repeat' (first
    | with_reducible exact n8_165_0 hE _ _ _ z
    | (with_reducible refine o5_rd (fun _ => ?_)))
  · exact o5_none
theorem n9_166 (hE : fE8 D) (As : List Value) (h : rm_H) (z : nF5 Hz h) : oK5 Hz (f166 L xs zf D w As h) := by
  unfold f166
  split
  · repeat' (first
    | with_reducible exact n8_166_0 hE _ _ _ _ z
    | (with_reducible refine o5_rd (fun _ => ?_)))
  · exact o5_none
theorem n9_167 (hE : fE8 D) (As : List Value) (h : rm_H) (z : nF5 Hz h) : oK5 Hz (f167 L xs zf D w As h) := by
  unfold f167
  split
  · repeat' (first
    | with_reducible exact n8_167_0 hE _ _ z
    | (with_reducible refine o5_rd (fun _ => ?_)))
  · exact o5_none
theorem n9_168 (hE : fE8 D) (As : List Value) (h : rm_H) (z : nF5 Hz h) : oK5 Hz (f168 L xs zf D w As h) := by
  unfold f168
  split
  · repeat' (first
    | with_reducible exact n8_168_0 hE _ _ _ z
    | (with_reducible refine o5_rd (fun _ => ?_)))
  · exact o5_none
theorem n9_169 (hE : fE8 D) (As : List Value) (h : rm_H) (z : nF5 Hz h) : oK5 Hz (f169 L xs zf D w As h) := by
  unfold f169
  split
  · repeat' (first
    | with_reducible exact n8_169_0 hE _ _ _ _ z
    | (with_reducible refine o5_rd (fun _ => ?_)))
  · exact o5_none
theorem n9_170 (hE : fE8 D) (As : List Value) (h : rm_H) (z : nF5 Hz h) : oK5 Hz (f170 L xs zf D w As h) := by
  unfold f170
  split
  · repeat' (first
    | with_reducible exact n8_170_0 hE _ _ _ z
    | (with_reducible refine o5_rd (fun _ => ?_)))
  · exact o5_none
theorem n9_171 (hE : fE8 D) (As : List Value) (h : rm_H) (z : nF5 Hz h) : oK5 Hz (f171 L xs zf D w As h) := by
  unfold f171
  split
  · repeat' (first
    | with_reducible exact n8_171_0 hE _ _ _ z
    | (with_reducible refine o5_rd (fun _ => ?_)))
  · exact o5_none
theorem n9_172 (hE : fE8 D) (As : List Value) (h : rm_H) (z : nF5 Hz h) : oK5 Hz (f172 L xs zf D w As h) := by
  unfold f172
  split
  · repeat' (first
    | with_reducible exact n8_172_0 hE _ _ _ z
    | (with_reducible refine o5_rd (fun _ => ?_)))
  · exact o5_none
theorem n9_173 (hE : fE8 D) (As : List Value) (h : rm_H) (z : nF5 Hz h) : oK5 Hz (f173 L xs zf D w As h) := by
  unfold f173
  split
  · repeat' (first
    | with_reducible exact n8_173_0 hE _ _ _ z
    | (with_reducible refine o5_rd (fun _ => ?_)))
  · exact o5_none
theorem n9_174 (hE : fE8 D) (As : List Value) (h : rm_H) (z : nF5 Hz h) : oK5 Hz (f174 L xs zf D w As h) := by
  unfold f174
  split
  · repeat' (first
    | with_reducible exact n8_174_0 hE _ _ _ z
    | (with_reducible refine o5_rd (fun _ => ?_)))
  · exact o5_none
theorem n9_175 (hE : fE8 D) (As : List Value) (h : rm_H) (z : nF5 Hz h) : oK5 Hz (f175 L xs zf D w As h) := by
  unfold f175
  split
  · repeat' (first
    | with_reducible exact n8_175_0 hE _ _ _ _ z
    | (with_reducible refine o5_rd (fun _ => ?_)))
  · exact o5_none
theorem n9_176 (hE : fE8 D) (As : List Value) (h : rm_H) (z : nF5 Hz h) : oK5 Hz (f176 L xs zf D w As h) := by
  unfold f176
  split
  · repeat' (first
    | with_reducible exact n8_176_0 hE _ _ _ z
    | (with_reducible refine o5_rd (fun _ => ?_)))
  · exact o5_none
theorem n9_177 (hE : fE8 D) (As : List Value) (h : rm_H) (z : nF5 Hz h) : oK5 Hz (f177 L xs zf D w As h) := by
  unfold f177
  split
  · repeat' (first
    | with_reducible exact n8_177_0 hE _ _ _ z
    | (with_reducible refine o5_rd (fun _ => ?_)))
  · exact o5_none
theorem n9_178 (hE : fE8 D) (As : List Value) (h : rm_H) (z : nF5 Hz h) : oK5 Hz (f178 L xs zf D w As h) := by
  unfold f178
  split
  · repeat' (first
    | with_reducible exact n8_178_0 hE _ _ _ _ z
    | (with_reducible refine o5_rd (fun _ => ?_)))
  · exact o5_none
theorem n9_179 (hE : fE8 D) (As : List Value) (h : rm_H) (z : nF5 Hz h) : oK5 Hz (f179 L xs zf D w As h) := by
  unfold f179
  split
  · repeat' (first
    | with_reducible exact n8_179_0 hE _ _ _ z
    | (with_reducible refine o5_rd (fun _ => ?_)))
  · exact o5_none
theorem n9_180 (hE : fE8 D) (As : List Value) (h : rm_H) (z : nF5 Hz h) : oK5 Hz (f180 L xs zf D w As h) := by
  unfold f180
  split
  · repeat' (first
    | with_reducible exact n8_180_0 hE _ _ _ z
    | (with_reducible refine o5_rd (fun _ => ?_)))
  · exact o5_none
theorem n9_181 (hE : fE8 D) (As : List Value) (h : rm_H) (z : nF5 Hz h) : oK5 Hz (f181 L xs zf D w As h) := by
  unfold f181
  split
  · repeat' (first
    | with_reducible exact n8_181_0 hE _ _ _ z
    | (with_reducible refine o5_rd (fun _ => ?_)))
  · exact o5_none
theorem n9_182 (hE : fE8 D) (As : List Value) (h : rm_H) (z : nF5 Hz h) : oK5 Hz (f182 L xs zf D w As h) := by
  unfold f182
  split
  · repeat' (first
    | with_reducible exact n8_182_0 hE _ _ _ z
    | (with_reducible refine o5_rd (fun _ => ?_)))
  · exact o5_none
theorem n9_183 (hE : fE8 D) (As : List Value) (h : rm_H) (z : nF5 Hz h) : oK5 Hz (f183 L xs zf D w As h) := by
  unfold f183
  split
  · repeat' (first
    | with_reducible exact n8_183_0 hE _ _ z
    | (with_reducible refine o5_rd (fun _ => ?_)))
  · exact o5_none
theorem n9_184 (hE : fE8 D) (As : List Value) (h : rm_H) (z : nF5 Hz h) : oK5 Hz (f184 L xs zf D w As h) := by
  unfold f184
  split
  · repeat' (first
    | with_reducible exact n8_184_0 hE _ _ _ z
    | (with_reducible refine o5_rd (fun _ => ?_)))
  · exact o5_none
theorem n9_185 (hE : fE8 D) (As : List Value) (h : rm_H) (z : nF5 Hz h) : oK5 Hz (f185 L xs zf D w As h) := by
  unfold f185
  split
  · repeat' (first
    | with_reducible exact n8_185_0 hE _ _ _ z
    | (with_reducible refine o5_rd (fun _ => ?_)))
  · exact o5_none
theorem n9_186 (hE : fE8 D) (As : List Value) (h : rm_H) (z : nF5 Hz h) : oK5 Hz (f186 L xs zf D w As h) := by
  unfold f186
  split
  · repeat' (first
    | with_reducible exact n8_186_0 hE _ _ _ _ _ z
    | (with_reducible refine o5_rd (fun _ => ?_)))
  · exact o5_none
theorem n9_187 (hE : fE8 D) (As : List Value) (h : rm_H) (z : nF5 Hz h) : oK5 Hz (f187 L xs zf D w As h) := by
  unfold f187
  split
  · repeat' (first
    | with_reducible exact n8_187_0 hE _ _ _ _ _ _ z
    | (with_reducible refine o5_rd (fun _ => ?_)))
  · exact o5_none
theorem n9_188 (hE : fE8 D) (As : List Value) (h : rm_H) (z : nF5 Hz h) : oK5 Hz (f188 L xs zf D w As h) := by
  unfold f188
  split
  · repeat' (first
    | with_reducible exact n8_188_0 hE _ _ _ _ _ z
    | (with_reducible refine o5_rd (fun _ => ?_)))
  · exact o5_none
theorem n9_189 (hE : fE8 D) (As : List Value) (h : rm_H) (z : nF5 Hz h) : oK5 Hz (f189 L xs zf D w As h) := by
  unfold f189
  split
  · repeat' (first
    | with_reducible exact n8_189_0 hE _ _ z
    | (with_reducible refine o5_rd (fun _ => ?_)))
  · exact o5_none
theorem n9_190 (hE : fE8 D) (As : List Value) (h : rm_H) (z : nF5 Hz h) : oK5 Hz (f190 L xs zf D w As h) := by
  unfold f190
  split
  · repeat' (first
    | with_reducible exact n8_190_0 hE _ _ _ _ z
    | (with_reducible refine o5_rd (fun _ => ?_)))
  · exact o5_none
theorem n9_191 (hE : fE8 D) (As : List Value) (h : rm_H) (z : nF5 Hz h) : oK5 Hz (f191 L xs zf D w As h) := by
  unfold f191
  split
  · repeat' (first
    | with_reducible exact n8_191_0 hE _ _ _ _ _ _ z
    | (with_reducible refine o5_rd (fun _ => ?_)))
  · exact o5_none
theorem n9_192 (hE : fE8 D) (As : List Value) (h : rm_H) (z : nF5 Hz h) : oK5 Hz (f192 L xs zf D w As h) := by
  unfold f192
  split
  · repeat' (first
    | with_reducible exact n8_192_0 hE _ _ _ _ z
    | (with_reducible refine o5_rd (fun _ => ?_)))
  · exact o5_none
theorem n9_193 (hE : fE8 D) (As : List Value) (h : rm_H) (z : nF5 Hz h) : oK5 Hz (f193 L xs zf D w As h) := by
  unfold f193
  split
  · repeat' (first
    | with_reducible exact n8_193_0 hE _ _ _ _ z
    | (with_reducible refine o5_rd (fun _ => ?_)))
  · exact o5_none
theorem n9_194 (hE : fE8 D) (As : List Value) (h : rm_H) (z : nF5 Hz h) : oK5 Hz (f194 L xs zf D w As h) := by
  unfold f194
  split
  · repeat' (first
    | with_reducible exact n8_194_0 hE _ _ _ z
    | (with_reducible refine o5_rd (fun _ => ?_)))
  · exact o5_none
theorem n9_195 (hE : fE8 D) (As : List Value) (h : rm_H) (z : nF5 Hz h) : oK5 Hz (f195 L xs zf D w As h) := by
  unfold f195
  split
  · repeat' (first
    | with_reducible exact n8_195_0 hE _ _ _ z
    | (with_reducible refine o5_rd (fun _ => ?_)))
  · exact o5_none
theorem n9_196 (hE : fE8 D) (As : List Value) (h : rm_H) (z : nF5 Hz h) : oK5 Hz (f196 L xs zf D w As h) := by
  unfold f196
  split
  · repeat' (first
    | with_reducible exact n8_196_0 hE _ _ _ z
    | (with_reducible refine o5_rd (fun _ => ?_)))
  · exact o5_none
theorem n9_197 (hE : fE8 D) (As : List Value) (h : rm_H) (z : nF5 Hz h) : oK5 Hz (f197 L xs zf D w As h) := by
  unfold f197
  split
  · repeat' (first
    | with_reducible exact n8_197_0 hE _ _ _ _ z
    | (with_reducible refine o5_rd (fun _ => ?_)))
  · exact o5_none
theorem n9_198 (hE : fE8 D) (As : List Value) (h : rm_H) (z : nF5 Hz h) : oK5 Hz (f198 L xs zf D w As h) := by
  unfold f198
  split
  · repeat' (first
    | with_reducible exact n8_198_0 hE _ _ _ z
    | (with_reducible refine o5_rd (fun _ => ?_)))
  · exact o5_none
theorem n9_199 (hE : fE8 D) (As : List Value) (h : rm_H) (z : nF5 Hz h) : oK5 Hz (f199 L xs zf D w As h) := by
  unfold f199
  split
  · repeat' (first
    | with_reducible exact n8_199_0 hE _ _ _ _ z
    | (with_reducible refine o5_rd (fun _ => ?_)))
  · exact o5_none
theorem n9_200 (hE : fE8 D) (As : List Value) (h : rm_H) (z : nF5 Hz h) : oK5 Hz (f200 L xs zf D w As h) := by
  unfold f200
  split
  · repeat' (first
    | with_reducible exact n8_200_0 hE _ _ z
    | (with_reducible refine o5_rd (fun _ => ?_)))
  · exact o5_none
theorem n9_201 (hE : fE8 D) (As : List Value) (h : rm_H) (z : nF5 Hz h) : oK5 Hz (f201 L xs zf D w As h) := by
  unfold f201
  split
  · repeat' (first
    | with_reducible exact n8_201_0 hE _ _ _ z
    | (with_reducible refine o5_rd (fun _ => ?_)))
  · exact o5_none
theorem n9_202 (hE : fE8 D) (As : List Value) (h : rm_H) (z : nF5 Hz h) : oK5 Hz (f202 L xs zf D w As h) := by
  unfold f202
  split
  · repeat' (first
    | with_reducible exact n8_202_0 hE _ _ _ _ z
    | (with_reducible refine o5_rd (fun _ => ?_)))
  · exact o5_none
theorem n9_203 (hE : fE8 D) (As : List Value) (h : rm_H) (z : nF5 Hz h) : oK5 Hz (f203 L xs zf D w As h) := by
  unfold f203
  split
  · repeat' (first
    | with_reducible exact n8_203_0 hE _ _ _ _ z
    | (with_reducible refine o5_rd (fun _ => ?_)))
  · exact o5_none
theorem n9_204 (hE : fE8 D) (As : List Value) (h : rm_H) (z : nF5 Hz h) : oK5 Hz (f204 L xs zf D w As h) := by
  unfold f204
  split
  · repeat' (first
    | with_reducible exact n8_204_0 hE _ _ _ _ z
    | (with_reducible refine o5_rd (fun _ => ?_)))
  · exact o5_none
theorem n9_205 (hE : fE8 D) (As : List Value) (h : rm_H) (z : nF5 Hz h) : oK5 Hz (f205 L xs zf D w As h) := by
  unfold f205
  split
  · repeat' (first
    | with_reducible exact n8_205_0 hE _ _ _ _ z
    | (with_reducible refine o5_rd (fun _ => ?_)))
  · exact o5_none
theorem n9_206 (hE : fE8 D) (As : List Value) (h : rm_H) (z : nF5 Hz h) : oK5 Hz (f206 L xs zf D w As h) := by
  unfold f206
  split
  · repeat' (first
    | with_reducible exact n8_206_0 hE _ _ z
    | (with_reducible refine o5_rd (fun _ => ?_)))
  · exact o5_none
theorem n9_207 (hE : fE8 D) (As : List Value) (h : rm_H) (z : nF5 Hz h) : oK5 Hz (f207 L xs zf D w As h) := by
  unfold f207
  split
  · repeat' (first
    | with_reducible exact n8_207_0 hE _ _ _ _ z
    | (with_reducible refine o5_rd (fun _ => ?_)))
  · exact o5_none
theorem n9_208 (hE : fE8 D) (As : List Value) (h : rm_H) (z : nF5 Hz h) : oK5 Hz (f208 L xs zf D w As h) := by
  unfold f208
  split
  · repeat' (first
    | with_reducible exact n8_208_0 hE _ _ _ _ z
    | (with_reducible refine o5_rd (fun _ => ?_)))
  · exact o5_none
theorem n9_209 (hE : fE8 D) (As : List Value) (h : rm_H) (z : nF5 Hz h) : oK5 Hz (f209 L xs zf D w As h) := by
  unfold f209
  split
  · repeat' (first
    | with_reducible exact n8_209_0 hE _ _ _ _ z
    | (with_reducible refine o5_rd (fun _ => ?_)))
  · exact o5_none
theorem n9_210 (hE : fE8 D) (As : List Value) (h : rm_H) (z : nF5 Hz h) : oK5 Hz (f210 L xs zf D w As h) := by
  unfold f210
  split
  · repeat' (first
    | with_reducible exact n8_210_0 hE _ _ _ z
    | (with_reducible refine o5_rd (fun _ => ?_)))
  · exact o5_none
theorem n9_211 (hE : fE8 D) (As : List Value) (h : rm_H) (z : nF5 Hz h) : oK5 Hz (f211 L xs zf D w As h) := by
  unfold f211
  split
  · repeat' (first
    | with_reducible exact n8_211_0 hE _ _ _ z
    | (with_reducible refine o5_rd (fun _ => ?_)))
  · exact o5_none
theorem n9_212 (hE : fE8 D) (As : List Value) (h : rm_H) (z : nF5 Hz h) : oK5 Hz (f212 L xs zf D w As h) := by
  unfold f212
  split
  · repeat' (first
    | with_reducible exact n8_212_0 hE _ _ _ z
    | (with_reducible refine o5_rd (fun _ => ?_)))
  · exact o5_none
theorem n9_213 (hE : fE8 D) (As : List Value) (h : rm_H) (z : nF5 Hz h) : oK5 Hz (f213 L xs zf D w As h) := by
  unfold f213
  split
  · repeat' (first
    | with_reducible exact n8_213_0 hE _ _ _ z
    | (with_reducible refine o5_rd (fun _ => ?_)))
  · exact o5_none
theorem n9_214 (hE : fE8 D) (As : List Value) (h : rm_H) (z : nF5 Hz h) : oK5 Hz (f214 L xs zf D w As h) := by
  unfold f214
  split
  · repeat' (first
    | with_reducible exact n8_214_0 hE _ _ z
    | (with_reducible refine o5_rd (fun _ => ?_)))
  · exact o5_none
theorem n9_215 (hE : fE8 D) (As : List Value) (h : rm_H) (z : nF5 Hz h) : oK5 Hz (f215 L xs zf D w As h) := by
  unfold f215
  split
  · repeat' (first
    | with_reducible exact n8_215_0 hE _ _ _ _ z
    | (with_reducible refine o5_rd (fun _ => ?_)))
  · exact o5_none
theorem n9_216 (hE : fE8 D) (As : List Value) (h : rm_H) (z : nF5 Hz h) : oK5 Hz (f216 L xs zf D w As h) := by
  unfold f216
  split
  · repeat' (first
    | with_reducible exact n8_216_0 hE _ _ z
    | (with_reducible refine o5_rd (fun _ => ?_)))
  · exact o5_none
theorem n9_217 (hE : fE8 D) (As : List Value) (h : rm_H) (z : nF5 Hz h) : oK5 Hz (f217 L xs zf D w As h) := by
  unfold f217
  split
  · repeat' (first
    | with_reducible exact n8_217_0 hE _ _ z
    | (with_reducible refine o5_rd (fun _ => ?_)))
  · exact o5_none
end N8B
