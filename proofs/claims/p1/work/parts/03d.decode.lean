/-! THIS CLAIM'S TABLES: the rows are what the bytes decode to. -/
theorem ad_171_0 : rm_dec prog_3_method_17_code ah_r171_0 = true := by decide +kernel
theorem ad_171_1 : rm_dec prog_3_method_17_code ah_r171_1 = true := by decide +kernel
theorem ad_171 : rm_dec ah_M171.2.1 ah_M171.2.2.2.2 = true := rm_dec_app ad_171_0 (ad_171_1)
theorem ad_172_0 : rm_dec prog_3_method_19_code ah_r172_0 = true := by decide +kernel
theorem ad_172_1 : rm_dec prog_3_method_19_code ah_r172_1 = true := by decide +kernel
theorem ad_172 : rm_dec ah_M172.2.1 ah_M172.2.2.2.2 = true := rm_dec_app ad_172_0 (ad_172_1)
theorem ad_173_0 : rm_dec prog_3_method_20_code ah_r173_0 = true := by decide +kernel
theorem ad_173 : rm_dec ah_M173.2.1 ah_M173.2.2.2.2 = true := ad_173_0
theorem ad_174_0 : rm_dec prog_3_method_22_code ah_r174_0 = true := by decide +kernel
theorem ad_174_1 : rm_dec prog_3_method_22_code ah_r174_1 = true := by decide +kernel
theorem ad_174 : rm_dec ah_M174.2.1 ah_M174.2.2.2.2 = true := rm_dec_app ad_174_0 (ad_174_1)
theorem ad_175_0 : rm_dec prog_10_method_13_code ah_r175_0 = true := by decide +kernel
theorem ad_175_1 : rm_dec prog_10_method_13_code ah_r175_1 = true := by decide +kernel
theorem ad_175 : rm_dec ah_M175.2.1 ah_M175.2.2.2.2 = true := rm_dec_app ad_175_0 (ad_175_1)
theorem ad_176_0 : rm_dec prog_29_method_123_code ah_r176_0 = true := by decide +kernel
theorem ad_176 : rm_dec ah_M176.2.1 ah_M176.2.2.2.2 = true := ad_176_0
theorem ad_177_0 : rm_dec prog_3_method_23_code ah_r177_0 = true := by decide +kernel
theorem ad_177_1 : rm_dec prog_3_method_23_code ah_r177_1 = true := by decide +kernel
theorem ad_177 : rm_dec ah_M177.2.1 ah_M177.2.2.2.2 = true := rm_dec_app ad_177_0 (ad_177_1)
theorem ad_178_0 : rm_dec prog_3_method_4_code ah_r178_0 = true := by decide +kernel
theorem ad_178 : rm_dec ah_M178.2.1 ah_M178.2.2.2.2 = true := ad_178_0
theorem ad_179_0 : rm_dec prog_3_method_24_code ah_r179_0 = true := by decide +kernel
theorem ad_179 : rm_dec ah_M179.2.1 ah_M179.2.2.2.2 = true := ad_179_0
theorem ad_180_0 : rm_dec prog_3_method_26_code ah_r180_0 = true := by decide +kernel
theorem ad_180 : rm_dec ah_M180.2.1 ah_M180.2.2.2.2 = true := ad_180_0
theorem ad_181_0 : rm_dec prog_3_method_6_code ah_r181_0 = true := by decide +kernel
theorem ad_181 : rm_dec ah_M181.2.1 ah_M181.2.2.2.2 = true := ad_181_0
theorem ad_182_0 : rm_dec prog_3_method_7_code ah_r182_0 = true := by decide +kernel
theorem ad_182 : rm_dec ah_M182.2.1 ah_M182.2.2.2.2 = true := ad_182_0
theorem ad_183_0 : rm_dec prog_3_method_27_code ah_r183_0 = true := by decide +kernel
theorem ad_183 : rm_dec ah_M183.2.1 ah_M183.2.2.2.2 = true := ad_183_0
theorem ad_184_0 : rm_dec prog_3_method_25_code ah_r184_0 = true := by decide +kernel
theorem ad_184_1 : rm_dec prog_3_method_25_code ah_r184_1 = true := by decide +kernel
theorem ad_184 : rm_dec ah_M184.2.1 ah_M184.2.2.2.2 = true := rm_dec_app ad_184_0 (ad_184_1)
theorem ad_185_0 : rm_dec prog_3_method_28_code ah_r185_0 = true := by decide +kernel
theorem ad_185 : rm_dec ah_M185.2.1 ah_M185.2.2.2.2 = true := ad_185_0
theorem ad_186_0 : rm_dec prog_3_method_41_code ah_r186_0 = true := by decide +kernel
theorem ad_186 : rm_dec ah_M186.2.1 ah_M186.2.2.2.2 = true := ad_186_0
theorem ad_187_0 : rm_dec prog_3_method_42_code ah_r187_0 = true := by decide +kernel
theorem ad_187_1 : rm_dec prog_3_method_42_code ah_r187_1 = true := by decide +kernel
theorem ad_187 : rm_dec ah_M187.2.1 ah_M187.2.2.2.2 = true := rm_dec_app ad_187_0 (ad_187_1)
theorem ad_188_0 : rm_dec prog_3_method_18_code ah_r188_0 = true := by decide +kernel
theorem ad_188_1 : rm_dec prog_3_method_18_code ah_r188_1 = true := by decide +kernel
theorem ad_188 : rm_dec ah_M188.2.1 ah_M188.2.2.2.2 = true := rm_dec_app ad_188_0 (ad_188_1)
theorem ad_189_0 : rm_dec prog_1_method_20_code ah_r189_0 = true := by decide +kernel
theorem ad_189 : rm_dec ah_M189.2.1 ah_M189.2.2.2.2 = true := ad_189_0
theorem ad_190_0 : rm_dec prog_1_method_17_code ah_r190_0 = true := by decide +kernel
theorem ad_190 : rm_dec ah_M190.2.1 ah_M190.2.2.2.2 = true := ad_190_0
theorem ad_191_0 : rm_dec prog_3_method_43_code ah_r191_0 = true := by decide +kernel
theorem ad_191_1 : rm_dec prog_3_method_43_code ah_r191_1 = true := by decide +kernel
theorem ad_191_2 : rm_dec prog_3_method_43_code ah_r191_2 = true := by decide +kernel
theorem ad_191 : rm_dec ah_M191.2.1 ah_M191.2.2.2.2 = true := rm_dec_app ad_191_0 (rm_dec_app ad_191_1 (ad_191_2))
theorem ad_192_0 : rm_dec prog_3_method_32_code ah_r192_0 = true := by decide +kernel
theorem ad_192 : rm_dec ah_M192.2.1 ah_M192.2.2.2.2 = true := ad_192_0
theorem ad_193_0 : rm_dec prog_3_method_33_code ah_r193_0 = true := by decide +kernel
theorem ad_193 : rm_dec ah_M193.2.1 ah_M193.2.2.2.2 = true := ad_193_0
theorem ad_194_0 : rm_dec prog_10_method_5_code ah_r194_0 = true := by decide +kernel
theorem ad_194 : rm_dec ah_M194.2.1 ah_M194.2.2.2.2 = true := ad_194_0
theorem ad_195_0 : rm_dec prog_5_method_2_code ah_r195_0 = true := by decide +kernel
theorem ad_195 : rm_dec ah_M195.2.1 ah_M195.2.2.2.2 = true := ad_195_0
theorem ad_196_0 : rm_dec prog_3_method_34_code ah_r196_0 = true := by decide +kernel
theorem ad_196 : rm_dec ah_M196.2.1 ah_M196.2.2.2.2 = true := ad_196_0
theorem ad_197_0 : rm_dec prog_1_method_23_code ah_r197_0 = true := by decide +kernel
theorem ad_197 : rm_dec ah_M197.2.1 ah_M197.2.2.2.2 = true := ad_197_0
theorem ad_198_0 : rm_dec prog_3_method_39_code ah_r198_0 = true := by decide +kernel
theorem ad_198_1 : rm_dec prog_3_method_39_code ah_r198_1 = true := by decide +kernel
theorem ad_198 : rm_dec ah_M198.2.1 ah_M198.2.2.2.2 = true := rm_dec_app ad_198_0 (ad_198_1)
theorem ad_199_0 : rm_dec prog_3_method_37_code ah_r199_0 = true := by decide +kernel
theorem ad_199 : rm_dec ah_M199.2.1 ah_M199.2.2.2.2 = true := ad_199_0
theorem ad_200_0 : rm_dec prog_3_method_40_code ah_r200_0 = true := by decide +kernel
theorem ad_200 : rm_dec ah_M200.2.1 ah_M200.2.2.2.2 = true := ad_200_0
theorem ad_201_0 : rm_dec prog_3_method_30_code ah_r201_0 = true := by decide +kernel
theorem ad_201_1 : rm_dec prog_3_method_30_code ah_r201_1 = true := by decide +kernel
theorem ad_201 : rm_dec ah_M201.2.1 ah_M201.2.2.2.2 = true := rm_dec_app ad_201_0 (ad_201_1)
theorem ad_202_0 : rm_dec prog_3_method_21_code ah_r202_0 = true := by decide +kernel
theorem ad_202 : rm_dec ah_M202.2.1 ah_M202.2.2.2.2 = true := ad_202_0
theorem ad_203_0 : rm_dec prog_3_method_31_code ah_r203_0 = true := by decide +kernel
theorem ad_203 : rm_dec ah_M203.2.1 ah_M203.2.2.2.2 = true := ad_203_0
theorem ad_204_0 : rm_dec prog_3_method_35_code ah_r204_0 = true := by decide +kernel
theorem ad_204_1 : rm_dec prog_3_method_35_code ah_r204_1 = true := by decide +kernel
theorem ad_204 : rm_dec ah_M204.2.1 ah_M204.2.2.2.2 = true := rm_dec_app ad_204_0 (ad_204_1)
theorem ad_205_0 : rm_dec prog_3_method_36_code ah_r205_0 = true := by decide +kernel
theorem ad_205_1 : rm_dec prog_3_method_36_code ah_r205_1 = true := by decide +kernel
theorem ad_205 : rm_dec ah_M205.2.1 ah_M205.2.2.2.2 = true := rm_dec_app ad_205_0 (ad_205_1)
theorem ad_206_0 : rm_dec prog_7_method_5_code ah_r206_0 = true := by decide +kernel
theorem ad_206 : rm_dec ah_M206.2.1 ah_M206.2.2.2.2 = true := ad_206_0
theorem ad_207_0 : rm_dec prog_3_method_38_code ah_r207_0 = true := by decide +kernel
theorem ad_207_1 : rm_dec prog_3_method_38_code ah_r207_1 = true := by decide +kernel
theorem ad_207 : rm_dec ah_M207.2.1 ah_M207.2.2.2.2 = true := rm_dec_app ad_207_0 (ad_207_1)
theorem ad_208_0 : rm_dec prog_3_method_29_code ah_r208_0 = true := by decide +kernel
theorem ad_208 : rm_dec ah_M208.2.1 ah_M208.2.2.2.2 = true := ad_208_0
theorem ad_209_0 : rm_dec prog_3_method_16_code ah_r209_0 = true := by decide +kernel
theorem ad_209 : rm_dec ah_M209.2.1 ah_M209.2.2.2.2 = true := ad_209_0
theorem ad_210_0 : rm_dec prog_3_method_12_code ah_r210_0 = true := by decide +kernel
theorem ad_210_1 : rm_dec prog_3_method_12_code ah_r210_1 = true := by decide +kernel
theorem ad_210 : rm_dec ah_M210.2.1 ah_M210.2.2.2.2 = true := rm_dec_app ad_210_0 (ad_210_1)
theorem ad_211_0 : rm_dec prog_3_method_15_code ah_r211_0 = true := by decide +kernel
theorem ad_211 : rm_dec ah_M211.2.1 ah_M211.2.2.2.2 = true := ad_211_0
theorem ad_212_0 : rm_dec prog_10_method_14_code ah_r212_0 = true := by decide +kernel
theorem ad_212 : rm_dec ah_M212.2.1 ah_M212.2.2.2.2 = true := ad_212_0
theorem ad_213_0 : rm_dec prog_3_method_13_code ah_r213_0 = true := by decide +kernel
theorem ad_213_1 : rm_dec prog_3_method_13_code ah_r213_1 = true := by decide +kernel
theorem ad_213 : rm_dec ah_M213.2.1 ah_M213.2.2.2.2 = true := rm_dec_app ad_213_0 (ad_213_1)
theorem ad_214_0 : rm_dec prog_3_method_14_code ah_r214_0 = true := by decide +kernel
theorem ad_214 : rm_dec ah_M214.2.1 ah_M214.2.2.2.2 = true := ad_214_0
theorem ad_215_0 : rm_dec prog_3_method_10_code ah_r215_0 = true := by decide +kernel
theorem ad_215_1 : rm_dec prog_3_method_10_code ah_r215_1 = true := by decide +kernel
theorem ad_215 : rm_dec ah_M215.2.1 ah_M215.2.2.2.2 = true := rm_dec_app ad_215_0 (ad_215_1)
