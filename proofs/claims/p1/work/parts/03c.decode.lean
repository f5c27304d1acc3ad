/-! THIS CLAIM'S TABLES: the rows are what the bytes decode to. -/
theorem ad_124_0 : rm_dec prog_9_method_17_code ah_r124_0 = true := by decide +kernel
theorem ad_124_1 : rm_dec prog_9_method_17_code ah_r124_1 = true := by decide +kernel
theorem ad_124_2 : rm_dec prog_9_method_17_code ah_r124_2 = true := by decide +kernel
theorem ad_124 : rm_dec ah_M124.2.1 ah_M124.2.2.2.2 = true := rm_dec_app ad_124_0 (rm_dec_app ad_124_1 (ad_124_2))
theorem ad_125_0 : rm_dec prog_9_method_20_code ah_r125_0 = true := by decide +kernel
theorem ad_125_1 : rm_dec prog_9_method_20_code ah_r125_1 = true := by decide +kernel
theorem ad_125 : rm_dec ah_M125.2.1 ah_M125.2.2.2.2 = true := rm_dec_app ad_125_0 (ad_125_1)
theorem ad_126_0 : rm_dec prog_9_method_21_code ah_r126_0 = true := by decide +kernel
theorem ad_126 : rm_dec ah_M126.2.1 ah_M126.2.2.2.2 = true := ad_126_0
theorem ad_127_0 : rm_dec prog_11_method_8_code ah_r127_0 = true := by decide +kernel
theorem ad_127 : rm_dec ah_M127.2.1 ah_M127.2.2.2.2 = true := ad_127_0
theorem ad_128_0 : rm_dec prog_9_method_22_code ah_r128_0 = true := by decide +kernel
theorem ad_128 : rm_dec ah_M128.2.1 ah_M128.2.2.2.2 = true := ad_128_0
theorem ad_129_0 : rm_dec prog_9_method_23_code ah_r129_0 = true := by decide +kernel
theorem ad_129 : rm_dec ah_M129.2.1 ah_M129.2.2.2.2 = true := ad_129_0
theorem ad_130_0 : rm_dec prog_9_method_24_code ah_r130_0 = true := by decide +kernel
theorem ad_130 : rm_dec ah_M130.2.1 ah_M130.2.2.2.2 = true := ad_130_0
theorem ad_131_0 : rm_dec prog_9_method_25_code ah_r131_0 = true := by decide +kernel
theorem ad_131 : rm_dec ah_M131.2.1 ah_M131.2.2.2.2 = true := ad_131_0
theorem ad_132_0 : rm_dec prog_9_method_26_code ah_r132_0 = true := by decide +kernel
theorem ad_132 : rm_dec ah_M132.2.1 ah_M132.2.2.2.2 = true := ad_132_0
theorem ad_133_0 : rm_dec prog_9_method_27_code ah_r133_0 = true := by decide +kernel
theorem ad_133 : rm_dec ah_M133.2.1 ah_M133.2.2.2.2 = true := ad_133_0
theorem ad_134_0 : rm_dec prog_9_method_19_code ah_r134_0 = true := by decide +kernel
theorem ad_134_1 : rm_dec prog_9_method_19_code ah_r134_1 = true := by decide +kernel
theorem ad_134 : rm_dec ah_M134.2.1 ah_M134.2.2.2.2 = true := rm_dec_app ad_134_0 (ad_134_1)
theorem ad_135_0 : rm_dec prog_7_method_2_code ah_r135_0 = true := by decide +kernel
theorem ad_135 : rm_dec ah_M135.2.1 ah_M135.2.2.2.2 = true := ad_135_0
theorem ad_136_0 : rm_dec prog_9_method_28_code ah_r136_0 = true := by decide +kernel
theorem ad_136 : rm_dec ah_M136.2.1 ah_M136.2.2.2.2 = true := ad_136_0
theorem ad_137_0 : rm_dec prog_9_method_18_code ah_r137_0 = true := by decide +kernel
theorem ad_137 : rm_dec ah_M137.2.1 ah_M137.2.2.2.2 = true := ad_137_0
theorem ad_138_0 : rm_dec prog_11_method_6_code ah_r138_0 = true := by decide +kernel
theorem ad_138 : rm_dec ah_M138.2.1 ah_M138.2.2.2.2 = true := ad_138_0
theorem ad_139_0 : rm_dec prog_9_method_13_code ah_r139_0 = true := by decide +kernel
theorem ad_139_1 : rm_dec prog_9_method_13_code ah_r139_1 = true := by decide +kernel
theorem ad_139 : rm_dec ah_M139.2.1 ah_M139.2.2.2.2 = true := rm_dec_app ad_139_0 (ad_139_1)
theorem ad_140_0 : rm_dec prog_9_method_14_code ah_r140_0 = true := by decide +kernel
theorem ad_140 : rm_dec ah_M140.2.1 ah_M140.2.2.2.2 = true := ad_140_0
theorem ad_141_0 : rm_dec prog_9_method_15_code ah_r141_0 = true := by decide +kernel
theorem ad_141_1 : rm_dec prog_9_method_15_code ah_r141_1 = true := by decide +kernel
theorem ad_141 : rm_dec ah_M141.2.1 ah_M141.2.2.2.2 = true := rm_dec_app ad_141_0 (ad_141_1)
theorem ad_142_0 : rm_dec prog_9_method_6_code ah_r142_0 = true := by decide +kernel
theorem ad_142_1 : rm_dec prog_9_method_6_code ah_r142_1 = true := by decide +kernel
theorem ad_142_2 : rm_dec prog_9_method_6_code ah_r142_2 = true := by decide +kernel
theorem ad_142 : rm_dec ah_M142.2.1 ah_M142.2.2.2.2 = true := rm_dec_app ad_142_0 (rm_dec_app ad_142_1 (ad_142_2))
theorem ad_143_0 : rm_dec prog_9_method_32_code ah_r143_0 = true := by decide +kernel
theorem ad_143 : rm_dec ah_M143.2.1 ah_M143.2.2.2.2 = true := ad_143_0
theorem ad_144_0 : rm_dec prog_10_method_2_code ah_r144_0 = true := by decide +kernel
theorem ad_144 : rm_dec ah_M144.2.1 ah_M144.2.2.2.2 = true := ad_144_0
theorem ad_145_0 : rm_dec prog_10_method_7_code ah_r145_0 = true := by decide +kernel
theorem ad_145_1 : rm_dec prog_10_method_7_code ah_r145_1 = true := by decide +kernel
theorem ad_145_2 : rm_dec prog_10_method_7_code ah_r145_2 = true := by decide +kernel
theorem ad_145 : rm_dec ah_M145.2.1 ah_M145.2.2.2.2 = true := rm_dec_app ad_145_0 (rm_dec_app ad_145_1 (ad_145_2))
theorem ad_146_0 : rm_dec prog_28_method_20_code ah_r146_0 = true := by decide +kernel
theorem ad_146 : rm_dec ah_M146.2.1 ah_M146.2.2.2.2 = true := ad_146_0
theorem ad_147_0 : rm_dec prog_32_method_17_code ah_r147_0 = true := by decide +kernel
theorem ad_147 : rm_dec ah_M147.2.1 ah_M147.2.2.2.2 = true := ad_147_0
theorem ad_148_0 : rm_dec prog_28_method_18_code ah_r148_0 = true := by decide +kernel
theorem ad_148 : rm_dec ah_M148.2.1 ah_M148.2.2.2.2 = true := ad_148_0
theorem ad_149_0 : rm_dec prog_10_method_9_code ah_r149_0 = true := by decide +kernel
theorem ad_149_1 : rm_dec prog_10_method_9_code ah_r149_1 = true := by decide +kernel
theorem ad_149 : rm_dec ah_M149.2.1 ah_M149.2.2.2.2 = true := rm_dec_app ad_149_0 (ad_149_1)
theorem ad_150_0 : rm_dec prog_10_method_8_code ah_r150_0 = true := by decide +kernel
theorem ad_150 : rm_dec ah_M150.2.1 ah_M150.2.2.2.2 = true := ad_150_0
theorem ad_151_0 : rm_dec prog_21_method_66_code ah_r151_0 = true := by decide +kernel
theorem ad_151 : rm_dec ah_M151.2.1 ah_M151.2.2.2.2 = true := ad_151_0
theorem ad_152_0 : rm_dec prog_23_method_13_code ah_r152_0 = true := by decide +kernel
theorem ad_152 : rm_dec ah_M152.2.1 ah_M152.2.2.2.2 = true := ad_152_0
theorem ad_153_0 : rm_dec prog_1_method_18_code ah_r153_0 = true := by decide +kernel
theorem ad_153 : rm_dec ah_M153.2.1 ah_M153.2.2.2.2 = true := ad_153_0
theorem ad_154_0 : rm_dec prog_10_method_10_code ah_r154_0 = true := by decide +kernel
theorem ad_154 : rm_dec ah_M154.2.1 ah_M154.2.2.2.2 = true := ad_154_0
theorem ad_155_0 : rm_dec prog_10_method_11_code ah_r155_0 = true := by decide +kernel
theorem ad_155 : rm_dec ah_M155.2.1 ah_M155.2.2.2.2 = true := ad_155_0
theorem ad_156_0 : rm_dec prog_5_method_3_code ah_r156_0 = true := by decide +kernel
theorem ad_156 : rm_dec ah_M156.2.1 ah_M156.2.2.2.2 = true := ad_156_0
theorem ad_157_0 : rm_dec prog_10_method_12_code ah_r157_0 = true := by decide +kernel
theorem ad_157_1 : rm_dec prog_10_method_12_code ah_r157_1 = true := by decide +kernel
theorem ad_157 : rm_dec ah_M157.2.1 ah_M157.2.2.2.2 = true := rm_dec_app ad_157_0 (ad_157_1)
theorem ad_158_0 : rm_dec prog_1_method_22_code ah_r158_0 = true := by decide +kernel
theorem ad_158 : rm_dec ah_M158.2.1 ah_M158.2.2.2.2 = true := ad_158_0
theorem ad_159_0 : rm_dec prog_1_method_19_code ah_r159_0 = true := by decide +kernel
theorem ad_159 : rm_dec ah_M159.2.1 ah_M159.2.2.2.2 = true := ad_159_0
theorem ad_160_0 : rm_dec prog_1_method_21_code ah_r160_0 = true := by decide +kernel
theorem ad_160 : rm_dec ah_M160.2.1 ah_M160.2.2.2.2 = true := ad_160_0
theorem ad_161_0 : rm_dec prog_28_method_9_code ah_r161_0 = true := by decide +kernel
theorem ad_161 : rm_dec ah_M161.2.1 ah_M161.2.2.2.2 = true := ad_161_0
theorem ad_162_0 : rm_dec prog_3_method_1_code ah_r162_0 = true := by decide +kernel
theorem ad_162 : rm_dec ah_M162.2.1 ah_M162.2.2.2.2 = true := ad_162_0
theorem ad_163_0 : rm_dec prog_3_method_2_code ah_r163_0 = true := by decide +kernel
theorem ad_163 : rm_dec ah_M163.2.1 ah_M163.2.2.2.2 = true := ad_163_0
theorem ad_164_0 : rm_dec prog_3_method_3_code ah_r164_0 = true := by decide +kernel
theorem ad_164_1 : rm_dec prog_3_method_3_code ah_r164_1 = true := by decide +kernel
theorem ad_164 : rm_dec ah_M164.2.1 ah_M164.2.2.2.2 = true := rm_dec_app ad_164_0 (ad_164_1)
theorem ad_165_0 : rm_dec prog_3_method_5_code ah_r165_0 = true := by decide +kernel
theorem ad_165 : rm_dec ah_M165.2.1 ah_M165.2.2.2.2 = true := ad_165_0
theorem ad_166_0 : rm_dec prog_3_method_8_code ah_r166_0 = true := by decide +kernel
theorem ad_166_1 : rm_dec prog_3_method_8_code ah_r166_1 = true := by decide +kernel
theorem ad_166 : rm_dec ah_M166.2.1 ah_M166.2.2.2.2 = true := rm_dec_app ad_166_0 (ad_166_1)
theorem ad_167_0 : rm_dec prog_7_method_3_code ah_r167_0 = true := by decide +kernel
theorem ad_167 : rm_dec ah_M167.2.1 ah_M167.2.2.2.2 = true := ad_167_0
theorem ad_168_0 : rm_dec prog_7_method_4_code ah_r168_0 = true := by decide +kernel
theorem ad_168 : rm_dec ah_M168.2.1 ah_M168.2.2.2.2 = true := ad_168_0
theorem ad_169_0 : rm_dec prog_3_method_9_code ah_r169_0 = true := by decide +kernel
theorem ad_169_1 : rm_dec prog_3_method_9_code ah_r169_1 = true := by decide +kernel
theorem ad_169 : rm_dec ah_M169.2.1 ah_M169.2.2.2.2 = true := rm_dec_app ad_169_0 (ad_169_1)
theorem ad_170_0 : rm_dec prog_3_method_11_code ah_r170_0 = true := by decide +kernel
theorem ad_170 : rm_dec ah_M170.2.1 ah_M170.2.2.2.2 = true := ad_170_0
