/-! THIS CLAIM'S TABLES: the rows are what the bytes decode to. -/
theorem ad_0_0 : rm_dec code ah_r0_0 = true := by decide +kernel
theorem ad_0_1 : rm_dec code ah_r0_1 = true := by decide +kernel
theorem ad_0_2 : rm_dec code ah_r0_2 = true := by decide +kernel
theorem ad_0_3 : rm_dec code ah_r0_3 = true := by decide +kernel
theorem ad_0_4 : rm_dec code ah_r0_4 = true := by decide +kernel
theorem ad_0_5 : rm_dec code ah_r0_5 = true := by decide +kernel
theorem ad_0_6 : rm_dec code ah_r0_6 = true := by decide +kernel
theorem ad_0_7 : rm_dec code ah_r0_7 = true := by decide +kernel
theorem ad_0_8 : rm_dec code ah_r0_8 = true := by decide +kernel
theorem ad_0_9 : rm_dec code ah_r0_9 = true := by decide +kernel
theorem ad_0 : rm_dec ah_M0.2.1 ah_M0.2.2.2.2 = true := rm_dec_app ad_0_0 (rm_dec_app ad_0_1 (rm_dec_app ad_0_2 (rm_dec_app ad_0_3 (rm_dec_app ad_0_4 (rm_dec_app ad_0_5 (rm_dec_app ad_0_6 (rm_dec_app ad_0_7 (rm_dec_app ad_0_8 (ad_0_9)))))))))
theorem ad_1_0 : rm_dec prog_1_method_1_code ah_r1_0 = true := by decide +kernel
theorem ad_1 : rm_dec ah_M1.2.1 ah_M1.2.2.2.2 = true := ad_1_0
theorem ad_2_0 : rm_dec object_method_1_code ah_r2_0 = true := by decide +kernel
theorem ad_2 : rm_dec ah_M2.2.1 ah_M2.2.2.2.2 = true := ad_2_0
theorem ad_3_0 : rm_dec prog_22_method_1_code ah_r3_0 = true := by decide +kernel
theorem ad_3 : rm_dec ah_M3.2.1 ah_M3.2.2.2.2 = true := ad_3_0
theorem ad_4_0 : rm_dec prog_16_method_2_code ah_r4_0 = true := by decide +kernel
theorem ad_4 : rm_dec ah_M4.2.1 ah_M4.2.2.2.2 = true := ad_4_0
theorem ad_5_0 : rm_dec prog_24_method_2_code ah_r5_0 = true := by decide +kernel
theorem ad_5 : rm_dec ah_M5.2.1 ah_M5.2.2.2.2 = true := ad_5_0
theorem ad_6_0 : rm_dec prog_24_method_3_code ah_r6_0 = true := by decide +kernel
theorem ad_6 : rm_dec ah_M6.2.1 ah_M6.2.2.2.2 = true := ad_6_0
theorem ad_7_0 : rm_dec prog_12_method_1_code ah_r7_0 = true := by decide +kernel
theorem ad_7 : rm_dec ah_M7.2.1 ah_M7.2.2.2.2 = true := ad_7_0
theorem ad_8_0 : rm_dec prog_8_method_1_code ah_r8_0 = true := by decide +kernel
theorem ad_8 : rm_dec ah_M8.2.1 ah_M8.2.2.2.2 = true := ad_8_0
theorem ad_9_0 : rm_dec prog_1_method_2_code ah_r9_0 = true := by decide +kernel
theorem ad_9 : rm_dec ah_M9.2.1 ah_M9.2.2.2.2 = true := ad_9_0
theorem ad_10_0 : rm_dec prog_22_method_93_code ah_r10_0 = true := by decide +kernel
theorem ad_10 : rm_dec ah_M10.2.1 ah_M10.2.2.2.2 = true := ad_10_0
theorem ad_11_0 : rm_dec prog_16_method_6_code ah_r11_0 = true := by decide +kernel
theorem ad_11 : rm_dec ah_M11.2.1 ah_M11.2.2.2.2 = true := ad_11_0
theorem ad_12_0 : rm_dec prog_1_method_16_code ah_r12_0 = true := by decide +kernel
theorem ad_12 : rm_dec ah_M12.2.1 ah_M12.2.2.2.2 = true := ad_12_0
theorem ad_13_0 : rm_dec prog_22_method_14_code ah_r13_0 = true := by decide +kernel
theorem ad_13 : rm_dec ah_M13.2.1 ah_M13.2.2.2.2 = true := ad_13_0
theorem ad_14_0 : rm_dec prog_16_method_31_code ah_r14_0 = true := by decide +kernel
theorem ad_14_1 : rm_dec prog_16_method_31_code ah_r14_1 = true := by decide +kernel
theorem ad_14 : rm_dec ah_M14.2.1 ah_M14.2.2.2.2 = true := rm_dec_app ad_14_0 (ad_14_1)
theorem ad_15_0 : rm_dec prog_16_method_9_code ah_r15_0 = true := by decide +kernel
theorem ad_15 : rm_dec ah_M15.2.1 ah_M15.2.2.2.2 = true := ad_15_0
theorem ad_16_0 : rm_dec prog_16_method_10_code ah_r16_0 = true := by decide +kernel
theorem ad_16 : rm_dec ah_M16.2.1 ah_M16.2.2.2.2 = true := ad_16_0
theorem ad_17_0 : rm_dec prog_35_method_27_code ah_r17_0 = true := by decide +kernel
theorem ad_17 : rm_dec ah_M17.2.1 ah_M17.2.2.2.2 = true := ad_17_0
theorem ad_18_0 : rm_dec prog_20_method_65_code ah_r18_0 = true := by decide +kernel
theorem ad_18 : rm_dec ah_M18.2.1 ah_M18.2.2.2.2 = true := ad_18_0
theorem ad_19_0 : rm_dec prog_35_method_28_code ah_r19_0 = true := by decide +kernel
theorem ad_19 : rm_dec ah_M19.2.1 ah_M19.2.2.2.2 = true := ad_19_0
theorem ad_20_0 : rm_dec prog_29_method_121_code ah_r20_0 = true := by decide +kernel
theorem ad_20 : rm_dec ah_M20.2.1 ah_M20.2.2.2.2 = true := ad_20_0
theorem ad_21_0 : rm_dec prog_20_method_69_code ah_r21_0 = true := by decide +kernel
theorem ad_21 : rm_dec ah_M21.2.1 ah_M21.2.2.2.2 = true := ad_21_0
theorem ad_22_0 : rm_dec prog_16_method_68_code ah_r22_0 = true := by decide +kernel
theorem ad_22 : rm_dec ah_M22.2.1 ah_M22.2.2.2.2 = true := ad_22_0
theorem ad_23_0 : rm_dec prog_23_method_3_code ah_r23_0 = true := by decide +kernel
theorem ad_23 : rm_dec ah_M23.2.1 ah_M23.2.2.2.2 = true := ad_23_0
theorem ad_24_0 : rm_dec prog_16_method_11_code ah_r24_0 = true := by decide +kernel
theorem ad_24 : rm_dec ah_M24.2.1 ah_M24.2.2.2.2 = true := ad_24_0
theorem ad_25_0 : rm_dec prog_23_method_50_code ah_r25_0 = true := by decide +kernel
theorem ad_25 : rm_dec ah_M25.2.1 ah_M25.2.2.2.2 = true := ad_25_0
theorem ad_26_0 : rm_dec prog_24_method_86_code ah_r26_0 = true := by decide +kernel
theorem ad_26 : rm_dec ah_M26.2.1 ah_M26.2.2.2.2 = true := ad_26_0
theorem ad_27_0 : rm_dec prog_24_method_94_code ah_r27_0 = true := by decide +kernel
theorem ad_27 : rm_dec ah_M27.2.1 ah_M27.2.2.2.2 = true := ad_27_0
theorem ad_28_0 : rm_dec prog_24_method_6_code ah_r28_0 = true := by decide +kernel
theorem ad_28 : rm_dec ah_M28.2.1 ah_M28.2.2.2.2 = true := ad_28_0
theorem ad_29_0 : rm_dec prog_21_method_157_code ah_r29_0 = true := by decide +kernel
theorem ad_29 : rm_dec ah_M29.2.1 ah_M29.2.2.2.2 = true := ad_29_0
theorem ad_30_0 : rm_dec prog_36_method_13_code ah_r30_0 = true := by decide +kernel
theorem ad_30 : rm_dec ah_M30.2.1 ah_M30.2.2.2.2 = true := ad_30_0
theorem ad_31_0 : rm_dec prog_24_method_4_code ah_r31_0 = true := by decide +kernel
theorem ad_31 : rm_dec ah_M31.2.1 ah_M31.2.2.2.2 = true := ad_31_0
theorem ad_32_0 : rm_dec prog_24_method_71_code ah_r32_0 = true := by decide +kernel
theorem ad_32 : rm_dec ah_M32.2.1 ah_M32.2.2.2.2 = true := ad_32_0
theorem ad_33_0 : rm_dec prog_24_method_91_code ah_r33_0 = true := by decide +kernel
theorem ad_33 : rm_dec ah_M33.2.1 ah_M33.2.2.2.2 = true := ad_33_0
theorem ad_34_0 : rm_dec prog_21_method_155_code ah_r34_0 = true := by decide +kernel
theorem ad_34 : rm_dec ah_M34.2.1 ah_M34.2.2.2.2 = true := ad_34_0
theorem ad_35_0 : rm_dec prog_36_method_11_code ah_r35_0 = true := by decide +kernel
theorem ad_35 : rm_dec ah_M35.2.1 ah_M35.2.2.2.2 = true := ad_35_0
theorem ad_36_0 : rm_dec prog_1_method_3_code ah_r36_0 = true := by decide +kernel
theorem ad_36 : rm_dec ah_M36.2.1 ah_M36.2.2.2.2 = true := ad_36_0
theorem ad_37_0 : rm_dec prog_22_method_89_code ah_r37_0 = true := by decide +kernel
theorem ad_37 : rm_dec ah_M37.2.1 ah_M37.2.2.2.2 = true := ad_37_0
theorem ad_38_0 : rm_dec prog_16_method_13_code ah_r38_0 = true := by decide +kernel
theorem ad_38_1 : rm_dec prog_16_method_13_code ah_r38_1 = true := by decide +kernel
theorem ad_38 : rm_dec ah_M38.2.1 ah_M38.2.2.2.2 = true := rm_dec_app ad_38_0 (ad_38_1)
theorem ad_39_0 : rm_dec prog_23_method_48_code ah_r39_0 = true := by decide +kernel
theorem ad_39 : rm_dec ah_M39.2.1 ah_M39.2.2.2.2 = true := ad_39_0
theorem ad_40_0 : rm_dec prog_29_method_110_code ah_r40_0 = true := by decide +kernel
theorem ad_40 : rm_dec ah_M40.2.1 ah_M40.2.2.2.2 = true := ad_40_0
theorem ad_41_0 : rm_dec prog_29_method_30_code ah_r41_0 = true := by decide +kernel
theorem ad_41 : rm_dec ah_M41.2.1 ah_M41.2.2.2.2 = true := ad_41_0
theorem ad_42_0 : rm_dec prog_24_method_70_code ah_r42_0 = true := by decide +kernel
theorem ad_42 : rm_dec ah_M42.2.1 ah_M42.2.2.2.2 = true := ad_42_0
theorem ad_43_0 : rm_dec prog_1_method_4_code ah_r43_0 = true := by decide +kernel
theorem ad_43_1 : rm_dec prog_1_method_4_code ah_r43_1 = true := by decide +kernel
theorem ad_43 : rm_dec ah_M43.2.1 ah_M43.2.2.2.2 = true := rm_dec_app ad_43_0 (ad_43_1)
theorem ad_44_0 : rm_dec prog_10_method_1_code ah_r44_0 = true := by decide +kernel
theorem ad_44_1 : rm_dec prog_10_method_1_code ah_r44_1 = true := by decide +kernel
theorem ad_44 : rm_dec ah_M44.2.1 ah_M44.2.2.2.2 = true := rm_dec_app ad_44_0 (ad_44_1)
theorem ad_45_0 : rm_dec prog_28_method_2_code ah_r45_0 = true := by decide +kernel
theorem ad_45 : rm_dec ah_M45.2.1 ah_M45.2.2.2.2 = true := ad_45_0
theorem ad_46_0 : rm_dec prog_27_method_1_code ah_r46_0 = true := by decide +kernel
theorem ad_46 : rm_dec ah_M46.2.1 ah_M46.2.2.2.2 = true := ad_46_0
theorem ad_47_0 : rm_dec prog_26_method_1_code ah_r47_0 = true := by decide +kernel
theorem ad_47 : rm_dec ah_M47.2.1 ah_M47.2.2.2.2 = true := ad_47_0
theorem ad_48_0 : rm_dec prog_22_method_42_code ah_r48_0 = true := by decide +kernel
theorem ad_48 : rm_dec ah_M48.2.1 ah_M48.2.2.2.2 = true := ad_48_0
theorem ad_49_0 : rm_dec prog_21_method_53_code ah_r49_0 = true := by decide +kernel
theorem ad_49 : rm_dec ah_M49.2.1 ah_M49.2.2.2.2 = true := ad_49_0
theorem ad_50_0 : rm_dec prog_21_method_150_code ah_r50_0 = true := by decide +kernel
theorem ad_50_1 : rm_dec prog_21_method_150_code ah_r50_1 = true := by decide +kernel
theorem ad_50 : rm_dec ah_M50.2.1 ah_M50.2.2.2.2 = true := rm_dec_app ad_50_0 (ad_50_1)
theorem ad_51_0 : rm_dec prog_16_method_64_code ah_r51_0 = true := by decide +kernel
theorem ad_51 : rm_dec ah_M51.2.1 ah_M51.2.2.2.2 = true := ad_51_0
theorem ad_52_0 : rm_dec prog_29_method_132_code ah_r52_0 = true := by decide +kernel
theorem ad_52 : rm_dec ah_M52.2.1 ah_M52.2.2.2.2 = true := ad_52_0
theorem ad_53_0 : rm_dec prog_29_method_133_code ah_r53_0 = true := by decide +kernel
theorem ad_53 : rm_dec ah_M53.2.1 ah_M53.2.2.2.2 = true := ad_53_0
theorem ad_54_0 : rm_dec prog_29_method_131_code ah_r54_0 = true := by decide +kernel
theorem ad_54 : rm_dec ah_M54.2.1 ah_M54.2.2.2.2 = true := ad_54_0
theorem ad_55_0 : rm_dec prog_24_method_17_code ah_r55_0 = true := by decide +kernel
theorem ad_55 : rm_dec ah_M55.2.1 ah_M55.2.2.2.2 = true := ad_55_0
theorem ad_56_0 : rm_dec prog_24_method_22_code ah_r56_0 = true := by decide +kernel
theorem ad_56 : rm_dec ah_M56.2.1 ah_M56.2.2.2.2 = true := ad_56_0
theorem ad_57_0 : rm_dec prog_24_method_5_code ah_r57_0 = true := by decide +kernel
theorem ad_57 : rm_dec ah_M57.2.1 ah_M57.2.2.2.2 = true := ad_57_0
theorem ad_58_0 : rm_dec prog_24_method_15_code ah_r58_0 = true := by decide +kernel
theorem ad_58 : rm_dec ah_M58.2.1 ah_M58.2.2.2.2 = true := ad_58_0
theorem ad_59_0 : rm_dec prog_11_method_1_code ah_r59_0 = true := by decide +kernel
theorem ad_59_1 : rm_dec prog_11_method_1_code ah_r59_1 = true := by decide +kernel
theorem ad_59 : rm_dec ah_M59.2.1 ah_M59.2.2.2.2 = true := rm_dec_app ad_59_0 (ad_59_1)
theorem ad_60_0 : rm_dec prog_21_method_54_code ah_r60_0 = true := by decide +kernel
theorem ad_60 : rm_dec ah_M60.2.1 ah_M60.2.2.2.2 = true := ad_60_0
theorem ad_61_0 : rm_dec prog_21_method_152_code ah_r61_0 = true := by decide +kernel
theorem ad_61 : rm_dec ah_M61.2.1 ah_M61.2.2.2.2 = true := ad_61_0
theorem ad_62_0 : rm_dec prog_11_method_2_code ah_r62_0 = true := by decide +kernel
theorem ad_62_1 : rm_dec prog_11_method_2_code ah_r62_1 = true := by decide +kernel
theorem ad_62 : rm_dec ah_M62.2.1 ah_M62.2.2.2.2 = true := rm_dec_app ad_62_0 (ad_62_1)
