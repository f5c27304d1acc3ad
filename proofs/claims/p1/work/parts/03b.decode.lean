/-! THIS CLAIM'S TABLES: the rows are what the bytes decode to. -/
theorem ad_63_0 : rm_dec prog_21_method_56_code ah_r63_0 = true := by decide +kernel
theorem ad_63 : rm_dec ah_M63.2.1 ah_M63.2.2.2.2 = true := ad_63_0
theorem ad_64_0 : rm_dec prog_21_method_154_code ah_r64_0 = true := by decide +kernel
theorem ad_64 : rm_dec ah_M64.2.1 ah_M64.2.2.2.2 = true := ad_64_0
theorem ad_65_0 : rm_dec prog_23_method_2_code ah_r65_0 = true := by decide +kernel
theorem ad_65 : rm_dec ah_M65.2.1 ah_M65.2.2.2.2 = true := ad_65_0
theorem ad_66_0 : rm_dec prog_24_method_83_code ah_r66_0 = true := by decide +kernel
theorem ad_66 : rm_dec ah_M66.2.1 ah_M66.2.2.2.2 = true := ad_66_0
theorem ad_67_0 : rm_dec prog_11_method_9_code ah_r67_0 = true := by decide +kernel
theorem ad_67_1 : rm_dec prog_11_method_9_code ah_r67_1 = true := by decide +kernel
theorem ad_67 : rm_dec ah_M67.2.1 ah_M67.2.2.2.2 = true := rm_dec_app ad_67_0 (ad_67_1)
theorem ad_68_0 : rm_dec prog_11_method_14_code ah_r68_0 = true := by decide +kernel
theorem ad_68 : rm_dec ah_M68.2.1 ah_M68.2.2.2.2 = true := ad_68_0
theorem ad_69_0 : rm_dec prog_11_method_15_code ah_r69_0 = true := by decide +kernel
theorem ad_69 : rm_dec ah_M69.2.1 ah_M69.2.2.2.2 = true := ad_69_0
theorem ad_70_0 : rm_dec prog_11_method_16_code ah_r70_0 = true := by decide +kernel
theorem ad_70 : rm_dec ah_M70.2.1 ah_M70.2.2.2.2 = true := ad_70_0
theorem ad_71_0 : rm_dec prog_11_method_11_code ah_r71_0 = true := by decide +kernel
theorem ad_71_1 : rm_dec prog_11_method_11_code ah_r71_1 = true := by decide +kernel
theorem ad_71 : rm_dec ah_M71.2.1 ah_M71.2.2.2.2 = true := rm_dec_app ad_71_0 (ad_71_1)
theorem ad_72_0 : rm_dec prog_11_method_12_code ah_r72_0 = true := by decide +kernel
theorem ad_72 : rm_dec ah_M72.2.1 ah_M72.2.2.2.2 = true := ad_72_0
theorem ad_73_0 : rm_dec prog_11_method_13_code ah_r73_0 = true := by decide +kernel
theorem ad_73 : rm_dec ah_M73.2.1 ah_M73.2.2.2.2 = true := ad_73_0
theorem ad_74_0 : rm_dec prog_11_method_10_code ah_r74_0 = true := by decide +kernel
theorem ad_74 : rm_dec ah_M74.2.1 ah_M74.2.2.2.2 = true := ad_74_0
theorem ad_75_0 : rm_dec prog_21_method_79_code ah_r75_0 = true := by decide +kernel
theorem ad_75 : rm_dec ah_M75.2.1 ah_M75.2.2.2.2 = true := ad_75_0
theorem ad_76_0 : rm_dec prog_21_method_80_code ah_r76_0 = true := by decide +kernel
theorem ad_76 : rm_dec ah_M76.2.1 ah_M76.2.2.2.2 = true := ad_76_0
theorem ad_77_0 : rm_dec prog_23_method_22_code ah_r77_0 = true := by decide +kernel
theorem ad_77 : rm_dec ah_M77.2.1 ah_M77.2.2.2.2 = true := ad_77_0
theorem ad_78_0 : rm_dec prog_23_method_4_code ah_r78_0 = true := by decide +kernel
theorem ad_78 : rm_dec ah_M78.2.1 ah_M78.2.2.2.2 = true := ad_78_0
theorem ad_79_0 : rm_dec prog_23_method_23_code ah_r79_0 = true := by decide +kernel
theorem ad_79 : rm_dec ah_M79.2.1 ah_M79.2.2.2.2 = true := ad_79_0
theorem ad_80_0 : rm_dec prog_24_method_40_code ah_r80_0 = true := by decide +kernel
theorem ad_80 : rm_dec ah_M80.2.1 ah_M80.2.2.2.2 = true := ad_80_0
theorem ad_81_0 : rm_dec prog_24_method_47_code ah_r81_0 = true := by decide +kernel
theorem ad_81 : rm_dec ah_M81.2.1 ah_M81.2.2.2.2 = true := ad_81_0
theorem ad_82_0 : rm_dec prog_24_method_93_code ah_r82_0 = true := by decide +kernel
theorem ad_82 : rm_dec ah_M82.2.1 ah_M82.2.2.2.2 = true := ad_82_0
theorem ad_83_0 : rm_dec prog_21_method_158_code ah_r83_0 = true := by decide +kernel
theorem ad_83 : rm_dec ah_M83.2.1 ah_M83.2.2.2.2 = true := ad_83_0
theorem ad_84_0 : rm_dec prog_36_method_12_code ah_r84_0 = true := by decide +kernel
theorem ad_84 : rm_dec ah_M84.2.1 ah_M84.2.2.2.2 = true := ad_84_0
theorem ad_85_0 : rm_dec prog_24_method_48_code ah_r85_0 = true := by decide +kernel
theorem ad_85 : rm_dec ah_M85.2.1 ah_M85.2.2.2.2 = true := ad_85_0
theorem ad_86_0 : rm_dec prog_24_method_49_code ah_r86_0 = true := by decide +kernel
theorem ad_86 : rm_dec ah_M86.2.1 ah_M86.2.2.2.2 = true := ad_86_0
theorem ad_87_0 : rm_dec prog_17_method_11_code ah_r87_0 = true := by decide +kernel
theorem ad_87 : rm_dec ah_M87.2.1 ah_M87.2.2.2.2 = true := ad_87_0
theorem ad_88_0 : rm_dec prog_17_method_28_code ah_r88_0 = true := by decide +kernel
theorem ad_88 : rm_dec ah_M88.2.1 ah_M88.2.2.2.2 = true := ad_88_0
theorem ad_89_0 : rm_dec prog_17_method_29_code ah_r89_0 = true := by decide +kernel
theorem ad_89 : rm_dec ah_M89.2.1 ah_M89.2.2.2.2 = true := ad_89_0
theorem ad_90_0 : rm_dec prog_9_method_1_code ah_r90_0 = true := by decide +kernel
theorem ad_90 : rm_dec ah_M90.2.1 ah_M90.2.2.2.2 = true := ad_90_0
theorem ad_91_0 : rm_dec prog_9_method_2_code ah_r91_0 = true := by decide +kernel
theorem ad_91_1 : rm_dec prog_9_method_2_code ah_r91_1 = true := by decide +kernel
theorem ad_91 : rm_dec ah_M91.2.1 ah_M91.2.2.2.2 = true := rm_dec_app ad_91_0 (ad_91_1)
theorem ad_92_0 : rm_dec prog_11_method_3_code ah_r92_0 = true := by decide +kernel
theorem ad_92_1 : rm_dec prog_11_method_3_code ah_r92_1 = true := by decide +kernel
theorem ad_92 : rm_dec ah_M92.2.1 ah_M92.2.2.2.2 = true := rm_dec_app ad_92_0 (ad_92_1)
theorem ad_93_0 : rm_dec prog_9_method_3_code ah_r93_0 = true := by decide +kernel
theorem ad_93 : rm_dec ah_M93.2.1 ah_M93.2.2.2.2 = true := ad_93_0
theorem ad_94_0 : rm_dec prog_9_method_31_code ah_r94_0 = true := by decide +kernel
theorem ad_94 : rm_dec ah_M94.2.1 ah_M94.2.2.2.2 = true := ad_94_0
theorem ad_95_0 : rm_dec prog_11_method_4_code ah_r95_0 = true := by decide +kernel
theorem ad_95 : rm_dec ah_M95.2.1 ah_M95.2.2.2.2 = true := ad_95_0
theorem ad_96_0 : rm_dec prog_11_method_7_code ah_r96_0 = true := by decide +kernel
theorem ad_96 : rm_dec ah_M96.2.1 ah_M96.2.2.2.2 = true := ad_96_0
theorem ad_97_0 : rm_dec prog_21_method_92_code ah_r97_0 = true := by decide +kernel
theorem ad_97 : rm_dec ah_M97.2.1 ah_M97.2.2.2.2 = true := ad_97_0
theorem ad_98_0 : rm_dec prog_23_method_47_code ah_r98_0 = true := by decide +kernel
theorem ad_98 : rm_dec ah_M98.2.1 ah_M98.2.2.2.2 = true := ad_98_0
theorem ad_99_0 : rm_dec prog_21_method_151_code ah_r99_0 = true := by decide +kernel
theorem ad_99 : rm_dec ah_M99.2.1 ah_M99.2.2.2.2 = true := ad_99_0
theorem ad_100_0 : rm_dec prog_24_method_69_code ah_r100_0 = true := by decide +kernel
theorem ad_100 : rm_dec ah_M100.2.1 ah_M100.2.2.2.2 = true := ad_100_0
theorem ad_101_0 : rm_dec prog_28_method_8_code ah_r101_0 = true := by decide +kernel
theorem ad_101 : rm_dec ah_M101.2.1 ah_M101.2.2.2.2 = true := ad_101_0
theorem ad_102_0 : rm_dec prog_5_method_1_code ah_r102_0 = true := by decide +kernel
theorem ad_102 : rm_dec ah_M102.2.1 ah_M102.2.2.2.2 = true := ad_102_0
theorem ad_103_0 : rm_dec prog_28_method_25_code ah_r103_0 = true := by decide +kernel
theorem ad_103 : rm_dec ah_M103.2.1 ah_M103.2.2.2.2 = true := ad_103_0
theorem ad_104_0 : rm_dec prog_28_method_24_code ah_r104_0 = true := by decide +kernel
theorem ad_104 : rm_dec ah_M104.2.1 ah_M104.2.2.2.2 = true := ad_104_0
theorem ad_105_0 : rm_dec prog_28_method_7_code ah_r105_0 = true := by decide +kernel
theorem ad_105 : rm_dec ah_M105.2.1 ah_M105.2.2.2.2 = true := ad_105_0
theorem ad_106_0 : rm_dec prog_28_method_6_code ah_r106_0 = true := by decide +kernel
theorem ad_106 : rm_dec ah_M106.2.1 ah_M106.2.2.2.2 = true := ad_106_0
theorem ad_107_0 : rm_dec prog_29_method_119_code ah_r107_0 = true := by decide +kernel
theorem ad_107 : rm_dec ah_M107.2.1 ah_M107.2.2.2.2 = true := ad_107_0
theorem ad_108_0 : rm_dec prog_29_method_120_code ah_r108_0 = true := by decide +kernel
theorem ad_108 : rm_dec ah_M108.2.1 ah_M108.2.2.2.2 = true := ad_108_0
theorem ad_109_0 : rm_dec prog_9_method_30_code ah_r109_0 = true := by decide +kernel
theorem ad_109 : rm_dec ah_M109.2.1 ah_M109.2.2.2.2 = true := ad_109_0
theorem ad_110_0 : rm_dec prog_9_method_4_code ah_r110_0 = true := by decide +kernel
theorem ad_110 : rm_dec ah_M110.2.1 ah_M110.2.2.2.2 = true := ad_110_0
theorem ad_111_0 : rm_dec prog_9_method_8_code ah_r111_0 = true := by decide +kernel
theorem ad_111 : rm_dec ah_M111.2.1 ah_M111.2.2.2.2 = true := ad_111_0
theorem ad_112_0 : rm_dec prog_4_method_1_code ah_r112_0 = true := by decide +kernel
theorem ad_112 : rm_dec ah_M112.2.1 ah_M112.2.2.2.2 = true := ad_112_0
theorem ad_113_0 : rm_dec prog_9_method_9_code ah_r113_0 = true := by decide +kernel
theorem ad_113_1 : rm_dec prog_9_method_9_code ah_r113_1 = true := by decide +kernel
theorem ad_113 : rm_dec ah_M113.2.1 ah_M113.2.2.2.2 = true := rm_dec_app ad_113_0 (ad_113_1)
theorem ad_114_0 : rm_dec prog_11_method_5_code ah_r114_0 = true := by decide +kernel
theorem ad_114 : rm_dec ah_M114.2.1 ah_M114.2.2.2.2 = true := ad_114_0
theorem ad_115_0 : rm_dec prog_9_method_5_code ah_r115_0 = true := by decide +kernel
theorem ad_115 : rm_dec ah_M115.2.1 ah_M115.2.2.2.2 = true := ad_115_0
theorem ad_116_0 : rm_dec prog_6_method_1_code ah_r116_0 = true := by decide +kernel
theorem ad_116_1 : rm_dec prog_6_method_1_code ah_r116_1 = true := by decide +kernel
theorem ad_116 : rm_dec ah_M116.2.1 ah_M116.2.2.2.2 = true := rm_dec_app ad_116_0 (ad_116_1)
theorem ad_117_0 : rm_dec prog_9_method_7_code ah_r117_0 = true := by decide +kernel
theorem ad_117_1 : rm_dec prog_9_method_7_code ah_r117_1 = true := by decide +kernel
theorem ad_117 : rm_dec ah_M117.2.1 ah_M117.2.2.2.2 = true := rm_dec_app ad_117_0 (ad_117_1)
theorem ad_118_0 : rm_dec prog_9_method_29_code ah_r118_0 = true := by decide +kernel
theorem ad_118 : rm_dec ah_M118.2.1 ah_M118.2.2.2.2 = true := ad_118_0
theorem ad_119_0 : rm_dec prog_9_method_10_code ah_r119_0 = true := by decide +kernel
theorem ad_119_1 : rm_dec prog_9_method_10_code ah_r119_1 = true := by decide +kernel
theorem ad_119 : rm_dec ah_M119.2.1 ah_M119.2.2.2.2 = true := rm_dec_app ad_119_0 (ad_119_1)
theorem ad_120_0 : rm_dec prog_7_method_1_code ah_r120_0 = true := by decide +kernel
theorem ad_120_1 : rm_dec prog_7_method_1_code ah_r120_1 = true := by decide +kernel
theorem ad_120 : rm_dec ah_M120.2.1 ah_M120.2.2.2.2 = true := rm_dec_app ad_120_0 (ad_120_1)
theorem ad_121_0 : rm_dec prog_9_method_11_code ah_r121_0 = true := by decide +kernel
theorem ad_121_1 : rm_dec prog_9_method_11_code ah_r121_1 = true := by decide +kernel
theorem ad_121 : rm_dec ah_M121.2.1 ah_M121.2.2.2.2 = true := rm_dec_app ad_121_0 (ad_121_1)
theorem ad_122_0 : rm_dec prog_9_method_12_code ah_r122_0 = true := by decide +kernel
theorem ad_122_1 : rm_dec prog_9_method_12_code ah_r122_1 = true := by decide +kernel
theorem ad_122 : rm_dec ah_M122.2.1 ah_M122.2.2.2.2 = true := rm_dec_app ad_122_0 (ad_122_1)
theorem ad_123_0 : rm_dec prog_9_method_16_code ah_r123_0 = true := by decide +kernel
theorem ad_123_1 : rm_dec prog_9_method_16_code ah_r123_1 = true := by decide +kernel
theorem ad_123 : rm_dec ah_M123.2.1 ah_M123.2.2.2.2 = true := rm_dec_app ad_123_0 (ad_123_1)
