/-! THIS CLAIM'S TABLES: the rows are what the bytes decode to. -/
theorem ad_384_0 : rm_dec prog_14_method_96_code ah_r384_0 = true := by decide +kernel
theorem ad_384_1 : rm_dec prog_14_method_96_code ah_r384_1 = true := by decide +kernel
theorem ad_384_2 : rm_dec prog_14_method_96_code ah_r384_2 = true := by decide +kernel
theorem ad_384_3 : rm_dec prog_14_method_96_code ah_r384_3 = true := by decide +kernel
theorem ad_384 : rm_dec ah_M384.2.1 ah_M384.2.2.2.2 = true := rm_dec_app ad_384_0 (rm_dec_app ad_384_1 (rm_dec_app ad_384_2 (ad_384_3)))
theorem ad_385_0 : rm_dec prog_14_method_97_code ah_r385_0 = true := by decide +kernel
theorem ad_385_1 : rm_dec prog_14_method_97_code ah_r385_1 = true := by decide +kernel
theorem ad_385 : rm_dec ah_M385.2.1 ah_M385.2.2.2.2 = true := rm_dec_app ad_385_0 (ad_385_1)
theorem ad_386_0 : rm_dec prog_14_method_98_code ah_r386_0 = true := by decide +kernel
theorem ad_386 : rm_dec ah_M386.2.1 ah_M386.2.2.2.2 = true := ad_386_0
theorem ad_387_0 : rm_dec prog_14_method_99_code ah_r387_0 = true := by decide +kernel
theorem ad_387 : rm_dec ah_M387.2.1 ah_M387.2.2.2.2 = true := ad_387_0
theorem ad_388_0 : rm_dec prog_14_method_108_code ah_r388_0 = true := by decide +kernel
theorem ad_388_1 : rm_dec prog_14_method_108_code ah_r388_1 = true := by decide +kernel
theorem ad_388_2 : rm_dec prog_14_method_108_code ah_r388_2 = true := by decide +kernel
theorem ad_388_3 : rm_dec prog_14_method_108_code ah_r388_3 = true := by decide +kernel
theorem ad_388_4 : rm_dec prog_14_method_108_code ah_r388_4 = true := by decide +kernel
theorem ad_388_5 : rm_dec prog_14_method_108_code ah_r388_5 = true := by decide +kernel
theorem ad_388_6 : rm_dec prog_14_method_108_code ah_r388_6 = true := by decide +kernel
theorem ad_388_7 : rm_dec prog_14_method_108_code ah_r388_7 = true := by decide +kernel
theorem ad_388_8 : rm_dec prog_14_method_108_code ah_r388_8 = true := by decide +kernel
theorem ad_388 : rm_dec ah_M388.2.1 ah_M388.2.2.2.2 = true := rm_dec_app ad_388_0 (rm_dec_app ad_388_1 (rm_dec_app ad_388_2 (rm_dec_app ad_388_3 (rm_dec_app ad_388_4 (rm_dec_app ad_388_5 (rm_dec_app ad_388_6 (rm_dec_app ad_388_7 (ad_388_8))))))))
theorem ad_389_0 : rm_dec prog_14_method_105_code ah_r389_0 = true := by decide +kernel
theorem ad_389 : rm_dec ah_M389.2.1 ah_M389.2.2.2.2 = true := ad_389_0
theorem ad_390_0 : rm_dec prog_14_method_104_code ah_r390_0 = true := by decide +kernel
theorem ad_390 : rm_dec ah_M390.2.1 ah_M390.2.2.2.2 = true := ad_390_0
theorem ad_391_0 : rm_dec prog_14_method_109_code ah_r391_0 = true := by decide +kernel
theorem ad_391 : rm_dec ah_M391.2.1 ah_M391.2.2.2.2 = true := ad_391_0
theorem ad_392_0 : rm_dec prog_14_method_112_code ah_r392_0 = true := by decide +kernel
theorem ad_392 : rm_dec ah_M392.2.1 ah_M392.2.2.2.2 = true := ad_392_0
theorem ad_393_0 : rm_dec prog_14_method_101_code ah_r393_0 = true := by decide +kernel
theorem ad_393_1 : rm_dec prog_14_method_101_code ah_r393_1 = true := by decide +kernel
theorem ad_393_2 : rm_dec prog_14_method_101_code ah_r393_2 = true := by decide +kernel
theorem ad_393 : rm_dec ah_M393.2.1 ah_M393.2.2.2.2 = true := rm_dec_app ad_393_0 (rm_dec_app ad_393_1 (ad_393_2))
theorem ad_394_0 : rm_dec prog_14_method_102_code ah_r394_0 = true := by decide +kernel
theorem ad_394 : rm_dec ah_M394.2.1 ah_M394.2.2.2.2 = true := ad_394_0
theorem ad_395_0 : rm_dec prog_14_method_100_code ah_r395_0 = true := by decide +kernel
theorem ad_395_1 : rm_dec prog_14_method_100_code ah_r395_1 = true := by decide +kernel
theorem ad_395_2 : rm_dec prog_14_method_100_code ah_r395_2 = true := by decide +kernel
theorem ad_395 : rm_dec ah_M395.2.1 ah_M395.2.2.2.2 = true := rm_dec_app ad_395_0 (rm_dec_app ad_395_1 (ad_395_2))
theorem ad_396_0 : rm_dec prog_14_method_111_code ah_r396_0 = true := by decide +kernel
theorem ad_396_1 : rm_dec prog_14_method_111_code ah_r396_1 = true := by decide +kernel
theorem ad_396 : rm_dec ah_M396.2.1 ah_M396.2.2.2.2 = true := rm_dec_app ad_396_0 (ad_396_1)
theorem ad_397_0 : rm_dec prog_14_method_113_code ah_r397_0 = true := by decide +kernel
theorem ad_397_1 : rm_dec prog_14_method_113_code ah_r397_1 = true := by decide +kernel
theorem ad_397_2 : rm_dec prog_14_method_113_code ah_r397_2 = true := by decide +kernel
theorem ad_397 : rm_dec ah_M397.2.1 ah_M397.2.2.2.2 = true := rm_dec_app ad_397_0 (rm_dec_app ad_397_1 (ad_397_2))
theorem ad_398_0 : rm_dec prog_14_method_93_code ah_r398_0 = true := by decide +kernel
theorem ad_398_1 : rm_dec prog_14_method_93_code ah_r398_1 = true := by decide +kernel
theorem ad_398 : rm_dec ah_M398.2.1 ah_M398.2.2.2.2 = true := rm_dec_app ad_398_0 (ad_398_1)
theorem ad_399_0 : rm_dec prog_14_method_114_code ah_r399_0 = true := by decide +kernel
theorem ad_399_1 : rm_dec prog_14_method_114_code ah_r399_1 = true := by decide +kernel
theorem ad_399 : rm_dec ah_M399.2.1 ah_M399.2.2.2.2 = true := rm_dec_app ad_399_0 (ad_399_1)
theorem ad_400_0 : rm_dec prog_14_method_110_code ah_r400_0 = true := by decide +kernel
theorem ad_400_1 : rm_dec prog_14_method_110_code ah_r400_1 = true := by decide +kernel
theorem ad_400_2 : rm_dec prog_14_method_110_code ah_r400_2 = true := by decide +kernel
theorem ad_400_3 : rm_dec prog_14_method_110_code ah_r400_3 = true := by decide +kernel
theorem ad_400 : rm_dec ah_M400.2.1 ah_M400.2.2.2.2 = true := rm_dec_app ad_400_0 (rm_dec_app ad_400_1 (rm_dec_app ad_400_2 (ad_400_3)))
theorem ad_401_0 : rm_dec prog_14_method_103_code ah_r401_0 = true := by decide +kernel
theorem ad_401 : rm_dec ah_M401.2.1 ah_M401.2.2.2.2 = true := ad_401_0
theorem ad_402_0 : rm_dec prog_14_method_118_code ah_r402_0 = true := by decide +kernel
theorem ad_402 : rm_dec ah_M402.2.1 ah_M402.2.2.2.2 = true := ad_402_0
theorem ad_403_0 : rm_dec prog_14_method_119_code ah_r403_0 = true := by decide +kernel
theorem ad_403 : rm_dec ah_M403.2.1 ah_M403.2.2.2.2 = true := ad_403_0
theorem ad_404_0 : rm_dec prog_14_method_120_code ah_r404_0 = true := by decide +kernel
theorem ad_404 : rm_dec ah_M404.2.1 ah_M404.2.2.2.2 = true := ad_404_0
theorem ad_405_0 : rm_dec prog_14_method_127_code ah_r405_0 = true := by decide +kernel
theorem ad_405 : rm_dec ah_M405.2.1 ah_M405.2.2.2.2 = true := ad_405_0
