/-! THIS CLAIM'S TABLES: the rows are what the bytes decode to. -/
theorem ad_352_0 : rm_dec prog_14_method_79_code ah_r352_0 = true := by decide +kernel
theorem ad_352_1 : rm_dec prog_14_method_79_code ah_r352_1 = true := by decide +kernel
theorem ad_352_2 : rm_dec prog_14_method_79_code ah_r352_2 = true := by decide +kernel
theorem ad_352 : rm_dec ah_M352.2.1 ah_M352.2.2.2.2 = true := rm_dec_app ad_352_0 (rm_dec_app ad_352_1 (ad_352_2))
theorem ad_353_0 : rm_dec prog_14_method_56_code ah_r353_0 = true := by decide +kernel
theorem ad_353_1 : rm_dec prog_14_method_56_code ah_r353_1 = true := by decide +kernel
theorem ad_353 : rm_dec ah_M353.2.1 ah_M353.2.2.2.2 = true := rm_dec_app ad_353_0 (ad_353_1)
theorem ad_354_0 : rm_dec prog_14_method_69_code ah_r354_0 = true := by decide +kernel
theorem ad_354 : rm_dec ah_M354.2.1 ah_M354.2.2.2.2 = true := ad_354_0
theorem ad_355_0 : rm_dec prog_14_method_70_code ah_r355_0 = true := by decide +kernel
theorem ad_355 : rm_dec ah_M355.2.1 ah_M355.2.2.2.2 = true := ad_355_0
theorem ad_356_0 : rm_dec prog_14_method_71_code ah_r356_0 = true := by decide +kernel
theorem ad_356 : rm_dec ah_M356.2.1 ah_M356.2.2.2.2 = true := ad_356_0
theorem ad_357_0 : rm_dec prog_14_method_67_code ah_r357_0 = true := by decide +kernel
theorem ad_357_1 : rm_dec prog_14_method_67_code ah_r357_1 = true := by decide +kernel
theorem ad_357_2 : rm_dec prog_14_method_67_code ah_r357_2 = true := by decide +kernel
theorem ad_357 : rm_dec ah_M357.2.1 ah_M357.2.2.2.2 = true := rm_dec_app ad_357_0 (rm_dec_app ad_357_1 (ad_357_2))
theorem ad_358_0 : rm_dec prog_14_method_66_code ah_r358_0 = true := by decide +kernel
theorem ad_358_1 : rm_dec prog_14_method_66_code ah_r358_1 = true := by decide +kernel
theorem ad_358 : rm_dec ah_M358.2.1 ah_M358.2.2.2.2 = true := rm_dec_app ad_358_0 (ad_358_1)
theorem ad_359_0 : rm_dec prog_14_method_65_code ah_r359_0 = true := by decide +kernel
theorem ad_359 : rm_dec ah_M359.2.1 ah_M359.2.2.2.2 = true := ad_359_0
theorem ad_360_0 : rm_dec prog_14_method_68_code ah_r360_0 = true := by decide +kernel
theorem ad_360_1 : rm_dec prog_14_method_68_code ah_r360_1 = true := by decide +kernel
theorem ad_360 : rm_dec ah_M360.2.1 ah_M360.2.2.2.2 = true := rm_dec_app ad_360_0 (ad_360_1)
theorem ad_361_0 : rm_dec prog_14_method_73_code ah_r361_0 = true := by decide +kernel
theorem ad_361_1 : rm_dec prog_14_method_73_code ah_r361_1 = true := by decide +kernel
theorem ad_361 : rm_dec ah_M361.2.1 ah_M361.2.2.2.2 = true := rm_dec_app ad_361_0 (ad_361_1)
theorem ad_362_0 : rm_dec prog_14_method_74_code ah_r362_0 = true := by decide +kernel
theorem ad_362_1 : rm_dec prog_14_method_74_code ah_r362_1 = true := by decide +kernel
theorem ad_362_2 : rm_dec prog_14_method_74_code ah_r362_2 = true := by decide +kernel
theorem ad_362 : rm_dec ah_M362.2.1 ah_M362.2.2.2.2 = true := rm_dec_app ad_362_0 (rm_dec_app ad_362_1 (ad_362_2))
theorem ad_363_0 : rm_dec prog_14_method_76_code ah_r363_0 = true := by decide +kernel
theorem ad_363_1 : rm_dec prog_14_method_76_code ah_r363_1 = true := by decide +kernel
theorem ad_363_2 : rm_dec prog_14_method_76_code ah_r363_2 = true := by decide +kernel
theorem ad_363_3 : rm_dec prog_14_method_76_code ah_r363_3 = true := by decide +kernel
theorem ad_363 : rm_dec ah_M363.2.1 ah_M363.2.2.2.2 = true := rm_dec_app ad_363_0 (rm_dec_app ad_363_1 (rm_dec_app ad_363_2 (ad_363_3)))
theorem ad_364_0 : rm_dec prog_14_method_72_code ah_r364_0 = true := by decide +kernel
theorem ad_364 : rm_dec ah_M364.2.1 ah_M364.2.2.2.2 = true := ad_364_0
theorem ad_365_0 : rm_dec prog_14_method_75_code ah_r365_0 = true := by decide +kernel
theorem ad_365 : rm_dec ah_M365.2.1 ah_M365.2.2.2.2 = true := ad_365_0
theorem ad_366_0 : rm_dec prog_14_method_77_code ah_r366_0 = true := by decide +kernel
theorem ad_366_1 : rm_dec prog_14_method_77_code ah_r366_1 = true := by decide +kernel
theorem ad_366 : rm_dec ah_M366.2.1 ah_M366.2.2.2.2 = true := rm_dec_app ad_366_0 (ad_366_1)
theorem ad_367_0 : rm_dec prog_14_method_54_code ah_r367_0 = true := by decide +kernel
theorem ad_367 : rm_dec ah_M367.2.1 ah_M367.2.2.2.2 = true := ad_367_0
theorem ad_368_0 : rm_dec prog_14_method_82_code ah_r368_0 = true := by decide +kernel
theorem ad_368_1 : rm_dec prog_14_method_82_code ah_r368_1 = true := by decide +kernel
theorem ad_368 : rm_dec ah_M368.2.1 ah_M368.2.2.2.2 = true := rm_dec_app ad_368_0 (ad_368_1)
theorem ad_369_0 : rm_dec prog_14_method_83_code ah_r369_0 = true := by decide +kernel
theorem ad_369_1 : rm_dec prog_14_method_83_code ah_r369_1 = true := by decide +kernel
theorem ad_369 : rm_dec ah_M369.2.1 ah_M369.2.2.2.2 = true := rm_dec_app ad_369_0 (ad_369_1)
theorem ad_370_0 : rm_dec prog_14_method_86_code ah_r370_0 = true := by decide +kernel
theorem ad_370 : rm_dec ah_M370.2.1 ah_M370.2.2.2.2 = true := ad_370_0
theorem ad_371_0 : rm_dec prog_14_method_87_code ah_r371_0 = true := by decide +kernel
theorem ad_371 : rm_dec ah_M371.2.1 ah_M371.2.2.2.2 = true := ad_371_0
theorem ad_372_0 : rm_dec prog_14_method_115_code ah_r372_0 = true := by decide +kernel
theorem ad_372_1 : rm_dec prog_14_method_115_code ah_r372_1 = true := by decide +kernel
theorem ad_372_2 : rm_dec prog_14_method_115_code ah_r372_2 = true := by decide +kernel
theorem ad_372 : rm_dec ah_M372.2.1 ah_M372.2.2.2.2 = true := rm_dec_app ad_372_0 (rm_dec_app ad_372_1 (ad_372_2))
theorem ad_373_0 : rm_dec prog_14_method_91_code ah_r373_0 = true := by decide +kernel
theorem ad_373 : rm_dec ah_M373.2.1 ah_M373.2.2.2.2 = true := ad_373_0
theorem ad_374_0 : rm_dec prog_14_method_92_code ah_r374_0 = true := by decide +kernel
theorem ad_374_1 : rm_dec prog_14_method_92_code ah_r374_1 = true := by decide +kernel
theorem ad_374_2 : rm_dec prog_14_method_92_code ah_r374_2 = true := by decide +kernel
theorem ad_374 : rm_dec ah_M374.2.1 ah_M374.2.2.2.2 = true := rm_dec_app ad_374_0 (rm_dec_app ad_374_1 (ad_374_2))
theorem ad_375_0 : rm_dec prog_14_method_90_code ah_r375_0 = true := by decide +kernel
theorem ad_375 : rm_dec ah_M375.2.1 ah_M375.2.2.2.2 = true := ad_375_0
theorem ad_376_0 : rm_dec prog_14_method_88_code ah_r376_0 = true := by decide +kernel
theorem ad_376 : rm_dec ah_M376.2.1 ah_M376.2.2.2.2 = true := ad_376_0
theorem ad_377_0 : rm_dec prog_14_method_94_code ah_r377_0 = true := by decide +kernel
theorem ad_377_1 : rm_dec prog_14_method_94_code ah_r377_1 = true := by decide +kernel
theorem ad_377_2 : rm_dec prog_14_method_94_code ah_r377_2 = true := by decide +kernel
theorem ad_377_3 : rm_dec prog_14_method_94_code ah_r377_3 = true := by decide +kernel
theorem ad_377_4 : rm_dec prog_14_method_94_code ah_r377_4 = true := by decide +kernel
theorem ad_377 : rm_dec ah_M377.2.1 ah_M377.2.2.2.2 = true := rm_dec_app ad_377_0 (rm_dec_app ad_377_1 (rm_dec_app ad_377_2 (rm_dec_app ad_377_3 (ad_377_4))))
theorem ad_378_0 : rm_dec prog_14_method_95_code ah_r378_0 = true := by decide +kernel
theorem ad_378 : rm_dec ah_M378.2.1 ah_M378.2.2.2.2 = true := ad_378_0
theorem ad_379_0 : rm_dec prog_14_method_89_code ah_r379_0 = true := by decide +kernel
theorem ad_379 : rm_dec ah_M379.2.1 ah_M379.2.2.2.2 = true := ad_379_0
theorem ad_380_0 : rm_dec prog_14_method_117_code ah_r380_0 = true := by decide +kernel
theorem ad_380 : rm_dec ah_M380.2.1 ah_M380.2.2.2.2 = true := ad_380_0
theorem ad_381_0 : rm_dec prog_14_method_116_code ah_r381_0 = true := by decide +kernel
theorem ad_381 : rm_dec ah_M381.2.1 ah_M381.2.2.2.2 = true := ad_381_0
theorem ad_382_0 : rm_dec prog_14_method_106_code ah_r382_0 = true := by decide +kernel
theorem ad_382 : rm_dec ah_M382.2.1 ah_M382.2.2.2.2 = true := ad_382_0
theorem ad_383_0 : rm_dec prog_14_method_107_code ah_r383_0 = true := by decide +kernel
theorem ad_383_1 : rm_dec prog_14_method_107_code ah_r383_1 = true := by decide +kernel
theorem ad_383 : rm_dec ah_M383.2.1 ah_M383.2.2.2.2 = true := rm_dec_app ad_383_0 (ad_383_1)
