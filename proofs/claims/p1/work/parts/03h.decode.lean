/-! THIS CLAIM'S TABLES: the rows are what the bytes decode to. -/
theorem ad_323_0 : rm_dec prog_14_method_28_code ah_r323_0 = true := by decide +kernel
theorem ad_323 : rm_dec ah_M323.2.1 ah_M323.2.2.2.2 = true := ad_323_0
theorem ad_324_0 : rm_dec prog_14_method_34_code ah_r324_0 = true := by decide +kernel
theorem ad_324_1 : rm_dec prog_14_method_34_code ah_r324_1 = true := by decide +kernel
theorem ad_324 : rm_dec ah_M324.2.1 ah_M324.2.2.2.2 = true := rm_dec_app ad_324_0 (ad_324_1)
theorem ad_325_0 : rm_dec prog_14_method_31_code ah_r325_0 = true := by decide +kernel
theorem ad_325 : rm_dec ah_M325.2.1 ah_M325.2.2.2.2 = true := ad_325_0
theorem ad_326_0 : rm_dec prog_14_method_42_code ah_r326_0 = true := by decide +kernel
theorem ad_326_1 : rm_dec prog_14_method_42_code ah_r326_1 = true := by decide +kernel
theorem ad_326_2 : rm_dec prog_14_method_42_code ah_r326_2 = true := by decide +kernel
theorem ad_326_3 : rm_dec prog_14_method_42_code ah_r326_3 = true := by decide +kernel
theorem ad_326_4 : rm_dec prog_14_method_42_code ah_r326_4 = true := by decide +kernel
theorem ad_326_5 : rm_dec prog_14_method_42_code ah_r326_5 = true := by decide +kernel
theorem ad_326 : rm_dec ah_M326.2.1 ah_M326.2.2.2.2 = true := rm_dec_app ad_326_0 (rm_dec_app ad_326_1 (rm_dec_app ad_326_2 (rm_dec_app ad_326_3 (rm_dec_app ad_326_4 (ad_326_5)))))
theorem ad_327_0 : rm_dec prog_14_method_41_code ah_r327_0 = true := by decide +kernel
theorem ad_327_1 : rm_dec prog_14_method_41_code ah_r327_1 = true := by decide +kernel
theorem ad_327 : rm_dec ah_M327.2.1 ah_M327.2.2.2.2 = true := rm_dec_app ad_327_0 (ad_327_1)
theorem ad_328_0 : rm_dec prog_14_method_37_code ah_r328_0 = true := by decide +kernel
theorem ad_328 : rm_dec ah_M328.2.1 ah_M328.2.2.2.2 = true := ad_328_0
theorem ad_329_0 : rm_dec prog_14_method_36_code ah_r329_0 = true := by decide +kernel
theorem ad_329 : rm_dec ah_M329.2.1 ah_M329.2.2.2.2 = true := ad_329_0
theorem ad_330_0 : rm_dec prog_14_method_43_code ah_r330_0 = true := by decide +kernel
theorem ad_330_1 : rm_dec prog_14_method_43_code ah_r330_1 = true := by decide +kernel
theorem ad_330_2 : rm_dec prog_14_method_43_code ah_r330_2 = true := by decide +kernel
theorem ad_330 : rm_dec ah_M330.2.1 ah_M330.2.2.2.2 = true := rm_dec_app ad_330_0 (rm_dec_app ad_330_1 (ad_330_2))
theorem ad_331_0 : rm_dec prog_14_method_40_code ah_r331_0 = true := by decide +kernel
theorem ad_331 : rm_dec ah_M331.2.1 ah_M331.2.2.2.2 = true := ad_331_0
theorem ad_332_0 : rm_dec prog_14_method_39_code ah_r332_0 = true := by decide +kernel
theorem ad_332 : rm_dec ah_M332.2.1 ah_M332.2.2.2.2 = true := ad_332_0
theorem ad_333_0 : rm_dec prog_14_method_38_code ah_r333_0 = true := by decide +kernel
theorem ad_333 : rm_dec ah_M333.2.1 ah_M333.2.2.2.2 = true := ad_333_0
theorem ad_334_0 : rm_dec prog_14_method_84_code ah_r334_0 = true := by decide +kernel
theorem ad_334_1 : rm_dec prog_14_method_84_code ah_r334_1 = true := by decide +kernel
theorem ad_334 : rm_dec ah_M334.2.1 ah_M334.2.2.2.2 = true := rm_dec_app ad_334_0 (ad_334_1)
theorem ad_335_0 : rm_dec prog_14_method_50_code ah_r335_0 = true := by decide +kernel
theorem ad_335_1 : rm_dec prog_14_method_50_code ah_r335_1 = true := by decide +kernel
theorem ad_335 : rm_dec ah_M335.2.1 ah_M335.2.2.2.2 = true := rm_dec_app ad_335_0 (ad_335_1)
theorem ad_336_0 : rm_dec prog_14_method_80_code ah_r336_0 = true := by decide +kernel
theorem ad_336_1 : rm_dec prog_14_method_80_code ah_r336_1 = true := by decide +kernel
theorem ad_336 : rm_dec ah_M336.2.1 ah_M336.2.2.2.2 = true := rm_dec_app ad_336_0 (ad_336_1)
theorem ad_337_0 : rm_dec prog_14_method_81_code ah_r337_0 = true := by decide +kernel
theorem ad_337_1 : rm_dec prog_14_method_81_code ah_r337_1 = true := by decide +kernel
theorem ad_337_2 : rm_dec prog_14_method_81_code ah_r337_2 = true := by decide +kernel
theorem ad_337_3 : rm_dec prog_14_method_81_code ah_r337_3 = true := by decide +kernel
theorem ad_337 : rm_dec ah_M337.2.1 ah_M337.2.2.2.2 = true := rm_dec_app ad_337_0 (rm_dec_app ad_337_1 (rm_dec_app ad_337_2 (ad_337_3)))
theorem ad_338_0 : rm_dec prog_14_method_55_code ah_r338_0 = true := by decide +kernel
theorem ad_338_1 : rm_dec prog_14_method_55_code ah_r338_1 = true := by decide +kernel
theorem ad_338 : rm_dec ah_M338.2.1 ah_M338.2.2.2.2 = true := rm_dec_app ad_338_0 (ad_338_1)
theorem ad_339_0 : rm_dec prog_14_method_60_code ah_r339_0 = true := by decide +kernel
theorem ad_339_1 : rm_dec prog_14_method_60_code ah_r339_1 = true := by decide +kernel
theorem ad_339 : rm_dec ah_M339.2.1 ah_M339.2.2.2.2 = true := rm_dec_app ad_339_0 (ad_339_1)
theorem ad_340_0 : rm_dec prog_14_method_57_code ah_r340_0 = true := by decide +kernel
theorem ad_340 : rm_dec ah_M340.2.1 ah_M340.2.2.2.2 = true := ad_340_0
theorem ad_341_0 : rm_dec prog_14_method_59_code ah_r341_0 = true := by decide +kernel
theorem ad_341 : rm_dec ah_M341.2.1 ah_M341.2.2.2.2 = true := ad_341_0
theorem ad_342_0 : rm_dec prog_14_method_58_code ah_r342_0 = true := by decide +kernel
theorem ad_342 : rm_dec ah_M342.2.1 ah_M342.2.2.2.2 = true := ad_342_0
theorem ad_343_0 : rm_dec prog_14_method_62_code ah_r343_0 = true := by decide +kernel
theorem ad_343_1 : rm_dec prog_14_method_62_code ah_r343_1 = true := by decide +kernel
theorem ad_343 : rm_dec ah_M343.2.1 ah_M343.2.2.2.2 = true := rm_dec_app ad_343_0 (ad_343_1)
theorem ad_344_0 : rm_dec prog_14_method_51_code ah_r344_0 = true := by decide +kernel
theorem ad_344 : rm_dec ah_M344.2.1 ah_M344.2.2.2.2 = true := ad_344_0
theorem ad_345_0 : rm_dec prog_14_method_63_code ah_r345_0 = true := by decide +kernel
theorem ad_345_1 : rm_dec prog_14_method_63_code ah_r345_1 = true := by decide +kernel
theorem ad_345 : rm_dec ah_M345.2.1 ah_M345.2.2.2.2 = true := rm_dec_app ad_345_0 (ad_345_1)
theorem ad_346_0 : rm_dec prog_14_method_61_code ah_r346_0 = true := by decide +kernel
theorem ad_346 : rm_dec ah_M346.2.1 ah_M346.2.2.2.2 = true := ad_346_0
theorem ad_347_0 : rm_dec prog_14_method_52_code ah_r347_0 = true := by decide +kernel
theorem ad_347 : rm_dec ah_M347.2.1 ah_M347.2.2.2.2 = true := ad_347_0
theorem ad_348_0 : rm_dec prog_14_method_64_code ah_r348_0 = true := by decide +kernel
theorem ad_348_1 : rm_dec prog_14_method_64_code ah_r348_1 = true := by decide +kernel
theorem ad_348_2 : rm_dec prog_14_method_64_code ah_r348_2 = true := by decide +kernel
theorem ad_348 : rm_dec ah_M348.2.1 ah_M348.2.2.2.2 = true := rm_dec_app ad_348_0 (rm_dec_app ad_348_1 (ad_348_2))
theorem ad_349_0 : rm_dec prog_14_method_49_code ah_r349_0 = true := by decide +kernel
theorem ad_349 : rm_dec ah_M349.2.1 ah_M349.2.2.2.2 = true := ad_349_0
theorem ad_350_0 : rm_dec prog_14_method_53_code ah_r350_0 = true := by decide +kernel
theorem ad_350 : rm_dec ah_M350.2.1 ah_M350.2.2.2.2 = true := ad_350_0
theorem ad_351_0 : rm_dec prog_14_method_78_code ah_r351_0 = true := by decide +kernel
theorem ad_351_1 : rm_dec prog_14_method_78_code ah_r351_1 = true := by decide +kernel
theorem ad_351_2 : rm_dec prog_14_method_78_code ah_r351_2 = true := by decide +kernel
theorem ad_351_3 : rm_dec prog_14_method_78_code ah_r351_3 = true := by decide +kernel
theorem ad_351_4 : rm_dec prog_14_method_78_code ah_r351_4 = true := by decide +kernel
theorem ad_351 : rm_dec ah_M351.2.1 ah_M351.2.2.2.2 = true := rm_dec_app ad_351_0 (rm_dec_app ad_351_1 (rm_dec_app ad_351_2 (rm_dec_app ad_351_3 (ad_351_4))))
