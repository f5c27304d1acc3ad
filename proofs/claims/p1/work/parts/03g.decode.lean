/-! THIS CLAIM'S TABLES: the rows are what the bytes decode to. -/
theorem ad_302_0 : rm_dec prog_14_method_22_code ah_r302_0 = true := by decide +kernel
theorem ad_302 : rm_dec ah_M302.2.1 ah_M302.2.2.2.2 = true := ad_302_0
theorem ad_303_0 : rm_dec prog_14_method_15_code ah_r303_0 = true := by decide +kernel
theorem ad_303 : rm_dec ah_M303.2.1 ah_M303.2.2.2.2 = true := ad_303_0
theorem ad_304_0 : rm_dec prog_14_method_13_code ah_r304_0 = true := by decide +kernel
theorem ad_304 : rm_dec ah_M304.2.1 ah_M304.2.2.2.2 = true := ad_304_0
theorem ad_305_0 : rm_dec prog_14_method_12_code ah_r305_0 = true := by decide +kernel
theorem ad_305 : rm_dec ah_M305.2.1 ah_M305.2.2.2.2 = true := ad_305_0
theorem ad_306_0 : rm_dec prog_14_method_23_code ah_r306_0 = true := by decide +kernel
theorem ad_306_1 : rm_dec prog_14_method_23_code ah_r306_1 = true := by decide +kernel
theorem ad_306_2 : rm_dec prog_14_method_23_code ah_r306_2 = true := by decide +kernel
theorem ad_306_3 : rm_dec prog_14_method_23_code ah_r306_3 = true := by decide +kernel
theorem ad_306 : rm_dec ah_M306.2.1 ah_M306.2.2.2.2 = true := rm_dec_app ad_306_0 (rm_dec_app ad_306_1 (rm_dec_app ad_306_2 (ad_306_3)))
theorem ad_307_0 : rm_dec prog_14_method_19_code ah_r307_0 = true := by decide +kernel
theorem ad_307 : rm_dec ah_M307.2.1 ah_M307.2.2.2.2 = true := ad_307_0
theorem ad_308_0 : rm_dec prog_14_method_17_code ah_r308_0 = true := by decide +kernel
theorem ad_308 : rm_dec ah_M308.2.1 ah_M308.2.2.2.2 = true := ad_308_0
theorem ad_309_0 : rm_dec prog_14_method_16_code ah_r309_0 = true := by decide +kernel
theorem ad_309 : rm_dec ah_M309.2.1 ah_M309.2.2.2.2 = true := ad_309_0
theorem ad_310_0 : rm_dec prog_14_method_14_code ah_r310_0 = true := by decide +kernel
theorem ad_310 : rm_dec ah_M310.2.1 ah_M310.2.2.2.2 = true := ad_310_0
theorem ad_311_0 : rm_dec prog_14_method_24_code ah_r311_0 = true := by decide +kernel
theorem ad_311_1 : rm_dec prog_14_method_24_code ah_r311_1 = true := by decide +kernel
theorem ad_311 : rm_dec ah_M311.2.1 ah_M311.2.2.2.2 = true := rm_dec_app ad_311_0 (ad_311_1)
theorem ad_312_0 : rm_dec prog_14_method_21_code ah_r312_0 = true := by decide +kernel
theorem ad_312_1 : rm_dec prog_14_method_21_code ah_r312_1 = true := by decide +kernel
theorem ad_312_2 : rm_dec prog_14_method_21_code ah_r312_2 = true := by decide +kernel
theorem ad_312 : rm_dec ah_M312.2.1 ah_M312.2.2.2.2 = true := rm_dec_app ad_312_0 (rm_dec_app ad_312_1 (ad_312_2))
theorem ad_313_0 : rm_dec prog_14_method_20_code ah_r313_0 = true := by decide +kernel
theorem ad_313 : rm_dec ah_M313.2.1 ah_M313.2.2.2.2 = true := ad_313_0
theorem ad_314_0 : rm_dec prog_14_method_25_code ah_r314_0 = true := by decide +kernel
theorem ad_314_1 : rm_dec prog_14_method_25_code ah_r314_1 = true := by decide +kernel
theorem ad_314_2 : rm_dec prog_14_method_25_code ah_r314_2 = true := by decide +kernel
theorem ad_314_3 : rm_dec prog_14_method_25_code ah_r314_3 = true := by decide +kernel
theorem ad_314_4 : rm_dec prog_14_method_25_code ah_r314_4 = true := by decide +kernel
theorem ad_314 : rm_dec ah_M314.2.1 ah_M314.2.2.2.2 = true := rm_dec_app ad_314_0 (rm_dec_app ad_314_1 (rm_dec_app ad_314_2 (rm_dec_app ad_314_3 (ad_314_4))))
theorem ad_315_0 : rm_dec prog_14_method_26_code ah_r315_0 = true := by decide +kernel
theorem ad_315_1 : rm_dec prog_14_method_26_code ah_r315_1 = true := by decide +kernel
theorem ad_315 : rm_dec ah_M315.2.1 ah_M315.2.2.2.2 = true := rm_dec_app ad_315_0 (ad_315_1)
theorem ad_316_0 : rm_dec prog_14_method_11_code ah_r316_0 = true := by decide +kernel
theorem ad_316_1 : rm_dec prog_14_method_11_code ah_r316_1 = true := by decide +kernel
theorem ad_316 : rm_dec ah_M316.2.1 ah_M316.2.2.2.2 = true := rm_dec_app ad_316_0 (ad_316_1)
theorem ad_317_0 : rm_dec prog_14_method_27_code ah_r317_0 = true := by decide +kernel
theorem ad_317_1 : rm_dec prog_14_method_27_code ah_r317_1 = true := by decide +kernel
theorem ad_317 : rm_dec ah_M317.2.1 ah_M317.2.2.2.2 = true := rm_dec_app ad_317_0 (ad_317_1)
theorem ad_318_0 : rm_dec prog_14_method_29_code ah_r318_0 = true := by decide +kernel
theorem ad_318_1 : rm_dec prog_14_method_29_code ah_r318_1 = true := by decide +kernel
theorem ad_318_2 : rm_dec prog_14_method_29_code ah_r318_2 = true := by decide +kernel
theorem ad_318_3 : rm_dec prog_14_method_29_code ah_r318_3 = true := by decide +kernel
theorem ad_318_4 : rm_dec prog_14_method_29_code ah_r318_4 = true := by decide +kernel
theorem ad_318 : rm_dec ah_M318.2.1 ah_M318.2.2.2.2 = true := rm_dec_app ad_318_0 (rm_dec_app ad_318_1 (rm_dec_app ad_318_2 (rm_dec_app ad_318_3 (ad_318_4))))
theorem ad_319_0 : rm_dec prog_14_method_30_code ah_r319_0 = true := by decide +kernel
theorem ad_319_1 : rm_dec prog_14_method_30_code ah_r319_1 = true := by decide +kernel
theorem ad_319_2 : rm_dec prog_14_method_30_code ah_r319_2 = true := by decide +kernel
theorem ad_319 : rm_dec ah_M319.2.1 ah_M319.2.2.2.2 = true := rm_dec_app ad_319_0 (rm_dec_app ad_319_1 (ad_319_2))
theorem ad_320_0 : rm_dec prog_14_method_32_code ah_r320_0 = true := by decide +kernel
theorem ad_320_1 : rm_dec prog_14_method_32_code ah_r320_1 = true := by decide +kernel
theorem ad_320 : rm_dec ah_M320.2.1 ah_M320.2.2.2.2 = true := rm_dec_app ad_320_0 (ad_320_1)
theorem ad_321_0 : rm_dec prog_14_method_33_code ah_r321_0 = true := by decide +kernel
theorem ad_321_1 : rm_dec prog_14_method_33_code ah_r321_1 = true := by decide +kernel
theorem ad_321_2 : rm_dec prog_14_method_33_code ah_r321_2 = true := by decide +kernel
theorem ad_321 : rm_dec ah_M321.2.1 ah_M321.2.2.2.2 = true := rm_dec_app ad_321_0 (rm_dec_app ad_321_1 (ad_321_2))
theorem ad_322_0 : rm_dec prog_14_method_35_code ah_r322_0 = true := by decide +kernel
theorem ad_322_1 : rm_dec prog_14_method_35_code ah_r322_1 = true := by decide +kernel
theorem ad_322_2 : rm_dec prog_14_method_35_code ah_r322_2 = true := by decide +kernel
theorem ad_322_3 : rm_dec prog_14_method_35_code ah_r322_3 = true := by decide +kernel
theorem ad_322_4 : rm_dec prog_14_method_35_code ah_r322_4 = true := by decide +kernel
theorem ad_322_5 : rm_dec prog_14_method_35_code ah_r322_5 = true := by decide +kernel
theorem ad_322_6 : rm_dec prog_14_method_35_code ah_r322_6 = true := by decide +kernel
theorem ad_322_7 : rm_dec prog_14_method_35_code ah_r322_7 = true := by decide +kernel
theorem ad_322 : rm_dec ah_M322.2.1 ah_M322.2.2.2.2 = true := rm_dec_app ad_322_0 (rm_dec_app ad_322_1 (rm_dec_app ad_322_2 (rm_dec_app ad_322_3 (rm_dec_app ad_322_4 (rm_dec_app ad_322_5 (rm_dec_app ad_322_6 (ad_322_7)))))))
