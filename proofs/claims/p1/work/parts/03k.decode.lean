/-! THIS CLAIM'S TABLES: the rows are what the bytes decode to. -/
theorem ad_406_0 : rm_dec prog_14_method_126_code ah_r406_0 = true := by decide +kernel
theorem ad_406 : rm_dec ah_M406.2.1 ah_M406.2.2.2.2 = true := ad_406_0
theorem ad_407_0 : rm_dec prog_14_method_125_code ah_r407_0 = true := by decide +kernel
theorem ad_407_1 : rm_dec prog_14_method_125_code ah_r407_1 = true := by decide +kernel
theorem ad_407_2 : rm_dec prog_14_method_125_code ah_r407_2 = true := by decide +kernel
theorem ad_407 : rm_dec ah_M407.2.1 ah_M407.2.2.2.2 = true := rm_dec_app ad_407_0 (rm_dec_app ad_407_1 (ad_407_2))
theorem ad_408_0 : rm_dec prog_14_method_124_code ah_r408_0 = true := by decide +kernel
theorem ad_408_1 : rm_dec prog_14_method_124_code ah_r408_1 = true := by decide +kernel
theorem ad_408 : rm_dec ah_M408.2.1 ah_M408.2.2.2.2 = true := rm_dec_app ad_408_0 (ad_408_1)
theorem ad_409_0 : rm_dec prog_14_method_122_code ah_r409_0 = true := by decide +kernel
theorem ad_409 : rm_dec ah_M409.2.1 ah_M409.2.2.2.2 = true := ad_409_0
theorem ad_410_0 : rm_dec prog_14_method_121_code ah_r410_0 = true := by decide +kernel
theorem ad_410 : rm_dec ah_M410.2.1 ah_M410.2.2.2.2 = true := ad_410_0
theorem ad_411_0 : rm_dec prog_14_method_123_code ah_r411_0 = true := by decide +kernel
theorem ad_411_1 : rm_dec prog_14_method_123_code ah_r411_1 = true := by decide +kernel
theorem ad_411 : rm_dec ah_M411.2.1 ah_M411.2.2.2.2 = true := rm_dec_app ad_411_0 (ad_411_1)
theorem ad_412_0 : rm_dec prog_14_method_128_code ah_r412_0 = true := by decide +kernel
theorem ad_412_1 : rm_dec prog_14_method_128_code ah_r412_1 = true := by decide +kernel
theorem ad_412_2 : rm_dec prog_14_method_128_code ah_r412_2 = true := by decide +kernel
theorem ad_412 : rm_dec ah_M412.2.1 ah_M412.2.2.2.2 = true := rm_dec_app ad_412_0 (rm_dec_app ad_412_1 (ad_412_2))
theorem ad_413_0 : rm_dec prog_14_method_129_code ah_r413_0 = true := by decide +kernel
theorem ad_413 : rm_dec ah_M413.2.1 ah_M413.2.2.2.2 = true := ad_413_0
