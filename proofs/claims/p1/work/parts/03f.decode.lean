/-! THIS CLAIM'S TABLES: the rows are what the bytes decode to. -/
theorem ad_272_0 : rm_dec prog_12_method_5_code ah_r272_0 = true := by decide +kernel
theorem ad_272 : rm_dec ah_M272.2.1 ah_M272.2.2.2.2 = true := ad_272_0
theorem ad_273_0 : rm_dec prog_8_method_9_code ah_r273_0 = true := by decide +kernel
theorem ad_273_1 : rm_dec prog_8_method_9_code ah_r273_1 = true := by decide +kernel
theorem ad_273_2 : rm_dec prog_8_method_9_code ah_r273_2 = true := by decide +kernel
theorem ad_273 : rm_dec ah_M273.2.1 ah_M273.2.2.2.2 = true := rm_dec_app ad_273_0 (rm_dec_app ad_273_1 (ad_273_2))
theorem ad_274_0 : rm_dec prog_8_method_10_code ah_r274_0 = true := by decide +kernel
theorem ad_274_1 : rm_dec prog_8_method_10_code ah_r274_1 = true := by decide +kernel
theorem ad_274 : rm_dec ah_M274.2.1 ah_M274.2.2.2.2 = true := rm_dec_app ad_274_0 (ad_274_1)
theorem ad_275_0 : rm_dec prog_8_method_11_code ah_r275_0 = true := by decide +kernel
theorem ad_275_1 : rm_dec prog_8_method_11_code ah_r275_1 = true := by decide +kernel
theorem ad_275 : rm_dec ah_M275.2.1 ah_M275.2.2.2.2 = true := rm_dec_app ad_275_0 (ad_275_1)
theorem ad_276_0 : rm_dec prog_8_method_5_code ah_r276_0 = true := by decide +kernel
theorem ad_276 : rm_dec ah_M276.2.1 ah_M276.2.2.2.2 = true := ad_276_0
theorem ad_277_0 : rm_dec prog_8_method_6_code ah_r277_0 = true := by decide +kernel
theorem ad_277 : rm_dec ah_M277.2.1 ah_M277.2.2.2.2 = true := ad_277_0
theorem ad_278_0 : rm_dec prog_8_method_12_code ah_r278_0 = true := by decide +kernel
theorem ad_278_1 : rm_dec prog_8_method_12_code ah_r278_1 = true := by decide +kernel
theorem ad_278 : rm_dec ah_M278.2.1 ah_M278.2.2.2.2 = true := rm_dec_app ad_278_0 (ad_278_1)
theorem ad_279_0 : rm_dec prog_8_method_3_code ah_r279_0 = true := by decide +kernel
theorem ad_279 : rm_dec ah_M279.2.1 ah_M279.2.2.2.2 = true := ad_279_0
theorem ad_280_0 : rm_dec prog_1_method_14_code ah_r280_0 = true := by decide +kernel
theorem ad_280 : rm_dec ah_M280.2.1 ah_M280.2.2.2.2 = true := ad_280_0
theorem ad_281_0 : rm_dec prog_8_method_8_code ah_r281_0 = true := by decide +kernel
theorem ad_281_1 : rm_dec prog_8_method_8_code ah_r281_1 = true := by decide +kernel
theorem ad_281 : rm_dec ah_M281.2.1 ah_M281.2.2.2.2 = true := rm_dec_app ad_281_0 (ad_281_1)
theorem ad_282_0 : rm_dec prog_1_method_15_code ah_r282_0 = true := by decide +kernel
theorem ad_282 : rm_dec ah_M282.2.1 ah_M282.2.2.2.2 = true := ad_282_0
theorem ad_283_0 : rm_dec prog_8_method_4_code ah_r283_0 = true := by decide +kernel
theorem ad_283 : rm_dec ah_M283.2.1 ah_M283.2.2.2.2 = true := ad_283_0
theorem ad_284_0 : rm_dec prog_22_method_88_code ah_r284_0 = true := by decide +kernel
theorem ad_284 : rm_dec ah_M284.2.1 ah_M284.2.2.2.2 = true := ad_284_0
theorem ad_285_0 : rm_dec prog_16_method_14_code ah_r285_0 = true := by decide +kernel
theorem ad_285 : rm_dec ah_M285.2.1 ah_M285.2.2.2.2 = true := ad_285_0
theorem ad_286_0 : rm_dec prog_14_method_1_code ah_r286_0 = true := by decide +kernel
theorem ad_286_1 : rm_dec prog_14_method_1_code ah_r286_1 = true := by decide +kernel
theorem ad_286 : rm_dec ah_M286.2.1 ah_M286.2.2.2.2 = true := rm_dec_app ad_286_0 (ad_286_1)
theorem ad_287_0 : rm_dec prog_14_method_2_code ah_r287_0 = true := by decide +kernel
theorem ad_287 : rm_dec ah_M287.2.1 ah_M287.2.2.2.2 = true := ad_287_0
theorem ad_288_0 : rm_dec prog_14_method_3_code ah_r288_0 = true := by decide +kernel
theorem ad_288_1 : rm_dec prog_14_method_3_code ah_r288_1 = true := by decide +kernel
theorem ad_288_2 : rm_dec prog_14_method_3_code ah_r288_2 = true := by decide +kernel
theorem ad_288_3 : rm_dec prog_14_method_3_code ah_r288_3 = true := by decide +kernel
theorem ad_288_4 : rm_dec prog_14_method_3_code ah_r288_4 = true := by decide +kernel
theorem ad_288_5 : rm_dec prog_14_method_3_code ah_r288_5 = true := by decide +kernel
theorem ad_288_6 : rm_dec prog_14_method_3_code ah_r288_6 = true := by decide +kernel
theorem ad_288_7 : rm_dec prog_14_method_3_code ah_r288_7 = true := by decide +kernel
theorem ad_288_8 : rm_dec prog_14_method_3_code ah_r288_8 = true := by decide +kernel
theorem ad_288 : rm_dec ah_M288.2.1 ah_M288.2.2.2.2 = true := rm_dec_app ad_288_0 (rm_dec_app ad_288_1 (rm_dec_app ad_288_2 (rm_dec_app ad_288_3 (rm_dec_app ad_288_4 (rm_dec_app ad_288_5 (rm_dec_app ad_288_6 (rm_dec_app ad_288_7 (ad_288_8))))))))
theorem ad_289_0 : rm_dec prog_14_method_48_code ah_r289_0 = true := by decide +kernel
theorem ad_289_1 : rm_dec prog_14_method_48_code ah_r289_1 = true := by decide +kernel
theorem ad_289 : rm_dec ah_M289.2.1 ah_M289.2.2.2.2 = true := rm_dec_app ad_289_0 (ad_289_1)
theorem ad_290_0 : rm_dec prog_14_method_44_code ah_r290_0 = true := by decide +kernel
theorem ad_290 : rm_dec ah_M290.2.1 ah_M290.2.2.2.2 = true := ad_290_0
theorem ad_291_0 : rm_dec prog_14_method_45_code ah_r291_0 = true := by decide +kernel
theorem ad_291 : rm_dec ah_M291.2.1 ah_M291.2.2.2.2 = true := ad_291_0
theorem ad_292_0 : rm_dec prog_14_method_46_code ah_r292_0 = true := by decide +kernel
theorem ad_292 : rm_dec ah_M292.2.1 ah_M292.2.2.2.2 = true := ad_292_0
theorem ad_293_0 : rm_dec prog_14_method_47_code ah_r293_0 = true := by decide +kernel
theorem ad_293 : rm_dec ah_M293.2.1 ah_M293.2.2.2.2 = true := ad_293_0
theorem ad_294_0 : rm_dec prog_14_method_85_code ah_r294_0 = true := by decide +kernel
theorem ad_294_1 : rm_dec prog_14_method_85_code ah_r294_1 = true := by decide +kernel
theorem ad_294_2 : rm_dec prog_14_method_85_code ah_r294_2 = true := by decide +kernel
theorem ad_294 : rm_dec ah_M294.2.1 ah_M294.2.2.2.2 = true := rm_dec_app ad_294_0 (rm_dec_app ad_294_1 (ad_294_2))
theorem ad_295_0 : rm_dec prog_14_method_8_code ah_r295_0 = true := by decide +kernel
theorem ad_295_1 : rm_dec prog_14_method_8_code ah_r295_1 = true := by decide +kernel
theorem ad_295_2 : rm_dec prog_14_method_8_code ah_r295_2 = true := by decide +kernel
theorem ad_295 : rm_dec ah_M295.2.1 ah_M295.2.2.2.2 = true := rm_dec_app ad_295_0 (rm_dec_app ad_295_1 (ad_295_2))
theorem ad_296_0 : rm_dec prog_14_method_7_code ah_r296_0 = true := by decide +kernel
theorem ad_296 : rm_dec ah_M296.2.1 ah_M296.2.2.2.2 = true := ad_296_0
theorem ad_297_0 : rm_dec prog_14_method_4_code ah_r297_0 = true := by decide +kernel
theorem ad_297 : rm_dec ah_M297.2.1 ah_M297.2.2.2.2 = true := ad_297_0
theorem ad_298_0 : rm_dec prog_14_method_5_code ah_r298_0 = true := by decide +kernel
theorem ad_298 : rm_dec ah_M298.2.1 ah_M298.2.2.2.2 = true := ad_298_0
theorem ad_299_0 : rm_dec prog_14_method_6_code ah_r299_0 = true := by decide +kernel
theorem ad_299 : rm_dec ah_M299.2.1 ah_M299.2.2.2.2 = true := ad_299_0
theorem ad_300_0 : rm_dec prog_14_method_9_code ah_r300_0 = true := by decide +kernel
theorem ad_300_1 : rm_dec prog_14_method_9_code ah_r300_1 = true := by decide +kernel
theorem ad_300_2 : rm_dec prog_14_method_9_code ah_r300_2 = true := by decide +kernel
theorem ad_300_3 : rm_dec prog_14_method_9_code ah_r300_3 = true := by decide +kernel
theorem ad_300 : rm_dec ah_M300.2.1 ah_M300.2.2.2.2 = true := rm_dec_app ad_300_0 (rm_dec_app ad_300_1 (rm_dec_app ad_300_2 (ad_300_3)))
theorem ad_301_0 : rm_dec prog_14_method_10_code ah_r301_0 = true := by decide +kernel
theorem ad_301_1 : rm_dec prog_14_method_10_code ah_r301_1 = true := by decide +kernel
theorem ad_301_2 : rm_dec prog_14_method_10_code ah_r301_2 = true := by decide +kernel
theorem ad_301 : rm_dec ah_M301.2.1 ah_M301.2.2.2.2 = true := rm_dec_app ad_301_0 (rm_dec_app ad_301_1 (ad_301_2))
