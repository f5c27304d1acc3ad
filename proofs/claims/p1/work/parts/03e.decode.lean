/-! THIS CLAIM'S TABLES: the rows are what the bytes decode to. -/
theorem ad_216_0 : rm_dec prog_12_method_2_code ah_r216_0 = true := by decide +kernel
theorem ad_216 : rm_dec ah_M216.2.1 ah_M216.2.2.2.2 = true := ad_216_0
theorem ad_217_0 : rm_dec prog_8_method_2_code ah_r217_0 = true := by decide +kernel
theorem ad_217 : rm_dec ah_M217.2.1 ah_M217.2.2.2.2 = true := ad_217_0
theorem ad_218_0 : rm_dec prog_1_method_5_code ah_r218_0 = true := by decide +kernel
theorem ad_218 : rm_dec ah_M218.2.1 ah_M218.2.2.2.2 = true := ad_218_0
theorem ad_219_0 : rm_dec prog_1_method_6_code ah_r219_0 = true := by decide +kernel
theorem ad_219 : rm_dec ah_M219.2.1 ah_M219.2.2.2.2 = true := ad_219_0
theorem ad_220_0 : rm_dec prog_10_method_3_code ah_r220_0 = true := by decide +kernel
theorem ad_220 : rm_dec ah_M220.2.1 ah_M220.2.2.2.2 = true := ad_220_0
theorem ad_221_0 : rm_dec prog_1_method_7_code ah_r221_0 = true := by decide +kernel
theorem ad_221 : rm_dec ah_M221.2.1 ah_M221.2.2.2.2 = true := ad_221_0
theorem ad_222_0 : rm_dec prog_1_method_8_code ah_r222_0 = true := by decide +kernel
theorem ad_222 : rm_dec ah_M222.2.1 ah_M222.2.2.2.2 = true := ad_222_0
theorem ad_223_0 : rm_dec prog_10_method_4_code ah_r223_0 = true := by decide +kernel
theorem ad_223 : rm_dec ah_M223.2.1 ah_M223.2.2.2.2 = true := ad_223_0
theorem ad_224_0 : rm_dec prog_12_method_3_code ah_r224_0 = true := by decide +kernel
theorem ad_224 : rm_dec ah_M224.2.1 ah_M224.2.2.2.2 = true := ad_224_0
theorem ad_225_0 : rm_dec prog_12_method_20_code ah_r225_0 = true := by decide +kernel
theorem ad_225_1 : rm_dec prog_12_method_20_code ah_r225_1 = true := by decide +kernel
theorem ad_225 : rm_dec ah_M225.2.1 ah_M225.2.2.2.2 = true := rm_dec_app ad_225_0 (ad_225_1)
theorem ad_226_0 : rm_dec prog_12_method_21_code ah_r226_0 = true := by decide +kernel
theorem ad_226 : rm_dec ah_M226.2.1 ah_M226.2.2.2.2 = true := ad_226_0
theorem ad_227_0 : rm_dec prog_2_method_1_code ah_r227_0 = true := by decide +kernel
theorem ad_227 : rm_dec ah_M227.2.1 ah_M227.2.2.2.2 = true := ad_227_0
theorem ad_228_0 : rm_dec prog_2_method_2_code ah_r228_0 = true := by decide +kernel
theorem ad_228 : rm_dec ah_M228.2.1 ah_M228.2.2.2.2 = true := ad_228_0
theorem ad_229_0 : rm_dec prog_2_method_3_code ah_r229_0 = true := by decide +kernel
theorem ad_229 : rm_dec ah_M229.2.1 ah_M229.2.2.2.2 = true := ad_229_0
theorem ad_230_0 : rm_dec prog_12_method_17_code ah_r230_0 = true := by decide +kernel
theorem ad_230 : rm_dec ah_M230.2.1 ah_M230.2.2.2.2 = true := ad_230_0
theorem ad_231_0 : rm_dec prog_2_method_14_code ah_r231_0 = true := by decide +kernel
theorem ad_231 : rm_dec ah_M231.2.1 ah_M231.2.2.2.2 = true := ad_231_0
theorem ad_232_0 : rm_dec prog_2_method_18_code ah_r232_0 = true := by decide +kernel
theorem ad_232 : rm_dec ah_M232.2.1 ah_M232.2.2.2.2 = true := ad_232_0
theorem ad_233_0 : rm_dec prog_20_method_50_code ah_r233_0 = true := by decide +kernel
theorem ad_233 : rm_dec ah_M233.2.1 ah_M233.2.2.2.2 = true := ad_233_0
theorem ad_234_0 : rm_dec prog_2_method_5_code ah_r234_0 = true := by decide +kernel
theorem ad_234 : rm_dec ah_M234.2.1 ah_M234.2.2.2.2 = true := ad_234_0
theorem ad_235_0 : rm_dec prog_1_method_9_code ah_r235_0 = true := by decide +kernel
theorem ad_235 : rm_dec ah_M235.2.1 ah_M235.2.2.2.2 = true := ad_235_0
theorem ad_236_0 : rm_dec prog_12_method_4_code ah_r236_0 = true := by decide +kernel
theorem ad_236 : rm_dec ah_M236.2.1 ah_M236.2.2.2.2 = true := ad_236_0
theorem ad_237_0 : rm_dec prog_12_method_7_code ah_r237_0 = true := by decide +kernel
theorem ad_237_1 : rm_dec prog_12_method_7_code ah_r237_1 = true := by decide +kernel
theorem ad_237 : rm_dec ah_M237.2.1 ah_M237.2.2.2.2 = true := rm_dec_app ad_237_0 (ad_237_1)
theorem ad_238_0 : rm_dec prog_2_method_15_code ah_r238_0 = true := by decide +kernel
theorem ad_238 : rm_dec ah_M238.2.1 ah_M238.2.2.2.2 = true := ad_238_0
theorem ad_239_0 : rm_dec prog_2_method_16_code ah_r239_0 = true := by decide +kernel
theorem ad_239 : rm_dec ah_M239.2.1 ah_M239.2.2.2.2 = true := ad_239_0
theorem ad_240_0 : rm_dec prog_10_method_6_code ah_r240_0 = true := by decide +kernel
theorem ad_240 : rm_dec ah_M240.2.1 ah_M240.2.2.2.2 = true := ad_240_0
theorem ad_241_0 : rm_dec prog_2_method_19_code ah_r241_0 = true := by decide +kernel
theorem ad_241 : rm_dec ah_M241.2.1 ah_M241.2.2.2.2 = true := ad_241_0
theorem ad_242_0 : rm_dec prog_2_method_17_code ah_r242_0 = true := by decide +kernel
theorem ad_242 : rm_dec ah_M242.2.1 ah_M242.2.2.2.2 = true := ad_242_0
theorem ad_243_0 : rm_dec prog_2_method_4_code ah_r243_0 = true := by decide +kernel
theorem ad_243 : rm_dec ah_M243.2.1 ah_M243.2.2.2.2 = true := ad_243_0
theorem ad_244_0 : rm_dec prog_2_method_12_code ah_r244_0 = true := by decide +kernel
theorem ad_244_1 : rm_dec prog_2_method_12_code ah_r244_1 = true := by decide +kernel
theorem ad_244 : rm_dec ah_M244.2.1 ah_M244.2.2.2.2 = true := rm_dec_app ad_244_0 (ad_244_1)
theorem ad_245_0 : rm_dec prog_2_method_6_code ah_r245_0 = true := by decide +kernel
theorem ad_245 : rm_dec ah_M245.2.1 ah_M245.2.2.2.2 = true := ad_245_0
theorem ad_246_0 : rm_dec prog_2_method_7_code ah_r246_0 = true := by decide +kernel
theorem ad_246 : rm_dec ah_M246.2.1 ah_M246.2.2.2.2 = true := ad_246_0
theorem ad_247_0 : rm_dec prog_10_method_17_code ah_r247_0 = true := by decide +kernel
theorem ad_247 : rm_dec ah_M247.2.1 ah_M247.2.2.2.2 = true := ad_247_0
theorem ad_248_0 : rm_dec prog_10_method_15_code ah_r248_0 = true := by decide +kernel
theorem ad_248 : rm_dec ah_M248.2.1 ah_M248.2.2.2.2 = true := ad_248_0
theorem ad_249_0 : rm_dec prog_10_method_16_code ah_r249_0 = true := by decide +kernel
theorem ad_249 : rm_dec ah_M249.2.1 ah_M249.2.2.2.2 = true := ad_249_0
theorem ad_250_0 : rm_dec prog_2_method_8_code ah_r250_0 = true := by decide +kernel
theorem ad_250 : rm_dec ah_M250.2.1 ah_M250.2.2.2.2 = true := ad_250_0
theorem ad_251_0 : rm_dec prog_12_method_8_code ah_r251_0 = true := by decide +kernel
theorem ad_251_1 : rm_dec prog_12_method_8_code ah_r251_1 = true := by decide +kernel
theorem ad_251_2 : rm_dec prog_12_method_8_code ah_r251_2 = true := by decide +kernel
theorem ad_251_3 : rm_dec prog_12_method_8_code ah_r251_3 = true := by decide +kernel
theorem ad_251 : rm_dec ah_M251.2.1 ah_M251.2.2.2.2 = true := rm_dec_app ad_251_0 (rm_dec_app ad_251_1 (rm_dec_app ad_251_2 (ad_251_3)))
theorem ad_252_0 : rm_dec prog_2_method_9_code ah_r252_0 = true := by decide +kernel
theorem ad_252 : rm_dec ah_M252.2.1 ah_M252.2.2.2.2 = true := ad_252_0
theorem ad_253_0 : rm_dec prog_2_method_10_code ah_r253_0 = true := by decide +kernel
theorem ad_253 : rm_dec ah_M253.2.1 ah_M253.2.2.2.2 = true := ad_253_0
theorem ad_254_0 : rm_dec prog_2_method_11_code ah_r254_0 = true := by decide +kernel
theorem ad_254 : rm_dec ah_M254.2.1 ah_M254.2.2.2.2 = true := ad_254_0
theorem ad_255_0 : rm_dec prog_12_method_10_code ah_r255_0 = true := by decide +kernel
theorem ad_255 : rm_dec ah_M255.2.1 ah_M255.2.2.2.2 = true := ad_255_0
theorem ad_256_0 : rm_dec prog_12_method_11_code ah_r256_0 = true := by decide +kernel
theorem ad_256_1 : rm_dec prog_12_method_11_code ah_r256_1 = true := by decide +kernel
theorem ad_256 : rm_dec ah_M256.2.1 ah_M256.2.2.2.2 = true := rm_dec_app ad_256_0 (ad_256_1)
theorem ad_257_0 : rm_dec prog_12_method_12_code ah_r257_0 = true := by decide +kernel
theorem ad_257 : rm_dec ah_M257.2.1 ah_M257.2.2.2.2 = true := ad_257_0
theorem ad_258_0 : rm_dec prog_12_method_13_code ah_r258_0 = true := by decide +kernel
theorem ad_258 : rm_dec ah_M258.2.1 ah_M258.2.2.2.2 = true := ad_258_0
theorem ad_259_0 : rm_dec prog_2_method_13_code ah_r259_0 = true := by decide +kernel
theorem ad_259 : rm_dec ah_M259.2.1 ah_M259.2.2.2.2 = true := ad_259_0
theorem ad_260_0 : rm_dec prog_12_method_16_code ah_r260_0 = true := by decide +kernel
theorem ad_260_1 : rm_dec prog_12_method_16_code ah_r260_1 = true := by decide +kernel
theorem ad_260 : rm_dec ah_M260.2.1 ah_M260.2.2.2.2 = true := rm_dec_app ad_260_0 (ad_260_1)
theorem ad_261_0 : rm_dec prog_12_method_9_code ah_r261_0 = true := by decide +kernel
theorem ad_261 : rm_dec ah_M261.2.1 ah_M261.2.2.2.2 = true := ad_261_0
theorem ad_262_0 : rm_dec prog_12_method_15_code ah_r262_0 = true := by decide +kernel
theorem ad_262 : rm_dec ah_M262.2.1 ah_M262.2.2.2.2 = true := ad_262_0
theorem ad_263_0 : rm_dec prog_12_method_18_code ah_r263_0 = true := by decide +kernel
theorem ad_263_1 : rm_dec prog_12_method_18_code ah_r263_1 = true := by decide +kernel
theorem ad_263 : rm_dec ah_M263.2.1 ah_M263.2.2.2.2 = true := rm_dec_app ad_263_0 (ad_263_1)
theorem ad_264_0 : rm_dec prog_12_method_19_code ah_r264_0 = true := by decide +kernel
theorem ad_264_1 : rm_dec prog_12_method_19_code ah_r264_1 = true := by decide +kernel
theorem ad_264 : rm_dec ah_M264.2.1 ah_M264.2.2.2.2 = true := rm_dec_app ad_264_0 (ad_264_1)
theorem ad_265_0 : rm_dec prog_12_method_14_code ah_r265_0 = true := by decide +kernel
theorem ad_265_1 : rm_dec prog_12_method_14_code ah_r265_1 = true := by decide +kernel
theorem ad_265 : rm_dec ah_M265.2.1 ah_M265.2.2.2.2 = true := rm_dec_app ad_265_0 (ad_265_1)
theorem ad_266_0 : rm_dec prog_12_method_6_code ah_r266_0 = true := by decide +kernel
theorem ad_266 : rm_dec ah_M266.2.1 ah_M266.2.2.2.2 = true := ad_266_0
theorem ad_267_0 : rm_dec prog_1_method_10_code ah_r267_0 = true := by decide +kernel
theorem ad_267 : rm_dec ah_M267.2.1 ah_M267.2.2.2.2 = true := ad_267_0
theorem ad_268_0 : rm_dec prog_1_method_11_code ah_r268_0 = true := by decide +kernel
theorem ad_268 : rm_dec ah_M268.2.1 ah_M268.2.2.2.2 = true := ad_268_0
theorem ad_269_0 : rm_dec prog_1_method_12_code ah_r269_0 = true := by decide +kernel
theorem ad_269 : rm_dec ah_M269.2.1 ah_M269.2.2.2.2 = true := ad_269_0
theorem ad_270_0 : rm_dec prog_1_method_13_code ah_r270_0 = true := by decide +kernel
theorem ad_270 : rm_dec ah_M270.2.1 ah_M270.2.2.2.2 = true := ad_270_0
theorem ad_271_0 : rm_dec prog_8_method_7_code ah_r271_0 = true := by decide +kernel
theorem ad_271 : rm_dec ah_M271.2.1 ah_M271.2.2.2.2 = true := ad_271_0
