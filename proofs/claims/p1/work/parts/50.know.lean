/-! THIS CLAIM'S TABLES: all that is known of them. -/
set_option maxRecDepth 20000 in
theorem ac_0 : ∀ w ∈ u_ws "ActorHouse" ah_T0 6, w ∈ ah_Tg ++ ah_Tb := rm_co (ah_l tg_175) (rm_co (ah_l tg_177) (rm_co (ah_l tg_179) (rm_co (ah_l tg_181) (rm_co (ah_l tg_183) (rm_co (ah_l tg_185) (rm_nl))))))
theorem at_0 : ∀ k, k < 6 → parseFieldDescriptor (ah_T0 k).2.2.1 = some (ah_FT 0 k) := by decide +kernel
theorem an_0 : ∀ a, a < 6 → ∀ b, b < 6 → a ≠ b → (ah_T0 a).2.1 ≠ (ah_T0 b).2.1 := by decide +kernel
theorem av_0 : ∀ j, j < 6 → (ah_DV 0)[j]? = some (defaultValue (ah_FT 0 j)) := by decide +kernel
set_option maxRecDepth 20000 in
theorem ac_1 : ∀ w ∈ u_ws "java/lang/StringBuilder" ah_T1 4, w ∈ ah_Tg ++ ah_Tb := rm_co (ah_l tg_60) (rm_co (ah_l tg_62) (rm_co (ah_l tg_64) (rm_co (ah_l tg_66) (rm_nl))))
theorem at_1 : ∀ k, k < 4 → parseFieldDescriptor (ah_T1 k).2.2.1 = some (ah_FT 1 k) := by decide +kernel
theorem an_1 : ∀ a, a < 4 → ∀ b, b < 4 → a ≠ b → (ah_T1 a).2.1 ≠ (ah_T1 b).2.1 := by decide +kernel
theorem av_1 : ∀ j, j < 4 → (ah_DV 1)[j]? = some (defaultValue (ah_FT 1 j)) := by decide +kernel
set_option maxRecDepth 20000 in
theorem ac_2 : ∀ w ∈ u_ws "ActorHouse$World" ah_T2 16, w ∈ ah_Tg ++ ah_Tb := rm_co (ah_l tg_105) (rm_co (ah_l tg_107) (rm_co (ah_l tg_109) (rm_co (ah_l tg_111) (rm_co (ah_l tg_113) (rm_co (ah_l tg_115) (rm_co (ah_l tg_117) (rm_co (ah_l tg_119) (rm_co (ah_l tg_121) (rm_co (ah_l tg_123) (rm_co (ah_l tg_125) (rm_co (ah_l tg_127) (rm_co (ah_l tg_129) (rm_co (ah_l tg_131) (rm_co (ah_l tg_133) (rm_co (ah_l tg_135) (rm_nl))))))))))))))))
theorem at_2 : ∀ k, k < 16 → parseFieldDescriptor (ah_T2 k).2.2.1 = some (ah_FT 2 k) := by decide +kernel
theorem an_2 : ∀ a, a < 16 → ∀ b, b < 16 → a ≠ b → (ah_T2 a).2.1 ≠ (ah_T2 b).2.1 := by decide +kernel
theorem av_2 : ∀ j, j < 16 → (ah_DV 2)[j]? = some (defaultValue (ah_FT 2 j)) := by decide +kernel
set_option maxRecDepth 20000 in
theorem ac_3 : ∀ w ∈ u_ws "ActorHouse$Output" ah_T3 7, w ∈ ah_Tg ++ ah_Tb := rm_co (ah_l tg_154) (rm_co (ah_l tg_156) (rm_co (ah_l tg_158) (rm_co (ah_l tg_160) (rm_co (ah_l tg_162) (rm_co (ah_l tg_164) (rm_co (ah_l tg_166) (rm_nl)))))))
theorem at_3 : ∀ k, k < 7 → parseFieldDescriptor (ah_T3 k).2.2.1 = some (ah_FT 3 k) := by decide +kernel
theorem an_3 : ∀ a, a < 7 → ∀ b, b < 7 → a ≠ b → (ah_T3 a).2.1 ≠ (ah_T3 b).2.1 := by decide +kernel
theorem av_3 : ∀ j, j < 7 → (ah_DV 3)[j]? = some (defaultValue (ah_FT 3 j)) := by decide +kernel
set_option maxRecDepth 20000 in
theorem ac_4 : ∀ w ∈ u_ws "ActorHouse$Program" ah_T4 12, w ∈ ah_Tg ++ ah_Tb := rm_co (ah_l tg_387) (rm_co (ah_l tg_389) (rm_co (ah_l tg_391) (rm_co (ah_l tg_393) (rm_co (ah_l tg_395) (rm_co (ah_l tg_397) (rm_co (ah_l tg_399) (rm_co (ah_l tg_401) (rm_co (ah_l tg_403) (rm_co (ah_l tg_405) (rm_co (ah_l tg_407) (rm_co (ah_l tg_409) (rm_nl))))))))))))
theorem at_4 : ∀ k, k < 12 → parseFieldDescriptor (ah_T4 k).2.2.1 = some (ah_FT 4 k) := by decide +kernel
theorem an_4 : ∀ a, a < 12 → ∀ b, b < 12 → a ≠ b → (ah_T4 a).2.1 ≠ (ah_T4 b).2.1 := by decide +kernel
theorem av_4 : ∀ j, j < 12 → (ah_DV 4)[j]? = some (defaultValue (ah_FT 4 j)) := by decide +kernel
set_option maxRecDepth 20000 in
theorem ac_5 : ∀ w ∈ u_ws "java/util/ArrayList" ah_T5 3, w ∈ ah_Tg ++ ah_Tb := rm_co (ah_l tg_351) (rm_co (ah_l tg_353) (rm_co (ah_l tg_355) (rm_nl)))
theorem at_5 : ∀ k, k < 3 → parseFieldDescriptor (ah_T5 k).2.2.1 = some (ah_FT 5 k) := by decide +kernel
theorem an_5 : ∀ a, a < 3 → ∀ b, b < 3 → a ≠ b → (ah_T5 a).2.1 ≠ (ah_T5 b).2.1 := by decide +kernel
theorem av_5 : ∀ j, j < 3 → (ah_DV 5)[j]? = some (defaultValue (ah_FT 5 j)) := by decide +kernel
set_option maxRecDepth 20000 in
theorem ac_6 : ∀ w ∈ u_ws "ActorHouse$Reader" ah_T6 9, w ∈ ah_Tg ++ ah_Tb := rm_co (ah_l tg_492) (rm_co (ah_l tg_494) (rm_co (ah_l tg_496) (rm_co (ah_l tg_498) (rm_co (ah_l tg_500) (rm_co (ah_l tg_502) (rm_co (ah_l tg_504) (rm_co (ah_l tg_506) (rm_co (ah_l tg_508) (rm_nl)))))))))
theorem at_6 : ∀ k, k < 9 → parseFieldDescriptor (ah_T6 k).2.2.1 = some (ah_FT 6 k) := by decide +kernel
theorem an_6 : ∀ a, a < 9 → ∀ b, b < 9 → a ≠ b → (ah_T6 a).2.1 ≠ (ah_T6 b).2.1 := by decide +kernel
theorem av_6 : ∀ j, j < 9 → (ah_DV 6)[j]? = some (defaultValue (ah_FT 6 j)) := by decide +kernel
set_option maxRecDepth 20000 in
theorem ac_7 : ∀ w ∈ u_ws "java/lang/String" ah_T7 4, w ∈ ah_Tg ++ ah_Tb := rm_co (ah_l tg_459) (rm_co (ah_l tg_461) (rm_co (ah_l tg_463) (rm_co (ah_l tg_465) (rm_nl))))
theorem at_7 : ∀ k, k < 4 → parseFieldDescriptor (ah_T7 k).2.2.1 = some (ah_FT 7 k) := by decide +kernel
theorem an_7 : ∀ a, a < 4 → ∀ b, b < 4 → a ≠ b → (ah_T7 a).2.1 ≠ (ah_T7 b).2.1 := by decide +kernel
theorem av_7 : ∀ j, j < 4 → (ah_DV 7)[j]? = some (defaultValue (ah_FT 7 j)) := by decide +kernel
set_option maxRecDepth 20000 in
theorem ac_8 : ∀ w ∈ u_ws "ActorHouse$Parser" ah_T8 2, w ∈ ah_Tg ++ ah_Tb := rm_co (ah_l tg_624) (rm_co (ah_l tg_626) (rm_nl))
theorem at_8 : ∀ k, k < 2 → parseFieldDescriptor (ah_T8 k).2.2.1 = some (ah_FT 8 k) := by decide +kernel
theorem an_8 : ∀ a, a < 2 → ∀ b, b < 2 → a ≠ b → (ah_T8 a).2.1 ≠ (ah_T8 b).2.1 := by decide +kernel
theorem av_8 : ∀ j, j < 2 → (ah_DV 8)[j]? = some (defaultValue (ah_FT 8 j)) := by decide +kernel
set_option maxRecDepth 20000 in
theorem ac_9 : ∀ w ∈ u_ws "ActorHouse$Kind" ah_T9 7, w ∈ ah_Tg ++ ah_Tb := rm_co (ah_l tg_723) (rm_co (ah_l tg_725) (rm_co (ah_l tg_727) (rm_co (ah_l tg_729) (rm_co (ah_l tg_731) (rm_co (ah_l tg_733) (rm_co (ah_l tg_735) (rm_nl)))))))
theorem at_9 : ∀ k, k < 7 → parseFieldDescriptor (ah_T9 k).2.2.1 = some (ah_FT 9 k) := by decide +kernel
theorem an_9 : ∀ a, a < 7 → ∀ b, b < 7 → a ≠ b → (ah_T9 a).2.1 ≠ (ah_T9 b).2.1 := by decide +kernel
theorem av_9 : ∀ j, j < 7 → (ah_DV 9)[j]? = some (defaultValue (ah_FT 9 j)) := by decide +kernel
set_option maxRecDepth 20000 in
theorem ac_10 : ∀ w ∈ u_ws "ActorHouse$Decl" ah_T10 9, w ∈ ah_Tg ++ ah_Tb := rm_co (ah_l tg_839) (rm_co (ah_l tg_841) (rm_co (ah_l tg_843) (rm_co (ah_l tg_845) (rm_co (ah_l tg_847) (rm_co (ah_l tg_849) (rm_co (ah_l tg_851) (rm_co (ah_l tg_853) (rm_co (ah_l tg_855) (rm_nl)))))))))
theorem at_10 : ∀ k, k < 9 → parseFieldDescriptor (ah_T10 k).2.2.1 = some (ah_FT 10 k) := by decide +kernel
theorem an_10 : ∀ a, a < 9 → ∀ b, b < 9 → a ≠ b → (ah_T10 a).2.1 ≠ (ah_T10 b).2.1 := by decide +kernel
theorem av_10 : ∀ j, j < 9 → (ah_DV 10)[j]? = some (defaultValue (ah_FT 10 j)) := by decide +kernel
set_option maxRecDepth 20000 in
theorem ac_11 : ∀ w ∈ u_ws "ActorHouse$Method" ah_T11 14, w ∈ ah_Tg ++ ah_Tb := rm_co (ah_l tg_928) (rm_co (ah_l tg_930) (rm_co (ah_l tg_932) (rm_co (ah_l tg_934) (rm_co (ah_l tg_936) (rm_co (ah_l tg_938) (rm_co (ah_l tg_940) (rm_co (ah_l tg_942) (rm_co (ah_l tg_944) (rm_co (ah_l tg_946) (rm_co (ah_l tg_948) (rm_co (ah_l tg_950) (rm_co (ah_l tg_952) (rm_co (ah_l tg_954) (rm_nl))))))))))))))
theorem at_11 : ∀ k, k < 14 → parseFieldDescriptor (ah_T11 k).2.2.1 = some (ah_FT 11 k) := by decide +kernel
theorem an_11 : ∀ a, a < 14 → ∀ b, b < 14 → a ≠ b → (ah_T11 a).2.1 ≠ (ah_T11 b).2.1 := by decide +kernel
theorem av_11 : ∀ j, j < 14 → (ah_DV 11)[j]? = some (defaultValue (ah_FT 11 j)) := by decide +kernel
set_option maxRecDepth 20000 in
theorem ac_12 : ∀ w ∈ u_ws "ActorHouse$Node" ah_T12 13, w ∈ ah_Tg ++ ah_Tb := rm_co (ah_l tg_1011) (rm_co (ah_l tg_1013) (rm_co (ah_l tg_1015) (rm_co (ah_l tg_1017) (rm_co (ah_l tg_1019) (rm_co (ah_l tg_1021) (rm_co (ah_l tg_1023) (rm_co (ah_l tg_1025) (rm_co (ah_l tg_1027) (rm_co (ah_l tg_1029) (rm_co (ah_l tg_1031) (rm_co (ah_l tg_1033) (rm_co (ah_l tg_1035) (rm_nl)))))))))))))
theorem at_12 : ∀ k, k < 13 → parseFieldDescriptor (ah_T12 k).2.2.1 = some (ah_FT 12 k) := by decide +kernel
theorem an_12 : ∀ a, a < 13 → ∀ b, b < 13 → a ≠ b → (ah_T12 a).2.1 ≠ (ah_T12 b).2.1 := by decide +kernel
theorem av_12 : ∀ j, j < 13 → (ah_DV 12)[j]? = some (defaultValue (ah_FT 12 j)) := by decide +kernel
set_option maxRecDepth 20000 in
theorem ac_13 : ∀ w ∈ u_ws "ActorHouse$Checker" ah_T13 7, w ∈ ah_Tg ++ ah_Tb := rm_co (ah_l tg_1240) (rm_co (ah_l tg_1242) (rm_co (ah_l tg_1244) (rm_co (ah_l tg_1246) (rm_co (ah_l tg_1248) (rm_co (ah_l tg_1250) (rm_co (ah_l tg_1252) (rm_nl)))))))
theorem at_13 : ∀ k, k < 7 → parseFieldDescriptor (ah_T13 k).2.2.1 = some (ah_FT 13 k) := by decide +kernel
theorem an_13 : ∀ a, a < 7 → ∀ b, b < 7 → a ≠ b → (ah_T13 a).2.1 ≠ (ah_T13 b).2.1 := by decide +kernel
theorem av_13 : ∀ j, j < 7 → (ah_DV 13)[j]? = some (defaultValue (ah_FT 13 j)) := by decide +kernel
set_option maxRecDepth 20000 in
theorem ac_14 : ∀ w ∈ u_ws "ActorHouse$Actor" ah_T14 14, w ∈ ah_Tg ++ ah_Tb := rm_co (ah_l tg_1581) (rm_co (ah_l tg_1583) (rm_co (ah_l tg_1585) (rm_co (ah_l tg_1587) (rm_co (ah_l tg_1589) (rm_co (ah_l tg_1591) (rm_co (ah_l tg_1593) (rm_co (ah_l tg_1595) (rm_co (ah_l tg_1597) (rm_co (ah_l tg_1599) (rm_co (ah_l tg_1601) (rm_co (ah_l tg_1603) (rm_co (ah_l tg_1605) (rm_co (ah_l tg_1607) (rm_nl))))))))))))))
theorem at_14 : ∀ k, k < 14 → parseFieldDescriptor (ah_T14 k).2.2.1 = some (ah_FT 14 k) := by decide +kernel
theorem an_14 : ∀ a, a < 14 → ∀ b, b < 14 → a ≠ b → (ah_T14 a).2.1 ≠ (ah_T14 b).2.1 := by decide +kernel
theorem av_14 : ∀ j, j < 14 → (ah_DV 14)[j]? = some (defaultValue (ah_FT 14 j)) := by decide +kernel
set_option maxRecDepth 20000 in
theorem ac_15 : ∀ w ∈ u_ws "ActorHouseModel" ah_T15 115, w ∈ ah_Tg ++ ah_Tb := rm_co (ah_l tg_2007) (rm_co (ah_l tg_2009) (rm_co (ah_l tg_2011) (rm_co (ah_l tg_2013) (rm_co (ah_l tg_2015) (rm_co (ah_l tg_2017) (rm_co (ah_l tg_2019) (rm_co (ah_l tg_2021) (rm_co (ah_l tg_2023) (rm_co (ah_l tg_2025) (rm_co (ah_l tg_2027) (rm_co (ah_l tg_2029) (rm_co (ah_l tg_2031) (rm_co (ah_l tg_2033) (rm_co (ah_l tg_2035) (rm_co (ah_l tg_2037) (rm_co (ah_l tg_2039) (rm_co (ah_l tg_2041) (rm_co (ah_l tg_2043) (rm_co (ah_l tg_2045) (rm_co (ah_l tg_2047) (rm_co (ah_l tg_2049) (rm_co (ah_l tg_2051) (rm_co (ah_l tg_2053) (rm_co (ah_l tg_2055) (rm_co (ah_l tg_2057) (rm_co (ah_l tg_2059) (rm_co (ah_l tg_2061) (rm_co (ah_l tg_2063) (rm_co (ah_l tg_2065) (rm_co (ah_l tg_2067) (rm_co (ah_l tg_2069) (rm_co (ah_l tg_2071) (rm_co (ah_l tg_2073) (rm_co (ah_l tg_2075) (rm_co (ah_l tg_2077) (rm_co (ah_l tg_2079) (rm_co (ah_l tg_2081) (rm_co (ah_l tg_2083) (rm_co (ah_l tg_2085) (rm_co (ah_l tg_2087) (rm_co (ah_l tg_2089) (rm_co (ah_l tg_2091) (rm_co (ah_l tg_2093) (rm_co (ah_l tg_2095) (rm_co (ah_l tg_2097) (rm_co (ah_l tg_2099) (rm_co (ah_l tg_2101) (rm_co (ah_l tg_2103) (rm_co (ah_l tg_2105) (rm_co (ah_l tg_2107) (rm_co (ah_l tg_2109) (rm_co (ah_l tg_2111) (rm_co (ah_l tg_2113) (rm_co (ah_l tg_2115) (rm_co (ah_l tg_2117) (rm_co (ah_l tg_2119) (rm_co (ah_l tg_2121) (rm_co (ah_l tg_2123) (rm_co (ah_l tg_2125) (rm_co (ah_l tg_2127) (rm_co (ah_l tg_2129) (rm_co (ah_l tg_2131) (rm_co (ah_l tg_2133) (rm_co (ah_l tg_2135) (rm_co (ah_l tg_2137) (rm_co (ah_l tg_2139) (rm_co (ah_l tg_2141) (rm_co (ah_l tg_2143) (rm_co (ah_l tg_2145) (rm_co (ah_l tg_2147) (rm_co (ah_l tg_2149) (rm_co (ah_l tg_2151) (rm_co (ah_l tg_2153) (rm_co (ah_l tg_2155) (rm_co (ah_l tg_2157) (rm_co (ah_l tg_2159) (rm_co (ah_l tg_2161) (rm_co (ah_l tg_2163) (rm_co (ah_l tg_2165) (rm_co (ah_l tg_2167) (rm_co (ah_l tg_2169) (rm_co (ah_l tg_2171) (rm_co (ah_l tg_2173) (rm_co (ah_l tg_2175) (rm_co (ah_l tg_2177) (rm_co (ah_l tg_2179) (rm_co (ah_l tg_2181) (rm_co (ah_l tg_2183) (rm_co (ah_l tg_2185) (rm_co (ah_l tg_2187) (rm_co (ah_l tg_2189) (rm_co (ah_l tg_2191) (rm_co (ah_l tg_2193) (rm_co (ah_l tg_2195) (rm_co (ah_l tg_2197) (rm_co (ah_l tg_2199) (rm_co (ah_l tg_2201) (rm_co (ah_l tg_2203) (rm_co (ah_l tg_2205) (rm_co (ah_l tg_2207) (rm_co (ah_l tg_2209) (rm_co (ah_l tg_2211) (rm_co (ah_l tg_2213) (rm_co (ah_l tg_2215) (rm_co (ah_l tg_2217) (rm_co (ah_l tg_2219) (rm_co (ah_l tg_2221) (rm_co (ah_l tg_2223) (rm_co (ah_l tg_2225) (rm_co (ah_l tg_2227) (rm_co (ah_l tg_2229) (rm_co (ah_l tg_2231) (rm_co (ah_l tg_2233) (rm_co (ah_l tg_2235) (rm_nl)))))))))))))))))))))))))))))))))))))))))))))))))))))))))))))))))))))))))))))))))))))))))))))))))))))))))))))))))))
theorem at_15 : ∀ k, k < 115 → parseFieldDescriptor (ah_T15 k).2.2.1 = some (ah_FT 15 k) := by decide +kernel
theorem an_15 : ∀ a, a < 115 → ∀ b, b < 115 → a ≠ b → (ah_T15 a).2.1 ≠ (ah_T15 b).2.1 := by decide +kernel
theorem av_15 : ∀ j, j < 115 → (ah_DV 15)[j]? = some (defaultValue (ah_FT 15 j)) := by decide +kernel
set_option maxRecDepth 20000 in
theorem ac_16 : ∀ w ∈ u_ws "java/lang/String" ah_T16 2, w ∈ ah_Tg ++ ah_Tb := rm_co (ah_l tg_459) (rm_co (ah_l tg_461) (rm_nl))
theorem at_16 : ∀ k, k < 2 → parseFieldDescriptor (ah_T16 k).2.2.1 = some (ah_FT 16 k) := by decide +kernel
theorem an_16 : ∀ a, a < 2 → ∀ b, b < 2 → a ≠ b → (ah_T16 a).2.1 ≠ (ah_T16 b).2.1 := by decide +kernel
theorem av_16 : ∀ j, j < 2 → (ah_DV 16)[j]? = some (defaultValue (ah_FT 16 j)) := by decide +kernel
theorem ah_each {F : Nat → vw_C → Prop} (h0 : F 0 ("ActorHouse", ah_T0, 6)) (h1 : F 1 ("java/lang/StringBuilder", ah_T1, 4)) (h2 : F 2 ("ActorHouse$World", ah_T2, 16)) (h3 : F 3 ("ActorHouse$Output", ah_T3, 7)) (h4 : F 4 ("ActorHouse$Program", ah_T4, 12)) (h5 : F 5 ("java/util/ArrayList", ah_T5, 3)) (h6 : F 6 ("ActorHouse$Reader", ah_T6, 9)) (h7 : F 7 ("java/lang/String", ah_T7, 4)) (h8 : F 8 ("ActorHouse$Parser", ah_T8, 2)) (h9 : F 9 ("ActorHouse$Kind", ah_T9, 7)) (h10 : F 10 ("ActorHouse$Decl", ah_T10, 9)) (h11 : F 11 ("ActorHouse$Method", ah_T11, 14)) (h12 : F 12 ("ActorHouse$Node", ah_T12, 13)) (h13 : F 13 ("ActorHouse$Checker", ah_T13, 7)) (h14 : F 14 ("ActorHouse$Actor", ah_T14, 14)) (h15 : F 15 ("ActorHouseModel", ah_T15, 115)) (h16 : F 16 ("java/lang/String", ah_T16, 2)) : ∀ (ci : Nat) (r : vw_C), ah_cl[ci]? = some r → F ci r := by
  intro ci r h
  match ci, h with
  | 0, h => cases h; exact h0
  | 1, h => cases h; exact h1
  | 2, h => cases h; exact h2
  | 3, h => cases h; exact h3
  | 4, h => cases h; exact h4
  | 5, h => cases h; exact h5
  | 6, h => cases h; exact h6
  | 7, h => cases h; exact h7
  | 8, h => cases h; exact h8
  | 9, h => cases h; exact h9
  | 10, h => cases h; exact h10
  | 11, h => cases h; exact h11
  | 12, h => cases h; exact h12
  | 13, h => cases h; exact h13
  | 14, h => cases h; exact h14
  | 15, h => cases h; exact h15
  | 16, h => cases h; exact h16
  | k + 17, h => simp [ah_cl] at h
theorem ah_Cl : rm_Cl (ah_Tg ++ ah_Tb) ah_cl := ah_each ac_0 ac_1 ac_2 ac_3 ac_4 ac_5 ac_6 ac_7 ac_8 ac_9 ac_10 ac_11 ac_12 ac_13 ac_14 ac_15 ac_16
theorem ah_Cn : rm_Cn ah_cl ah_FT ah_DV := ah_each ⟨at_0, an_0, av_0⟩ ⟨at_1, an_1, av_1⟩ ⟨at_2, an_2, av_2⟩ ⟨at_3, an_3, av_3⟩ ⟨at_4, an_4, av_4⟩ ⟨at_5, an_5, av_5⟩ ⟨at_6, an_6, av_6⟩ ⟨at_7, an_7, av_7⟩ ⟨at_8, an_8, av_8⟩ ⟨at_9, an_9, av_9⟩ ⟨at_10, an_10, av_10⟩ ⟨at_11, an_11, av_11⟩ ⟨at_12, an_12, av_12⟩ ⟨at_13, an_13, av_13⟩ ⟨at_14, an_14, av_14⟩ ⟨at_15, an_15, av_15⟩ ⟨at_16, an_16, av_16⟩
theorem ah_ca : ∀ (ci t : Nat) (r : vw_C), ah_CA ci t = true → ah_cl[ci]? = some r → ∃ E : String, ah_TY[t]? = some (.object E) ∧ (r.1 = E ∨ Cond.castable r.1 E ∈ ah_Tg ++ ah_Tb) := by
  intro ci t r h hr
  simp only [ah_CA, Bool.or_eq_true, Bool.and_eq_true, beq_iff_eq] at h
  rcases h with (((((⟨rfl, rfl⟩ | ⟨rfl, rfl⟩) | ⟨rfl, rfl⟩) | ⟨rfl, rfl⟩) | ⟨rfl, rfl⟩) | ⟨rfl, rfl⟩)
  · cases hr; exact ⟨"java/lang/Object", rfl, Or.inr (ah_r tb_2757)⟩
  · cases hr; exact ⟨"java/lang/Object", rfl, Or.inr (ah_r tb_2756)⟩
  · cases hr; exact ⟨"java/lang/Object", rfl, Or.inr (ah_r tb_2758)⟩
  · cases hr; exact ⟨"java/lang/Object", rfl, Or.inr (ah_r tb_2759)⟩
  · cases hr; exact ⟨"ActorHouse$Actor", rfl, Or.inl rfl⟩
  · cases hr; exact ⟨"ActorHouse$Decl", rfl, Or.inl rfl⟩
theorem ah_cs : ∀ (ci t : Nat), ah_CA ci t = true → ∃ r : vw_C, ah_cl[ci]? = some r := by
  intro ci t h
  simp only [ah_CA, Bool.or_eq_true, Bool.and_eq_true, beq_iff_eq] at h
  rcases h with (((((⟨rfl, rfl⟩ | ⟨rfl, rfl⟩) | ⟨rfl, rfl⟩) | ⟨rfl, rfl⟩) | ⟨rfl, rfl⟩) | ⟨rfl, rfl⟩) <;> exact ⟨_, rfl⟩
theorem am_1 : rm_Mok ah_Tg ah_Tb ah_cl ah_TY ah_DV ah_strs ah_stats ah_P ah_M1 := rm_Mok_of tg_33 (by decide +kernel) ad_1 ar_1
theorem am_3 : rm_Mok ah_Tg ah_Tb ah_cl ah_TY ah_DV ah_strs ah_stats ah_P ah_M3 := rm_Mok_of tg_41 (by decide +kernel) ad_3 ar_3
theorem am_4 : rm_Mok ah_Tg ah_Tb ah_cl ah_TY ah_DV ah_strs ah_stats ah_P ah_M4 := rm_Mok_of tg_44 (by decide +kernel) ad_4 ar_4
theorem am_5 : rm_Mok ah_Tg ah_Tb ah_cl ah_TY ah_DV ah_strs ah_stats ah_P ah_M5 := rm_Mok_of tg_50 (by decide +kernel) ad_5 ar_5
theorem am_6 : rm_Mok ah_Tg ah_Tb ah_cl ah_TY ah_DV ah_strs ah_stats ah_P ah_M6 := rm_Mok_of tg_53 (by decide +kernel) ad_6 ar_6
theorem am_7 : rm_Mok ah_Tg ah_Tb ah_cl ah_TY ah_DV ah_strs ah_stats ah_P ah_M7 := rm_Mok_of tg_74 (by decide +kernel) ad_7 ar_7
theorem am_8 : rm_Mok ah_Tg ah_Tb ah_cl ah_TY ah_DV ah_strs ah_stats ah_P ah_M8 := rm_Mok_of tg_143 (by decide +kernel) ad_8 ar_8
theorem am_9 : rm_Mok ah_Tg ah_Tb ah_cl ah_TY ah_DV ah_strs ah_stats ah_P ah_M9 := rm_Mok_of tg_191 (by decide +kernel) ad_9 ar_9
theorem am_10 : rm_Mok ah_Tg ah_Tb ah_cl ah_TY ah_DV ah_strs ah_stats ah_P ah_M10 := rm_Mok_of tg_195 (by decide +kernel) ad_10 ar_10
theorem am_11 : rm_Mok ah_Tg ah_Tb ah_cl ah_TY ah_DV ah_strs ah_stats ah_P ah_M11 := rm_Mok_of tg_198 (by decide +kernel) ad_11 ar_11
theorem am_12 : rm_Mok ah_Tg ah_Tb ah_cl ah_TY ah_DV ah_strs ah_stats ah_P ah_M12 := rm_Mok_of tg_202 (by decide +kernel) ad_12 ar_12
theorem am_13 : rm_Mok ah_Tg ah_Tb ah_cl ah_TY ah_DV ah_strs ah_stats ah_P ah_M13 := rm_Mok_of tg_206 (by decide +kernel) ad_13 ar_13
theorem am_14 : rm_Mok ah_Tg ah_Tb ah_cl ah_TY ah_DV ah_strs ah_stats ah_P ah_M14 := rm_Mok_of tg_209 (by decide +kernel) ad_14 ar_14
theorem am_15 : rm_Mok ah_Tg ah_Tb ah_cl ah_TY ah_DV ah_strs ah_stats ah_P ah_M15 := rm_Mok_of tg_213 (by decide +kernel) ad_15 ar_15
theorem am_16 : rm_Mok ah_Tg ah_Tb ah_cl ah_TY ah_DV ah_strs ah_stats ah_P ah_M16 := rm_Mok_of tg_217 (by decide +kernel) ad_16 ar_16
theorem am_17 : rm_Mok ah_Tg ah_Tb ah_cl ah_TY ah_DV ah_strs ah_stats ah_P ah_M17 := rm_Mok_of tg_220 (by decide +kernel) ad_17 ar_17
theorem am_18 : rm_Mok ah_Tg ah_Tb ah_cl ah_TY ah_DV ah_strs ah_stats ah_P ah_M18 := rm_Mok_of tg_223 (by decide +kernel) ad_18 ar_18
theorem am_19 : rm_Mok ah_Tg ah_Tb ah_cl ah_TY ah_DV ah_strs ah_stats ah_P ah_M19 := rm_Mok_of tg_227 (by decide +kernel) ad_19 ar_19
theorem am_20 : rm_Mok ah_Tg ah_Tb ah_cl ah_TY ah_DV ah_strs ah_stats ah_P ah_M20 := rm_Mok_of tg_231 (by decide +kernel) ad_20 ar_20
theorem am_21 : rm_Mok ah_Tg ah_Tb ah_cl ah_TY ah_DV ah_strs ah_stats ah_P ah_M21 := rm_Mok_of tg_241 (by decide +kernel) ad_21 ar_21
theorem am_22 : rm_Mok ah_Tg ah_Tb ah_cl ah_TY ah_DV ah_strs ah_stats ah_P ah_M22 := rm_Mok_of tg_249 (by decide +kernel) ad_22 ar_22
theorem am_23 : rm_Mok ah_Tg ah_Tb ah_cl ah_TY ah_DV ah_strs ah_stats ah_P ah_M23 := rm_Mok_of tg_252 (by decide +kernel) ad_23 ar_23
theorem am_24 : rm_Mok ah_Tg ah_Tb ah_cl ah_TY ah_DV ah_strs ah_stats ah_P ah_M24 := rm_Mok_of tg_256 (by decide +kernel) ad_24 ar_24
theorem am_25 : rm_Mok ah_Tg ah_Tb ah_cl ah_TY ah_DV ah_strs ah_stats ah_P ah_M25 := rm_Mok_of tg_259 (by decide +kernel) ad_25 ar_25
theorem am_26 : rm_Mok ah_Tg ah_Tb ah_cl ah_TY ah_DV ah_strs ah_stats ah_P ah_M26 := rm_Mok_of tg_262 (by decide +kernel) ad_26 ar_26
theorem am_27 : rm_Mok ah_Tg ah_Tb ah_cl ah_TY ah_DV ah_strs ah_stats ah_P ah_M27 := rm_Mok_of tg_265 (by decide +kernel) ad_27 ar_27
theorem am_28 : rm_Mok ah_Tg ah_Tb ah_cl ah_TY ah_DV ah_strs ah_stats ah_P ah_M28 := rm_Mok_of tg_268 (by decide +kernel) ad_28 ar_28
theorem am_29 : rm_Mok ah_Tg ah_Tb ah_cl ah_TY ah_DV ah_strs ah_stats ah_P ah_M29 := rm_Mok_of tg_271 (by decide +kernel) ad_29 ar_29
theorem am_30 : rm_Mok ah_Tg ah_Tb ah_cl ah_TY ah_DV ah_strs ah_stats ah_P ah_M30 := rm_Mok_of tg_276 (by decide +kernel) ad_30 ar_30
theorem am_31 : rm_Mok ah_Tg ah_Tb ah_cl ah_TY ah_DV ah_strs ah_stats ah_P ah_M31 := rm_Mok_of tg_279 (by decide +kernel) ad_31 ar_31
theorem am_32 : rm_Mok ah_Tg ah_Tb ah_cl ah_TY ah_DV ah_strs ah_stats ah_P ah_M32 := rm_Mok_of tg_288 (by decide +kernel) ad_32 ar_32
theorem am_33 : rm_Mok ah_Tg ah_Tb ah_cl ah_TY ah_DV ah_strs ah_stats ah_P ah_M33 := rm_Mok_of tg_291 (by decide +kernel) ad_33 ar_33
theorem am_34 : rm_Mok ah_Tg ah_Tb ah_cl ah_TY ah_DV ah_strs ah_stats ah_P ah_M34 := rm_Mok_of tg_294 (by decide +kernel) ad_34 ar_34
theorem am_35 : rm_Mok ah_Tg ah_Tb ah_cl ah_TY ah_DV ah_strs ah_stats ah_P ah_M35 := rm_Mok_of tg_297 (by decide +kernel) ad_35 ar_35
theorem am_36 : rm_Mok ah_Tg ah_Tb ah_cl ah_TY ah_DV ah_strs ah_stats ah_P ah_M36 := rm_Mok_of tg_301 (by decide +kernel) ad_36 ar_36
theorem am_37 : rm_Mok ah_Tg ah_Tb ah_cl ah_TY ah_DV ah_strs ah_stats ah_P ah_M37 := rm_Mok_of tg_305 (by decide +kernel) ad_37 ar_37
theorem am_38 : rm_Mok ah_Tg ah_Tb ah_cl ah_TY ah_DV ah_strs ah_stats ah_P ah_M38 := rm_Mok_of tg_308 (by decide +kernel) ad_38 ar_38
theorem am_39 : rm_Mok ah_Tg ah_Tb ah_cl ah_TY ah_DV ah_strs ah_stats ah_P ah_M39 := rm_Mok_of tg_311 (by decide +kernel) ad_39 ar_39
theorem am_40 : rm_Mok ah_Tg ah_Tb ah_cl ah_TY ah_DV ah_strs ah_stats ah_P ah_M40 := rm_Mok_of tg_314 (by decide +kernel) ad_40 ar_40
theorem am_41 : rm_Mok ah_Tg ah_Tb ah_cl ah_TY ah_DV ah_strs ah_stats ah_P ah_M41 := rm_Mok_of tg_317 (by decide +kernel) ad_41 ar_41
theorem am_42 : rm_Mok ah_Tg ah_Tb ah_cl ah_TY ah_DV ah_strs ah_stats ah_P ah_M42 := rm_Mok_of tg_320 (by decide +kernel) ad_42 ar_42
theorem am_43 : rm_Mok ah_Tg ah_Tb ah_cl ah_TY ah_DV ah_strs ah_stats ah_P ah_M43 := rm_Mok_of tg_325 (by decide +kernel) ad_43 ar_43
theorem am_44 : rm_Mok ah_Tg ah_Tb ah_cl ah_TY ah_DV ah_strs ah_stats ah_P ah_M44 := rm_Mok_of tg_330 (by decide +kernel) ad_44 ar_44
theorem am_45 : rm_Mok ah_Tg ah_Tb ah_cl ah_TY ah_DV ah_strs ah_stats ah_P ah_M45 := rm_Mok_of tg_336 (by decide +kernel) ad_45 ar_45
theorem am_46 : rm_Mok ah_Tg ah_Tb ah_cl ah_TY ah_DV ah_strs ah_stats ah_P ah_M46 := rm_Mok_of tg_339 (by decide +kernel) ad_46 ar_46
theorem am_47 : rm_Mok ah_Tg ah_Tb ah_cl ah_TY ah_DV ah_strs ah_stats ah_P ah_M47 := rm_Mok_of tg_342 (by decide +kernel) ad_47 ar_47
theorem am_48 : rm_Mok ah_Tg ah_Tb ah_cl ah_TY ah_DV ah_strs ah_stats ah_P ah_M48 := rm_Mok_of tg_417 (by decide +kernel) ad_48 ar_48
theorem am_49 : rm_Mok ah_Tg ah_Tb ah_cl ah_TY ah_DV ah_strs ah_stats ah_P ah_M49 := rm_Mok_of tg_422 (by decide +kernel) ad_49 ar_49
theorem am_50 : rm_Mok ah_Tg ah_Tb ah_cl ah_TY ah_DV ah_strs ah_stats ah_P ah_M50 := rm_Mok_of tg_425 (by decide +kernel) ad_50 ar_50
theorem am_51 : rm_Mok ah_Tg ah_Tb ah_cl ah_TY ah_DV ah_strs ah_stats ah_P ah_M51 := rm_Mok_of tg_431 (by decide +kernel) ad_51 ar_51
theorem am_52 : rm_Mok ah_Tg ah_Tb ah_cl ah_TY ah_DV ah_strs ah_stats ah_P ah_M52 := rm_Mok_of tg_436 (by decide +kernel) ad_52 ar_52
theorem am_53 : rm_Mok ah_Tg ah_Tb ah_cl ah_TY ah_DV ah_strs ah_stats ah_P ah_M53 := rm_Mok_of tg_439 (by decide +kernel) ad_53 ar_53
theorem am_54 : rm_Mok ah_Tg ah_Tb ah_cl ah_TY ah_DV ah_strs ah_stats ah_P ah_M54 := rm_Mok_of tg_442 (by decide +kernel) ad_54 ar_54
theorem am_55 : rm_Mok ah_Tg ah_Tb ah_cl ah_TY ah_DV ah_strs ah_stats ah_P ah_M55 := rm_Mok_of tg_446 (by decide +kernel) ad_55 ar_55
theorem am_56 : rm_Mok ah_Tg ah_Tb ah_cl ah_TY ah_DV ah_strs ah_stats ah_P ah_M56 := rm_Mok_of tg_449 (by decide +kernel) ad_56 ar_56
theorem am_57 : rm_Mok ah_Tg ah_Tb ah_cl ah_TY ah_DV ah_strs ah_stats ah_P ah_M57 := rm_Mok_of tg_452 (by decide +kernel) ad_57 ar_57
theorem am_58 : rm_Mok ah_Tg ah_Tb ah_cl ah_TY ah_DV ah_strs ah_stats ah_P ah_M58 := rm_Mok_of tg_456 (by decide +kernel) ad_58 ar_58
theorem am_59 : rm_Mok ah_Tg ah_Tb ah_cl ah_TY ah_DV ah_strs ah_stats ah_P ah_M59 := rm_Mok_of tg_470 (by decide +kernel) ad_59 ar_59
theorem am_60 : rm_Mok ah_Tg ah_Tb ah_cl ah_TY ah_DV ah_strs ah_stats ah_P ah_M60 := rm_Mok_of tg_475 (by decide +kernel) ad_60 ar_60
theorem am_61 : rm_Mok ah_Tg ah_Tb ah_cl ah_TY ah_DV ah_strs ah_stats ah_P ah_M61 := rm_Mok_of tg_479 (by decide +kernel) ad_61 ar_61
theorem am_62 : rm_Mok ah_Tg ah_Tb ah_cl ah_TY ah_DV ah_strs ah_stats ah_P ah_M62 := rm_Mok_of tg_514 (by decide +kernel) ad_62 ar_62
theorem am_63 : rm_Mok ah_Tg ah_Tb ah_cl ah_TY ah_DV ah_strs ah_stats ah_P ah_M63 := rm_Mok_of tg_518 (by decide +kernel) ad_63 ar_63
theorem am_64 : rm_Mok ah_Tg ah_Tb ah_cl ah_TY ah_DV ah_strs ah_stats ah_P ah_M64 := rm_Mok_of tg_522 (by decide +kernel) ad_64 ar_64
theorem am_65 : rm_Mok ah_Tg ah_Tb ah_cl ah_TY ah_DV ah_strs ah_stats ah_P ah_M65 := rm_Mok_of tg_525 (by decide +kernel) ad_65 ar_65
theorem am_66 : rm_Mok ah_Tg ah_Tb ah_cl ah_TY ah_DV ah_strs ah_stats ah_P ah_M66 := rm_Mok_of tg_529 (by decide +kernel) ad_66 ar_66
theorem am_67 : rm_Mok ah_Tg ah_Tb ah_cl ah_TY ah_DV ah_strs ah_stats ah_P ah_M67 := rm_Mok_of tg_533 (by decide +kernel) ad_67 ar_67
theorem am_68 : rm_Mok ah_Tg ah_Tb ah_cl ah_TY ah_DV ah_strs ah_stats ah_P ah_M68 := rm_Mok_of tg_536 (by decide +kernel) ad_68 ar_68
theorem am_69 : rm_Mok ah_Tg ah_Tb ah_cl ah_TY ah_DV ah_strs ah_stats ah_P ah_M69 := rm_Mok_of tg_539 (by decide +kernel) ad_69 ar_69
theorem am_70 : rm_Mok ah_Tg ah_Tb ah_cl ah_TY ah_DV ah_strs ah_stats ah_P ah_M70 := rm_Mok_of tg_542 (by decide +kernel) ad_70 ar_70
theorem am_71 : rm_Mok ah_Tg ah_Tb ah_cl ah_TY ah_DV ah_strs ah_stats ah_P ah_M71 := rm_Mok_of tg_546 (by decide +kernel) ad_71 ar_71
theorem am_72 : rm_Mok ah_Tg ah_Tb ah_cl ah_TY ah_DV ah_strs ah_stats ah_P ah_M72 := rm_Mok_of tg_550 (by decide +kernel) ad_72 ar_72
theorem am_73 : rm_Mok ah_Tg ah_Tb ah_cl ah_TY ah_DV ah_strs ah_stats ah_P ah_M73 := rm_Mok_of tg_555 (by decide +kernel) ad_73 ar_73
theorem am_74 : rm_Mok ah_Tg ah_Tb ah_cl ah_TY ah_DV ah_strs ah_stats ah_P ah_M74 := rm_Mok_of tg_559 (by decide +kernel) ad_74 ar_74
theorem am_75 : rm_Mok ah_Tg ah_Tb ah_cl ah_TY ah_DV ah_strs ah_stats ah_P ah_M75 := rm_Mok_of tg_564 (by decide +kernel) ad_75 ar_75
theorem am_76 : rm_Mok ah_Tg ah_Tb ah_cl ah_TY ah_DV ah_strs ah_stats ah_P ah_M76 := rm_Mok_of tg_568 (by decide +kernel) ad_76 ar_76
theorem am_77 : rm_Mok ah_Tg ah_Tb ah_cl ah_TY ah_DV ah_strs ah_stats ah_P ah_M77 := rm_Mok_of tg_572 (by decide +kernel) ad_77 ar_77
theorem am_78 : rm_Mok ah_Tg ah_Tb ah_cl ah_TY ah_DV ah_strs ah_stats ah_P ah_M78 := rm_Mok_of tg_575 (by decide +kernel) ad_78 ar_78
theorem am_79 : rm_Mok ah_Tg ah_Tb ah_cl ah_TY ah_DV ah_strs ah_stats ah_P ah_M79 := rm_Mok_of tg_580 (by decide +kernel) ad_79 ar_79
theorem am_80 : rm_Mok ah_Tg ah_Tb ah_cl ah_TY ah_DV ah_strs ah_stats ah_P ah_M80 := rm_Mok_of tg_583 (by decide +kernel) ad_80 ar_80
theorem am_81 : rm_Mok ah_Tg ah_Tb ah_cl ah_TY ah_DV ah_strs ah_stats ah_P ah_M81 := rm_Mok_of tg_589 (by decide +kernel) ad_81 ar_81
theorem am_82 : rm_Mok ah_Tg ah_Tb ah_cl ah_TY ah_DV ah_strs ah_stats ah_P ah_M82 := rm_Mok_of tg_592 (by decide +kernel) ad_82 ar_82
theorem am_83 : rm_Mok ah_Tg ah_Tb ah_cl ah_TY ah_DV ah_strs ah_stats ah_P ah_M83 := rm_Mok_of tg_595 (by decide +kernel) ad_83 ar_83
theorem am_84 : rm_Mok ah_Tg ah_Tb ah_cl ah_TY ah_DV ah_strs ah_stats ah_P ah_M84 := rm_Mok_of tg_598 (by decide +kernel) ad_84 ar_84
theorem am_85 : rm_Mok ah_Tg ah_Tb ah_cl ah_TY ah_DV ah_strs ah_stats ah_P ah_M85 := rm_Mok_of tg_601 (by decide +kernel) ad_85 ar_85
theorem am_86 : rm_Mok ah_Tg ah_Tb ah_cl ah_TY ah_DV ah_strs ah_stats ah_P ah_M86 := rm_Mok_of tg_604 (by decide +kernel) ad_86 ar_86
theorem am_87 : rm_Mok ah_Tg ah_Tb ah_cl ah_TY ah_DV ah_strs ah_stats ah_P ah_M87 := rm_Mok_of tg_607 (by decide +kernel) ad_87 ar_87
theorem am_88 : rm_Mok ah_Tg ah_Tb ah_cl ah_TY ah_DV ah_strs ah_stats ah_P ah_M88 := rm_Mok_of tg_610 (by decide +kernel) ad_88 ar_88
theorem am_89 : rm_Mok ah_Tg ah_Tb ah_cl ah_TY ah_DV ah_strs ah_stats ah_P ah_M89 := rm_Mok_of tg_614 (by decide +kernel) ad_89 ar_89
theorem am_90 : rm_Mok ah_Tg ah_Tb ah_cl ah_TY ah_DV ah_strs ah_stats ah_P ah_M90 := rm_Mok_of tg_620 (by decide +kernel) ad_90 ar_90
theorem am_91 : rm_Mok ah_Tg ah_Tb ah_cl ah_TY ah_DV ah_strs ah_stats ah_P ah_M91 := rm_Mok_of tg_632 (by decide +kernel) ad_91 ar_91
theorem am_92 : rm_Mok ah_Tg ah_Tb ah_cl ah_TY ah_DV ah_strs ah_stats ah_P ah_M92 := rm_Mok_of tg_636 (by decide +kernel) ad_92 ar_92
theorem am_93 : rm_Mok ah_Tg ah_Tb ah_cl ah_TY ah_DV ah_strs ah_stats ah_P ah_M93 := rm_Mok_of tg_640 (by decide +kernel) ad_93 ar_93
theorem am_94 : rm_Mok ah_Tg ah_Tb ah_cl ah_TY ah_DV ah_strs ah_stats ah_P ah_M94 := rm_Mok_of tg_646 (by decide +kernel) ad_94 ar_94
theorem am_95 : rm_Mok ah_Tg ah_Tb ah_cl ah_TY ah_DV ah_strs ah_stats ah_P ah_M95 := rm_Mok_of tg_650 (by decide +kernel) ad_95 ar_95
theorem am_96 : rm_Mok ah_Tg ah_Tb ah_cl ah_TY ah_DV ah_strs ah_stats ah_P ah_M96 := rm_Mok_of tg_655 (by decide +kernel) ad_96 ar_96
theorem am_97 : rm_Mok ah_Tg ah_Tb ah_cl ah_TY ah_DV ah_strs ah_stats ah_P ah_M97 := rm_Mok_of tg_660 (by decide +kernel) ad_97 ar_97
theorem am_98 : rm_Mok ah_Tg ah_Tb ah_cl ah_TY ah_DV ah_strs ah_stats ah_P ah_M98 := rm_Mok_of tg_664 (by decide +kernel) ad_98 ar_98
theorem am_99 : rm_Mok ah_Tg ah_Tb ah_cl ah_TY ah_DV ah_strs ah_stats ah_P ah_M99 := rm_Mok_of tg_670 (by decide +kernel) ad_99 ar_99
theorem am_100 : rm_Mok ah_Tg ah_Tb ah_cl ah_TY ah_DV ah_strs ah_stats ah_P ah_M100 := rm_Mok_of tg_673 (by decide +kernel) ad_100 ar_100
theorem am_101 : rm_Mok ah_Tg ah_Tb ah_cl ah_TY ah_DV ah_strs ah_stats ah_P ah_M101 := rm_Mok_of tg_689 (by decide +kernel) ad_101 ar_101
theorem am_102 : rm_Mok ah_Tg ah_Tb ah_cl ah_TY ah_DV ah_strs ah_stats ah_P ah_M102 := rm_Mok_of tg_692 (by decide +kernel) ad_102 ar_102
theorem am_103 : rm_Mok ah_Tg ah_Tb ah_cl ah_TY ah_DV ah_strs ah_stats ah_P ah_M103 := rm_Mok_of tg_746 (by decide +kernel) ad_103 ar_103
theorem am_104 : rm_Mok ah_Tg ah_Tb ah_cl ah_TY ah_DV ah_strs ah_stats ah_P ah_M104 := rm_Mok_of tg_750 (by decide +kernel) ad_104 ar_104
theorem am_105 : rm_Mok ah_Tg ah_Tb ah_cl ah_TY ah_DV ah_strs ah_stats ah_P ah_M105 := rm_Mok_of tg_754 (by decide +kernel) ad_105 ar_105
theorem am_106 : rm_Mok ah_Tg ah_Tb ah_cl ah_TY ah_DV ah_strs ah_stats ah_P ah_M106 := rm_Mok_of tg_758 (by decide +kernel) ad_106 ar_106
theorem am_107 : rm_Mok ah_Tg ah_Tb ah_cl ah_TY ah_DV ah_strs ah_stats ah_P ah_M107 := rm_Mok_of tg_762 (by decide +kernel) ad_107 ar_107
theorem am_108 : rm_Mok ah_Tg ah_Tb ah_cl ah_TY ah_DV ah_strs ah_stats ah_P ah_M108 := rm_Mok_of tg_785 (by decide +kernel) ad_108 ar_108
theorem am_109 : rm_Mok ah_Tg ah_Tb ah_cl ah_TY ah_DV ah_strs ah_stats ah_P ah_M109 := rm_Mok_of tg_794 (by decide +kernel) ad_109 ar_109
theorem am_110 : rm_Mok ah_Tg ah_Tb ah_cl ah_TY ah_DV ah_strs ah_stats ah_P ah_M110 := rm_Mok_of tg_798 (by decide +kernel) ad_110 ar_110
theorem am_111 : rm_Mok ah_Tg ah_Tb ah_cl ah_TY ah_DV ah_strs ah_stats ah_P ah_M111 := rm_Mok_of tg_802 (by decide +kernel) ad_111 ar_111
theorem am_112 : rm_Mok ah_Tg ah_Tb ah_cl ah_TY ah_DV ah_strs ah_stats ah_P ah_M112 := rm_Mok_of tg_807 (by decide +kernel) ad_112 ar_112
theorem am_113 : rm_Mok ah_Tg ah_Tb ah_cl ah_TY ah_DV ah_strs ah_stats ah_P ah_M113 := rm_Mok_of tg_861 (by decide +kernel) ad_113 ar_113
theorem am_114 : rm_Mok ah_Tg ah_Tb ah_cl ah_TY ah_DV ah_strs ah_stats ah_P ah_M114 := rm_Mok_of tg_865 (by decide +kernel) ad_114 ar_114
theorem am_115 : rm_Mok ah_Tg ah_Tb ah_cl ah_TY ah_DV ah_strs ah_stats ah_P ah_M115 := rm_Mok_of tg_869 (by decide +kernel) ad_115 ar_115
theorem am_116 : rm_Mok ah_Tg ah_Tb ah_cl ah_TY ah_DV ah_strs ah_stats ah_P ah_M116 := rm_Mok_of tg_875 (by decide +kernel) ad_116 ar_116
theorem am_117 : rm_Mok ah_Tg ah_Tb ah_cl ah_TY ah_DV ah_strs ah_stats ah_P ah_M117 := rm_Mok_of tg_960 (by decide +kernel) ad_117 ar_117
theorem am_118 : rm_Mok ah_Tg ah_Tb ah_cl ah_TY ah_DV ah_strs ah_stats ah_P ah_M118 := rm_Mok_of tg_964 (by decide +kernel) ad_118 ar_118
theorem am_119 : rm_Mok ah_Tg ah_Tb ah_cl ah_TY ah_DV ah_strs ah_stats ah_P ah_M119 := rm_Mok_of tg_968 (by decide +kernel) ad_119 ar_119
theorem am_120 : rm_Mok ah_Tg ah_Tb ah_cl ah_TY ah_DV ah_strs ah_stats ah_P ah_M120 := rm_Mok_of tg_973 (by decide +kernel) ad_120 ar_120
theorem am_121 : rm_Mok ah_Tg ah_Tb ah_cl ah_TY ah_DV ah_strs ah_stats ah_P ah_M121 := rm_Mok_of tg_1041 (by decide +kernel) ad_121 ar_121
theorem am_122 : rm_Mok ah_Tg ah_Tb ah_cl ah_TY ah_DV ah_strs ah_stats ah_P ah_M122 := rm_Mok_of tg_1045 (by decide +kernel) ad_122 ar_122
theorem am_123 : rm_Mok ah_Tg ah_Tb ah_cl ah_TY ah_DV ah_strs ah_stats ah_P ah_M123 := rm_Mok_of tg_1049 (by decide +kernel) ad_123 ar_123
theorem am_124 : rm_Mok ah_Tg ah_Tb ah_cl ah_TY ah_DV ah_strs ah_stats ah_P ah_M124 := rm_Mok_of tg_1053 (by decide +kernel) ad_124 ar_124
theorem am_125 : rm_Mok ah_Tg ah_Tb ah_cl ah_TY ah_DV ah_strs ah_stats ah_P ah_M125 := rm_Mok_of tg_1057 (by decide +kernel) ad_125 ar_125
theorem am_126 : rm_Mok ah_Tg ah_Tb ah_cl ah_TY ah_DV ah_strs ah_stats ah_P ah_M126 := rm_Mok_of tg_1061 (by decide +kernel) ad_126 ar_126
theorem am_127 : rm_Mok ah_Tg ah_Tb ah_cl ah_TY ah_DV ah_strs ah_stats ah_P ah_M127 := rm_Mok_of tg_1065 (by decide +kernel) ad_127 ar_127
theorem am_128 : rm_Mok ah_Tg ah_Tb ah_cl ah_TY ah_DV ah_strs ah_stats ah_P ah_M128 := rm_Mok_of tg_1069 (by decide +kernel) ad_128 ar_128
theorem am_129 : rm_Mok ah_Tg ah_Tb ah_cl ah_TY ah_DV ah_strs ah_stats ah_P ah_M129 := rm_Mok_of tg_1073 (by decide +kernel) ad_129 ar_129
theorem am_130 : rm_Mok ah_Tg ah_Tb ah_cl ah_TY ah_DV ah_strs ah_stats ah_P ah_M130 := rm_Mok_of tg_1077 (by decide +kernel) ad_130 ar_130
theorem am_131 : rm_Mok ah_Tg ah_Tb ah_cl ah_TY ah_DV ah_strs ah_stats ah_P ah_M131 := rm_Mok_of tg_1081 (by decide +kernel) ad_131 ar_131
theorem am_132 : rm_Mok ah_Tg ah_Tb ah_cl ah_TY ah_DV ah_strs ah_stats ah_P ah_M132 := rm_Mok_of tg_1085 (by decide +kernel) ad_132 ar_132
theorem am_133 : rm_Mok ah_Tg ah_Tb ah_cl ah_TY ah_DV ah_strs ah_stats ah_P ah_M133 := rm_Mok_of tg_1089 (by decide +kernel) ad_133 ar_133
theorem am_134 : rm_Mok ah_Tg ah_Tb ah_cl ah_TY ah_DV ah_strs ah_stats ah_P ah_M134 := rm_Mok_of tg_1093 (by decide +kernel) ad_134 ar_134
theorem am_135 : rm_Mok ah_Tg ah_Tb ah_cl ah_TY ah_DV ah_strs ah_stats ah_P ah_M135 := rm_Mok_of tg_1097 (by decide +kernel) ad_135 ar_135
theorem am_136 : rm_Mok ah_Tg ah_Tb ah_cl ah_TY ah_DV ah_strs ah_stats ah_P ah_M136 := rm_Mok_of tg_1105 (by decide +kernel) ad_136 ar_136
theorem am_137 : rm_Mok ah_Tg ah_Tb ah_cl ah_TY ah_DV ah_strs ah_stats ah_P ah_M137 := rm_Mok_of tg_1109 (by decide +kernel) ad_137 ar_137
theorem am_138 : rm_Mok ah_Tg ah_Tb ah_cl ah_TY ah_DV ah_strs ah_stats ah_P ah_M138 := rm_Mok_of tg_1113 (by decide +kernel) ad_138 ar_138
theorem am_139 : rm_Mok ah_Tg ah_Tb ah_cl ah_TY ah_DV ah_strs ah_stats ah_P ah_M139 := rm_Mok_of tg_1117 (by decide +kernel) ad_139 ar_139
theorem am_140 : rm_Mok ah_Tg ah_Tb ah_cl ah_TY ah_DV ah_strs ah_stats ah_P ah_M140 := rm_Mok_of tg_1121 (by decide +kernel) ad_140 ar_140
theorem am_141 : rm_Mok ah_Tg ah_Tb ah_cl ah_TY ah_DV ah_strs ah_stats ah_P ah_M141 := rm_Mok_of tg_1125 (by decide +kernel) ad_141 ar_141
theorem am_142 : rm_Mok ah_Tg ah_Tb ah_cl ah_TY ah_DV ah_strs ah_stats ah_P ah_M142 := rm_Mok_of tg_1129 (by decide +kernel) ad_142 ar_142
theorem am_143 : rm_Mok ah_Tg ah_Tb ah_cl ah_TY ah_DV ah_strs ah_stats ah_P ah_M143 := rm_Mok_of tg_1133 (by decide +kernel) ad_143 ar_143
theorem am_144 : rm_Mok ah_Tg ah_Tb ah_cl ah_TY ah_DV ah_strs ah_stats ah_P ah_M144 := rm_Mok_of tg_1137 (by decide +kernel) ad_144 ar_144
theorem am_145 : rm_Mok ah_Tg ah_Tb ah_cl ah_TY ah_DV ah_strs ah_stats ah_P ah_M145 := rm_Mok_of tg_1141 (by decide +kernel) ad_145 ar_145
theorem am_146 : rm_Mok ah_Tg ah_Tb ah_cl ah_TY ah_DV ah_strs ah_stats ah_P ah_M146 := rm_Mok_of tg_1152 (by decide +kernel) ad_146 ar_146
theorem am_147 : rm_Mok ah_Tg ah_Tb ah_cl ah_TY ah_DV ah_strs ah_stats ah_P ah_M147 := rm_Mok_of tg_1155 (by decide +kernel) ad_147 ar_147
theorem am_148 : rm_Mok ah_Tg ah_Tb ah_cl ah_TY ah_DV ah_strs ah_stats ah_P ah_M148 := rm_Mok_of tg_1160 (by decide +kernel) ad_148 ar_148
theorem am_149 : rm_Mok ah_Tg ah_Tb ah_cl ah_TY ah_DV ah_strs ah_stats ah_P ah_M149 := rm_Mok_of tg_1165 (by decide +kernel) ad_149 ar_149
theorem am_150 : rm_Mok ah_Tg ah_Tb ah_cl ah_TY ah_DV ah_strs ah_stats ah_P ah_M150 := rm_Mok_of tg_1169 (by decide +kernel) ad_150 ar_150
theorem am_151 : rm_Mok ah_Tg ah_Tb ah_cl ah_TY ah_DV ah_strs ah_stats ah_P ah_M151 := rm_Mok_of tg_1174 (by decide +kernel) ad_151 ar_151
theorem am_152 : rm_Mok ah_Tg ah_Tb ah_cl ah_TY ah_DV ah_strs ah_stats ah_P ah_M152 := rm_Mok_of tg_1178 (by decide +kernel) ad_152 ar_152
theorem am_153 : rm_Mok ah_Tg ah_Tb ah_cl ah_TY ah_DV ah_strs ah_stats ah_P ah_M153 := rm_Mok_of tg_1182 (by decide +kernel) ad_153 ar_153
theorem am_154 : rm_Mok ah_Tg ah_Tb ah_cl ah_TY ah_DV ah_strs ah_stats ah_P ah_M154 := rm_Mok_of tg_1186 (by decide +kernel) ad_154 ar_154
theorem am_155 : rm_Mok ah_Tg ah_Tb ah_cl ah_TY ah_DV ah_strs ah_stats ah_P ah_M155 := rm_Mok_of tg_1190 (by decide +kernel) ad_155 ar_155
theorem am_156 : rm_Mok ah_Tg ah_Tb ah_cl ah_TY ah_DV ah_strs ah_stats ah_P ah_M156 := rm_Mok_of tg_1195 (by decide +kernel) ad_156 ar_156
theorem am_157 : rm_Mok ah_Tg ah_Tb ah_cl ah_TY ah_DV ah_strs ah_stats ah_P ah_M157 := rm_Mok_of tg_1205 (by decide +kernel) ad_157 ar_157
theorem am_158 : rm_Mok ah_Tg ah_Tb ah_cl ah_TY ah_DV ah_strs ah_stats ah_P ah_M158 := rm_Mok_of tg_1208 (by decide +kernel) ad_158 ar_158
theorem am_159 : rm_Mok ah_Tg ah_Tb ah_cl ah_TY ah_DV ah_strs ah_stats ah_P ah_M159 := rm_Mok_of tg_1211 (by decide +kernel) ad_159 ar_159
theorem am_160 : rm_Mok ah_Tg ah_Tb ah_cl ah_TY ah_DV ah_strs ah_stats ah_P ah_M160 := rm_Mok_of tg_1214 (by decide +kernel) ad_160 ar_160
theorem am_161 : rm_Mok ah_Tg ah_Tb ah_cl ah_TY ah_DV ah_strs ah_stats ah_P ah_M161 := rm_Mok_of tg_1224 (by decide +kernel) ad_161 ar_161
theorem am_162 : rm_Mok ah_Tg ah_Tb ah_cl ah_TY ah_DV ah_strs ah_stats ah_P ah_M162 := rm_Mok_of tg_1229 (by decide +kernel) ad_162 ar_162
theorem am_163 : rm_Mok ah_Tg ah_Tb ah_cl ah_TY ah_DV ah_strs ah_stats ah_P ah_M163 := rm_Mok_of tg_1258 (by decide +kernel) ad_163 ar_163
theorem am_164 : rm_Mok ah_Tg ah_Tb ah_cl ah_TY ah_DV ah_strs ah_stats ah_P ah_M164 := rm_Mok_of tg_1267 (by decide +kernel) ad_164 ar_164
theorem am_165 : rm_Mok ah_Tg ah_Tb ah_cl ah_TY ah_DV ah_strs ah_stats ah_P ah_M165 := rm_Mok_of tg_1271 (by decide +kernel) ad_165 ar_165
theorem am_166 : rm_Mok ah_Tg ah_Tb ah_cl ah_TY ah_DV ah_strs ah_stats ah_P ah_M166 := rm_Mok_of tg_1275 (by decide +kernel) ad_166 ar_166
theorem am_167 : rm_Mok ah_Tg ah_Tb ah_cl ah_TY ah_DV ah_strs ah_stats ah_P ah_M167 := rm_Mok_of tg_1279 (by decide +kernel) ad_167 ar_167
theorem am_168 : rm_Mok ah_Tg ah_Tb ah_cl ah_TY ah_DV ah_strs ah_stats ah_P ah_M168 := rm_Mok_of tg_1285 (by decide +kernel) ad_168 ar_168
theorem am_169 : rm_Mok ah_Tg ah_Tb ah_cl ah_TY ah_DV ah_strs ah_stats ah_P ah_M169 := rm_Mok_of tg_1292 (by decide +kernel) ad_169 ar_169
theorem am_170 : rm_Mok ah_Tg ah_Tb ah_cl ah_TY ah_DV ah_strs ah_stats ah_P ah_M170 := rm_Mok_of tg_1296 (by decide +kernel) ad_170 ar_170
theorem am_171 : rm_Mok ah_Tg ah_Tb ah_cl ah_TY ah_DV ah_strs ah_stats ah_P ah_M171 := rm_Mok_of tg_1300 (by decide +kernel) ad_171 ar_171
theorem am_172 : rm_Mok ah_Tg ah_Tb ah_cl ah_TY ah_DV ah_strs ah_stats ah_P ah_M172 := rm_Mok_of tg_1304 (by decide +kernel) ad_172 ar_172
theorem am_173 : rm_Mok ah_Tg ah_Tb ah_cl ah_TY ah_DV ah_strs ah_stats ah_P ah_M173 := rm_Mok_of tg_1308 (by decide +kernel) ad_173 ar_173
theorem am_174 : rm_Mok ah_Tg ah_Tb ah_cl ah_TY ah_DV ah_strs ah_stats ah_P ah_M174 := rm_Mok_of tg_1312 (by decide +kernel) ad_174 ar_174
theorem am_175 : rm_Mok ah_Tg ah_Tb ah_cl ah_TY ah_DV ah_strs ah_stats ah_P ah_M175 := rm_Mok_of tg_1316 (by decide +kernel) ad_175 ar_175
theorem am_176 : rm_Mok ah_Tg ah_Tb ah_cl ah_TY ah_DV ah_strs ah_stats ah_P ah_M176 := rm_Mok_of tg_1319 (by decide +kernel) ad_176 ar_176
theorem am_177 : rm_Mok ah_Tg ah_Tb ah_cl ah_TY ah_DV ah_strs ah_stats ah_P ah_M177 := rm_Mok_of tg_1328 (by decide +kernel) ad_177 ar_177
theorem am_178 : rm_Mok ah_Tg ah_Tb ah_cl ah_TY ah_DV ah_strs ah_stats ah_P ah_M178 := rm_Mok_of tg_1333 (by decide +kernel) ad_178 ar_178
theorem am_179 : rm_Mok ah_Tg ah_Tb ah_cl ah_TY ah_DV ah_strs ah_stats ah_P ah_M179 := rm_Mok_of tg_1337 (by decide +kernel) ad_179 ar_179
theorem am_180 : rm_Mok ah_Tg ah_Tb ah_cl ah_TY ah_DV ah_strs ah_stats ah_P ah_M180 := rm_Mok_of tg_1341 (by decide +kernel) ad_180 ar_180
theorem am_181 : rm_Mok ah_Tg ah_Tb ah_cl ah_TY ah_DV ah_strs ah_stats ah_P ah_M181 := rm_Mok_of tg_1345 (by decide +kernel) ad_181 ar_181
theorem am_182 : rm_Mok ah_Tg ah_Tb ah_cl ah_TY ah_DV ah_strs ah_stats ah_P ah_M182 := rm_Mok_of tg_1350 (by decide +kernel) ad_182 ar_182
theorem am_183 : rm_Mok ah_Tg ah_Tb ah_cl ah_TY ah_DV ah_strs ah_stats ah_P ah_M183 := rm_Mok_of tg_1354 (by decide +kernel) ad_183 ar_183
theorem am_184 : rm_Mok ah_Tg ah_Tb ah_cl ah_TY ah_DV ah_strs ah_stats ah_P ah_M184 := rm_Mok_of tg_1360 (by decide +kernel) ad_184 ar_184
theorem am_185 : rm_Mok ah_Tg ah_Tb ah_cl ah_TY ah_DV ah_strs ah_stats ah_P ah_M185 := rm_Mok_of tg_1364 (by decide +kernel) ad_185 ar_185
theorem am_186 : rm_Mok ah_Tg ah_Tb ah_cl ah_TY ah_DV ah_strs ah_stats ah_P ah_M186 := rm_Mok_of tg_1368 (by decide +kernel) ad_186 ar_186
theorem am_187 : rm_Mok ah_Tg ah_Tb ah_cl ah_TY ah_DV ah_strs ah_stats ah_P ah_M187 := rm_Mok_of tg_1372 (by decide +kernel) ad_187 ar_187
theorem am_188 : rm_Mok ah_Tg ah_Tb ah_cl ah_TY ah_DV ah_strs ah_stats ah_P ah_M188 := rm_Mok_of tg_1376 (by decide +kernel) ad_188 ar_188
theorem am_189 : rm_Mok ah_Tg ah_Tb ah_cl ah_TY ah_DV ah_strs ah_stats ah_P ah_M189 := rm_Mok_of tg_1379 (by decide +kernel) ad_189 ar_189
theorem am_190 : rm_Mok ah_Tg ah_Tb ah_cl ah_TY ah_DV ah_strs ah_stats ah_P ah_M190 := rm_Mok_of tg_1384 (by decide +kernel) ad_190 ar_190
theorem am_191 : rm_Mok ah_Tg ah_Tb ah_cl ah_TY ah_DV ah_strs ah_stats ah_P ah_M191 := rm_Mok_of tg_1388 (by decide +kernel) ad_191 ar_191
theorem am_192 : rm_Mok ah_Tg ah_Tb ah_cl ah_TY ah_DV ah_strs ah_stats ah_P ah_M192 := rm_Mok_of tg_1392 (by decide +kernel) ad_192 ar_192
theorem am_193 : rm_Mok ah_Tg ah_Tb ah_cl ah_TY ah_DV ah_strs ah_stats ah_P ah_M193 := rm_Mok_of tg_1396 (by decide +kernel) ad_193 ar_193
theorem am_194 : rm_Mok ah_Tg ah_Tb ah_cl ah_TY ah_DV ah_strs ah_stats ah_P ah_M194 := rm_Mok_of tg_1400 (by decide +kernel) ad_194 ar_194
theorem am_195 : rm_Mok ah_Tg ah_Tb ah_cl ah_TY ah_DV ah_strs ah_stats ah_P ah_M195 := rm_Mok_of tg_1404 (by decide +kernel) ad_195 ar_195
theorem am_196 : rm_Mok ah_Tg ah_Tb ah_cl ah_TY ah_DV ah_strs ah_stats ah_P ah_M196 := rm_Mok_of tg_1411 (by decide +kernel) ad_196 ar_196
theorem am_197 : rm_Mok ah_Tg ah_Tb ah_cl ah_TY ah_DV ah_strs ah_stats ah_P ah_M197 := rm_Mok_of tg_1416 (by decide +kernel) ad_197 ar_197
theorem am_198 : rm_Mok ah_Tg ah_Tb ah_cl ah_TY ah_DV ah_strs ah_stats ah_P ah_M198 := rm_Mok_of tg_1423 (by decide +kernel) ad_198 ar_198
theorem am_199 : rm_Mok ah_Tg ah_Tb ah_cl ah_TY ah_DV ah_strs ah_stats ah_P ah_M199 := rm_Mok_of tg_1427 (by decide +kernel) ad_199 ar_199
theorem am_200 : rm_Mok ah_Tg ah_Tb ah_cl ah_TY ah_DV ah_strs ah_stats ah_P ah_M200 := rm_Mok_of tg_1431 (by decide +kernel) ad_200 ar_200
theorem am_201 : rm_Mok ah_Tg ah_Tb ah_cl ah_TY ah_DV ah_strs ah_stats ah_P ah_M201 := rm_Mok_of tg_1435 (by decide +kernel) ad_201 ar_201
theorem am_202 : rm_Mok ah_Tg ah_Tb ah_cl ah_TY ah_DV ah_strs ah_stats ah_P ah_M202 := rm_Mok_of tg_1439 (by decide +kernel) ad_202 ar_202
theorem am_203 : rm_Mok ah_Tg ah_Tb ah_cl ah_TY ah_DV ah_strs ah_stats ah_P ah_M203 := rm_Mok_of tg_1443 (by decide +kernel) ad_203 ar_203
theorem am_204 : rm_Mok ah_Tg ah_Tb ah_cl ah_TY ah_DV ah_strs ah_stats ah_P ah_M204 := rm_Mok_of tg_1449 (by decide +kernel) ad_204 ar_204
theorem am_205 : rm_Mok ah_Tg ah_Tb ah_cl ah_TY ah_DV ah_strs ah_stats ah_P ah_M205 := rm_Mok_of tg_1454 (by decide +kernel) ad_205 ar_205
theorem am_206 : rm_Mok ah_Tg ah_Tb ah_cl ah_TY ah_DV ah_strs ah_stats ah_P ah_M206 := rm_Mok_of tg_1458 (by decide +kernel) ad_206 ar_206
theorem am_207 : rm_Mok ah_Tg ah_Tb ah_cl ah_TY ah_DV ah_strs ah_stats ah_P ah_M207 := rm_Mok_of tg_1462 (by decide +kernel) ad_207 ar_207
theorem am_208 : rm_Mok ah_Tg ah_Tb ah_cl ah_TY ah_DV ah_strs ah_stats ah_P ah_M208 := rm_Mok_of tg_1466 (by decide +kernel) ad_208 ar_208
theorem am_209 : rm_Mok ah_Tg ah_Tb ah_cl ah_TY ah_DV ah_strs ah_stats ah_P ah_M209 := rm_Mok_of tg_1470 (by decide +kernel) ad_209 ar_209
theorem am_210 : rm_Mok ah_Tg ah_Tb ah_cl ah_TY ah_DV ah_strs ah_stats ah_P ah_M210 := rm_Mok_of tg_1474 (by decide +kernel) ad_210 ar_210
theorem am_211 : rm_Mok ah_Tg ah_Tb ah_cl ah_TY ah_DV ah_strs ah_stats ah_P ah_M211 := rm_Mok_of tg_1478 (by decide +kernel) ad_211 ar_211
theorem am_212 : rm_Mok ah_Tg ah_Tb ah_cl ah_TY ah_DV ah_strs ah_stats ah_P ah_M212 := rm_Mok_of tg_1482 (by decide +kernel) ad_212 ar_212
theorem am_213 : rm_Mok ah_Tg ah_Tb ah_cl ah_TY ah_DV ah_strs ah_stats ah_P ah_M213 := rm_Mok_of tg_1486 (by decide +kernel) ad_213 ar_213
theorem am_214 : rm_Mok ah_Tg ah_Tb ah_cl ah_TY ah_DV ah_strs ah_stats ah_P ah_M214 := rm_Mok_of tg_1490 (by decide +kernel) ad_214 ar_214
theorem am_215 : rm_Mok ah_Tg ah_Tb ah_cl ah_TY ah_DV ah_strs ah_stats ah_P ah_M215 := rm_Mok_of tg_1494 (by decide +kernel) ad_215 ar_215
theorem am_216 : rm_Mok ah_Tg ah_Tb ah_cl ah_TY ah_DV ah_strs ah_stats ah_P ah_M216 := rm_Mok_of tg_1498 (by decide +kernel) ad_216 ar_216
theorem am_217 : rm_Mok ah_Tg ah_Tb ah_cl ah_TY ah_DV ah_strs ah_stats ah_P ah_M217 := rm_Mok_of tg_1502 (by decide +kernel) ad_217 ar_217
theorem am_218 : rm_Mok ah_Tg ah_Tb ah_cl ah_TY ah_DV ah_strs ah_stats ah_P ah_M218 := rm_Mok_of tg_1509 (by decide +kernel) ad_218 ar_218
theorem am_219 : rm_Mok ah_Tg ah_Tb ah_cl ah_TY ah_DV ah_strs ah_stats ah_P ah_M219 := rm_Mok_of tg_1513 (by decide +kernel) ad_219 ar_219
theorem am_220 : rm_Mok ah_Tg ah_Tb ah_cl ah_TY ah_DV ah_strs ah_stats ah_P ah_M220 := rm_Mok_of tg_1517 (by decide +kernel) ad_220 ar_220
theorem am_221 : rm_Mok ah_Tg ah_Tb ah_cl ah_TY ah_DV ah_strs ah_stats ah_P ah_M221 := rm_Mok_of tg_1521 (by decide +kernel) ad_221 ar_221
theorem am_222 : rm_Mok ah_Tg ah_Tb ah_cl ah_TY ah_DV ah_strs ah_stats ah_P ah_M222 := rm_Mok_of tg_1529 (by decide +kernel) ad_222 ar_222
theorem am_223 : rm_Mok ah_Tg ah_Tb ah_cl ah_TY ah_DV ah_strs ah_stats ah_P ah_M223 := rm_Mok_of tg_1533 (by decide +kernel) ad_223 ar_223
theorem am_224 : rm_Mok ah_Tg ah_Tb ah_cl ah_TY ah_DV ah_strs ah_stats ah_P ah_M224 := rm_Mok_of tg_1537 (by decide +kernel) ad_224 ar_224
theorem am_225 : rm_Mok ah_Tg ah_Tb ah_cl ah_TY ah_DV ah_strs ah_stats ah_P ah_M225 := rm_Mok_of tg_1542 (by decide +kernel) ad_225 ar_225
theorem am_226 : rm_Mok ah_Tg ah_Tb ah_cl ah_TY ah_DV ah_strs ah_stats ah_P ah_M226 := rm_Mok_of tg_1547 (by decide +kernel) ad_226 ar_226
theorem am_227 : rm_Mok ah_Tg ah_Tb ah_cl ah_TY ah_DV ah_strs ah_stats ah_P ah_M227 := rm_Mok_of tg_1552 (by decide +kernel) ad_227 ar_227
theorem am_228 : rm_Mok ah_Tg ah_Tb ah_cl ah_TY ah_DV ah_strs ah_stats ah_P ah_M228 := rm_Mok_of tg_1613 (by decide +kernel) ad_228 ar_228
theorem am_229 : rm_Mok ah_Tg ah_Tb ah_cl ah_TY ah_DV ah_strs ah_stats ah_P ah_M229 := rm_Mok_of tg_1617 (by decide +kernel) ad_229 ar_229
theorem am_230 : rm_Mok ah_Tg ah_Tb ah_cl ah_TY ah_DV ah_strs ah_stats ah_P ah_M230 := rm_Mok_of tg_1621 (by decide +kernel) ad_230 ar_230
theorem am_231 : rm_Mok ah_Tg ah_Tb ah_cl ah_TY ah_DV ah_strs ah_stats ah_P ah_M231 := rm_Mok_of tg_1625 (by decide +kernel) ad_231 ar_231
theorem am_232 : rm_Mok ah_Tg ah_Tb ah_cl ah_TY ah_DV ah_strs ah_stats ah_P ah_M232 := rm_Mok_of tg_1629 (by decide +kernel) ad_232 ar_232
theorem am_233 : rm_Mok ah_Tg ah_Tb ah_cl ah_TY ah_DV ah_strs ah_stats ah_P ah_M233 := rm_Mok_of tg_1632 (by decide +kernel) ad_233 ar_233
theorem am_234 : rm_Mok ah_Tg ah_Tb ah_cl ah_TY ah_DV ah_strs ah_stats ah_P ah_M234 := rm_Mok_of tg_1639 (by decide +kernel) ad_234 ar_234
theorem am_235 : rm_Mok ah_Tg ah_Tb ah_cl ah_TY ah_DV ah_strs ah_stats ah_P ah_M235 := rm_Mok_of tg_1643 (by decide +kernel) ad_235 ar_235
theorem am_236 : rm_Mok ah_Tg ah_Tb ah_cl ah_TY ah_DV ah_strs ah_stats ah_P ah_M236 := rm_Mok_of tg_1647 (by decide +kernel) ad_236 ar_236
theorem am_237 : rm_Mok ah_Tg ah_Tb ah_cl ah_TY ah_DV ah_strs ah_stats ah_P ah_M237 := rm_Mok_of tg_1651 (by decide +kernel) ad_237 ar_237
theorem am_238 : rm_Mok ah_Tg ah_Tb ah_cl ah_TY ah_DV ah_strs ah_stats ah_P ah_M238 := rm_Mok_of tg_1655 (by decide +kernel) ad_238 ar_238
theorem am_239 : rm_Mok ah_Tg ah_Tb ah_cl ah_TY ah_DV ah_strs ah_stats ah_P ah_M239 := rm_Mok_of tg_1659 (by decide +kernel) ad_239 ar_239
theorem am_240 : rm_Mok ah_Tg ah_Tb ah_cl ah_TY ah_DV ah_strs ah_stats ah_P ah_M240 := rm_Mok_of tg_1663 (by decide +kernel) ad_240 ar_240
theorem am_241 : rm_Mok ah_Tg ah_Tb ah_cl ah_TY ah_DV ah_strs ah_stats ah_P ah_M241 := rm_Mok_of tg_1667 (by decide +kernel) ad_241 ar_241
theorem am_242 : rm_Mok ah_Tg ah_Tb ah_cl ah_TY ah_DV ah_strs ah_stats ah_P ah_M242 := rm_Mok_of tg_1671 (by decide +kernel) ad_242 ar_242
theorem am_243 : rm_Mok ah_Tg ah_Tb ah_cl ah_TY ah_DV ah_strs ah_stats ah_P ah_M243 := rm_Mok_of tg_1675 (by decide +kernel) ad_243 ar_243
theorem am_244 : rm_Mok ah_Tg ah_Tb ah_cl ah_TY ah_DV ah_strs ah_stats ah_P ah_M244 := rm_Mok_of tg_1680 (by decide +kernel) ad_244 ar_244
theorem am_245 : rm_Mok ah_Tg ah_Tb ah_cl ah_TY ah_DV ah_strs ah_stats ah_P ah_M245 := rm_Mok_of tg_1685 (by decide +kernel) ad_245 ar_245
theorem am_246 : rm_Mok ah_Tg ah_Tb ah_cl ah_TY ah_DV ah_strs ah_stats ah_P ah_M246 := rm_Mok_of tg_1689 (by decide +kernel) ad_246 ar_246
theorem am_247 : rm_Mok ah_Tg ah_Tb ah_cl ah_TY ah_DV ah_strs ah_stats ah_P ah_M247 := rm_Mok_of tg_1693 (by decide +kernel) ad_247 ar_247
theorem am_248 : rm_Mok ah_Tg ah_Tb ah_cl ah_TY ah_DV ah_strs ah_stats ah_P ah_M248 := rm_Mok_of tg_1697 (by decide +kernel) ad_248 ar_248
theorem am_249 : rm_Mok ah_Tg ah_Tb ah_cl ah_TY ah_DV ah_strs ah_stats ah_P ah_M249 := rm_Mok_of tg_1701 (by decide +kernel) ad_249 ar_249
theorem am_250 : rm_Mok ah_Tg ah_Tb ah_cl ah_TY ah_DV ah_strs ah_stats ah_P ah_M250 := rm_Mok_of tg_1705 (by decide +kernel) ad_250 ar_250
theorem am_251 : rm_Mok ah_Tg ah_Tb ah_cl ah_TY ah_DV ah_strs ah_stats ah_P ah_M251 := rm_Mok_of tg_1709 (by decide +kernel) ad_251 ar_251
theorem am_252 : rm_Mok ah_Tg ah_Tb ah_cl ah_TY ah_DV ah_strs ah_stats ah_P ah_M252 := rm_Mok_of tg_1716 (by decide +kernel) ad_252 ar_252
theorem am_253 : rm_Mok ah_Tg ah_Tb ah_cl ah_TY ah_DV ah_strs ah_stats ah_P ah_M253 := rm_Mok_of tg_1720 (by decide +kernel) ad_253 ar_253
theorem am_254 : rm_Mok ah_Tg ah_Tb ah_cl ah_TY ah_DV ah_strs ah_stats ah_P ah_M254 := rm_Mok_of tg_1725 (by decide +kernel) ad_254 ar_254
theorem am_255 : rm_Mok ah_Tg ah_Tb ah_cl ah_TY ah_DV ah_strs ah_stats ah_P ah_M255 := rm_Mok_of tg_1729 (by decide +kernel) ad_255 ar_255
theorem am_256 : rm_Mok ah_Tg ah_Tb ah_cl ah_TY ah_DV ah_strs ah_stats ah_P ah_M256 := rm_Mok_of tg_1733 (by decide +kernel) ad_256 ar_256
theorem am_257 : rm_Mok ah_Tg ah_Tb ah_cl ah_TY ah_DV ah_strs ah_stats ah_P ah_M257 := rm_Mok_of tg_1737 (by decide +kernel) ad_257 ar_257
theorem am_258 : rm_Mok ah_Tg ah_Tb ah_cl ah_TY ah_DV ah_strs ah_stats ah_P ah_M258 := rm_Mok_of tg_1741 (by decide +kernel) ad_258 ar_258
theorem am_259 : rm_Mok ah_Tg ah_Tb ah_cl ah_TY ah_DV ah_strs ah_stats ah_P ah_M259 := rm_Mok_of tg_1745 (by decide +kernel) ad_259 ar_259
theorem am_260 : rm_Mok ah_Tg ah_Tb ah_cl ah_TY ah_DV ah_strs ah_stats ah_P ah_M260 := rm_Mok_of tg_1749 (by decide +kernel) ad_260 ar_260
theorem am_261 : rm_Mok ah_Tg ah_Tb ah_cl ah_TY ah_DV ah_strs ah_stats ah_P ah_M261 := rm_Mok_of tg_1753 (by decide +kernel) ad_261 ar_261
theorem am_262 : rm_Mok ah_Tg ah_Tb ah_cl ah_TY ah_DV ah_strs ah_stats ah_P ah_M262 := rm_Mok_of tg_1759 (by decide +kernel) ad_262 ar_262
theorem am_263 : rm_Mok ah_Tg ah_Tb ah_cl ah_TY ah_DV ah_strs ah_stats ah_P ah_M263 := rm_Mok_of tg_1764 (by decide +kernel) ad_263 ar_263
theorem am_264 : rm_Mok ah_Tg ah_Tb ah_cl ah_TY ah_DV ah_strs ah_stats ah_P ah_M264 := rm_Mok_of tg_1768 (by decide +kernel) ad_264 ar_264
theorem am_265 : rm_Mok ah_Tg ah_Tb ah_cl ah_TY ah_DV ah_strs ah_stats ah_P ah_M265 := rm_Mok_of tg_1772 (by decide +kernel) ad_265 ar_265
theorem am_266 : rm_Mok ah_Tg ah_Tb ah_cl ah_TY ah_DV ah_strs ah_stats ah_P ah_M266 := rm_Mok_of tg_1776 (by decide +kernel) ad_266 ar_266
theorem am_267 : rm_Mok ah_Tg ah_Tb ah_cl ah_TY ah_DV ah_strs ah_stats ah_P ah_M267 := rm_Mok_of tg_1780 (by decide +kernel) ad_267 ar_267
theorem am_268 : rm_Mok ah_Tg ah_Tb ah_cl ah_TY ah_DV ah_strs ah_stats ah_P ah_M268 := rm_Mok_of tg_1784 (by decide +kernel) ad_268 ar_268
theorem am_269 : rm_Mok ah_Tg ah_Tb ah_cl ah_TY ah_DV ah_strs ah_stats ah_P ah_M269 := rm_Mok_of tg_1788 (by decide +kernel) ad_269 ar_269
theorem am_270 : rm_Mok ah_Tg ah_Tb ah_cl ah_TY ah_DV ah_strs ah_stats ah_P ah_M270 := rm_Mok_of tg_1792 (by decide +kernel) ad_270 ar_270
theorem am_271 : rm_Mok ah_Tg ah_Tb ah_cl ah_TY ah_DV ah_strs ah_stats ah_P ah_M271 := rm_Mok_of tg_1796 (by decide +kernel) ad_271 ar_271
theorem am_272 : rm_Mok ah_Tg ah_Tb ah_cl ah_TY ah_DV ah_strs ah_stats ah_P ah_M272 := rm_Mok_of tg_1805 (by decide +kernel) ad_272 ar_272
theorem am_273 : rm_Mok ah_Tg ah_Tb ah_cl ah_TY ah_DV ah_strs ah_stats ah_P ah_M273 := rm_Mok_of tg_1809 (by decide +kernel) ad_273 ar_273
theorem am_274 : rm_Mok ah_Tg ah_Tb ah_cl ah_TY ah_DV ah_strs ah_stats ah_P ah_M274 := rm_Mok_of tg_1813 (by decide +kernel) ad_274 ar_274
theorem am_275 : rm_Mok ah_Tg ah_Tb ah_cl ah_TY ah_DV ah_strs ah_stats ah_P ah_M275 := rm_Mok_of tg_1820 (by decide +kernel) ad_275 ar_275
theorem am_276 : rm_Mok ah_Tg ah_Tb ah_cl ah_TY ah_DV ah_strs ah_stats ah_P ah_M276 := rm_Mok_of tg_1824 (by decide +kernel) ad_276 ar_276
theorem am_277 : rm_Mok ah_Tg ah_Tb ah_cl ah_TY ah_DV ah_strs ah_stats ah_P ah_M277 := rm_Mok_of tg_1832 (by decide +kernel) ad_277 ar_277
theorem am_278 : rm_Mok ah_Tg ah_Tb ah_cl ah_TY ah_DV ah_strs ah_stats ah_P ah_M278 := rm_Mok_of tg_1838 (by decide +kernel) ad_278 ar_278
theorem am_279 : rm_Mok ah_Tg ah_Tb ah_cl ah_TY ah_DV ah_strs ah_stats ah_P ah_M279 := rm_Mok_of tg_1843 (by decide +kernel) ad_279 ar_279
theorem am_280 : rm_Mok ah_Tg ah_Tb ah_cl ah_TY ah_DV ah_strs ah_stats ah_P ah_M280 := rm_Mok_of tg_1847 (by decide +kernel) ad_280 ar_280
theorem am_281 : rm_Mok ah_Tg ah_Tb ah_cl ah_TY ah_DV ah_strs ah_stats ah_P ah_M281 := rm_Mok_of tg_1851 (by decide +kernel) ad_281 ar_281
theorem am_282 : rm_Mok ah_Tg ah_Tb ah_cl ah_TY ah_DV ah_strs ah_stats ah_P ah_M282 := rm_Mok_of tg_1858 (by decide +kernel) ad_282 ar_282
theorem am_283 : rm_Mok ah_Tg ah_Tb ah_cl ah_TY ah_DV ah_strs ah_stats ah_P ah_M283 := rm_Mok_of tg_1862 (by decide +kernel) ad_283 ar_283
theorem am_284 : rm_Mok ah_Tg ah_Tb ah_cl ah_TY ah_DV ah_strs ah_stats ah_P ah_M284 := rm_Mok_of tg_1867 (by decide +kernel) ad_284 ar_284
theorem am_285 : rm_Mok ah_Tg ah_Tb ah_cl ah_TY ah_DV ah_strs ah_stats ah_P ah_M285 := rm_Mok_of tg_1870 (by decide +kernel) ad_285 ar_285
theorem am_286 : rm_Mok ah_Tg ah_Tb ah_cl ah_TY ah_DV ah_strs ah_stats ah_P ah_M286 := rm_Mok_of tg_1877 (by decide +kernel) ad_286 ar_286
theorem am_287 : rm_Mok ah_Tg ah_Tb ah_cl ah_TY ah_DV ah_strs ah_stats ah_P ah_M287 := rm_Mok_of tg_1881 (by decide +kernel) ad_287 ar_287
theorem am_288 : rm_Mok ah_Tg ah_Tb ah_cl ah_TY ah_DV ah_strs ah_stats ah_P ah_M288 := rm_Mok_of tg_1886 (by decide +kernel) ad_288 ar_288
theorem am_289 : rm_Mok ah_Tg ah_Tb ah_cl ah_TY ah_DV ah_strs ah_stats ah_P ah_M289 := rm_Mok_of tg_2243 (by decide +kernel) ad_289 ar_289
theorem am_290 : rm_Mok ah_Tg ah_Tb ah_cl ah_TY ah_DV ah_strs ah_stats ah_P ah_M290 := rm_Mok_of tg_2246 (by decide +kernel) ad_290 ar_290
theorem am_291 : rm_Mok ah_Tg ah_Tb ah_cl ah_TY ah_DV ah_strs ah_stats ah_P ah_M291 := rm_Mok_of tg_2249 (by decide +kernel) ad_291 ar_291
theorem am_292 : rm_Mok ah_Tg ah_Tb ah_cl ah_TY ah_DV ah_strs ah_stats ah_P ah_M292 := rm_Mok_of tg_2252 (by decide +kernel) ad_292 ar_292
theorem am_293 : rm_Mok ah_Tg ah_Tb ah_cl ah_TY ah_DV ah_strs ah_stats ah_P ah_M293 := rm_Mok_of tg_2255 (by decide +kernel) ad_293 ar_293
theorem am_294 : rm_Mok ah_Tg ah_Tb ah_cl ah_TY ah_DV ah_strs ah_stats ah_P ah_M294 := rm_Mok_of tg_2259 (by decide +kernel) ad_294 ar_294
theorem am_295 : rm_Mok ah_Tg ah_Tb ah_cl ah_TY ah_DV ah_strs ah_stats ah_P ah_M295 := rm_Mok_of tg_2263 (by decide +kernel) ad_295 ar_295
theorem am_296 : rm_Mok ah_Tg ah_Tb ah_cl ah_TY ah_DV ah_strs ah_stats ah_P ah_M296 := rm_Mok_of tg_2267 (by decide +kernel) ad_296 ar_296
theorem am_297 : rm_Mok ah_Tg ah_Tb ah_cl ah_TY ah_DV ah_strs ah_stats ah_P ah_M297 := rm_Mok_of tg_2270 (by decide +kernel) ad_297 ar_297
theorem am_298 : rm_Mok ah_Tg ah_Tb ah_cl ah_TY ah_DV ah_strs ah_stats ah_P ah_M298 := rm_Mok_of tg_2273 (by decide +kernel) ad_298 ar_298
theorem am_299 : rm_Mok ah_Tg ah_Tb ah_cl ah_TY ah_DV ah_strs ah_stats ah_P ah_M299 := rm_Mok_of tg_2276 (by decide +kernel) ad_299 ar_299
theorem am_300 : rm_Mok ah_Tg ah_Tb ah_cl ah_TY ah_DV ah_strs ah_stats ah_P ah_M300 := rm_Mok_of tg_2280 (by decide +kernel) ad_300 ar_300
theorem am_301 : rm_Mok ah_Tg ah_Tb ah_cl ah_TY ah_DV ah_strs ah_stats ah_P ah_M301 := rm_Mok_of tg_2284 (by decide +kernel) ad_301 ar_301
theorem am_302 : rm_Mok ah_Tg ah_Tb ah_cl ah_TY ah_DV ah_strs ah_stats ah_P ah_M302 := rm_Mok_of tg_2288 (by decide +kernel) ad_302 ar_302
theorem am_303 : rm_Mok ah_Tg ah_Tb ah_cl ah_TY ah_DV ah_strs ah_stats ah_P ah_M303 := rm_Mok_of tg_2292 (by decide +kernel) ad_303 ar_303
theorem am_304 : rm_Mok ah_Tg ah_Tb ah_cl ah_TY ah_DV ah_strs ah_stats ah_P ah_M304 := rm_Mok_of tg_2296 (by decide +kernel) ad_304 ar_304
theorem am_305 : rm_Mok ah_Tg ah_Tb ah_cl ah_TY ah_DV ah_strs ah_stats ah_P ah_M305 := rm_Mok_of tg_2300 (by decide +kernel) ad_305 ar_305
theorem am_306 : rm_Mok ah_Tg ah_Tb ah_cl ah_TY ah_DV ah_strs ah_stats ah_P ah_M306 := rm_Mok_of tg_2304 (by decide +kernel) ad_306 ar_306
theorem am_307 : rm_Mok ah_Tg ah_Tb ah_cl ah_TY ah_DV ah_strs ah_stats ah_P ah_M307 := rm_Mok_of tg_2308 (by decide +kernel) ad_307 ar_307
theorem am_308 : rm_Mok ah_Tg ah_Tb ah_cl ah_TY ah_DV ah_strs ah_stats ah_P ah_M308 := rm_Mok_of tg_2312 (by decide +kernel) ad_308 ar_308
theorem am_309 : rm_Mok ah_Tg ah_Tb ah_cl ah_TY ah_DV ah_strs ah_stats ah_P ah_M309 := rm_Mok_of tg_2316 (by decide +kernel) ad_309 ar_309
theorem am_310 : rm_Mok ah_Tg ah_Tb ah_cl ah_TY ah_DV ah_strs ah_stats ah_P ah_M310 := rm_Mok_of tg_2320 (by decide +kernel) ad_310 ar_310
theorem am_311 : rm_Mok ah_Tg ah_Tb ah_cl ah_TY ah_DV ah_strs ah_stats ah_P ah_M311 := rm_Mok_of tg_2324 (by decide +kernel) ad_311 ar_311
theorem am_312 : rm_Mok ah_Tg ah_Tb ah_cl ah_TY ah_DV ah_strs ah_stats ah_P ah_M312 := rm_Mok_of tg_2328 (by decide +kernel) ad_312 ar_312
theorem am_313 : rm_Mok ah_Tg ah_Tb ah_cl ah_TY ah_DV ah_strs ah_stats ah_P ah_M313 := rm_Mok_of tg_2332 (by decide +kernel) ad_313 ar_313
theorem am_314 : rm_Mok ah_Tg ah_Tb ah_cl ah_TY ah_DV ah_strs ah_stats ah_P ah_M314 := rm_Mok_of tg_2336 (by decide +kernel) ad_314 ar_314
theorem am_315 : rm_Mok ah_Tg ah_Tb ah_cl ah_TY ah_DV ah_strs ah_stats ah_P ah_M315 := rm_Mok_of tg_2340 (by decide +kernel) ad_315 ar_315
theorem am_316 : rm_Mok ah_Tg ah_Tb ah_cl ah_TY ah_DV ah_strs ah_stats ah_P ah_M316 := rm_Mok_of tg_2344 (by decide +kernel) ad_316 ar_316
theorem am_317 : rm_Mok ah_Tg ah_Tb ah_cl ah_TY ah_DV ah_strs ah_stats ah_P ah_M317 := rm_Mok_of tg_2348 (by decide +kernel) ad_317 ar_317
theorem am_318 : rm_Mok ah_Tg ah_Tb ah_cl ah_TY ah_DV ah_strs ah_stats ah_P ah_M318 := rm_Mok_of tg_2352 (by decide +kernel) ad_318 ar_318
theorem am_319 : rm_Mok ah_Tg ah_Tb ah_cl ah_TY ah_DV ah_strs ah_stats ah_P ah_M319 := rm_Mok_of tg_2356 (by decide +kernel) ad_319 ar_319
theorem am_320 : rm_Mok ah_Tg ah_Tb ah_cl ah_TY ah_DV ah_strs ah_stats ah_P ah_M320 := rm_Mok_of tg_2360 (by decide +kernel) ad_320 ar_320
theorem am_321 : rm_Mok ah_Tg ah_Tb ah_cl ah_TY ah_DV ah_strs ah_stats ah_P ah_M321 := rm_Mok_of tg_2364 (by decide +kernel) ad_321 ar_321
theorem am_322 : rm_Mok ah_Tg ah_Tb ah_cl ah_TY ah_DV ah_strs ah_stats ah_P ah_M322 := rm_Mok_of tg_2368 (by decide +kernel) ad_322 ar_322
theorem am_323 : rm_Mok ah_Tg ah_Tb ah_cl ah_TY ah_DV ah_strs ah_stats ah_P ah_M323 := rm_Mok_of tg_2372 (by decide +kernel) ad_323 ar_323
theorem am_324 : rm_Mok ah_Tg ah_Tb ah_cl ah_TY ah_DV ah_strs ah_stats ah_P ah_M324 := rm_Mok_of tg_2376 (by decide +kernel) ad_324 ar_324
theorem am_325 : rm_Mok ah_Tg ah_Tb ah_cl ah_TY ah_DV ah_strs ah_stats ah_P ah_M325 := rm_Mok_of tg_2380 (by decide +kernel) ad_325 ar_325
theorem am_326 : rm_Mok ah_Tg ah_Tb ah_cl ah_TY ah_DV ah_strs ah_stats ah_P ah_M326 := rm_Mok_of tg_2384 (by decide +kernel) ad_326 ar_326
theorem am_327 : rm_Mok ah_Tg ah_Tb ah_cl ah_TY ah_DV ah_strs ah_stats ah_P ah_M327 := rm_Mok_of tg_2388 (by decide +kernel) ad_327 ar_327
theorem am_328 : rm_Mok ah_Tg ah_Tb ah_cl ah_TY ah_DV ah_strs ah_stats ah_P ah_M328 := rm_Mok_of tg_2392 (by decide +kernel) ad_328 ar_328
theorem am_329 : rm_Mok ah_Tg ah_Tb ah_cl ah_TY ah_DV ah_strs ah_stats ah_P ah_M329 := rm_Mok_of tg_2396 (by decide +kernel) ad_329 ar_329
theorem am_330 : rm_Mok ah_Tg ah_Tb ah_cl ah_TY ah_DV ah_strs ah_stats ah_P ah_M330 := rm_Mok_of tg_2400 (by decide +kernel) ad_330 ar_330
theorem am_331 : rm_Mok ah_Tg ah_Tb ah_cl ah_TY ah_DV ah_strs ah_stats ah_P ah_M331 := rm_Mok_of tg_2403 (by decide +kernel) ad_331 ar_331
theorem am_332 : rm_Mok ah_Tg ah_Tb ah_cl ah_TY ah_DV ah_strs ah_stats ah_P ah_M332 := rm_Mok_of tg_2406 (by decide +kernel) ad_332 ar_332
theorem am_333 : rm_Mok ah_Tg ah_Tb ah_cl ah_TY ah_DV ah_strs ah_stats ah_P ah_M333 := rm_Mok_of tg_2409 (by decide +kernel) ad_333 ar_333
theorem am_334 : rm_Mok ah_Tg ah_Tb ah_cl ah_TY ah_DV ah_strs ah_stats ah_P ah_M334 := rm_Mok_of tg_2414 (by decide +kernel) ad_334 ar_334
theorem am_335 : rm_Mok ah_Tg ah_Tb ah_cl ah_TY ah_DV ah_strs ah_stats ah_P ah_M335 := rm_Mok_of tg_2418 (by decide +kernel) ad_335 ar_335
theorem am_336 : rm_Mok ah_Tg ah_Tb ah_cl ah_TY ah_DV ah_strs ah_stats ah_P ah_M336 := rm_Mok_of tg_2422 (by decide +kernel) ad_336 ar_336
theorem am_337 : rm_Mok ah_Tg ah_Tb ah_cl ah_TY ah_DV ah_strs ah_stats ah_P ah_M337 := rm_Mok_of tg_2426 (by decide +kernel) ad_337 ar_337
theorem am_338 : rm_Mok ah_Tg ah_Tb ah_cl ah_TY ah_DV ah_strs ah_stats ah_P ah_M338 := rm_Mok_of tg_2430 (by decide +kernel) ad_338 ar_338
theorem am_339 : rm_Mok ah_Tg ah_Tb ah_cl ah_TY ah_DV ah_strs ah_stats ah_P ah_M339 := rm_Mok_of tg_2434 (by decide +kernel) ad_339 ar_339
theorem am_340 : rm_Mok ah_Tg ah_Tb ah_cl ah_TY ah_DV ah_strs ah_stats ah_P ah_M340 := rm_Mok_of tg_2438 (by decide +kernel) ad_340 ar_340
theorem am_341 : rm_Mok ah_Tg ah_Tb ah_cl ah_TY ah_DV ah_strs ah_stats ah_P ah_M341 := rm_Mok_of tg_2442 (by decide +kernel) ad_341 ar_341
theorem am_342 : rm_Mok ah_Tg ah_Tb ah_cl ah_TY ah_DV ah_strs ah_stats ah_P ah_M342 := rm_Mok_of tg_2446 (by decide +kernel) ad_342 ar_342
theorem am_343 : rm_Mok ah_Tg ah_Tb ah_cl ah_TY ah_DV ah_strs ah_stats ah_P ah_M343 := rm_Mok_of tg_2450 (by decide +kernel) ad_343 ar_343
theorem am_344 : rm_Mok ah_Tg ah_Tb ah_cl ah_TY ah_DV ah_strs ah_stats ah_P ah_M344 := rm_Mok_of tg_2454 (by decide +kernel) ad_344 ar_344
theorem am_345 : rm_Mok ah_Tg ah_Tb ah_cl ah_TY ah_DV ah_strs ah_stats ah_P ah_M345 := rm_Mok_of tg_2458 (by decide +kernel) ad_345 ar_345
theorem am_346 : rm_Mok ah_Tg ah_Tb ah_cl ah_TY ah_DV ah_strs ah_stats ah_P ah_M346 := rm_Mok_of tg_2462 (by decide +kernel) ad_346 ar_346
theorem am_347 : rm_Mok ah_Tg ah_Tb ah_cl ah_TY ah_DV ah_strs ah_stats ah_P ah_M347 := rm_Mok_of tg_2466 (by decide +kernel) ad_347 ar_347
theorem am_348 : rm_Mok ah_Tg ah_Tb ah_cl ah_TY ah_DV ah_strs ah_stats ah_P ah_M348 := rm_Mok_of tg_2470 (by decide +kernel) ad_348 ar_348
theorem am_349 : rm_Mok ah_Tg ah_Tb ah_cl ah_TY ah_DV ah_strs ah_stats ah_P ah_M349 := rm_Mok_of tg_2474 (by decide +kernel) ad_349 ar_349
theorem am_350 : rm_Mok ah_Tg ah_Tb ah_cl ah_TY ah_DV ah_strs ah_stats ah_P ah_M350 := rm_Mok_of tg_2478 (by decide +kernel) ad_350 ar_350
theorem am_351 : rm_Mok ah_Tg ah_Tb ah_cl ah_TY ah_DV ah_strs ah_stats ah_P ah_M351 := rm_Mok_of tg_2482 (by decide +kernel) ad_351 ar_351
theorem am_352 : rm_Mok ah_Tg ah_Tb ah_cl ah_TY ah_DV ah_strs ah_stats ah_P ah_M352 := rm_Mok_of tg_2486 (by decide +kernel) ad_352 ar_352
theorem am_353 : rm_Mok ah_Tg ah_Tb ah_cl ah_TY ah_DV ah_strs ah_stats ah_P ah_M353 := rm_Mok_of tg_2490 (by decide +kernel) ad_353 ar_353
theorem am_354 : rm_Mok ah_Tg ah_Tb ah_cl ah_TY ah_DV ah_strs ah_stats ah_P ah_M354 := rm_Mok_of tg_2494 (by decide +kernel) ad_354 ar_354
theorem am_355 : rm_Mok ah_Tg ah_Tb ah_cl ah_TY ah_DV ah_strs ah_stats ah_P ah_M355 := rm_Mok_of tg_2498 (by decide +kernel) ad_355 ar_355
theorem am_356 : rm_Mok ah_Tg ah_Tb ah_cl ah_TY ah_DV ah_strs ah_stats ah_P ah_M356 := rm_Mok_of tg_2502 (by decide +kernel) ad_356 ar_356
theorem am_357 : rm_Mok ah_Tg ah_Tb ah_cl ah_TY ah_DV ah_strs ah_stats ah_P ah_M357 := rm_Mok_of tg_2506 (by decide +kernel) ad_357 ar_357
theorem am_358 : rm_Mok ah_Tg ah_Tb ah_cl ah_TY ah_DV ah_strs ah_stats ah_P ah_M358 := rm_Mok_of tg_2510 (by decide +kernel) ad_358 ar_358
theorem am_359 : rm_Mok ah_Tg ah_Tb ah_cl ah_TY ah_DV ah_strs ah_stats ah_P ah_M359 := rm_Mok_of tg_2514 (by decide +kernel) ad_359 ar_359
theorem am_360 : rm_Mok ah_Tg ah_Tb ah_cl ah_TY ah_DV ah_strs ah_stats ah_P ah_M360 := rm_Mok_of tg_2518 (by decide +kernel) ad_360 ar_360
theorem am_361 : rm_Mok ah_Tg ah_Tb ah_cl ah_TY ah_DV ah_strs ah_stats ah_P ah_M361 := rm_Mok_of tg_2522 (by decide +kernel) ad_361 ar_361
theorem am_362 : rm_Mok ah_Tg ah_Tb ah_cl ah_TY ah_DV ah_strs ah_stats ah_P ah_M362 := rm_Mok_of tg_2526 (by decide +kernel) ad_362 ar_362
theorem am_363 : rm_Mok ah_Tg ah_Tb ah_cl ah_TY ah_DV ah_strs ah_stats ah_P ah_M363 := rm_Mok_of tg_2530 (by decide +kernel) ad_363 ar_363
theorem am_364 : rm_Mok ah_Tg ah_Tb ah_cl ah_TY ah_DV ah_strs ah_stats ah_P ah_M364 := rm_Mok_of tg_2534 (by decide +kernel) ad_364 ar_364
theorem am_365 : rm_Mok ah_Tg ah_Tb ah_cl ah_TY ah_DV ah_strs ah_stats ah_P ah_M365 := rm_Mok_of tg_2538 (by decide +kernel) ad_365 ar_365
theorem am_366 : rm_Mok ah_Tg ah_Tb ah_cl ah_TY ah_DV ah_strs ah_stats ah_P ah_M366 := rm_Mok_of tg_2542 (by decide +kernel) ad_366 ar_366
theorem am_367 : rm_Mok ah_Tg ah_Tb ah_cl ah_TY ah_DV ah_strs ah_stats ah_P ah_M367 := rm_Mok_of tg_2546 (by decide +kernel) ad_367 ar_367
theorem am_368 : rm_Mok ah_Tg ah_Tb ah_cl ah_TY ah_DV ah_strs ah_stats ah_P ah_M368 := rm_Mok_of tg_2550 (by decide +kernel) ad_368 ar_368
theorem am_369 : rm_Mok ah_Tg ah_Tb ah_cl ah_TY ah_DV ah_strs ah_stats ah_P ah_M369 := rm_Mok_of tg_2554 (by decide +kernel) ad_369 ar_369
theorem am_370 : rm_Mok ah_Tg ah_Tb ah_cl ah_TY ah_DV ah_strs ah_stats ah_P ah_M370 := rm_Mok_of tg_2558 (by decide +kernel) ad_370 ar_370
theorem am_371 : rm_Mok ah_Tg ah_Tb ah_cl ah_TY ah_DV ah_strs ah_stats ah_P ah_M371 := rm_Mok_of tg_2562 (by decide +kernel) ad_371 ar_371
theorem am_372 : rm_Mok ah_Tg ah_Tb ah_cl ah_TY ah_DV ah_strs ah_stats ah_P ah_M372 := rm_Mok_of tg_2566 (by decide +kernel) ad_372 ar_372
theorem am_373 : rm_Mok ah_Tg ah_Tb ah_cl ah_TY ah_DV ah_strs ah_stats ah_P ah_M373 := rm_Mok_of tg_2570 (by decide +kernel) ad_373 ar_373
theorem am_374 : rm_Mok ah_Tg ah_Tb ah_cl ah_TY ah_DV ah_strs ah_stats ah_P ah_M374 := rm_Mok_of tg_2574 (by decide +kernel) ad_374 ar_374
theorem am_375 : rm_Mok ah_Tg ah_Tb ah_cl ah_TY ah_DV ah_strs ah_stats ah_P ah_M375 := rm_Mok_of tg_2577 (by decide +kernel) ad_375 ar_375
theorem am_376 : rm_Mok ah_Tg ah_Tb ah_cl ah_TY ah_DV ah_strs ah_stats ah_P ah_M376 := rm_Mok_of tg_2580 (by decide +kernel) ad_376 ar_376
theorem am_377 : rm_Mok ah_Tg ah_Tb ah_cl ah_TY ah_DV ah_strs ah_stats ah_P ah_M377 := rm_Mok_of tg_2585 (by decide +kernel) ad_377 ar_377
theorem am_378 : rm_Mok ah_Tg ah_Tb ah_cl ah_TY ah_DV ah_strs ah_stats ah_P ah_M378 := rm_Mok_of tg_2589 (by decide +kernel) ad_378 ar_378
theorem am_379 : rm_Mok ah_Tg ah_Tb ah_cl ah_TY ah_DV ah_strs ah_stats ah_P ah_M379 := rm_Mok_of tg_2592 (by decide +kernel) ad_379 ar_379
theorem am_380 : rm_Mok ah_Tg ah_Tb ah_cl ah_TY ah_DV ah_strs ah_stats ah_P ah_M380 := rm_Mok_of tg_2596 (by decide +kernel) ad_380 ar_380
theorem am_381 : rm_Mok ah_Tg ah_Tb ah_cl ah_TY ah_DV ah_strs ah_stats ah_P ah_M381 := rm_Mok_of tg_2600 (by decide +kernel) ad_381 ar_381
theorem am_382 : rm_Mok ah_Tg ah_Tb ah_cl ah_TY ah_DV ah_strs ah_stats ah_P ah_M382 := rm_Mok_of tg_2604 (by decide +kernel) ad_382 ar_382
theorem am_383 : rm_Mok ah_Tg ah_Tb ah_cl ah_TY ah_DV ah_strs ah_stats ah_P ah_M383 := rm_Mok_of tg_2608 (by decide +kernel) ad_383 ar_383
theorem am_384 : rm_Mok ah_Tg ah_Tb ah_cl ah_TY ah_DV ah_strs ah_stats ah_P ah_M384 := rm_Mok_of tg_2612 (by decide +kernel) ad_384 ar_384
theorem am_385 : rm_Mok ah_Tg ah_Tb ah_cl ah_TY ah_DV ah_strs ah_stats ah_P ah_M385 := rm_Mok_of tg_2616 (by decide +kernel) ad_385 ar_385
theorem am_386 : rm_Mok ah_Tg ah_Tb ah_cl ah_TY ah_DV ah_strs ah_stats ah_P ah_M386 := rm_Mok_of tg_2620 (by decide +kernel) ad_386 ar_386
theorem am_387 : rm_Mok ah_Tg ah_Tb ah_cl ah_TY ah_DV ah_strs ah_stats ah_P ah_M387 := rm_Mok_of tg_2624 (by decide +kernel) ad_387 ar_387
theorem am_388 : rm_Mok ah_Tg ah_Tb ah_cl ah_TY ah_DV ah_strs ah_stats ah_P ah_M388 := rm_Mok_of tg_2628 (by decide +kernel) ad_388 ar_388
theorem am_389 : rm_Mok ah_Tg ah_Tb ah_cl ah_TY ah_DV ah_strs ah_stats ah_P ah_M389 := rm_Mok_of tg_2632 (by decide +kernel) ad_389 ar_389
theorem am_390 : rm_Mok ah_Tg ah_Tb ah_cl ah_TY ah_DV ah_strs ah_stats ah_P ah_M390 := rm_Mok_of tg_2636 (by decide +kernel) ad_390 ar_390
theorem am_391 : rm_Mok ah_Tg ah_Tb ah_cl ah_TY ah_DV ah_strs ah_stats ah_P ah_M391 := rm_Mok_of tg_2640 (by decide +kernel) ad_391 ar_391
theorem am_392 : rm_Mok ah_Tg ah_Tb ah_cl ah_TY ah_DV ah_strs ah_stats ah_P ah_M392 := rm_Mok_of tg_2644 (by decide +kernel) ad_392 ar_392
theorem am_393 : rm_Mok ah_Tg ah_Tb ah_cl ah_TY ah_DV ah_strs ah_stats ah_P ah_M393 := rm_Mok_of tg_2648 (by decide +kernel) ad_393 ar_393
theorem am_394 : rm_Mok ah_Tg ah_Tb ah_cl ah_TY ah_DV ah_strs ah_stats ah_P ah_M394 := rm_Mok_of tg_2652 (by decide +kernel) ad_394 ar_394
theorem am_395 : rm_Mok ah_Tg ah_Tb ah_cl ah_TY ah_DV ah_strs ah_stats ah_P ah_M395 := rm_Mok_of tg_2656 (by decide +kernel) ad_395 ar_395
theorem am_396 : rm_Mok ah_Tg ah_Tb ah_cl ah_TY ah_DV ah_strs ah_stats ah_P ah_M396 := rm_Mok_of tg_2660 (by decide +kernel) ad_396 ar_396
theorem am_397 : rm_Mok ah_Tg ah_Tb ah_cl ah_TY ah_DV ah_strs ah_stats ah_P ah_M397 := rm_Mok_of tg_2664 (by decide +kernel) ad_397 ar_397
theorem am_398 : rm_Mok ah_Tg ah_Tb ah_cl ah_TY ah_DV ah_strs ah_stats ah_P ah_M398 := rm_Mok_of tg_2668 (by decide +kernel) ad_398 ar_398
theorem am_399 : rm_Mok ah_Tg ah_Tb ah_cl ah_TY ah_DV ah_strs ah_stats ah_P ah_M399 := rm_Mok_of tg_2672 (by decide +kernel) ad_399 ar_399
theorem am_400 : rm_Mok ah_Tg ah_Tb ah_cl ah_TY ah_DV ah_strs ah_stats ah_P ah_M400 := rm_Mok_of tg_2676 (by decide +kernel) ad_400 ar_400
theorem am_401 : rm_Mok ah_Tg ah_Tb ah_cl ah_TY ah_DV ah_strs ah_stats ah_P ah_M401 := rm_Mok_of tg_2680 (by decide +kernel) ad_401 ar_401
theorem am_402 : rm_Mok ah_Tg ah_Tb ah_cl ah_TY ah_DV ah_strs ah_stats ah_P ah_M402 := rm_Mok_of tg_2684 (by decide +kernel) ad_402 ar_402
theorem am_403 : rm_Mok ah_Tg ah_Tb ah_cl ah_TY ah_DV ah_strs ah_stats ah_P ah_M403 := rm_Mok_of tg_2688 (by decide +kernel) ad_403 ar_403
theorem am_404 : rm_Mok ah_Tg ah_Tb ah_cl ah_TY ah_DV ah_strs ah_stats ah_P ah_M404 := rm_Mok_of tg_2692 (by decide +kernel) ad_404 ar_404
theorem am_405 : rm_Mok ah_Tg ah_Tb ah_cl ah_TY ah_DV ah_strs ah_stats ah_P ah_M405 := rm_Mok_of tg_2696 (by decide +kernel) ad_405 ar_405
theorem am_406 : rm_Mok ah_Tg ah_Tb ah_cl ah_TY ah_DV ah_strs ah_stats ah_P ah_M406 := rm_Mok_of tg_2700 (by decide +kernel) ad_406 ar_406
theorem am_407 : rm_Mok ah_Tg ah_Tb ah_cl ah_TY ah_DV ah_strs ah_stats ah_P ah_M407 := rm_Mok_of tg_2704 (by decide +kernel) ad_407 ar_407
theorem am_408 : rm_Mok ah_Tg ah_Tb ah_cl ah_TY ah_DV ah_strs ah_stats ah_P ah_M408 := rm_Mok_of tg_2708 (by decide +kernel) ad_408 ar_408
theorem am_409 : rm_Mok ah_Tg ah_Tb ah_cl ah_TY ah_DV ah_strs ah_stats ah_P ah_M409 := rm_Mok_of tg_2713 (by decide +kernel) ad_409 ar_409
theorem am_410 : rm_Mok ah_Tg ah_Tb ah_cl ah_TY ah_DV ah_strs ah_stats ah_P ah_M410 := rm_Mok_of tg_2718 (by decide +kernel) ad_410 ar_410
theorem am_411 : rm_Mok ah_Tg ah_Tb ah_cl ah_TY ah_DV ah_strs ah_stats ah_P ah_M411 := rm_Mok_of tg_2722 (by decide +kernel) ad_411 ar_411
theorem am_412 : rm_Mok ah_Tg ah_Tb ah_cl ah_TY ah_DV ah_strs ah_stats ah_P ah_M412 := rm_Mok_of tg_2728 (by decide +kernel) ad_412 ar_412
theorem am_413 : rm_Mok ah_Tg ah_Tb ah_cl ah_TY ah_DV ah_strs ah_stats ah_P ah_M413 := rm_Mok_of tg_2732 (by decide +kernel) ad_413 ar_413
set_option maxRecDepth 20000 in
theorem ah_all : ∀ M ∈ ah_P, rm_Mok ah_Tg ah_Tb ah_cl ah_TY ah_DV ah_strs ah_stats ah_P M := rm_co am_1 (rm_co am_1 (rm_co am_1 (rm_co am_3 (rm_co am_4 (rm_co am_5 (rm_co am_6 (rm_co am_7 (rm_co am_8 (rm_co am_9 (rm_co am_10 (rm_co am_11 (rm_co am_12 (rm_co am_13 (rm_co am_14 (rm_co am_15 (rm_co am_16 (rm_co am_17 (rm_co am_18 (rm_co am_19 (rm_co am_20 (rm_co am_21 (rm_co am_22 (rm_co am_23 (rm_co am_24 (rm_co am_25 (rm_co am_26 (rm_co am_27 (rm_co am_28 (rm_co am_29 (rm_co am_30 (rm_co am_31 (rm_co am_32 (rm_co am_33 (rm_co am_34 (rm_co am_35 (rm_co am_36 (rm_co am_37 (rm_co am_38 (rm_co am_39 (rm_co am_40 (rm_co am_41 (rm_co am_42 (rm_co am_43 (rm_co am_44 (rm_co am_45 (rm_co am_46 (rm_co am_47 (rm_co am_48 (rm_co am_49 (rm_co am_50 (rm_co am_51 (rm_co am_52 (rm_co am_53 (rm_co am_54 (rm_co am_55 (rm_co am_56 (rm_co am_57 (rm_co am_58 (rm_co am_59 (rm_co am_60 (rm_co am_61 (rm_co am_62 (rm_co am_63 (rm_co am_64 (rm_co am_65 (rm_co am_66 (rm_co am_67 (rm_co am_68 (rm_co am_69 (rm_co am_70 (rm_co am_71 (rm_co am_72 (rm_co am_73 (rm_co am_74 (rm_co am_75 (rm_co am_76 (rm_co am_77 (rm_co am_78 (rm_co am_79 (rm_co am_80 (rm_co am_81 (rm_co am_82 (rm_co am_83 (rm_co am_84 (rm_co am_85 (rm_co am_86 (rm_co am_87 (rm_co am_88 (rm_co am_89 (rm_co am_90 (rm_co am_91 (rm_co am_92 (rm_co am_93 (rm_co am_94 (rm_co am_95 (rm_co am_96 (rm_co am_97 (rm_co am_98 (rm_co am_99 (rm_co am_100 (rm_co am_101 (rm_co am_102 (rm_co am_103 (rm_co am_104 (rm_co am_105 (rm_co am_106 (rm_co am_107 (rm_co am_108 (rm_co am_109 (rm_co am_110 (rm_co am_111 (rm_co am_112 (rm_co am_113 (rm_co am_114 (rm_co am_115 (rm_co am_116 (rm_co am_117 (rm_co am_118 (rm_co am_119 (rm_co am_120 (rm_co am_121 (rm_co am_122 (rm_co am_123 (rm_co am_124 (rm_co am_125 (rm_co am_126 (rm_co am_127 (rm_co am_128 (rm_co am_129 (rm_co am_130 (rm_co am_131 (rm_co am_132 (rm_co am_133 (rm_co am_134 (rm_co am_135 (rm_co am_136 (rm_co am_137 (rm_co am_138 (rm_co am_139 (rm_co am_140 (rm_co am_141 (rm_co am_142 (rm_co am_143 (rm_co am_144 (rm_co am_145 (rm_co am_146 (rm_co am_147 (rm_co am_148 (rm_co am_149 (rm_co am_150 (rm_co am_151 (rm_co am_152 (rm_co am_153 (rm_co am_154 (rm_co am_155 (rm_co am_156 (rm_co am_157 (rm_co am_158 (rm_co am_159 (rm_co am_160 (rm_co am_161 (rm_co am_162 (rm_co am_163 (rm_co am_164 (rm_co am_165 (rm_co am_166 (rm_co am_167 (rm_co am_168 (rm_co am_169 (rm_co am_170 (rm_co am_171 (rm_co am_172 (rm_co am_173 (rm_co am_174 (rm_co am_175 (rm_co am_176 (rm_co am_177 (rm_co am_178 (rm_co am_179 (rm_co am_180 (rm_co am_181 (rm_co am_182 (rm_co am_183 (rm_co am_184 (rm_co am_185 (rm_co am_186 (rm_co am_187 (rm_co am_188 (rm_co am_189 (rm_co am_190 (rm_co am_191 (rm_co am_192 (rm_co am_193 (rm_co am_194 (rm_co am_195 (rm_co am_196 (rm_co am_197 (rm_co am_198 (rm_co am_199 (rm_co am_200 (rm_co am_201 (rm_co am_202 (rm_co am_203 (rm_co am_204 (rm_co am_205 (rm_co am_206 (rm_co am_207 (rm_co am_208 (rm_co am_209 (rm_co am_210 (rm_co am_211 (rm_co am_212 (rm_co am_213 (rm_co am_214 (rm_co am_215 (rm_co am_216 (rm_co am_217 (rm_co am_218 (rm_co am_219 (rm_co am_220 (rm_co am_221 (rm_co am_222 (rm_co am_223 (rm_co am_224 (rm_co am_225 (rm_co am_226 (rm_co am_227 (rm_co am_228 (rm_co am_229 (rm_co am_230 (rm_co am_231 (rm_co am_232 (rm_co am_233 (rm_co am_234 (rm_co am_235 (rm_co am_236 (rm_co am_237 (rm_co am_238 (rm_co am_239 (rm_co am_240 (rm_co am_241 (rm_co am_242 (rm_co am_243 (rm_co am_244 (rm_co am_245 (rm_co am_246 (rm_co am_247 (rm_co am_248 (rm_co am_249 (rm_co am_250 (rm_co am_251 (rm_co am_252 (rm_co am_253 (rm_co am_254 (rm_co am_255 (rm_co am_256 (rm_co am_257 (rm_co am_258 (rm_co am_259 (rm_co am_260 (rm_co am_261 (rm_co am_262 (rm_co am_263 (rm_co am_264 (rm_co am_265 (rm_co am_266 (rm_co am_267 (rm_co am_268 (rm_co am_269 (rm_co am_270 (rm_co am_271 (rm_co am_272 (rm_co am_273 (rm_co am_274 (rm_co am_275 (rm_co am_276 (rm_co am_277 (rm_co am_278 (rm_co am_279 (rm_co am_280 (rm_co am_281 (rm_co am_282 (rm_co am_283 (rm_co am_284 (rm_co am_285 (rm_co am_286 (rm_co am_287 (rm_co am_288 (rm_co am_289 (rm_co am_290 (rm_co am_291 (rm_co am_292 (rm_co am_293 (rm_co am_294 (rm_co am_295 (rm_co am_296 (rm_co am_297 (rm_co am_298 (rm_co am_299 (rm_co am_300 (rm_co am_301 (rm_co am_302 (rm_co am_303 (rm_co am_304 (rm_co am_305 (rm_co am_306 (rm_co am_307 (rm_co am_308 (rm_co am_309 (rm_co am_310 (rm_co am_311 (rm_co am_312 (rm_co am_313 (rm_co am_314 (rm_co am_315 (rm_co am_316 (rm_co am_317 (rm_co am_318 (rm_co am_319 (rm_co am_320 (rm_co am_321 (rm_co am_322 (rm_co am_323 (rm_co am_324 (rm_co am_325 (rm_co am_326 (rm_co am_327 (rm_co am_328 (rm_co am_329 (rm_co am_330 (rm_co am_331 (rm_co am_332 (rm_co am_333 (rm_co am_334 (rm_co am_335 (rm_co am_336 (rm_co am_337 (rm_co am_338 (rm_co am_339 (rm_co am_340 (rm_co am_341 (rm_co am_342 (rm_co am_343 (rm_co am_344 (rm_co am_345 (rm_co am_346 (rm_co am_347 (rm_co am_348 (rm_co am_349 (rm_co am_350 (rm_co am_351 (rm_co am_352 (rm_co am_353 (rm_co am_354 (rm_co am_355 (rm_co am_356 (rm_co am_357 (rm_co am_358 (rm_co am_359 (rm_co am_360 (rm_co am_361 (rm_co am_362 (rm_co am_363 (rm_co am_364 (rm_co am_365 (rm_co am_366 (rm_co am_367 (rm_co am_368 (rm_co am_369 (rm_co am_370 (rm_co am_371 (rm_co am_372 (rm_co am_373 (rm_co am_374 (rm_co am_375 (rm_co am_376 (rm_co am_377 (rm_co am_378 (rm_co am_379 (rm_co am_380 (rm_co am_381 (rm_co am_382 (rm_co am_383 (rm_co am_384 (rm_co am_385 (rm_co am_386 (rm_co am_387 (rm_co am_388 (rm_co am_389 (rm_co am_390 (rm_co am_391 (rm_co am_392 (rm_co am_393 (rm_co am_394 (rm_co am_395 (rm_co am_396 (rm_co am_397 (rm_co am_398 (rm_co am_399 (rm_co am_400 (rm_co am_401 (rm_co am_402 (rm_co am_403 (rm_co am_404 (rm_co am_405 (rm_co am_406 (rm_co am_407 (rm_co am_408 (rm_co am_409 (rm_co am_410 (rm_co am_411 (rm_co am_412 (rm_co am_413 (rm_nl))))))))))))))))))))))))))))))))))))))))))))))))))))))))))))))))))))))))))))))))))))))))))))))))))))))))))))))))))))))))))))))))))))))))))))))))))))))))))))))))))))))))))))))))))))))))))))))))))))))))))))))))))))))))))))))))))))))))))))))))))))))))))))))))))))))))))))))))))))))))))))))))))))))))))))))))))))))))))))))))))))))))))))))))))))))))))))))))))))))))))))))))))))))))))))))))))))))))))))))))))))))))))))))
theorem ah_know : rm_Know ah_Tg ah_Tb ah_cl ah_TY ah_FT ah_DV ah_CA ah_strs ah_stats ah_P := ⟨fun w h => (List.mem_filter.mp h).2, fun w h => (List.mem_filter.mp h).2, ah_Cl, ah_Cn, ah_ca, ah_cs, ah_all⟩
theorem ah_law : rm_Mrw ah_Tg ah_Tb ah_cl ah_TY ah_DV ah_strs ah_stats ah_P ah_M0 := rm_Mrw_of ad_0 ar_0
