/-! THIS CLAIM'S TABLES: the list of methods (place 0 and Object's constructor are stand-ins: nobody calls the law, and the constructor has a row of its own), texts, statics. -/
def ah_P : List rm_M := [ah_M1, ah_M1, ah_M1, ah_M3, ah_M4, ah_M5, ah_M6, ah_M7, ah_M8, ah_M9, ah_M10, ah_M11, ah_M12, ah_M13, ah_M14, ah_M15, ah_M16, ah_M17, ah_M18, ah_M19, ah_M20, ah_M21, ah_M22, ah_M23, ah_M24, ah_M25, ah_M26, ah_M27, ah_M28, ah_M29, ah_M30, ah_M31, ah_M32, ah_M33, ah_M34, ah_M35, ah_M36, ah_M37, ah_M38, ah_M39, ah_M40, ah_M41, ah_M42, ah_M43, ah_M44, ah_M45, ah_M46, ah_M47, ah_M48, ah_M49, ah_M50, ah_M51, ah_M52, ah_M53, ah_M54, ah_M55, ah_M56, ah_M57, ah_M58, ah_M59, ah_M60, ah_M61, ah_M62, ah_M63, ah_M64, ah_M65, ah_M66, ah_M67, ah_M68, ah_M69, ah_M70, ah_M71, ah_M72, ah_M73, ah_M74, ah_M75, ah_M76, ah_M77, ah_M78, ah_M79, ah_M80, ah_M81, ah_M82, ah_M83, ah_M84, ah_M85, ah_M86, ah_M87, ah_M88, ah_M89, ah_M90, ah_M91, ah_M92, ah_M93, ah_M94, ah_M95, ah_M96, ah_M97, ah_M98, ah_M99, ah_M100, ah_M101, ah_M102, ah_M103, ah_M104, ah_M105, ah_M106, ah_M107, ah_M108, ah_M109, ah_M110, ah_M111, ah_M112, ah_M113, ah_M114, ah_M115, ah_M116, ah_M117, ah_M118, ah_M119, ah_M120, ah_M121, ah_M122, ah_M123, ah_M124, ah_M125, ah_M126, ah_M127, ah_M128, ah_M129, ah_M130, ah_M131, ah_M132, ah_M133, ah_M134, ah_M135, ah_M136, ah_M137, ah_M138, ah_M139, ah_M140, ah_M141, ah_M142, ah_M143, ah_M144, ah_M145, ah_M146, ah_M147, ah_M148, ah_M149, ah_M150, ah_M151, ah_M152, ah_M153, ah_M154, ah_M155, ah_M156, ah_M157, ah_M158, ah_M159, ah_M160, ah_M161, ah_M162, ah_M163, ah_M164, ah_M165, ah_M166, ah_M167, ah_M168, ah_M169, ah_M170, ah_M171, ah_M172, ah_M173, ah_M174, ah_M175, ah_M176, ah_M177, ah_M178, ah_M179, ah_M180, ah_M181, ah_M182, ah_M183, ah_M184, ah_M185, ah_M186, ah_M187, ah_M188, ah_M189, ah_M190, ah_M191, ah_M192, ah_M193, ah_M194, ah_M195, ah_M196, ah_M197, ah_M198, ah_M199, ah_M200, ah_M201, ah_M202, ah_M203, ah_M204, ah_M205, ah_M206, ah_M207, ah_M208, ah_M209, ah_M210, ah_M211, ah_M212, ah_M213, ah_M214, ah_M215, ah_M216, ah_M217, ah_M218, ah_M219, ah_M220, ah_M221, ah_M222, ah_M223, ah_M224, ah_M225, ah_M226, ah_M227, ah_M228, ah_M229, ah_M230, ah_M231, ah_M232, ah_M233, ah_M234, ah_M235, ah_M236, ah_M237, ah_M238, ah_M239, ah_M240, ah_M241, ah_M242, ah_M243, ah_M244, ah_M245, ah_M246, ah_M247, ah_M248, ah_M249, ah_M250, ah_M251, ah_M252, ah_M253, ah_M254, ah_M255, ah_M256, ah_M257, ah_M258, ah_M259, ah_M260, ah_M261, ah_M262, ah_M263, ah_M264, ah_M265, ah_M266, ah_M267, ah_M268, ah_M269, ah_M270, ah_M271, ah_M272, ah_M273, ah_M274, ah_M275, ah_M276, ah_M277, ah_M278, ah_M279, ah_M280, ah_M281, ah_M282, ah_M283, ah_M284, ah_M285, ah_M286, ah_M287, ah_M288, ah_M289, ah_M290, ah_M291, ah_M292, ah_M293, ah_M294, ah_M295, ah_M296, ah_M297, ah_M298, ah_M299, ah_M300, ah_M301, ah_M302, ah_M303, ah_M304, ah_M305, ah_M306, ah_M307, ah_M308, ah_M309, ah_M310, ah_M311, ah_M312, ah_M313, ah_M314, ah_M315, ah_M316, ah_M317, ah_M318, ah_M319, ah_M320, ah_M321, ah_M322, ah_M323, ah_M324, ah_M325, ah_M326, ah_M327, ah_M328, ah_M329, ah_M330, ah_M331, ah_M332, ah_M333, ah_M334, ah_M335, ah_M336, ah_M337, ah_M338, ah_M339, ah_M340, ah_M341, ah_M342, ah_M343, ah_M344, ah_M345, ah_M346, ah_M347, ah_M348, ah_M349, ah_M350, ah_M351, ah_M352, ah_M353, ah_M354, ah_M355, ah_M356, ah_M357, ah_M358, ah_M359, ah_M360, ah_M361, ah_M362, ah_M363, ah_M364, ah_M365, ah_M366, ah_M367, ah_M368, ah_M369, ah_M370, ah_M371, ah_M372, ah_M373, ah_M374, ah_M375, ah_M376, ah_M377, ah_M378, ah_M379, ah_M380, ah_M381, ah_M382, ah_M383, ah_M384, ah_M385, ah_M386, ah_M387, ah_M388, ah_M389, ah_M390, ah_M391, ah_M392, ah_M393, ah_M394, ah_M395, ah_M396, ah_M397, ah_M398, ah_M399, ah_M400, ah_M401, ah_M402, ah_M403, ah_M404, ah_M405, ah_M406, ah_M407, ah_M408, ah_M409, ah_M410, ah_M411, ah_M412, ah_M413]
def ah_strs : List (String × Nat × String × Nat) := [("ActorHouse$Reader", 86, "class actor new fun be var if else while return tell give has swap none this consume recover iso trn ref val box int ", 7), ("ActorHouse$Reader", 72, "{}();,:.!=<+-*", 8), ("ActorHouse$Parser", 136, "", 9), ("ActorHouse$Reader", 66, "", 9), ("java/lang/StringLatin1", 151, "", 9), ("java/lang/StringUTF16", 295, "", 9), ("ActorHouse$Parser", 101, "new", 10), ("ActorHouse$Node", 18, "", 9), ("ActorHouse$Program", 103, "Main", 11), ("ActorHouse$Output", 150, "none", 12), ("ActorHouseModel", 254, "class actor new fun be var if else while tell return give has swap none this consume recover iso trn ref val box int ", 13)]
def ah_stats : List (String × String × String × Nat) := [("java/lang/String", "COMPACT_STRINGS", "Z", 0), ("jdk/internal/util/Preconditions", "SIOOBE_FORMATTER", "Ljava/util/function/BiFunction;", 1), ("java/lang/StringUTF16", "$assertionsDisabled", "Z", 2), ("java/lang/StringUTF16", "HI_BYTE_SHIFT", "I", 3), ("java/lang/StringUTF16", "LO_BYTE_SHIFT", "I", 4), ("java/util/ArrayList", "DEFAULTCAPACITY_EMPTY_ELEMENTDATA", "[Ljava/lang/Object;", 5), ("ActorHouse", "AS_GOOD", "[I", 6), ("ActorHouse", "SAFE", "[I", 7), ("ActorHouse", "SWAPPED", "[I", 8), ("ActorHouse", "SEEN", "[I", 9)]
set_option maxRecDepth 20000 in
theorem ap_1 : ah_P[1]? = some ah_M1 := rfl
set_option maxRecDepth 20000 in
theorem ap_3 : ah_P[3]? = some ah_M3 := rfl
set_option maxRecDepth 20000 in
theorem ap_4 : ah_P[4]? = some ah_M4 := rfl
set_option maxRecDepth 20000 in
theorem ap_5 : ah_P[5]? = some ah_M5 := rfl
set_option maxRecDepth 20000 in
theorem ap_6 : ah_P[6]? = some ah_M6 := rfl
set_option maxRecDepth 20000 in
theorem ap_7 : ah_P[7]? = some ah_M7 := rfl
set_option maxRecDepth 20000 in
theorem ap_8 : ah_P[8]? = some ah_M8 := rfl
set_option maxRecDepth 20000 in
theorem ap_9 : ah_P[9]? = some ah_M9 := rfl
set_option maxRecDepth 20000 in
theorem ap_10 : ah_P[10]? = some ah_M10 := rfl
set_option maxRecDepth 20000 in
theorem ap_11 : ah_P[11]? = some ah_M11 := rfl
set_option maxRecDepth 20000 in
theorem ap_12 : ah_P[12]? = some ah_M12 := rfl
set_option maxRecDepth 20000 in
theorem ap_13 : ah_P[13]? = some ah_M13 := rfl
set_option maxRecDepth 20000 in
theorem ap_14 : ah_P[14]? = some ah_M14 := rfl
set_option maxRecDepth 20000 in
theorem ap_15 : ah_P[15]? = some ah_M15 := rfl
set_option maxRecDepth 20000 in
theorem ap_16 : ah_P[16]? = some ah_M16 := rfl
set_option maxRecDepth 20000 in
theorem ap_17 : ah_P[17]? = some ah_M17 := rfl
set_option maxRecDepth 20000 in
theorem ap_18 : ah_P[18]? = some ah_M18 := rfl
set_option maxRecDepth 20000 in
theorem ap_19 : ah_P[19]? = some ah_M19 := rfl
set_option maxRecDepth 20000 in
theorem ap_20 : ah_P[20]? = some ah_M20 := rfl
set_option maxRecDepth 20000 in
theorem ap_21 : ah_P[21]? = some ah_M21 := rfl
set_option maxRecDepth 20000 in
theorem ap_22 : ah_P[22]? = some ah_M22 := rfl
set_option maxRecDepth 20000 in
theorem ap_23 : ah_P[23]? = some ah_M23 := rfl
set_option maxRecDepth 20000 in
theorem ap_24 : ah_P[24]? = some ah_M24 := rfl
set_option maxRecDepth 20000 in
theorem ap_25 : ah_P[25]? = some ah_M25 := rfl
set_option maxRecDepth 20000 in
theorem ap_26 : ah_P[26]? = some ah_M26 := rfl
set_option maxRecDepth 20000 in
theorem ap_27 : ah_P[27]? = some ah_M27 := rfl
set_option maxRecDepth 20000 in
theorem ap_28 : ah_P[28]? = some ah_M28 := rfl
set_option maxRecDepth 20000 in
theorem ap_29 : ah_P[29]? = some ah_M29 := rfl
set_option maxRecDepth 20000 in
theorem ap_30 : ah_P[30]? = some ah_M30 := rfl
set_option maxRecDepth 20000 in
theorem ap_31 : ah_P[31]? = some ah_M31 := rfl
set_option maxRecDepth 20000 in
theorem ap_32 : ah_P[32]? = some ah_M32 := rfl
set_option maxRecDepth 20000 in
theorem ap_33 : ah_P[33]? = some ah_M33 := rfl
set_option maxRecDepth 20000 in
theorem ap_34 : ah_P[34]? = some ah_M34 := rfl
set_option maxRecDepth 20000 in
theorem ap_35 : ah_P[35]? = some ah_M35 := rfl
set_option maxRecDepth 20000 in
theorem ap_36 : ah_P[36]? = some ah_M36 := rfl
set_option maxRecDepth 20000 in
theorem ap_37 : ah_P[37]? = some ah_M37 := rfl
set_option maxRecDepth 20000 in
theorem ap_38 : ah_P[38]? = some ah_M38 := rfl
set_option maxRecDepth 20000 in
theorem ap_39 : ah_P[39]? = some ah_M39 := rfl
set_option maxRecDepth 20000 in
theorem ap_40 : ah_P[40]? = some ah_M40 := rfl
set_option maxRecDepth 20000 in
theorem ap_41 : ah_P[41]? = some ah_M41 := rfl
set_option maxRecDepth 20000 in
theorem ap_42 : ah_P[42]? = some ah_M42 := rfl
set_option maxRecDepth 20000 in
theorem ap_43 : ah_P[43]? = some ah_M43 := rfl
set_option maxRecDepth 20000 in
theorem ap_44 : ah_P[44]? = some ah_M44 := rfl
set_option maxRecDepth 20000 in
theorem ap_45 : ah_P[45]? = some ah_M45 := rfl
set_option maxRecDepth 20000 in
theorem ap_46 : ah_P[46]? = some ah_M46 := rfl
set_option maxRecDepth 20000 in
theorem ap_47 : ah_P[47]? = some ah_M47 := rfl
set_option maxRecDepth 20000 in
theorem ap_48 : ah_P[48]? = some ah_M48 := rfl
set_option maxRecDepth 20000 in
theorem ap_49 : ah_P[49]? = some ah_M49 := rfl
set_option maxRecDepth 20000 in
theorem ap_50 : ah_P[50]? = some ah_M50 := rfl
set_option maxRecDepth 20000 in
theorem ap_51 : ah_P[51]? = some ah_M51 := rfl
set_option maxRecDepth 20000 in
theorem ap_52 : ah_P[52]? = some ah_M52 := rfl
set_option maxRecDepth 20000 in
theorem ap_53 : ah_P[53]? = some ah_M53 := rfl
set_option maxRecDepth 20000 in
theorem ap_54 : ah_P[54]? = some ah_M54 := rfl
set_option maxRecDepth 20000 in
theorem ap_55 : ah_P[55]? = some ah_M55 := rfl
set_option maxRecDepth 20000 in
theorem ap_56 : ah_P[56]? = some ah_M56 := rfl
set_option maxRecDepth 20000 in
theorem ap_57 : ah_P[57]? = some ah_M57 := rfl
set_option maxRecDepth 20000 in
theorem ap_58 : ah_P[58]? = some ah_M58 := rfl
set_option maxRecDepth 20000 in
theorem ap_59 : ah_P[59]? = some ah_M59 := rfl
set_option maxRecDepth 20000 in
theorem ap_60 : ah_P[60]? = some ah_M60 := rfl
set_option maxRecDepth 20000 in
theorem ap_61 : ah_P[61]? = some ah_M61 := rfl
set_option maxRecDepth 20000 in
theorem ap_62 : ah_P[62]? = some ah_M62 := rfl
set_option maxRecDepth 20000 in
theorem ap_63 : ah_P[63]? = some ah_M63 := rfl
set_option maxRecDepth 20000 in
theorem ap_64 : ah_P[64]? = some ah_M64 := rfl
set_option maxRecDepth 20000 in
theorem ap_65 : ah_P[65]? = some ah_M65 := rfl
set_option maxRecDepth 20000 in
theorem ap_66 : ah_P[66]? = some ah_M66 := rfl
set_option maxRecDepth 20000 in
theorem ap_67 : ah_P[67]? = some ah_M67 := rfl
set_option maxRecDepth 20000 in
theorem ap_68 : ah_P[68]? = some ah_M68 := rfl
set_option maxRecDepth 20000 in
theorem ap_69 : ah_P[69]? = some ah_M69 := rfl
set_option maxRecDepth 20000 in
theorem ap_70 : ah_P[70]? = some ah_M70 := rfl
set_option maxRecDepth 20000 in
theorem ap_71 : ah_P[71]? = some ah_M71 := rfl
set_option maxRecDepth 20000 in
theorem ap_72 : ah_P[72]? = some ah_M72 := rfl
set_option maxRecDepth 20000 in
theorem ap_73 : ah_P[73]? = some ah_M73 := rfl
set_option maxRecDepth 20000 in
theorem ap_74 : ah_P[74]? = some ah_M74 := rfl
set_option maxRecDepth 20000 in
theorem ap_75 : ah_P[75]? = some ah_M75 := rfl
set_option maxRecDepth 20000 in
theorem ap_76 : ah_P[76]? = some ah_M76 := rfl
set_option maxRecDepth 20000 in
theorem ap_77 : ah_P[77]? = some ah_M77 := rfl
set_option maxRecDepth 20000 in
theorem ap_78 : ah_P[78]? = some ah_M78 := rfl
set_option maxRecDepth 20000 in
theorem ap_79 : ah_P[79]? = some ah_M79 := rfl
set_option maxRecDepth 20000 in
theorem ap_80 : ah_P[80]? = some ah_M80 := rfl
set_option maxRecDepth 20000 in
theorem ap_81 : ah_P[81]? = some ah_M81 := rfl
set_option maxRecDepth 20000 in
theorem ap_82 : ah_P[82]? = some ah_M82 := rfl
set_option maxRecDepth 20000 in
theorem ap_83 : ah_P[83]? = some ah_M83 := rfl
set_option maxRecDepth 20000 in
theorem ap_84 : ah_P[84]? = some ah_M84 := rfl
set_option maxRecDepth 20000 in
theorem ap_85 : ah_P[85]? = some ah_M85 := rfl
set_option maxRecDepth 20000 in
theorem ap_86 : ah_P[86]? = some ah_M86 := rfl
set_option maxRecDepth 20000 in
theorem ap_87 : ah_P[87]? = some ah_M87 := rfl
set_option maxRecDepth 20000 in
theorem ap_88 : ah_P[88]? = some ah_M88 := rfl
set_option maxRecDepth 20000 in
theorem ap_89 : ah_P[89]? = some ah_M89 := rfl
set_option maxRecDepth 20000 in
theorem ap_90 : ah_P[90]? = some ah_M90 := rfl
set_option maxRecDepth 20000 in
theorem ap_91 : ah_P[91]? = some ah_M91 := rfl
set_option maxRecDepth 20000 in
theorem ap_92 : ah_P[92]? = some ah_M92 := rfl
set_option maxRecDepth 20000 in
theorem ap_93 : ah_P[93]? = some ah_M93 := rfl
set_option maxRecDepth 20000 in
theorem ap_94 : ah_P[94]? = some ah_M94 := rfl
set_option maxRecDepth 20000 in
theorem ap_95 : ah_P[95]? = some ah_M95 := rfl
set_option maxRecDepth 20000 in
theorem ap_96 : ah_P[96]? = some ah_M96 := rfl
set_option maxRecDepth 20000 in
theorem ap_97 : ah_P[97]? = some ah_M97 := rfl
set_option maxRecDepth 20000 in
theorem ap_98 : ah_P[98]? = some ah_M98 := rfl
set_option maxRecDepth 20000 in
theorem ap_99 : ah_P[99]? = some ah_M99 := rfl
set_option maxRecDepth 20000 in
theorem ap_100 : ah_P[100]? = some ah_M100 := rfl
set_option maxRecDepth 20000 in
theorem ap_101 : ah_P[101]? = some ah_M101 := rfl
set_option maxRecDepth 20000 in
theorem ap_102 : ah_P[102]? = some ah_M102 := rfl
set_option maxRecDepth 20000 in
theorem ap_103 : ah_P[103]? = some ah_M103 := rfl
set_option maxRecDepth 20000 in
theorem ap_104 : ah_P[104]? = some ah_M104 := rfl
set_option maxRecDepth 20000 in
theorem ap_105 : ah_P[105]? = some ah_M105 := rfl
set_option maxRecDepth 20000 in
theorem ap_106 : ah_P[106]? = some ah_M106 := rfl
set_option maxRecDepth 20000 in
theorem ap_107 : ah_P[107]? = some ah_M107 := rfl
set_option maxRecDepth 20000 in
theorem ap_108 : ah_P[108]? = some ah_M108 := rfl
set_option maxRecDepth 20000 in
theorem ap_109 : ah_P[109]? = some ah_M109 := rfl
set_option maxRecDepth 20000 in
theorem ap_110 : ah_P[110]? = some ah_M110 := rfl
set_option maxRecDepth 20000 in
theorem ap_111 : ah_P[111]? = some ah_M111 := rfl
set_option maxRecDepth 20000 in
theorem ap_112 : ah_P[112]? = some ah_M112 := rfl
set_option maxRecDepth 20000 in
theorem ap_113 : ah_P[113]? = some ah_M113 := rfl
set_option maxRecDepth 20000 in
theorem ap_114 : ah_P[114]? = some ah_M114 := rfl
set_option maxRecDepth 20000 in
theorem ap_115 : ah_P[115]? = some ah_M115 := rfl
set_option maxRecDepth 20000 in
theorem ap_116 : ah_P[116]? = some ah_M116 := rfl
set_option maxRecDepth 20000 in
theorem ap_117 : ah_P[117]? = some ah_M117 := rfl
set_option maxRecDepth 20000 in
theorem ap_118 : ah_P[118]? = some ah_M118 := rfl
set_option maxRecDepth 20000 in
theorem ap_119 : ah_P[119]? = some ah_M119 := rfl
set_option maxRecDepth 20000 in
theorem ap_120 : ah_P[120]? = some ah_M120 := rfl
set_option maxRecDepth 20000 in
theorem ap_121 : ah_P[121]? = some ah_M121 := rfl
set_option maxRecDepth 20000 in
theorem ap_122 : ah_P[122]? = some ah_M122 := rfl
set_option maxRecDepth 20000 in
theorem ap_123 : ah_P[123]? = some ah_M123 := rfl
set_option maxRecDepth 20000 in
theorem ap_124 : ah_P[124]? = some ah_M124 := rfl
set_option maxRecDepth 20000 in
theorem ap_125 : ah_P[125]? = some ah_M125 := rfl
set_option maxRecDepth 20000 in
theorem ap_126 : ah_P[126]? = some ah_M126 := rfl
set_option maxRecDepth 20000 in
theorem ap_127 : ah_P[127]? = some ah_M127 := rfl
set_option maxRecDepth 20000 in
theorem ap_128 : ah_P[128]? = some ah_M128 := rfl
set_option maxRecDepth 20000 in
theorem ap_129 : ah_P[129]? = some ah_M129 := rfl
set_option maxRecDepth 20000 in
theorem ap_130 : ah_P[130]? = some ah_M130 := rfl
set_option maxRecDepth 20000 in
theorem ap_131 : ah_P[131]? = some ah_M131 := rfl
set_option maxRecDepth 20000 in
theorem ap_132 : ah_P[132]? = some ah_M132 := rfl
set_option maxRecDepth 20000 in
theorem ap_133 : ah_P[133]? = some ah_M133 := rfl
set_option maxRecDepth 20000 in
theorem ap_134 : ah_P[134]? = some ah_M134 := rfl
set_option maxRecDepth 20000 in
theorem ap_135 : ah_P[135]? = some ah_M135 := rfl
set_option maxRecDepth 20000 in
theorem ap_136 : ah_P[136]? = some ah_M136 := rfl
set_option maxRecDepth 20000 in
theorem ap_137 : ah_P[137]? = some ah_M137 := rfl
set_option maxRecDepth 20000 in
theorem ap_138 : ah_P[138]? = some ah_M138 := rfl
set_option maxRecDepth 20000 in
theorem ap_139 : ah_P[139]? = some ah_M139 := rfl
set_option maxRecDepth 20000 in
theorem ap_140 : ah_P[140]? = some ah_M140 := rfl
set_option maxRecDepth 20000 in
theorem ap_141 : ah_P[141]? = some ah_M141 := rfl
set_option maxRecDepth 20000 in
theorem ap_142 : ah_P[142]? = some ah_M142 := rfl
set_option maxRecDepth 20000 in
theorem ap_143 : ah_P[143]? = some ah_M143 := rfl
set_option maxRecDepth 20000 in
theorem ap_144 : ah_P[144]? = some ah_M144 := rfl
set_option maxRecDepth 20000 in
theorem ap_145 : ah_P[145]? = some ah_M145 := rfl
set_option maxRecDepth 20000 in
theorem ap_146 : ah_P[146]? = some ah_M146 := rfl
set_option maxRecDepth 20000 in
theorem ap_147 : ah_P[147]? = some ah_M147 := rfl
set_option maxRecDepth 20000 in
theorem ap_148 : ah_P[148]? = some ah_M148 := rfl
set_option maxRecDepth 20000 in
theorem ap_149 : ah_P[149]? = some ah_M149 := rfl
set_option maxRecDepth 20000 in
theorem ap_150 : ah_P[150]? = some ah_M150 := rfl
set_option maxRecDepth 20000 in
theorem ap_151 : ah_P[151]? = some ah_M151 := rfl
set_option maxRecDepth 20000 in
theorem ap_152 : ah_P[152]? = some ah_M152 := rfl
set_option maxRecDepth 20000 in
theorem ap_153 : ah_P[153]? = some ah_M153 := rfl
set_option maxRecDepth 20000 in
theorem ap_154 : ah_P[154]? = some ah_M154 := rfl
set_option maxRecDepth 20000 in
theorem ap_155 : ah_P[155]? = some ah_M155 := rfl
set_option maxRecDepth 20000 in
theorem ap_156 : ah_P[156]? = some ah_M156 := rfl
set_option maxRecDepth 20000 in
theorem ap_157 : ah_P[157]? = some ah_M157 := rfl
set_option maxRecDepth 20000 in
theorem ap_158 : ah_P[158]? = some ah_M158 := rfl
set_option maxRecDepth 20000 in
theorem ap_159 : ah_P[159]? = some ah_M159 := rfl
set_option maxRecDepth 20000 in
theorem ap_160 : ah_P[160]? = some ah_M160 := rfl
set_option maxRecDepth 20000 in
theorem ap_161 : ah_P[161]? = some ah_M161 := rfl
set_option maxRecDepth 20000 in
theorem ap_162 : ah_P[162]? = some ah_M162 := rfl
set_option maxRecDepth 20000 in
theorem ap_163 : ah_P[163]? = some ah_M163 := rfl
set_option maxRecDepth 20000 in
theorem ap_164 : ah_P[164]? = some ah_M164 := rfl
set_option maxRecDepth 20000 in
theorem ap_165 : ah_P[165]? = some ah_M165 := rfl
set_option maxRecDepth 20000 in
theorem ap_166 : ah_P[166]? = some ah_M166 := rfl
set_option maxRecDepth 20000 in
theorem ap_167 : ah_P[167]? = some ah_M167 := rfl
set_option maxRecDepth 20000 in
theorem ap_168 : ah_P[168]? = some ah_M168 := rfl
set_option maxRecDepth 20000 in
theorem ap_169 : ah_P[169]? = some ah_M169 := rfl
set_option maxRecDepth 20000 in
theorem ap_170 : ah_P[170]? = some ah_M170 := rfl
set_option maxRecDepth 20000 in
theorem ap_171 : ah_P[171]? = some ah_M171 := rfl
set_option maxRecDepth 20000 in
theorem ap_172 : ah_P[172]? = some ah_M172 := rfl
set_option maxRecDepth 20000 in
theorem ap_173 : ah_P[173]? = some ah_M173 := rfl
set_option maxRecDepth 20000 in
theorem ap_174 : ah_P[174]? = some ah_M174 := rfl
set_option maxRecDepth 20000 in
theorem ap_175 : ah_P[175]? = some ah_M175 := rfl
set_option maxRecDepth 20000 in
theorem ap_176 : ah_P[176]? = some ah_M176 := rfl
set_option maxRecDepth 20000 in
theorem ap_177 : ah_P[177]? = some ah_M177 := rfl
set_option maxRecDepth 20000 in
theorem ap_178 : ah_P[178]? = some ah_M178 := rfl
set_option maxRecDepth 20000 in
theorem ap_179 : ah_P[179]? = some ah_M179 := rfl
set_option maxRecDepth 20000 in
theorem ap_180 : ah_P[180]? = some ah_M180 := rfl
set_option maxRecDepth 20000 in
theorem ap_181 : ah_P[181]? = some ah_M181 := rfl
set_option maxRecDepth 20000 in
theorem ap_182 : ah_P[182]? = some ah_M182 := rfl
set_option maxRecDepth 20000 in
theorem ap_183 : ah_P[183]? = some ah_M183 := rfl
set_option maxRecDepth 20000 in
theorem ap_184 : ah_P[184]? = some ah_M184 := rfl
set_option maxRecDepth 20000 in
theorem ap_185 : ah_P[185]? = some ah_M185 := rfl
set_option maxRecDepth 20000 in
theorem ap_186 : ah_P[186]? = some ah_M186 := rfl
set_option maxRecDepth 20000 in
theorem ap_187 : ah_P[187]? = some ah_M187 := rfl
set_option maxRecDepth 20000 in
theorem ap_188 : ah_P[188]? = some ah_M188 := rfl
set_option maxRecDepth 20000 in
theorem ap_189 : ah_P[189]? = some ah_M189 := rfl
set_option maxRecDepth 20000 in
theorem ap_190 : ah_P[190]? = some ah_M190 := rfl
set_option maxRecDepth 20000 in
theorem ap_191 : ah_P[191]? = some ah_M191 := rfl
set_option maxRecDepth 20000 in
theorem ap_192 : ah_P[192]? = some ah_M192 := rfl
set_option maxRecDepth 20000 in
theorem ap_193 : ah_P[193]? = some ah_M193 := rfl
set_option maxRecDepth 20000 in
theorem ap_194 : ah_P[194]? = some ah_M194 := rfl
set_option maxRecDepth 20000 in
theorem ap_195 : ah_P[195]? = some ah_M195 := rfl
set_option maxRecDepth 20000 in
theorem ap_196 : ah_P[196]? = some ah_M196 := rfl
set_option maxRecDepth 20000 in
theorem ap_197 : ah_P[197]? = some ah_M197 := rfl
set_option maxRecDepth 20000 in
theorem ap_198 : ah_P[198]? = some ah_M198 := rfl
set_option maxRecDepth 20000 in
theorem ap_199 : ah_P[199]? = some ah_M199 := rfl
set_option maxRecDepth 20000 in
theorem ap_200 : ah_P[200]? = some ah_M200 := rfl
set_option maxRecDepth 20000 in
theorem ap_201 : ah_P[201]? = some ah_M201 := rfl
set_option maxRecDepth 20000 in
theorem ap_202 : ah_P[202]? = some ah_M202 := rfl
set_option maxRecDepth 20000 in
theorem ap_203 : ah_P[203]? = some ah_M203 := rfl
set_option maxRecDepth 20000 in
theorem ap_204 : ah_P[204]? = some ah_M204 := rfl
set_option maxRecDepth 20000 in
theorem ap_205 : ah_P[205]? = some ah_M205 := rfl
set_option maxRecDepth 20000 in
theorem ap_206 : ah_P[206]? = some ah_M206 := rfl
set_option maxRecDepth 20000 in
theorem ap_207 : ah_P[207]? = some ah_M207 := rfl
set_option maxRecDepth 20000 in
theorem ap_208 : ah_P[208]? = some ah_M208 := rfl
set_option maxRecDepth 20000 in
theorem ap_209 : ah_P[209]? = some ah_M209 := rfl
set_option maxRecDepth 20000 in
theorem ap_210 : ah_P[210]? = some ah_M210 := rfl
set_option maxRecDepth 20000 in
theorem ap_211 : ah_P[211]? = some ah_M211 := rfl
set_option maxRecDepth 20000 in
theorem ap_212 : ah_P[212]? = some ah_M212 := rfl
set_option maxRecDepth 20000 in
theorem ap_213 : ah_P[213]? = some ah_M213 := rfl
set_option maxRecDepth 20000 in
theorem ap_214 : ah_P[214]? = some ah_M214 := rfl
set_option maxRecDepth 20000 in
theorem ap_215 : ah_P[215]? = some ah_M215 := rfl
set_option maxRecDepth 20000 in
theorem ap_216 : ah_P[216]? = some ah_M216 := rfl
set_option maxRecDepth 20000 in
theorem ap_217 : ah_P[217]? = some ah_M217 := rfl
set_option maxRecDepth 20000 in
theorem ap_218 : ah_P[218]? = some ah_M218 := rfl
set_option maxRecDepth 20000 in
theorem ap_219 : ah_P[219]? = some ah_M219 := rfl
set_option maxRecDepth 20000 in
theorem ap_220 : ah_P[220]? = some ah_M220 := rfl
set_option maxRecDepth 20000 in
theorem ap_221 : ah_P[221]? = some ah_M221 := rfl
set_option maxRecDepth 20000 in
theorem ap_222 : ah_P[222]? = some ah_M222 := rfl
set_option maxRecDepth 20000 in
theorem ap_223 : ah_P[223]? = some ah_M223 := rfl
set_option maxRecDepth 20000 in
theorem ap_224 : ah_P[224]? = some ah_M224 := rfl
set_option maxRecDepth 20000 in
theorem ap_225 : ah_P[225]? = some ah_M225 := rfl
set_option maxRecDepth 20000 in
theorem ap_226 : ah_P[226]? = some ah_M226 := rfl
set_option maxRecDepth 20000 in
theorem ap_227 : ah_P[227]? = some ah_M227 := rfl
set_option maxRecDepth 20000 in
theorem ap_228 : ah_P[228]? = some ah_M228 := rfl
set_option maxRecDepth 20000 in
theorem ap_229 : ah_P[229]? = some ah_M229 := rfl
set_option maxRecDepth 20000 in
theorem ap_230 : ah_P[230]? = some ah_M230 := rfl
set_option maxRecDepth 20000 in
theorem ap_231 : ah_P[231]? = some ah_M231 := rfl
set_option maxRecDepth 20000 in
theorem ap_232 : ah_P[232]? = some ah_M232 := rfl
set_option maxRecDepth 20000 in
theorem ap_233 : ah_P[233]? = some ah_M233 := rfl
set_option maxRecDepth 20000 in
theorem ap_234 : ah_P[234]? = some ah_M234 := rfl
set_option maxRecDepth 20000 in
theorem ap_235 : ah_P[235]? = some ah_M235 := rfl
set_option maxRecDepth 20000 in
theorem ap_236 : ah_P[236]? = some ah_M236 := rfl
set_option maxRecDepth 20000 in
theorem ap_237 : ah_P[237]? = some ah_M237 := rfl
set_option maxRecDepth 20000 in
theorem ap_238 : ah_P[238]? = some ah_M238 := rfl
set_option maxRecDepth 20000 in
theorem ap_239 : ah_P[239]? = some ah_M239 := rfl
set_option maxRecDepth 20000 in
theorem ap_240 : ah_P[240]? = some ah_M240 := rfl
set_option maxRecDepth 20000 in
theorem ap_241 : ah_P[241]? = some ah_M241 := rfl
set_option maxRecDepth 20000 in
theorem ap_242 : ah_P[242]? = some ah_M242 := rfl
set_option maxRecDepth 20000 in
theorem ap_243 : ah_P[243]? = some ah_M243 := rfl
set_option maxRecDepth 20000 in
theorem ap_244 : ah_P[244]? = some ah_M244 := rfl
set_option maxRecDepth 20000 in
theorem ap_245 : ah_P[245]? = some ah_M245 := rfl
set_option maxRecDepth 20000 in
theorem ap_246 : ah_P[246]? = some ah_M246 := rfl
set_option maxRecDepth 20000 in
theorem ap_247 : ah_P[247]? = some ah_M247 := rfl
set_option maxRecDepth 20000 in
theorem ap_248 : ah_P[248]? = some ah_M248 := rfl
set_option maxRecDepth 20000 in
theorem ap_249 : ah_P[249]? = some ah_M249 := rfl
set_option maxRecDepth 20000 in
theorem ap_250 : ah_P[250]? = some ah_M250 := rfl
set_option maxRecDepth 20000 in
theorem ap_251 : ah_P[251]? = some ah_M251 := rfl
set_option maxRecDepth 20000 in
theorem ap_252 : ah_P[252]? = some ah_M252 := rfl
set_option maxRecDepth 20000 in
theorem ap_253 : ah_P[253]? = some ah_M253 := rfl
set_option maxRecDepth 20000 in
theorem ap_254 : ah_P[254]? = some ah_M254 := rfl
set_option maxRecDepth 20000 in
theorem ap_255 : ah_P[255]? = some ah_M255 := rfl
set_option maxRecDepth 20000 in
theorem ap_256 : ah_P[256]? = some ah_M256 := rfl
set_option maxRecDepth 20000 in
theorem ap_257 : ah_P[257]? = some ah_M257 := rfl
set_option maxRecDepth 20000 in
theorem ap_258 : ah_P[258]? = some ah_M258 := rfl
set_option maxRecDepth 20000 in
theorem ap_259 : ah_P[259]? = some ah_M259 := rfl
set_option maxRecDepth 20000 in
theorem ap_260 : ah_P[260]? = some ah_M260 := rfl
set_option maxRecDepth 20000 in
theorem ap_261 : ah_P[261]? = some ah_M261 := rfl
set_option maxRecDepth 20000 in
theorem ap_262 : ah_P[262]? = some ah_M262 := rfl
set_option maxRecDepth 20000 in
theorem ap_263 : ah_P[263]? = some ah_M263 := rfl
set_option maxRecDepth 20000 in
theorem ap_264 : ah_P[264]? = some ah_M264 := rfl
set_option maxRecDepth 20000 in
theorem ap_265 : ah_P[265]? = some ah_M265 := rfl
set_option maxRecDepth 20000 in
theorem ap_266 : ah_P[266]? = some ah_M266 := rfl
set_option maxRecDepth 20000 in
theorem ap_267 : ah_P[267]? = some ah_M267 := rfl
set_option maxRecDepth 20000 in
theorem ap_268 : ah_P[268]? = some ah_M268 := rfl
set_option maxRecDepth 20000 in
theorem ap_269 : ah_P[269]? = some ah_M269 := rfl
set_option maxRecDepth 20000 in
theorem ap_270 : ah_P[270]? = some ah_M270 := rfl
set_option maxRecDepth 20000 in
theorem ap_271 : ah_P[271]? = some ah_M271 := rfl
set_option maxRecDepth 20000 in
theorem ap_272 : ah_P[272]? = some ah_M272 := rfl
set_option maxRecDepth 20000 in
theorem ap_273 : ah_P[273]? = some ah_M273 := rfl
set_option maxRecDepth 20000 in
theorem ap_274 : ah_P[274]? = some ah_M274 := rfl
set_option maxRecDepth 20000 in
theorem ap_275 : ah_P[275]? = some ah_M275 := rfl
set_option maxRecDepth 20000 in
theorem ap_276 : ah_P[276]? = some ah_M276 := rfl
set_option maxRecDepth 20000 in
theorem ap_277 : ah_P[277]? = some ah_M277 := rfl
set_option maxRecDepth 20000 in
theorem ap_278 : ah_P[278]? = some ah_M278 := rfl
set_option maxRecDepth 20000 in
theorem ap_279 : ah_P[279]? = some ah_M279 := rfl
set_option maxRecDepth 20000 in
theorem ap_280 : ah_P[280]? = some ah_M280 := rfl
set_option maxRecDepth 20000 in
theorem ap_281 : ah_P[281]? = some ah_M281 := rfl
set_option maxRecDepth 20000 in
theorem ap_282 : ah_P[282]? = some ah_M282 := rfl
set_option maxRecDepth 20000 in
theorem ap_283 : ah_P[283]? = some ah_M283 := rfl
set_option maxRecDepth 20000 in
theorem ap_284 : ah_P[284]? = some ah_M284 := rfl
set_option maxRecDepth 20000 in
theorem ap_285 : ah_P[285]? = some ah_M285 := rfl
set_option maxRecDepth 20000 in
theorem ap_286 : ah_P[286]? = some ah_M286 := rfl
set_option maxRecDepth 20000 in
theorem ap_287 : ah_P[287]? = some ah_M287 := rfl
set_option maxRecDepth 20000 in
theorem ap_288 : ah_P[288]? = some ah_M288 := rfl
set_option maxRecDepth 20000 in
theorem ap_289 : ah_P[289]? = some ah_M289 := rfl
set_option maxRecDepth 20000 in
theorem ap_290 : ah_P[290]? = some ah_M290 := rfl
set_option maxRecDepth 20000 in
theorem ap_291 : ah_P[291]? = some ah_M291 := rfl
set_option maxRecDepth 20000 in
theorem ap_292 : ah_P[292]? = some ah_M292 := rfl
set_option maxRecDepth 20000 in
theorem ap_293 : ah_P[293]? = some ah_M293 := rfl
set_option maxRecDepth 20000 in
theorem ap_294 : ah_P[294]? = some ah_M294 := rfl
set_option maxRecDepth 20000 in
theorem ap_295 : ah_P[295]? = some ah_M295 := rfl
set_option maxRecDepth 20000 in
theorem ap_296 : ah_P[296]? = some ah_M296 := rfl
set_option maxRecDepth 20000 in
theorem ap_297 : ah_P[297]? = some ah_M297 := rfl
set_option maxRecDepth 20000 in
theorem ap_298 : ah_P[298]? = some ah_M298 := rfl
set_option maxRecDepth 20000 in
theorem ap_299 : ah_P[299]? = some ah_M299 := rfl
set_option maxRecDepth 20000 in
theorem ap_300 : ah_P[300]? = some ah_M300 := rfl
set_option maxRecDepth 20000 in
theorem ap_301 : ah_P[301]? = some ah_M301 := rfl
set_option maxRecDepth 20000 in
theorem ap_302 : ah_P[302]? = some ah_M302 := rfl
set_option maxRecDepth 20000 in
theorem ap_303 : ah_P[303]? = some ah_M303 := rfl
set_option maxRecDepth 20000 in
theorem ap_304 : ah_P[304]? = some ah_M304 := rfl
set_option maxRecDepth 20000 in
theorem ap_305 : ah_P[305]? = some ah_M305 := rfl
set_option maxRecDepth 20000 in
theorem ap_306 : ah_P[306]? = some ah_M306 := rfl
set_option maxRecDepth 20000 in
theorem ap_307 : ah_P[307]? = some ah_M307 := rfl
set_option maxRecDepth 20000 in
theorem ap_308 : ah_P[308]? = some ah_M308 := rfl
set_option maxRecDepth 20000 in
theorem ap_309 : ah_P[309]? = some ah_M309 := rfl
set_option maxRecDepth 20000 in
theorem ap_310 : ah_P[310]? = some ah_M310 := rfl
set_option maxRecDepth 20000 in
theorem ap_311 : ah_P[311]? = some ah_M311 := rfl
set_option maxRecDepth 20000 in
theorem ap_312 : ah_P[312]? = some ah_M312 := rfl
set_option maxRecDepth 20000 in
theorem ap_313 : ah_P[313]? = some ah_M313 := rfl
set_option maxRecDepth 20000 in
theorem ap_314 : ah_P[314]? = some ah_M314 := rfl
set_option maxRecDepth 20000 in
theorem ap_315 : ah_P[315]? = some ah_M315 := rfl
set_option maxRecDepth 20000 in
theorem ap_316 : ah_P[316]? = some ah_M316 := rfl
set_option maxRecDepth 20000 in
theorem ap_317 : ah_P[317]? = some ah_M317 := rfl
set_option maxRecDepth 20000 in
theorem ap_318 : ah_P[318]? = some ah_M318 := rfl
set_option maxRecDepth 20000 in
theorem ap_319 : ah_P[319]? = some ah_M319 := rfl
set_option maxRecDepth 20000 in
theorem ap_320 : ah_P[320]? = some ah_M320 := rfl
set_option maxRecDepth 20000 in
theorem ap_321 : ah_P[321]? = some ah_M321 := rfl
set_option maxRecDepth 20000 in
theorem ap_322 : ah_P[322]? = some ah_M322 := rfl
set_option maxRecDepth 20000 in
theorem ap_323 : ah_P[323]? = some ah_M323 := rfl
set_option maxRecDepth 20000 in
theorem ap_324 : ah_P[324]? = some ah_M324 := rfl
set_option maxRecDepth 20000 in
theorem ap_325 : ah_P[325]? = some ah_M325 := rfl
set_option maxRecDepth 20000 in
theorem ap_326 : ah_P[326]? = some ah_M326 := rfl
set_option maxRecDepth 20000 in
theorem ap_327 : ah_P[327]? = some ah_M327 := rfl
set_option maxRecDepth 20000 in
theorem ap_328 : ah_P[328]? = some ah_M328 := rfl
set_option maxRecDepth 20000 in
theorem ap_329 : ah_P[329]? = some ah_M329 := rfl
set_option maxRecDepth 20000 in
theorem ap_330 : ah_P[330]? = some ah_M330 := rfl
set_option maxRecDepth 20000 in
theorem ap_331 : ah_P[331]? = some ah_M331 := rfl
set_option maxRecDepth 20000 in
theorem ap_332 : ah_P[332]? = some ah_M332 := rfl
set_option maxRecDepth 20000 in
theorem ap_333 : ah_P[333]? = some ah_M333 := rfl
set_option maxRecDepth 20000 in
theorem ap_334 : ah_P[334]? = some ah_M334 := rfl
set_option maxRecDepth 20000 in
theorem ap_335 : ah_P[335]? = some ah_M335 := rfl
set_option maxRecDepth 20000 in
theorem ap_336 : ah_P[336]? = some ah_M336 := rfl
set_option maxRecDepth 20000 in
theorem ap_337 : ah_P[337]? = some ah_M337 := rfl
set_option maxRecDepth 20000 in
theorem ap_338 : ah_P[338]? = some ah_M338 := rfl
set_option maxRecDepth 20000 in
theorem ap_339 : ah_P[339]? = some ah_M339 := rfl
set_option maxRecDepth 20000 in
theorem ap_340 : ah_P[340]? = some ah_M340 := rfl
set_option maxRecDepth 20000 in
theorem ap_341 : ah_P[341]? = some ah_M341 := rfl
set_option maxRecDepth 20000 in
theorem ap_342 : ah_P[342]? = some ah_M342 := rfl
set_option maxRecDepth 20000 in
theorem ap_343 : ah_P[343]? = some ah_M343 := rfl
set_option maxRecDepth 20000 in
theorem ap_344 : ah_P[344]? = some ah_M344 := rfl
set_option maxRecDepth 20000 in
theorem ap_345 : ah_P[345]? = some ah_M345 := rfl
set_option maxRecDepth 20000 in
theorem ap_346 : ah_P[346]? = some ah_M346 := rfl
set_option maxRecDepth 20000 in
theorem ap_347 : ah_P[347]? = some ah_M347 := rfl
set_option maxRecDepth 20000 in
theorem ap_348 : ah_P[348]? = some ah_M348 := rfl
set_option maxRecDepth 20000 in
theorem ap_349 : ah_P[349]? = some ah_M349 := rfl
set_option maxRecDepth 20000 in
theorem ap_350 : ah_P[350]? = some ah_M350 := rfl
set_option maxRecDepth 20000 in
theorem ap_351 : ah_P[351]? = some ah_M351 := rfl
set_option maxRecDepth 20000 in
theorem ap_352 : ah_P[352]? = some ah_M352 := rfl
set_option maxRecDepth 20000 in
theorem ap_353 : ah_P[353]? = some ah_M353 := rfl
set_option maxRecDepth 20000 in
theorem ap_354 : ah_P[354]? = some ah_M354 := rfl
set_option maxRecDepth 20000 in
theorem ap_355 : ah_P[355]? = some ah_M355 := rfl
set_option maxRecDepth 20000 in
theorem ap_356 : ah_P[356]? = some ah_M356 := rfl
set_option maxRecDepth 20000 in
theorem ap_357 : ah_P[357]? = some ah_M357 := rfl
set_option maxRecDepth 20000 in
theorem ap_358 : ah_P[358]? = some ah_M358 := rfl
set_option maxRecDepth 20000 in
theorem ap_359 : ah_P[359]? = some ah_M359 := rfl
set_option maxRecDepth 20000 in
theorem ap_360 : ah_P[360]? = some ah_M360 := rfl
set_option maxRecDepth 20000 in
theorem ap_361 : ah_P[361]? = some ah_M361 := rfl
set_option maxRecDepth 20000 in
theorem ap_362 : ah_P[362]? = some ah_M362 := rfl
set_option maxRecDepth 20000 in
theorem ap_363 : ah_P[363]? = some ah_M363 := rfl
set_option maxRecDepth 20000 in
theorem ap_364 : ah_P[364]? = some ah_M364 := rfl
set_option maxRecDepth 20000 in
theorem ap_365 : ah_P[365]? = some ah_M365 := rfl
set_option maxRecDepth 20000 in
theorem ap_366 : ah_P[366]? = some ah_M366 := rfl
set_option maxRecDepth 20000 in
theorem ap_367 : ah_P[367]? = some ah_M367 := rfl
set_option maxRecDepth 20000 in
theorem ap_368 : ah_P[368]? = some ah_M368 := rfl
set_option maxRecDepth 20000 in
theorem ap_369 : ah_P[369]? = some ah_M369 := rfl
set_option maxRecDepth 20000 in
theorem ap_370 : ah_P[370]? = some ah_M370 := rfl
set_option maxRecDepth 20000 in
theorem ap_371 : ah_P[371]? = some ah_M371 := rfl
set_option maxRecDepth 20000 in
theorem ap_372 : ah_P[372]? = some ah_M372 := rfl
set_option maxRecDepth 20000 in
theorem ap_373 : ah_P[373]? = some ah_M373 := rfl
set_option maxRecDepth 20000 in
theorem ap_374 : ah_P[374]? = some ah_M374 := rfl
set_option maxRecDepth 20000 in
theorem ap_375 : ah_P[375]? = some ah_M375 := rfl
set_option maxRecDepth 20000 in
theorem ap_376 : ah_P[376]? = some ah_M376 := rfl
set_option maxRecDepth 20000 in
theorem ap_377 : ah_P[377]? = some ah_M377 := rfl
set_option maxRecDepth 20000 in
theorem ap_378 : ah_P[378]? = some ah_M378 := rfl
set_option maxRecDepth 20000 in
theorem ap_379 : ah_P[379]? = some ah_M379 := rfl
set_option maxRecDepth 20000 in
theorem ap_380 : ah_P[380]? = some ah_M380 := rfl
set_option maxRecDepth 20000 in
theorem ap_381 : ah_P[381]? = some ah_M381 := rfl
set_option maxRecDepth 20000 in
theorem ap_382 : ah_P[382]? = some ah_M382 := rfl
set_option maxRecDepth 20000 in
theorem ap_383 : ah_P[383]? = some ah_M383 := rfl
set_option maxRecDepth 20000 in
theorem ap_384 : ah_P[384]? = some ah_M384 := rfl
set_option maxRecDepth 20000 in
theorem ap_385 : ah_P[385]? = some ah_M385 := rfl
set_option maxRecDepth 20000 in
theorem ap_386 : ah_P[386]? = some ah_M386 := rfl
set_option maxRecDepth 20000 in
theorem ap_387 : ah_P[387]? = some ah_M387 := rfl
set_option maxRecDepth 20000 in
theorem ap_388 : ah_P[388]? = some ah_M388 := rfl
set_option maxRecDepth 20000 in
theorem ap_389 : ah_P[389]? = some ah_M389 := rfl
set_option maxRecDepth 20000 in
theorem ap_390 : ah_P[390]? = some ah_M390 := rfl
set_option maxRecDepth 20000 in
theorem ap_391 : ah_P[391]? = some ah_M391 := rfl
set_option maxRecDepth 20000 in
theorem ap_392 : ah_P[392]? = some ah_M392 := rfl
set_option maxRecDepth 20000 in
theorem ap_393 : ah_P[393]? = some ah_M393 := rfl
set_option maxRecDepth 20000 in
theorem ap_394 : ah_P[394]? = some ah_M394 := rfl
set_option maxRecDepth 20000 in
theorem ap_395 : ah_P[395]? = some ah_M395 := rfl
set_option maxRecDepth 20000 in
theorem ap_396 : ah_P[396]? = some ah_M396 := rfl
set_option maxRecDepth 20000 in
theorem ap_397 : ah_P[397]? = some ah_M397 := rfl
set_option maxRecDepth 20000 in
theorem ap_398 : ah_P[398]? = some ah_M398 := rfl
set_option maxRecDepth 20000 in
theorem ap_399 : ah_P[399]? = some ah_M399 := rfl
set_option maxRecDepth 20000 in
theorem ap_400 : ah_P[400]? = some ah_M400 := rfl
set_option maxRecDepth 20000 in
theorem ap_401 : ah_P[401]? = some ah_M401 := rfl
set_option maxRecDepth 20000 in
theorem ap_402 : ah_P[402]? = some ah_M402 := rfl
set_option maxRecDepth 20000 in
theorem ap_403 : ah_P[403]? = some ah_M403 := rfl
set_option maxRecDepth 20000 in
theorem ap_404 : ah_P[404]? = some ah_M404 := rfl
set_option maxRecDepth 20000 in
theorem ap_405 : ah_P[405]? = some ah_M405 := rfl
set_option maxRecDepth 20000 in
theorem ap_406 : ah_P[406]? = some ah_M406 := rfl
set_option maxRecDepth 20000 in
theorem ap_407 : ah_P[407]? = some ah_M407 := rfl
set_option maxRecDepth 20000 in
theorem ap_408 : ah_P[408]? = some ah_M408 := rfl
set_option maxRecDepth 20000 in
theorem ap_409 : ah_P[409]? = some ah_M409 := rfl
set_option maxRecDepth 20000 in
theorem ap_410 : ah_P[410]? = some ah_M410 := rfl
set_option maxRecDepth 20000 in
theorem ap_411 : ah_P[411]? = some ah_M411 := rfl
set_option maxRecDepth 20000 in
theorem ap_412 : ah_P[412]? = some ah_M412 := rfl
set_option maxRecDepth 20000 in
theorem ap_413 : ah_P[413]? = some ah_M413 := rfl
