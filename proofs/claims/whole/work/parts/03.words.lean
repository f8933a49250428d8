theorem kw_1_168 : (Cond.methodLink RX9 118 yX9_isWithin) ∈ TG := tg (tb_1 (List.mem_of_getElem? (i := 168) rfl)) rfl
theorem kw_3_173 : (Cond.constant RX0 7 (1103515245)) ∈ TG := tg (tb_3 (List.mem_of_getElem? (i := 173) rfl)) rfl
theorem kw_3_177 : (Cond.constant RX0 8 (2147483647)) ∈ TG := tg (tb_3 (List.mem_of_getElem? (i := 177) rfl)) rfl
theorem kw_3_178 : (Cond.constant RX0 9 (65536)) ∈ TG := tg (tb_3 (List.mem_of_getElem? (i := 178) rfl)) rfl
theorem kw_4_1 : (Cond.methodLink RX3 9 yX3_widowPrice) ∈ TG := tg (tb_4 (List.mem_of_getElem? (i := 1) rfl)) rfl
theorem kw_2_34 : (Cond.constant RJ6 265 (1431655765)) ∈ TG := tg (tb_2 (List.mem_of_getElem? (i := 34) rfl)) rfl
theorem kw_2_35 : (Cond.constant RJ6 266 (858993459)) ∈ TG := tg (tb_2 (List.mem_of_getElem? (i := 35) rfl)) rfl
theorem kw_2_36 : (Cond.constant RJ6 267 (252645135)) ∈ TG := tg (tb_2 (List.mem_of_getElem? (i := 36) rfl)) rfl
theorem kw_2_220 : (Cond.methodLink RX1 7 yJ9_abs_067f4) ∈ TG := tg (tb_2 (List.mem_of_getElem? (i := 220) rfl)) rfl
theorem kw_2_221 : (Cond.static yJ9_abs_067f4) ∈ TG := tg (tb_2 (List.mem_of_getElem? (i := 221) rfl)) rfl
theorem kw_1_8 : (Cond.initialized RJ9) ∈ TG := tg (tb_1 (List.mem_of_getElem? (i := 8) rfl)) rfl
theorem kw_2_222 : (Cond.code yJ9_abs_067f4 cJ9_abs_067f4 2 (some .long)) ∈ TG := tg (tb_2 (List.mem_of_getElem? (i := 222) rfl)) rfl
theorem kw_2_223 : (Cond.methodLink RX1 13 yX1_commonDivisor) ∈ TG := tg (tb_2 (List.mem_of_getElem? (i := 223) rfl)) rfl
theorem kw_2_205 : (Cond.methodLink RX2 35 yJ6_bitCount_0f7a4) ∈ TG := tg (tb_2 (List.mem_of_getElem? (i := 205) rfl)) rfl
theorem kw_1_53 : (Cond.fieldLink RX8 43 "BalconiesParliament$Street" "people" "I") ∈ TG := tg (tb_1 (List.mem_of_getElem? (i := 53) rfl)) rfl
theorem kw_1_60 : (Cond.fieldLink RX8 46 "BalconiesParliament$Street" "day" "I") ∈ TG := tg (tb_1 (List.mem_of_getElem? (i := 60) rfl)) rfl
theorem kw_1_50 : (Cond.fieldLink RX8 40 "BalconiesParliament$Street" "shut" "I") ∈ TG := tg (tb_1 (List.mem_of_getElem? (i := 50) rfl)) rfl
theorem kw_1_43 : (Cond.fieldLink RX8 21 "BalconiesParliament$Street" "rail" "[I") ∈ TG := tg (tb_1 (List.mem_of_getElem? (i := 43) rfl)) rfl
theorem kw_1_39 : (Cond.fieldLink RX8 15 "BalconiesParliament$Street" "kind" "[I") ∈ TG := tg (tb_1 (List.mem_of_getElem? (i := 39) rfl)) rfl
theorem kw_1_41 : (Cond.fieldLink RX8 18 "BalconiesParliament$Street" "figure" "[I") ∈ TG := tg (tb_1 (List.mem_of_getElem? (i := 41) rfl)) rfl
theorem kw_1_35 : (Cond.fieldLink RX8 9 "BalconiesParliament$Street" "height" "[I") ∈ TG := tg (tb_1 (List.mem_of_getElem? (i := 35) rfl)) rfl
theorem kw_2_55 : (Cond.methodLink RX8 57 yX3_weightOf) ∈ TG := tg (tb_2 (List.mem_of_getElem? (i := 55) rfl)) rfl
theorem kw_2_9 : (Cond.methodLink RX8 63 yX8_isHeard) ∈ TG := tg (tb_2 (List.mem_of_getElem? (i := 9) rfl)) rfl
theorem kw_1_45 : (Cond.fieldLink RX8 24 "BalconiesParliament$Street" "mood" "[I") ∈ TG := tg (tb_1 (List.mem_of_getElem? (i := 45) rfl)) rfl
theorem kw_2_134 : (Cond.methodLink RX8 67 yX8_weightOf) ∈ TG := tg (tb_2 (List.mem_of_getElem? (i := 134) rfl)) rfl
theorem kw_2_122 : (Cond.methodLink RX8 70 yX8_onesFor) ∈ TG := tg (tb_2 (List.mem_of_getElem? (i := 122) rfl)) rfl
theorem kw_2_130 : (Cond.methodLink RX8 74 yX8_weightOfAll) ∈ TG := tg (tb_2 (List.mem_of_getElem? (i := 130) rfl)) rfl
theorem kw_2_139 : (Cond.methodLink RX8 83 yX3_isVeto) ∈ TG := tg (tb_2 (List.mem_of_getElem? (i := 139) rfl)) rfl
theorem kw_2_126 : (Cond.methodLink RX8 77 yX8_sidesOf) ∈ TG := tg (tb_2 (List.mem_of_getElem? (i := 126) rfl)) rfl
theorem kw_1_56 : (Cond.fieldLink RX8 30 "BalconiesParliament$Street" "needed" "I") ∈ TG := tg (tb_1 (List.mem_of_getElem? (i := 56) rfl)) rfl
theorem kw_2_135 : (Cond.methodLink RX8 80 yX8_isVetoed) ∈ TG := tg (tb_2 (List.mem_of_getElem? (i := 135) rfl)) rfl
theorem kw_2_114 : (Cond.methodLink RX8 86 yX8_heardOnes) ∈ TG := tg (tb_2 (List.mem_of_getElem? (i := 114) rfl)) rfl
theorem kw_2_118 : (Cond.methodLink RX8 89 yX8_whyNot) ∈ TG := tg (tb_2 (List.mem_of_getElem? (i := 118) rfl)) rfl
theorem kw_2_20 : (Cond.methodLink RX8 92 yJ9_abs_0f7a4) ∈ TG := tg (tb_2 (List.mem_of_getElem? (i := 20) rfl)) rfl
theorem kw_2_21 : (Cond.static yJ9_abs_0f7a4) ∈ TG := tg (tb_2 (List.mem_of_getElem? (i := 21) rfl)) rfl
theorem kw_2_22 : (Cond.code yJ9_abs_0f7a4 cJ9_abs_0f7a4 1 (some .int)) ∈ TG := tg (tb_2 (List.mem_of_getElem? (i := 22) rfl)) rfl
theorem kw_2_16 : (Cond.methodLink RX8 97 yX8_isInSight) ∈ TG := tg (tb_2 (List.mem_of_getElem? (i := 16) rfl)) rfl
theorem kw_1_48 : (Cond.fieldLink RX8 27 "BalconiesParliament$Street" "sight" "[I") ∈ TG := tg (tb_1 (List.mem_of_getElem? (i := 48) rfl)) rfl
theorem kw_2_31 : (Cond.methodLink RX8 107 yJ6_bitCount_0f7a4) ∈ TG := tg (tb_2 (List.mem_of_getElem? (i := 31) rfl)) rfl
theorem kw_2_37 : (Cond.methodLink RX8 112 yX3_swayOf) ∈ TG := tg (tb_2 (List.mem_of_getElem? (i := 37) rfl)) rfl
theorem kw_2_40 : (Cond.methodLink RX8 116 yJ9_min_7cf53) ∈ TG := tg (tb_2 (List.mem_of_getElem? (i := 40) rfl)) rfl
theorem kw_2_41 : (Cond.static yJ9_min_7cf53) ∈ TG := tg (tb_2 (List.mem_of_getElem? (i := 41) rfl)) rfl
theorem kw_2_42 : (Cond.code yJ9_min_7cf53 cJ9_min_7cf53 2 (some .int)) ∈ TG := tg (tb_2 (List.mem_of_getElem? (i := 42) rfl)) rfl
theorem kw_2_43 : (Cond.methodLink RX8 119 yJ9_max_7cf53) ∈ TG := tg (tb_2 (List.mem_of_getElem? (i := 43) rfl)) rfl
theorem kw_2_44 : (Cond.static yJ9_max_7cf53) ∈ TG := tg (tb_2 (List.mem_of_getElem? (i := 44) rfl)) rfl
theorem kw_2_45 : (Cond.code yJ9_max_7cf53 cJ9_max_7cf53 2 (some .int)) ∈ TG := tg (tb_2 (List.mem_of_getElem? (i := 45) rfl)) rfl
theorem kw_1_175 : (Cond.methodLink RX8 34 ⟨"java/lang/System", "arraycopy", "(Ljava/lang/Object;ILjava/lang/Object;II)V"⟩) ∈ TG := tg (tb_1 (List.mem_of_getElem? (i := 175) rfl)) rfl
theorem kw_1_177 : (Cond.native arraycopyName) ∈ TG := tg (tb_1 (List.mem_of_getElem? (i := 177) rfl)) rfl
theorem kw_1_176 : (Cond.static ⟨"java/lang/System", "arraycopy", "(Ljava/lang/Object;ILjava/lang/Object;II)V"⟩) ∈ TG := tg (tb_1 (List.mem_of_getElem? (i := 176) rfl)) rfl
theorem kw_1_6 : (Cond.initialized RJ10) ∈ TG := tg (tb_1 (List.mem_of_getElem? (i := 6) rfl)) rfl
theorem kw_1_216 : (Cond.methodLink RX8 49 yX8_hasRoom) ∈ TG := tg (tb_1 (List.mem_of_getElem? (i := 216) rfl)) rfl
theorem kw_1_49 : (Cond.fieldLink RX8 100 "BalconiesParliament$Street" "moving" "Z") ∈ TG := tg (tb_1 (List.mem_of_getElem? (i := 49) rfl)) rfl
theorem kw_2_27 : (Cond.methodLink RX8 104 yX8_moodBehindLook) ∈ TG := tg (tb_2 (List.mem_of_getElem? (i := 27) rfl)) rfl
theorem kw_2_5 : (Cond.methodLink RX8 122 yX8_startDays) ∈ TG := tg (tb_2 (List.mem_of_getElem? (i := 5) rfl)) rfl
theorem kw_2_23 : (Cond.methodLink RX8 125 yX8_nextDay) ∈ TG := tg (tb_2 (List.mem_of_getElem? (i := 23) rfl)) rfl
theorem kw_2_178 : (Cond.methodLink RX8 128 yX8_isCarried) ∈ TG := tg (tb_2 (List.mem_of_getElem? (i := 178) rfl)) rfl
theorem kw_3_170 : (Cond.methodLink RX8 135 yX0_next) ∈ TG := tg (tb_3 (List.mem_of_getElem? (i := 170) rfl)) rfl
theorem kw_3_174 : (Cond.methodLink RX8 140 yX0_below) ∈ TG := tg (tb_3 (List.mem_of_getElem? (i := 174) rfl)) rfl
theorem kw_1_123 : (Cond.fieldLink RX7 28 "BalconiesParliament$Shelf" "size" "I") ∈ TG := tg (tb_1 (List.mem_of_getElem? (i := 123) rfl)) rfl
theorem kw_1_188 : (Cond.methodLink RX7 31 yX7_hasPlace) ∈ TG := tg (tb_1 (List.mem_of_getElem? (i := 188) rfl)) rfl
theorem kw_1_111 : (Cond.fieldLink RX7 9 "BalconiesParliament$Shelf" "elements" "[I") ∈ TG := tg (tb_1 (List.mem_of_getElem? (i := 111) rfl)) rfl
theorem kw_1_120 : (Cond.fieldLink RX7 25 "BalconiesParliament$Shelf" "sort" "I") ∈ TG := tg (tb_1 (List.mem_of_getElem? (i := 120) rfl)) rfl
theorem kw_3_128 : (Cond.constant RX7 46 (-2147483648)) ∈ TG := tg (tb_3 (List.mem_of_getElem? (i := 128) rfl)) rfl
theorem kw_3_123 : (Cond.methodLink RX7 39 yX7_at) ∈ TG := tg (tb_3 (List.mem_of_getElem? (i := 123) rfl)) rfl
theorem kw_3_124 : (Cond.methodLink RX7 42 yX7_leastOfSort) ∈ TG := tg (tb_3 (List.mem_of_getElem? (i := 124) rfl)) rfl
theorem kw_1_113 : (Cond.fieldLink RX7 15 "BalconiesParliament$Shelf" "holds" "I") ∈ TG := tg (tb_1 (List.mem_of_getElem? (i := 113) rfl)) rfl
theorem kw_1_115 : (Cond.fieldLink RX7 19 "BalconiesParliament$Shelf" "kind" "I") ∈ TG := tg (tb_1 (List.mem_of_getElem? (i := 115) rfl)) rfl
theorem kw_1_117 : (Cond.fieldLink RX7 22 "BalconiesParliament$Shelf" "figure" "I") ∈ TG := tg (tb_1 (List.mem_of_getElem? (i := 117) rfl)) rfl
theorem kw_3_221 : (Cond.methodLink RX7 35 yX7_lowestBits) ∈ TG := tg (tb_3 (List.mem_of_getElem? (i := 221) rfl)) rfl
theorem kw_2_194 : (Cond.methodLink RX2 25 yX8_sidesOf) ∈ TG := tg (tb_2 (List.mem_of_getElem? (i := 194) rfl)) rfl
theorem kw_2_191 : (Cond.methodLink RX2 9 yX2_isCrossing) ∈ TG := tg (tb_2 (List.mem_of_getElem? (i := 191) rfl)) rfl
theorem kw_2_195 : (Cond.methodLink RX2 15 yX8_weightOfAll) ∈ TG := tg (tb_2 (List.mem_of_getElem? (i := 195) rfl)) rfl
theorem kw_1_57 : (Cond.fieldLink RX2 21 "BalconiesParliament$Street" "needed" "I") ∈ TG := tg (tb_1 (List.mem_of_getElem? (i := 57) rfl)) rfl
theorem kw_2_210 : (Cond.methodLink RX2 32 yX2_isEnough) ∈ TG := tg (tb_2 (List.mem_of_getElem? (i := 210) rfl)) rfl
theorem kw_2_204 : (Cond.methodLink RX2 40 yX8_heardOnes) ∈ TG := tg (tb_2 (List.mem_of_getElem? (i := 204) rfl)) rfl
theorem kw_2_233 : (Cond.methodLink RX2 44 yX2_isFewer) ∈ TG := tg (tb_2 (List.mem_of_getElem? (i := 233) rfl)) rfl
theorem kw_1_55 : (Cond.fieldLink RX2 50 "BalconiesParliament$Street" "people" "I") ∈ TG := tg (tb_1 (List.mem_of_getElem? (i := 55) rfl)) rfl
theorem kw_2_239 : (Cond.methodLink RX2 47 yX2_isLeast) ∈ TG := tg (tb_2 (List.mem_of_getElem? (i := 239) rfl)) rfl
theorem kw_2_206 : (Cond.methodLink RX2 53 yX2_isTurnedBy) ∈ TG := tg (tb_2 (List.mem_of_getElem? (i := 206) rfl)) rfl
theorem kw_2_211 : (Cond.methodLink RX2 57 yX2_ordersOf) ∈ TG := tg (tb_2 (List.mem_of_getElem? (i := 211) rfl)) rfl
theorem kw_1_121 : (Cond.fieldLink RX4 9 "BalconiesParliament$Shelf" "size" "I") ∈ TG := tg (tb_1 (List.mem_of_getElem? (i := 121) rfl)) rfl
theorem kw_3_97 : (Cond.methodLink RX4 15 yX7_at) ∈ TG := tg (tb_3 (List.mem_of_getElem? (i := 97) rfl)) rfl
theorem kw_3_98 : (Cond.methodLink RX4 19 yX8_areThere) ∈ TG := tg (tb_3 (List.mem_of_getElem? (i := 98) rfl)) rfl
theorem kw_3_103 : (Cond.methodLink RX4 29 yX8_heardOnes) ∈ TG := tg (tb_3 (List.mem_of_getElem? (i := 103) rfl)) rfl
theorem kw_3_104 : (Cond.methodLink RX4 33 yX2_isCrossing) ∈ TG := tg (tb_3 (List.mem_of_getElem? (i := 104) rfl)) rfl
theorem kw_3_105 : (Cond.methodLink RX4 39 yX8_weightOfAll) ∈ TG := tg (tb_3 (List.mem_of_getElem? (i := 105) rfl)) rfl
theorem kw_3_106 : (Cond.methodLink RX4 42 yJ9_max_7cf53) ∈ TG := tg (tb_3 (List.mem_of_getElem? (i := 106) rfl)) rfl
theorem kw_3_110 : (Cond.methodLink RX4 48 yJ9_min_7cf53) ∈ TG := tg (tb_3 (List.mem_of_getElem? (i := 110) rfl)) rfl
theorem kw_1_38 : (Cond.fieldLink RX6 61 "BalconiesParliament$Street" "height" "[I") ∈ TG := tg (tb_1 (List.mem_of_getElem? (i := 38) rfl)) rfl
theorem kw_1_208 : (Cond.methodLink RX6 67 yX8_hasRoom) ∈ TG := tg (tb_1 (List.mem_of_getElem? (i := 208) rfl)) rfl
theorem kw_1_212 : (Cond.methodLink RX6 71 yX8_admit) ∈ TG := tg (tb_1 (List.mem_of_getElem? (i := 212) rfl)) rfl
theorem kw_1_220 : (Cond.methodLink RX6 75 yX8_isThere) ∈ TG := tg (tb_1 (List.mem_of_getElem? (i := 220) rfl)) rfl
theorem kw_1_47 : (Cond.fieldLink RX6 78 "BalconiesParliament$Street" "mood" "[I") ∈ TG := tg (tb_1 (List.mem_of_getElem? (i := 47) rfl)) rfl
theorem kw_1_227 : (Cond.methodLink RX6 81 yX8_turnShutter) ∈ TG := tg (tb_1 (List.mem_of_getElem? (i := 227) rfl)) rfl
theorem kw_1_58 : (Cond.fieldLink RX6 85 "BalconiesParliament$Street" "needed" "I") ∈ TG := tg (tb_1 (List.mem_of_getElem? (i := 58) rfl)) rfl
theorem kw_1_237 : (Cond.methodLink RX6 88 yX8_hasDaysLeft) ∈ TG := tg (tb_1 (List.mem_of_getElem? (i := 237) rfl)) rfl
theorem kw_2_1 : (Cond.methodLink RX6 91 yX8_live) ∈ TG := tg (tb_2 (List.mem_of_getElem? (i := 1) rfl)) rfl
theorem kw_1_184 : (Cond.methodLink RX6 25 yX7_at) ∈ TG := tg (tb_1 (List.mem_of_getElem? (i := 184) rfl)) rfl
theorem kw_1_217 : (Cond.methodLink RX6 44 yX6_tryMood) ∈ TG := tg (tb_1 (List.mem_of_getElem? (i := 217) rfl)) rfl
theorem kw_1_199 : (Cond.methodLink RX6 36 yX6_tryHeight) ∈ TG := tg (tb_1 (List.mem_of_getElem? (i := 199) rfl)) rfl
theorem kw_1_224 : (Cond.methodLink RX6 47 yX6_tryShutter) ∈ TG := tg (tb_1 (List.mem_of_getElem? (i := 224) rfl)) rfl
theorem kw_1_231 : (Cond.methodLink RX6 51 yX6_tryQuota) ∈ TG := tg (tb_1 (List.mem_of_getElem? (i := 231) rfl)) rfl
theorem kw_1_205 : (Cond.methodLink RX6 40 yX6_tryToAdmit) ∈ TG := tg (tb_1 (List.mem_of_getElem? (i := 205) rfl)) rfl
theorem kw_1_234 : (Cond.methodLink RX6 54 yX6_tryDays) ∈ TG := tg (tb_1 (List.mem_of_getElem? (i := 234) rfl)) rfl
theorem kw_1_122 : (Cond.fieldLink RX6 15 "BalconiesParliament$Shelf" "size" "I") ∈ TG := tg (tb_1 (List.mem_of_getElem? (i := 122) rfl)) rfl
theorem kw_1_192 : (Cond.methodLink RX6 29 yX6_digitsBehind) ∈ TG := tg (tb_1 (List.mem_of_getElem? (i := 192) rfl)) rfl
theorem kw_1_181 : (Cond.methodLink RX6 9 yX6_placeOfUnfitByte) ∈ TG := tg (tb_1 (List.mem_of_getElem? (i := 181) rfl)) rfl
theorem kw_1_196 : (Cond.methodLink RX6 21 yX6_tryStatement) ∈ TG := tg (tb_1 (List.mem_of_getElem? (i := 196) rfl)) rfl
theorem kw_3_63 : (Cond.methodLink RX5 38 yJ6_bitCount_0f7a4) ∈ TG := tg (tb_3 (List.mem_of_getElem? (i := 63) rfl)) rfl
theorem kw_1_96 : (Cond.fieldLink RX5 26 "BalconiesParliament$Rails" "people" "I") ∈ TG := tg (tb_1 (List.mem_of_getElem? (i := 96) rfl)) rfl
theorem kw_1_95 : (Cond.fieldLink RX5 17 "BalconiesParliament$Rails" "weight" "[[I") ∈ TG := tg (tb_1 (List.mem_of_getElem? (i := 95) rfl)) rfl
theorem kw_1_94 : (Cond.fieldLink RX5 9 "BalconiesParliament$Rails" "rest" "[I") ∈ TG := tg (tb_1 (List.mem_of_getElem? (i := 94) rfl)) rfl
theorem kw_3_65 : (Cond.methodLink RX5 47 yJ9_max_7cf53) ∈ TG := tg (tb_3 (List.mem_of_getElem? (i := 65) rfl)) rfl
theorem kw_1_52 : (Cond.fieldLink RX5 20 "BalconiesParliament$Street" "people" "I") ∈ TG := tg (tb_1 (List.mem_of_getElem? (i := 52) rfl)) rfl
theorem kw_3_59 : (Cond.methodLink RX5 34 yX5_mostBehind) ∈ TG := tg (tb_3 (List.mem_of_getElem? (i := 59) rfl)) rfl
theorem kw_1_36 : (Cond.fieldLink RX5 27 "BalconiesParliament$Street" "height" "[I") ∈ TG := tg (tb_1 (List.mem_of_getElem? (i := 36) rfl)) rfl
theorem kw_3_58 : (Cond.methodLink RX5 30 yX8_weightAt) ∈ TG := tg (tb_3 (List.mem_of_getElem? (i := 58) rfl)) rfl
theorem kw_3_74 : (Cond.methodLink RX5 52 yX5_firstBestRail) ∈ TG := tg (tb_3 (List.mem_of_getElem? (i := 74) rfl)) rfl
theorem kw_1_165 : (Cond.methodLink RX9 283 yX9_isShelf) ∈ TG := tg (tb_1 (List.mem_of_getElem? (i := 165) rfl)) rfl
theorem kw_1_143 : (Cond.fieldLink RX9 35 "BalconiesParliament" "shelves" "[LBalconiesParliament$Shelf;") ∈ TG := tg (tb_1 (List.mem_of_getElem? (i := 143) rfl)) rfl
theorem kw_1_114 : (Cond.fieldLink RX9 286 "BalconiesParliament$Shelf" "holds" "I") ∈ TG := tg (tb_1 (List.mem_of_getElem? (i := 114) rfl)) rfl
theorem kw_1_138 : (Cond.fieldLink RX9 12 "BalconiesParliament" "now" "LBalconiesParliament$Street;") ∈ TG := tg (tb_1 (List.mem_of_getElem? (i := 138) rfl)) rfl
theorem kw_2_50 : (Cond.methodLink RX9 58 yX8_isThere) ∈ TG := tg (tb_2 (List.mem_of_getElem? (i := 50) rfl)) rfl
theorem kw_1_40 : (Cond.fieldLink RX9 62 "BalconiesParliament$Street" "kind" "[I") ∈ TG := tg (tb_1 (List.mem_of_getElem? (i := 40) rfl)) rfl
theorem kw_1_42 : (Cond.fieldLink RX9 66 "BalconiesParliament$Street" "figure" "[I") ∈ TG := tg (tb_1 (List.mem_of_getElem? (i := 42) rfl)) rfl
theorem kw_1_44 : (Cond.fieldLink RX9 69 "BalconiesParliament$Street" "rail" "[I") ∈ TG := tg (tb_1 (List.mem_of_getElem? (i := 44) rfl)) rfl
theorem kw_1_46 : (Cond.fieldLink RX9 72 "BalconiesParliament$Street" "mood" "[I") ∈ TG := tg (tb_1 (List.mem_of_getElem? (i := 46) rfl)) rfl
theorem kw_2_51 : (Cond.methodLink RX9 75 yX8_weightOf) ∈ TG := tg (tb_2 (List.mem_of_getElem? (i := 51) rfl)) rfl
theorem kw_2_58 : (Cond.methodLink RX9 79 yX8_isHeard) ∈ TG := tg (tb_2 (List.mem_of_getElem? (i := 58) rfl)) rfl
theorem kw_2_59 : (Cond.methodLink RX9 82 yX9_oneIf) ∈ TG := tg (tb_2 (List.mem_of_getElem? (i := 59) rfl)) rfl
theorem kw_2_62 : (Cond.methodLink RX9 86 yX3_swayOf) ∈ TG := tg (tb_2 (List.mem_of_getElem? (i := 62) rfl)) rfl
theorem kw_2_67 : (Cond.methodLink RX9 91 yX9_isBalcony) ∈ TG := tg (tb_2 (List.mem_of_getElem? (i := 67) rfl)) rfl
theorem kw_1_37 : (Cond.fieldLink RX9 94 "BalconiesParliament$Street" "height" "[I") ∈ TG := tg (tb_1 (List.mem_of_getElem? (i := 37) rfl)) rfl
theorem kw_2_68 : (Cond.methodLink RX9 97 yX8_isShut) ∈ TG := tg (tb_2 (List.mem_of_getElem? (i := 68) rfl)) rfl
theorem kw_2_72 : (Cond.methodLink RX9 100 yX8_onesOn) ∈ TG := tg (tb_2 (List.mem_of_getElem? (i := 72) rfl)) rfl
theorem kw_2_90 : (Cond.methodLink RX9 122 yX8_turnShutter) ∈ TG := tg (tb_2 (List.mem_of_getElem? (i := 90) rfl)) rfl
theorem kw_2_95 : (Cond.constant RX9 126 (1000000001)) ∈ TG := tg (tb_2 (List.mem_of_getElem? (i := 95) rfl)) rfl
theorem kw_1_59 : (Cond.fieldLink RX9 127 "BalconiesParliament$Street" "needed" "I") ∈ TG := tg (tb_1 (List.mem_of_getElem? (i := 59) rfl)) rfl
theorem kw_2_108 : (Cond.methodLink RX9 130 yX8_hasDaysLeft) ∈ TG := tg (tb_2 (List.mem_of_getElem? (i := 108) rfl)) rfl
theorem kw_2_109 : (Cond.methodLink RX9 133 yX8_live) ∈ TG := tg (tb_2 (List.mem_of_getElem? (i := 109) rfl)) rfl
theorem kw_2_110 : (Cond.methodLink RX9 136 yX8_isCarried) ∈ TG := tg (tb_2 (List.mem_of_getElem? (i := 110) rfl)) rfl
theorem kw_2_146 : (Cond.methodLink RX9 139 yX8_heardOnes) ∈ TG := tg (tb_2 (List.mem_of_getElem? (i := 146) rfl)) rfl
theorem kw_2_147 : (Cond.methodLink RX9 143 yX8_weightFor) ∈ TG := tg (tb_2 (List.mem_of_getElem? (i := 147) rfl)) rfl
theorem kw_2_151 : (Cond.methodLink RX9 146 yJ9_max_7cf53) ∈ TG := tg (tb_2 (List.mem_of_getElem? (i := 151) rfl)) rfl
theorem kw_2_152 : (Cond.methodLink RX9 151 yX8_whyNot) ∈ TG := tg (tb_2 (List.mem_of_getElem? (i := 152) rfl)) rfl
theorem kw_2_184 : (Cond.methodLink RX9 166 yX8_areThere) ∈ TG := tg (tb_2 (List.mem_of_getElem? (i := 184) rfl)) rfl
theorem kw_2_188 : (Cond.methodLink RX9 169 yX2_isEnough) ∈ TG := tg (tb_2 (List.mem_of_getElem? (i := 188) rfl)) rfl
theorem kw_2_200 : (Cond.constantLong RX9 175 (1000000001)) ∈ TG := tg (tb_2 (List.mem_of_getElem? (i := 200) rfl)) rfl
theorem kw_2_201 : (Cond.methodLink RX9 177 yX2_ordersTurned) ∈ TG := tg (tb_2 (List.mem_of_getElem? (i := 201) rfl)) rfl
theorem kw_2_214 : (Cond.methodLink RX9 181 yX2_ordersOfHeard) ∈ TG := tg (tb_2 (List.mem_of_getElem? (i := 214) rfl)) rfl
theorem kw_2_217 : (Cond.methodLink RX9 185 yX1_inLeastTerms) ∈ TG := tg (tb_2 (List.mem_of_getElem? (i := 217) rfl)) rfl
theorem kw_2_230 : (Cond.methodLink RX9 191 yX2_smallest) ∈ TG := tg (tb_2 (List.mem_of_getElem? (i := 230) rfl)) rfl
theorem kw_2_236 : (Cond.methodLink RX9 195 yX2_leastOnes) ∈ TG := tg (tb_2 (List.mem_of_getElem? (i := 236) rfl)) rfl
theorem kw_3_2 : (Cond.methodLink RX9 198 yX2_blocks) ∈ TG := tg (tb_3 (List.mem_of_getElem? (i := 2) rfl)) rfl
theorem kw_3_9 : (Cond.methodLink RX9 201 yX2_turnedGroups) ∈ TG := tg (tb_3 (List.mem_of_getElem? (i := 9) rfl)) rfl
theorem kw_3_42 : (Cond.methodLink RX9 212 yX8_weightAt) ∈ TG := tg (tb_3 (List.mem_of_getElem? (i := 42) rfl)) rfl
theorem kw_3_82 : (Cond.methodLink RX9 224 yX8_twosInSight) ∈ TG := tg (tb_3 (List.mem_of_getElem? (i := 82) rfl)) rfl
theorem kw_3_86 : (Cond.methodLink RX9 227 yX8_loudest) ∈ TG := tg (tb_3 (List.mem_of_getElem? (i := 86) rfl)) rfl
theorem kw_1_54 : (Cond.fieldLink RX9 115 "BalconiesParliament$Street" "people" "I") ∈ TG := tg (tb_1 (List.mem_of_getElem? (i := 54) rfl)) rfl
theorem kw_3_147 : (Cond.methodLink RX9 255 yX9_toThePower) ∈ TG := tg (tb_3 (List.mem_of_getElem? (i := 147) rfl)) rfl
theorem kw_3_146 : (Cond.methodLink RX9 250 yJ6_bitCount_0f7a4) ∈ TG := tg (tb_3 (List.mem_of_getElem? (i := 146) rfl)) rfl
theorem kw_1_61 : (Cond.fieldLink RX9 271 "BalconiesParliament$Street" "day" "I") ∈ TG := tg (tb_1 (List.mem_of_getElem? (i := 61) rfl)) rfl
theorem kw_3_191 : (Cond.methodLink RX9 274 yX8_onesFor) ∈ TG := tg (tb_3 (List.mem_of_getElem? (i := 191) rfl)) rfl
theorem kw_3_192 : (Cond.methodLink RX9 277 yX8_onesAgainst) ∈ TG := tg (tb_3 (List.mem_of_getElem? (i := 192) rfl)) rfl
theorem kw_1_51 : (Cond.fieldLink RX9 280 "BalconiesParliament$Street" "shut" "I") ∈ TG := tg (tb_1 (List.mem_of_getElem? (i := 51) rfl)) rfl
theorem kw_2_157 : (Cond.methodLink RX9 154 yX9_isSpan) ∈ TG := tg (tb_2 (List.mem_of_getElem? (i := 157) rfl)) rfl
theorem kw_1_139 : (Cond.fieldLink RX9 16 "BalconiesParliament" "mind" "LBalconiesParliament$Street;") ∈ TG := tg (tb_1 (List.mem_of_getElem? (i := 139) rfl)) rfl
theorem kw_1_171 : (Cond.methodLink RX9 48 yX8_become) ∈ TG := tg (tb_1 (List.mem_of_getElem? (i := 171) rfl)) rfl
theorem kw_2_168 : (Cond.methodLink RX9 157 yX8_startDays) ∈ TG := tg (tb_2 (List.mem_of_getElem? (i := 168) rfl)) rfl
theorem kw_2_169 : (Cond.methodLink RX9 160 yX8_nextDay) ∈ TG := tg (tb_2 (List.mem_of_getElem? (i := 169) rfl)) rfl
theorem kw_2_174 : (Cond.methodLink RX9 163 yX8_carriedDays) ∈ TG := tg (tb_2 (List.mem_of_getElem? (i := 174) rfl)) rfl
theorem kw_3_20 : (Cond.methodLink RX9 337 yX2_isFewer) ∈ TG := tg (tb_3 (List.mem_of_getElem? (i := 20) rfl)) rfl
theorem kw_3_21 : (Cond.methodLink RX9 340 yX8_think) ∈ TG := tg (tb_3 (List.mem_of_getElem? (i := 21) rfl)) rfl
theorem kw_3_16 : (Cond.methodLink RX9 205 yX9_fewestOfMood) ∈ TG := tg (tb_3 (List.mem_of_getElem? (i := 16) rfl)) rfl
theorem kw_3_37 : (Cond.methodLink RX9 209 yJ9_min_7cf53) ∈ TG := tg (tb_3 (List.mem_of_getElem? (i := 37) rfl)) rfl
theorem kw_3_138 : (Cond.methodLink RX9 343 yX9_gainOf) ∈ TG := tg (tb_3 (List.mem_of_getElem? (i := 138) rfl)) rfl
theorem kw_3_134 : (Cond.methodLink RX9 246 yX9_isContent) ∈ TG := tg (tb_3 (List.mem_of_getElem? (i := 134) rfl)) rfl
theorem kw_3_166 : (Cond.methodLink RX9 268 yX8_scatter) ∈ TG := tg (tb_3 (List.mem_of_getElem? (i := 166) rfl)) rfl
theorem kw_1_161 : (Cond.methodLink RX9 40 yX9_refusalOf) ∈ TG := tg (tb_1 (List.mem_of_getElem? (i := 161) rfl)) rfl
theorem kw_2_80 : (Cond.methodLink RX9 103 yX8_hasRoom) ∈ TG := tg (tb_2 (List.mem_of_getElem? (i := 80) rfl)) rfl
theorem kw_1_116 : (Cond.fieldLink RX9 107 "BalconiesParliament$Shelf" "kind" "I") ∈ TG := tg (tb_1 (List.mem_of_getElem? (i := 116) rfl)) rfl
theorem kw_1_118 : (Cond.fieldLink RX9 109 "BalconiesParliament$Shelf" "figure" "I") ∈ TG := tg (tb_1 (List.mem_of_getElem? (i := 118) rfl)) rfl
theorem kw_2_81 : (Cond.methodLink RX9 111 yX8_admit) ∈ TG := tg (tb_2 (List.mem_of_getElem? (i := 81) rfl)) rfl
theorem kw_3_94 : (Cond.methodLink RX9 230 yX4_isTold) ∈ TG := tg (tb_3 (List.mem_of_getElem? (i := 94) rfl)) rfl
theorem kw_3_100 : (Cond.methodLink RX9 236 yX4_leastQuota) ∈ TG := tg (tb_3 (List.mem_of_getElem? (i := 100) rfl)) rfl
theorem kw_3_107 : (Cond.methodLink RX9 239 yX4_greatestQuota) ∈ TG := tg (tb_3 (List.mem_of_getElem? (i := 107) rfl)) rfl
theorem kw_1_124 : (Cond.fieldLink RX9 259 "BalconiesParliament$Shelf" "size" "I") ∈ TG := tg (tb_1 (List.mem_of_getElem? (i := 124) rfl)) rfl
theorem kw_3_119 : (Cond.methodLink RX9 265 yX7_isSkipped) ∈ TG := tg (tb_3 (List.mem_of_getElem? (i := 119) rfl)) rfl
theorem kw_3_129 : (Cond.methodLink RX9 262 yX7_at) ∈ TG := tg (tb_3 (List.mem_of_getElem? (i := 129) rfl)) rfl
theorem kw_3_115 : (Cond.methodLink RX9 242 yX9_feelsAsTold) ∈ TG := tg (tb_3 (List.mem_of_getElem? (i := 115) rfl)) rfl
theorem kw_1_140 : (Cond.fieldLink RX9 19 "BalconiesParliament" "kept" "LBalconiesParliament$Street;") ∈ TG := tg (tb_1 (List.mem_of_getElem? (i := 140) rfl)) rfl
theorem kw_1_141 : (Cond.fieldLink RX9 22 "BalconiesParliament" "hasImage" "Z") ∈ TG := tg (tb_1 (List.mem_of_getElem? (i := 141) rfl)) rfl
theorem kw_3_200 : (Cond.methodLink RX9 289 yX7_takeKind) ∈ TG := tg (tb_3 (List.mem_of_getElem? (i := 200) rfl)) rfl
theorem kw_3_208 : (Cond.methodLink RX9 293 yX7_takeRow) ∈ TG := tg (tb_3 (List.mem_of_getElem? (i := 208) rfl)) rfl
theorem kw_3_216 : (Cond.methodLink RX9 296 yX7_hasPlace) ∈ TG := tg (tb_3 (List.mem_of_getElem? (i := 216) rfl)) rfl
theorem kw_3_217 : (Cond.methodLink RX9 299 yX7_set) ∈ TG := tg (tb_3 (List.mem_of_getElem? (i := 217) rfl)) rfl
theorem kw_3_238 : (Cond.methodLink RX9 329 yX3_priceOf) ∈ TG := tg (tb_3 (List.mem_of_getElem? (i := 238) rfl)) rfl
theorem kw_1_119 : (Cond.fieldLink RX9 44 "BalconiesParliament$Shelf" "sort" "I") ∈ TG := tg (tb_1 (List.mem_of_getElem? (i := 119) rfl)) rfl
theorem kw_3_229 : (Cond.methodLink RX9 316 yX7_hasPlaces) ∈ TG := tg (tb_3 (List.mem_of_getElem? (i := 229) rfl)) rfl
theorem kw_1_112 : (Cond.fieldLink RX9 320 "BalconiesParliament$Shelf" "elements" "[I") ∈ TG := tg (tb_1 (List.mem_of_getElem? (i := 112) rfl)) rfl
theorem kw_3_233 : (Cond.methodLink RX9 323 ⟨"java/lang/System", "arraycopy", "(Ljava/lang/Object;ILjava/lang/Object;II)V"⟩) ∈ TG := tg (tb_3 (List.mem_of_getElem? (i := 233) rfl)) rfl
theorem kw_1_178 : (Cond.methodLink RX9 52 yX6_play) ∈ TG := tg (tb_1 (List.mem_of_getElem? (i := 178) rfl)) rfl
theorem kw_1_142 : (Cond.fieldLink RX9 29 "BalconiesParliament" "rails" "LBalconiesParliament$Rails;") ∈ TG := tg (tb_1 (List.mem_of_getElem? (i := 142) rfl)) rfl
theorem kw_3_54 : (Cond.methodLink RX9 215 yX5_weigh) ∈ TG := tg (tb_3 (List.mem_of_getElem? (i := 54) rfl)) rfl
theorem kw_3_70 : (Cond.methodLink RX9 221 yX5_railOf) ∈ TG := tg (tb_3 (List.mem_of_getElem? (i := 70) rfl)) rfl
theorem kw_3_66 : (Cond.methodLink RX9 218 yX5_mostWeight) ∈ TG := tg (tb_3 (List.mem_of_getElem? (i := 66) rfl)) rfl
theorem kw_4_134 : (Cond.fieldLink RX10 9 "BalconiesParliamentModel" "s" "[I") ∈ TG := tg (tb_4 (List.mem_of_getElem? (i := 134) rfl)) rfl
theorem kw_4_200 : (Cond.methodLink RX10 46 yX10_isIn) ∈ TG := tg (tb_4 (List.mem_of_getElem? (i := 200) rfl)) rfl
theorem kw_4_226 : (Cond.methodLink RX10 50 yX10_of) ∈ TG := tg (tb_4 (List.mem_of_getElem? (i := 226) rfl)) rfl
theorem kw_5_14 : (Cond.methodLink RX10 54 yX10_heightOf) ∈ TG := tg (tb_5 (List.mem_of_getElem? (i := 14) rfl)) rfl
theorem kw_5_27 : (Cond.methodLink RX10 58 yX10_weightBy) ∈ TG := tg (tb_5 (List.mem_of_getElem? (i := 27) rfl)) rfl
theorem kw_5_5 : (Cond.methodLink RX10 62 yX10_has) ∈ TG := tg (tb_5 (List.mem_of_getElem? (i := 5) rfl)) rfl
theorem kw_5_2 : (Cond.methodLink RX10 66 yX10_isHeard) ∈ TG := tg (tb_5 (List.mem_of_getElem? (i := 2) rfl)) rfl
theorem kw_5_24 : (Cond.methodLink RX10 70 yX10_weight) ∈ TG := tg (tb_5 (List.mem_of_getElem? (i := 24) rfl)) rfl
theorem kw_5_11 : (Cond.methodLink RX10 73 yX10_sideOf) ∈ TG := tg (tb_5 (List.mem_of_getElem? (i := 11) rfl)) rfl
theorem kw_5_91 : (Cond.methodLink RX10 76 yX10_doesVeto) ∈ TG := tg (tb_5 (List.mem_of_getElem? (i := 91) rfl)) rfl
theorem kw_5_79 : (Cond.methodLink RX10 79 yX10_moodSet) ∈ TG := tg (tb_5 (List.mem_of_getElem? (i := 79) rfl)) rfl
theorem kw_5_82 : (Cond.methodLink RX10 82 yX10_isOnSide) ∈ TG := tg (tb_5 (List.mem_of_getElem? (i := 82) rfl)) rfl
theorem kw_5_85 : (Cond.methodLink RX10 86 yX10_weightOf) ∈ TG := tg (tb_5 (List.mem_of_getElem? (i := 85) rfl)) rfl
theorem kw_5_88 : (Cond.methodLink RX10 89 yX10_isVetoed) ∈ TG := tg (tb_5 (List.mem_of_getElem? (i := 88) rfl)) rfl
theorem kw_5_73 : (Cond.methodLink RX10 92 yX10_heardIn) ∈ TG := tg (tb_5 (List.mem_of_getElem? (i := 73) rfl)) rfl
theorem kw_5_76 : (Cond.methodLink RX10 96 yX10_whyBy) ∈ TG := tg (tb_5 (List.mem_of_getElem? (i := 76) rfl)) rfl
theorem kw_5_17 : (Cond.methodLink RX10 102 yX10_swayBy) ∈ TG := tg (tb_5 (List.mem_of_getElem? (i := 17) rfl)) rfl
theorem kw_5_8 : (Cond.methodLink RX10 99 yX10_doesSee) ∈ TG := tg (tb_5 (List.mem_of_getElem? (i := 8) rfl)) rfl
theorem kw_4_239 : (Cond.methodLink RX10 105 yX10_looks) ∈ TG := tg (tb_4 (List.mem_of_getElem? (i := 239) rfl)) rfl
theorem kw_4_236 : (Cond.methodLink RX10 109 yX10_day) ∈ TG := tg (tb_4 (List.mem_of_getElem? (i := 236) rfl)) rfl
theorem kw_4_139 : (Cond.fieldLink RX10 113 "BalconiesParliamentModel" "place" "I") ∈ TG := tg (tb_4 (List.mem_of_getElem? (i := 139) rfl)) rfl
theorem kw_4_141 : (Cond.fieldLink RX10 117 "BalconiesParliamentModel" "rowEnd" "I") ∈ TG := tg (tb_4 (List.mem_of_getElem? (i := 141) rfl)) rfl
theorem kw_4_150 : (Cond.fieldLink RX10 43 "BalconiesParliamentModel" "element" "[I") ∈ TG := tg (tb_4 (List.mem_of_getElem? (i := 150) rfl)) rfl
theorem kw_4_140 : (Cond.fieldLink RX10 120 "BalconiesParliamentModel" "rowAt" "I") ∈ TG := tg (tb_4 (List.mem_of_getElem? (i := 140) rfl)) rfl
theorem kw_4_142 : (Cond.fieldLink RX10 22 "BalconiesParliamentModel" "numbers" "[I") ∈ TG := tg (tb_4 (List.mem_of_getElem? (i := 142) rfl)) rfl
theorem kw_4_207 : (Cond.methodLink RX10 123 yX10_here) ∈ TG := tg (tb_4 (List.mem_of_getElem? (i := 207) rfl)) rfl
theorem kw_4_211 : (Cond.methodLink RX10 127 yX10_readsNumber) ∈ TG := tg (tb_4 (List.mem_of_getElem? (i := 211) rfl)) rfl
theorem kw_4_229 : (Cond.methodLink RX10 134 yX10_isSpeaker) ∈ TG := tg (tb_4 (List.mem_of_getElem? (i := 229) rfl)) rfl
theorem kw_4_222 : (Cond.methodLink RX10 130 yX10_adds) ∈ TG := tg (tb_4 (List.mem_of_getElem? (i := 222) rfl)) rfl
theorem kw_4_233 : (Cond.methodLink RX10 138 yX10_daysOn) ∈ TG := tg (tb_4 (List.mem_of_getElem? (i := 233) rfl)) rfl
theorem kw_4_197 : (Cond.methodLink RX10 263 yX10_isShelf) ∈ TG := tg (tb_4 (List.mem_of_getElem? (i := 197) rfl)) rfl
theorem kw_4_145 : (Cond.fieldLink RX10 28 "BalconiesParliamentModel" "kept" "[I") ∈ TG := tg (tb_4 (List.mem_of_getElem? (i := 145) rfl)) rfl
theorem kw_4_148 : (Cond.fieldLink RX10 37 "BalconiesParliamentModel" "sort" "[I") ∈ TG := tg (tb_4 (List.mem_of_getElem? (i := 148) rfl)) rfl
theorem kw_4_193 : (Cond.methodLink RX10 141 yX10_wrongRow) ∈ TG := tg (tb_4 (List.mem_of_getElem? (i := 193) rfl)) rfl
theorem kw_4_149 : (Cond.fieldLink RX10 40 "BalconiesParliamentModel" "size" "[I") ∈ TG := tg (tb_4 (List.mem_of_getElem? (i := 149) rfl)) rfl
theorem kw_4_203 : (Cond.methodLink RX10 144 yX10_readsStatement) ∈ TG := tg (tb_4 (List.mem_of_getElem? (i := 203) rfl)) rfl
theorem kw_4_137 : (Cond.fieldLink RX10 19 "BalconiesParliamentModel" "was" "[I") ∈ TG := tg (tb_4 (List.mem_of_getElem? (i := 137) rfl)) rfl
theorem kw_4_215 : (Cond.methodLink RX10 148 yX10_copies) ∈ TG := tg (tb_4 (List.mem_of_getElem? (i := 215) rfl)) rfl
theorem kw_4_218 : (Cond.methodLink RX10 152 yX10_isDone) ∈ TG := tg (tb_4 (List.mem_of_getElem? (i := 218) rfl)) rfl
theorem kw_5_34 : (Cond.methodLink RX10 155 yX10_isRail) ∈ TG := tg (tb_5 (List.mem_of_getElem? (i := 34) rfl)) rfl
theorem kw_5_41 : (Cond.methodLink RX10 158 yX10_wrongKept) ∈ TG := tg (tb_5 (List.mem_of_getElem? (i := 41) rfl)) rfl
theorem kw_4_146 : (Cond.fieldLink RX10 31 "BalconiesParliamentModel" "keptKind" "[I") ∈ TG := tg (tb_4 (List.mem_of_getElem? (i := 146) rfl)) rfl
theorem kw_4_147 : (Cond.fieldLink RX10 34 "BalconiesParliamentModel" "keptFigure" "[I") ∈ TG := tg (tb_4 (List.mem_of_getElem? (i := 147) rfl)) rfl
theorem kw_5_57 : (Cond.constant RX10 162 (1000000001)) ∈ TG := tg (tb_5 (List.mem_of_getElem? (i := 57) rfl)) rfl
theorem kw_5_70 : (Cond.methodLink RX10 163 yX10_doesCarry) ∈ TG := tg (tb_5 (List.mem_of_getElem? (i := 70) rfl)) rfl
theorem kw_5_98 : (Cond.methodLink RX10 167 yX10_forIn) ∈ TG := tg (tb_5 (List.mem_of_getElem? (i := 98) rfl)) rfl
theorem kw_4_135 : (Cond.fieldLink RX10 13 "BalconiesParliamentModel" "m" "[I") ∈ TG := tg (tb_4 (List.mem_of_getElem? (i := 135) rfl)) rfl
theorem kw_5_105 : (Cond.methodLink RX10 170 yX10_isLate) ∈ TG := tg (tb_5 (List.mem_of_getElem? (i := 105) rfl)) rfl
theorem kw_5_108 : (Cond.methodLink RX10 173 yX10_takes) ∈ TG := tg (tb_5 (List.mem_of_getElem? (i := 108) rfl)) rfl
theorem kw_5_128 : (Cond.methodLink RX10 177 yX10_holdsIn) ∈ TG := tg (tb_5 (List.mem_of_getElem? (i := 128) rfl)) rfl
theorem kw_5_124 : (Cond.methodLink RX10 180 yX10_holdsNow) ∈ TG := tg (tb_5 (List.mem_of_getElem? (i := 124) rfl)) rfl
theorem kw_5_136 : (Cond.methodLink RX10 183 yX10_isGroup) ∈ TG := tg (tb_5 (List.mem_of_getElem? (i := 136) rfl)) rfl
theorem kw_5_140 : (Cond.methodLink RX10 186 yX10_couldBy) ∈ TG := tg (tb_5 (List.mem_of_getElem? (i := 140) rfl)) rfl
theorem kw_5_166 : (Cond.methodLink RX10 189 yX10_gcd) ∈ TG := tg (tb_5 (List.mem_of_getElem? (i := 166) rfl)) rfl
theorem kw_5_148 : (Cond.constantLong RX10 193 (1000000001)) ∈ TG := tg (tb_5 (List.mem_of_getElem? (i := 148) rfl)) rfl
theorem kw_5_149 : (Cond.methodLink RX10 195 yX10_bits) ∈ TG := tg (tb_5 (List.mem_of_getElem? (i := 149) rfl)) rfl
theorem kw_5_160 : (Cond.methodLink RX10 204 yX10_orders) ∈ TG := tg (tb_5 (List.mem_of_getElem? (i := 160) rfl)) rfl
theorem kw_5_163 : (Cond.methodLink RX10 208 yX10_partOf) ∈ TG := tg (tb_5 (List.mem_of_getElem? (i := 163) rfl)) rfl
theorem kw_5_152 : (Cond.methodLink RX10 198 yX10_isOfHeard) ∈ TG := tg (tb_5 (List.mem_of_getElem? (i := 152) rfl)) rfl
theorem kw_5_156 : (Cond.methodLink RX10 201 yX10_doesSwing) ∈ TG := tg (tb_5 (List.mem_of_getElem? (i := 156) rfl)) rfl
theorem kw_5_181 : (Cond.methodLink RX10 212 yX10_isLeast) ∈ TG := tg (tb_5 (List.mem_of_getElem? (i := 181) rfl)) rfl
theorem kw_5_185 : (Cond.methodLink RX10 221 yX10_blocks) ∈ TG := tg (tb_5 (List.mem_of_getElem? (i := 185) rfl)) rfl
theorem kw_5_177 : (Cond.methodLink RX10 218 yX10_leastOnes) ∈ TG := tg (tb_5 (List.mem_of_getElem? (i := 177) rfl)) rfl
theorem kw_5_173 : (Cond.methodLink RX10 215 yX10_smallest) ∈ TG := tg (tb_5 (List.mem_of_getElem? (i := 173) rfl)) rfl
theorem kw_5_197 : (Cond.methodLink RX10 224 yX10_doesCarryWith) ∈ TG := tg (tb_5 (List.mem_of_getElem? (i := 197) rfl)) rfl
theorem kw_5_217 : (Cond.methodLink RX10 227 yX10_weightAt) ∈ TG := tg (tb_5 (List.mem_of_getElem? (i := 217) rfl)) rfl
theorem kw_4_143 : (Cond.fieldLink RX10 25 "BalconiesParliamentModel" "most" "[I") ∈ TG := tg (tb_4 (List.mem_of_getElem? (i := 143) rfl)) rfl
theorem kw_5_229 : (Cond.methodLink RX10 230 yX10_matches) ∈ TG := tg (tb_5 (List.mem_of_getElem? (i := 229) rfl)) rfl
theorem kw_5_233 : (Cond.methodLink RX10 233 yX10_railOf) ∈ TG := tg (tb_5 (List.mem_of_getElem? (i := 233) rfl)) rfl
theorem kw_6_16 : (Cond.constant RX10 236 (-2147483648)) ∈ TG := tg (tb_6 (List.mem_of_getElem? (i := 16) rfl)) rfl
theorem kw_6_5 : (Cond.methodLink RX10 237 yX10_isLawBy) ∈ TG := tg (tb_6 (List.mem_of_getElem? (i := 5) rfl)) rfl
theorem kw_6_13 : (Cond.methodLink RX10 240 yX10_leastOf) ∈ TG := tg (tb_6 (List.mem_of_getElem? (i := 13) rfl)) rfl
theorem kw_6_21 : (Cond.methodLink RX10 243 yX10_hasBy) ∈ TG := tg (tb_6 (List.mem_of_getElem? (i := 21) rfl)) rfl
theorem kw_4_144 : (Cond.fieldLink RX10 247 "BalconiesParliamentModel" "seed" "I") ∈ TG := tg (tb_4 (List.mem_of_getElem? (i := 144) rfl)) rfl
theorem kw_6_49 : (Cond.constant RX10 250 (1103515245)) ∈ TG := tg (tb_6 (List.mem_of_getElem? (i := 49) rfl)) rfl
theorem kw_6_50 : (Cond.constant RX10 251 (2147483647)) ∈ TG := tg (tb_6 (List.mem_of_getElem? (i := 50) rfl)) rfl
theorem kw_6_51 : (Cond.constant RX10 252 (65536)) ∈ TG := tg (tb_6 (List.mem_of_getElem? (i := 51) rfl)) rfl
theorem kw_6_45 : (Cond.methodLink RX10 253 yX10_drawn) ∈ TG := tg (tb_6 (List.mem_of_getElem? (i := 45) rfl)) rfl
theorem kw_4_136 : (Cond.fieldLink RX10 16 "BalconiesParliamentModel" "image" "[I") ∈ TG := tg (tb_4 (List.mem_of_getElem? (i := 136) rfl)) rfl
theorem kw_4_138 : (Cond.fieldLink RX10 256 "BalconiesParliamentModel" "hasImage" "Z") ∈ TG := tg (tb_4 (List.mem_of_getElem? (i := 138) rfl)) rfl
theorem kw_4_151 : (Cond.fieldLink RX10 260 "BalconiesParliamentModel" "thrown" "I") ∈ TG := tg (tb_4 (List.mem_of_getElem? (i := 151) rfl)) rfl
theorem kw_6_92 : (Cond.methodLink RX10 266 yX10_costBy) ∈ TG := tg (tb_6 (List.mem_of_getElem? (i := 92) rfl)) rfl
theorem ko_1_34 : (Cond.methodLink RX8 3 objectInit) ∈ TG := tg (tb_1 (List.mem_of_getElem? (i := 34) rfl)) rfl
theorem ko_1_27 : (Cond.instanceMethod objectInit) ∈ TG := tg (tb_1 (List.mem_of_getElem? (i := 27) rfl)) rfl
theorem ko_1_28 : (Cond.code objectInit ⟨#[0xb1]⟩ 1 none) ∈ TG := tg (tb_1 (List.mem_of_getElem? (i := 28) rfl)) rfl
theorem kw_1_85 : ((Jvm.Cond.arrayClass Jvm.ClassFile.FieldType.int)) ∈ TG := tg (tb_1 (List.mem_of_getElem? (i := 85) rfl)) rfl
theorem ko_1_110 : (Cond.methodLink RX7 3 objectInit) ∈ TG := tg (tb_1 (List.mem_of_getElem? (i := 110) rfl)) rfl
theorem ko_1_91 : (Cond.methodLink RX5 3 objectInit) ∈ TG := tg (tb_1 (List.mem_of_getElem? (i := 91) rfl)) rfl
theorem kw_1_92 : (Cond.classLink RX5 15 "[[I") ∈ TG := tg (tb_1 (List.mem_of_getElem? (i := 92) rfl)) rfl
theorem ko_1_26 : (Cond.methodLink RX9 3 objectInit) ∈ TG := tg (tb_1 (List.mem_of_getElem? (i := 26) rfl)) rfl
theorem kw_1_29 : (Cond.classLink RX9 9 "BalconiesParliament$Street") ∈ TG := tg (tb_1 (List.mem_of_getElem? (i := 29) rfl)) rfl
theorem kw_1_30 : (Cond.instantiable RX8 11) ∈ TG := tg (tb_1 (List.mem_of_getElem? (i := 30) rfl)) rfl
theorem kw_1_2 : (Cond.initialized RX8) ∈ TG := tg (tb_1 (List.mem_of_getElem? (i := 2) rfl)) rfl
theorem kw_1_31 : (Cond.methodLink RX9 11 yX8_init) ∈ TG := tg (tb_1 (List.mem_of_getElem? (i := 31) rfl)) rfl
theorem kw_1_86 : (Cond.classLink RX9 26 "BalconiesParliament$Rails") ∈ TG := tg (tb_1 (List.mem_of_getElem? (i := 86) rfl)) rfl
theorem kw_1_87 : (Cond.instantiable RX5 3) ∈ TG := tg (tb_1 (List.mem_of_getElem? (i := 87) rfl)) rfl
theorem kw_1_3 : (Cond.initialized RX5) ∈ TG := tg (tb_1 (List.mem_of_getElem? (i := 3) rfl)) rfl
theorem kw_1_104 : (Cond.classLink RX9 33 "BalconiesParliament$Shelf") ∈ TG := tg (tb_1 (List.mem_of_getElem? (i := 104) rfl)) rfl
theorem kw_1_106 : (Cond.instantiable RX7 6) ∈ TG := tg (tb_1 (List.mem_of_getElem? (i := 106) rfl)) rfl
theorem kw_1_4 : (Cond.initialized RX7) ∈ TG := tg (tb_1 (List.mem_of_getElem? (i := 4) rfl)) rfl
theorem ko_4_133 : (Cond.methodLink RX10 1 objectInit) ∈ TG := tg (tb_4 (List.mem_of_getElem? (i := 133) rfl)) rfl
theorem kw_1_33 : (Cond.code yX8_init cX8_init 2 none) ∈ TG := tg (tb_1 (List.mem_of_getElem? (i := 33) rfl)) rfl
theorem kw_1_32 : (Cond.instanceMethod yX8_init) ∈ TG := tg (tb_1 (List.mem_of_getElem? (i := 32) rfl)) rfl
theorem kw_1_90 : (Cond.code yX5_init cX5_init 1 none) ∈ TG := tg (tb_1 (List.mem_of_getElem? (i := 90) rfl)) rfl
theorem kw_1_89 : (Cond.instanceMethod yX5_init) ∈ TG := tg (tb_1 (List.mem_of_getElem? (i := 89) rfl)) rfl
theorem kw_1_109 : (Cond.code yX7_init cX7_init 1 none) ∈ TG := tg (tb_1 (List.mem_of_getElem? (i := 109) rfl)) rfl
theorem kw_1_108 : (Cond.instanceMethod yX7_init) ∈ TG := tg (tb_1 (List.mem_of_getElem? (i := 108) rfl)) rfl
theorem kw_1_170 : (Cond.code yX9_isWithin cX9_isWithin 3 (some .boolean)) ∈ TG := tg (tb_1 (List.mem_of_getElem? (i := 170) rfl)) rfl
theorem kw_1_169 : (Cond.static yX9_isWithin) ∈ TG := tg (tb_1 (List.mem_of_getElem? (i := 169) rfl)) rfl
theorem kw_1_1 : (Cond.initialized RX9) ∈ TG := tg (tb_1 (List.mem_of_getElem? (i := 1) rfl)) rfl
theorem kw_4_3 : (Cond.code yX3_widowPrice cX3_widowPrice 1 (some .int)) ∈ TG := tg (tb_4 (List.mem_of_getElem? (i := 3) rfl)) rfl
theorem kw_4_2 : (Cond.static yX3_widowPrice) ∈ TG := tg (tb_4 (List.mem_of_getElem? (i := 2) rfl)) rfl
theorem kw_1_10 : (Cond.initialized RX3) ∈ TG := tg (tb_1 (List.mem_of_getElem? (i := 10) rfl)) rfl
theorem kw_2_225 : (Cond.code yX1_commonDivisor cX1_commonDivisor 11 (some .long)) ∈ TG := tg (tb_2 (List.mem_of_getElem? (i := 225) rfl)) rfl
theorem kw_2_224 : (Cond.static yX1_commonDivisor) ∈ TG := tg (tb_2 (List.mem_of_getElem? (i := 224) rfl)) rfl
theorem kw_1_12 : (Cond.initialized RX1) ∈ TG := tg (tb_1 (List.mem_of_getElem? (i := 12) rfl)) rfl
theorem kw_2_33 : (Cond.code yJ6_bitCount_0f7a4 cJ6_bitCount_0f7a4 1 (some .int)) ∈ TG := tg (tb_2 (List.mem_of_getElem? (i := 33) rfl)) rfl
theorem kw_2_32 : (Cond.static yJ6_bitCount_0f7a4) ∈ TG := tg (tb_2 (List.mem_of_getElem? (i := 32) rfl)) rfl
theorem kw_1_9 : (Cond.initialized RJ6) ∈ TG := tg (tb_1 (List.mem_of_getElem? (i := 9) rfl)) rfl
theorem kw_2_15 : (Cond.code yX9_isIn cX9_isIn 2 (some .boolean)) ∈ TG := tg (tb_2 (List.mem_of_getElem? (i := 15) rfl)) rfl
theorem kw_2_14 : (Cond.static yX9_isIn) ∈ TG := tg (tb_2 (List.mem_of_getElem? (i := 14) rfl)) rfl
theorem kw_2_57 : (Cond.code yX3_weightOf cX3_weightOf 3 (some .int)) ∈ TG := tg (tb_2 (List.mem_of_getElem? (i := 57) rfl)) rfl
theorem kw_2_56 : (Cond.static yX3_weightOf) ∈ TG := tg (tb_2 (List.mem_of_getElem? (i := 56) rfl)) rfl
theorem kw_2_12 : (Cond.code yX8_isHeard cX8_isHeard 2 (some .boolean)) ∈ TG := tg (tb_2 (List.mem_of_getElem? (i := 12) rfl)) rfl
theorem kw_2_10 : (Cond.instanceMethod yX8_isHeard) ∈ TG := tg (tb_2 (List.mem_of_getElem? (i := 10) rfl)) rfl
theorem kw_2_11 : (Cond.selects RX8 yX8_isHeard yX8_isHeard) ∈ TG := tg (tb_2 (List.mem_of_getElem? (i := 11) rfl)) rfl
theorem kw_2_54 : (Cond.code yX8_weightOf cX8_weightOf 2 (some .int)) ∈ TG := tg (tb_2 (List.mem_of_getElem? (i := 54) rfl)) rfl
theorem kw_2_52 : (Cond.instanceMethod yX8_weightOf) ∈ TG := tg (tb_2 (List.mem_of_getElem? (i := 52) rfl)) rfl
theorem kw_2_53 : (Cond.selects RX8 yX8_weightOf yX8_weightOf) ∈ TG := tg (tb_2 (List.mem_of_getElem? (i := 53) rfl)) rfl
theorem kw_2_125 : (Cond.code yX8_onesFor cX8_onesFor 3 (some .int)) ∈ TG := tg (tb_2 (List.mem_of_getElem? (i := 125) rfl)) rfl
theorem kw_2_123 : (Cond.instanceMethod yX8_onesFor) ∈ TG := tg (tb_2 (List.mem_of_getElem? (i := 123) rfl)) rfl
theorem kw_2_124 : (Cond.selects RX8 yX8_onesFor yX8_onesFor) ∈ TG := tg (tb_2 (List.mem_of_getElem? (i := 124) rfl)) rfl
theorem kw_2_133 : (Cond.code yX8_weightOfAll cX8_weightOfAll 4 (some .int)) ∈ TG := tg (tb_2 (List.mem_of_getElem? (i := 133) rfl)) rfl
theorem kw_2_131 : (Cond.instanceMethod yX8_weightOfAll) ∈ TG := tg (tb_2 (List.mem_of_getElem? (i := 131) rfl)) rfl
theorem kw_2_132 : (Cond.selects RX8 yX8_weightOfAll yX8_weightOfAll) ∈ TG := tg (tb_2 (List.mem_of_getElem? (i := 132) rfl)) rfl
theorem kw_2_141 : (Cond.code yX3_isVeto cX3_isVeto 2 (some .boolean)) ∈ TG := tg (tb_2 (List.mem_of_getElem? (i := 141) rfl)) rfl
theorem kw_2_140 : (Cond.static yX3_isVeto) ∈ TG := tg (tb_2 (List.mem_of_getElem? (i := 140) rfl)) rfl
theorem kw_2_129 : (Cond.code yX8_sidesOf cX8_sidesOf 4 (some .int)) ∈ TG := tg (tb_2 (List.mem_of_getElem? (i := 129) rfl)) rfl
theorem kw_2_127 : (Cond.instanceMethod yX8_sidesOf) ∈ TG := tg (tb_2 (List.mem_of_getElem? (i := 127) rfl)) rfl
theorem kw_2_128 : (Cond.selects RX8 yX8_sidesOf yX8_sidesOf) ∈ TG := tg (tb_2 (List.mem_of_getElem? (i := 128) rfl)) rfl
theorem kw_2_138 : (Cond.code yX8_isVetoed cX8_isVetoed 3 (some .boolean)) ∈ TG := tg (tb_2 (List.mem_of_getElem? (i := 138) rfl)) rfl
theorem kw_2_137 : (Cond.instanceMethod yX8_isVetoed) ∈ TG := tg (tb_2 (List.mem_of_getElem? (i := 137) rfl)) rfl
theorem kw_0_2 : (Cond.selects RX8 yX8_isVetoed yX8_isVetoed) ∈ TG := tg (tb_0 (List.mem_of_getElem? (i := 2) rfl)) rfl
theorem kw_2_117 : (Cond.code yX8_heardOnes cX8_heardOnes 3 (some .int)) ∈ TG := tg (tb_2 (List.mem_of_getElem? (i := 117) rfl)) rfl
theorem kw_2_115 : (Cond.instanceMethod yX8_heardOnes) ∈ TG := tg (tb_2 (List.mem_of_getElem? (i := 115) rfl)) rfl
theorem kw_2_116 : (Cond.selects RX8 yX8_heardOnes yX8_heardOnes) ∈ TG := tg (tb_2 (List.mem_of_getElem? (i := 116) rfl)) rfl
theorem kw_2_121 : (Cond.code yX8_whyNot cX8_whyNot 4 (some .int)) ∈ TG := tg (tb_2 (List.mem_of_getElem? (i := 121) rfl)) rfl
theorem kw_2_119 : (Cond.instanceMethod yX8_whyNot) ∈ TG := tg (tb_2 (List.mem_of_getElem? (i := 119) rfl)) rfl
theorem kw_2_120 : (Cond.selects RX8 yX8_whyNot yX8_whyNot) ∈ TG := tg (tb_2 (List.mem_of_getElem? (i := 120) rfl)) rfl
theorem kw_2_19 : (Cond.code yX8_isInSight cX8_isInSight 4 (some .boolean)) ∈ TG := tg (tb_2 (List.mem_of_getElem? (i := 19) rfl)) rfl
theorem kw_2_17 : (Cond.instanceMethod yX8_isInSight) ∈ TG := tg (tb_2 (List.mem_of_getElem? (i := 17) rfl)) rfl
theorem kw_2_18 : (Cond.selects RX8 yX8_isInSight yX8_isInSight) ∈ TG := tg (tb_2 (List.mem_of_getElem? (i := 18) rfl)) rfl
theorem kw_2_39 : (Cond.code yX3_swayOf cX3_swayOf 2 (some .int)) ∈ TG := tg (tb_2 (List.mem_of_getElem? (i := 39) rfl)) rfl
theorem kw_2_38 : (Cond.static yX3_swayOf) ∈ TG := tg (tb_2 (List.mem_of_getElem? (i := 38) rfl)) rfl
theorem kw_1_211 : (Cond.code yX8_hasRoom cX8_hasRoom 1 (some .boolean)) ∈ TG := tg (tb_1 (List.mem_of_getElem? (i := 211) rfl)) rfl
theorem kw_1_209 : (Cond.instanceMethod yX8_hasRoom) ∈ TG := tg (tb_1 (List.mem_of_getElem? (i := 209) rfl)) rfl
theorem kw_1_210 : (Cond.selects RX8 yX8_hasRoom yX8_hasRoom) ∈ TG := tg (tb_1 (List.mem_of_getElem? (i := 210) rfl)) rfl
theorem kw_2_30 : (Cond.code yX8_moodBehindLook cX8_moodBehindLook 5 (some .int)) ∈ TG := tg (tb_2 (List.mem_of_getElem? (i := 30) rfl)) rfl
theorem kw_2_29 : (Cond.instanceMethod yX8_moodBehindLook) ∈ TG := tg (tb_2 (List.mem_of_getElem? (i := 29) rfl)) rfl
theorem kw_0_1 : (Cond.selects RX8 yX8_moodBehindLook yX8_moodBehindLook) ∈ TG := tg (tb_0 (List.mem_of_getElem? (i := 1) rfl)) rfl
theorem kw_2_8 : (Cond.code yX8_startDays cX8_startDays 3 none) ∈ TG := tg (tb_2 (List.mem_of_getElem? (i := 8) rfl)) rfl
theorem kw_2_6 : (Cond.instanceMethod yX8_startDays) ∈ TG := tg (tb_2 (List.mem_of_getElem? (i := 6) rfl)) rfl
theorem kw_2_7 : (Cond.selects RX8 yX8_startDays yX8_startDays) ∈ TG := tg (tb_2 (List.mem_of_getElem? (i := 7) rfl)) rfl
theorem kw_2_26 : (Cond.code yX8_nextDay cX8_nextDay 3 (some .boolean)) ∈ TG := tg (tb_2 (List.mem_of_getElem? (i := 26) rfl)) rfl
theorem kw_2_24 : (Cond.instanceMethod yX8_nextDay) ∈ TG := tg (tb_2 (List.mem_of_getElem? (i := 24) rfl)) rfl
theorem kw_2_25 : (Cond.selects RX8 yX8_nextDay yX8_nextDay) ∈ TG := tg (tb_2 (List.mem_of_getElem? (i := 25) rfl)) rfl
theorem kw_2_113 : (Cond.code yX8_isCarried cX8_isCarried 1 (some .boolean)) ∈ TG := tg (tb_2 (List.mem_of_getElem? (i := 113) rfl)) rfl
theorem kw_2_111 : (Cond.instanceMethod yX8_isCarried) ∈ TG := tg (tb_2 (List.mem_of_getElem? (i := 111) rfl)) rfl
theorem kw_2_112 : (Cond.selects RX8 yX8_isCarried yX8_isCarried) ∈ TG := tg (tb_2 (List.mem_of_getElem? (i := 112) rfl)) rfl
theorem kw_2_61 : (Cond.code yX9_oneIf cX9_oneIf 1 (some .int)) ∈ TG := tg (tb_2 (List.mem_of_getElem? (i := 61) rfl)) rfl
theorem kw_2_60 : (Cond.static yX9_oneIf) ∈ TG := tg (tb_2 (List.mem_of_getElem? (i := 60) rfl)) rfl
theorem kw_3_172 : (Cond.code yX0_next cX0_next 1 (some .int)) ∈ TG := tg (tb_3 (List.mem_of_getElem? (i := 172) rfl)) rfl
theorem kw_3_171 : (Cond.static yX0_next) ∈ TG := tg (tb_3 (List.mem_of_getElem? (i := 171) rfl)) rfl
theorem kw_1_14 : (Cond.initialized RX0) ∈ TG := tg (tb_1 (List.mem_of_getElem? (i := 14) rfl)) rfl
theorem kw_3_176 : (Cond.code yX0_below cX0_below 2 (some .int)) ∈ TG := tg (tb_3 (List.mem_of_getElem? (i := 176) rfl)) rfl
theorem kw_3_175 : (Cond.static yX0_below) ∈ TG := tg (tb_3 (List.mem_of_getElem? (i := 175) rfl)) rfl
theorem kw_1_191 : (Cond.code yX7_hasPlace cX7_hasPlace 2 (some .boolean)) ∈ TG := tg (tb_1 (List.mem_of_getElem? (i := 191) rfl)) rfl
theorem kw_1_189 : (Cond.instanceMethod yX7_hasPlace) ∈ TG := tg (tb_1 (List.mem_of_getElem? (i := 189) rfl)) rfl
theorem kw_1_190 : (Cond.selects RX7 yX7_hasPlace yX7_hasPlace) ∈ TG := tg (tb_1 (List.mem_of_getElem? (i := 190) rfl)) rfl
theorem kw_1_187 : (Cond.code yX7_at cX7_at 2 (some .int)) ∈ TG := tg (tb_1 (List.mem_of_getElem? (i := 187) rfl)) rfl
theorem kw_1_185 : (Cond.instanceMethod yX7_at) ∈ TG := tg (tb_1 (List.mem_of_getElem? (i := 185) rfl)) rfl
theorem kw_1_186 : (Cond.selects RX7 yX7_at yX7_at) ∈ TG := tg (tb_1 (List.mem_of_getElem? (i := 186) rfl)) rfl
theorem kw_3_127 : (Cond.code yX7_leastOfSort cX7_leastOfSort 1 (some .int)) ∈ TG := tg (tb_3 (List.mem_of_getElem? (i := 127) rfl)) rfl
theorem kw_3_126 : (Cond.instanceMethod yX7_leastOfSort) ∈ TG := tg (tb_3 (List.mem_of_getElem? (i := 126) rfl)) rfl
theorem kw_0_7 : (Cond.selects RX7 yX7_leastOfSort yX7_leastOfSort) ∈ TG := tg (tb_0 (List.mem_of_getElem? (i := 7) rfl)) rfl
theorem kw_3_224 : (Cond.code yX7_lowestBits cX7_lowestBits 2 (some .int)) ∈ TG := tg (tb_3 (List.mem_of_getElem? (i := 224) rfl)) rfl
theorem kw_3_223 : (Cond.instanceMethod yX7_lowestBits) ∈ TG := tg (tb_3 (List.mem_of_getElem? (i := 223) rfl)) rfl
theorem kw_0_10 : (Cond.selects RX7 yX7_lowestBits yX7_lowestBits) ∈ TG := tg (tb_0 (List.mem_of_getElem? (i := 10) rfl)) rfl
theorem kw_2_193 : (Cond.code yX2_isCrossing cX2_isCrossing 2 (some .boolean)) ∈ TG := tg (tb_2 (List.mem_of_getElem? (i := 193) rfl)) rfl
theorem kw_2_192 : (Cond.static yX2_isCrossing) ∈ TG := tg (tb_2 (List.mem_of_getElem? (i := 192) rfl)) rfl
theorem kw_1_11 : (Cond.initialized RX2) ∈ TG := tg (tb_1 (List.mem_of_getElem? (i := 11) rfl)) rfl
theorem kw_2_190 : (Cond.code yX2_isEnough cX2_isEnough 2 (some .boolean)) ∈ TG := tg (tb_2 (List.mem_of_getElem? (i := 190) rfl)) rfl
theorem kw_2_189 : (Cond.static yX2_isEnough) ∈ TG := tg (tb_2 (List.mem_of_getElem? (i := 189) rfl)) rfl
theorem kw_2_235 : (Cond.code yX2_isFewer cX2_isFewer 2 (some .boolean)) ∈ TG := tg (tb_2 (List.mem_of_getElem? (i := 235) rfl)) rfl
theorem kw_2_234 : (Cond.static yX2_isFewer) ∈ TG := tg (tb_2 (List.mem_of_getElem? (i := 234) rfl)) rfl
theorem kw_3_1 : (Cond.code yX2_isLeast cX2_isLeast 3 (some .boolean)) ∈ TG := tg (tb_3 (List.mem_of_getElem? (i := 1) rfl)) rfl
theorem kw_3_0 : (Cond.static yX2_isLeast) ∈ TG := tg (tb_3 (List.mem_of_getElem? (i := 0) rfl)) rfl
theorem kw_2_208 : (Cond.code yX2_isTurnedBy cX2_isTurnedBy 3 (some .boolean)) ∈ TG := tg (tb_2 (List.mem_of_getElem? (i := 208) rfl)) rfl
theorem kw_2_207 : (Cond.static yX2_isTurnedBy) ∈ TG := tg (tb_2 (List.mem_of_getElem? (i := 207) rfl)) rfl
theorem kw_2_213 : (Cond.code yX2_ordersOf cX2_ordersOf 4 (some .long)) ∈ TG := tg (tb_2 (List.mem_of_getElem? (i := 213) rfl)) rfl
theorem kw_2_212 : (Cond.static yX2_ordersOf) ∈ TG := tg (tb_2 (List.mem_of_getElem? (i := 212) rfl)) rfl
theorem kw_2_187 : (Cond.code yX8_areThere cX8_areThere 2 (some .boolean)) ∈ TG := tg (tb_2 (List.mem_of_getElem? (i := 187) rfl)) rfl
theorem kw_2_185 : (Cond.instanceMethod yX8_areThere) ∈ TG := tg (tb_2 (List.mem_of_getElem? (i := 185) rfl)) rfl
theorem kw_2_186 : (Cond.selects RX8 yX8_areThere yX8_areThere) ∈ TG := tg (tb_2 (List.mem_of_getElem? (i := 186) rfl)) rfl
theorem kw_1_204 : (Cond.code yX9_isBalcony cX9_isBalcony 1 (some .boolean)) ∈ TG := tg (tb_1 (List.mem_of_getElem? (i := 204) rfl)) rfl
theorem kw_1_203 : (Cond.static yX9_isBalcony) ∈ TG := tg (tb_1 (List.mem_of_getElem? (i := 203) rfl)) rfl
theorem kw_1_215 : (Cond.code yX8_admit cX8_admit 4 none) ∈ TG := tg (tb_1 (List.mem_of_getElem? (i := 215) rfl)) rfl
theorem kw_1_213 : (Cond.instanceMethod yX8_admit) ∈ TG := tg (tb_1 (List.mem_of_getElem? (i := 213) rfl)) rfl
theorem kw_1_214 : (Cond.selects RX8 yX8_admit yX8_admit) ∈ TG := tg (tb_1 (List.mem_of_getElem? (i := 214) rfl)) rfl
theorem kw_1_223 : (Cond.code yX8_isThere cX8_isThere 2 (some .boolean)) ∈ TG := tg (tb_1 (List.mem_of_getElem? (i := 223) rfl)) rfl
theorem kw_1_221 : (Cond.instanceMethod yX8_isThere) ∈ TG := tg (tb_1 (List.mem_of_getElem? (i := 221) rfl)) rfl
theorem kw_1_222 : (Cond.selects RX8 yX8_isThere yX8_isThere) ∈ TG := tg (tb_1 (List.mem_of_getElem? (i := 222) rfl)) rfl
theorem kw_1_230 : (Cond.code yX8_turnShutter cX8_turnShutter 2 none) ∈ TG := tg (tb_1 (List.mem_of_getElem? (i := 230) rfl)) rfl
theorem kw_1_228 : (Cond.instanceMethod yX8_turnShutter) ∈ TG := tg (tb_1 (List.mem_of_getElem? (i := 228) rfl)) rfl
theorem kw_1_229 : (Cond.selects RX8 yX8_turnShutter yX8_turnShutter) ∈ TG := tg (tb_1 (List.mem_of_getElem? (i := 229) rfl)) rfl
theorem kw_2_0 : (Cond.code yX8_hasDaysLeft cX8_hasDaysLeft 2 (some .boolean)) ∈ TG := tg (tb_2 (List.mem_of_getElem? (i := 0) rfl)) rfl
theorem kw_1_238 : (Cond.instanceMethod yX8_hasDaysLeft) ∈ TG := tg (tb_1 (List.mem_of_getElem? (i := 238) rfl)) rfl
theorem kw_1_239 : (Cond.selects RX8 yX8_hasDaysLeft yX8_hasDaysLeft) ∈ TG := tg (tb_1 (List.mem_of_getElem? (i := 239) rfl)) rfl
theorem kw_2_4 : (Cond.code yX8_live cX8_live 3 none) ∈ TG := tg (tb_2 (List.mem_of_getElem? (i := 4) rfl)) rfl
theorem kw_2_2 : (Cond.instanceMethod yX8_live) ∈ TG := tg (tb_2 (List.mem_of_getElem? (i := 2) rfl)) rfl
theorem kw_2_3 : (Cond.selects RX8 yX8_live yX8_live) ∈ TG := tg (tb_2 (List.mem_of_getElem? (i := 3) rfl)) rfl
theorem kw_1_219 : (Cond.code yX6_tryMood cX6_tryMood 3 (some .boolean)) ∈ TG := tg (tb_1 (List.mem_of_getElem? (i := 219) rfl)) rfl
theorem kw_1_218 : (Cond.static yX6_tryMood) ∈ TG := tg (tb_1 (List.mem_of_getElem? (i := 218) rfl)) rfl
theorem kw_1_7 : (Cond.initialized RX6) ∈ TG := tg (tb_1 (List.mem_of_getElem? (i := 7) rfl)) rfl
theorem kw_1_201 : (Cond.code yX6_tryHeight cX6_tryHeight 3 (some .boolean)) ∈ TG := tg (tb_1 (List.mem_of_getElem? (i := 201) rfl)) rfl
theorem kw_1_200 : (Cond.static yX6_tryHeight) ∈ TG := tg (tb_1 (List.mem_of_getElem? (i := 200) rfl)) rfl
theorem kw_1_226 : (Cond.code yX6_tryShutter cX6_tryShutter 2 (some .boolean)) ∈ TG := tg (tb_1 (List.mem_of_getElem? (i := 226) rfl)) rfl
theorem kw_1_225 : (Cond.static yX6_tryShutter) ∈ TG := tg (tb_1 (List.mem_of_getElem? (i := 225) rfl)) rfl
theorem kw_1_233 : (Cond.code yX6_tryQuota cX6_tryQuota 2 (some .boolean)) ∈ TG := tg (tb_1 (List.mem_of_getElem? (i := 233) rfl)) rfl
theorem kw_1_232 : (Cond.static yX6_tryQuota) ∈ TG := tg (tb_1 (List.mem_of_getElem? (i := 232) rfl)) rfl
theorem kw_1_207 : (Cond.code yX6_tryToAdmit cX6_tryToAdmit 4 (some .boolean)) ∈ TG := tg (tb_1 (List.mem_of_getElem? (i := 207) rfl)) rfl
theorem kw_1_206 : (Cond.static yX6_tryToAdmit) ∈ TG := tg (tb_1 (List.mem_of_getElem? (i := 206) rfl)) rfl
theorem kw_1_236 : (Cond.code yX6_tryDays cX6_tryDays 2 (some .boolean)) ∈ TG := tg (tb_1 (List.mem_of_getElem? (i := 236) rfl)) rfl
theorem kw_1_235 : (Cond.static yX6_tryDays) ∈ TG := tg (tb_1 (List.mem_of_getElem? (i := 235) rfl)) rfl
theorem kw_1_194 : (Cond.code yX6_digitsBehind cX6_digitsBehind 1 (some .int)) ∈ TG := tg (tb_1 (List.mem_of_getElem? (i := 194) rfl)) rfl
theorem kw_1_193 : (Cond.static yX6_digitsBehind) ∈ TG := tg (tb_1 (List.mem_of_getElem? (i := 193) rfl)) rfl
theorem kw_1_183 : (Cond.code yX6_placeOfUnfitByte cX6_placeOfUnfitByte 4 (some .int)) ∈ TG := tg (tb_1 (List.mem_of_getElem? (i := 183) rfl)) rfl
theorem kw_1_182 : (Cond.static yX6_placeOfUnfitByte) ∈ TG := tg (tb_1 (List.mem_of_getElem? (i := 182) rfl)) rfl
theorem kw_1_198 : (Cond.code yX6_tryStatement cX6_tryStatement 6 (some .boolean)) ∈ TG := tg (tb_1 (List.mem_of_getElem? (i := 198) rfl)) rfl
theorem kw_1_197 : (Cond.static yX6_tryStatement) ∈ TG := tg (tb_1 (List.mem_of_getElem? (i := 197) rfl)) rfl
theorem kw_3_62 : (Cond.code yX5_mostBehind cX5_mostBehind 5 (some .int)) ∈ TG := tg (tb_3 (List.mem_of_getElem? (i := 62) rfl)) rfl
theorem kw_3_61 : (Cond.instanceMethod yX5_mostBehind) ∈ TG := tg (tb_3 (List.mem_of_getElem? (i := 61) rfl)) rfl
theorem kw_0_4 : (Cond.selects RX5 yX5_mostBehind yX5_mostBehind) ∈ TG := tg (tb_0 (List.mem_of_getElem? (i := 4) rfl)) rfl
theorem kw_3_45 : (Cond.code yX8_weightAt cX8_weightAt 3 (some .int)) ∈ TG := tg (tb_3 (List.mem_of_getElem? (i := 45) rfl)) rfl
theorem kw_3_43 : (Cond.instanceMethod yX8_weightAt) ∈ TG := tg (tb_3 (List.mem_of_getElem? (i := 43) rfl)) rfl
theorem kw_3_44 : (Cond.selects RX8 yX8_weightAt yX8_weightAt) ∈ TG := tg (tb_3 (List.mem_of_getElem? (i := 44) rfl)) rfl
theorem kw_3_77 : (Cond.code yX5_firstBestRail cX5_firstBestRail 4 (some .int)) ∈ TG := tg (tb_3 (List.mem_of_getElem? (i := 77) rfl)) rfl
theorem kw_3_76 : (Cond.instanceMethod yX5_firstBestRail) ∈ TG := tg (tb_3 (List.mem_of_getElem? (i := 76) rfl)) rfl
theorem kw_0_5 : (Cond.selects RX5 yX5_firstBestRail yX5_firstBestRail) ∈ TG := tg (tb_0 (List.mem_of_getElem? (i := 5) rfl)) rfl
theorem kw_1_167 : (Cond.code yX9_isShelf cX9_isShelf 1 (some .boolean)) ∈ TG := tg (tb_1 (List.mem_of_getElem? (i := 167) rfl)) rfl
theorem kw_1_166 : (Cond.static yX9_isShelf) ∈ TG := tg (tb_1 (List.mem_of_getElem? (i := 166) rfl)) rfl
theorem kw_2_71 : (Cond.code yX8_isShut cX8_isShut 2 (some .boolean)) ∈ TG := tg (tb_2 (List.mem_of_getElem? (i := 71) rfl)) rfl
theorem kw_2_69 : (Cond.instanceMethod yX8_isShut) ∈ TG := tg (tb_2 (List.mem_of_getElem? (i := 69) rfl)) rfl
theorem kw_2_70 : (Cond.selects RX8 yX8_isShut yX8_isShut) ∈ TG := tg (tb_2 (List.mem_of_getElem? (i := 70) rfl)) rfl
theorem kw_2_75 : (Cond.code yX8_onesOn cX8_onesOn 4 (some .int)) ∈ TG := tg (tb_2 (List.mem_of_getElem? (i := 75) rfl)) rfl
theorem kw_2_73 : (Cond.instanceMethod yX8_onesOn) ∈ TG := tg (tb_2 (List.mem_of_getElem? (i := 73) rfl)) rfl
theorem kw_2_74 : (Cond.selects RX8 yX8_onesOn yX8_onesOn) ∈ TG := tg (tb_2 (List.mem_of_getElem? (i := 74) rfl)) rfl
theorem kw_2_150 : (Cond.code yX8_weightFor cX8_weightFor 2 (some .int)) ∈ TG := tg (tb_2 (List.mem_of_getElem? (i := 150) rfl)) rfl
theorem kw_2_148 : (Cond.instanceMethod yX8_weightFor) ∈ TG := tg (tb_2 (List.mem_of_getElem? (i := 148) rfl)) rfl
theorem kw_2_149 : (Cond.selects RX8 yX8_weightFor yX8_weightFor) ∈ TG := tg (tb_2 (List.mem_of_getElem? (i := 149) rfl)) rfl
theorem kw_2_203 : (Cond.code yX2_ordersTurned cX2_ordersTurned 8 (some .long)) ∈ TG := tg (tb_2 (List.mem_of_getElem? (i := 203) rfl)) rfl
theorem kw_2_202 : (Cond.static yX2_ordersTurned) ∈ TG := tg (tb_2 (List.mem_of_getElem? (i := 202) rfl)) rfl
theorem kw_2_216 : (Cond.code yX2_ordersOfHeard cX2_ordersOfHeard 1 (some .long)) ∈ TG := tg (tb_2 (List.mem_of_getElem? (i := 216) rfl)) rfl
theorem kw_2_215 : (Cond.static yX2_ordersOfHeard) ∈ TG := tg (tb_2 (List.mem_of_getElem? (i := 215) rfl)) rfl
theorem kw_2_219 : (Cond.code yX1_inLeastTerms cX1_inLeastTerms 7 (some .long)) ∈ TG := tg (tb_2 (List.mem_of_getElem? (i := 219) rfl)) rfl
theorem kw_2_218 : (Cond.static yX1_inLeastTerms) ∈ TG := tg (tb_2 (List.mem_of_getElem? (i := 218) rfl)) rfl
theorem kw_2_232 : (Cond.code yX2_smallest cX2_smallest 4 (some .int)) ∈ TG := tg (tb_2 (List.mem_of_getElem? (i := 232) rfl)) rfl
theorem kw_2_231 : (Cond.static yX2_smallest) ∈ TG := tg (tb_2 (List.mem_of_getElem? (i := 231) rfl)) rfl
theorem kw_2_238 : (Cond.code yX2_leastOnes cX2_leastOnes 4 (some .int)) ∈ TG := tg (tb_2 (List.mem_of_getElem? (i := 238) rfl)) rfl
theorem kw_2_237 : (Cond.static yX2_leastOnes) ∈ TG := tg (tb_2 (List.mem_of_getElem? (i := 237) rfl)) rfl
theorem kw_3_4 : (Cond.code yX2_blocks cX2_blocks 4 (some .int)) ∈ TG := tg (tb_3 (List.mem_of_getElem? (i := 4) rfl)) rfl
theorem kw_3_3 : (Cond.static yX2_blocks) ∈ TG := tg (tb_3 (List.mem_of_getElem? (i := 3) rfl)) rfl
theorem kw_3_11 : (Cond.code yX2_turnedGroups cX2_turnedGroups 5 (some .int)) ∈ TG := tg (tb_3 (List.mem_of_getElem? (i := 11) rfl)) rfl
theorem kw_3_10 : (Cond.static yX2_turnedGroups) ∈ TG := tg (tb_3 (List.mem_of_getElem? (i := 10) rfl)) rfl
theorem kw_3_85 : (Cond.code yX8_twosInSight cX8_twosInSight 4 (some .int)) ∈ TG := tg (tb_3 (List.mem_of_getElem? (i := 85) rfl)) rfl
theorem kw_3_83 : (Cond.instanceMethod yX8_twosInSight) ∈ TG := tg (tb_3 (List.mem_of_getElem? (i := 83) rfl)) rfl
theorem kw_3_84 : (Cond.selects RX8 yX8_twosInSight yX8_twosInSight) ∈ TG := tg (tb_3 (List.mem_of_getElem? (i := 84) rfl)) rfl
theorem kw_3_89 : (Cond.code yX8_loudest cX8_loudest 4 (some .int)) ∈ TG := tg (tb_3 (List.mem_of_getElem? (i := 89) rfl)) rfl
theorem kw_3_87 : (Cond.instanceMethod yX8_loudest) ∈ TG := tg (tb_3 (List.mem_of_getElem? (i := 87) rfl)) rfl
theorem kw_3_88 : (Cond.selects RX8 yX8_loudest yX8_loudest) ∈ TG := tg (tb_3 (List.mem_of_getElem? (i := 88) rfl)) rfl
theorem kw_3_149 : (Cond.code yX9_toThePower cX9_toThePower 5 (some .long)) ∈ TG := tg (tb_3 (List.mem_of_getElem? (i := 149) rfl)) rfl
theorem kw_3_148 : (Cond.static yX9_toThePower) ∈ TG := tg (tb_3 (List.mem_of_getElem? (i := 148) rfl)) rfl
theorem kw_3_195 : (Cond.code yX8_onesAgainst cX8_onesAgainst 3 (some .int)) ∈ TG := tg (tb_3 (List.mem_of_getElem? (i := 195) rfl)) rfl
theorem kw_3_193 : (Cond.instanceMethod yX8_onesAgainst) ∈ TG := tg (tb_3 (List.mem_of_getElem? (i := 193) rfl)) rfl
theorem kw_3_194 : (Cond.selects RX8 yX8_onesAgainst yX8_onesAgainst) ∈ TG := tg (tb_3 (List.mem_of_getElem? (i := 194) rfl)) rfl
theorem kw_2_159 : (Cond.code yX9_isSpan cX9_isSpan 1 (some .boolean)) ∈ TG := tg (tb_2 (List.mem_of_getElem? (i := 159) rfl)) rfl
theorem kw_2_158 : (Cond.static yX9_isSpan) ∈ TG := tg (tb_2 (List.mem_of_getElem? (i := 158) rfl)) rfl
theorem kw_1_174 : (Cond.code yX8_become cX8_become 2 none) ∈ TG := tg (tb_1 (List.mem_of_getElem? (i := 174) rfl)) rfl
theorem kw_1_172 : (Cond.instanceMethod yX8_become) ∈ TG := tg (tb_1 (List.mem_of_getElem? (i := 172) rfl)) rfl
theorem kw_1_173 : (Cond.selects RX8 yX8_become yX8_become) ∈ TG := tg (tb_1 (List.mem_of_getElem? (i := 173) rfl)) rfl
theorem kw_2_177 : (Cond.code yX8_carriedDays cX8_carriedDays 5 (some .int)) ∈ TG := tg (tb_2 (List.mem_of_getElem? (i := 177) rfl)) rfl
theorem kw_2_175 : (Cond.instanceMethod yX8_carriedDays) ∈ TG := tg (tb_2 (List.mem_of_getElem? (i := 175) rfl)) rfl
theorem kw_2_176 : (Cond.selects RX8 yX8_carriedDays yX8_carriedDays) ∈ TG := tg (tb_2 (List.mem_of_getElem? (i := 176) rfl)) rfl
theorem kw_3_24 : (Cond.code yX8_think cX8_think 4 none) ∈ TG := tg (tb_3 (List.mem_of_getElem? (i := 24) rfl)) rfl
theorem kw_3_22 : (Cond.instanceMethod yX8_think) ∈ TG := tg (tb_3 (List.mem_of_getElem? (i := 22) rfl)) rfl
theorem kw_3_23 : (Cond.selects RX8 yX8_think yX8_think) ∈ TG := tg (tb_3 (List.mem_of_getElem? (i := 23) rfl)) rfl
theorem kw_3_19 : (Cond.code yX9_fewestOfMood cX9_fewestOfMood 6 (some .int)) ∈ TG := tg (tb_3 (List.mem_of_getElem? (i := 19) rfl)) rfl
theorem kw_3_18 : (Cond.instanceMethod yX9_fewestOfMood) ∈ TG := tg (tb_3 (List.mem_of_getElem? (i := 18) rfl)) rfl
theorem kw_0_3 : (Cond.selects RX9 yX9_fewestOfMood yX9_fewestOfMood) ∈ TG := tg (tb_0 (List.mem_of_getElem? (i := 3) rfl)) rfl
theorem kw_3_141 : (Cond.code yX9_gainOf cX9_gainOf 6 (some .int)) ∈ TG := tg (tb_3 (List.mem_of_getElem? (i := 141) rfl)) rfl
theorem kw_3_140 : (Cond.instanceMethod yX9_gainOf) ∈ TG := tg (tb_3 (List.mem_of_getElem? (i := 140) rfl)) rfl
theorem kw_0_9 : (Cond.selects RX9 yX9_gainOf yX9_gainOf) ∈ TG := tg (tb_0 (List.mem_of_getElem? (i := 9) rfl)) rfl
theorem kw_3_137 : (Cond.code yX9_isContent cX9_isContent 5 (some .boolean)) ∈ TG := tg (tb_3 (List.mem_of_getElem? (i := 137) rfl)) rfl
theorem kw_3_136 : (Cond.instanceMethod yX9_isContent) ∈ TG := tg (tb_3 (List.mem_of_getElem? (i := 136) rfl)) rfl
theorem kw_0_8 : (Cond.selects RX9 yX9_isContent yX9_isContent) ∈ TG := tg (tb_0 (List.mem_of_getElem? (i := 8) rfl)) rfl
theorem kw_3_169 : (Cond.code yX8_scatter cX8_scatter 4 (some .int)) ∈ TG := tg (tb_3 (List.mem_of_getElem? (i := 169) rfl)) rfl
theorem kw_3_167 : (Cond.instanceMethod yX8_scatter) ∈ TG := tg (tb_3 (List.mem_of_getElem? (i := 167) rfl)) rfl
theorem kw_3_168 : (Cond.selects RX8 yX8_scatter yX8_scatter) ∈ TG := tg (tb_3 (List.mem_of_getElem? (i := 168) rfl)) rfl
theorem kw_1_164 : (Cond.code yX9_refusalOf cX9_refusalOf 3 (some .int)) ∈ TG := tg (tb_1 (List.mem_of_getElem? (i := 164) rfl)) rfl
theorem kw_1_163 : (Cond.instanceMethod yX9_refusalOf) ∈ TG := tg (tb_1 (List.mem_of_getElem? (i := 163) rfl)) rfl
theorem kw_0_0 : (Cond.selects RX9 yX9_refusalOf yX9_refusalOf) ∈ TG := tg (tb_0 (List.mem_of_getElem? (i := 0) rfl)) rfl
theorem kw_3_96 : (Cond.code yX4_isTold cX4_isTold 3 (some .boolean)) ∈ TG := tg (tb_3 (List.mem_of_getElem? (i := 96) rfl)) rfl
theorem kw_3_95 : (Cond.static yX4_isTold) ∈ TG := tg (tb_3 (List.mem_of_getElem? (i := 95) rfl)) rfl
theorem kw_1_13 : (Cond.initialized RX4) ∈ TG := tg (tb_1 (List.mem_of_getElem? (i := 13) rfl)) rfl
theorem kw_3_102 : (Cond.code yX4_leastQuota cX4_leastQuota 6 (some .int)) ∈ TG := tg (tb_3 (List.mem_of_getElem? (i := 102) rfl)) rfl
theorem kw_3_101 : (Cond.static yX4_leastQuota) ∈ TG := tg (tb_3 (List.mem_of_getElem? (i := 101) rfl)) rfl
theorem kw_3_109 : (Cond.code yX4_greatestQuota cX4_greatestQuota 7 (some .int)) ∈ TG := tg (tb_3 (List.mem_of_getElem? (i := 109) rfl)) rfl
theorem kw_3_108 : (Cond.static yX4_greatestQuota) ∈ TG := tg (tb_3 (List.mem_of_getElem? (i := 108) rfl)) rfl
theorem kw_3_122 : (Cond.code yX7_isSkipped cX7_isSkipped 2 (some .boolean)) ∈ TG := tg (tb_3 (List.mem_of_getElem? (i := 122) rfl)) rfl
theorem kw_3_120 : (Cond.instanceMethod yX7_isSkipped) ∈ TG := tg (tb_3 (List.mem_of_getElem? (i := 120) rfl)) rfl
theorem kw_3_121 : (Cond.selects RX7 yX7_isSkipped yX7_isSkipped) ∈ TG := tg (tb_3 (List.mem_of_getElem? (i := 121) rfl)) rfl
theorem kw_3_118 : (Cond.code yX9_feelsAsTold cX9_feelsAsTold 4 (some .boolean)) ∈ TG := tg (tb_3 (List.mem_of_getElem? (i := 118) rfl)) rfl
theorem kw_3_117 : (Cond.instanceMethod yX9_feelsAsTold) ∈ TG := tg (tb_3 (List.mem_of_getElem? (i := 117) rfl)) rfl
theorem kw_0_6 : (Cond.selects RX9 yX9_feelsAsTold yX9_feelsAsTold) ∈ TG := tg (tb_0 (List.mem_of_getElem? (i := 6) rfl)) rfl
theorem kw_3_203 : (Cond.code yX7_takeKind cX7_takeKind 3 none) ∈ TG := tg (tb_3 (List.mem_of_getElem? (i := 203) rfl)) rfl
theorem kw_3_201 : (Cond.instanceMethod yX7_takeKind) ∈ TG := tg (tb_3 (List.mem_of_getElem? (i := 201) rfl)) rfl
theorem kw_3_202 : (Cond.selects RX7 yX7_takeKind yX7_takeKind) ∈ TG := tg (tb_3 (List.mem_of_getElem? (i := 202) rfl)) rfl
theorem kw_3_211 : (Cond.code yX7_takeRow cX7_takeRow 4 none) ∈ TG := tg (tb_3 (List.mem_of_getElem? (i := 211) rfl)) rfl
theorem kw_3_209 : (Cond.instanceMethod yX7_takeRow) ∈ TG := tg (tb_3 (List.mem_of_getElem? (i := 209) rfl)) rfl
theorem kw_3_210 : (Cond.selects RX7 yX7_takeRow yX7_takeRow) ∈ TG := tg (tb_3 (List.mem_of_getElem? (i := 210) rfl)) rfl
theorem kw_3_220 : (Cond.code yX7_set cX7_set 3 none) ∈ TG := tg (tb_3 (List.mem_of_getElem? (i := 220) rfl)) rfl
theorem kw_3_218 : (Cond.instanceMethod yX7_set) ∈ TG := tg (tb_3 (List.mem_of_getElem? (i := 218) rfl)) rfl
theorem kw_3_219 : (Cond.selects RX7 yX7_set yX7_set) ∈ TG := tg (tb_3 (List.mem_of_getElem? (i := 219) rfl)) rfl
theorem kw_4_0 : (Cond.code yX3_priceOf cX3_priceOf 2 (some .int)) ∈ TG := tg (tb_4 (List.mem_of_getElem? (i := 0) rfl)) rfl
theorem kw_3_239 : (Cond.static yX3_priceOf) ∈ TG := tg (tb_3 (List.mem_of_getElem? (i := 239) rfl)) rfl
theorem kw_3_232 : (Cond.code yX7_hasPlaces cX7_hasPlaces 3 (some .boolean)) ∈ TG := tg (tb_3 (List.mem_of_getElem? (i := 232) rfl)) rfl
theorem kw_3_230 : (Cond.instanceMethod yX7_hasPlaces) ∈ TG := tg (tb_3 (List.mem_of_getElem? (i := 230) rfl)) rfl
theorem kw_3_231 : (Cond.selects RX7 yX7_hasPlaces yX7_hasPlaces) ∈ TG := tg (tb_3 (List.mem_of_getElem? (i := 231) rfl)) rfl
theorem kw_1_180 : (Cond.code yX6_play cX6_play 5 (some .int)) ∈ TG := tg (tb_1 (List.mem_of_getElem? (i := 180) rfl)) rfl
theorem kw_1_179 : (Cond.static yX6_play) ∈ TG := tg (tb_1 (List.mem_of_getElem? (i := 179) rfl)) rfl
theorem kw_3_57 : (Cond.code yX5_weigh cX5_weigh 4 none) ∈ TG := tg (tb_3 (List.mem_of_getElem? (i := 57) rfl)) rfl
theorem kw_3_55 : (Cond.instanceMethod yX5_weigh) ∈ TG := tg (tb_3 (List.mem_of_getElem? (i := 55) rfl)) rfl
theorem kw_3_56 : (Cond.selects RX5 yX5_weigh yX5_weigh) ∈ TG := tg (tb_3 (List.mem_of_getElem? (i := 56) rfl)) rfl
theorem kw_3_73 : (Cond.code yX5_railOf cX5_railOf 5 (some .int)) ∈ TG := tg (tb_3 (List.mem_of_getElem? (i := 73) rfl)) rfl
theorem kw_3_71 : (Cond.instanceMethod yX5_railOf) ∈ TG := tg (tb_3 (List.mem_of_getElem? (i := 71) rfl)) rfl
theorem kw_3_72 : (Cond.selects RX5 yX5_railOf yX5_railOf) ∈ TG := tg (tb_3 (List.mem_of_getElem? (i := 72) rfl)) rfl
theorem kw_3_69 : (Cond.code yX5_mostWeight cX5_mostWeight 1 (some .int)) ∈ TG := tg (tb_3 (List.mem_of_getElem? (i := 69) rfl)) rfl
theorem kw_3_67 : (Cond.instanceMethod yX5_mostWeight) ∈ TG := tg (tb_3 (List.mem_of_getElem? (i := 67) rfl)) rfl
theorem kw_3_68 : (Cond.selects RX5 yX5_mostWeight yX5_mostWeight) ∈ TG := tg (tb_3 (List.mem_of_getElem? (i := 68) rfl)) rfl
theorem kw_4_202 : (Cond.code yX10_isIn cX10_isIn 3 (some .boolean)) ∈ TG := tg (tb_4 (List.mem_of_getElem? (i := 202) rfl)) rfl
theorem kw_4_201 : (Cond.static yX10_isIn) ∈ TG := tg (tb_4 (List.mem_of_getElem? (i := 201) rfl)) rfl
theorem kw_1_5 : (Cond.initialized RX10) ∈ TG := tg (tb_1 (List.mem_of_getElem? (i := 5) rfl)) rfl
theorem kw_4_228 : (Cond.code yX10_of cX10_of 2 (some .int)) ∈ TG := tg (tb_4 (List.mem_of_getElem? (i := 228) rfl)) rfl
theorem kw_4_227 : (Cond.static yX10_of) ∈ TG := tg (tb_4 (List.mem_of_getElem? (i := 227) rfl)) rfl
theorem kw_5_16 : (Cond.code yX10_heightOf cX10_heightOf 2 (some .int)) ∈ TG := tg (tb_5 (List.mem_of_getElem? (i := 16) rfl)) rfl
theorem kw_5_15 : (Cond.static yX10_heightOf) ∈ TG := tg (tb_5 (List.mem_of_getElem? (i := 15) rfl)) rfl
theorem kw_5_29 : (Cond.code yX10_weightBy cX10_weightBy 3 (some .int)) ∈ TG := tg (tb_5 (List.mem_of_getElem? (i := 29) rfl)) rfl
theorem kw_5_28 : (Cond.static yX10_weightBy) ∈ TG := tg (tb_5 (List.mem_of_getElem? (i := 28) rfl)) rfl
theorem kw_5_7 : (Cond.code yX10_has cX10_has 2 (some .boolean)) ∈ TG := tg (tb_5 (List.mem_of_getElem? (i := 7) rfl)) rfl
theorem kw_5_6 : (Cond.static yX10_has) ∈ TG := tg (tb_5 (List.mem_of_getElem? (i := 6) rfl)) rfl
theorem kw_5_4 : (Cond.code yX10_isHeard cX10_isHeard 2 (some .boolean)) ∈ TG := tg (tb_5 (List.mem_of_getElem? (i := 4) rfl)) rfl
theorem kw_5_3 : (Cond.static yX10_isHeard) ∈ TG := tg (tb_5 (List.mem_of_getElem? (i := 3) rfl)) rfl
theorem kw_5_26 : (Cond.code yX10_weight cX10_weight 2 (some .int)) ∈ TG := tg (tb_5 (List.mem_of_getElem? (i := 26) rfl)) rfl
theorem kw_5_25 : (Cond.static yX10_weight) ∈ TG := tg (tb_5 (List.mem_of_getElem? (i := 25) rfl)) rfl
theorem kw_5_13 : (Cond.code yX10_sideOf cX10_sideOf 2 (some .int)) ∈ TG := tg (tb_5 (List.mem_of_getElem? (i := 13) rfl)) rfl
theorem kw_5_12 : (Cond.static yX10_sideOf) ∈ TG := tg (tb_5 (List.mem_of_getElem? (i := 12) rfl)) rfl
theorem kw_5_93 : (Cond.code yX10_doesVeto cX10_doesVeto 4 (some .boolean)) ∈ TG := tg (tb_5 (List.mem_of_getElem? (i := 93) rfl)) rfl
theorem kw_5_92 : (Cond.static yX10_doesVeto) ∈ TG := tg (tb_5 (List.mem_of_getElem? (i := 92) rfl)) rfl
theorem kw_5_81 : (Cond.code yX10_moodSet cX10_moodSet 4 (some .int)) ∈ TG := tg (tb_5 (List.mem_of_getElem? (i := 81) rfl)) rfl
theorem kw_5_80 : (Cond.static yX10_moodSet) ∈ TG := tg (tb_5 (List.mem_of_getElem? (i := 80) rfl)) rfl
theorem kw_5_84 : (Cond.code yX10_isOnSide cX10_isOnSide 4 (some .boolean)) ∈ TG := tg (tb_5 (List.mem_of_getElem? (i := 84) rfl)) rfl
theorem kw_5_83 : (Cond.static yX10_isOnSide) ∈ TG := tg (tb_5 (List.mem_of_getElem? (i := 83) rfl)) rfl
theorem kw_5_87 : (Cond.code yX10_weightOf cX10_weightOf 4 (some .int)) ∈ TG := tg (tb_5 (List.mem_of_getElem? (i := 87) rfl)) rfl
theorem kw_5_86 : (Cond.static yX10_weightOf) ∈ TG := tg (tb_5 (List.mem_of_getElem? (i := 86) rfl)) rfl
theorem kw_5_90 : (Cond.code yX10_isVetoed cX10_isVetoed 3 (some .boolean)) ∈ TG := tg (tb_5 (List.mem_of_getElem? (i := 90) rfl)) rfl
theorem kw_5_89 : (Cond.static yX10_isVetoed) ∈ TG := tg (tb_5 (List.mem_of_getElem? (i := 89) rfl)) rfl
theorem kw_5_75 : (Cond.code yX10_heardIn cX10_heardIn 3 (some .int)) ∈ TG := tg (tb_5 (List.mem_of_getElem? (i := 75) rfl)) rfl
theorem kw_5_74 : (Cond.static yX10_heardIn) ∈ TG := tg (tb_5 (List.mem_of_getElem? (i := 74) rfl)) rfl
theorem kw_5_78 : (Cond.code yX10_whyBy cX10_whyBy 3 (some .int)) ∈ TG := tg (tb_5 (List.mem_of_getElem? (i := 78) rfl)) rfl
theorem kw_5_77 : (Cond.static yX10_whyBy) ∈ TG := tg (tb_5 (List.mem_of_getElem? (i := 77) rfl)) rfl
theorem kw_5_19 : (Cond.code yX10_swayBy cX10_swayBy 2 (some .int)) ∈ TG := tg (tb_5 (List.mem_of_getElem? (i := 19) rfl)) rfl
theorem kw_5_18 : (Cond.static yX10_swayBy) ∈ TG := tg (tb_5 (List.mem_of_getElem? (i := 18) rfl)) rfl
theorem kw_5_10 : (Cond.code yX10_doesSee cX10_doesSee 3 (some .boolean)) ∈ TG := tg (tb_5 (List.mem_of_getElem? (i := 10) rfl)) rfl
theorem kw_5_9 : (Cond.static yX10_doesSee) ∈ TG := tg (tb_5 (List.mem_of_getElem? (i := 9) rfl)) rfl
theorem kw_5_1 : (Cond.code yX10_looks cX10_looks 7 none) ∈ TG := tg (tb_5 (List.mem_of_getElem? (i := 1) rfl)) rfl
theorem kw_5_0 : (Cond.static yX10_looks) ∈ TG := tg (tb_5 (List.mem_of_getElem? (i := 0) rfl)) rfl
theorem kw_4_238 : (Cond.code yX10_day cX10_day 2 none) ∈ TG := tg (tb_4 (List.mem_of_getElem? (i := 238) rfl)) rfl
theorem kw_4_237 : (Cond.static yX10_day) ∈ TG := tg (tb_4 (List.mem_of_getElem? (i := 237) rfl)) rfl
theorem kw_4_210 : (Cond.code yX10_here cX10_here 1 (some .int)) ∈ TG := tg (tb_4 (List.mem_of_getElem? (i := 210) rfl)) rfl
theorem kw_4_209 : (Cond.instanceMethod yX10_here) ∈ TG := tg (tb_4 (List.mem_of_getElem? (i := 209) rfl)) rfl
theorem kw_0_14 : (Cond.selects RX10 yX10_here yX10_here) ∈ TG := tg (tb_0 (List.mem_of_getElem? (i := 14) rfl)) rfl
theorem kw_4_214 : (Cond.code yX10_readsNumber cX10_readsNumber 4 (some .boolean)) ∈ TG := tg (tb_4 (List.mem_of_getElem? (i := 214) rfl)) rfl
theorem kw_4_213 : (Cond.instanceMethod yX10_readsNumber) ∈ TG := tg (tb_4 (List.mem_of_getElem? (i := 213) rfl)) rfl
theorem kw_0_15 : (Cond.selects RX10 yX10_readsNumber yX10_readsNumber) ∈ TG := tg (tb_0 (List.mem_of_getElem? (i := 15) rfl)) rfl
theorem kw_4_232 : (Cond.code yX10_isSpeaker cX10_isSpeaker 2 (some .boolean)) ∈ TG := tg (tb_4 (List.mem_of_getElem? (i := 232) rfl)) rfl
theorem kw_4_231 : (Cond.instanceMethod yX10_isSpeaker) ∈ TG := tg (tb_4 (List.mem_of_getElem? (i := 231) rfl)) rfl
theorem kw_0_18 : (Cond.selects RX10 yX10_isSpeaker yX10_isSpeaker) ∈ TG := tg (tb_0 (List.mem_of_getElem? (i := 18) rfl)) rfl
theorem kw_4_225 : (Cond.code yX10_adds cX10_adds 5 none) ∈ TG := tg (tb_4 (List.mem_of_getElem? (i := 225) rfl)) rfl
theorem kw_4_224 : (Cond.instanceMethod yX10_adds) ∈ TG := tg (tb_4 (List.mem_of_getElem? (i := 224) rfl)) rfl
theorem kw_0_17 : (Cond.selects RX10 yX10_adds yX10_adds) ∈ TG := tg (tb_0 (List.mem_of_getElem? (i := 17) rfl)) rfl
theorem kw_4_235 : (Cond.code yX10_daysOn cX10_daysOn 3 none) ∈ TG := tg (tb_4 (List.mem_of_getElem? (i := 235) rfl)) rfl
theorem kw_4_234 : (Cond.static yX10_daysOn) ∈ TG := tg (tb_4 (List.mem_of_getElem? (i := 234) rfl)) rfl
theorem kw_4_199 : (Cond.code yX10_isShelf cX10_isShelf 1 (some .boolean)) ∈ TG := tg (tb_4 (List.mem_of_getElem? (i := 199) rfl)) rfl
theorem kw_4_198 : (Cond.static yX10_isShelf) ∈ TG := tg (tb_4 (List.mem_of_getElem? (i := 198) rfl)) rfl
theorem kw_4_196 : (Cond.code yX10_wrongRow cX10_wrongRow 3 (some .int)) ∈ TG := tg (tb_4 (List.mem_of_getElem? (i := 196) rfl)) rfl
theorem kw_4_195 : (Cond.instanceMethod yX10_wrongRow) ∈ TG := tg (tb_4 (List.mem_of_getElem? (i := 195) rfl)) rfl
theorem kw_0_12 : (Cond.selects RX10 yX10_wrongRow yX10_wrongRow) ∈ TG := tg (tb_0 (List.mem_of_getElem? (i := 12) rfl)) rfl
theorem kw_4_206 : (Cond.code yX10_readsStatement cX10_readsStatement 3 (some .boolean)) ∈ TG := tg (tb_4 (List.mem_of_getElem? (i := 206) rfl)) rfl
theorem kw_4_205 : (Cond.instanceMethod yX10_readsStatement) ∈ TG := tg (tb_4 (List.mem_of_getElem? (i := 205) rfl)) rfl
theorem kw_0_13 : (Cond.selects RX10 yX10_readsStatement yX10_readsStatement) ∈ TG := tg (tb_0 (List.mem_of_getElem? (i := 13) rfl)) rfl
theorem kw_4_217 : (Cond.code yX10_copies cX10_copies 3 none) ∈ TG := tg (tb_4 (List.mem_of_getElem? (i := 217) rfl)) rfl
theorem kw_4_216 : (Cond.static yX10_copies) ∈ TG := tg (tb_4 (List.mem_of_getElem? (i := 216) rfl)) rfl
theorem kw_4_221 : (Cond.code yX10_isDone cX10_isDone 4 (some .boolean)) ∈ TG := tg (tb_4 (List.mem_of_getElem? (i := 221) rfl)) rfl
theorem kw_4_220 : (Cond.instanceMethod yX10_isDone) ∈ TG := tg (tb_4 (List.mem_of_getElem? (i := 220) rfl)) rfl
theorem kw_0_16 : (Cond.selects RX10 yX10_isDone yX10_isDone) ∈ TG := tg (tb_0 (List.mem_of_getElem? (i := 16) rfl)) rfl
theorem kw_5_36 : (Cond.code yX10_isRail cX10_isRail 1 (some .boolean)) ∈ TG := tg (tb_5 (List.mem_of_getElem? (i := 36) rfl)) rfl
theorem kw_5_35 : (Cond.static yX10_isRail) ∈ TG := tg (tb_5 (List.mem_of_getElem? (i := 35) rfl)) rfl
theorem kw_5_44 : (Cond.code yX10_wrongKept cX10_wrongKept 2 (some .int)) ∈ TG := tg (tb_5 (List.mem_of_getElem? (i := 44) rfl)) rfl
theorem kw_5_43 : (Cond.instanceMethod yX10_wrongKept) ∈ TG := tg (tb_5 (List.mem_of_getElem? (i := 43) rfl)) rfl
theorem kw_0_19 : (Cond.selects RX10 yX10_wrongKept yX10_wrongKept) ∈ TG := tg (tb_0 (List.mem_of_getElem? (i := 19) rfl)) rfl
theorem kw_5_72 : (Cond.code yX10_doesCarry cX10_doesCarry 1 (some .boolean)) ∈ TG := tg (tb_5 (List.mem_of_getElem? (i := 72) rfl)) rfl
theorem kw_5_71 : (Cond.static yX10_doesCarry) ∈ TG := tg (tb_5 (List.mem_of_getElem? (i := 71) rfl)) rfl
theorem kw_5_100 : (Cond.code yX10_forIn cX10_forIn 1 (some .int)) ∈ TG := tg (tb_5 (List.mem_of_getElem? (i := 100) rfl)) rfl
theorem kw_5_99 : (Cond.static yX10_forIn) ∈ TG := tg (tb_5 (List.mem_of_getElem? (i := 99) rfl)) rfl
theorem kw_5_107 : (Cond.code yX10_isLate cX10_isLate 1 (some .boolean)) ∈ TG := tg (tb_5 (List.mem_of_getElem? (i := 107) rfl)) rfl
theorem kw_5_106 : (Cond.static yX10_isLate) ∈ TG := tg (tb_5 (List.mem_of_getElem? (i := 106) rfl)) rfl
theorem kw_5_111 : (Cond.code yX10_takes cX10_takes 2 none) ∈ TG := tg (tb_5 (List.mem_of_getElem? (i := 111) rfl)) rfl
theorem kw_5_110 : (Cond.instanceMethod yX10_takes) ∈ TG := tg (tb_5 (List.mem_of_getElem? (i := 110) rfl)) rfl
theorem kw_0_20 : (Cond.selects RX10 yX10_takes yX10_takes) ∈ TG := tg (tb_0 (List.mem_of_getElem? (i := 20) rfl)) rfl
theorem kw_5_131 : (Cond.code yX10_holdsIn cX10_holdsIn 4 (some .int)) ∈ TG := tg (tb_5 (List.mem_of_getElem? (i := 131) rfl)) rfl
theorem kw_5_130 : (Cond.instanceMethod yX10_holdsIn) ∈ TG := tg (tb_5 (List.mem_of_getElem? (i := 130) rfl)) rfl
theorem kw_0_22 : (Cond.selects RX10 yX10_holdsIn yX10_holdsIn) ∈ TG := tg (tb_0 (List.mem_of_getElem? (i := 22) rfl)) rfl
theorem kw_5_127 : (Cond.code yX10_holdsNow cX10_holdsNow 2 (some .int)) ∈ TG := tg (tb_5 (List.mem_of_getElem? (i := 127) rfl)) rfl
theorem kw_5_126 : (Cond.instanceMethod yX10_holdsNow) ∈ TG := tg (tb_5 (List.mem_of_getElem? (i := 126) rfl)) rfl
theorem kw_0_21 : (Cond.selects RX10 yX10_holdsNow yX10_holdsNow) ∈ TG := tg (tb_0 (List.mem_of_getElem? (i := 21) rfl)) rfl
theorem kw_5_139 : (Cond.code yX10_isGroup cX10_isGroup 2 (some .boolean)) ∈ TG := tg (tb_5 (List.mem_of_getElem? (i := 139) rfl)) rfl
theorem kw_5_138 : (Cond.instanceMethod yX10_isGroup) ∈ TG := tg (tb_5 (List.mem_of_getElem? (i := 138) rfl)) rfl
theorem kw_0_23 : (Cond.selects RX10 yX10_isGroup yX10_isGroup) ∈ TG := tg (tb_0 (List.mem_of_getElem? (i := 23) rfl)) rfl
theorem kw_5_143 : (Cond.code yX10_couldBy cX10_couldBy 4 (some .boolean)) ∈ TG := tg (tb_5 (List.mem_of_getElem? (i := 143) rfl)) rfl
theorem kw_5_142 : (Cond.instanceMethod yX10_couldBy) ∈ TG := tg (tb_5 (List.mem_of_getElem? (i := 142) rfl)) rfl
theorem kw_0_24 : (Cond.selects RX10 yX10_couldBy yX10_couldBy) ∈ TG := tg (tb_0 (List.mem_of_getElem? (i := 24) rfl)) rfl
theorem kw_5_168 : (Cond.code yX10_gcd cX10_gcd 10 (some .long)) ∈ TG := tg (tb_5 (List.mem_of_getElem? (i := 168) rfl)) rfl
theorem kw_5_167 : (Cond.static yX10_gcd) ∈ TG := tg (tb_5 (List.mem_of_getElem? (i := 167) rfl)) rfl
theorem kw_5_151 : (Cond.code yX10_bits cX10_bits 3 (some .int)) ∈ TG := tg (tb_5 (List.mem_of_getElem? (i := 151) rfl)) rfl
theorem kw_5_150 : (Cond.static yX10_bits) ∈ TG := tg (tb_5 (List.mem_of_getElem? (i := 150) rfl)) rfl
theorem kw_5_162 : (Cond.code yX10_orders cX10_orders 4 (some .long)) ∈ TG := tg (tb_5 (List.mem_of_getElem? (i := 162) rfl)) rfl
theorem kw_5_161 : (Cond.static yX10_orders) ∈ TG := tg (tb_5 (List.mem_of_getElem? (i := 161) rfl)) rfl
theorem kw_5_165 : (Cond.code yX10_partOf cX10_partOf 5 (some .long)) ∈ TG := tg (tb_5 (List.mem_of_getElem? (i := 165) rfl)) rfl
theorem kw_5_164 : (Cond.static yX10_partOf) ∈ TG := tg (tb_5 (List.mem_of_getElem? (i := 164) rfl)) rfl
theorem kw_5_155 : (Cond.code yX10_isOfHeard cX10_isOfHeard 2 (some .boolean)) ∈ TG := tg (tb_5 (List.mem_of_getElem? (i := 155) rfl)) rfl
theorem kw_5_154 : (Cond.instanceMethod yX10_isOfHeard) ∈ TG := tg (tb_5 (List.mem_of_getElem? (i := 154) rfl)) rfl
theorem kw_0_25 : (Cond.selects RX10 yX10_isOfHeard yX10_isOfHeard) ∈ TG := tg (tb_0 (List.mem_of_getElem? (i := 25) rfl)) rfl
theorem kw_5_159 : (Cond.code yX10_doesSwing cX10_doesSwing 3 (some .boolean)) ∈ TG := tg (tb_5 (List.mem_of_getElem? (i := 159) rfl)) rfl
theorem kw_5_158 : (Cond.instanceMethod yX10_doesSwing) ∈ TG := tg (tb_5 (List.mem_of_getElem? (i := 158) rfl)) rfl
theorem kw_0_26 : (Cond.selects RX10 yX10_doesSwing yX10_doesSwing) ∈ TG := tg (tb_0 (List.mem_of_getElem? (i := 26) rfl)) rfl
theorem kw_5_184 : (Cond.code yX10_isLeast cX10_isLeast 3 (some .boolean)) ∈ TG := tg (tb_5 (List.mem_of_getElem? (i := 184) rfl)) rfl
theorem kw_5_183 : (Cond.instanceMethod yX10_isLeast) ∈ TG := tg (tb_5 (List.mem_of_getElem? (i := 183) rfl)) rfl
theorem kw_0_29 : (Cond.selects RX10 yX10_isLeast yX10_isLeast) ∈ TG := tg (tb_0 (List.mem_of_getElem? (i := 29) rfl)) rfl
theorem kw_5_188 : (Cond.code yX10_blocks cX10_blocks 4 (some .int)) ∈ TG := tg (tb_5 (List.mem_of_getElem? (i := 188) rfl)) rfl
theorem kw_5_187 : (Cond.instanceMethod yX10_blocks) ∈ TG := tg (tb_5 (List.mem_of_getElem? (i := 187) rfl)) rfl
theorem kw_0_30 : (Cond.selects RX10 yX10_blocks yX10_blocks) ∈ TG := tg (tb_0 (List.mem_of_getElem? (i := 30) rfl)) rfl
theorem kw_5_180 : (Cond.code yX10_leastOnes cX10_leastOnes 3 (some .int)) ∈ TG := tg (tb_5 (List.mem_of_getElem? (i := 180) rfl)) rfl
theorem kw_5_179 : (Cond.instanceMethod yX10_leastOnes) ∈ TG := tg (tb_5 (List.mem_of_getElem? (i := 179) rfl)) rfl
theorem kw_0_28 : (Cond.selects RX10 yX10_leastOnes yX10_leastOnes) ∈ TG := tg (tb_0 (List.mem_of_getElem? (i := 28) rfl)) rfl
theorem kw_5_176 : (Cond.code yX10_smallest cX10_smallest 3 (some .int)) ∈ TG := tg (tb_5 (List.mem_of_getElem? (i := 176) rfl)) rfl
theorem kw_5_175 : (Cond.instanceMethod yX10_smallest) ∈ TG := tg (tb_5 (List.mem_of_getElem? (i := 175) rfl)) rfl
theorem kw_0_27 : (Cond.selects RX10 yX10_smallest yX10_smallest) ∈ TG := tg (tb_0 (List.mem_of_getElem? (i := 27) rfl)) rfl
theorem kw_5_200 : (Cond.code yX10_doesCarryWith cX10_doesCarryWith 4 (some .boolean)) ∈ TG := tg (tb_5 (List.mem_of_getElem? (i := 200) rfl)) rfl
theorem kw_5_199 : (Cond.instanceMethod yX10_doesCarryWith) ∈ TG := tg (tb_5 (List.mem_of_getElem? (i := 199) rfl)) rfl
theorem kw_0_31 : (Cond.selects RX10 yX10_doesCarryWith yX10_doesCarryWith) ∈ TG := tg (tb_0 (List.mem_of_getElem? (i := 31) rfl)) rfl
theorem kw_5_220 : (Cond.code yX10_weightAt cX10_weightAt 3 (some .int)) ∈ TG := tg (tb_5 (List.mem_of_getElem? (i := 220) rfl)) rfl
theorem kw_5_219 : (Cond.instanceMethod yX10_weightAt) ∈ TG := tg (tb_5 (List.mem_of_getElem? (i := 219) rfl)) rfl
theorem kw_0_32 : (Cond.selects RX10 yX10_weightAt yX10_weightAt) ∈ TG := tg (tb_0 (List.mem_of_getElem? (i := 32) rfl)) rfl
theorem kw_5_232 : (Cond.code yX10_matches cX10_matches 6 none) ∈ TG := tg (tb_5 (List.mem_of_getElem? (i := 232) rfl)) rfl
theorem kw_5_231 : (Cond.instanceMethod yX10_matches) ∈ TG := tg (tb_5 (List.mem_of_getElem? (i := 231) rfl)) rfl
theorem kw_0_33 : (Cond.selects RX10 yX10_matches yX10_matches) ∈ TG := tg (tb_0 (List.mem_of_getElem? (i := 33) rfl)) rfl
theorem kw_5_236 : (Cond.code yX10_railOf cX10_railOf 5 (some .int)) ∈ TG := tg (tb_5 (List.mem_of_getElem? (i := 236) rfl)) rfl
theorem kw_5_235 : (Cond.instanceMethod yX10_railOf) ∈ TG := tg (tb_5 (List.mem_of_getElem? (i := 235) rfl)) rfl
theorem kw_0_34 : (Cond.selects RX10 yX10_railOf yX10_railOf) ∈ TG := tg (tb_0 (List.mem_of_getElem? (i := 34) rfl)) rfl
theorem kw_6_8 : (Cond.code yX10_isLawBy cX10_isLawBy 4 (some .boolean)) ∈ TG := tg (tb_6 (List.mem_of_getElem? (i := 8) rfl)) rfl
theorem kw_6_7 : (Cond.instanceMethod yX10_isLawBy) ∈ TG := tg (tb_6 (List.mem_of_getElem? (i := 7) rfl)) rfl
theorem kw_0_35 : (Cond.selects RX10 yX10_isLawBy yX10_isLawBy) ∈ TG := tg (tb_0 (List.mem_of_getElem? (i := 35) rfl)) rfl
theorem kw_6_15 : (Cond.code yX10_leastOf cX10_leastOf 1 (some .int)) ∈ TG := tg (tb_6 (List.mem_of_getElem? (i := 15) rfl)) rfl
theorem kw_6_14 : (Cond.static yX10_leastOf) ∈ TG := tg (tb_6 (List.mem_of_getElem? (i := 14) rfl)) rfl
theorem kw_6_24 : (Cond.code yX10_hasBy cX10_hasBy 6 (some .int)) ∈ TG := tg (tb_6 (List.mem_of_getElem? (i := 24) rfl)) rfl
theorem kw_6_23 : (Cond.instanceMethod yX10_hasBy) ∈ TG := tg (tb_6 (List.mem_of_getElem? (i := 23) rfl)) rfl
theorem kw_0_36 : (Cond.selects RX10 yX10_hasBy yX10_hasBy) ∈ TG := tg (tb_0 (List.mem_of_getElem? (i := 36) rfl)) rfl
theorem kw_6_48 : (Cond.code yX10_drawn cX10_drawn 2 (some .int)) ∈ TG := tg (tb_6 (List.mem_of_getElem? (i := 48) rfl)) rfl
theorem kw_6_47 : (Cond.instanceMethod yX10_drawn) ∈ TG := tg (tb_6 (List.mem_of_getElem? (i := 47) rfl)) rfl
theorem kw_0_37 : (Cond.selects RX10 yX10_drawn yX10_drawn) ∈ TG := tg (tb_0 (List.mem_of_getElem? (i := 37) rfl)) rfl
theorem kw_6_94 : (Cond.code yX10_costBy cX10_costBy 2 (some .int)) ∈ TG := tg (tb_6 (List.mem_of_getElem? (i := 94) rfl)) rfl
theorem kw_6_93 : (Cond.static yX10_costBy) ∈ TG := tg (tb_6 (List.mem_of_getElem? (i := 93) rfl)) rfl
theorem q_X9_isWithin : CalS yX9_isWithin cX9_isWithin 3 (some .boolean) 3 := ⟨kw_1_170, kw_1_169, kw_1_1, by decide +kernel, by decide +kernel, by decide +kernel⟩
theorem q_X3_widowPrice : CalS yX3_widowPrice cX3_widowPrice 1 (some .int) 1 := ⟨kw_4_3, kw_4_2, kw_1_10, by decide +kernel, by decide +kernel, by decide +kernel⟩
theorem q_X1_commonDivisor : CalS yX1_commonDivisor cX1_commonDivisor 11 (some .long) 2 := ⟨kw_2_225, kw_2_224, kw_1_12, by decide +kernel, by decide +kernel, by decide +kernel⟩
theorem q_J6_bitCount_0f7a4 : CalS yJ6_bitCount_0f7a4 cJ6_bitCount_0f7a4 1 (some .int) 1 := ⟨kw_2_33, kw_2_32, kw_1_9, by decide +kernel, by decide +kernel, by decide +kernel⟩
theorem q_X9_isIn : CalS yX9_isIn cX9_isIn 2 (some .boolean) 2 := ⟨kw_2_15, kw_2_14, kw_1_1, by decide +kernel, by decide +kernel, by decide +kernel⟩
theorem q_X3_weightOf : CalS yX3_weightOf cX3_weightOf 3 (some .int) 3 := ⟨kw_2_57, kw_2_56, kw_1_10, by decide +kernel, by decide +kernel, by decide +kernel⟩
theorem q_X8_isHeard : CalV yX8_isHeard cX8_isHeard 2 (some .boolean) 1 := ⟨kw_2_12, kw_2_10, kw_2_11, kw_1_2, by decide +kernel, by decide +kernel, by decide +kernel⟩
theorem q_X8_weightOf : CalV yX8_weightOf cX8_weightOf 2 (some .int) 1 := ⟨kw_2_54, kw_2_52, kw_2_53, kw_1_2, by decide +kernel, by decide +kernel, by decide +kernel⟩
theorem q_X8_onesFor : CalV yX8_onesFor cX8_onesFor 3 (some .int) 0 := ⟨kw_2_125, kw_2_123, kw_2_124, kw_1_2, by decide +kernel, by decide +kernel, by decide +kernel⟩
theorem q_X8_weightOfAll : CalV yX8_weightOfAll cX8_weightOfAll 4 (some .int) 1 := ⟨kw_2_133, kw_2_131, kw_2_132, kw_1_2, by decide +kernel, by decide +kernel, by decide +kernel⟩
theorem q_X3_isVeto : CalS yX3_isVeto cX3_isVeto 2 (some .boolean) 2 := ⟨kw_2_141, kw_2_140, kw_1_10, by decide +kernel, by decide +kernel, by decide +kernel⟩
theorem q_X8_sidesOf : CalV yX8_sidesOf cX8_sidesOf 4 (some .int) 1 := ⟨kw_2_129, kw_2_127, kw_2_128, kw_1_2, by decide +kernel, by decide +kernel, by decide +kernel⟩
theorem q_X8_isVetoed : CalV yX8_isVetoed cX8_isVetoed 3 (some .boolean) 1 := ⟨kw_2_138, kw_2_137, kw_0_2, kw_1_2, by decide +kernel, by decide +kernel, by decide +kernel⟩
theorem q_X8_heardOnes : CalV yX8_heardOnes cX8_heardOnes 3 (some .int) 0 := ⟨kw_2_117, kw_2_115, kw_2_116, kw_1_2, by decide +kernel, by decide +kernel, by decide +kernel⟩
theorem q_X8_whyNot : CalV yX8_whyNot cX8_whyNot 4 (some .int) 1 := ⟨kw_2_121, kw_2_119, kw_2_120, kw_1_2, by decide +kernel, by decide +kernel, by decide +kernel⟩
theorem q_X8_isInSight : CalV yX8_isInSight cX8_isInSight 4 (some .boolean) 2 := ⟨kw_2_19, kw_2_17, kw_2_18, kw_1_2, by decide +kernel, by decide +kernel, by decide +kernel⟩
theorem q_X3_swayOf : CalS yX3_swayOf cX3_swayOf 2 (some .int) 2 := ⟨kw_2_39, kw_2_38, kw_1_10, by decide +kernel, by decide +kernel, by decide +kernel⟩
theorem q_X8_hasRoom : CalV yX8_hasRoom cX8_hasRoom 1 (some .boolean) 0 := ⟨kw_1_211, kw_1_209, kw_1_210, kw_1_2, by decide +kernel, by decide +kernel, by decide +kernel⟩
theorem q_X8_moodBehindLook : CalV yX8_moodBehindLook cX8_moodBehindLook 5 (some .int) 1 := ⟨kw_2_30, kw_2_29, kw_0_1, kw_1_2, by decide +kernel, by decide +kernel, by decide +kernel⟩
theorem q_X8_startDays : CalV yX8_startDays cX8_startDays 3 none 0 := ⟨kw_2_8, kw_2_6, kw_2_7, kw_1_2, by decide +kernel, by decide +kernel, by decide +kernel⟩
theorem q_X8_nextDay : CalV yX8_nextDay cX8_nextDay 3 (some .boolean) 0 := ⟨kw_2_26, kw_2_24, kw_2_25, kw_1_2, by decide +kernel, by decide +kernel, by decide +kernel⟩
theorem q_X8_isCarried : CalV yX8_isCarried cX8_isCarried 1 (some .boolean) 0 := ⟨kw_2_113, kw_2_111, kw_2_112, kw_1_2, by decide +kernel, by decide +kernel, by decide +kernel⟩
theorem q_X9_oneIf : CalS yX9_oneIf cX9_oneIf 1 (some .int) 1 := ⟨kw_2_61, kw_2_60, kw_1_1, by decide +kernel, by decide +kernel, by decide +kernel⟩
theorem q_X0_next : CalS yX0_next cX0_next 1 (some .int) 1 := ⟨kw_3_172, kw_3_171, kw_1_14, by decide +kernel, by decide +kernel, by decide +kernel⟩
theorem q_X0_below : CalS yX0_below cX0_below 2 (some .int) 2 := ⟨kw_3_176, kw_3_175, kw_1_14, by decide +kernel, by decide +kernel, by decide +kernel⟩
theorem q_X7_hasPlace : CalV yX7_hasPlace cX7_hasPlace 2 (some .boolean) 1 := ⟨kw_1_191, kw_1_189, kw_1_190, kw_1_4, by decide +kernel, by decide +kernel, by decide +kernel⟩
theorem q_X7_at : CalV yX7_at cX7_at 2 (some .int) 1 := ⟨kw_1_187, kw_1_185, kw_1_186, kw_1_4, by decide +kernel, by decide +kernel, by decide +kernel⟩
theorem q_X7_leastOfSort : CalV yX7_leastOfSort cX7_leastOfSort 1 (some .int) 0 := ⟨kw_3_127, kw_3_126, kw_0_7, kw_1_4, by decide +kernel, by decide +kernel, by decide +kernel⟩
theorem q_X7_lowestBits : CalV yX7_lowestBits cX7_lowestBits 2 (some .int) 1 := ⟨kw_3_224, kw_3_223, kw_0_10, kw_1_4, by decide +kernel, by decide +kernel, by decide +kernel⟩
theorem q_X2_isCrossing : CalS yX2_isCrossing cX2_isCrossing 2 (some .boolean) 2 := ⟨kw_2_193, kw_2_192, kw_1_11, by decide +kernel, by decide +kernel, by decide +kernel⟩
theorem q_X2_isEnough : CalS yX2_isEnough cX2_isEnough 2 (some .boolean) 2 := ⟨kw_2_190, kw_2_189, kw_1_11, by decide +kernel, by decide +kernel, by decide +kernel⟩
theorem q_X2_isFewer : CalS yX2_isFewer cX2_isFewer 2 (some .boolean) 2 := ⟨kw_2_235, kw_2_234, kw_1_11, by decide +kernel, by decide +kernel, by decide +kernel⟩
theorem q_X2_isLeast : CalS yX2_isLeast cX2_isLeast 3 (some .boolean) 2 := ⟨kw_3_1, kw_3_0, kw_1_11, by decide +kernel, by decide +kernel, by decide +kernel⟩
theorem q_X2_isTurnedBy : CalS yX2_isTurnedBy cX2_isTurnedBy 3 (some .boolean) 3 := ⟨kw_2_208, kw_2_207, kw_1_11, by decide +kernel, by decide +kernel, by decide +kernel⟩
theorem q_X2_ordersOf : CalS yX2_ordersOf cX2_ordersOf 4 (some .long) 1 := ⟨kw_2_213, kw_2_212, kw_1_11, by decide +kernel, by decide +kernel, by decide +kernel⟩
theorem q_X8_areThere : CalV yX8_areThere cX8_areThere 2 (some .boolean) 1 := ⟨kw_2_187, kw_2_185, kw_2_186, kw_1_2, by decide +kernel, by decide +kernel, by decide +kernel⟩
theorem q_X9_isBalcony : CalS yX9_isBalcony cX9_isBalcony 1 (some .boolean) 1 := ⟨kw_1_204, kw_1_203, kw_1_1, by decide +kernel, by decide +kernel, by decide +kernel⟩
theorem q_X8_admit : CalV yX8_admit cX8_admit 4 none 3 := ⟨kw_1_215, kw_1_213, kw_1_214, kw_1_2, by decide +kernel, by decide +kernel, by decide +kernel⟩
theorem q_X8_isThere : CalV yX8_isThere cX8_isThere 2 (some .boolean) 1 := ⟨kw_1_223, kw_1_221, kw_1_222, kw_1_2, by decide +kernel, by decide +kernel, by decide +kernel⟩
theorem q_X8_turnShutter : CalV yX8_turnShutter cX8_turnShutter 2 none 1 := ⟨kw_1_230, kw_1_228, kw_1_229, kw_1_2, by decide +kernel, by decide +kernel, by decide +kernel⟩
theorem q_X8_hasDaysLeft : CalV yX8_hasDaysLeft cX8_hasDaysLeft 2 (some .boolean) 1 := ⟨kw_2_0, kw_1_238, kw_1_239, kw_1_2, by decide +kernel, by decide +kernel, by decide +kernel⟩
theorem q_X8_live : CalV yX8_live cX8_live 3 none 1 := ⟨kw_2_4, kw_2_2, kw_2_3, kw_1_2, by decide +kernel, by decide +kernel, by decide +kernel⟩
theorem q_X6_tryMood : CalS yX6_tryMood cX6_tryMood 3 (some .boolean) 3 := ⟨kw_1_219, kw_1_218, kw_1_7, by decide +kernel, by decide +kernel, by decide +kernel⟩
theorem q_X6_tryHeight : CalS yX6_tryHeight cX6_tryHeight 3 (some .boolean) 3 := ⟨kw_1_201, kw_1_200, kw_1_7, by decide +kernel, by decide +kernel, by decide +kernel⟩
theorem q_X6_tryShutter : CalS yX6_tryShutter cX6_tryShutter 2 (some .boolean) 2 := ⟨kw_1_226, kw_1_225, kw_1_7, by decide +kernel, by decide +kernel, by decide +kernel⟩
theorem q_X6_tryQuota : CalS yX6_tryQuota cX6_tryQuota 2 (some .boolean) 2 := ⟨kw_1_233, kw_1_232, kw_1_7, by decide +kernel, by decide +kernel, by decide +kernel⟩
theorem q_X6_tryToAdmit : CalS yX6_tryToAdmit cX6_tryToAdmit 4 (some .boolean) 4 := ⟨kw_1_207, kw_1_206, kw_1_7, by decide +kernel, by decide +kernel, by decide +kernel⟩
theorem q_X6_tryDays : CalS yX6_tryDays cX6_tryDays 2 (some .boolean) 2 := ⟨kw_1_236, kw_1_235, kw_1_7, by decide +kernel, by decide +kernel, by decide +kernel⟩
theorem q_X6_digitsBehind : CalS yX6_digitsBehind cX6_digitsBehind 1 (some .int) 1 := ⟨kw_1_194, kw_1_193, kw_1_7, by decide +kernel, by decide +kernel, by decide +kernel⟩
theorem q_X6_placeOfUnfitByte : CalS yX6_placeOfUnfitByte cX6_placeOfUnfitByte 4 (some .int) 1 := ⟨kw_1_183, kw_1_182, kw_1_7, by decide +kernel, by decide +kernel, by decide +kernel⟩
theorem q_X6_tryStatement : CalS yX6_tryStatement cX6_tryStatement 6 (some .boolean) 3 := ⟨kw_1_198, kw_1_197, kw_1_7, by decide +kernel, by decide +kernel, by decide +kernel⟩
theorem q_X5_mostBehind : CalV yX5_mostBehind cX5_mostBehind 5 (some .int) 1 := ⟨kw_3_62, kw_3_61, kw_0_4, kw_1_3, by decide +kernel, by decide +kernel, by decide +kernel⟩
theorem q_X8_weightAt : CalV yX8_weightAt cX8_weightAt 3 (some .int) 2 := ⟨kw_3_45, kw_3_43, kw_3_44, kw_1_2, by decide +kernel, by decide +kernel, by decide +kernel⟩
theorem q_X5_firstBestRail : CalV yX5_firstBestRail cX5_firstBestRail 4 (some .int) 2 := ⟨kw_3_77, kw_3_76, kw_0_5, kw_1_3, by decide +kernel, by decide +kernel, by decide +kernel⟩
theorem q_X9_isShelf : CalS yX9_isShelf cX9_isShelf 1 (some .boolean) 1 := ⟨kw_1_167, kw_1_166, kw_1_1, by decide +kernel, by decide +kernel, by decide +kernel⟩
theorem q_X8_isShut : CalV yX8_isShut cX8_isShut 2 (some .boolean) 1 := ⟨kw_2_71, kw_2_69, kw_2_70, kw_1_2, by decide +kernel, by decide +kernel, by decide +kernel⟩
theorem q_X8_onesOn : CalV yX8_onesOn cX8_onesOn 4 (some .int) 1 := ⟨kw_2_75, kw_2_73, kw_2_74, kw_1_2, by decide +kernel, by decide +kernel, by decide +kernel⟩
theorem q_X8_weightFor : CalV yX8_weightFor cX8_weightFor 2 (some .int) 1 := ⟨kw_2_150, kw_2_148, kw_2_149, kw_1_2, by decide +kernel, by decide +kernel, by decide +kernel⟩
theorem q_X2_ordersTurned : CalS yX2_ordersTurned cX2_ordersTurned 8 (some .long) 2 := ⟨kw_2_203, kw_2_202, kw_1_11, by decide +kernel, by decide +kernel, by decide +kernel⟩
theorem q_X2_ordersOfHeard : CalS yX2_ordersOfHeard cX2_ordersOfHeard 1 (some .long) 1 := ⟨kw_2_216, kw_2_215, kw_1_11, by decide +kernel, by decide +kernel, by decide +kernel⟩
theorem q_X1_inLeastTerms : CalS yX1_inLeastTerms cX1_inLeastTerms 7 (some .long) 3 := ⟨kw_2_219, kw_2_218, kw_1_12, by decide +kernel, by decide +kernel, by decide +kernel⟩
theorem q_X2_smallest : CalS yX2_smallest cX2_smallest 4 (some .int) 1 := ⟨kw_2_232, kw_2_231, kw_1_11, by decide +kernel, by decide +kernel, by decide +kernel⟩
theorem q_X2_leastOnes : CalS yX2_leastOnes cX2_leastOnes 4 (some .int) 1 := ⟨kw_2_238, kw_2_237, kw_1_11, by decide +kernel, by decide +kernel, by decide +kernel⟩
theorem q_X2_blocks : CalS yX2_blocks cX2_blocks 4 (some .int) 1 := ⟨kw_3_4, kw_3_3, kw_1_11, by decide +kernel, by decide +kernel, by decide +kernel⟩
theorem q_X2_turnedGroups : CalS yX2_turnedGroups cX2_turnedGroups 5 (some .int) 2 := ⟨kw_3_11, kw_3_10, kw_1_11, by decide +kernel, by decide +kernel, by decide +kernel⟩
theorem q_X8_twosInSight : CalV yX8_twosInSight cX8_twosInSight 4 (some .int) 0 := ⟨kw_3_85, kw_3_83, kw_3_84, kw_1_2, by decide +kernel, by decide +kernel, by decide +kernel⟩
theorem q_X8_loudest : CalV yX8_loudest cX8_loudest 4 (some .int) 0 := ⟨kw_3_89, kw_3_87, kw_3_88, kw_1_2, by decide +kernel, by decide +kernel, by decide +kernel⟩
theorem q_X9_toThePower : CalS yX9_toThePower cX9_toThePower 5 (some .long) 2 := ⟨kw_3_149, kw_3_148, kw_1_1, by decide +kernel, by decide +kernel, by decide +kernel⟩
theorem q_X8_onesAgainst : CalV yX8_onesAgainst cX8_onesAgainst 3 (some .int) 0 := ⟨kw_3_195, kw_3_193, kw_3_194, kw_1_2, by decide +kernel, by decide +kernel, by decide +kernel⟩
theorem q_X9_isSpan : CalS yX9_isSpan cX9_isSpan 1 (some .boolean) 1 := ⟨kw_2_159, kw_2_158, kw_1_1, by decide +kernel, by decide +kernel, by decide +kernel⟩
theorem q_X8_become : CalV yX8_become cX8_become 2 none 1 := ⟨kw_1_174, kw_1_172, kw_1_173, kw_1_2, by decide +kernel, by decide +kernel, by decide +kernel⟩
theorem q_X8_carriedDays : CalV yX8_carriedDays cX8_carriedDays 5 (some .int) 1 := ⟨kw_2_177, kw_2_175, kw_2_176, kw_1_2, by decide +kernel, by decide +kernel, by decide +kernel⟩
theorem q_X8_think : CalV yX8_think cX8_think 4 none 2 := ⟨kw_3_24, kw_3_22, kw_3_23, kw_1_2, by decide +kernel, by decide +kernel, by decide +kernel⟩
theorem q_X9_fewestOfMood : CalV yX9_fewestOfMood cX9_fewestOfMood 6 (some .int) 2 := ⟨kw_3_19, kw_3_18, kw_0_3, kw_1_1, by decide +kernel, by decide +kernel, by decide +kernel⟩
theorem q_X9_gainOf : CalV yX9_gainOf cX9_gainOf 6 (some .int) 4 := ⟨kw_3_141, kw_3_140, kw_0_9, kw_1_1, by decide +kernel, by decide +kernel, by decide +kernel⟩
theorem q_X9_isContent : CalV yX9_isContent cX9_isContent 5 (some .boolean) 4 := ⟨kw_3_137, kw_3_136, kw_0_8, kw_1_1, by decide +kernel, by decide +kernel, by decide +kernel⟩
theorem q_X8_scatter : CalV yX8_scatter cX8_scatter 4 (some .int) 1 := ⟨kw_3_169, kw_3_167, kw_3_168, kw_1_2, by decide +kernel, by decide +kernel, by decide +kernel⟩
theorem q_X9_refusalOf : CalV yX9_refusalOf cX9_refusalOf 3 (some .int) 2 := ⟨kw_1_164, kw_1_163, kw_0_0, kw_1_1, by decide +kernel, by decide +kernel, by decide +kernel⟩
theorem q_X4_isTold : CalS yX4_isTold cX4_isTold 3 (some .boolean) 2 := ⟨kw_3_96, kw_3_95, kw_1_13, by decide +kernel, by decide +kernel, by decide +kernel⟩
theorem q_X4_leastQuota : CalS yX4_leastQuota cX4_leastQuota 6 (some .int) 2 := ⟨kw_3_102, kw_3_101, kw_1_13, by decide +kernel, by decide +kernel, by decide +kernel⟩
theorem q_X4_greatestQuota : CalS yX4_greatestQuota cX4_greatestQuota 7 (some .int) 2 := ⟨kw_3_109, kw_3_108, kw_1_13, by decide +kernel, by decide +kernel, by decide +kernel⟩
theorem q_X7_isSkipped : CalV yX7_isSkipped cX7_isSkipped 2 (some .boolean) 1 := ⟨kw_3_122, kw_3_120, kw_3_121, kw_1_4, by decide +kernel, by decide +kernel, by decide +kernel⟩
theorem q_X9_feelsAsTold : CalV yX9_feelsAsTold cX9_feelsAsTold 4 (some .boolean) 2 := ⟨kw_3_118, kw_3_117, kw_0_6, kw_1_1, by decide +kernel, by decide +kernel, by decide +kernel⟩
theorem q_X7_takeKind : CalV yX7_takeKind cX7_takeKind 3 none 2 := ⟨kw_3_203, kw_3_201, kw_3_202, kw_1_4, by decide +kernel, by decide +kernel, by decide +kernel⟩
theorem q_X7_takeRow : CalV yX7_takeRow cX7_takeRow 4 none 2 := ⟨kw_3_211, kw_3_209, kw_3_210, kw_1_4, by decide +kernel, by decide +kernel, by decide +kernel⟩
theorem q_X7_set : CalV yX7_set cX7_set 3 none 2 := ⟨kw_3_220, kw_3_218, kw_3_219, kw_1_4, by decide +kernel, by decide +kernel, by decide +kernel⟩
theorem q_X3_priceOf : CalS yX3_priceOf cX3_priceOf 2 (some .int) 2 := ⟨kw_4_0, kw_3_239, kw_1_10, by decide +kernel, by decide +kernel, by decide +kernel⟩
theorem q_X7_hasPlaces : CalV yX7_hasPlaces cX7_hasPlaces 3 (some .boolean) 2 := ⟨kw_3_232, kw_3_230, kw_3_231, kw_1_4, by decide +kernel, by decide +kernel, by decide +kernel⟩
theorem q_X6_play : CalS yX6_play cX6_play 5 (some .int) 2 := ⟨kw_1_180, kw_1_179, kw_1_7, by decide +kernel, by decide +kernel, by decide +kernel⟩
theorem q_X5_weigh : CalV yX5_weigh cX5_weigh 4 none 1 := ⟨kw_3_57, kw_3_55, kw_3_56, kw_1_3, by decide +kernel, by decide +kernel, by decide +kernel⟩
theorem q_X5_railOf : CalV yX5_railOf cX5_railOf 5 (some .int) 1 := ⟨kw_3_73, kw_3_71, kw_3_72, kw_1_3, by decide +kernel, by decide +kernel, by decide +kernel⟩
theorem q_X5_mostWeight : CalV yX5_mostWeight cX5_mostWeight 1 (some .int) 0 := ⟨kw_3_69, kw_3_67, kw_3_68, kw_1_3, by decide +kernel, by decide +kernel, by decide +kernel⟩
theorem q_X10_isIn : CalS yX10_isIn cX10_isIn 3 (some .boolean) 3 := ⟨kw_4_202, kw_4_201, kw_1_5, by decide +kernel, by decide +kernel, by decide +kernel⟩
theorem q_X10_of : CalS yX10_of cX10_of 2 (some .int) 2 := ⟨kw_4_228, kw_4_227, kw_1_5, by decide +kernel, by decide +kernel, by decide +kernel⟩
theorem q_X10_heightOf : CalS yX10_heightOf cX10_heightOf 2 (some .int) 2 := ⟨kw_5_16, kw_5_15, kw_1_5, by decide +kernel, by decide +kernel, by decide +kernel⟩
theorem q_X10_weightBy : CalS yX10_weightBy cX10_weightBy 3 (some .int) 3 := ⟨kw_5_29, kw_5_28, kw_1_5, by decide +kernel, by decide +kernel, by decide +kernel⟩
theorem q_X10_has : CalS yX10_has cX10_has 2 (some .boolean) 2 := ⟨kw_5_7, kw_5_6, kw_1_5, by decide +kernel, by decide +kernel, by decide +kernel⟩
theorem q_X10_isHeard : CalS yX10_isHeard cX10_isHeard 2 (some .boolean) 2 := ⟨kw_5_4, kw_5_3, kw_1_5, by decide +kernel, by decide +kernel, by decide +kernel⟩
theorem q_X10_weight : CalS yX10_weight cX10_weight 2 (some .int) 2 := ⟨kw_5_26, kw_5_25, kw_1_5, by decide +kernel, by decide +kernel, by decide +kernel⟩
theorem q_X10_sideOf : CalS yX10_sideOf cX10_sideOf 2 (some .int) 2 := ⟨kw_5_13, kw_5_12, kw_1_5, by decide +kernel, by decide +kernel, by decide +kernel⟩
theorem q_X10_doesVeto : CalS yX10_doesVeto cX10_doesVeto 4 (some .boolean) 2 := ⟨kw_5_93, kw_5_92, kw_1_5, by decide +kernel, by decide +kernel, by decide +kernel⟩
theorem q_X10_moodSet : CalS yX10_moodSet cX10_moodSet 4 (some .int) 2 := ⟨kw_5_81, kw_5_80, kw_1_5, by decide +kernel, by decide +kernel, by decide +kernel⟩
theorem q_X10_isOnSide : CalS yX10_isOnSide cX10_isOnSide 4 (some .boolean) 3 := ⟨kw_5_84, kw_5_83, kw_1_5, by decide +kernel, by decide +kernel, by decide +kernel⟩
theorem q_X10_weightOf : CalS yX10_weightOf cX10_weightOf 4 (some .int) 2 := ⟨kw_5_87, kw_5_86, kw_1_5, by decide +kernel, by decide +kernel, by decide +kernel⟩
theorem q_X10_isVetoed : CalS yX10_isVetoed cX10_isVetoed 3 (some .boolean) 2 := ⟨kw_5_90, kw_5_89, kw_1_5, by decide +kernel, by decide +kernel, by decide +kernel⟩
theorem q_X10_heardIn : CalS yX10_heardIn cX10_heardIn 3 (some .int) 1 := ⟨kw_5_75, kw_5_74, kw_1_5, by decide +kernel, by decide +kernel, by decide +kernel⟩
theorem q_X10_whyBy : CalS yX10_whyBy cX10_whyBy 3 (some .int) 2 := ⟨kw_5_78, kw_5_77, kw_1_5, by decide +kernel, by decide +kernel, by decide +kernel⟩
theorem q_X10_swayBy : CalS yX10_swayBy cX10_swayBy 2 (some .int) 2 := ⟨kw_5_19, kw_5_18, kw_1_5, by decide +kernel, by decide +kernel, by decide +kernel⟩
theorem q_X10_doesSee : CalS yX10_doesSee cX10_doesSee 3 (some .boolean) 3 := ⟨kw_5_10, kw_5_9, kw_1_5, by decide +kernel, by decide +kernel, by decide +kernel⟩
theorem q_X10_looks : CalS yX10_looks cX10_looks 7 none 2 := ⟨kw_5_1, kw_5_0, kw_1_5, by decide +kernel, by decide +kernel, by decide +kernel⟩
theorem q_X10_day : CalS yX10_day cX10_day 2 none 1 := ⟨kw_4_238, kw_4_237, kw_1_5, by decide +kernel, by decide +kernel, by decide +kernel⟩
theorem q_X10_here : CalV yX10_here cX10_here 1 (some .int) 0 := ⟨kw_4_210, kw_4_209, kw_0_14, kw_1_5, by decide +kernel, by decide +kernel, by decide +kernel⟩
theorem q_X10_readsNumber : CalV yX10_readsNumber cX10_readsNumber 4 (some .boolean) 2 := ⟨kw_4_214, kw_4_213, kw_0_15, kw_1_5, by decide +kernel, by decide +kernel, by decide +kernel⟩
theorem q_X10_isSpeaker : CalV yX10_isSpeaker cX10_isSpeaker 2 (some .boolean) 1 := ⟨kw_4_232, kw_4_231, kw_0_18, kw_1_5, by decide +kernel, by decide +kernel, by decide +kernel⟩
theorem q_X10_adds : CalV yX10_adds cX10_adds 5 none 3 := ⟨kw_4_225, kw_4_224, kw_0_17, kw_1_5, by decide +kernel, by decide +kernel, by decide +kernel⟩
theorem q_X10_daysOn : CalS yX10_daysOn cX10_daysOn 3 none 2 := ⟨kw_4_235, kw_4_234, kw_1_5, by decide +kernel, by decide +kernel, by decide +kernel⟩
theorem q_X10_isShelf : CalS yX10_isShelf cX10_isShelf 1 (some .boolean) 1 := ⟨kw_4_199, kw_4_198, kw_1_5, by decide +kernel, by decide +kernel, by decide +kernel⟩
theorem q_X10_wrongRow : CalV yX10_wrongRow cX10_wrongRow 3 (some .int) 2 := ⟨kw_4_196, kw_4_195, kw_0_12, kw_1_5, by decide +kernel, by decide +kernel, by decide +kernel⟩
theorem q_X10_readsStatement : CalV yX10_readsStatement cX10_readsStatement 3 (some .boolean) 0 := ⟨kw_4_206, kw_4_205, kw_0_13, kw_1_5, by decide +kernel, by decide +kernel, by decide +kernel⟩
theorem q_X10_copies : CalS yX10_copies cX10_copies 3 none 2 := ⟨kw_4_217, kw_4_216, kw_1_5, by decide +kernel, by decide +kernel, by decide +kernel⟩
theorem q_X10_isDone : CalV yX10_isDone cX10_isDone 4 (some .boolean) 1 := ⟨kw_4_221, kw_4_220, kw_0_16, kw_1_5, by decide +kernel, by decide +kernel, by decide +kernel⟩
theorem q_X10_isRail : CalS yX10_isRail cX10_isRail 1 (some .boolean) 1 := ⟨kw_5_36, kw_5_35, kw_1_5, by decide +kernel, by decide +kernel, by decide +kernel⟩
theorem q_X10_wrongKept : CalV yX10_wrongKept cX10_wrongKept 2 (some .int) 1 := ⟨kw_5_44, kw_5_43, kw_0_19, kw_1_5, by decide +kernel, by decide +kernel, by decide +kernel⟩
theorem q_X10_doesCarry : CalS yX10_doesCarry cX10_doesCarry 1 (some .boolean) 1 := ⟨kw_5_72, kw_5_71, kw_1_5, by decide +kernel, by decide +kernel, by decide +kernel⟩
theorem q_X10_forIn : CalS yX10_forIn cX10_forIn 1 (some .int) 1 := ⟨kw_5_100, kw_5_99, kw_1_5, by decide +kernel, by decide +kernel, by decide +kernel⟩
theorem q_X10_isLate : CalS yX10_isLate cX10_isLate 1 (some .boolean) 1 := ⟨kw_5_107, kw_5_106, kw_1_5, by decide +kernel, by decide +kernel, by decide +kernel⟩
theorem q_X10_takes : CalV yX10_takes cX10_takes 2 none 1 := ⟨kw_5_111, kw_5_110, kw_0_20, kw_1_5, by decide +kernel, by decide +kernel, by decide +kernel⟩
theorem q_X10_holdsIn : CalV yX10_holdsIn cX10_holdsIn 4 (some .int) 1 := ⟨kw_5_131, kw_5_130, kw_0_22, kw_1_5, by decide +kernel, by decide +kernel, by decide +kernel⟩
theorem q_X10_holdsNow : CalV yX10_holdsNow cX10_holdsNow 2 (some .int) 1 := ⟨kw_5_127, kw_5_126, kw_0_21, kw_1_5, by decide +kernel, by decide +kernel, by decide +kernel⟩
theorem q_X10_isGroup : CalV yX10_isGroup cX10_isGroup 2 (some .boolean) 1 := ⟨kw_5_139, kw_5_138, kw_0_23, kw_1_5, by decide +kernel, by decide +kernel, by decide +kernel⟩
theorem q_X10_couldBy : CalV yX10_couldBy cX10_couldBy 4 (some .boolean) 2 := ⟨kw_5_143, kw_5_142, kw_0_24, kw_1_5, by decide +kernel, by decide +kernel, by decide +kernel⟩
theorem q_X10_gcd : CalS yX10_gcd cX10_gcd 10 (some .long) 2 := ⟨kw_5_168, kw_5_167, kw_1_5, by decide +kernel, by decide +kernel, by decide +kernel⟩
theorem q_X10_bits : CalS yX10_bits cX10_bits 3 (some .int) 1 := ⟨kw_5_151, kw_5_150, kw_1_5, by decide +kernel, by decide +kernel, by decide +kernel⟩
theorem q_X10_orders : CalS yX10_orders cX10_orders 4 (some .long) 1 := ⟨kw_5_162, kw_5_161, kw_1_5, by decide +kernel, by decide +kernel, by decide +kernel⟩
theorem q_X10_partOf : CalS yX10_partOf cX10_partOf 5 (some .long) 3 := ⟨kw_5_165, kw_5_164, kw_1_5, by decide +kernel, by decide +kernel, by decide +kernel⟩
theorem q_X10_isOfHeard : CalV yX10_isOfHeard cX10_isOfHeard 2 (some .boolean) 1 := ⟨kw_5_155, kw_5_154, kw_0_25, kw_1_5, by decide +kernel, by decide +kernel, by decide +kernel⟩
theorem q_X10_doesSwing : CalV yX10_doesSwing cX10_doesSwing 3 (some .boolean) 2 := ⟨kw_5_159, kw_5_158, kw_0_26, kw_1_5, by decide +kernel, by decide +kernel, by decide +kernel⟩
theorem q_X10_isLeast : CalV yX10_isLeast cX10_isLeast 3 (some .boolean) 1 := ⟨kw_5_184, kw_5_183, kw_0_29, kw_1_5, by decide +kernel, by decide +kernel, by decide +kernel⟩
theorem q_X10_blocks : CalV yX10_blocks cX10_blocks 4 (some .int) 0 := ⟨kw_5_188, kw_5_187, kw_0_30, kw_1_5, by decide +kernel, by decide +kernel, by decide +kernel⟩
theorem q_X10_leastOnes : CalV yX10_leastOnes cX10_leastOnes 3 (some .int) 0 := ⟨kw_5_180, kw_5_179, kw_0_28, kw_1_5, by decide +kernel, by decide +kernel, by decide +kernel⟩
theorem q_X10_smallest : CalV yX10_smallest cX10_smallest 3 (some .int) 0 := ⟨kw_5_176, kw_5_175, kw_0_27, kw_1_5, by decide +kernel, by decide +kernel, by decide +kernel⟩
theorem q_X10_doesCarryWith : CalV yX10_doesCarryWith cX10_doesCarryWith 4 (some .boolean) 2 := ⟨kw_5_200, kw_5_199, kw_0_31, kw_1_5, by decide +kernel, by decide +kernel, by decide +kernel⟩
theorem q_X10_weightAt : CalV yX10_weightAt cX10_weightAt 3 (some .int) 2 := ⟨kw_5_220, kw_5_219, kw_0_32, kw_1_5, by decide +kernel, by decide +kernel, by decide +kernel⟩
theorem q_X10_matches : CalV yX10_matches cX10_matches 6 none 0 := ⟨kw_5_232, kw_5_231, kw_0_33, kw_1_5, by decide +kernel, by decide +kernel, by decide +kernel⟩
theorem q_X10_railOf : CalV yX10_railOf cX10_railOf 5 (some .int) 2 := ⟨kw_5_236, kw_5_235, kw_0_34, kw_1_5, by decide +kernel, by decide +kernel, by decide +kernel⟩
theorem q_X10_isLawBy : CalV yX10_isLawBy cX10_isLawBy 4 (some .boolean) 2 := ⟨kw_6_8, kw_6_7, kw_0_35, kw_1_5, by decide +kernel, by decide +kernel, by decide +kernel⟩
theorem q_X10_leastOf : CalS yX10_leastOf cX10_leastOf 1 (some .int) 1 := ⟨kw_6_15, kw_6_14, kw_1_5, by decide +kernel, by decide +kernel, by decide +kernel⟩
theorem q_X10_hasBy : CalV yX10_hasBy cX10_hasBy 6 (some .int) 5 := ⟨kw_6_24, kw_6_23, kw_0_36, kw_1_5, by decide +kernel, by decide +kernel, by decide +kernel⟩
theorem q_X10_drawn : CalV yX10_drawn cX10_drawn 2 (some .int) 1 := ⟨kw_6_48, kw_6_47, kw_0_37, kw_1_5, by decide +kernel, by decide +kernel, by decide +kernel⟩
theorem q_X10_costBy : CalS yX10_costBy cX10_costBy 2 (some .int) 2 := ⟨kw_6_94, kw_6_93, kw_1_5, by decide +kernel, by decide +kernel, by decide +kernel⟩
