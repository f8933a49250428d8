theorem kw_1_168 : (Cond.methodLink RX9 118 yX9_isWithin) ∈ TG := tg (tb_1 (List.mem_of_getElem? (i := 168) rfl)) rfl
theorem kw_3_173 : (Cond.constant RX0 7 (1103515245)) ∈ TG := tg (tb_3 (List.mem_of_getElem? (i := 173) rfl)) rfl
theorem kw_3_177 : (Cond.constant RX0 8 (2147483647)) ∈ TG := tg (tb_3 (List.mem_of_getElem? (i := 177) rfl)) rfl
theorem kw_3_178 : (Cond.constant RX0 9 (65536)) ∈ TG := tg (tb_3 (List.mem_of_getElem? (i := 178) rfl)) rfl
theorem kw_4_1 : (Cond.methodLink RX3 9 yX3_widowPrice) ∈ TG := tg (tb_4 (List.mem_of_getElem? (i := 1) rfl)) rfl
theorem kw_2_34 : (Cond.constant RJ6 265 (1431655765)) ∈ TG := tg (tb_2 (List.mem_of_getElem? (i := 34) rfl)) rfl
theorem kw_2_35 : (Cond.constant RJ6 266 (858993459)) ∈ TG := tg (tb_2 (List.mem_of_getElem? (i := 35) rfl)) rfl
theorem kw_2_36 : (Cond.constant RJ6 267 (252645135)) ∈ TG := tg (tb_2 (List.mem_of_getElem? (i := 36) rfl)) rfl
theorem kw_2_220 : (Cond.methodLink RX1 7 yJ9_abs_067f4) ∈ TG := tg (tb_2 (List.mem_of_getElem? (i := 220) rfl)) rfl
theorem kw_2_221 : (Cond.static yJ9_abs_067f4) ∈ TG := tg (tb_2 (List.mem_of_getElem? (i := 221) rfl)) rfl
theorem kw_1_8 : (Cond.initialized RJ9) ∈ TG := tg (tb_1 (List.mem_of_getElem? (i := 8) rfl)) rfl
theorem kw_2_222 : (Cond.code yJ9_abs_067f4 cJ9_abs_067f4 2 (some .long)) ∈ TG := tg (tb_2 (List.mem_of_getElem? (i := 222) rfl)) rfl
theorem kw_2_223 : (Cond.methodLink RX1 13 yX1_commonDivisor) ∈ TG := tg (tb_2 (List.mem_of_getElem? (i := 223) rfl)) rfl
theorem kw_2_205 : (Cond.methodLink RX2 35 yJ6_bitCount_0f7a4) ∈ TG := tg (tb_2 (List.mem_of_getElem? (i := 205) rfl)) rfl
theorem kw_1_53 : (Cond.fieldLink RX8 43 "BalconiesParliament$Street" "people" "I") ∈ TG := tg (tb_1 (List.mem_of_getElem? (i := 53) rfl)) rfl
theorem kw_1_60 : (Cond.fieldLink RX8 46 "BalconiesParliament$Street" "day" "I") ∈ TG := tg (tb_1 (List.mem_of_getElem? (i := 60) rfl)) rfl
theorem kw_1_50 : (Cond.fieldLink RX8 40 "BalconiesParliament$Street" "shut" "I") ∈ TG := tg (tb_1 (List.mem_of_getElem? (i := 50) rfl)) rfl
theorem kw_1_43 : (Cond.fieldLink RX8 21 "BalconiesParliament$Street" "rail" "[I") ∈ TG := tg (tb_1 (List.mem_of_getElem? (i := 43) rfl)) rfl
theorem kw_1_39 : (Cond.fieldLink RX8 15 "BalconiesParliament$Street" "kind" "[I") ∈ TG := tg (tb_1 (List.mem_of_getElem? (i := 39) rfl)) rfl
theorem kw_1_41 : (Cond.fieldLink RX8 18 "BalconiesParliament$Street" "figure" "[I") ∈ TG := tg (tb_1 (List.mem_of_getElem? (i := 41) rfl)) rfl
theorem kw_1_35 : (Cond.fieldLink RX8 9 "BalconiesParliament$Street" "height" "[I") ∈ TG := tg (tb_1 (List.mem_of_getElem? (i := 35) rfl)) rfl
theorem kw_2_55 : (Cond.methodLink RX8 57 yX3_weightOf) ∈ TG := tg (tb_2 (List.mem_of_getElem? (i := 55) rfl)) rfl
theorem kw_2_9 : (Cond.methodLink RX8 63 yX8_isHeard) ∈ TG := tg (tb_2 (List.mem_of_getElem? (i := 9) rfl)) rfl
theorem kw_1_45 : (Cond.fieldLink RX8 24 "BalconiesParliament$Street" "mood" "[I") ∈ TG := tg (tb_1 (List.mem_of_getElem? (i := 45) rfl)) rfl
theorem kw_2_134 : (Cond.methodLink RX8 67 yX8_weightOf) ∈ TG := tg (tb_2 (List.mem_of_getElem? (i := 134) rfl)) rfl
theorem kw_2_122 : (Cond.methodLink RX8 70 yX8_onesFor) ∈ TG := tg (tb_2 (List.mem_of_getElem? (i := 122) rfl)) rfl
theorem kw_2_130 : (Cond.methodLink RX8 74 yX8_weightOfAll) ∈ TG := tg (tb_2 (List.mem_of_getElem? (i := 130) rfl)) rfl
theorem kw_2_139 : (Cond.methodLink RX8 83 yX3_isVeto) ∈ TG := tg (tb_2 (List.mem_of_getElem? (i := 139) rfl)) rfl
theorem kw_2_126 : (Cond.methodLink RX8 77 yX8_sidesOf) ∈ TG := tg (tb_2 (List.mem_of_getElem? (i := 126) rfl)) rfl
theorem kw_1_56 : (Cond.fieldLink RX8 30 "BalconiesParliament$Street" "needed" "I") ∈ TG := tg (tb_1 (List.mem_of_getElem? (i := 56) rfl)) rfl
theorem kw_2_135 : (Cond.methodLink RX8 80 yX8_isVetoed) ∈ TG := tg (tb_2 (List.mem_of_getElem? (i := 135) rfl)) rfl
theorem kw_2_114 : (Cond.methodLink RX8 86 yX8_heardOnes) ∈ TG := tg (tb_2 (List.mem_of_getElem? (i := 114) rfl)) rfl
theorem kw_2_118 : (Cond.methodLink RX8 89 yX8_whyNot) ∈ TG := tg (tb_2 (List.mem_of_getElem? (i := 118) rfl)) rfl
theorem kw_2_20 : (Cond.methodLink RX8 92 yJ9_abs_0f7a4) ∈ TG := tg (tb_2 (List.mem_of_getElem? (i := 20) rfl)) rfl
theorem kw_2_21 : (Cond.static yJ9_abs_0f7a4) ∈ TG := tg (tb_2 (List.mem_of_getElem? (i := 21) rfl)) rfl
theorem kw_2_22 : (Cond.code yJ9_abs_0f7a4 cJ9_abs_0f7a4 1 (some .int)) ∈ TG := tg (tb_2 (List.mem_of_getElem? (i := 22) rfl)) rfl
theorem kw_2_16 : (Cond.methodLink RX8 97 yX8_isInSight) ∈ TG := tg (tb_2 (List.mem_of_getElem? (i := 16) rfl)) rfl
theorem kw_1_48 : (Cond.fieldLink RX8 27 "BalconiesParliament$Street" "sight" "[I") ∈ TG := tg (tb_1 (List.mem_of_getElem? (i := 48) rfl)) rfl
theorem kw_2_31 : (Cond.methodLink RX8 107 yJ6_bitCount_0f7a4) ∈ TG := tg (tb_2 (List.mem_of_getElem? (i := 31) rfl)) rfl
theorem kw_2_37 : (Cond.methodLink RX8 112 yX3_swayOf) ∈ TG := tg (tb_2 (List.mem_of_getElem? (i := 37) rfl)) rfl
theorem kw_2_40 : (Cond.methodLink RX8 116 yJ9_min_7cf53) ∈ TG := tg (tb_2 (List.mem_of_getElem? (i := 40) rfl)) rfl
theorem kw_2_41 : (Cond.static yJ9_min_7cf53) ∈ TG := tg (tb_2 (List.mem_of_getElem? (i := 41) rfl)) rfl
theorem kw_2_42 : (Cond.code yJ9_min_7cf53 cJ9_min_7cf53 2 (some .int)) ∈ TG := tg (tb_2 (List.mem_of_getElem? (i := 42) rfl)) rfl
theorem kw_2_43 : (Cond.methodLink RX8 119 yJ9_max_7cf53) ∈ TG := tg (tb_2 (List.mem_of_getElem? (i := 43) rfl)) rfl
theorem kw_2_44 : (Cond.static yJ9_max_7cf53) ∈ TG := tg (tb_2 (List.mem_of_getElem? (i := 44) rfl)) rfl
theorem kw_2_45 : (Cond.code yJ9_max_7cf53 cJ9_max_7cf53 2 (some .int)) ∈ TG := tg (tb_2 (List.mem_of_getElem? (i := 45) rfl)) rfl
theorem kw_1_175 : (Cond.methodLink RX8 34 ⟨"java/lang/System", "arraycopy", "(Ljava/lang/Object;ILjava/lang/Object;II)V"⟩) ∈ TG := tg (tb_1 (List.mem_of_getElem? (i := 175) rfl)) rfl
theorem kw_1_177 : (Cond.native arraycopyName) ∈ TG := tg (tb_1 (List.mem_of_getElem? (i := 177) rfl)) rfl
theorem kw_1_176 : (Cond.static ⟨"java/lang/System", "arraycopy", "(Ljava/lang/Object;ILjava/lang/Object;II)V"⟩) ∈ TG := tg (tb_1 (List.mem_of_getElem? (i := 176) rfl)) rfl
theorem kw_1_6 : (Cond.initialized RJ10) ∈ TG := tg (tb_1 (List.mem_of_getElem? (i := 6) rfl)) rfl
theorem kw_1_216 : (Cond.methodLink RX8 49 yX8_hasRoom) ∈ TG := tg (tb_1 (List.mem_of_getElem? (i := 216) rfl)) rfl
theorem kw_1_49 : (Cond.fieldLink RX8 100 "BalconiesParliament$Street" "moving" "Z") ∈ TG := tg (tb_1 (List.mem_of_getElem? (i := 49) rfl)) rfl
theorem kw_2_27 : (Cond.methodLink RX8 104 yX8_moodBehindLook) ∈ TG := tg (tb_2 (List.mem_of_getElem? (i := 27) rfl)) rfl
theorem kw_2_5 : (Cond.methodLink RX8 122 yX8_startDays) ∈ TG := tg (tb_2 (List.mem_of_getElem? (i := 5) rfl)) rfl
theorem kw_2_23 : (Cond.methodLink RX8 125 yX8_nextDay) ∈ TG := tg (tb_2 (List.mem_of_getElem? (i := 23) rfl)) rfl
theorem kw_2_178 : (Cond.methodLink RX8 128 yX8_isCarried) ∈ TG := tg (tb_2 (List.mem_of_getElem? (i := 178) rfl)) rfl
theorem kw_3_170 : (Cond.methodLink RX8 135 yX0_next) ∈ TG := tg (tb_3 (List.mem_of_getElem? (i := 170) rfl)) rfl
theorem kw_3_174 : (Cond.methodLink RX8 140 yX0_below) ∈ TG := tg (tb_3 (List.mem_of_getElem? (i := 174) rfl)) rfl
theorem kw_1_123 : (Cond.fieldLink RX7 28 "BalconiesParliament$Shelf" "size" "I") ∈ TG := tg (tb_1 (List.mem_of_getElem? (i := 123) rfl)) rfl
theorem kw_1_188 : (Cond.methodLink RX7 31 yX7_hasPlace) ∈ TG := tg (tb_1 (List.mem_of_getElem? (i := 188) rfl)) rfl
theorem kw_1_111 : (Cond.fieldLink RX7 9 "BalconiesParliament$Shelf" "elements" "[I") ∈ TG := tg (tb_1 (List.mem_of_getElem? (i := 111) rfl)) rfl
theorem kw_1_120 : (Cond.fieldLink RX7 25 "BalconiesParliament$Shelf" "sort" "I") ∈ TG := tg (tb_1 (List.mem_of_getElem? (i := 120) rfl)) rfl
theorem kw_3_128 : (Cond.constant RX7 46 (-2147483648)) ∈ TG := tg (tb_3 (List.mem_of_getElem? (i := 128) rfl)) rfl
theorem kw_3_123 : (Cond.methodLink RX7 39 yX7_at) ∈ TG := tg (tb_3 (List.mem_of_getElem? (i := 123) rfl)) rfl
theorem kw_3_124 : (Cond.methodLink RX7 42 yX7_leastOfSort) ∈ TG := tg (tb_3 (List.mem_of_getElem? (i := 124) rfl)) rfl
theorem kw_1_113 : (Cond.fieldLink RX7 15 "BalconiesParliament$Shelf" "holds" "I") ∈ TG := tg (tb_1 (List.mem_of_getElem? (i := 113) rfl)) rfl
theorem kw_1_115 : (Cond.fieldLink RX7 19 "BalconiesParliament$Shelf" "kind" "I") ∈ TG := tg (tb_1 (List.mem_of_getElem? (i := 115) rfl)) rfl
theorem kw_1_117 : (Cond.fieldLink RX7 22 "BalconiesParliament$Shelf" "figure" "I") ∈ TG := tg (tb_1 (List.mem_of_getElem? (i := 117) rfl)) rfl
theorem kw_3_221 : (Cond.methodLink RX7 35 yX7_lowestBits) ∈ TG := tg (tb_3 (List.mem_of_getElem? (i := 221) rfl)) rfl
theorem kw_2_194 : (Cond.methodLink RX2 25 yX8_sidesOf) ∈ TG := tg (tb_2 (List.mem_of_getElem? (i := 194) rfl)) rfl
theorem kw_2_191 : (Cond.methodLink RX2 9 yX2_isCrossing) ∈ TG := tg (tb_2 (List.mem_of_getElem? (i := 191) rfl)) rfl
theorem kw_2_195 : (Cond.methodLink RX2 15 yX8_weightOfAll) ∈ TG := tg (tb_2 (List.mem_of_getElem? (i := 195) rfl)) rfl
theorem kw_1_57 : (Cond.fieldLink RX2 21 "BalconiesParliament$Street" "needed" "I") ∈ TG := tg (tb_1 (List.mem_of_getElem? (i := 57) rfl)) rfl
theorem kw_2_210 : (Cond.methodLink RX2 32 yX2_isEnough) ∈ TG := tg (tb_2 (List.mem_of_getElem? (i := 210) rfl)) rfl
theorem kw_2_204 : (Cond.methodLink RX2 40 yX8_heardOnes) ∈ TG := tg (tb_2 (List.mem_of_getElem? (i := 204) rfl)) rfl
theorem kw_2_233 : (Cond.methodLink RX2 44 yX2_isFewer) ∈ TG := tg (tb_2 (List.mem_of_getElem? (i := 233) rfl)) rfl
theorem kw_1_55 : (Cond.fieldLink RX2 50 "BalconiesParliament$Street" "people" "I") ∈ TG := tg (tb_1 (List.mem_of_getElem? (i := 55) rfl)) rfl
theorem kw_2_239 : (Cond.methodLink RX2 47 yX2_isLeast) ∈ TG := tg (tb_2 (List.mem_of_getElem? (i := 239) rfl)) rfl
theorem kw_2_206 : (Cond.methodLink RX2 53 yX2_isTurnedBy) ∈ TG := tg (tb_2 (List.mem_of_getElem? (i := 206) rfl)) rfl
theorem kw_2_211 : (Cond.methodLink RX2 57 yX2_ordersOf) ∈ TG := tg (tb_2 (List.mem_of_getElem? (i := 211) rfl)) rfl
theorem kw_1_121 : (Cond.fieldLink RX4 9 "BalconiesParliament$Shelf" "size" "I") ∈ TG := tg (tb_1 (List.mem_of_getElem? (i := 121) rfl)) rfl
theorem kw_3_97 : (Cond.methodLink RX4 15 yX7_at) ∈ TG := tg (tb_3 (List.mem_of_getElem? (i := 97) rfl)) rfl
theorem kw_3_98 : (Cond.methodLink RX4 19 yX8_areThere) ∈ TG := tg (tb_3 (List.mem_of_getElem? (i := 98) rfl)) rfl
theorem kw_3_103 : (Cond.methodLink RX4 29 yX8_heardOnes) ∈ TG := tg (tb_3 (List.mem_of_getElem? (i := 103) rfl)) rfl
theorem kw_3_104 : (Cond.methodLink RX4 33 yX2_isCrossing) ∈ TG := tg (tb_3 (List.mem_of_getElem? (i := 104) rfl)) rfl
theorem kw_3_105 : (Cond.methodLink RX4 39 yX8_weightOfAll) ∈ TG := tg (tb_3 (List.mem_of_getElem? (i := 105) rfl)) rfl
theorem kw_3_106 : (Cond.methodLink RX4 42 yJ9_max_7cf53) ∈ TG := tg (tb_3 (List.mem_of_getElem? (i := 106) rfl)) rfl
theorem kw_3_110 : (Cond.methodLink RX4 48 yJ9_min_7cf53) ∈ TG := tg (tb_3 (List.mem_of_getElem? (i := 110) rfl)) rfl
theorem kw_1_38 : (Cond.fieldLink RX6 61 "BalconiesParliament$Street" "height" "[I") ∈ TG := tg (tb_1 (List.mem_of_getElem? (i := 38) rfl)) rfl
theorem kw_1_208 : (Cond.methodLink RX6 67 yX8_hasRoom) ∈ TG := tg (tb_1 (List.mem_of_getElem? (i := 208) rfl)) rfl
theorem kw_1_212 : (Cond.methodLink RX6 71 yX8_admit) ∈ TG := tg (tb_1 (List.mem_of_getElem? (i := 212) rfl)) rfl
theorem kw_1_220 : (Cond.methodLink RX6 75 yX8_isThere) ∈ TG := tg (tb_1 (List.mem_of_getElem? (i := 220) rfl)) rfl
theorem kw_1_47 : (Cond.fieldLink RX6 78 "BalconiesParliament$Street" "mood" "[I") ∈ TG := tg (tb_1 (List.mem_of_getElem? (i := 47) rfl)) rfl
theorem kw_1_227 : (Cond.methodLink RX6 81 yX8_turnShutter) ∈ TG := tg (tb_1 (List.mem_of_getElem? (i := 227) rfl)) rfl
theorem kw_1_58 : (Cond.fieldLink RX6 85 "BalconiesParliament$Street" "needed" "I") ∈ TG := tg (tb_1 (List.mem_of_getElem? (i := 58) rfl)) rfl
theorem kw_1_237 : (Cond.methodLink RX6 88 yX8_hasDaysLeft) ∈ TG := tg (tb_1 (List.mem_of_getElem? (i := 237) rfl)) rfl
theorem kw_2_1 : (Cond.methodLink RX6 91 yX8_live) ∈ TG := tg (tb_2 (List.mem_of_getElem? (i := 1) rfl)) rfl
theorem kw_1_184 : (Cond.methodLink RX6 25 yX7_at) ∈ TG := tg (tb_1 (List.mem_of_getElem? (i := 184) rfl)) rfl
theorem kw_1_217 : (Cond.methodLink RX6 44 yX6_tryMood) ∈ TG := tg (tb_1 (List.mem_of_getElem? (i := 217) rfl)) rfl
theorem kw_1_199 : (Cond.methodLink RX6 36 yX6_tryHeight) ∈ TG := tg (tb_1 (List.mem_of_getElem? (i := 199) rfl)) rfl
theorem kw_1_224 : (Cond.methodLink RX6 47 yX6_tryShutter) ∈ TG := tg (tb_1 (List.mem_of_getElem? (i := 224) rfl)) rfl
theorem kw_1_231 : (Cond.methodLink RX6 51 yX6_tryQuota) ∈ TG := tg (tb_1 (List.mem_of_getElem? (i := 231) rfl)) rfl
theorem kw_1_205 : (Cond.methodLink RX6 40 yX6_tryToAdmit) ∈ TG := tg (tb_1 (List.mem_of_getElem? (i := 205) rfl)) rfl
theorem kw_1_234 : (Cond.methodLink RX6 54 yX6_tryDays) ∈ TG := tg (tb_1 (List.mem_of_getElem? (i := 234) rfl)) rfl
theorem kw_1_122 : (Cond.fieldLink RX6 15 "BalconiesParliament$Shelf" "size" "I") ∈ TG := tg (tb_1 (List.mem_of_getElem? (i := 122) rfl)) rfl
theorem kw_1_192 : (Cond.methodLink RX6 29 yX6_digitsBehind) ∈ TG := tg (tb_1 (List.mem_of_getElem? (i := 192) rfl)) rfl
theorem kw_1_181 : (Cond.methodLink RX6 9 yX6_placeOfUnfitByte) ∈ TG := tg (tb_1 (List.mem_of_getElem? (i := 181) rfl)) rfl
theorem kw_1_196 : (Cond.methodLink RX6 21 yX6_tryStatement) ∈ TG := tg (tb_1 (List.mem_of_getElem? (i := 196) rfl)) rfl
theorem kw_1_170 : (Cond.code yX9_isWithin cX9_isWithin 3 (some .boolean)) ∈ TG := tg (tb_1 (List.mem_of_getElem? (i := 170) rfl)) rfl
theorem kw_1_169 : (Cond.static yX9_isWithin) ∈ TG := tg (tb_1 (List.mem_of_getElem? (i := 169) rfl)) rfl
theorem kw_1_1 : (Cond.initialized RX9) ∈ TG := tg (tb_1 (List.mem_of_getElem? (i := 1) rfl)) rfl
theorem kw_4_3 : (Cond.code yX3_widowPrice cX3_widowPrice 1 (some .int)) ∈ TG := tg (tb_4 (List.mem_of_getElem? (i := 3) rfl)) rfl
theorem kw_4_2 : (Cond.static yX3_widowPrice) ∈ TG := tg (tb_4 (List.mem_of_getElem? (i := 2) rfl)) rfl
theorem kw_1_10 : (Cond.initialized RX3) ∈ TG := tg (tb_1 (List.mem_of_getElem? (i := 10) rfl)) rfl
theorem kw_2_225 : (Cond.code yX1_commonDivisor cX1_commonDivisor 11 (some .long)) ∈ TG := tg (tb_2 (List.mem_of_getElem? (i := 225) rfl)) rfl
theorem kw_2_224 : (Cond.static yX1_commonDivisor) ∈ TG := tg (tb_2 (List.mem_of_getElem? (i := 224) rfl)) rfl
theorem kw_1_12 : (Cond.initialized RX1) ∈ TG := tg (tb_1 (List.mem_of_getElem? (i := 12) rfl)) rfl
theorem kw_2_33 : (Cond.code yJ6_bitCount_0f7a4 cJ6_bitCount_0f7a4 1 (some .int)) ∈ TG := tg (tb_2 (List.mem_of_getElem? (i := 33) rfl)) rfl
theorem kw_2_32 : (Cond.static yJ6_bitCount_0f7a4) ∈ TG := tg (tb_2 (List.mem_of_getElem? (i := 32) rfl)) rfl
theorem kw_1_9 : (Cond.initialized RJ6) ∈ TG := tg (tb_1 (List.mem_of_getElem? (i := 9) rfl)) rfl
theorem kw_2_15 : (Cond.code yX9_isIn cX9_isIn 2 (some .boolean)) ∈ TG := tg (tb_2 (List.mem_of_getElem? (i := 15) rfl)) rfl
theorem kw_2_14 : (Cond.static yX9_isIn) ∈ TG := tg (tb_2 (List.mem_of_getElem? (i := 14) rfl)) rfl
theorem kw_2_57 : (Cond.code yX3_weightOf cX3_weightOf 3 (some .int)) ∈ TG := tg (tb_2 (List.mem_of_getElem? (i := 57) rfl)) rfl
theorem kw_2_56 : (Cond.static yX3_weightOf) ∈ TG := tg (tb_2 (List.mem_of_getElem? (i := 56) rfl)) rfl
theorem kw_2_12 : (Cond.code yX8_isHeard cX8_isHeard 2 (some .boolean)) ∈ TG := tg (tb_2 (List.mem_of_getElem? (i := 12) rfl)) rfl
theorem kw_2_10 : (Cond.instanceMethod yX8_isHeard) ∈ TG := tg (tb_2 (List.mem_of_getElem? (i := 10) rfl)) rfl
theorem kw_2_11 : (Cond.selects RX8 yX8_isHeard yX8_isHeard) ∈ TG := tg (tb_2 (List.mem_of_getElem? (i := 11) rfl)) rfl
theorem kw_1_2 : (Cond.initialized RX8) ∈ TG := tg (tb_1 (List.mem_of_getElem? (i := 2) rfl)) rfl
theorem kw_2_54 : (Cond.code yX8_weightOf cX8_weightOf 2 (some .int)) ∈ TG := tg (tb_2 (List.mem_of_getElem? (i := 54) rfl)) rfl
theorem kw_2_52 : (Cond.instanceMethod yX8_weightOf) ∈ TG := tg (tb_2 (List.mem_of_getElem? (i := 52) rfl)) rfl
theorem kw_2_53 : (Cond.selects RX8 yX8_weightOf yX8_weightOf) ∈ TG := tg (tb_2 (List.mem_of_getElem? (i := 53) rfl)) rfl
theorem kw_2_125 : (Cond.code yX8_onesFor cX8_onesFor 3 (some .int)) ∈ TG := tg (tb_2 (List.mem_of_getElem? (i := 125) rfl)) rfl
theorem kw_2_123 : (Cond.instanceMethod yX8_onesFor) ∈ TG := tg (tb_2 (List.mem_of_getElem? (i := 123) rfl)) rfl
theorem kw_2_124 : (Cond.selects RX8 yX8_onesFor yX8_onesFor) ∈ TG := tg (tb_2 (List.mem_of_getElem? (i := 124) rfl)) rfl
theorem kw_2_133 : (Cond.code yX8_weightOfAll cX8_weightOfAll 4 (some .int)) ∈ TG := tg (tb_2 (List.mem_of_getElem? (i := 133) rfl)) rfl
theorem kw_2_131 : (Cond.instanceMethod yX8_weightOfAll) ∈ TG := tg (tb_2 (List.mem_of_getElem? (i := 131) rfl)) rfl
theorem kw_2_132 : (Cond.selects RX8 yX8_weightOfAll yX8_weightOfAll) ∈ TG := tg (tb_2 (List.mem_of_getElem? (i := 132) rfl)) rfl
theorem kw_2_141 : (Cond.code yX3_isVeto cX3_isVeto 2 (some .boolean)) ∈ TG := tg (tb_2 (List.mem_of_getElem? (i := 141) rfl)) rfl
theorem kw_2_140 : (Cond.static yX3_isVeto) ∈ TG := tg (tb_2 (List.mem_of_getElem? (i := 140) rfl)) rfl
theorem kw_2_129 : (Cond.code yX8_sidesOf cX8_sidesOf 4 (some .int)) ∈ TG := tg (tb_2 (List.mem_of_getElem? (i := 129) rfl)) rfl
theorem kw_2_127 : (Cond.instanceMethod yX8_sidesOf) ∈ TG := tg (tb_2 (List.mem_of_getElem? (i := 127) rfl)) rfl
theorem kw_2_128 : (Cond.selects RX8 yX8_sidesOf yX8_sidesOf) ∈ TG := tg (tb_2 (List.mem_of_getElem? (i := 128) rfl)) rfl
theorem kw_2_138 : (Cond.code yX8_isVetoed cX8_isVetoed 3 (some .boolean)) ∈ TG := tg (tb_2 (List.mem_of_getElem? (i := 138) rfl)) rfl
theorem kw_2_137 : (Cond.instanceMethod yX8_isVetoed) ∈ TG := tg (tb_2 (List.mem_of_getElem? (i := 137) rfl)) rfl
theorem kw_0_2 : (Cond.selects RX8 yX8_isVetoed yX8_isVetoed) ∈ TG := tg (tb_0 (List.mem_of_getElem? (i := 2) rfl)) rfl
theorem kw_2_117 : (Cond.code yX8_heardOnes cX8_heardOnes 3 (some .int)) ∈ TG := tg (tb_2 (List.mem_of_getElem? (i := 117) rfl)) rfl
theorem kw_2_115 : (Cond.instanceMethod yX8_heardOnes) ∈ TG := tg (tb_2 (List.mem_of_getElem? (i := 115) rfl)) rfl
theorem kw_2_116 : (Cond.selects RX8 yX8_heardOnes yX8_heardOnes) ∈ TG := tg (tb_2 (List.mem_of_getElem? (i := 116) rfl)) rfl
theorem kw_2_121 : (Cond.code yX8_whyNot cX8_whyNot 4 (some .int)) ∈ TG := tg (tb_2 (List.mem_of_getElem? (i := 121) rfl)) rfl
theorem kw_2_119 : (Cond.instanceMethod yX8_whyNot) ∈ TG := tg (tb_2 (List.mem_of_getElem? (i := 119) rfl)) rfl
theorem kw_2_120 : (Cond.selects RX8 yX8_whyNot yX8_whyNot) ∈ TG := tg (tb_2 (List.mem_of_getElem? (i := 120) rfl)) rfl
theorem kw_2_19 : (Cond.code yX8_isInSight cX8_isInSight 4 (some .boolean)) ∈ TG := tg (tb_2 (List.mem_of_getElem? (i := 19) rfl)) rfl
theorem kw_2_17 : (Cond.instanceMethod yX8_isInSight) ∈ TG := tg (tb_2 (List.mem_of_getElem? (i := 17) rfl)) rfl
theorem kw_2_18 : (Cond.selects RX8 yX8_isInSight yX8_isInSight) ∈ TG := tg (tb_2 (List.mem_of_getElem? (i := 18) rfl)) rfl
theorem kw_2_39 : (Cond.code yX3_swayOf cX3_swayOf 2 (some .int)) ∈ TG := tg (tb_2 (List.mem_of_getElem? (i := 39) rfl)) rfl
theorem kw_2_38 : (Cond.static yX3_swayOf) ∈ TG := tg (tb_2 (List.mem_of_getElem? (i := 38) rfl)) rfl
theorem kw_1_211 : (Cond.code yX8_hasRoom cX8_hasRoom 1 (some .boolean)) ∈ TG := tg (tb_1 (List.mem_of_getElem? (i := 211) rfl)) rfl
theorem kw_1_209 : (Cond.instanceMethod yX8_hasRoom) ∈ TG := tg (tb_1 (List.mem_of_getElem? (i := 209) rfl)) rfl
theorem kw_1_210 : (Cond.selects RX8 yX8_hasRoom yX8_hasRoom) ∈ TG := tg (tb_1 (List.mem_of_getElem? (i := 210) rfl)) rfl
theorem kw_2_30 : (Cond.code yX8_moodBehindLook cX8_moodBehindLook 5 (some .int)) ∈ TG := tg (tb_2 (List.mem_of_getElem? (i := 30) rfl)) rfl
theorem kw_2_29 : (Cond.instanceMethod yX8_moodBehindLook) ∈ TG := tg (tb_2 (List.mem_of_getElem? (i := 29) rfl)) rfl
theorem kw_0_1 : (Cond.selects RX8 yX8_moodBehindLook yX8_moodBehindLook) ∈ TG := tg (tb_0 (List.mem_of_getElem? (i := 1) rfl)) rfl
theorem kw_2_8 : (Cond.code yX8_startDays cX8_startDays 3 none) ∈ TG := tg (tb_2 (List.mem_of_getElem? (i := 8) rfl)) rfl
theorem kw_2_6 : (Cond.instanceMethod yX8_startDays) ∈ TG := tg (tb_2 (List.mem_of_getElem? (i := 6) rfl)) rfl
theorem kw_2_7 : (Cond.selects RX8 yX8_startDays yX8_startDays) ∈ TG := tg (tb_2 (List.mem_of_getElem? (i := 7) rfl)) rfl
theorem kw_2_26 : (Cond.code yX8_nextDay cX8_nextDay 3 (some .boolean)) ∈ TG := tg (tb_2 (List.mem_of_getElem? (i := 26) rfl)) rfl
theorem kw_2_24 : (Cond.instanceMethod yX8_nextDay) ∈ TG := tg (tb_2 (List.mem_of_getElem? (i := 24) rfl)) rfl
theorem kw_2_25 : (Cond.selects RX8 yX8_nextDay yX8_nextDay) ∈ TG := tg (tb_2 (List.mem_of_getElem? (i := 25) rfl)) rfl
theorem kw_2_113 : (Cond.code yX8_isCarried cX8_isCarried 1 (some .boolean)) ∈ TG := tg (tb_2 (List.mem_of_getElem? (i := 113) rfl)) rfl
theorem kw_2_111 : (Cond.instanceMethod yX8_isCarried) ∈ TG := tg (tb_2 (List.mem_of_getElem? (i := 111) rfl)) rfl
theorem kw_2_112 : (Cond.selects RX8 yX8_isCarried yX8_isCarried) ∈ TG := tg (tb_2 (List.mem_of_getElem? (i := 112) rfl)) rfl
theorem kw_2_61 : (Cond.code yX9_oneIf cX9_oneIf 1 (some .int)) ∈ TG := tg (tb_2 (List.mem_of_getElem? (i := 61) rfl)) rfl
theorem kw_2_60 : (Cond.static yX9_oneIf) ∈ TG := tg (tb_2 (List.mem_of_getElem? (i := 60) rfl)) rfl
theorem kw_3_172 : (Cond.code yX0_next cX0_next 1 (some .int)) ∈ TG := tg (tb_3 (List.mem_of_getElem? (i := 172) rfl)) rfl
theorem kw_3_171 : (Cond.static yX0_next) ∈ TG := tg (tb_3 (List.mem_of_getElem? (i := 171) rfl)) rfl
theorem kw_1_14 : (Cond.initialized RX0) ∈ TG := tg (tb_1 (List.mem_of_getElem? (i := 14) rfl)) rfl
theorem kw_3_176 : (Cond.code yX0_below cX0_below 2 (some .int)) ∈ TG := tg (tb_3 (List.mem_of_getElem? (i := 176) rfl)) rfl
theorem kw_3_175 : (Cond.static yX0_below) ∈ TG := tg (tb_3 (List.mem_of_getElem? (i := 175) rfl)) rfl
theorem kw_1_191 : (Cond.code yX7_hasPlace cX7_hasPlace 2 (some .boolean)) ∈ TG := tg (tb_1 (List.mem_of_getElem? (i := 191) rfl)) rfl
theorem kw_1_189 : (Cond.instanceMethod yX7_hasPlace) ∈ TG := tg (tb_1 (List.mem_of_getElem? (i := 189) rfl)) rfl
theorem kw_1_190 : (Cond.selects RX7 yX7_hasPlace yX7_hasPlace) ∈ TG := tg (tb_1 (List.mem_of_getElem? (i := 190) rfl)) rfl
theorem kw_1_4 : (Cond.initialized RX7) ∈ TG := tg (tb_1 (List.mem_of_getElem? (i := 4) rfl)) rfl
theorem kw_1_187 : (Cond.code yX7_at cX7_at 2 (some .int)) ∈ TG := tg (tb_1 (List.mem_of_getElem? (i := 187) rfl)) rfl
theorem kw_1_185 : (Cond.instanceMethod yX7_at) ∈ TG := tg (tb_1 (List.mem_of_getElem? (i := 185) rfl)) rfl
theorem kw_1_186 : (Cond.selects RX7 yX7_at yX7_at) ∈ TG := tg (tb_1 (List.mem_of_getElem? (i := 186) rfl)) rfl
theorem kw_3_127 : (Cond.code yX7_leastOfSort cX7_leastOfSort 1 (some .int)) ∈ TG := tg (tb_3 (List.mem_of_getElem? (i := 127) rfl)) rfl
theorem kw_3_126 : (Cond.instanceMethod yX7_leastOfSort) ∈ TG := tg (tb_3 (List.mem_of_getElem? (i := 126) rfl)) rfl
theorem kw_0_7 : (Cond.selects RX7 yX7_leastOfSort yX7_leastOfSort) ∈ TG := tg (tb_0 (List.mem_of_getElem? (i := 7) rfl)) rfl
theorem kw_3_224 : (Cond.code yX7_lowestBits cX7_lowestBits 2 (some .int)) ∈ TG := tg (tb_3 (List.mem_of_getElem? (i := 224) rfl)) rfl
theorem kw_3_223 : (Cond.instanceMethod yX7_lowestBits) ∈ TG := tg (tb_3 (List.mem_of_getElem? (i := 223) rfl)) rfl
theorem kw_0_10 : (Cond.selects RX7 yX7_lowestBits yX7_lowestBits) ∈ TG := tg (tb_0 (List.mem_of_getElem? (i := 10) rfl)) rfl
theorem kw_2_193 : (Cond.code yX2_isCrossing cX2_isCrossing 2 (some .boolean)) ∈ TG := tg (tb_2 (List.mem_of_getElem? (i := 193) rfl)) rfl
theorem kw_2_192 : (Cond.static yX2_isCrossing) ∈ TG := tg (tb_2 (List.mem_of_getElem? (i := 192) rfl)) rfl
theorem kw_1_11 : (Cond.initialized RX2) ∈ TG := tg (tb_1 (List.mem_of_getElem? (i := 11) rfl)) rfl
theorem kw_2_190 : (Cond.code yX2_isEnough cX2_isEnough 2 (some .boolean)) ∈ TG := tg (tb_2 (List.mem_of_getElem? (i := 190) rfl)) rfl
theorem kw_2_189 : (Cond.static yX2_isEnough) ∈ TG := tg (tb_2 (List.mem_of_getElem? (i := 189) rfl)) rfl
theorem kw_2_235 : (Cond.code yX2_isFewer cX2_isFewer 2 (some .boolean)) ∈ TG := tg (tb_2 (List.mem_of_getElem? (i := 235) rfl)) rfl
theorem kw_2_234 : (Cond.static yX2_isFewer) ∈ TG := tg (tb_2 (List.mem_of_getElem? (i := 234) rfl)) rfl
theorem kw_3_1 : (Cond.code yX2_isLeast cX2_isLeast 3 (some .boolean)) ∈ TG := tg (tb_3 (List.mem_of_getElem? (i := 1) rfl)) rfl
theorem kw_3_0 : (Cond.static yX2_isLeast) ∈ TG := tg (tb_3 (List.mem_of_getElem? (i := 0) rfl)) rfl
theorem kw_2_208 : (Cond.code yX2_isTurnedBy cX2_isTurnedBy 3 (some .boolean)) ∈ TG := tg (tb_2 (List.mem_of_getElem? (i := 208) rfl)) rfl
theorem kw_2_207 : (Cond.static yX2_isTurnedBy) ∈ TG := tg (tb_2 (List.mem_of_getElem? (i := 207) rfl)) rfl
theorem kw_2_213 : (Cond.code yX2_ordersOf cX2_ordersOf 4 (some .long)) ∈ TG := tg (tb_2 (List.mem_of_getElem? (i := 213) rfl)) rfl
theorem kw_2_212 : (Cond.static yX2_ordersOf) ∈ TG := tg (tb_2 (List.mem_of_getElem? (i := 212) rfl)) rfl
theorem kw_2_187 : (Cond.code yX8_areThere cX8_areThere 2 (some .boolean)) ∈ TG := tg (tb_2 (List.mem_of_getElem? (i := 187) rfl)) rfl
theorem kw_2_185 : (Cond.instanceMethod yX8_areThere) ∈ TG := tg (tb_2 (List.mem_of_getElem? (i := 185) rfl)) rfl
theorem kw_2_186 : (Cond.selects RX8 yX8_areThere yX8_areThere) ∈ TG := tg (tb_2 (List.mem_of_getElem? (i := 186) rfl)) rfl
theorem kw_1_204 : (Cond.code yX9_isBalcony cX9_isBalcony 1 (some .boolean)) ∈ TG := tg (tb_1 (List.mem_of_getElem? (i := 204) rfl)) rfl
theorem kw_1_203 : (Cond.static yX9_isBalcony) ∈ TG := tg (tb_1 (List.mem_of_getElem? (i := 203) rfl)) rfl
theorem kw_1_215 : (Cond.code yX8_admit cX8_admit 4 none) ∈ TG := tg (tb_1 (List.mem_of_getElem? (i := 215) rfl)) rfl
theorem kw_1_213 : (Cond.instanceMethod yX8_admit) ∈ TG := tg (tb_1 (List.mem_of_getElem? (i := 213) rfl)) rfl
theorem kw_1_214 : (Cond.selects RX8 yX8_admit yX8_admit) ∈ TG := tg (tb_1 (List.mem_of_getElem? (i := 214) rfl)) rfl
theorem kw_1_223 : (Cond.code yX8_isThere cX8_isThere 2 (some .boolean)) ∈ TG := tg (tb_1 (List.mem_of_getElem? (i := 223) rfl)) rfl
theorem kw_1_221 : (Cond.instanceMethod yX8_isThere) ∈ TG := tg (tb_1 (List.mem_of_getElem? (i := 221) rfl)) rfl
theorem kw_1_222 : (Cond.selects RX8 yX8_isThere yX8_isThere) ∈ TG := tg (tb_1 (List.mem_of_getElem? (i := 222) rfl)) rfl
theorem kw_1_230 : (Cond.code yX8_turnShutter cX8_turnShutter 2 none) ∈ TG := tg (tb_1 (List.mem_of_getElem? (i := 230) rfl)) rfl
theorem kw_1_228 : (Cond.instanceMethod yX8_turnShutter) ∈ TG := tg (tb_1 (List.mem_of_getElem? (i := 228) rfl)) rfl
theorem kw_1_229 : (Cond.selects RX8 yX8_turnShutter yX8_turnShutter) ∈ TG := tg (tb_1 (List.mem_of_getElem? (i := 229) rfl)) rfl
theorem kw_2_0 : (Cond.code yX8_hasDaysLeft cX8_hasDaysLeft 2 (some .boolean)) ∈ TG := tg (tb_2 (List.mem_of_getElem? (i := 0) rfl)) rfl
theorem kw_1_238 : (Cond.instanceMethod yX8_hasDaysLeft) ∈ TG := tg (tb_1 (List.mem_of_getElem? (i := 238) rfl)) rfl
theorem kw_1_239 : (Cond.selects RX8 yX8_hasDaysLeft yX8_hasDaysLeft) ∈ TG := tg (tb_1 (List.mem_of_getElem? (i := 239) rfl)) rfl
theorem kw_2_4 : (Cond.code yX8_live cX8_live 3 none) ∈ TG := tg (tb_2 (List.mem_of_getElem? (i := 4) rfl)) rfl
theorem kw_2_2 : (Cond.instanceMethod yX8_live) ∈ TG := tg (tb_2 (List.mem_of_getElem? (i := 2) rfl)) rfl
theorem kw_2_3 : (Cond.selects RX8 yX8_live yX8_live) ∈ TG := tg (tb_2 (List.mem_of_getElem? (i := 3) rfl)) rfl
theorem kw_1_219 : (Cond.code yX6_tryMood cX6_tryMood 3 (some .boolean)) ∈ TG := tg (tb_1 (List.mem_of_getElem? (i := 219) rfl)) rfl
theorem kw_1_218 : (Cond.static yX6_tryMood) ∈ TG := tg (tb_1 (List.mem_of_getElem? (i := 218) rfl)) rfl
theorem kw_1_7 : (Cond.initialized RX6) ∈ TG := tg (tb_1 (List.mem_of_getElem? (i := 7) rfl)) rfl
theorem kw_1_201 : (Cond.code yX6_tryHeight cX6_tryHeight 3 (some .boolean)) ∈ TG := tg (tb_1 (List.mem_of_getElem? (i := 201) rfl)) rfl
theorem kw_1_200 : (Cond.static yX6_tryHeight) ∈ TG := tg (tb_1 (List.mem_of_getElem? (i := 200) rfl)) rfl
theorem kw_1_226 : (Cond.code yX6_tryShutter cX6_tryShutter 2 (some .boolean)) ∈ TG := tg (tb_1 (List.mem_of_getElem? (i := 226) rfl)) rfl
theorem kw_1_225 : (Cond.static yX6_tryShutter) ∈ TG := tg (tb_1 (List.mem_of_getElem? (i := 225) rfl)) rfl
theorem kw_1_233 : (Cond.code yX6_tryQuota cX6_tryQuota 2 (some .boolean)) ∈ TG := tg (tb_1 (List.mem_of_getElem? (i := 233) rfl)) rfl
theorem kw_1_232 : (Cond.static yX6_tryQuota) ∈ TG := tg (tb_1 (List.mem_of_getElem? (i := 232) rfl)) rfl
theorem kw_1_207 : (Cond.code yX6_tryToAdmit cX6_tryToAdmit 4 (some .boolean)) ∈ TG := tg (tb_1 (List.mem_of_getElem? (i := 207) rfl)) rfl
theorem kw_1_206 : (Cond.static yX6_tryToAdmit) ∈ TG := tg (tb_1 (List.mem_of_getElem? (i := 206) rfl)) rfl
theorem kw_1_236 : (Cond.code yX6_tryDays cX6_tryDays 2 (some .boolean)) ∈ TG := tg (tb_1 (List.mem_of_getElem? (i := 236) rfl)) rfl
theorem kw_1_235 : (Cond.static yX6_tryDays) ∈ TG := tg (tb_1 (List.mem_of_getElem? (i := 235) rfl)) rfl
theorem kw_1_194 : (Cond.code yX6_digitsBehind cX6_digitsBehind 1 (some .int)) ∈ TG := tg (tb_1 (List.mem_of_getElem? (i := 194) rfl)) rfl
theorem kw_1_193 : (Cond.static yX6_digitsBehind) ∈ TG := tg (tb_1 (List.mem_of_getElem? (i := 193) rfl)) rfl
theorem kw_1_183 : (Cond.code yX6_placeOfUnfitByte cX6_placeOfUnfitByte 4 (some .int)) ∈ TG := tg (tb_1 (List.mem_of_getElem? (i := 183) rfl)) rfl
theorem kw_1_182 : (Cond.static yX6_placeOfUnfitByte) ∈ TG := tg (tb_1 (List.mem_of_getElem? (i := 182) rfl)) rfl
theorem kw_1_198 : (Cond.code yX6_tryStatement cX6_tryStatement 6 (some .boolean)) ∈ TG := tg (tb_1 (List.mem_of_getElem? (i := 198) rfl)) rfl
theorem kw_1_197 : (Cond.static yX6_tryStatement) ∈ TG := tg (tb_1 (List.mem_of_getElem? (i := 197) rfl)) rfl
theorem q_X9_isWithin : CalS yX9_isWithin cX9_isWithin 3 (some .boolean) 3 := ⟨kw_1_170, kw_1_169, kw_1_1, by decide +kernel, by decide +kernel, by decide +kernel⟩
theorem q_X3_widowPrice : CalS yX3_widowPrice cX3_widowPrice 1 (some .int) 1 := ⟨kw_4_3, kw_4_2, kw_1_10, by decide +kernel, by decide +kernel, by decide +kernel⟩
theorem q_X1_commonDivisor : CalS yX1_commonDivisor cX1_commonDivisor 11 (some .long) 2 := ⟨kw_2_225, kw_2_224, kw_1_12, by decide +kernel, by decide +kernel, by decide +kernel⟩
theorem q_J6_bitCount_0f7a4 : CalS yJ6_bitCount_0f7a4 cJ6_bitCount_0f7a4 1 (some .int) 1 := ⟨kw_2_33, kw_2_32, kw_1_9, by decide +kernel, by decide +kernel, by decide +kernel⟩
theorem q_X9_isIn : CalS yX9_isIn cX9_isIn 2 (some .boolean) 2 := ⟨kw_2_15, kw_2_14, kw_1_1, by decide +kernel, by decide +kernel, by decide +kernel⟩
theorem q_X3_weightOf : CalS yX3_weightOf cX3_weightOf 3 (some .int) 3 := ⟨kw_2_57, kw_2_56, kw_1_10, by decide +kernel, by decide +kernel, by decide +kernel⟩
theorem q_X8_isHeard : CalV yX8_isHeard cX8_isHeard 2 (some .boolean) 1 := ⟨kw_2_12, kw_2_10, kw_2_11, kw_1_2, by decide +kernel, by decide +kernel, by decide +kernel⟩
theorem q_X8_weightOf : CalV yX8_weightOf cX8_weightOf 2 (some .int) 1 := ⟨kw_2_54, kw_2_52, kw_2_53, kw_1_2, by decide +kernel, by decide +kernel, by decide +kernel⟩
theorem q_X8_onesFor : CalV yX8_onesFor cX8_onesFor 3 (some .int) 0 := ⟨kw_2_125, kw_2_123, kw_2_124, kw_1_2, by decide +kernel, by decide +kernel, by decide +kernel⟩
theorem q_X8_weightOfAll : CalV yX8_weightOfAll cX8_weightOfAll 4 (some .int) 1 := ⟨kw_2_133, kw_2_131, kw_2_132, kw_1_2, by decide +kernel, by decide +kernel, by decide +kernel⟩
theorem q_X3_isVeto : CalS yX3_isVeto cX3_isVeto 2 (some .boolean) 2 := ⟨kw_2_141, kw_2_140, kw_1_10, by decide +kernel, by decide +kernel, by decide +kernel⟩
theorem q_X8_sidesOf : CalV yX8_sidesOf cX8_sidesOf 4 (some .int) 1 := ⟨kw_2_129, kw_2_127, kw_2_128, kw_1_2, by decide +kernel, by decide +kernel, by decide +kernel⟩
theorem q_X8_isVetoed : CalV yX8_isVetoed cX8_isVetoed 3 (some .boolean) 1 := ⟨kw_2_138, kw_2_137, kw_0_2, kw_1_2, by decide +kernel, by decide +kernel, by decide +kernel⟩
theorem q_X8_heardOnes : CalV yX8_heardOnes cX8_heardOnes 3 (some .int) 0 := ⟨kw_2_117, kw_2_115, kw_2_116, kw_1_2, by decide +kernel, by decide +kernel, by decide +kernel⟩
theorem q_X8_whyNot : CalV yX8_whyNot cX8_whyNot 4 (some .int) 1 := ⟨kw_2_121, kw_2_119, kw_2_120, kw_1_2, by decide +kernel, by decide +kernel, by decide +kernel⟩
theorem q_X8_isInSight : CalV yX8_isInSight cX8_isInSight 4 (some .boolean) 2 := ⟨kw_2_19, kw_2_17, kw_2_18, kw_1_2, by decide +kernel, by decide +kernel, by decide +kernel⟩
theorem q_X3_swayOf : CalS yX3_swayOf cX3_swayOf 2 (some .int) 2 := ⟨kw_2_39, kw_2_38, kw_1_10, by decide +kernel, by decide +kernel, by decide +kernel⟩
theorem q_X8_hasRoom : CalV yX8_hasRoom cX8_hasRoom 1 (some .boolean) 0 := ⟨kw_1_211, kw_1_209, kw_1_210, kw_1_2, by decide +kernel, by decide +kernel, by decide +kernel⟩
theorem q_X8_moodBehindLook : CalV yX8_moodBehindLook cX8_moodBehindLook 5 (some .int) 1 := ⟨kw_2_30, kw_2_29, kw_0_1, kw_1_2, by decide +kernel, by decide +kernel, by decide +kernel⟩
theorem q_X8_startDays : CalV yX8_startDays cX8_startDays 3 none 0 := ⟨kw_2_8, kw_2_6, kw_2_7, kw_1_2, by decide +kernel, by decide +kernel, by decide +kernel⟩
theorem q_X8_nextDay : CalV yX8_nextDay cX8_nextDay 3 (some .boolean) 0 := ⟨kw_2_26, kw_2_24, kw_2_25, kw_1_2, by decide +kernel, by decide +kernel, by decide +kernel⟩
theorem q_X8_isCarried : CalV yX8_isCarried cX8_isCarried 1 (some .boolean) 0 := ⟨kw_2_113, kw_2_111, kw_2_112, kw_1_2, by decide +kernel, by decide +kernel, by decide +kernel⟩
theorem q_X9_oneIf : CalS yX9_oneIf cX9_oneIf 1 (some .int) 1 := ⟨kw_2_61, kw_2_60, kw_1_1, by decide +kernel, by decide +kernel, by decide +kernel⟩
theorem q_X0_next : CalS yX0_next cX0_next 1 (some .int) 1 := ⟨kw_3_172, kw_3_171, kw_1_14, by decide +kernel, by decide +kernel, by decide +kernel⟩
theorem q_X0_below : CalS yX0_below cX0_below 2 (some .int) 2 := ⟨kw_3_176, kw_3_175, kw_1_14, by decide +kernel, by decide +kernel, by decide +kernel⟩
theorem q_X7_hasPlace : CalV yX7_hasPlace cX7_hasPlace 2 (some .boolean) 1 := ⟨kw_1_191, kw_1_189, kw_1_190, kw_1_4, by decide +kernel, by decide +kernel, by decide +kernel⟩
theorem q_X7_at : CalV yX7_at cX7_at 2 (some .int) 1 := ⟨kw_1_187, kw_1_185, kw_1_186, kw_1_4, by decide +kernel, by decide +kernel, by decide +kernel⟩
theorem q_X7_leastOfSort : CalV yX7_leastOfSort cX7_leastOfSort 1 (some .int) 0 := ⟨kw_3_127, kw_3_126, kw_0_7, kw_1_4, by decide +kernel, by decide +kernel, by decide +kernel⟩
theorem q_X7_lowestBits : CalV yX7_lowestBits cX7_lowestBits 2 (some .int) 1 := ⟨kw_3_224, kw_3_223, kw_0_10, kw_1_4, by decide +kernel, by decide +kernel, by decide +kernel⟩
theorem q_X2_isCrossing : CalS yX2_isCrossing cX2_isCrossing 2 (some .boolean) 2 := ⟨kw_2_193, kw_2_192, kw_1_11, by decide +kernel, by decide +kernel, by decide +kernel⟩
theorem q_X2_isEnough : CalS yX2_isEnough cX2_isEnough 2 (some .boolean) 2 := ⟨kw_2_190, kw_2_189, kw_1_11, by decide +kernel, by decide +kernel, by decide +kernel⟩
theorem q_X2_isFewer : CalS yX2_isFewer cX2_isFewer 2 (some .boolean) 2 := ⟨kw_2_235, kw_2_234, kw_1_11, by decide +kernel, by decide +kernel, by decide +kernel⟩
theorem q_X2_isLeast : CalS yX2_isLeast cX2_isLeast 3 (some .boolean) 2 := ⟨kw_3_1, kw_3_0, kw_1_11, by decide +kernel, by decide +kernel, by decide +kernel⟩
theorem q_X2_isTurnedBy : CalS yX2_isTurnedBy cX2_isTurnedBy 3 (some .boolean) 3 := ⟨kw_2_208, kw_2_207, kw_1_11, by decide +kernel, by decide +kernel, by decide +kernel⟩
theorem q_X2_ordersOf : CalS yX2_ordersOf cX2_ordersOf 4 (some .long) 1 := ⟨kw_2_213, kw_2_212, kw_1_11, by decide +kernel, by decide +kernel, by decide +kernel⟩
theorem q_X8_areThere : CalV yX8_areThere cX8_areThere 2 (some .boolean) 1 := ⟨kw_2_187, kw_2_185, kw_2_186, kw_1_2, by decide +kernel, by decide +kernel, by decide +kernel⟩
theorem q_X9_isBalcony : CalS yX9_isBalcony cX9_isBalcony 1 (some .boolean) 1 := ⟨kw_1_204, kw_1_203, kw_1_1, by decide +kernel, by decide +kernel, by decide +kernel⟩
theorem q_X8_admit : CalV yX8_admit cX8_admit 4 none 3 := ⟨kw_1_215, kw_1_213, kw_1_214, kw_1_2, by decide +kernel, by decide +kernel, by decide +kernel⟩
theorem q_X8_isThere : CalV yX8_isThere cX8_isThere 2 (some .boolean) 1 := ⟨kw_1_223, kw_1_221, kw_1_222, kw_1_2, by decide +kernel, by decide +kernel, by decide +kernel⟩
theorem q_X8_turnShutter : CalV yX8_turnShutter cX8_turnShutter 2 none 1 := ⟨kw_1_230, kw_1_228, kw_1_229, kw_1_2, by decide +kernel, by decide +kernel, by decide +kernel⟩
theorem q_X8_hasDaysLeft : CalV yX8_hasDaysLeft cX8_hasDaysLeft 2 (some .boolean) 1 := ⟨kw_2_0, kw_1_238, kw_1_239, kw_1_2, by decide +kernel, by decide +kernel, by decide +kernel⟩
theorem q_X8_live : CalV yX8_live cX8_live 3 none 1 := ⟨kw_2_4, kw_2_2, kw_2_3, kw_1_2, by decide +kernel, by decide +kernel, by decide +kernel⟩
theorem q_X6_tryMood : CalS yX6_tryMood cX6_tryMood 3 (some .boolean) 3 := ⟨kw_1_219, kw_1_218, kw_1_7, by decide +kernel, by decide +kernel, by decide +kernel⟩
theorem q_X6_tryHeight : CalS yX6_tryHeight cX6_tryHeight 3 (some .boolean) 3 := ⟨kw_1_201, kw_1_200, kw_1_7, by decide +kernel, by decide +kernel, by decide +kernel⟩
theorem q_X6_tryShutter : CalS yX6_tryShutter cX6_tryShutter 2 (some .boolean) 2 := ⟨kw_1_226, kw_1_225, kw_1_7, by decide +kernel, by decide +kernel, by decide +kernel⟩
theorem q_X6_tryQuota : CalS yX6_tryQuota cX6_tryQuota 2 (some .boolean) 2 := ⟨kw_1_233, kw_1_232, kw_1_7, by decide +kernel, by decide +kernel, by decide +kernel⟩
theorem q_X6_tryToAdmit : CalS yX6_tryToAdmit cX6_tryToAdmit 4 (some .boolean) 4 := ⟨kw_1_207, kw_1_206, kw_1_7, by decide +kernel, by decide +kernel, by decide +kernel⟩
theorem q_X6_tryDays : CalS yX6_tryDays cX6_tryDays 2 (some .boolean) 2 := ⟨kw_1_236, kw_1_235, kw_1_7, by decide +kernel, by decide +kernel, by decide +kernel⟩
theorem q_X6_digitsBehind : CalS yX6_digitsBehind cX6_digitsBehind 1 (some .int) 1 := ⟨kw_1_194, kw_1_193, kw_1_7, by decide +kernel, by decide +kernel, by decide +kernel⟩
theorem q_X6_placeOfUnfitByte : CalS yX6_placeOfUnfitByte cX6_placeOfUnfitByte 4 (some .int) 1 := ⟨kw_1_183, kw_1_182, kw_1_7, by decide +kernel, by decide +kernel, by decide +kernel⟩
theorem q_X6_tryStatement : CalS yX6_tryStatement cX6_tryStatement 6 (some .boolean) 3 := ⟨kw_1_198, kw_1_197, kw_1_7, by decide +kernel, by decide +kernel, by decide +kernel⟩
