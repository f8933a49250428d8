theorem kw_1_157 : (Cond.methodLink RL 21 yX9_quarter) ∈ TG := tg (tb_1 (List.mem_of_getElem? (i := 157) rfl)) rfl
theorem kw_4_189 : (Cond.methodLink RL 25 yX10_quarter) ∈ TG := tg (tb_4 (List.mem_of_getElem? (i := 189) rfl)) rfl
theorem kw_2_46 : (Cond.methodLink RL 26 yX9_speaker) ∈ TG := tg (tb_2 (List.mem_of_getElem? (i := 46) rfl)) rfl
theorem kw_5_20 : (Cond.methodLink RL 30 yX10_speaker) ∈ TG := tg (tb_5 (List.mem_of_getElem? (i := 20) rfl)) rfl
theorem kw_2_63 : (Cond.methodLink RL 31 yX9_balcony) ∈ TG := tg (tb_2 (List.mem_of_getElem? (i := 63) rfl)) rfl
theorem kw_5_30 : (Cond.methodLink RL 34 yX10_balcony) ∈ TG := tg (tb_5 (List.mem_of_getElem? (i := 30) rfl)) rfl
theorem kw_2_76 : (Cond.methodLink RL 35 yX9_comes) ∈ TG := tg (tb_2 (List.mem_of_getElem? (i := 76) rfl)) rfl
theorem kw_5_37 : (Cond.methodLink RL 38 yX10_comes) ∈ TG := tg (tb_5 (List.mem_of_getElem? (i := 37) rfl)) rfl
theorem kw_2_82 : (Cond.methodLink RL 39 yX9_builds) ∈ TG := tg (tb_2 (List.mem_of_getElem? (i := 82) rfl)) rfl
theorem kw_5_45 : (Cond.methodLink RL 42 yX10_builds) ∈ TG := tg (tb_5 (List.mem_of_getElem? (i := 45) rfl)) rfl
theorem kw_2_86 : (Cond.methodLink RL 43 yX9_shuts) ∈ TG := tg (tb_2 (List.mem_of_getElem? (i := 86) rfl)) rfl
theorem kw_5_49 : (Cond.methodLink RL 46 yX10_shuts) ∈ TG := tg (tb_5 (List.mem_of_getElem? (i := 49) rfl)) rfl
theorem kw_2_91 : (Cond.methodLink RL 47 yX9_thinks) ∈ TG := tg (tb_2 (List.mem_of_getElem? (i := 91) rfl)) rfl
theorem kw_5_53 : (Cond.methodLink RL 50 yX10_thinks) ∈ TG := tg (tb_5 (List.mem_of_getElem? (i := 53) rfl)) rfl
theorem kw_2_96 : (Cond.methodLink RL 51 yX9_goes) ∈ TG := tg (tb_2 (List.mem_of_getElem? (i := 96) rfl)) rfl
theorem kw_5_58 : (Cond.methodLink RL 54 yX10_goes) ∈ TG := tg (tb_5 (List.mem_of_getElem? (i := 58) rfl)) rfl
theorem kw_2_100 : (Cond.methodLink RL 55 yX9_quota) ∈ TG := tg (tb_2 (List.mem_of_getElem? (i := 100) rfl)) rfl
theorem kw_5_62 : (Cond.methodLink RL 58 yX10_quota) ∈ TG := tg (tb_5 (List.mem_of_getElem? (i := 62) rfl)) rfl
theorem kw_2_104 : (Cond.methodLink RL 59 yX9_days) ∈ TG := tg (tb_2 (List.mem_of_getElem? (i := 104) rfl)) rfl
theorem kw_5_66 : (Cond.methodLink RL 62 yX10_days) ∈ TG := tg (tb_5 (List.mem_of_getElem? (i := 66) rfl)) rfl
theorem kw_2_142 : (Cond.methodLink RL 63 yX9_carries) ∈ TG := tg (tb_2 (List.mem_of_getElem? (i := 142) rfl)) rfl
theorem kw_5_94 : (Cond.methodLink RL 66 yX10_carries) ∈ TG := tg (tb_5 (List.mem_of_getElem? (i := 94) rfl)) rfl
theorem kw_2_153 : (Cond.methodLink RL 67 yX9_moodThen) ∈ TG := tg (tb_2 (List.mem_of_getElem? (i := 153) rfl)) rfl
theorem kw_5_101 : (Cond.methodLink RL 70 yX10_moodThen) ∈ TG := tg (tb_5 (List.mem_of_getElem? (i := 101) rfl)) rfl
theorem kw_2_160 : (Cond.methodLink RL 71 yX9_then) ∈ TG := tg (tb_2 (List.mem_of_getElem? (i := 160) rfl)) rfl
theorem kw_5_112 : (Cond.methodLink RL 74 yX10_then) ∈ TG := tg (tb_5 (List.mem_of_getElem? (i := 112) rfl)) rfl
theorem kw_2_164 : (Cond.methodLink RL 75 yX9_when) ∈ TG := tg (tb_2 (List.mem_of_getElem? (i := 164) rfl)) rfl
theorem kw_5_116 : (Cond.methodLink RL 79 yX10_when) ∈ TG := tg (tb_5 (List.mem_of_getElem? (i := 116) rfl)) rfl
theorem kw_2_170 : (Cond.methodLink RL 80 yX9_holds) ∈ TG := tg (tb_2 (List.mem_of_getElem? (i := 170) rfl)) rfl
theorem kw_5_120 : (Cond.methodLink RL 83 yX10_holds) ∈ TG := tg (tb_5 (List.mem_of_getElem? (i := 120) rfl)) rfl
theorem kw_2_180 : (Cond.methodLink RL 84 yX9_could) ∈ TG := tg (tb_2 (List.mem_of_getElem? (i := 180) rfl)) rfl
theorem kw_5_132 : (Cond.methodLink RL 87 yX10_could) ∈ TG := tg (tb_5 (List.mem_of_getElem? (i := 132) rfl)) rfl
theorem kw_2_196 : (Cond.methodLink RL 88 yX9_power) ∈ TG := tg (tb_2 (List.mem_of_getElem? (i := 196) rfl)) rfl
theorem kw_5_144 : (Cond.methodLink RL 91 yX10_power) ∈ TG := tg (tb_5 (List.mem_of_getElem? (i := 144) rfl)) rfl
theorem kw_2_226 : (Cond.methodLink RL 92 yX9_groups) ∈ TG := tg (tb_2 (List.mem_of_getElem? (i := 226) rfl)) rfl
theorem kw_5_169 : (Cond.methodLink RL 95 yX10_groups) ∈ TG := tg (tb_5 (List.mem_of_getElem? (i := 169) rfl)) rfl
theorem kw_3_5 : (Cond.methodLink RL 96 yX9_swings) ∈ TG := tg (tb_3 (List.mem_of_getElem? (i := 5) rfl)) rfl
theorem kw_5_189 : (Cond.methodLink RL 99 yX10_swings) ∈ TG := tg (tb_5 (List.mem_of_getElem? (i := 189) rfl)) rfl
theorem kw_3_12 : (Cond.methodLink RL 100 yX9_win) ∈ TG := tg (tb_3 (List.mem_of_getElem? (i := 12) rfl)) rfl
theorem kw_5_193 : (Cond.methodLink RL 103 yX10_win) ∈ TG := tg (tb_5 (List.mem_of_getElem? (i := 193) rfl)) rfl
theorem kw_3_25 : (Cond.methodLink RL 104 yX9_guest) ∈ TG := tg (tb_3 (List.mem_of_getElem? (i := 25) rfl)) rfl
theorem kw_5_201 : (Cond.methodLink RL 108 yX10_guest) ∈ TG := tg (tb_5 (List.mem_of_getElem? (i := 201) rfl)) rfl
theorem kw_3_29 : (Cond.methodLink RL 109 yX9_shutter) ∈ TG := tg (tb_3 (List.mem_of_getElem? (i := 29) rfl)) rfl
theorem kw_5_205 : (Cond.methodLink RL 112 yX10_shutter) ∈ TG := tg (tb_5 (List.mem_of_getElem? (i := 205) rfl)) rfl
theorem kw_3_33 : (Cond.methodLink RL 113 yX9_quotaMost) ∈ TG := tg (tb_3 (List.mem_of_getElem? (i := 33) rfl)) rfl
theorem kw_5_209 : (Cond.methodLink RL 116 yX10_quotaMost) ∈ TG := tg (tb_5 (List.mem_of_getElem? (i := 209) rfl)) rfl
theorem kw_3_38 : (Cond.methodLink RL 117 yX9_rent) ∈ TG := tg (tb_3 (List.mem_of_getElem? (i := 38) rfl)) rfl
theorem kw_5_213 : (Cond.methodLink RL 120 yX10_rent) ∈ TG := tg (tb_5 (List.mem_of_getElem? (i := 213) rfl)) rfl
theorem kw_3_46 : (Cond.methodLink RL 121 yX9_bestRail) ∈ TG := tg (tb_3 (List.mem_of_getElem? (i := 46) rfl)) rfl
theorem kw_5_221 : (Cond.methodLink RL 124 yX10_bestRail) ∈ TG := tg (tb_5 (List.mem_of_getElem? (i := 221) rfl)) rfl
theorem kw_3_50 : (Cond.methodLink RL 125 yX9_match) ∈ TG := tg (tb_3 (List.mem_of_getElem? (i := 50) rfl)) rfl
theorem kw_5_225 : (Cond.methodLink RL 128 yX10_match) ∈ TG := tg (tb_5 (List.mem_of_getElem? (i := 225) rfl)) rfl
theorem kw_3_78 : (Cond.methodLink RL 129 yX9_lines) ∈ TG := tg (tb_3 (List.mem_of_getElem? (i := 78) rfl)) rfl
theorem kw_5_237 : (Cond.methodLink RL 132 yX10_lines) ∈ TG := tg (tb_5 (List.mem_of_getElem? (i := 237) rfl)) rfl
theorem kw_3_90 : (Cond.methodLink RL 133 yX9_law) ∈ TG := tg (tb_3 (List.mem_of_getElem? (i := 90) rfl)) rfl
theorem kw_6_1 : (Cond.methodLink RL 136 yX10_law) ∈ TG := tg (tb_6 (List.mem_of_getElem? (i := 1) rfl)) rfl
theorem kw_3_111 : (Cond.methodLink RL 137 yX9_whatIs) ∈ TG := tg (tb_3 (List.mem_of_getElem? (i := 111) rfl)) rfl
theorem kw_6_9 : (Cond.methodLink RL 140 yX10_whatIs) ∈ TG := tg (tb_6 (List.mem_of_getElem? (i := 9) rfl)) rfl
theorem kw_3_130 : (Cond.methodLink RL 141 yX9_two) ∈ TG := tg (tb_3 (List.mem_of_getElem? (i := 130) rfl)) rfl
theorem kw_6_17 : (Cond.methodLink RL 144 yX10_two) ∈ TG := tg (tb_6 (List.mem_of_getElem? (i := 17) rfl)) rfl
theorem kw_3_142 : (Cond.methodLink RL 145 yX9_rain) ∈ TG := tg (tb_3 (List.mem_of_getElem? (i := 142) rfl)) rfl
theorem kw_6_25 : (Cond.methodLink RL 148 yX10_rain) ∈ TG := tg (tb_6 (List.mem_of_getElem? (i := 25) rfl)) rfl
theorem kw_3_150 : (Cond.methodLink RL 149 yX9_mean) ∈ TG := tg (tb_3 (List.mem_of_getElem? (i := 150) rfl)) rfl
theorem kw_6_29 : (Cond.methodLink RL 153 yX10_mean) ∈ TG := tg (tb_6 (List.mem_of_getElem? (i := 29) rfl)) rfl
theorem kw_3_154 : (Cond.methodLink RL 154 yX9_forged) ∈ TG := tg (tb_3 (List.mem_of_getElem? (i := 154) rfl)) rfl
theorem kw_6_33 : (Cond.methodLink RL 157 yX10_forged) ∈ TG := tg (tb_6 (List.mem_of_getElem? (i := 33) rfl)) rfl
theorem kw_3_158 : (Cond.methodLink RL 158 yX9_judge) ∈ TG := tg (tb_3 (List.mem_of_getElem? (i := 158) rfl)) rfl
theorem kw_6_37 : (Cond.methodLink RL 161 yX10_judge) ∈ TG := tg (tb_6 (List.mem_of_getElem? (i := 37) rfl)) rfl
theorem kw_3_162 : (Cond.methodLink RL 162 yX9_streets) ∈ TG := tg (tb_3 (List.mem_of_getElem? (i := 162) rfl)) rfl
theorem kw_6_41 : (Cond.methodLink RL 165 yX10_streets) ∈ TG := tg (tb_6 (List.mem_of_getElem? (i := 41) rfl)) rfl
theorem kw_3_179 : (Cond.methodLink RL 166 yX9_image) ∈ TG := tg (tb_3 (List.mem_of_getElem? (i := 179) rfl)) rfl
theorem kw_6_52 : (Cond.methodLink RL 169 yX10_image) ∈ TG := tg (tb_6 (List.mem_of_getElem? (i := 52) rfl)) rfl
theorem kw_3_183 : (Cond.methodLink RL 170 yX9_restore) ∈ TG := tg (tb_3 (List.mem_of_getElem? (i := 183) rfl)) rfl
theorem kw_6_56 : (Cond.methodLink RL 173 yX10_restore) ∈ TG := tg (tb_6 (List.mem_of_getElem? (i := 56) rfl)) rfl
theorem kw_3_187 : (Cond.methodLink RL 174 yX9_count) ∈ TG := tg (tb_3 (List.mem_of_getElem? (i := 187) rfl)) rfl
theorem kw_6_60 : (Cond.methodLink RL 177 yX10_count) ∈ TG := tg (tb_6 (List.mem_of_getElem? (i := 60) rfl)) rfl
theorem kw_3_196 : (Cond.methodLink RL 178 yX9_keep) ∈ TG := tg (tb_3 (List.mem_of_getElem? (i := 196) rfl)) rfl
theorem kw_6_68 : (Cond.methodLink RL 182 yX10_keep) ∈ TG := tg (tb_6 (List.mem_of_getElem? (i := 68) rfl)) rfl
theorem kw_3_204 : (Cond.methodLink RL 183 yX9_row) ∈ TG := tg (tb_3 (List.mem_of_getElem? (i := 204) rfl)) rfl
theorem kw_6_72 : (Cond.methodLink RL 186 yX10_row) ∈ TG := tg (tb_6 (List.mem_of_getElem? (i := 72) rfl)) rfl
theorem kw_3_212 : (Cond.methodLink RL 187 yX9_put) ∈ TG := tg (tb_3 (List.mem_of_getElem? (i := 212) rfl)) rfl
theorem kw_6_76 : (Cond.methodLink RL 190 yX10_put) ∈ TG := tg (tb_6 (List.mem_of_getElem? (i := 76) rfl)) rfl
theorem kw_3_234 : (Cond.methodLink RL 205 yX9_cost) ∈ TG := tg (tb_3 (List.mem_of_getElem? (i := 234) rfl)) rfl
theorem kw_6_88 : (Cond.methodLink RL 208 yX10_cost) ∈ TG := tg (tb_6 (List.mem_of_getElem? (i := 88) rfl)) rfl
theorem kw_1_160 : (Cond.code yX9_quarter cX9_quarter 4 (some .int)) ∈ TG := tg (tb_1 (List.mem_of_getElem? (i := 160) rfl)) rfl
theorem kw_1_158 : (Cond.instanceMethod yX9_quarter) ∈ TG := tg (tb_1 (List.mem_of_getElem? (i := 158) rfl)) rfl
theorem kw_1_159 : (Cond.selects RX9 yX9_quarter yX9_quarter) ∈ TG := tg (tb_1 (List.mem_of_getElem? (i := 159) rfl)) rfl
theorem kw_4_192 : (Cond.code yX10_quarter cX10_quarter 8 (some .int)) ∈ TG := tg (tb_4 (List.mem_of_getElem? (i := 192) rfl)) rfl
theorem kw_4_190 : (Cond.instanceMethod yX10_quarter) ∈ TG := tg (tb_4 (List.mem_of_getElem? (i := 190) rfl)) rfl
theorem kw_4_191 : (Cond.selects RX10 yX10_quarter yX10_quarter) ∈ TG := tg (tb_4 (List.mem_of_getElem? (i := 191) rfl)) rfl
theorem kw_2_49 : (Cond.code yX9_speaker cX9_speaker 3 (some .int)) ∈ TG := tg (tb_2 (List.mem_of_getElem? (i := 49) rfl)) rfl
theorem kw_2_47 : (Cond.instanceMethod yX9_speaker) ∈ TG := tg (tb_2 (List.mem_of_getElem? (i := 47) rfl)) rfl
theorem kw_2_48 : (Cond.selects RX9 yX9_speaker yX9_speaker) ∈ TG := tg (tb_2 (List.mem_of_getElem? (i := 48) rfl)) rfl
theorem kw_5_23 : (Cond.code yX10_speaker cX10_speaker 3 (some .int)) ∈ TG := tg (tb_5 (List.mem_of_getElem? (i := 23) rfl)) rfl
theorem kw_5_21 : (Cond.instanceMethod yX10_speaker) ∈ TG := tg (tb_5 (List.mem_of_getElem? (i := 21) rfl)) rfl
theorem kw_5_22 : (Cond.selects RX10 yX10_speaker yX10_speaker) ∈ TG := tg (tb_5 (List.mem_of_getElem? (i := 22) rfl)) rfl
theorem kw_2_66 : (Cond.code yX9_balcony cX9_balcony 3 (some .int)) ∈ TG := tg (tb_2 (List.mem_of_getElem? (i := 66) rfl)) rfl
theorem kw_2_64 : (Cond.instanceMethod yX9_balcony) ∈ TG := tg (tb_2 (List.mem_of_getElem? (i := 64) rfl)) rfl
theorem kw_2_65 : (Cond.selects RX9 yX9_balcony yX9_balcony) ∈ TG := tg (tb_2 (List.mem_of_getElem? (i := 65) rfl)) rfl
theorem kw_5_33 : (Cond.code yX10_balcony cX10_balcony 5 (some .int)) ∈ TG := tg (tb_5 (List.mem_of_getElem? (i := 33) rfl)) rfl
theorem kw_5_31 : (Cond.instanceMethod yX10_balcony) ∈ TG := tg (tb_5 (List.mem_of_getElem? (i := 31) rfl)) rfl
theorem kw_5_32 : (Cond.selects RX10 yX10_balcony yX10_balcony) ∈ TG := tg (tb_5 (List.mem_of_getElem? (i := 32) rfl)) rfl
theorem kw_2_79 : (Cond.code yX9_comes cX9_comes 4 (some .int)) ∈ TG := tg (tb_2 (List.mem_of_getElem? (i := 79) rfl)) rfl
theorem kw_2_77 : (Cond.instanceMethod yX9_comes) ∈ TG := tg (tb_2 (List.mem_of_getElem? (i := 77) rfl)) rfl
theorem kw_2_78 : (Cond.selects RX9 yX9_comes yX9_comes) ∈ TG := tg (tb_2 (List.mem_of_getElem? (i := 78) rfl)) rfl
theorem kw_5_40 : (Cond.code yX10_comes cX10_comes 4 (some .int)) ∈ TG := tg (tb_5 (List.mem_of_getElem? (i := 40) rfl)) rfl
theorem kw_5_38 : (Cond.instanceMethod yX10_comes) ∈ TG := tg (tb_5 (List.mem_of_getElem? (i := 38) rfl)) rfl
theorem kw_5_39 : (Cond.selects RX10 yX10_comes yX10_comes) ∈ TG := tg (tb_5 (List.mem_of_getElem? (i := 39) rfl)) rfl
theorem kw_2_85 : (Cond.code yX9_builds cX9_builds 4 (some .int)) ∈ TG := tg (tb_2 (List.mem_of_getElem? (i := 85) rfl)) rfl
theorem kw_2_83 : (Cond.instanceMethod yX9_builds) ∈ TG := tg (tb_2 (List.mem_of_getElem? (i := 83) rfl)) rfl
theorem kw_2_84 : (Cond.selects RX9 yX9_builds yX9_builds) ∈ TG := tg (tb_2 (List.mem_of_getElem? (i := 84) rfl)) rfl
theorem kw_5_48 : (Cond.code yX10_builds cX10_builds 4 (some .int)) ∈ TG := tg (tb_5 (List.mem_of_getElem? (i := 48) rfl)) rfl
theorem kw_5_46 : (Cond.instanceMethod yX10_builds) ∈ TG := tg (tb_5 (List.mem_of_getElem? (i := 46) rfl)) rfl
theorem kw_5_47 : (Cond.selects RX10 yX10_builds yX10_builds) ∈ TG := tg (tb_5 (List.mem_of_getElem? (i := 47) rfl)) rfl
theorem kw_2_89 : (Cond.code yX9_shuts cX9_shuts 2 (some .int)) ∈ TG := tg (tb_2 (List.mem_of_getElem? (i := 89) rfl)) rfl
theorem kw_2_87 : (Cond.instanceMethod yX9_shuts) ∈ TG := tg (tb_2 (List.mem_of_getElem? (i := 87) rfl)) rfl
theorem kw_2_88 : (Cond.selects RX9 yX9_shuts yX9_shuts) ∈ TG := tg (tb_2 (List.mem_of_getElem? (i := 88) rfl)) rfl
theorem kw_5_52 : (Cond.code yX10_shuts cX10_shuts 2 (some .int)) ∈ TG := tg (tb_5 (List.mem_of_getElem? (i := 52) rfl)) rfl
theorem kw_5_50 : (Cond.instanceMethod yX10_shuts) ∈ TG := tg (tb_5 (List.mem_of_getElem? (i := 50) rfl)) rfl
theorem kw_5_51 : (Cond.selects RX10 yX10_shuts yX10_shuts) ∈ TG := tg (tb_5 (List.mem_of_getElem? (i := 51) rfl)) rfl
theorem kw_2_94 : (Cond.code yX9_thinks cX9_thinks 4 (some .int)) ∈ TG := tg (tb_2 (List.mem_of_getElem? (i := 94) rfl)) rfl
theorem kw_2_92 : (Cond.instanceMethod yX9_thinks) ∈ TG := tg (tb_2 (List.mem_of_getElem? (i := 92) rfl)) rfl
theorem kw_2_93 : (Cond.selects RX9 yX9_thinks yX9_thinks) ∈ TG := tg (tb_2 (List.mem_of_getElem? (i := 93) rfl)) rfl
theorem kw_5_56 : (Cond.code yX10_thinks cX10_thinks 4 (some .int)) ∈ TG := tg (tb_5 (List.mem_of_getElem? (i := 56) rfl)) rfl
theorem kw_5_54 : (Cond.instanceMethod yX10_thinks) ∈ TG := tg (tb_5 (List.mem_of_getElem? (i := 54) rfl)) rfl
theorem kw_5_55 : (Cond.selects RX10 yX10_thinks yX10_thinks) ∈ TG := tg (tb_5 (List.mem_of_getElem? (i := 55) rfl)) rfl
theorem kw_2_99 : (Cond.code yX9_goes cX9_goes 4 (some .int)) ∈ TG := tg (tb_2 (List.mem_of_getElem? (i := 99) rfl)) rfl
theorem kw_2_97 : (Cond.instanceMethod yX9_goes) ∈ TG := tg (tb_2 (List.mem_of_getElem? (i := 97) rfl)) rfl
theorem kw_2_98 : (Cond.selects RX9 yX9_goes yX9_goes) ∈ TG := tg (tb_2 (List.mem_of_getElem? (i := 98) rfl)) rfl
theorem kw_5_61 : (Cond.code yX10_goes cX10_goes 4 (some .int)) ∈ TG := tg (tb_5 (List.mem_of_getElem? (i := 61) rfl)) rfl
theorem kw_5_59 : (Cond.instanceMethod yX10_goes) ∈ TG := tg (tb_5 (List.mem_of_getElem? (i := 59) rfl)) rfl
theorem kw_5_60 : (Cond.selects RX10 yX10_goes yX10_goes) ∈ TG := tg (tb_5 (List.mem_of_getElem? (i := 60) rfl)) rfl
theorem kw_2_103 : (Cond.code yX9_quota cX9_quota 3 (some .int)) ∈ TG := tg (tb_2 (List.mem_of_getElem? (i := 103) rfl)) rfl
theorem kw_2_101 : (Cond.instanceMethod yX9_quota) ∈ TG := tg (tb_2 (List.mem_of_getElem? (i := 101) rfl)) rfl
theorem kw_2_102 : (Cond.selects RX9 yX9_quota yX9_quota) ∈ TG := tg (tb_2 (List.mem_of_getElem? (i := 102) rfl)) rfl
theorem kw_5_65 : (Cond.code yX10_quota cX10_quota 3 (some .int)) ∈ TG := tg (tb_5 (List.mem_of_getElem? (i := 65) rfl)) rfl
theorem kw_5_63 : (Cond.instanceMethod yX10_quota) ∈ TG := tg (tb_5 (List.mem_of_getElem? (i := 63) rfl)) rfl
theorem kw_5_64 : (Cond.selects RX10 yX10_quota yX10_quota) ∈ TG := tg (tb_5 (List.mem_of_getElem? (i := 64) rfl)) rfl
theorem kw_2_107 : (Cond.code yX9_days cX9_days 2 (some .int)) ∈ TG := tg (tb_2 (List.mem_of_getElem? (i := 107) rfl)) rfl
theorem kw_2_105 : (Cond.instanceMethod yX9_days) ∈ TG := tg (tb_2 (List.mem_of_getElem? (i := 105) rfl)) rfl
theorem kw_2_106 : (Cond.selects RX9 yX9_days yX9_days) ∈ TG := tg (tb_2 (List.mem_of_getElem? (i := 106) rfl)) rfl
theorem kw_5_69 : (Cond.code yX10_days cX10_days 2 (some .int)) ∈ TG := tg (tb_5 (List.mem_of_getElem? (i := 69) rfl)) rfl
theorem kw_5_67 : (Cond.instanceMethod yX10_days) ∈ TG := tg (tb_5 (List.mem_of_getElem? (i := 67) rfl)) rfl
theorem kw_5_68 : (Cond.selects RX10 yX10_days yX10_days) ∈ TG := tg (tb_5 (List.mem_of_getElem? (i := 68) rfl)) rfl
theorem kw_2_145 : (Cond.code yX9_carries cX9_carries 3 (some .int)) ∈ TG := tg (tb_2 (List.mem_of_getElem? (i := 145) rfl)) rfl
theorem kw_2_143 : (Cond.instanceMethod yX9_carries) ∈ TG := tg (tb_2 (List.mem_of_getElem? (i := 143) rfl)) rfl
theorem kw_2_144 : (Cond.selects RX9 yX9_carries yX9_carries) ∈ TG := tg (tb_2 (List.mem_of_getElem? (i := 144) rfl)) rfl
theorem kw_5_97 : (Cond.code yX10_carries cX10_carries 2 (some .int)) ∈ TG := tg (tb_5 (List.mem_of_getElem? (i := 97) rfl)) rfl
theorem kw_5_95 : (Cond.instanceMethod yX10_carries) ∈ TG := tg (tb_5 (List.mem_of_getElem? (i := 95) rfl)) rfl
theorem kw_5_96 : (Cond.selects RX10 yX10_carries yX10_carries) ∈ TG := tg (tb_5 (List.mem_of_getElem? (i := 96) rfl)) rfl
theorem kw_2_156 : (Cond.code yX9_moodThen cX9_moodThen 3 (some .int)) ∈ TG := tg (tb_2 (List.mem_of_getElem? (i := 156) rfl)) rfl
theorem kw_2_154 : (Cond.instanceMethod yX9_moodThen) ∈ TG := tg (tb_2 (List.mem_of_getElem? (i := 154) rfl)) rfl
theorem kw_2_155 : (Cond.selects RX9 yX9_moodThen yX9_moodThen) ∈ TG := tg (tb_2 (List.mem_of_getElem? (i := 155) rfl)) rfl
theorem kw_5_104 : (Cond.code yX10_moodThen cX10_moodThen 3 (some .int)) ∈ TG := tg (tb_5 (List.mem_of_getElem? (i := 104) rfl)) rfl
theorem kw_5_102 : (Cond.instanceMethod yX10_moodThen) ∈ TG := tg (tb_5 (List.mem_of_getElem? (i := 102) rfl)) rfl
theorem kw_5_103 : (Cond.selects RX10 yX10_moodThen yX10_moodThen) ∈ TG := tg (tb_5 (List.mem_of_getElem? (i := 103) rfl)) rfl
theorem kw_2_163 : (Cond.code yX9_then cX9_then 3 (some .int)) ∈ TG := tg (tb_2 (List.mem_of_getElem? (i := 163) rfl)) rfl
theorem kw_2_161 : (Cond.instanceMethod yX9_then) ∈ TG := tg (tb_2 (List.mem_of_getElem? (i := 161) rfl)) rfl
theorem kw_2_162 : (Cond.selects RX9 yX9_then yX9_then) ∈ TG := tg (tb_2 (List.mem_of_getElem? (i := 162) rfl)) rfl
theorem kw_5_115 : (Cond.code yX10_then cX10_then 3 (some .int)) ∈ TG := tg (tb_5 (List.mem_of_getElem? (i := 115) rfl)) rfl
theorem kw_5_113 : (Cond.instanceMethod yX10_then) ∈ TG := tg (tb_5 (List.mem_of_getElem? (i := 113) rfl)) rfl
theorem kw_5_114 : (Cond.selects RX10 yX10_then yX10_then) ∈ TG := tg (tb_5 (List.mem_of_getElem? (i := 114) rfl)) rfl
theorem kw_2_167 : (Cond.code yX9_when cX9_when 3 (some .int)) ∈ TG := tg (tb_2 (List.mem_of_getElem? (i := 167) rfl)) rfl
theorem kw_2_165 : (Cond.instanceMethod yX9_when) ∈ TG := tg (tb_2 (List.mem_of_getElem? (i := 165) rfl)) rfl
theorem kw_2_166 : (Cond.selects RX9 yX9_when yX9_when) ∈ TG := tg (tb_2 (List.mem_of_getElem? (i := 166) rfl)) rfl
theorem kw_5_119 : (Cond.code yX10_when cX10_when 2 (some .int)) ∈ TG := tg (tb_5 (List.mem_of_getElem? (i := 119) rfl)) rfl
theorem kw_5_117 : (Cond.instanceMethod yX10_when) ∈ TG := tg (tb_5 (List.mem_of_getElem? (i := 117) rfl)) rfl
theorem kw_5_118 : (Cond.selects RX10 yX10_when yX10_when) ∈ TG := tg (tb_5 (List.mem_of_getElem? (i := 118) rfl)) rfl
theorem kw_2_173 : (Cond.code yX9_holds cX9_holds 2 (some .int)) ∈ TG := tg (tb_2 (List.mem_of_getElem? (i := 173) rfl)) rfl
theorem kw_2_171 : (Cond.instanceMethod yX9_holds) ∈ TG := tg (tb_2 (List.mem_of_getElem? (i := 171) rfl)) rfl
theorem kw_2_172 : (Cond.selects RX9 yX9_holds yX9_holds) ∈ TG := tg (tb_2 (List.mem_of_getElem? (i := 172) rfl)) rfl
theorem kw_5_123 : (Cond.code yX10_holds cX10_holds 2 (some .int)) ∈ TG := tg (tb_5 (List.mem_of_getElem? (i := 123) rfl)) rfl
theorem kw_5_121 : (Cond.instanceMethod yX10_holds) ∈ TG := tg (tb_5 (List.mem_of_getElem? (i := 121) rfl)) rfl
theorem kw_5_122 : (Cond.selects RX10 yX10_holds yX10_holds) ∈ TG := tg (tb_5 (List.mem_of_getElem? (i := 122) rfl)) rfl
theorem kw_2_183 : (Cond.code yX9_could cX9_could 2 (some .int)) ∈ TG := tg (tb_2 (List.mem_of_getElem? (i := 183) rfl)) rfl
theorem kw_2_181 : (Cond.instanceMethod yX9_could) ∈ TG := tg (tb_2 (List.mem_of_getElem? (i := 181) rfl)) rfl
theorem kw_2_182 : (Cond.selects RX9 yX9_could yX9_could) ∈ TG := tg (tb_2 (List.mem_of_getElem? (i := 182) rfl)) rfl
theorem kw_5_135 : (Cond.code yX10_could cX10_could 2 (some .int)) ∈ TG := tg (tb_5 (List.mem_of_getElem? (i := 135) rfl)) rfl
theorem kw_5_133 : (Cond.instanceMethod yX10_could) ∈ TG := tg (tb_5 (List.mem_of_getElem? (i := 133) rfl)) rfl
theorem kw_5_134 : (Cond.selects RX10 yX10_could yX10_could) ∈ TG := tg (tb_5 (List.mem_of_getElem? (i := 134) rfl)) rfl
theorem kw_2_199 : (Cond.code yX9_power cX9_power 3 (some .long)) ∈ TG := tg (tb_2 (List.mem_of_getElem? (i := 199) rfl)) rfl
theorem kw_2_197 : (Cond.instanceMethod yX9_power) ∈ TG := tg (tb_2 (List.mem_of_getElem? (i := 197) rfl)) rfl
theorem kw_2_198 : (Cond.selects RX9 yX9_power yX9_power) ∈ TG := tg (tb_2 (List.mem_of_getElem? (i := 198) rfl)) rfl
theorem kw_5_147 : (Cond.code yX10_power cX10_power 7 (some .long)) ∈ TG := tg (tb_5 (List.mem_of_getElem? (i := 147) rfl)) rfl
theorem kw_5_145 : (Cond.instanceMethod yX10_power) ∈ TG := tg (tb_5 (List.mem_of_getElem? (i := 145) rfl)) rfl
theorem kw_5_146 : (Cond.selects RX10 yX10_power yX10_power) ∈ TG := tg (tb_5 (List.mem_of_getElem? (i := 146) rfl)) rfl
theorem kw_2_229 : (Cond.code yX9_groups cX9_groups 2 (some .int)) ∈ TG := tg (tb_2 (List.mem_of_getElem? (i := 229) rfl)) rfl
theorem kw_2_227 : (Cond.instanceMethod yX9_groups) ∈ TG := tg (tb_2 (List.mem_of_getElem? (i := 227) rfl)) rfl
theorem kw_2_228 : (Cond.selects RX9 yX9_groups yX9_groups) ∈ TG := tg (tb_2 (List.mem_of_getElem? (i := 228) rfl)) rfl
theorem kw_5_172 : (Cond.code yX10_groups cX10_groups 2 (some .int)) ∈ TG := tg (tb_5 (List.mem_of_getElem? (i := 172) rfl)) rfl
theorem kw_5_170 : (Cond.instanceMethod yX10_groups) ∈ TG := tg (tb_5 (List.mem_of_getElem? (i := 170) rfl)) rfl
theorem kw_5_171 : (Cond.selects RX10 yX10_groups yX10_groups) ∈ TG := tg (tb_5 (List.mem_of_getElem? (i := 171) rfl)) rfl
theorem kw_3_8 : (Cond.code yX9_swings cX9_swings 2 (some .int)) ∈ TG := tg (tb_3 (List.mem_of_getElem? (i := 8) rfl)) rfl
theorem kw_3_6 : (Cond.instanceMethod yX9_swings) ∈ TG := tg (tb_3 (List.mem_of_getElem? (i := 6) rfl)) rfl
theorem kw_3_7 : (Cond.selects RX9 yX9_swings yX9_swings) ∈ TG := tg (tb_3 (List.mem_of_getElem? (i := 7) rfl)) rfl
theorem kw_5_192 : (Cond.code yX10_swings cX10_swings 4 (some .int)) ∈ TG := tg (tb_5 (List.mem_of_getElem? (i := 192) rfl)) rfl
theorem kw_5_190 : (Cond.instanceMethod yX10_swings) ∈ TG := tg (tb_5 (List.mem_of_getElem? (i := 190) rfl)) rfl
theorem kw_5_191 : (Cond.selects RX10 yX10_swings yX10_swings) ∈ TG := tg (tb_5 (List.mem_of_getElem? (i := 191) rfl)) rfl
theorem kw_3_15 : (Cond.code yX9_win cX9_win 3 (some .int)) ∈ TG := tg (tb_3 (List.mem_of_getElem? (i := 15) rfl)) rfl
theorem kw_3_13 : (Cond.instanceMethod yX9_win) ∈ TG := tg (tb_3 (List.mem_of_getElem? (i := 13) rfl)) rfl
theorem kw_3_14 : (Cond.selects RX9 yX9_win yX9_win) ∈ TG := tg (tb_3 (List.mem_of_getElem? (i := 14) rfl)) rfl
theorem kw_5_196 : (Cond.code yX10_win cX10_win 4 (some .int)) ∈ TG := tg (tb_5 (List.mem_of_getElem? (i := 196) rfl)) rfl
theorem kw_5_194 : (Cond.instanceMethod yX10_win) ∈ TG := tg (tb_5 (List.mem_of_getElem? (i := 194) rfl)) rfl
theorem kw_5_195 : (Cond.selects RX10 yX10_win yX10_win) ∈ TG := tg (tb_5 (List.mem_of_getElem? (i := 195) rfl)) rfl
theorem kw_3_28 : (Cond.code yX9_guest cX9_guest 8 (some .int)) ∈ TG := tg (tb_3 (List.mem_of_getElem? (i := 28) rfl)) rfl
theorem kw_3_26 : (Cond.instanceMethod yX9_guest) ∈ TG := tg (tb_3 (List.mem_of_getElem? (i := 26) rfl)) rfl
theorem kw_3_27 : (Cond.selects RX9 yX9_guest yX9_guest) ∈ TG := tg (tb_3 (List.mem_of_getElem? (i := 27) rfl)) rfl
theorem kw_5_204 : (Cond.code yX10_guest cX10_guest 8 (some .int)) ∈ TG := tg (tb_5 (List.mem_of_getElem? (i := 204) rfl)) rfl
theorem kw_5_202 : (Cond.instanceMethod yX10_guest) ∈ TG := tg (tb_5 (List.mem_of_getElem? (i := 202) rfl)) rfl
theorem kw_5_203 : (Cond.selects RX10 yX10_guest yX10_guest) ∈ TG := tg (tb_5 (List.mem_of_getElem? (i := 203) rfl)) rfl
theorem kw_3_32 : (Cond.code yX9_shutter cX9_shutter 6 (some .int)) ∈ TG := tg (tb_3 (List.mem_of_getElem? (i := 32) rfl)) rfl
theorem kw_3_30 : (Cond.instanceMethod yX9_shutter) ∈ TG := tg (tb_3 (List.mem_of_getElem? (i := 30) rfl)) rfl
theorem kw_3_31 : (Cond.selects RX9 yX9_shutter yX9_shutter) ∈ TG := tg (tb_3 (List.mem_of_getElem? (i := 31) rfl)) rfl
theorem kw_5_208 : (Cond.code yX10_shutter cX10_shutter 6 (some .int)) ∈ TG := tg (tb_5 (List.mem_of_getElem? (i := 208) rfl)) rfl
theorem kw_5_206 : (Cond.instanceMethod yX10_shutter) ∈ TG := tg (tb_5 (List.mem_of_getElem? (i := 206) rfl)) rfl
theorem kw_5_207 : (Cond.selects RX10 yX10_shutter yX10_shutter) ∈ TG := tg (tb_5 (List.mem_of_getElem? (i := 207) rfl)) rfl
theorem kw_3_36 : (Cond.code yX9_quotaMost cX9_quotaMost 2 (some .int)) ∈ TG := tg (tb_3 (List.mem_of_getElem? (i := 36) rfl)) rfl
theorem kw_3_34 : (Cond.instanceMethod yX9_quotaMost) ∈ TG := tg (tb_3 (List.mem_of_getElem? (i := 34) rfl)) rfl
theorem kw_3_35 : (Cond.selects RX9 yX9_quotaMost yX9_quotaMost) ∈ TG := tg (tb_3 (List.mem_of_getElem? (i := 35) rfl)) rfl
theorem kw_5_212 : (Cond.code yX10_quotaMost cX10_quotaMost 2 (some .int)) ∈ TG := tg (tb_5 (List.mem_of_getElem? (i := 212) rfl)) rfl
theorem kw_5_210 : (Cond.instanceMethod yX10_quotaMost) ∈ TG := tg (tb_5 (List.mem_of_getElem? (i := 210) rfl)) rfl
theorem kw_5_211 : (Cond.selects RX10 yX10_quotaMost yX10_quotaMost) ∈ TG := tg (tb_5 (List.mem_of_getElem? (i := 211) rfl)) rfl
theorem kw_3_41 : (Cond.code yX9_rent cX9_rent 3 (some .int)) ∈ TG := tg (tb_3 (List.mem_of_getElem? (i := 41) rfl)) rfl
theorem kw_3_39 : (Cond.instanceMethod yX9_rent) ∈ TG := tg (tb_3 (List.mem_of_getElem? (i := 39) rfl)) rfl
theorem kw_3_40 : (Cond.selects RX9 yX9_rent yX9_rent) ∈ TG := tg (tb_3 (List.mem_of_getElem? (i := 40) rfl)) rfl
theorem kw_5_216 : (Cond.code yX10_rent cX10_rent 3 (some .int)) ∈ TG := tg (tb_5 (List.mem_of_getElem? (i := 216) rfl)) rfl
theorem kw_5_214 : (Cond.instanceMethod yX10_rent) ∈ TG := tg (tb_5 (List.mem_of_getElem? (i := 214) rfl)) rfl
theorem kw_5_215 : (Cond.selects RX10 yX10_rent yX10_rent) ∈ TG := tg (tb_5 (List.mem_of_getElem? (i := 215) rfl)) rfl
theorem kw_3_49 : (Cond.code yX9_bestRail cX9_bestRail 4 (some .int)) ∈ TG := tg (tb_3 (List.mem_of_getElem? (i := 49) rfl)) rfl
theorem kw_3_47 : (Cond.instanceMethod yX9_bestRail) ∈ TG := tg (tb_3 (List.mem_of_getElem? (i := 47) rfl)) rfl
theorem kw_3_48 : (Cond.selects RX9 yX9_bestRail yX9_bestRail) ∈ TG := tg (tb_3 (List.mem_of_getElem? (i := 48) rfl)) rfl
theorem kw_5_224 : (Cond.code yX10_bestRail cX10_bestRail 4 (some .int)) ∈ TG := tg (tb_5 (List.mem_of_getElem? (i := 224) rfl)) rfl
theorem kw_5_222 : (Cond.instanceMethod yX10_bestRail) ∈ TG := tg (tb_5 (List.mem_of_getElem? (i := 222) rfl)) rfl
theorem kw_5_223 : (Cond.selects RX10 yX10_bestRail yX10_bestRail) ∈ TG := tg (tb_5 (List.mem_of_getElem? (i := 223) rfl)) rfl
theorem kw_3_53 : (Cond.code yX9_match cX9_match 2 (some .int)) ∈ TG := tg (tb_3 (List.mem_of_getElem? (i := 53) rfl)) rfl
theorem kw_3_51 : (Cond.instanceMethod yX9_match) ∈ TG := tg (tb_3 (List.mem_of_getElem? (i := 51) rfl)) rfl
theorem kw_3_52 : (Cond.selects RX9 yX9_match yX9_match) ∈ TG := tg (tb_3 (List.mem_of_getElem? (i := 52) rfl)) rfl
theorem kw_5_228 : (Cond.code yX10_match cX10_match 4 (some .int)) ∈ TG := tg (tb_5 (List.mem_of_getElem? (i := 228) rfl)) rfl
theorem kw_5_226 : (Cond.instanceMethod yX10_match) ∈ TG := tg (tb_5 (List.mem_of_getElem? (i := 226) rfl)) rfl
theorem kw_5_227 : (Cond.selects RX10 yX10_match yX10_match) ∈ TG := tg (tb_5 (List.mem_of_getElem? (i := 227) rfl)) rfl
theorem kw_3_81 : (Cond.code yX9_lines cX9_lines 2 (some .int)) ∈ TG := tg (tb_3 (List.mem_of_getElem? (i := 81) rfl)) rfl
theorem kw_3_79 : (Cond.instanceMethod yX9_lines) ∈ TG := tg (tb_3 (List.mem_of_getElem? (i := 79) rfl)) rfl
theorem kw_3_80 : (Cond.selects RX9 yX9_lines yX9_lines) ∈ TG := tg (tb_3 (List.mem_of_getElem? (i := 80) rfl)) rfl
theorem kw_6_0 : (Cond.code yX10_lines cX10_lines 6 (some .int)) ∈ TG := tg (tb_6 (List.mem_of_getElem? (i := 0) rfl)) rfl
theorem kw_5_238 : (Cond.instanceMethod yX10_lines) ∈ TG := tg (tb_5 (List.mem_of_getElem? (i := 238) rfl)) rfl
theorem kw_5_239 : (Cond.selects RX10 yX10_lines yX10_lines) ∈ TG := tg (tb_5 (List.mem_of_getElem? (i := 239) rfl)) rfl
theorem kw_3_93 : (Cond.code yX9_law cX9_law 6 (some .int)) ∈ TG := tg (tb_3 (List.mem_of_getElem? (i := 93) rfl)) rfl
theorem kw_3_91 : (Cond.instanceMethod yX9_law) ∈ TG := tg (tb_3 (List.mem_of_getElem? (i := 91) rfl)) rfl
theorem kw_3_92 : (Cond.selects RX9 yX9_law yX9_law) ∈ TG := tg (tb_3 (List.mem_of_getElem? (i := 92) rfl)) rfl
theorem kw_6_4 : (Cond.code yX10_law cX10_law 8 (some .int)) ∈ TG := tg (tb_6 (List.mem_of_getElem? (i := 4) rfl)) rfl
theorem kw_6_2 : (Cond.instanceMethod yX10_law) ∈ TG := tg (tb_6 (List.mem_of_getElem? (i := 2) rfl)) rfl
theorem kw_6_3 : (Cond.selects RX10 yX10_law yX10_law) ∈ TG := tg (tb_6 (List.mem_of_getElem? (i := 3) rfl)) rfl
theorem kw_3_114 : (Cond.code yX9_whatIs cX9_whatIs 8 (some .int)) ∈ TG := tg (tb_3 (List.mem_of_getElem? (i := 114) rfl)) rfl
theorem kw_3_112 : (Cond.instanceMethod yX9_whatIs) ∈ TG := tg (tb_3 (List.mem_of_getElem? (i := 112) rfl)) rfl
theorem kw_3_113 : (Cond.selects RX9 yX9_whatIs yX9_whatIs) ∈ TG := tg (tb_3 (List.mem_of_getElem? (i := 113) rfl)) rfl
theorem kw_6_12 : (Cond.code yX10_whatIs cX10_whatIs 10 (some .int)) ∈ TG := tg (tb_6 (List.mem_of_getElem? (i := 12) rfl)) rfl
theorem kw_6_10 : (Cond.instanceMethod yX10_whatIs) ∈ TG := tg (tb_6 (List.mem_of_getElem? (i := 10) rfl)) rfl
theorem kw_6_11 : (Cond.selects RX10 yX10_whatIs yX10_whatIs) ∈ TG := tg (tb_6 (List.mem_of_getElem? (i := 11) rfl)) rfl
theorem kw_3_133 : (Cond.code yX9_two cX9_two 5 (some .int)) ∈ TG := tg (tb_3 (List.mem_of_getElem? (i := 133) rfl)) rfl
theorem kw_3_131 : (Cond.instanceMethod yX9_two) ∈ TG := tg (tb_3 (List.mem_of_getElem? (i := 131) rfl)) rfl
theorem kw_3_132 : (Cond.selects RX9 yX9_two yX9_two) ∈ TG := tg (tb_3 (List.mem_of_getElem? (i := 132) rfl)) rfl
theorem kw_6_20 : (Cond.code yX10_two cX10_two 6 (some .int)) ∈ TG := tg (tb_6 (List.mem_of_getElem? (i := 20) rfl)) rfl
theorem kw_6_18 : (Cond.instanceMethod yX10_two) ∈ TG := tg (tb_6 (List.mem_of_getElem? (i := 18) rfl)) rfl
theorem kw_6_19 : (Cond.selects RX10 yX10_two yX10_two) ∈ TG := tg (tb_6 (List.mem_of_getElem? (i := 19) rfl)) rfl
theorem kw_3_145 : (Cond.code yX9_rain cX9_rain 8 (some .long)) ∈ TG := tg (tb_3 (List.mem_of_getElem? (i := 145) rfl)) rfl
theorem kw_3_143 : (Cond.instanceMethod yX9_rain) ∈ TG := tg (tb_3 (List.mem_of_getElem? (i := 143) rfl)) rfl
theorem kw_3_144 : (Cond.selects RX9 yX9_rain yX9_rain) ∈ TG := tg (tb_3 (List.mem_of_getElem? (i := 144) rfl)) rfl
theorem kw_6_28 : (Cond.code yX10_rain cX10_rain 12 (some .long)) ∈ TG := tg (tb_6 (List.mem_of_getElem? (i := 28) rfl)) rfl
theorem kw_6_26 : (Cond.instanceMethod yX10_rain) ∈ TG := tg (tb_6 (List.mem_of_getElem? (i := 26) rfl)) rfl
theorem kw_6_27 : (Cond.selects RX10 yX10_rain yX10_rain) ∈ TG := tg (tb_6 (List.mem_of_getElem? (i := 27) rfl)) rfl
theorem kw_3_153 : (Cond.code yX9_mean cX9_mean 4 (some .long)) ∈ TG := tg (tb_3 (List.mem_of_getElem? (i := 153) rfl)) rfl
theorem kw_3_151 : (Cond.instanceMethod yX9_mean) ∈ TG := tg (tb_3 (List.mem_of_getElem? (i := 151) rfl)) rfl
theorem kw_3_152 : (Cond.selects RX9 yX9_mean yX9_mean) ∈ TG := tg (tb_3 (List.mem_of_getElem? (i := 152) rfl)) rfl
theorem kw_6_32 : (Cond.code yX10_mean cX10_mean 5 (some .long)) ∈ TG := tg (tb_6 (List.mem_of_getElem? (i := 32) rfl)) rfl
theorem kw_6_30 : (Cond.instanceMethod yX10_mean) ∈ TG := tg (tb_6 (List.mem_of_getElem? (i := 30) rfl)) rfl
theorem kw_6_31 : (Cond.selects RX10 yX10_mean yX10_mean) ∈ TG := tg (tb_6 (List.mem_of_getElem? (i := 31) rfl)) rfl
theorem kw_3_157 : (Cond.code yX9_forged cX9_forged 5 (some .int)) ∈ TG := tg (tb_3 (List.mem_of_getElem? (i := 157) rfl)) rfl
theorem kw_3_155 : (Cond.instanceMethod yX9_forged) ∈ TG := tg (tb_3 (List.mem_of_getElem? (i := 155) rfl)) rfl
theorem kw_3_156 : (Cond.selects RX9 yX9_forged yX9_forged) ∈ TG := tg (tb_3 (List.mem_of_getElem? (i := 156) rfl)) rfl
theorem kw_6_36 : (Cond.code yX10_forged cX10_forged 4 (some .int)) ∈ TG := tg (tb_6 (List.mem_of_getElem? (i := 36) rfl)) rfl
theorem kw_6_34 : (Cond.instanceMethod yX10_forged) ∈ TG := tg (tb_6 (List.mem_of_getElem? (i := 34) rfl)) rfl
theorem kw_6_35 : (Cond.selects RX10 yX10_forged yX10_forged) ∈ TG := tg (tb_6 (List.mem_of_getElem? (i := 35) rfl)) rfl
theorem kw_3_161 : (Cond.code yX9_judge cX9_judge 5 (some .int)) ∈ TG := tg (tb_3 (List.mem_of_getElem? (i := 161) rfl)) rfl
theorem kw_3_159 : (Cond.instanceMethod yX9_judge) ∈ TG := tg (tb_3 (List.mem_of_getElem? (i := 159) rfl)) rfl
theorem kw_3_160 : (Cond.selects RX9 yX9_judge yX9_judge) ∈ TG := tg (tb_3 (List.mem_of_getElem? (i := 160) rfl)) rfl
theorem kw_6_40 : (Cond.code yX10_judge cX10_judge 5 (some .int)) ∈ TG := tg (tb_6 (List.mem_of_getElem? (i := 40) rfl)) rfl
theorem kw_6_38 : (Cond.instanceMethod yX10_judge) ∈ TG := tg (tb_6 (List.mem_of_getElem? (i := 38) rfl)) rfl
theorem kw_6_39 : (Cond.selects RX10 yX10_judge yX10_judge) ∈ TG := tg (tb_6 (List.mem_of_getElem? (i := 39) rfl)) rfl
theorem kw_3_165 : (Cond.code yX9_streets cX9_streets 8 (some .int)) ∈ TG := tg (tb_3 (List.mem_of_getElem? (i := 165) rfl)) rfl
theorem kw_3_163 : (Cond.instanceMethod yX9_streets) ∈ TG := tg (tb_3 (List.mem_of_getElem? (i := 163) rfl)) rfl
theorem kw_3_164 : (Cond.selects RX9 yX9_streets yX9_streets) ∈ TG := tg (tb_3 (List.mem_of_getElem? (i := 164) rfl)) rfl
theorem kw_6_44 : (Cond.code yX10_streets cX10_streets 7 (some .int)) ∈ TG := tg (tb_6 (List.mem_of_getElem? (i := 44) rfl)) rfl
theorem kw_6_42 : (Cond.instanceMethod yX10_streets) ∈ TG := tg (tb_6 (List.mem_of_getElem? (i := 42) rfl)) rfl
theorem kw_6_43 : (Cond.selects RX10 yX10_streets yX10_streets) ∈ TG := tg (tb_6 (List.mem_of_getElem? (i := 43) rfl)) rfl
theorem kw_3_182 : (Cond.code yX9_image cX9_image 1 (some .int)) ∈ TG := tg (tb_3 (List.mem_of_getElem? (i := 182) rfl)) rfl
theorem kw_3_180 : (Cond.instanceMethod yX9_image) ∈ TG := tg (tb_3 (List.mem_of_getElem? (i := 180) rfl)) rfl
theorem kw_3_181 : (Cond.selects RX9 yX9_image yX9_image) ∈ TG := tg (tb_3 (List.mem_of_getElem? (i := 181) rfl)) rfl
theorem kw_6_55 : (Cond.code yX10_image cX10_image 1 (some .int)) ∈ TG := tg (tb_6 (List.mem_of_getElem? (i := 55) rfl)) rfl
theorem kw_6_53 : (Cond.instanceMethod yX10_image) ∈ TG := tg (tb_6 (List.mem_of_getElem? (i := 53) rfl)) rfl
theorem kw_6_54 : (Cond.selects RX10 yX10_image yX10_image) ∈ TG := tg (tb_6 (List.mem_of_getElem? (i := 54) rfl)) rfl
theorem kw_3_186 : (Cond.code yX9_restore cX9_restore 1 (some .int)) ∈ TG := tg (tb_3 (List.mem_of_getElem? (i := 186) rfl)) rfl
theorem kw_3_184 : (Cond.instanceMethod yX9_restore) ∈ TG := tg (tb_3 (List.mem_of_getElem? (i := 184) rfl)) rfl
theorem kw_3_185 : (Cond.selects RX9 yX9_restore yX9_restore) ∈ TG := tg (tb_3 (List.mem_of_getElem? (i := 185) rfl)) rfl
theorem kw_6_59 : (Cond.code yX10_restore cX10_restore 1 (some .int)) ∈ TG := tg (tb_6 (List.mem_of_getElem? (i := 59) rfl)) rfl
theorem kw_6_57 : (Cond.instanceMethod yX10_restore) ∈ TG := tg (tb_6 (List.mem_of_getElem? (i := 57) rfl)) rfl
theorem kw_6_58 : (Cond.selects RX10 yX10_restore yX10_restore) ∈ TG := tg (tb_6 (List.mem_of_getElem? (i := 58) rfl)) rfl
theorem kw_3_190 : (Cond.code yX9_count cX9_count 2 (some .int)) ∈ TG := tg (tb_3 (List.mem_of_getElem? (i := 190) rfl)) rfl
theorem kw_3_188 : (Cond.instanceMethod yX9_count) ∈ TG := tg (tb_3 (List.mem_of_getElem? (i := 188) rfl)) rfl
theorem kw_3_189 : (Cond.selects RX9 yX9_count yX9_count) ∈ TG := tg (tb_3 (List.mem_of_getElem? (i := 189) rfl)) rfl
theorem kw_6_63 : (Cond.code yX10_count cX10_count 2 (some .int)) ∈ TG := tg (tb_6 (List.mem_of_getElem? (i := 63) rfl)) rfl
theorem kw_6_61 : (Cond.instanceMethod yX10_count) ∈ TG := tg (tb_6 (List.mem_of_getElem? (i := 61) rfl)) rfl
theorem kw_6_62 : (Cond.selects RX10 yX10_count yX10_count) ∈ TG := tg (tb_6 (List.mem_of_getElem? (i := 62) rfl)) rfl
theorem kw_3_199 : (Cond.code yX9_keep cX9_keep 5 (some .int)) ∈ TG := tg (tb_3 (List.mem_of_getElem? (i := 199) rfl)) rfl
theorem kw_3_197 : (Cond.instanceMethod yX9_keep) ∈ TG := tg (tb_3 (List.mem_of_getElem? (i := 197) rfl)) rfl
theorem kw_3_198 : (Cond.selects RX9 yX9_keep yX9_keep) ∈ TG := tg (tb_3 (List.mem_of_getElem? (i := 198) rfl)) rfl
theorem kw_6_71 : (Cond.code yX10_keep cX10_keep 5 (some .int)) ∈ TG := tg (tb_6 (List.mem_of_getElem? (i := 71) rfl)) rfl
theorem kw_6_69 : (Cond.instanceMethod yX10_keep) ∈ TG := tg (tb_6 (List.mem_of_getElem? (i := 69) rfl)) rfl
theorem kw_6_70 : (Cond.selects RX10 yX10_keep yX10_keep) ∈ TG := tg (tb_6 (List.mem_of_getElem? (i := 70) rfl)) rfl
theorem kw_3_207 : (Cond.code yX9_row cX9_row 4 (some .int)) ∈ TG := tg (tb_3 (List.mem_of_getElem? (i := 207) rfl)) rfl
theorem kw_3_205 : (Cond.instanceMethod yX9_row) ∈ TG := tg (tb_3 (List.mem_of_getElem? (i := 205) rfl)) rfl
theorem kw_3_206 : (Cond.selects RX9 yX9_row yX9_row) ∈ TG := tg (tb_3 (List.mem_of_getElem? (i := 206) rfl)) rfl
theorem kw_6_75 : (Cond.code yX10_row cX10_row 5 (some .int)) ∈ TG := tg (tb_6 (List.mem_of_getElem? (i := 75) rfl)) rfl
theorem kw_6_73 : (Cond.instanceMethod yX10_row) ∈ TG := tg (tb_6 (List.mem_of_getElem? (i := 73) rfl)) rfl
theorem kw_6_74 : (Cond.selects RX10 yX10_row yX10_row) ∈ TG := tg (tb_6 (List.mem_of_getElem? (i := 74) rfl)) rfl
theorem kw_3_215 : (Cond.code yX9_put cX9_put 5 (some .int)) ∈ TG := tg (tb_3 (List.mem_of_getElem? (i := 215) rfl)) rfl
theorem kw_3_213 : (Cond.instanceMethod yX9_put) ∈ TG := tg (tb_3 (List.mem_of_getElem? (i := 213) rfl)) rfl
theorem kw_3_214 : (Cond.selects RX9 yX9_put yX9_put) ∈ TG := tg (tb_3 (List.mem_of_getElem? (i := 214) rfl)) rfl
theorem kw_6_79 : (Cond.code yX10_put cX10_put 5 (some .int)) ∈ TG := tg (tb_6 (List.mem_of_getElem? (i := 79) rfl)) rfl
theorem kw_6_77 : (Cond.instanceMethod yX10_put) ∈ TG := tg (tb_6 (List.mem_of_getElem? (i := 77) rfl)) rfl
theorem kw_6_78 : (Cond.selects RX10 yX10_put yX10_put) ∈ TG := tg (tb_6 (List.mem_of_getElem? (i := 78) rfl)) rfl
theorem kw_3_237 : (Cond.code yX9_cost cX9_cost 3 (some .int)) ∈ TG := tg (tb_3 (List.mem_of_getElem? (i := 237) rfl)) rfl
theorem kw_3_235 : (Cond.instanceMethod yX9_cost) ∈ TG := tg (tb_3 (List.mem_of_getElem? (i := 235) rfl)) rfl
theorem kw_3_236 : (Cond.selects RX9 yX9_cost yX9_cost) ∈ TG := tg (tb_3 (List.mem_of_getElem? (i := 236) rfl)) rfl
theorem kw_6_91 : (Cond.code yX10_cost cX10_cost 3 (some .int)) ∈ TG := tg (tb_6 (List.mem_of_getElem? (i := 91) rfl)) rfl
theorem kw_6_89 : (Cond.instanceMethod yX10_cost) ∈ TG := tg (tb_6 (List.mem_of_getElem? (i := 89) rfl)) rfl
theorem kw_6_90 : (Cond.selects RX10 yX10_cost yX10_cost) ∈ TG := tg (tb_6 (List.mem_of_getElem? (i := 90) rfl)) rfl
theorem kw_3_228 : (Cond.code yX9_copy cX9_copy 8 (some .int)) ∈ TG := tg (tb_3 (List.mem_of_getElem? (i := 228) rfl)) rfl
theorem kw_3_226 : (Cond.instanceMethod yX9_copy) ∈ TG := tg (tb_3 (List.mem_of_getElem? (i := 226) rfl)) rfl
theorem kw_3_227 : (Cond.selects RX9 yX9_copy yX9_copy) ∈ TG := tg (tb_3 (List.mem_of_getElem? (i := 227) rfl)) rfl
theorem kw_6_87 : (Cond.code yX10_copy cX10_copy 8 (some .int)) ∈ TG := tg (tb_6 (List.mem_of_getElem? (i := 87) rfl)) rfl
theorem kw_6_85 : (Cond.instanceMethod yX10_copy) ∈ TG := tg (tb_6 (List.mem_of_getElem? (i := 85) rfl)) rfl
theorem kw_6_86 : (Cond.selects RX10 yX10_copy yX10_copy) ∈ TG := tg (tb_6 (List.mem_of_getElem? (i := 86) rfl)) rfl
theorem kw_6_98 : (Cond.code yX10_toss cX10_toss 5 (some .int)) ∈ TG := tg (tb_6 (List.mem_of_getElem? (i := 98) rfl)) rfl
theorem kw_6_96 : (Cond.instanceMethod yX10_toss) ∈ TG := tg (tb_6 (List.mem_of_getElem? (i := 96) rfl)) rfl
theorem kw_6_97 : (Cond.selects RX10 yX10_toss yX10_toss) ∈ TG := tg (tb_6 (List.mem_of_getElem? (i := 97) rfl)) rfl
theorem kw_6_83 : (Cond.code yX10_element cX10_element 3 (some .long)) ∈ TG := tg (tb_6 (List.mem_of_getElem? (i := 83) rfl)) rfl
theorem kw_6_81 : (Cond.instanceMethod yX10_element) ∈ TG := tg (tb_6 (List.mem_of_getElem? (i := 81) rfl)) rfl
theorem kw_6_82 : (Cond.selects RX10 yX10_element yX10_element) ∈ TG := tg (tb_6 (List.mem_of_getElem? (i := 82) rfl)) rfl
theorem kw_6_67 : (Cond.code yX10_thrown cX10_thrown 1 (some .int)) ∈ TG := tg (tb_6 (List.mem_of_getElem? (i := 67) rfl)) rfl
theorem kw_6_65 : (Cond.instanceMethod yX10_thrown) ∈ TG := tg (tb_6 (List.mem_of_getElem? (i := 65) rfl)) rfl
theorem kw_6_66 : (Cond.selects RX10 yX10_thrown yX10_thrown) ∈ TG := tg (tb_6 (List.mem_of_getElem? (i := 66) rfl)) rfl
theorem kw_4_114 : (Cond.methodLink RL 191 yL_element) ∈ TG := tg (tb_4 (List.mem_of_getElem? (i := 114) rfl)) rfl
theorem kw_6_80 : (Cond.methodLink RL 196 yX10_element) ∈ TG := tg (tb_6 (List.mem_of_getElem? (i := 80) rfl)) rfl
theorem kw_6_64 : (Cond.methodLink RL 197 yX10_thrown) ∈ TG := tg (tb_6 (List.mem_of_getElem? (i := 64) rfl)) rfl
theorem kw_3_225 : (Cond.methodLink RL 200 yX9_copy) ∈ TG := tg (tb_3 (List.mem_of_getElem? (i := 225) rfl)) rfl
theorem kw_6_84 : (Cond.methodLink RL 204 yX10_copy) ∈ TG := tg (tb_6 (List.mem_of_getElem? (i := 84) rfl)) rfl
theorem kw_4_4 : (Cond.methodLink RL 209 yX9_toss) ∈ TG := tg (tb_4 (List.mem_of_getElem? (i := 4) rfl)) rfl
theorem kw_6_95 : (Cond.methodLink RL 212 yX10_toss) ∈ TG := tg (tb_6 (List.mem_of_getElem? (i := 95) rfl)) rfl
theorem q_X9_quarter : CalV yX9_quarter cX9_quarter 4 (some .int) 1 := ⟨kw_1_160, kw_1_158, kw_1_159, kw_1_1, by decide +kernel, by decide +kernel, by decide +kernel⟩
theorem q_X10_quarter : CalV yX10_quarter cX10_quarter 8 (some .int) 1 := ⟨kw_4_192, kw_4_190, kw_4_191, kw_1_5, by decide +kernel, by decide +kernel, by decide +kernel⟩
theorem q_X9_speaker : CalV yX9_speaker cX9_speaker 3 (some .int) 2 := ⟨kw_2_49, kw_2_47, kw_2_48, kw_1_1, by decide +kernel, by decide +kernel, by decide +kernel⟩
theorem q_X10_speaker : CalV yX10_speaker cX10_speaker 3 (some .int) 2 := ⟨kw_5_23, kw_5_21, kw_5_22, kw_1_5, by decide +kernel, by decide +kernel, by decide +kernel⟩
theorem q_X9_balcony : CalV yX9_balcony cX9_balcony 3 (some .int) 2 := ⟨kw_2_66, kw_2_64, kw_2_65, kw_1_1, by decide +kernel, by decide +kernel, by decide +kernel⟩
theorem q_X10_balcony : CalV yX10_balcony cX10_balcony 5 (some .int) 2 := ⟨kw_5_33, kw_5_31, kw_5_32, kw_1_5, by decide +kernel, by decide +kernel, by decide +kernel⟩
theorem q_X9_comes : CalV yX9_comes cX9_comes 4 (some .int) 2 := ⟨kw_2_79, kw_2_77, kw_2_78, kw_1_1, by decide +kernel, by decide +kernel, by decide +kernel⟩
theorem q_X10_comes : CalV yX10_comes cX10_comes 4 (some .int) 2 := ⟨kw_5_40, kw_5_38, kw_5_39, kw_1_5, by decide +kernel, by decide +kernel, by decide +kernel⟩
theorem q_X9_builds : CalV yX9_builds cX9_builds 4 (some .int) 2 := ⟨kw_2_85, kw_2_83, kw_2_84, kw_1_1, by decide +kernel, by decide +kernel, by decide +kernel⟩
theorem q_X10_builds : CalV yX10_builds cX10_builds 4 (some .int) 2 := ⟨kw_5_48, kw_5_46, kw_5_47, kw_1_5, by decide +kernel, by decide +kernel, by decide +kernel⟩
theorem q_X9_shuts : CalV yX9_shuts cX9_shuts 2 (some .int) 1 := ⟨kw_2_89, kw_2_87, kw_2_88, kw_1_1, by decide +kernel, by decide +kernel, by decide +kernel⟩
theorem q_X10_shuts : CalV yX10_shuts cX10_shuts 2 (some .int) 1 := ⟨kw_5_52, kw_5_50, kw_5_51, kw_1_5, by decide +kernel, by decide +kernel, by decide +kernel⟩
theorem q_X9_thinks : CalV yX9_thinks cX9_thinks 4 (some .int) 2 := ⟨kw_2_94, kw_2_92, kw_2_93, kw_1_1, by decide +kernel, by decide +kernel, by decide +kernel⟩
theorem q_X10_thinks : CalV yX10_thinks cX10_thinks 4 (some .int) 2 := ⟨kw_5_56, kw_5_54, kw_5_55, kw_1_5, by decide +kernel, by decide +kernel, by decide +kernel⟩
theorem q_X9_goes : CalV yX9_goes cX9_goes 4 (some .int) 2 := ⟨kw_2_99, kw_2_97, kw_2_98, kw_1_1, by decide +kernel, by decide +kernel, by decide +kernel⟩
theorem q_X10_goes : CalV yX10_goes cX10_goes 4 (some .int) 2 := ⟨kw_5_61, kw_5_59, kw_5_60, kw_1_5, by decide +kernel, by decide +kernel, by decide +kernel⟩
theorem q_X9_quota : CalV yX9_quota cX9_quota 3 (some .int) 1 := ⟨kw_2_103, kw_2_101, kw_2_102, kw_1_1, by decide +kernel, by decide +kernel, by decide +kernel⟩
theorem q_X10_quota : CalV yX10_quota cX10_quota 3 (some .int) 1 := ⟨kw_5_65, kw_5_63, kw_5_64, kw_1_5, by decide +kernel, by decide +kernel, by decide +kernel⟩
theorem q_X9_days : CalV yX9_days cX9_days 2 (some .int) 1 := ⟨kw_2_107, kw_2_105, kw_2_106, kw_1_1, by decide +kernel, by decide +kernel, by decide +kernel⟩
theorem q_X10_days : CalV yX10_days cX10_days 2 (some .int) 1 := ⟨kw_5_69, kw_5_67, kw_5_68, kw_1_5, by decide +kernel, by decide +kernel, by decide +kernel⟩
theorem q_X9_carries : CalV yX9_carries cX9_carries 3 (some .int) 1 := ⟨kw_2_145, kw_2_143, kw_2_144, kw_1_1, by decide +kernel, by decide +kernel, by decide +kernel⟩
theorem q_X10_carries : CalV yX10_carries cX10_carries 2 (some .int) 1 := ⟨kw_5_97, kw_5_95, kw_5_96, kw_1_5, by decide +kernel, by decide +kernel, by decide +kernel⟩
theorem q_X9_moodThen : CalV yX9_moodThen cX9_moodThen 3 (some .int) 2 := ⟨kw_2_156, kw_2_154, kw_2_155, kw_1_1, by decide +kernel, by decide +kernel, by decide +kernel⟩
theorem q_X10_moodThen : CalV yX10_moodThen cX10_moodThen 3 (some .int) 2 := ⟨kw_5_104, kw_5_102, kw_5_103, kw_1_5, by decide +kernel, by decide +kernel, by decide +kernel⟩
theorem q_X9_then : CalV yX9_then cX9_then 3 (some .int) 2 := ⟨kw_2_163, kw_2_161, kw_2_162, kw_1_1, by decide +kernel, by decide +kernel, by decide +kernel⟩
theorem q_X10_then : CalV yX10_then cX10_then 3 (some .int) 2 := ⟨kw_5_115, kw_5_113, kw_5_114, kw_1_5, by decide +kernel, by decide +kernel, by decide +kernel⟩
theorem q_X9_when : CalV yX9_when cX9_when 3 (some .int) 0 := ⟨kw_2_167, kw_2_165, kw_2_166, kw_1_1, by decide +kernel, by decide +kernel, by decide +kernel⟩
theorem q_X10_when : CalV yX10_when cX10_when 2 (some .int) 0 := ⟨kw_5_119, kw_5_117, kw_5_118, kw_1_5, by decide +kernel, by decide +kernel, by decide +kernel⟩
theorem q_X9_holds : CalV yX9_holds cX9_holds 2 (some .int) 1 := ⟨kw_2_173, kw_2_171, kw_2_172, kw_1_1, by decide +kernel, by decide +kernel, by decide +kernel⟩
theorem q_X10_holds : CalV yX10_holds cX10_holds 2 (some .int) 1 := ⟨kw_5_123, kw_5_121, kw_5_122, kw_1_5, by decide +kernel, by decide +kernel, by decide +kernel⟩
theorem q_X9_could : CalV yX9_could cX9_could 2 (some .int) 1 := ⟨kw_2_183, kw_2_181, kw_2_182, kw_1_1, by decide +kernel, by decide +kernel, by decide +kernel⟩
theorem q_X10_could : CalV yX10_could cX10_could 2 (some .int) 1 := ⟨kw_5_135, kw_5_133, kw_5_134, kw_1_5, by decide +kernel, by decide +kernel, by decide +kernel⟩
theorem q_X9_power : CalV yX9_power cX9_power 3 (some .long) 2 := ⟨kw_2_199, kw_2_197, kw_2_198, kw_1_1, by decide +kernel, by decide +kernel, by decide +kernel⟩
theorem q_X10_power : CalV yX10_power cX10_power 7 (some .long) 2 := ⟨kw_5_147, kw_5_145, kw_5_146, kw_1_5, by decide +kernel, by decide +kernel, by decide +kernel⟩
theorem q_X9_groups : CalV yX9_groups cX9_groups 2 (some .int) 1 := ⟨kw_2_229, kw_2_227, kw_2_228, kw_1_1, by decide +kernel, by decide +kernel, by decide +kernel⟩
theorem q_X10_groups : CalV yX10_groups cX10_groups 2 (some .int) 1 := ⟨kw_5_172, kw_5_170, kw_5_171, kw_1_5, by decide +kernel, by decide +kernel, by decide +kernel⟩
theorem q_X9_swings : CalV yX9_swings cX9_swings 2 (some .int) 1 := ⟨kw_3_8, kw_3_6, kw_3_7, kw_1_1, by decide +kernel, by decide +kernel, by decide +kernel⟩
theorem q_X10_swings : CalV yX10_swings cX10_swings 4 (some .int) 1 := ⟨kw_5_192, kw_5_190, kw_5_191, kw_1_5, by decide +kernel, by decide +kernel, by decide +kernel⟩
theorem q_X9_win : CalV yX9_win cX9_win 3 (some .int) 1 := ⟨kw_3_15, kw_3_13, kw_3_14, kw_1_1, by decide +kernel, by decide +kernel, by decide +kernel⟩
theorem q_X10_win : CalV yX10_win cX10_win 4 (some .int) 1 := ⟨kw_5_196, kw_5_194, kw_5_195, kw_1_5, by decide +kernel, by decide +kernel, by decide +kernel⟩
theorem q_X9_guest : CalV yX9_guest cX9_guest 8 (some .int) 3 := ⟨kw_3_28, kw_3_26, kw_3_27, kw_1_1, by decide +kernel, by decide +kernel, by decide +kernel⟩
theorem q_X10_guest : CalV yX10_guest cX10_guest 8 (some .int) 3 := ⟨kw_5_204, kw_5_202, kw_5_203, kw_1_5, by decide +kernel, by decide +kernel, by decide +kernel⟩
theorem q_X9_shutter : CalV yX9_shutter cX9_shutter 6 (some .int) 1 := ⟨kw_3_32, kw_3_30, kw_3_31, kw_1_1, by decide +kernel, by decide +kernel, by decide +kernel⟩
theorem q_X10_shutter : CalV yX10_shutter cX10_shutter 6 (some .int) 1 := ⟨kw_5_208, kw_5_206, kw_5_207, kw_1_5, by decide +kernel, by decide +kernel, by decide +kernel⟩
theorem q_X9_quotaMost : CalV yX9_quotaMost cX9_quotaMost 2 (some .int) 0 := ⟨kw_3_36, kw_3_34, kw_3_35, kw_1_1, by decide +kernel, by decide +kernel, by decide +kernel⟩
theorem q_X10_quotaMost : CalV yX10_quotaMost cX10_quotaMost 2 (some .int) 0 := ⟨kw_5_212, kw_5_210, kw_5_211, kw_1_5, by decide +kernel, by decide +kernel, by decide +kernel⟩
theorem q_X9_rent : CalV yX9_rent cX9_rent 3 (some .int) 2 := ⟨kw_3_41, kw_3_39, kw_3_40, kw_1_1, by decide +kernel, by decide +kernel, by decide +kernel⟩
theorem q_X10_rent : CalV yX10_rent cX10_rent 3 (some .int) 2 := ⟨kw_5_216, kw_5_214, kw_5_215, kw_1_5, by decide +kernel, by decide +kernel, by decide +kernel⟩
theorem q_X9_bestRail : CalV yX9_bestRail cX9_bestRail 4 (some .int) 1 := ⟨kw_3_49, kw_3_47, kw_3_48, kw_1_1, by decide +kernel, by decide +kernel, by decide +kernel⟩
theorem q_X10_bestRail : CalV yX10_bestRail cX10_bestRail 4 (some .int) 1 := ⟨kw_5_224, kw_5_222, kw_5_223, kw_1_5, by decide +kernel, by decide +kernel, by decide +kernel⟩
theorem q_X9_match : CalV yX9_match cX9_match 2 (some .int) 1 := ⟨kw_3_53, kw_3_51, kw_3_52, kw_1_1, by decide +kernel, by decide +kernel, by decide +kernel⟩
theorem q_X10_match : CalV yX10_match cX10_match 4 (some .int) 1 := ⟨kw_5_228, kw_5_226, kw_5_227, kw_1_5, by decide +kernel, by decide +kernel, by decide +kernel⟩
theorem q_X9_lines : CalV yX9_lines cX9_lines 2 (some .int) 1 := ⟨kw_3_81, kw_3_79, kw_3_80, kw_1_1, by decide +kernel, by decide +kernel, by decide +kernel⟩
theorem q_X10_lines : CalV yX10_lines cX10_lines 6 (some .int) 1 := ⟨kw_6_0, kw_5_238, kw_5_239, kw_1_5, by decide +kernel, by decide +kernel, by decide +kernel⟩
theorem q_X9_law : CalV yX9_law cX9_law 6 (some .int) 2 := ⟨kw_3_93, kw_3_91, kw_3_92, kw_1_1, by decide +kernel, by decide +kernel, by decide +kernel⟩
theorem q_X10_law : CalV yX10_law cX10_law 8 (some .int) 2 := ⟨kw_6_4, kw_6_2, kw_6_3, kw_1_5, by decide +kernel, by decide +kernel, by decide +kernel⟩
theorem q_X9_whatIs : CalV yX9_whatIs cX9_whatIs 8 (some .int) 3 := ⟨kw_3_114, kw_3_112, kw_3_113, kw_1_1, by decide +kernel, by decide +kernel, by decide +kernel⟩
theorem q_X10_whatIs : CalV yX10_whatIs cX10_whatIs 10 (some .int) 3 := ⟨kw_6_12, kw_6_10, kw_6_11, kw_1_5, by decide +kernel, by decide +kernel, by decide +kernel⟩
theorem q_X9_two : CalV yX9_two cX9_two 5 (some .int) 2 := ⟨kw_3_133, kw_3_131, kw_3_132, kw_1_1, by decide +kernel, by decide +kernel, by decide +kernel⟩
theorem q_X10_two : CalV yX10_two cX10_two 6 (some .int) 2 := ⟨kw_6_20, kw_6_18, kw_6_19, kw_1_5, by decide +kernel, by decide +kernel, by decide +kernel⟩
theorem q_X9_rain : CalV yX9_rain cX9_rain 8 (some .long) 2 := ⟨kw_3_145, kw_3_143, kw_3_144, kw_1_1, by decide +kernel, by decide +kernel, by decide +kernel⟩
theorem q_X10_rain : CalV yX10_rain cX10_rain 12 (some .long) 2 := ⟨kw_6_28, kw_6_26, kw_6_27, kw_1_5, by decide +kernel, by decide +kernel, by decide +kernel⟩
theorem q_X9_mean : CalV yX9_mean cX9_mean 4 (some .long) 1 := ⟨kw_3_153, kw_3_151, kw_3_152, kw_1_1, by decide +kernel, by decide +kernel, by decide +kernel⟩
theorem q_X10_mean : CalV yX10_mean cX10_mean 5 (some .long) 1 := ⟨kw_6_32, kw_6_30, kw_6_31, kw_1_5, by decide +kernel, by decide +kernel, by decide +kernel⟩
theorem q_X9_forged : CalV yX9_forged cX9_forged 5 (some .int) 1 := ⟨kw_3_157, kw_3_155, kw_3_156, kw_1_1, by decide +kernel, by decide +kernel, by decide +kernel⟩
theorem q_X10_forged : CalV yX10_forged cX10_forged 4 (some .int) 1 := ⟨kw_6_36, kw_6_34, kw_6_35, kw_1_5, by decide +kernel, by decide +kernel, by decide +kernel⟩
theorem q_X9_judge : CalV yX9_judge cX9_judge 5 (some .int) 1 := ⟨kw_3_161, kw_3_159, kw_3_160, kw_1_1, by decide +kernel, by decide +kernel, by decide +kernel⟩
theorem q_X10_judge : CalV yX10_judge cX10_judge 5 (some .int) 1 := ⟨kw_6_40, kw_6_38, kw_6_39, kw_1_5, by decide +kernel, by decide +kernel, by decide +kernel⟩
theorem q_X9_streets : CalV yX9_streets cX9_streets 8 (some .int) 3 := ⟨kw_3_165, kw_3_163, kw_3_164, kw_1_1, by decide +kernel, by decide +kernel, by decide +kernel⟩
theorem q_X10_streets : CalV yX10_streets cX10_streets 7 (some .int) 3 := ⟨kw_6_44, kw_6_42, kw_6_43, kw_1_5, by decide +kernel, by decide +kernel, by decide +kernel⟩
theorem q_X9_image : CalV yX9_image cX9_image 1 (some .int) 0 := ⟨kw_3_182, kw_3_180, kw_3_181, kw_1_1, by decide +kernel, by decide +kernel, by decide +kernel⟩
theorem q_X10_image : CalV yX10_image cX10_image 1 (some .int) 0 := ⟨kw_6_55, kw_6_53, kw_6_54, kw_1_5, by decide +kernel, by decide +kernel, by decide +kernel⟩
theorem q_X9_restore : CalV yX9_restore cX9_restore 1 (some .int) 0 := ⟨kw_3_186, kw_3_184, kw_3_185, kw_1_1, by decide +kernel, by decide +kernel, by decide +kernel⟩
theorem q_X10_restore : CalV yX10_restore cX10_restore 1 (some .int) 0 := ⟨kw_6_59, kw_6_57, kw_6_58, kw_1_5, by decide +kernel, by decide +kernel, by decide +kernel⟩
theorem q_X9_count : CalV yX9_count cX9_count 2 (some .int) 1 := ⟨kw_3_190, kw_3_188, kw_3_189, kw_1_1, by decide +kernel, by decide +kernel, by decide +kernel⟩
theorem q_X10_count : CalV yX10_count cX10_count 2 (some .int) 1 := ⟨kw_6_63, kw_6_61, kw_6_62, kw_1_5, by decide +kernel, by decide +kernel, by decide +kernel⟩
theorem q_X9_keep : CalV yX9_keep cX9_keep 5 (some .int) 4 := ⟨kw_3_199, kw_3_197, kw_3_198, kw_1_1, by decide +kernel, by decide +kernel, by decide +kernel⟩
theorem q_X10_keep : CalV yX10_keep cX10_keep 5 (some .int) 4 := ⟨kw_6_71, kw_6_69, kw_6_70, kw_1_5, by decide +kernel, by decide +kernel, by decide +kernel⟩
theorem q_X9_row : CalV yX9_row cX9_row 4 (some .int) 3 := ⟨kw_3_207, kw_3_205, kw_3_206, kw_1_1, by decide +kernel, by decide +kernel, by decide +kernel⟩
theorem q_X10_row : CalV yX10_row cX10_row 5 (some .int) 3 := ⟨kw_6_75, kw_6_73, kw_6_74, kw_1_5, by decide +kernel, by decide +kernel, by decide +kernel⟩
theorem q_X9_put : CalV yX9_put cX9_put 5 (some .int) 3 := ⟨kw_3_215, kw_3_213, kw_3_214, kw_1_1, by decide +kernel, by decide +kernel, by decide +kernel⟩
theorem q_X10_put : CalV yX10_put cX10_put 5 (some .int) 3 := ⟨kw_6_79, kw_6_77, kw_6_78, kw_1_5, by decide +kernel, by decide +kernel, by decide +kernel⟩
theorem q_X9_cost : CalV yX9_cost cX9_cost 3 (some .int) 1 := ⟨kw_3_237, kw_3_235, kw_3_236, kw_1_1, by decide +kernel, by decide +kernel, by decide +kernel⟩
theorem q_X10_cost : CalV yX10_cost cX10_cost 3 (some .int) 1 := ⟨kw_6_91, kw_6_89, kw_6_90, kw_1_5, by decide +kernel, by decide +kernel, by decide +kernel⟩
theorem q_X9_copy : CalV yX9_copy cX9_copy 8 (some .int) 5 := ⟨kw_3_228, kw_3_226, kw_3_227, kw_1_1, by decide +kernel, by decide +kernel, by decide +kernel⟩
theorem q_X10_copy : CalV yX10_copy cX10_copy 8 (some .int) 5 := ⟨kw_6_87, kw_6_85, kw_6_86, kw_1_5, by decide +kernel, by decide +kernel, by decide +kernel⟩
theorem q_X10_toss : CalV yX10_toss cX10_toss 5 (some .int) 1 := ⟨kw_6_98, kw_6_96, kw_6_97, kw_1_5, by decide +kernel, by decide +kernel, by decide +kernel⟩
theorem q_X10_element : CalV yX10_element cX10_element 3 (some .long) 2 := ⟨kw_6_83, kw_6_81, kw_6_82, kw_1_5, by decide +kernel, by decide +kernel, by decide +kernel⟩
theorem q_X10_thrown : CalV yX10_thrown cX10_thrown 1 (some .int) 0 := ⟨kw_6_67, kw_6_65, kw_6_66, kw_1_5, by decide +kernel, by decide +kernel, by decide +kernel⟩
