theorem wl_1_23 : Cond.classLink RL 8 RX8 ∈ WALL := tb1 (List.mem_of_getElem? (i := 23) rfl) rfl
theorem wl_1_24 : Cond.instantiable RX8 18 ∈ WALL := tb1 (List.mem_of_getElem? (i := 24) rfl) rfl
theorem wl_1_25 : Cond.methodLink RL 15 yX8_init ∈ WALL := tb1 (List.mem_of_getElem? (i := 25) rfl) rfl
theorem wl_1_26 : Cond.instanceMethod yX8_init ∈ WALL := tb1 (List.mem_of_getElem? (i := 26) rfl) rfl
theorem wl_1_27 : Cond.code yX8_init cX8_init 2 none ∈ WALL := tb1 (List.mem_of_getElem? (i := 27) rfl) rfl
theorem wl_5_158 : Cond.classLink RL 16 RX10 ∈ WALL := tb5 (List.mem_of_getElem? (i := 158) rfl) rfl
theorem wl_5_159 : Cond.instantiable RX10 45 ∈ WALL := tb5 (List.mem_of_getElem? (i := 159) rfl) rfl
theorem wl_5_160 : Cond.methodLink RL 18 yX10_init ∈ WALL := tb5 (List.mem_of_getElem? (i := 160) rfl) rfl
theorem wl_5_161 : Cond.instanceMethod yX10_init ∈ WALL := tb5 (List.mem_of_getElem? (i := 161) rfl) rfl
theorem wl_5_162 : Cond.code yX10_init cX10_init 1 none ∈ WALL := tb5 (List.mem_of_getElem? (i := 162) rfl) rfl
theorem wl_2_163 : Cond.methodLink RL 19 yX8_feed ∈ WALL := tb2 (List.mem_of_getElem? (i := 163) rfl) rfl
theorem wl_2_164 : Cond.instanceMethod yX8_feed ∈ WALL := tb2 (List.mem_of_getElem? (i := 164) rfl) rfl
theorem wl_2_165 : Cond.selects RX8 yX8_feed yX8_feed ∈ WALL := tb2 (List.mem_of_getElem? (i := 165) rfl) rfl
theorem wl_2_166 : Cond.code yX8_feed cX8_feed 6 (some .int) ∈ WALL := tb2 (List.mem_of_getElem? (i := 166) rfl) rfl
theorem wl_6_64 : Cond.methodLink RL 23 yX10_feed ∈ WALL := tb6 (List.mem_of_getElem? (i := 64) rfl) rfl
theorem wl_6_65 : Cond.instanceMethod yX10_feed ∈ WALL := tb6 (List.mem_of_getElem? (i := 65) rfl) rfl
theorem wl_6_66 : Cond.selects RX10 yX10_feed yX10_feed ∈ WALL := tb6 (List.mem_of_getElem? (i := 66) rfl) rfl
theorem wl_6_67 : Cond.code yX10_feed cX10_feed 8 (some .int) ∈ WALL := tb6 (List.mem_of_getElem? (i := 67) rfl) rfl
theorem wl_2_171 : Cond.methodLink RL 24 yX8_city ∈ WALL := tb2 (List.mem_of_getElem? (i := 171) rfl) rfl
theorem wl_2_172 : Cond.instanceMethod yX8_city ∈ WALL := tb2 (List.mem_of_getElem? (i := 172) rfl) rfl
theorem wl_2_173 : Cond.selects RX8 yX8_city yX8_city ∈ WALL := tb2 (List.mem_of_getElem? (i := 173) rfl) rfl
theorem wl_2_174 : Cond.code yX8_city cX8_city 3 (some .int) ∈ WALL := tb2 (List.mem_of_getElem? (i := 174) rfl) rfl
theorem wl_6_68 : Cond.methodLink RL 27 yX10_city ∈ WALL := tb6 (List.mem_of_getElem? (i := 68) rfl) rfl
theorem wl_6_69 : Cond.instanceMethod yX10_city ∈ WALL := tb6 (List.mem_of_getElem? (i := 69) rfl) rfl
theorem wl_6_70 : Cond.selects RX10 yX10_city yX10_city ∈ WALL := tb6 (List.mem_of_getElem? (i := 70) rfl) rfl
theorem wl_6_71 : Cond.code yX10_city cX10_city 3 (some .int) ∈ WALL := tb6 (List.mem_of_getElem? (i := 71) rfl) rfl
theorem wl_3_230 : Cond.methodLink RL 28 yX8_fault ∈ WALL := tb3 (List.mem_of_getElem? (i := 230) rfl) rfl
theorem wl_3_231 : Cond.instanceMethod yX8_fault ∈ WALL := tb3 (List.mem_of_getElem? (i := 231) rfl) rfl
theorem wl_3_232 : Cond.selects RX8 yX8_fault yX8_fault ∈ WALL := tb3 (List.mem_of_getElem? (i := 232) rfl) rfl
theorem wl_3_233 : Cond.code yX8_fault cX8_fault 1 (some .int) ∈ WALL := tb3 (List.mem_of_getElem? (i := 233) rfl) rfl
theorem wl_7_175 : Cond.methodLink RL 32 yX10_fault ∈ WALL := tb7 (List.mem_of_getElem? (i := 175) rfl) rfl
theorem wl_7_176 : Cond.instanceMethod yX10_fault ∈ WALL := tb7 (List.mem_of_getElem? (i := 176) rfl) rfl
theorem wl_7_177 : Cond.selects RX10 yX10_fault yX10_fault ∈ WALL := tb7 (List.mem_of_getElem? (i := 177) rfl) rfl
theorem wl_7_178 : Cond.code yX10_fault cX10_fault 1 (some .int) ∈ WALL := tb7 (List.mem_of_getElem? (i := 178) rfl) rfl
theorem wl_3_234 : Cond.methodLink RL 33 yX8_where ∈ WALL := tb3 (List.mem_of_getElem? (i := 234) rfl) rfl
theorem wl_3_235 : Cond.instanceMethod yX8_where ∈ WALL := tb3 (List.mem_of_getElem? (i := 235) rfl) rfl
theorem wl_3_236 : Cond.selects RX8 yX8_where yX8_where ∈ WALL := tb3 (List.mem_of_getElem? (i := 236) rfl) rfl
theorem wl_3_237 : Cond.code yX8_where cX8_where 1 (some .int) ∈ WALL := tb3 (List.mem_of_getElem? (i := 237) rfl) rfl
theorem wl_7_179 : Cond.methodLink RL 36 yX10_where ∈ WALL := tb7 (List.mem_of_getElem? (i := 179) rfl) rfl
theorem wl_7_180 : Cond.instanceMethod yX10_where ∈ WALL := tb7 (List.mem_of_getElem? (i := 180) rfl) rfl
theorem wl_7_181 : Cond.selects RX10 yX10_where yX10_where ∈ WALL := tb7 (List.mem_of_getElem? (i := 181) rfl) rfl
theorem wl_7_182 : Cond.code yX10_where cX10_where 1 (some .int) ∈ WALL := tb7 (List.mem_of_getElem? (i := 182) rfl) rfl
theorem wl_3_238 : Cond.methodLink RL 37 yX8_gate ∈ WALL := tb3 (List.mem_of_getElem? (i := 238) rfl) rfl
theorem wl_3_239 : Cond.instanceMethod yX8_gate ∈ WALL := tb3 (List.mem_of_getElem? (i := 239) rfl) rfl
theorem wl_4_0 : Cond.selects RX8 yX8_gate yX8_gate ∈ WALL := tb4 (List.mem_of_getElem? (i := 0) rfl) rfl
theorem wl_4_1 : Cond.code yX8_gate cX8_gate 3 (some .int) ∈ WALL := tb4 (List.mem_of_getElem? (i := 1) rfl) rfl
theorem wl_7_183 : Cond.methodLink RL 41 yX10_gate ∈ WALL := tb7 (List.mem_of_getElem? (i := 183) rfl) rfl
theorem wl_7_184 : Cond.instanceMethod yX10_gate ∈ WALL := tb7 (List.mem_of_getElem? (i := 184) rfl) rfl
theorem wl_7_185 : Cond.selects RX10 yX10_gate yX10_gate ∈ WALL := tb7 (List.mem_of_getElem? (i := 185) rfl) rfl
theorem wl_7_186 : Cond.code yX10_gate cX10_gate 3 (some .int) ∈ WALL := tb7 (List.mem_of_getElem? (i := 186) rfl) rfl
theorem wl_4_9 : Cond.methodLink RL 42 yX8_fits ∈ WALL := tb4 (List.mem_of_getElem? (i := 9) rfl) rfl
theorem wl_4_10 : Cond.instanceMethod yX8_fits ∈ WALL := tb4 (List.mem_of_getElem? (i := 10) rfl) rfl
theorem wl_4_11 : Cond.selects RX8 yX8_fits yX8_fits ∈ WALL := tb4 (List.mem_of_getElem? (i := 11) rfl) rfl
theorem wl_4_12 : Cond.code yX8_fits cX8_fits 8 (some .int) ∈ WALL := tb4 (List.mem_of_getElem? (i := 12) rfl) rfl
theorem wl_7_191 : Cond.methodLink RL 46 yX10_fits ∈ WALL := tb7 (List.mem_of_getElem? (i := 191) rfl) rfl
theorem wl_7_192 : Cond.instanceMethod yX10_fits ∈ WALL := tb7 (List.mem_of_getElem? (i := 192) rfl) rfl
theorem wl_7_193 : Cond.selects RX10 yX10_fits yX10_fits ∈ WALL := tb7 (List.mem_of_getElem? (i := 193) rfl) rfl
theorem wl_7_194 : Cond.code yX10_fits cX10_fits 5 (some .int) ∈ WALL := tb7 (List.mem_of_getElem? (i := 194) rfl) rfl
theorem wl_4_27 : Cond.methodLink RL 47 yX8_bars ∈ WALL := tb4 (List.mem_of_getElem? (i := 27) rfl) rfl
theorem wl_4_28 : Cond.instanceMethod yX8_bars ∈ WALL := tb4 (List.mem_of_getElem? (i := 28) rfl) rfl
theorem wl_4_29 : Cond.selects RX8 yX8_bars yX8_bars ∈ WALL := tb4 (List.mem_of_getElem? (i := 29) rfl) rfl
theorem wl_4_30 : Cond.code yX8_bars cX8_bars 4 (some .int) ∈ WALL := tb4 (List.mem_of_getElem? (i := 30) rfl) rfl
theorem wl_7_203 : Cond.methodLink RL 51 yX10_bars ∈ WALL := tb7 (List.mem_of_getElem? (i := 203) rfl) rfl
theorem wl_7_204 : Cond.instanceMethod yX10_bars ∈ WALL := tb7 (List.mem_of_getElem? (i := 204) rfl) rfl
theorem wl_7_205 : Cond.selects RX10 yX10_bars yX10_bars ∈ WALL := tb7 (List.mem_of_getElem? (i := 205) rfl) rfl
theorem wl_7_206 : Cond.code yX10_bars cX10_bars 4 (some .int) ∈ WALL := tb7 (List.mem_of_getElem? (i := 206) rfl) rfl
theorem wl_4_37 : Cond.methodLink RL 52 yX8_deepest ∈ WALL := tb4 (List.mem_of_getElem? (i := 37) rfl) rfl
theorem wl_4_38 : Cond.instanceMethod yX8_deepest ∈ WALL := tb4 (List.mem_of_getElem? (i := 38) rfl) rfl
theorem wl_4_39 : Cond.selects RX8 yX8_deepest yX8_deepest ∈ WALL := tb4 (List.mem_of_getElem? (i := 39) rfl) rfl
theorem wl_4_40 : Cond.code yX8_deepest cX8_deepest 2 (some .int) ∈ WALL := tb4 (List.mem_of_getElem? (i := 40) rfl) rfl
theorem wl_7_207 : Cond.methodLink RL 55 yX10_deepest ∈ WALL := tb7 (List.mem_of_getElem? (i := 207) rfl) rfl
theorem wl_7_208 : Cond.instanceMethod yX10_deepest ∈ WALL := tb7 (List.mem_of_getElem? (i := 208) rfl) rfl
theorem wl_7_209 : Cond.selects RX10 yX10_deepest yX10_deepest ∈ WALL := tb7 (List.mem_of_getElem? (i := 209) rfl) rfl
theorem wl_7_210 : Cond.code yX10_deepest cX10_deepest 2 (some .int) ∈ WALL := tb7 (List.mem_of_getElem? (i := 210) rfl) rfl
theorem wl_4_55 : Cond.methodLink RL 56 yX8_deepestCut ∈ WALL := tb4 (List.mem_of_getElem? (i := 55) rfl) rfl
theorem wl_4_56 : Cond.instanceMethod yX8_deepestCut ∈ WALL := tb4 (List.mem_of_getElem? (i := 56) rfl) rfl
theorem wl_4_57 : Cond.selects RX8 yX8_deepestCut yX8_deepestCut ∈ WALL := tb4 (List.mem_of_getElem? (i := 57) rfl) rfl
theorem wl_4_58 : Cond.code yX8_deepestCut cX8_deepestCut 2 (some .int) ∈ WALL := tb4 (List.mem_of_getElem? (i := 58) rfl) rfl
theorem wl_7_215 : Cond.methodLink RL 59 yX10_deepestCut ∈ WALL := tb7 (List.mem_of_getElem? (i := 215) rfl) rfl
theorem wl_7_216 : Cond.instanceMethod yX10_deepestCut ∈ WALL := tb7 (List.mem_of_getElem? (i := 216) rfl) rfl
theorem wl_7_217 : Cond.selects RX10 yX10_deepestCut yX10_deepestCut ∈ WALL := tb7 (List.mem_of_getElem? (i := 217) rfl) rfl
theorem wl_7_218 : Cond.code yX10_deepestCut cX10_deepestCut 2 (some .int) ∈ WALL := tb7 (List.mem_of_getElem? (i := 218) rfl) rfl
theorem wl_4_59 : Cond.methodLink RL 60 yX8_pay ∈ WALL := tb4 (List.mem_of_getElem? (i := 59) rfl) rfl
theorem wl_4_60 : Cond.instanceMethod yX8_pay ∈ WALL := tb4 (List.mem_of_getElem? (i := 60) rfl) rfl
theorem wl_4_61 : Cond.selects RX8 yX8_pay yX8_pay ∈ WALL := tb4 (List.mem_of_getElem? (i := 61) rfl) rfl
theorem wl_4_62 : Cond.code yX8_pay cX8_pay 6 (some .int) ∈ WALL := tb4 (List.mem_of_getElem? (i := 62) rfl) rfl
theorem wl_7_219 : Cond.methodLink RL 63 yX10_pay ∈ WALL := tb7 (List.mem_of_getElem? (i := 219) rfl) rfl
theorem wl_7_220 : Cond.instanceMethod yX10_pay ∈ WALL := tb7 (List.mem_of_getElem? (i := 220) rfl) rfl
theorem wl_7_221 : Cond.selects RX10 yX10_pay yX10_pay ∈ WALL := tb7 (List.mem_of_getElem? (i := 221) rfl) rfl
theorem wl_7_222 : Cond.code yX10_pay cX10_pay 6 (some .int) ∈ WALL := tb7 (List.mem_of_getElem? (i := 222) rfl) rfl
theorem wl_4_71 : Cond.methodLink RL 64 yX8_hours ∈ WALL := tb4 (List.mem_of_getElem? (i := 71) rfl) rfl
theorem wl_4_72 : Cond.instanceMethod yX8_hours ∈ WALL := tb4 (List.mem_of_getElem? (i := 72) rfl) rfl
theorem wl_4_73 : Cond.selects RX8 yX8_hours yX8_hours ∈ WALL := tb4 (List.mem_of_getElem? (i := 73) rfl) rfl
theorem wl_4_74 : Cond.code yX8_hours cX8_hours 6 (some .int) ∈ WALL := tb4 (List.mem_of_getElem? (i := 74) rfl) rfl
theorem wl_7_227 : Cond.methodLink RL 67 yX10_hours ∈ WALL := tb7 (List.mem_of_getElem? (i := 227) rfl) rfl
theorem wl_7_228 : Cond.instanceMethod yX10_hours ∈ WALL := tb7 (List.mem_of_getElem? (i := 228) rfl) rfl
theorem wl_7_229 : Cond.selects RX10 yX10_hours yX10_hours ∈ WALL := tb7 (List.mem_of_getElem? (i := 229) rfl) rfl
theorem wl_7_230 : Cond.code yX10_hours cX10_hours 6 (some .int) ∈ WALL := tb7 (List.mem_of_getElem? (i := 230) rfl) rfl
theorem wl_4_75 : Cond.methodLink RL 68 yX8_payOf ∈ WALL := tb4 (List.mem_of_getElem? (i := 75) rfl) rfl
theorem wl_4_76 : Cond.instanceMethod yX8_payOf ∈ WALL := tb4 (List.mem_of_getElem? (i := 76) rfl) rfl
theorem wl_4_77 : Cond.selects RX8 yX8_payOf yX8_payOf ∈ WALL := tb4 (List.mem_of_getElem? (i := 77) rfl) rfl
theorem wl_4_78 : Cond.code yX8_payOf cX8_payOf 2 (some .int) ∈ WALL := tb4 (List.mem_of_getElem? (i := 78) rfl) rfl
theorem wl_7_231 : Cond.methodLink RL 71 yX10_payOf ∈ WALL := tb7 (List.mem_of_getElem? (i := 231) rfl) rfl
theorem wl_7_232 : Cond.instanceMethod yX10_payOf ∈ WALL := tb7 (List.mem_of_getElem? (i := 232) rfl) rfl
theorem wl_7_233 : Cond.selects RX10 yX10_payOf yX10_payOf ∈ WALL := tb7 (List.mem_of_getElem? (i := 233) rfl) rfl
theorem wl_7_234 : Cond.code yX10_payOf cX10_payOf 2 (some .int) ∈ WALL := tb7 (List.mem_of_getElem? (i := 234) rfl) rfl
theorem wl_4_83 : Cond.methodLink RL 72 yX8_hoursOf ∈ WALL := tb4 (List.mem_of_getElem? (i := 83) rfl) rfl
theorem wl_4_84 : Cond.instanceMethod yX8_hoursOf ∈ WALL := tb4 (List.mem_of_getElem? (i := 84) rfl) rfl
theorem wl_4_85 : Cond.selects RX8 yX8_hoursOf yX8_hoursOf ∈ WALL := tb4 (List.mem_of_getElem? (i := 85) rfl) rfl
theorem wl_4_86 : Cond.code yX8_hoursOf cX8_hoursOf 2 (some .int) ∈ WALL := tb4 (List.mem_of_getElem? (i := 86) rfl) rfl
theorem wl_7_239 : Cond.methodLink RL 75 yX10_hoursOf ∈ WALL := tb7 (List.mem_of_getElem? (i := 239) rfl) rfl
theorem wl_8_0 : Cond.instanceMethod yX10_hoursOf ∈ WALL := tb8 (List.mem_of_getElem? (i := 0) rfl) rfl
theorem wl_8_1 : Cond.selects RX10 yX10_hoursOf yX10_hoursOf ∈ WALL := tb8 (List.mem_of_getElem? (i := 1) rfl) rfl
theorem wl_8_2 : Cond.code yX10_hoursOf cX10_hoursOf 2 (some .int) ∈ WALL := tb8 (List.mem_of_getElem? (i := 2) rfl) rfl
theorem wl_4_87 : Cond.methodLink RL 76 yX8_loadsOf ∈ WALL := tb4 (List.mem_of_getElem? (i := 87) rfl) rfl
theorem wl_4_88 : Cond.instanceMethod yX8_loadsOf ∈ WALL := tb4 (List.mem_of_getElem? (i := 88) rfl) rfl
theorem wl_4_89 : Cond.selects RX8 yX8_loadsOf yX8_loadsOf ∈ WALL := tb4 (List.mem_of_getElem? (i := 89) rfl) rfl
theorem wl_4_90 : Cond.code yX8_loadsOf cX8_loadsOf 2 (some .int) ∈ WALL := tb4 (List.mem_of_getElem? (i := 90) rfl) rfl
theorem wl_8_3 : Cond.methodLink RL 79 yX10_loadsOf ∈ WALL := tb8 (List.mem_of_getElem? (i := 3) rfl) rfl
theorem wl_8_4 : Cond.instanceMethod yX10_loadsOf ∈ WALL := tb8 (List.mem_of_getElem? (i := 4) rfl) rfl
theorem wl_8_5 : Cond.selects RX10 yX10_loadsOf yX10_loadsOf ∈ WALL := tb8 (List.mem_of_getElem? (i := 5) rfl) rfl
theorem wl_8_6 : Cond.code yX10_loadsOf cX10_loadsOf 2 (some .int) ∈ WALL := tb8 (List.mem_of_getElem? (i := 6) rfl) rfl
theorem wl_4_91 : Cond.methodLink RL 80 yX8_gateOf ∈ WALL := tb4 (List.mem_of_getElem? (i := 91) rfl) rfl
theorem wl_4_92 : Cond.instanceMethod yX8_gateOf ∈ WALL := tb4 (List.mem_of_getElem? (i := 92) rfl) rfl
theorem wl_4_93 : Cond.selects RX8 yX8_gateOf yX8_gateOf ∈ WALL := tb4 (List.mem_of_getElem? (i := 93) rfl) rfl
theorem wl_4_94 : Cond.code yX8_gateOf cX8_gateOf 4 (some .int) ∈ WALL := tb4 (List.mem_of_getElem? (i := 94) rfl) rfl
theorem wl_8_11 : Cond.methodLink RL 83 yX10_gateOf ∈ WALL := tb8 (List.mem_of_getElem? (i := 11) rfl) rfl
theorem wl_8_12 : Cond.instanceMethod yX10_gateOf ∈ WALL := tb8 (List.mem_of_getElem? (i := 12) rfl) rfl
theorem wl_8_13 : Cond.selects RX10 yX10_gateOf yX10_gateOf ∈ WALL := tb8 (List.mem_of_getElem? (i := 13) rfl) rfl
theorem wl_8_14 : Cond.code yX10_gateOf cX10_gateOf 3 (some .int) ∈ WALL := tb8 (List.mem_of_getElem? (i := 14) rfl) rfl
theorem wl_4_95 : Cond.methodLink RL 84 yX8_all ∈ WALL := tb4 (List.mem_of_getElem? (i := 95) rfl) rfl
theorem wl_4_96 : Cond.instanceMethod yX8_all ∈ WALL := tb4 (List.mem_of_getElem? (i := 96) rfl) rfl
theorem wl_4_97 : Cond.selects RX8 yX8_all yX8_all ∈ WALL := tb4 (List.mem_of_getElem? (i := 97) rfl) rfl
theorem wl_4_98 : Cond.code yX8_all cX8_all 1 (some .int) ∈ WALL := tb4 (List.mem_of_getElem? (i := 98) rfl) rfl
theorem wl_8_15 : Cond.methodLink RL 87 yX10_all ∈ WALL := tb8 (List.mem_of_getElem? (i := 15) rfl) rfl
theorem wl_8_16 : Cond.instanceMethod yX10_all ∈ WALL := tb8 (List.mem_of_getElem? (i := 16) rfl) rfl
theorem wl_8_17 : Cond.selects RX10 yX10_all yX10_all ∈ WALL := tb8 (List.mem_of_getElem? (i := 17) rfl) rfl
theorem wl_8_18 : Cond.code yX10_all cX10_all 1 (some .int) ∈ WALL := tb8 (List.mem_of_getElem? (i := 18) rfl) rfl
theorem wl_4_107 : Cond.methodLink RL 88 yX8_pass ∈ WALL := tb4 (List.mem_of_getElem? (i := 107) rfl) rfl
theorem wl_4_108 : Cond.instanceMethod yX8_pass ∈ WALL := tb4 (List.mem_of_getElem? (i := 108) rfl) rfl
theorem wl_4_109 : Cond.selects RX8 yX8_pass yX8_pass ∈ WALL := tb4 (List.mem_of_getElem? (i := 109) rfl) rfl
theorem wl_4_110 : Cond.code yX8_pass cX8_pass 3 (some .int) ∈ WALL := tb4 (List.mem_of_getElem? (i := 110) rfl) rfl
theorem wl_8_23 : Cond.methodLink RL 91 yX10_pass ∈ WALL := tb8 (List.mem_of_getElem? (i := 23) rfl) rfl
theorem wl_8_24 : Cond.instanceMethod yX10_pass ∈ WALL := tb8 (List.mem_of_getElem? (i := 24) rfl) rfl
theorem wl_8_25 : Cond.selects RX10 yX10_pass yX10_pass ∈ WALL := tb8 (List.mem_of_getElem? (i := 25) rfl) rfl
theorem wl_8_26 : Cond.code yX10_pass cX10_pass 3 (some .int) ∈ WALL := tb8 (List.mem_of_getElem? (i := 26) rfl) rfl
theorem wl_4_163 : Cond.methodLink RL 92 yX8_anew ∈ WALL := tb4 (List.mem_of_getElem? (i := 163) rfl) rfl
theorem wl_4_164 : Cond.instanceMethod yX8_anew ∈ WALL := tb4 (List.mem_of_getElem? (i := 164) rfl) rfl
theorem wl_4_165 : Cond.selects RX8 yX8_anew yX8_anew ∈ WALL := tb4 (List.mem_of_getElem? (i := 165) rfl) rfl
theorem wl_4_166 : Cond.code yX8_anew cX8_anew 1 (some .boolean) ∈ WALL := tb4 (List.mem_of_getElem? (i := 166) rfl) rfl
theorem wl_8_67 : Cond.methodLink RL 96 yX10_anew ∈ WALL := tb8 (List.mem_of_getElem? (i := 67) rfl) rfl
theorem wl_8_68 : Cond.instanceMethod yX10_anew ∈ WALL := tb8 (List.mem_of_getElem? (i := 68) rfl) rfl
theorem wl_8_69 : Cond.selects RX10 yX10_anew yX10_anew ∈ WALL := tb8 (List.mem_of_getElem? (i := 69) rfl) rfl
theorem wl_8_70 : Cond.code yX10_anew cX10_anew 2 (some .boolean) ∈ WALL := tb8 (List.mem_of_getElem? (i := 70) rfl) rfl
theorem wl_4_175 : Cond.methodLink RL 97 yX8_loads ∈ WALL := tb4 (List.mem_of_getElem? (i := 175) rfl) rfl
theorem wl_4_176 : Cond.instanceMethod yX8_loads ∈ WALL := tb4 (List.mem_of_getElem? (i := 176) rfl) rfl
theorem wl_4_177 : Cond.selects RX8 yX8_loads yX8_loads ∈ WALL := tb4 (List.mem_of_getElem? (i := 177) rfl) rfl
theorem wl_4_178 : Cond.code yX8_loads cX8_loads 1 (some .int) ∈ WALL := tb4 (List.mem_of_getElem? (i := 178) rfl) rfl
theorem wl_8_79 : Cond.methodLink RL 100 yX10_loads ∈ WALL := tb8 (List.mem_of_getElem? (i := 79) rfl) rfl
theorem wl_8_80 : Cond.instanceMethod yX10_loads ∈ WALL := tb8 (List.mem_of_getElem? (i := 80) rfl) rfl
theorem wl_8_81 : Cond.selects RX10 yX10_loads yX10_loads ∈ WALL := tb8 (List.mem_of_getElem? (i := 81) rfl) rfl
theorem wl_8_82 : Cond.code yX10_loads cX10_loads 1 (some .int) ∈ WALL := tb8 (List.mem_of_getElem? (i := 82) rfl) rfl
theorem wl_4_179 : Cond.methodLink RL 101 yX8_load ∈ WALL := tb4 (List.mem_of_getElem? (i := 179) rfl) rfl
theorem wl_4_180 : Cond.instanceMethod yX8_load ∈ WALL := tb4 (List.mem_of_getElem? (i := 180) rfl) rfl
theorem wl_4_181 : Cond.selects RX8 yX8_load yX8_load ∈ WALL := tb4 (List.mem_of_getElem? (i := 181) rfl) rfl
theorem wl_4_182 : Cond.code yX8_load cX8_load 3 (some .int) ∈ WALL := tb4 (List.mem_of_getElem? (i := 182) rfl) rfl
theorem wl_8_83 : Cond.methodLink RL 104 yX10_load ∈ WALL := tb8 (List.mem_of_getElem? (i := 83) rfl) rfl
theorem wl_8_84 : Cond.instanceMethod yX10_load ∈ WALL := tb8 (List.mem_of_getElem? (i := 84) rfl) rfl
theorem wl_8_85 : Cond.selects RX10 yX10_load yX10_load ∈ WALL := tb8 (List.mem_of_getElem? (i := 85) rfl) rfl
theorem wl_8_86 : Cond.code yX10_load cX10_load 4 (some .int) ∈ WALL := tb8 (List.mem_of_getElem? (i := 86) rfl) rfl
theorem wl_4_183 : Cond.methodLink RL 105 yX8_cart ∈ WALL := tb4 (List.mem_of_getElem? (i := 183) rfl) rfl
theorem wl_4_184 : Cond.instanceMethod yX8_cart ∈ WALL := tb4 (List.mem_of_getElem? (i := 184) rfl) rfl
theorem wl_4_185 : Cond.selects RX8 yX8_cart yX8_cart ∈ WALL := tb4 (List.mem_of_getElem? (i := 185) rfl) rfl
theorem wl_4_186 : Cond.code yX8_cart cX8_cart 2 (some .int) ∈ WALL := tb4 (List.mem_of_getElem? (i := 186) rfl) rfl
theorem wl_8_87 : Cond.methodLink RL 108 yX10_cart ∈ WALL := tb8 (List.mem_of_getElem? (i := 87) rfl) rfl
theorem wl_8_88 : Cond.instanceMethod yX10_cart ∈ WALL := tb8 (List.mem_of_getElem? (i := 88) rfl) rfl
theorem wl_8_89 : Cond.selects RX10 yX10_cart yX10_cart ∈ WALL := tb8 (List.mem_of_getElem? (i := 89) rfl) rfl
theorem wl_8_90 : Cond.code yX10_cart cX10_cart 2 (some .int) ∈ WALL := tb8 (List.mem_of_getElem? (i := 90) rfl) rfl
theorem wl_4_187 : Cond.methodLink RL 109 yX8_busy ∈ WALL := tb4 (List.mem_of_getElem? (i := 187) rfl) rfl
theorem wl_4_188 : Cond.instanceMethod yX8_busy ∈ WALL := tb4 (List.mem_of_getElem? (i := 188) rfl) rfl
theorem wl_4_189 : Cond.selects RX8 yX8_busy yX8_busy ∈ WALL := tb4 (List.mem_of_getElem? (i := 189) rfl) rfl
theorem wl_4_190 : Cond.code yX8_busy cX8_busy 2 (some .int) ∈ WALL := tb4 (List.mem_of_getElem? (i := 190) rfl) rfl
theorem wl_8_91 : Cond.methodLink RL 112 yX10_busy ∈ WALL := tb8 (List.mem_of_getElem? (i := 91) rfl) rfl
theorem wl_8_92 : Cond.instanceMethod yX10_busy ∈ WALL := tb8 (List.mem_of_getElem? (i := 92) rfl) rfl
theorem wl_8_93 : Cond.selects RX10 yX10_busy yX10_busy ∈ WALL := tb8 (List.mem_of_getElem? (i := 93) rfl) rfl
theorem wl_8_94 : Cond.code yX10_busy cX10_busy 2 (some .int) ∈ WALL := tb8 (List.mem_of_getElem? (i := 94) rfl) rfl
theorem wl_4_191 : Cond.methodLink RL 113 yX8_tolls ∈ WALL := tb4 (List.mem_of_getElem? (i := 191) rfl) rfl
theorem wl_4_192 : Cond.instanceMethod yX8_tolls ∈ WALL := tb4 (List.mem_of_getElem? (i := 192) rfl) rfl
theorem wl_4_193 : Cond.selects RX8 yX8_tolls yX8_tolls ∈ WALL := tb4 (List.mem_of_getElem? (i := 193) rfl) rfl
theorem wl_4_194 : Cond.code yX8_tolls cX8_tolls 2 (some .int) ∈ WALL := tb4 (List.mem_of_getElem? (i := 194) rfl) rfl
theorem wl_8_95 : Cond.methodLink RL 116 yX10_tolls ∈ WALL := tb8 (List.mem_of_getElem? (i := 95) rfl) rfl
theorem wl_8_96 : Cond.instanceMethod yX10_tolls ∈ WALL := tb8 (List.mem_of_getElem? (i := 96) rfl) rfl
theorem wl_8_97 : Cond.selects RX10 yX10_tolls yX10_tolls ∈ WALL := tb8 (List.mem_of_getElem? (i := 97) rfl) rfl
theorem wl_8_98 : Cond.code yX10_tolls cX10_tolls 2 (some .int) ∈ WALL := tb8 (List.mem_of_getElem? (i := 98) rfl) rfl
theorem wl_4_195 : Cond.methodLink RL 117 yX8_worked ∈ WALL := tb4 (List.mem_of_getElem? (i := 195) rfl) rfl
theorem wl_4_196 : Cond.instanceMethod yX8_worked ∈ WALL := tb4 (List.mem_of_getElem? (i := 196) rfl) rfl
theorem wl_4_197 : Cond.selects RX8 yX8_worked yX8_worked ∈ WALL := tb4 (List.mem_of_getElem? (i := 197) rfl) rfl
theorem wl_4_198 : Cond.code yX8_worked cX8_worked 2 (some .int) ∈ WALL := tb4 (List.mem_of_getElem? (i := 198) rfl) rfl
theorem wl_8_99 : Cond.methodLink RL 120 yX10_worked ∈ WALL := tb8 (List.mem_of_getElem? (i := 99) rfl) rfl
theorem wl_8_100 : Cond.instanceMethod yX10_worked ∈ WALL := tb8 (List.mem_of_getElem? (i := 100) rfl) rfl
theorem wl_8_101 : Cond.selects RX10 yX10_worked yX10_worked ∈ WALL := tb8 (List.mem_of_getElem? (i := 101) rfl) rfl
theorem wl_8_102 : Cond.code yX10_worked cX10_worked 2 (some .int) ∈ WALL := tb8 (List.mem_of_getElem? (i := 102) rfl) rfl
theorem wl_4_199 : Cond.methodLink RL 121 yX8_waited ∈ WALL := tb4 (List.mem_of_getElem? (i := 199) rfl) rfl
theorem wl_4_200 : Cond.instanceMethod yX8_waited ∈ WALL := tb4 (List.mem_of_getElem? (i := 200) rfl) rfl
theorem wl_4_201 : Cond.selects RX8 yX8_waited yX8_waited ∈ WALL := tb4 (List.mem_of_getElem? (i := 201) rfl) rfl
theorem wl_4_202 : Cond.code yX8_waited cX8_waited 1 (some .int) ∈ WALL := tb4 (List.mem_of_getElem? (i := 202) rfl) rfl
theorem wl_8_103 : Cond.methodLink RL 124 yX10_waited ∈ WALL := tb8 (List.mem_of_getElem? (i := 103) rfl) rfl
theorem wl_8_104 : Cond.instanceMethod yX10_waited ∈ WALL := tb8 (List.mem_of_getElem? (i := 104) rfl) rfl
theorem wl_8_105 : Cond.selects RX10 yX10_waited yX10_waited ∈ WALL := tb8 (List.mem_of_getElem? (i := 105) rfl) rfl
theorem wl_8_106 : Cond.code yX10_waited cX10_waited 3 (some .int) ∈ WALL := tb8 (List.mem_of_getElem? (i := 106) rfl) rfl
theorem wl_4_207 : Cond.methodLink RL 125 yX8_mark ∈ WALL := tb4 (List.mem_of_getElem? (i := 207) rfl) rfl
theorem wl_4_208 : Cond.instanceMethod yX8_mark ∈ WALL := tb4 (List.mem_of_getElem? (i := 208) rfl) rfl
theorem wl_4_209 : Cond.selects RX8 yX8_mark yX8_mark ∈ WALL := tb4 (List.mem_of_getElem? (i := 209) rfl) rfl
theorem wl_4_210 : Cond.code yX8_mark cX8_mark 1 (some .int) ∈ WALL := tb4 (List.mem_of_getElem? (i := 210) rfl) rfl
theorem wl_8_107 : Cond.methodLink RL 128 yX10_mark ∈ WALL := tb8 (List.mem_of_getElem? (i := 107) rfl) rfl
theorem wl_8_108 : Cond.instanceMethod yX10_mark ∈ WALL := tb8 (List.mem_of_getElem? (i := 108) rfl) rfl
theorem wl_8_109 : Cond.selects RX10 yX10_mark yX10_mark ∈ WALL := tb8 (List.mem_of_getElem? (i := 109) rfl) rfl
theorem wl_8_110 : Cond.code yX10_mark cX10_mark 2 (some .int) ∈ WALL := tb8 (List.mem_of_getElem? (i := 110) rfl) rfl
theorem wl_4_218 : Cond.methodLink RL 129 yX8_back ∈ WALL := tb4 (List.mem_of_getElem? (i := 218) rfl) rfl
theorem wl_4_219 : Cond.instanceMethod yX8_back ∈ WALL := tb4 (List.mem_of_getElem? (i := 219) rfl) rfl
theorem wl_4_220 : Cond.selects RX8 yX8_back yX8_back ∈ WALL := tb4 (List.mem_of_getElem? (i := 220) rfl) rfl
theorem wl_4_221 : Cond.code yX8_back cX8_back 2 (some .boolean) ∈ WALL := tb4 (List.mem_of_getElem? (i := 221) rfl) rfl
theorem wl_8_111 : Cond.methodLink RL 133 yX10_back ∈ WALL := tb8 (List.mem_of_getElem? (i := 111) rfl) rfl
theorem wl_8_112 : Cond.instanceMethod yX10_back ∈ WALL := tb8 (List.mem_of_getElem? (i := 112) rfl) rfl
theorem wl_8_113 : Cond.selects RX10 yX10_back yX10_back ∈ WALL := tb8 (List.mem_of_getElem? (i := 113) rfl) rfl
theorem wl_8_114 : Cond.code yX10_back cX10_back 3 (some .boolean) ∈ WALL := tb8 (List.mem_of_getElem? (i := 114) rfl) rfl
theorem wl_4_222 : Cond.methodLink RL 134 yX8_saves ∈ WALL := tb4 (List.mem_of_getElem? (i := 222) rfl) rfl
theorem wl_4_223 : Cond.instanceMethod yX8_saves ∈ WALL := tb4 (List.mem_of_getElem? (i := 223) rfl) rfl
theorem wl_4_224 : Cond.selects RX8 yX8_saves yX8_saves ∈ WALL := tb4 (List.mem_of_getElem? (i := 224) rfl) rfl
theorem wl_4_225 : Cond.code yX8_saves cX8_saves 4 (some .int) ∈ WALL := tb4 (List.mem_of_getElem? (i := 225) rfl) rfl
theorem wl_8_115 : Cond.methodLink RL 138 yX10_saves ∈ WALL := tb8 (List.mem_of_getElem? (i := 115) rfl) rfl
theorem wl_8_116 : Cond.instanceMethod yX10_saves ∈ WALL := tb8 (List.mem_of_getElem? (i := 116) rfl) rfl
theorem wl_8_117 : Cond.selects RX10 yX10_saves yX10_saves ∈ WALL := tb8 (List.mem_of_getElem? (i := 117) rfl) rfl
theorem wl_8_118 : Cond.code yX10_saves cX10_saves 4 (some .int) ∈ WALL := tb8 (List.mem_of_getElem? (i := 118) rfl) rfl
theorem wl_4_237 : Cond.methodLink RL 139 yX8_breach ∈ WALL := tb4 (List.mem_of_getElem? (i := 237) rfl) rfl
theorem wl_4_238 : Cond.instanceMethod yX8_breach ∈ WALL := tb4 (List.mem_of_getElem? (i := 238) rfl) rfl
theorem wl_4_239 : Cond.selects RX8 yX8_breach yX8_breach ∈ WALL := tb4 (List.mem_of_getElem? (i := 239) rfl) rfl
theorem wl_5_0 : Cond.code yX8_breach cX8_breach 7 (some .int) ∈ WALL := tb5 (List.mem_of_getElem? (i := 0) rfl) rfl
theorem wl_8_126 : Cond.methodLink RL 142 yX10_breach ∈ WALL := tb8 (List.mem_of_getElem? (i := 126) rfl) rfl
theorem wl_8_127 : Cond.instanceMethod yX10_breach ∈ WALL := tb8 (List.mem_of_getElem? (i := 127) rfl) rfl
theorem wl_8_128 : Cond.selects RX10 yX10_breach yX10_breach ∈ WALL := tb8 (List.mem_of_getElem? (i := 128) rfl) rfl
theorem wl_8_129 : Cond.code yX10_breach cX10_breach 5 (some .int) ∈ WALL := tb8 (List.mem_of_getElem? (i := 129) rfl) rfl
theorem wl_5_1 : Cond.methodLink RL 143 yX8_ram ∈ WALL := tb5 (List.mem_of_getElem? (i := 1) rfl) rfl
theorem wl_5_2 : Cond.instanceMethod yX8_ram ∈ WALL := tb5 (List.mem_of_getElem? (i := 2) rfl) rfl
theorem wl_5_3 : Cond.selects RX8 yX8_ram yX8_ram ∈ WALL := tb5 (List.mem_of_getElem? (i := 3) rfl) rfl
theorem wl_5_4 : Cond.code yX8_ram cX8_ram 4 (some .int) ∈ WALL := tb5 (List.mem_of_getElem? (i := 4) rfl) rfl
theorem wl_8_130 : Cond.methodLink RL 146 yX10_ram ∈ WALL := tb8 (List.mem_of_getElem? (i := 130) rfl) rfl
theorem wl_8_131 : Cond.instanceMethod yX10_ram ∈ WALL := tb8 (List.mem_of_getElem? (i := 131) rfl) rfl
theorem wl_8_132 : Cond.selects RX10 yX10_ram yX10_ram ∈ WALL := tb8 (List.mem_of_getElem? (i := 132) rfl) rfl
theorem wl_8_133 : Cond.code yX10_ram cX10_ram 4 (some .int) ∈ WALL := tb8 (List.mem_of_getElem? (i := 133) rfl) rfl
theorem wl_5_6 : Cond.methodLink RL 147 yX8_ramBy ∈ WALL := tb5 (List.mem_of_getElem? (i := 6) rfl) rfl
theorem wl_5_7 : Cond.instanceMethod yX8_ramBy ∈ WALL := tb5 (List.mem_of_getElem? (i := 7) rfl) rfl
theorem wl_5_8 : Cond.selects RX8 yX8_ramBy yX8_ramBy ∈ WALL := tb5 (List.mem_of_getElem? (i := 8) rfl) rfl
theorem wl_5_9 : Cond.code yX8_ramBy cX8_ramBy 9 (some .int) ∈ WALL := tb5 (List.mem_of_getElem? (i := 9) rfl) rfl
theorem wl_8_138 : Cond.methodLink RL 150 yX10_ramBy ∈ WALL := tb8 (List.mem_of_getElem? (i := 138) rfl) rfl
theorem wl_8_139 : Cond.instanceMethod yX10_ramBy ∈ WALL := tb8 (List.mem_of_getElem? (i := 139) rfl) rfl
theorem wl_8_140 : Cond.selects RX10 yX10_ramBy yX10_ramBy ∈ WALL := tb8 (List.mem_of_getElem? (i := 140) rfl) rfl
theorem wl_8_141 : Cond.code yX10_ramBy cX10_ramBy 9 (some .int) ∈ WALL := tb8 (List.mem_of_getElem? (i := 141) rfl) rfl
theorem wl_5_10 : Cond.methodLink RL 151 yX8_hold ∈ WALL := tb5 (List.mem_of_getElem? (i := 10) rfl) rfl
theorem wl_5_11 : Cond.instanceMethod yX8_hold ∈ WALL := tb5 (List.mem_of_getElem? (i := 11) rfl) rfl
theorem wl_5_12 : Cond.selects RX8 yX8_hold yX8_hold ∈ WALL := tb5 (List.mem_of_getElem? (i := 12) rfl) rfl
theorem wl_5_13 : Cond.code yX8_hold cX8_hold 2 (some .int) ∈ WALL := tb5 (List.mem_of_getElem? (i := 13) rfl) rfl
theorem wl_8_142 : Cond.methodLink RL 154 yX10_hold ∈ WALL := tb8 (List.mem_of_getElem? (i := 142) rfl) rfl
theorem wl_8_143 : Cond.instanceMethod yX10_hold ∈ WALL := tb8 (List.mem_of_getElem? (i := 143) rfl) rfl
theorem wl_8_144 : Cond.selects RX10 yX10_hold yX10_hold ∈ WALL := tb8 (List.mem_of_getElem? (i := 144) rfl) rfl
theorem wl_8_145 : Cond.code yX10_hold cX10_hold 2 (some .int) ∈ WALL := tb8 (List.mem_of_getElem? (i := 145) rfl) rfl
theorem wl_5_18 : Cond.methodLink RL 155 yX8_stand ∈ WALL := tb5 (List.mem_of_getElem? (i := 18) rfl) rfl
theorem wl_5_19 : Cond.instanceMethod yX8_stand ∈ WALL := tb5 (List.mem_of_getElem? (i := 19) rfl) rfl
theorem wl_5_20 : Cond.selects RX8 yX8_stand yX8_stand ∈ WALL := tb5 (List.mem_of_getElem? (i := 20) rfl) rfl
theorem wl_5_21 : Cond.code yX8_stand cX8_stand 3 (some .int) ∈ WALL := tb5 (List.mem_of_getElem? (i := 21) rfl) rfl
theorem wl_8_150 : Cond.methodLink RL 158 yX10_stand ∈ WALL := tb8 (List.mem_of_getElem? (i := 150) rfl) rfl
theorem wl_8_151 : Cond.instanceMethod yX10_stand ∈ WALL := tb8 (List.mem_of_getElem? (i := 151) rfl) rfl
theorem wl_8_152 : Cond.selects RX10 yX10_stand yX10_stand ∈ WALL := tb8 (List.mem_of_getElem? (i := 152) rfl) rfl
theorem wl_8_153 : Cond.code yX10_stand cX10_stand 3 (some .int) ∈ WALL := tb8 (List.mem_of_getElem? (i := 153) rfl) rfl
theorem wl_5_22 : Cond.methodLink RL 159 yX8_theft ∈ WALL := tb5 (List.mem_of_getElem? (i := 22) rfl) rfl
theorem wl_5_23 : Cond.instanceMethod yX8_theft ∈ WALL := tb5 (List.mem_of_getElem? (i := 23) rfl) rfl
theorem wl_5_24 : Cond.selects RX8 yX8_theft yX8_theft ∈ WALL := tb5 (List.mem_of_getElem? (i := 24) rfl) rfl
theorem wl_5_25 : Cond.code yX8_theft cX8_theft 6 (some .int) ∈ WALL := tb5 (List.mem_of_getElem? (i := 25) rfl) rfl
theorem wl_8_154 : Cond.methodLink RL 163 yX10_theft ∈ WALL := tb8 (List.mem_of_getElem? (i := 154) rfl) rfl
theorem wl_8_155 : Cond.instanceMethod yX10_theft ∈ WALL := tb8 (List.mem_of_getElem? (i := 155) rfl) rfl
theorem wl_8_156 : Cond.selects RX10 yX10_theft yX10_theft ∈ WALL := tb8 (List.mem_of_getElem? (i := 156) rfl) rfl
theorem wl_8_157 : Cond.code yX10_theft cX10_theft 11 (some .int) ∈ WALL := tb8 (List.mem_of_getElem? (i := 157) rfl) rfl
theorem wl_5_52 : Cond.methodLink RL 164 yX8_widen ∈ WALL := tb5 (List.mem_of_getElem? (i := 52) rfl) rfl
theorem wl_5_53 : Cond.instanceMethod yX8_widen ∈ WALL := tb5 (List.mem_of_getElem? (i := 53) rfl) rfl
theorem wl_5_54 : Cond.selects RX8 yX8_widen yX8_widen ∈ WALL := tb5 (List.mem_of_getElem? (i := 54) rfl) rfl
theorem wl_5_55 : Cond.code yX8_widen cX8_widen 6 (some .boolean) ∈ WALL := tb5 (List.mem_of_getElem? (i := 55) rfl) rfl
theorem wl_8_166 : Cond.methodLink RL 168 yX10_widen ∈ WALL := tb8 (List.mem_of_getElem? (i := 166) rfl) rfl
theorem wl_8_167 : Cond.instanceMethod yX10_widen ∈ WALL := tb8 (List.mem_of_getElem? (i := 167) rfl) rfl
theorem wl_8_168 : Cond.selects RX10 yX10_widen yX10_widen ∈ WALL := tb8 (List.mem_of_getElem? (i := 168) rfl) rfl
theorem wl_8_169 : Cond.code yX10_widen cX10_widen 5 (some .boolean) ∈ WALL := tb8 (List.mem_of_getElem? (i := 169) rfl) rfl
theorem wl_5_65 : Cond.methodLink RL 169 yX8_dig ∈ WALL := tb5 (List.mem_of_getElem? (i := 65) rfl) rfl
theorem wl_5_66 : Cond.instanceMethod yX8_dig ∈ WALL := tb5 (List.mem_of_getElem? (i := 66) rfl) rfl
theorem wl_5_67 : Cond.selects RX8 yX8_dig yX8_dig ∈ WALL := tb5 (List.mem_of_getElem? (i := 67) rfl) rfl
theorem wl_5_68 : Cond.code yX8_dig cX8_dig 10 (some .int) ∈ WALL := tb5 (List.mem_of_getElem? (i := 68) rfl) rfl
theorem wl_8_174 : Cond.methodLink RL 173 yX10_dig ∈ WALL := tb8 (List.mem_of_getElem? (i := 174) rfl) rfl
theorem wl_8_175 : Cond.instanceMethod yX10_dig ∈ WALL := tb8 (List.mem_of_getElem? (i := 175) rfl) rfl
theorem wl_8_176 : Cond.selects RX10 yX10_dig yX10_dig ∈ WALL := tb8 (List.mem_of_getElem? (i := 176) rfl) rfl
theorem wl_8_177 : Cond.code yX10_dig cX10_dig 7 (some .int) ∈ WALL := tb8 (List.mem_of_getElem? (i := 177) rfl) rfl
theorem wl_5_69 : Cond.methodLink RL 174 yX8_close ∈ WALL := tb5 (List.mem_of_getElem? (i := 69) rfl) rfl
theorem wl_5_70 : Cond.instanceMethod yX8_close ∈ WALL := tb5 (List.mem_of_getElem? (i := 70) rfl) rfl
theorem wl_5_71 : Cond.selects RX8 yX8_close yX8_close ∈ WALL := tb5 (List.mem_of_getElem? (i := 71) rfl) rfl
theorem wl_5_72 : Cond.code yX8_close cX8_close 2 (some .boolean) ∈ WALL := tb5 (List.mem_of_getElem? (i := 72) rfl) rfl
theorem wl_8_178 : Cond.methodLink RL 177 yX10_close ∈ WALL := tb8 (List.mem_of_getElem? (i := 178) rfl) rfl
theorem wl_8_179 : Cond.instanceMethod yX10_close ∈ WALL := tb8 (List.mem_of_getElem? (i := 179) rfl) rfl
theorem wl_8_180 : Cond.selects RX10 yX10_close yX10_close ∈ WALL := tb8 (List.mem_of_getElem? (i := 180) rfl) rfl
theorem wl_8_181 : Cond.code yX10_close cX10_close 2 (some .boolean) ∈ WALL := tb8 (List.mem_of_getElem? (i := 181) rfl) rfl
theorem wl_5_73 : Cond.methodLink RL 178 yX8_undo ∈ WALL := tb5 (List.mem_of_getElem? (i := 73) rfl) rfl
theorem wl_5_74 : Cond.instanceMethod yX8_undo ∈ WALL := tb5 (List.mem_of_getElem? (i := 74) rfl) rfl
theorem wl_5_75 : Cond.selects RX8 yX8_undo yX8_undo ∈ WALL := tb5 (List.mem_of_getElem? (i := 75) rfl) rfl
theorem wl_5_76 : Cond.code yX8_undo cX8_undo 1 (some .boolean) ∈ WALL := tb5 (List.mem_of_getElem? (i := 76) rfl) rfl
theorem wl_8_182 : Cond.methodLink RL 181 yX10_undo ∈ WALL := tb8 (List.mem_of_getElem? (i := 182) rfl) rfl
theorem wl_8_183 : Cond.instanceMethod yX10_undo ∈ WALL := tb8 (List.mem_of_getElem? (i := 183) rfl) rfl
theorem wl_8_184 : Cond.selects RX10 yX10_undo yX10_undo ∈ WALL := tb8 (List.mem_of_getElem? (i := 184) rfl) rfl
theorem wl_8_185 : Cond.code yX10_undo cX10_undo 3 (some .boolean) ∈ WALL := tb8 (List.mem_of_getElem? (i := 185) rfl) rfl
theorem wl_8_186 : Cond.methodLink RL 187 yX10_led ∈ WALL := tb8 (List.mem_of_getElem? (i := 186) rfl) rfl
theorem wl_8_187 : Cond.instanceMethod yX10_led ∈ WALL := tb8 (List.mem_of_getElem? (i := 187) rfl) rfl
theorem wl_8_188 : Cond.selects RX10 yX10_led yX10_led ∈ WALL := tb8 (List.mem_of_getElem? (i := 188) rfl) rfl
theorem wl_8_189 : Cond.code yX10_led cX10_led 4 (some .int) ∈ WALL := tb8 (List.mem_of_getElem? (i := 189) rfl) rfl
theorem wl_6_60 : Cond.methodLink RL 188 yX10_thrown ∈ WALL := tb6 (List.mem_of_getElem? (i := 60) rfl) rfl
theorem wl_6_61 : Cond.instanceMethod yX10_thrown ∈ WALL := tb6 (List.mem_of_getElem? (i := 61) rfl) rfl
theorem wl_6_62 : Cond.selects RX10 yX10_thrown yX10_thrown ∈ WALL := tb6 (List.mem_of_getElem? (i := 62) rfl) rfl
theorem wl_6_63 : Cond.code yX10_thrown cX10_thrown 1 (some .int) ∈ WALL := tb6 (List.mem_of_getElem? (i := 63) rfl) rfl
theorem wl_5_81 : Cond.methodLink RL 191 yX8_size ∈ WALL := tb5 (List.mem_of_getElem? (i := 81) rfl) rfl
theorem wl_5_82 : Cond.instanceMethod yX8_size ∈ WALL := tb5 (List.mem_of_getElem? (i := 82) rfl) rfl
theorem wl_5_83 : Cond.selects RX8 yX8_size yX8_size ∈ WALL := tb5 (List.mem_of_getElem? (i := 83) rfl) rfl
theorem wl_5_84 : Cond.code yX8_size cX8_size 2 (some .int) ∈ WALL := tb5 (List.mem_of_getElem? (i := 84) rfl) rfl
theorem wl_8_190 : Cond.methodLink RL 194 yX10_size ∈ WALL := tb8 (List.mem_of_getElem? (i := 190) rfl) rfl
theorem wl_8_191 : Cond.instanceMethod yX10_size ∈ WALL := tb8 (List.mem_of_getElem? (i := 191) rfl) rfl
theorem wl_8_192 : Cond.selects RX10 yX10_size yX10_size ∈ WALL := tb8 (List.mem_of_getElem? (i := 192) rfl) rfl
theorem wl_8_193 : Cond.code yX10_size cX10_size 2 (some .int) ∈ WALL := tb8 (List.mem_of_getElem? (i := 193) rfl) rfl
theorem wl_5_85 : Cond.methodLink RL 195 yX8_trouble ∈ WALL := tb5 (List.mem_of_getElem? (i := 85) rfl) rfl
theorem wl_5_86 : Cond.instanceMethod yX8_trouble ∈ WALL := tb5 (List.mem_of_getElem? (i := 86) rfl) rfl
theorem wl_5_87 : Cond.selects RX8 yX8_trouble yX8_trouble ∈ WALL := tb5 (List.mem_of_getElem? (i := 87) rfl) rfl
theorem wl_5_88 : Cond.code yX8_trouble cX8_trouble 1 (some .int) ∈ WALL := tb5 (List.mem_of_getElem? (i := 88) rfl) rfl
theorem wl_8_194 : Cond.methodLink RL 198 yX10_trouble ∈ WALL := tb8 (List.mem_of_getElem? (i := 194) rfl) rfl
theorem wl_8_195 : Cond.instanceMethod yX10_trouble ∈ WALL := tb8 (List.mem_of_getElem? (i := 195) rfl) rfl
theorem wl_8_196 : Cond.selects RX10 yX10_trouble yX10_trouble ∈ WALL := tb8 (List.mem_of_getElem? (i := 196) rfl) rfl
theorem wl_8_197 : Cond.code yX10_trouble cX10_trouble 1 (some .int) ∈ WALL := tb8 (List.mem_of_getElem? (i := 197) rfl) rfl
set_option maxRecDepth 100000 in
set_option maxHeartbeats 4000000 in
theorem SL_1686 {X : CX} {sL : Nat} {sx : Nat → Int32} {Q : xQ} (hC : CF X cL_law RL WALL) (e2 : xn X = 7) (e3 : xR X = room_1) (hX : SX X sL sx) (hT : LT X Q) (hled : LH X) : ∀ (k23 : xK), SdS X 23 [(0, 6), (1, 18), (2, 20), (3, 101), (4, 0)] [] k23 → SdS X 1686 [(0, 6), (1, 18), (2, 20), (3, 101), (4, 0)] [] (B_L_law_1686 sL sx Q k23) := by
  intro k23 h23
  unfold B_L_law_1686
  refine su_iinc (Γ' := [(0, 6), (1, 18), (2, 20), (3, 101), (4, 0)]) hC dL_law_1686 (by decide) (by rw [e2]; decide) (by decide) (?_ : SdS X 1689 [(0, 6), (1, 18), (2, 20), (3, 101), (4, 0)] [] _)
  refine su_goto (tgt := 23) hC dL_law_1689 rfl (?_ : SdS X 23 [(0, 6), (1, 18), (2, 20), (3, 101), (4, 0)] [] _)
  exact SdS.weak (by decide) h23
set_option maxRecDepth 100000 in
set_option maxHeartbeats 4000000 in
theorem SL_220 {X : CX} {sL : Nat} {sx : Nat → Int32} {Q : xQ} (hC : CF X cL_law RL WALL) (e2 : xn X = 7) (e3 : xR X = room_1) (hX : SX X sL sx) (hT : LT X Q) (hled : LH X) : ∀ (k23 : xK), SdS X 23 [(0, 6), (1, 18), (2, 20), (3, 101), (4, 0)] [] k23 → SdS X 220 [(0, 6), (1, 18), (2, 20), (3, 101), (4, 0)] [] (B_L_law_220 sL sx Q k23) := by
  intro k23 h23
  unfold B_L_law_220
  refine su_aload_n hC 18 dL_law_220 rfl (by decide) (by decide) (?_ : SdS X 221 [(0, 6), (1, 18), (2, 20), (3, 101), (4, 0)] [18] _)
  refine su_aload_n hC 6 dL_law_221 rfl (by decide) (by decide) (?_ : SdS X 222 [(0, 6), (1, 18), (2, 20), (3, 101), (4, 0)] [6, 18] _)
  refine su_iload hC dL_law_222 (by decide) (?_ : SdS X 224 [(0, 6), (1, 18), (2, 20), (3, 101), (4, 0)] [0, 6, 18] _)
  refine su_iconst hC dL_law_224 ⟨by decide, by decide⟩ (?_ : SdS X 225 [(0, 6), (1, 18), (2, 20), (3, 101), (4, 0)] [0, 0, 6, 18] _)
  refine su_iadd hC dL_law_225 (?_ : SdS X 226 [(0, 6), (1, 18), (2, 20), (3, 101), (4, 0)] [0, 6, 18] _)
  refine su_sld hC hX dL_law_226 (?_ : SdS X 227 [(0, 6), (1, 18), (2, 20), (3, 101), (4, 0)] [0, 18] _)
  refine su_aload_n hC 6 dL_law_227 rfl (by decide) (by decide) (?_ : SdS X 228 [(0, 6), (1, 18), (2, 20), (3, 101), (4, 0)] [6, 0, 18] _)
  refine su_iload hC dL_law_228 (by decide) (?_ : SdS X 230 [(0, 6), (1, 18), (2, 20), (3, 101), (4, 0)] [0, 6, 0, 18] _)
  refine su_iconst hC dL_law_230 ⟨by decide, by decide⟩ (?_ : SdS X 231 [(0, 6), (1, 18), (2, 20), (3, 101), (4, 0)] [0, 0, 6, 0, 18] _)
  refine su_iadd hC dL_law_231 (?_ : SdS X 232 [(0, 6), (1, 18), (2, 20), (3, 101), (4, 0)] [0, 6, 0, 18] _)
  refine su_sld hC hX dL_law_232 (?_ : SdS X 233 [(0, 6), (1, 18), (2, 20), (3, 101), (4, 0)] [0, 0, 18] _)
  refine su_aload_n hC 6 dL_law_233 rfl (by decide) (by decide) (?_ : SdS X 234 [(0, 6), (1, 18), (2, 20), (3, 101), (4, 0)] [6, 0, 0, 18] _)
  refine su_iload hC dL_law_234 (by decide) (?_ : SdS X 236 [(0, 6), (1, 18), (2, 20), (3, 101), (4, 0)] [0, 6, 0, 0, 18] _)
  refine su_iconst hC dL_law_236 ⟨by decide, by decide⟩ (?_ : SdS X 237 [(0, 6), (1, 18), (2, 20), (3, 101), (4, 0)] [0, 0, 6, 0, 0, 18] _)
  refine su_iadd hC dL_law_237 (?_ : SdS X 238 [(0, 6), (1, 18), (2, 20), (3, 101), (4, 0)] [0, 6, 0, 0, 18] _)
  refine su_sld hC hX dL_law_238 (?_ : SdS X 239 [(0, 6), (1, 18), (2, 20), (3, 101), (4, 0)] [0, 0, 0, 18] _)
  refine su_aload_n hC 6 dL_law_239 rfl (by decide) (by decide) (?_ : SdS X 240 [(0, 6), (1, 18), (2, 20), (3, 101), (4, 0)] [6, 0, 0, 0, 18] _)
  refine su_iload hC dL_law_240 (by decide) (?_ : SdS X 242 [(0, 6), (1, 18), (2, 20), (3, 101), (4, 0)] [0, 6, 0, 0, 0, 18] _)
  refine su_iconst hC dL_law_242 ⟨by decide, by decide⟩ (?_ : SdS X 243 [(0, 6), (1, 18), (2, 20), (3, 101), (4, 0)] [0, 0, 6, 0, 0, 0, 18] _)
  refine su_iadd hC dL_law_243 (?_ : SdS X 244 [(0, 6), (1, 18), (2, 20), (3, 101), (4, 0)] [0, 6, 0, 0, 0, 18] _)
  refine su_sld hC hX dL_law_244 (?_ : SdS X 245 [(0, 6), (1, 18), (2, 20), (3, 101), (4, 0)] [0, 0, 0, 0, 18] _)
  refine su_aload_n hC 6 dL_law_245 rfl (by decide) (by decide) (?_ : SdS X 246 [(0, 6), (1, 18), (2, 20), (3, 101), (4, 0)] [6, 0, 0, 0, 0, 18] _)
  refine su_iload hC dL_law_246 (by decide) (?_ : SdS X 248 [(0, 6), (1, 18), (2, 20), (3, 101), (4, 0)] [0, 6, 0, 0, 0, 0, 18] _)
  refine su_iconst hC dL_law_248 ⟨by decide, by decide⟩ (?_ : SdS X 249 [(0, 6), (1, 18), (2, 20), (3, 101), (4, 0)] [0, 0, 6, 0, 0, 0, 0, 18] _)
  refine su_iadd hC dL_law_249 (?_ : SdS X 250 [(0, 6), (1, 18), (2, 20), (3, 101), (4, 0)] [0, 6, 0, 0, 0, 0, 18] _)
  refine su_sld hC hX dL_law_250 (?_ : SdS X 251 [(0, 6), (1, 18), (2, 20), (3, 101), (4, 0)] [0, 0, 0, 0, 0, 18] _)
  refine su_inv0 (τ := []) (τr := [0, 0, 0, 0, 0]) (ci := 8) (q := (RX8, TX8, 18)) hC WG (M_X8_feed _) rfl rfl rfl rfl  rfl rfl wl_2_163 wl_2_164 wl_2_165 wl_1_1 wl_2_166 hd_X8_feed (by rw [e3]; decide) (by decide) dL_law_251 (?_ : SdS X 254 [(0, 6), (1, 18), (2, 20), (3, 101), (4, 0)] [0] _)
  refine su_aload_n hC 20 dL_law_254 rfl (by decide) (by decide) (?_ : SdS X 255 [(0, 6), (1, 18), (2, 20), (3, 101), (4, 0)] [20, 0] _)
  refine su_aload_n hC 6 dL_law_255 rfl (by decide) (by decide) (?_ : SdS X 256 [(0, 6), (1, 18), (2, 20), (3, 101), (4, 0)] [6, 20, 0] _)
  refine su_iload hC dL_law_256 (by decide) (?_ : SdS X 258 [(0, 6), (1, 18), (2, 20), (3, 101), (4, 0)] [0, 6, 20, 0] _)
  refine su_iconst hC dL_law_258 ⟨by decide, by decide⟩ (?_ : SdS X 259 [(0, 6), (1, 18), (2, 20), (3, 101), (4, 0)] [0, 0, 6, 20, 0] _)
  refine su_iadd hC dL_law_259 (?_ : SdS X 260 [(0, 6), (1, 18), (2, 20), (3, 101), (4, 0)] [0, 6, 20, 0] _)
  refine su_sld hC hX dL_law_260 (?_ : SdS X 261 [(0, 6), (1, 18), (2, 20), (3, 101), (4, 0)] [0, 20, 0] _)
  refine su_aload_n hC 6 dL_law_261 rfl (by decide) (by decide) (?_ : SdS X 262 [(0, 6), (1, 18), (2, 20), (3, 101), (4, 0)] [6, 0, 20, 0] _)
  refine su_iload hC dL_law_262 (by decide) (?_ : SdS X 264 [(0, 6), (1, 18), (2, 20), (3, 101), (4, 0)] [0, 6, 0, 20, 0] _)
  refine su_iconst hC dL_law_264 ⟨by decide, by decide⟩ (?_ : SdS X 265 [(0, 6), (1, 18), (2, 20), (3, 101), (4, 0)] [0, 0, 6, 0, 20, 0] _)
  refine su_iadd hC dL_law_265 (?_ : SdS X 266 [(0, 6), (1, 18), (2, 20), (3, 101), (4, 0)] [0, 6, 0, 20, 0] _)
  refine su_sld hC hX dL_law_266 (?_ : SdS X 267 [(0, 6), (1, 18), (2, 20), (3, 101), (4, 0)] [0, 0, 20, 0] _)
  refine su_aload_n hC 6 dL_law_267 rfl (by decide) (by decide) (?_ : SdS X 268 [(0, 6), (1, 18), (2, 20), (3, 101), (4, 0)] [6, 0, 0, 20, 0] _)
  refine su_iload hC dL_law_268 (by decide) (?_ : SdS X 270 [(0, 6), (1, 18), (2, 20), (3, 101), (4, 0)] [0, 6, 0, 0, 20, 0] _)
  refine su_iconst hC dL_law_270 ⟨by decide, by decide⟩ (?_ : SdS X 271 [(0, 6), (1, 18), (2, 20), (3, 101), (4, 0)] [0, 0, 6, 0, 0, 20, 0] _)
  refine su_iadd hC dL_law_271 (?_ : SdS X 272 [(0, 6), (1, 18), (2, 20), (3, 101), (4, 0)] [0, 6, 0, 0, 20, 0] _)
  refine su_sld hC hX dL_law_272 (?_ : SdS X 273 [(0, 6), (1, 18), (2, 20), (3, 101), (4, 0)] [0, 0, 0, 20, 0] _)
  refine su_aload_n hC 6 dL_law_273 rfl (by decide) (by decide) (?_ : SdS X 274 [(0, 6), (1, 18), (2, 20), (3, 101), (4, 0)] [6, 0, 0, 0, 20, 0] _)
  refine su_iload hC dL_law_274 (by decide) (?_ : SdS X 276 [(0, 6), (1, 18), (2, 20), (3, 101), (4, 0)] [0, 6, 0, 0, 0, 20, 0] _)
  refine su_iconst hC dL_law_276 ⟨by decide, by decide⟩ (?_ : SdS X 277 [(0, 6), (1, 18), (2, 20), (3, 101), (4, 0)] [0, 0, 6, 0, 0, 0, 20, 0] _)
  refine su_iadd hC dL_law_277 (?_ : SdS X 278 [(0, 6), (1, 18), (2, 20), (3, 101), (4, 0)] [0, 6, 0, 0, 0, 20, 0] _)
  refine su_sld hC hX dL_law_278 (?_ : SdS X 279 [(0, 6), (1, 18), (2, 20), (3, 101), (4, 0)] [0, 0, 0, 0, 20, 0] _)
  refine su_aload_n hC 6 dL_law_279 rfl (by decide) (by decide) (?_ : SdS X 280 [(0, 6), (1, 18), (2, 20), (3, 101), (4, 0)] [6, 0, 0, 0, 0, 20, 0] _)
  refine su_iload hC dL_law_280 (by decide) (?_ : SdS X 282 [(0, 6), (1, 18), (2, 20), (3, 101), (4, 0)] [0, 6, 0, 0, 0, 0, 20, 0] _)
  refine su_iconst hC dL_law_282 ⟨by decide, by decide⟩ (?_ : SdS X 283 [(0, 6), (1, 18), (2, 20), (3, 101), (4, 0)] [0, 0, 6, 0, 0, 0, 0, 20, 0] _)
  refine su_iadd hC dL_law_283 (?_ : SdS X 284 [(0, 6), (1, 18), (2, 20), (3, 101), (4, 0)] [0, 6, 0, 0, 0, 0, 20, 0] _)
  refine su_sld hC hX dL_law_284 (?_ : SdS X 285 [(0, 6), (1, 18), (2, 20), (3, 101), (4, 0)] [0, 0, 0, 0, 0, 20, 0] _)
  refine su_inv0 (τ := [0]) (τr := [0, 0, 0, 0, 0]) (ci := 10) (q := (RX10, TX10, 45)) hC WG (M_X10_feed _) rfl rfl rfl rfl  rfl rfl wl_6_64 wl_6_65 wl_6_66 wl_1_10 wl_6_67 hd_X10_feed (by rw [e3]; decide) (by decide) dL_law_285 (?_ : SdS X 288 [(0, 6), (1, 18), (2, 20), (3, 101), (4, 0)] [0, 0] _)
  refine su_icmp_eq (tgt := 1686) hC dL_law_288 rfl (?_ : SdS X 1686 [(0, 6), (1, 18), (2, 20), (3, 101), (4, 0)] [] _) (?_ : SdS X 291 [(0, 6), (1, 18), (2, 20), (3, 101), (4, 0)] [] _)
  · exact SdS.weak (by decide) (SL_1686 hC e2 e3 hX hT hled k23 h23)
  · refine su_iconst hC dL_law_291 ⟨by decide, by decide⟩ (?_ : SdS X 292 [(0, 6), (1, 18), (2, 20), (3, 101), (4, 0)] [0] _)
    exact su_lret hC hT dL_law_292
set_option maxRecDepth 100000 in
set_option maxHeartbeats 4000000 in
theorem SL_293 {X : CX} {sL : Nat} {sx : Nat → Int32} {Q : xQ} (hC : CF X cL_law RL WALL) (e2 : xn X = 7) (e3 : xR X = room_1) (hX : SX X sL sx) (hT : LT X Q) (hled : LH X) : ∀ (k23 : xK), SdS X 23 [(0, 6), (1, 18), (2, 20), (3, 101), (4, 0)] [] k23 → SdS X 293 [(0, 6), (1, 18), (2, 20), (3, 101), (4, 0)] [] (B_L_law_293 sL sx Q k23) := by
  intro k23 h23
  unfold B_L_law_293
  refine su_aload_n hC 18 dL_law_293 rfl (by decide) (by decide) (?_ : SdS X 294 [(0, 6), (1, 18), (2, 20), (3, 101), (4, 0)] [18] _)
  refine su_aload_n hC 6 dL_law_294 rfl (by decide) (by decide) (?_ : SdS X 295 [(0, 6), (1, 18), (2, 20), (3, 101), (4, 0)] [6, 18] _)
  refine su_iload hC dL_law_295 (by decide) (?_ : SdS X 297 [(0, 6), (1, 18), (2, 20), (3, 101), (4, 0)] [0, 6, 18] _)
  refine su_iconst hC dL_law_297 ⟨by decide, by decide⟩ (?_ : SdS X 298 [(0, 6), (1, 18), (2, 20), (3, 101), (4, 0)] [0, 0, 6, 18] _)
  refine su_iadd hC dL_law_298 (?_ : SdS X 299 [(0, 6), (1, 18), (2, 20), (3, 101), (4, 0)] [0, 6, 18] _)
  refine su_sld hC hX dL_law_299 (?_ : SdS X 300 [(0, 6), (1, 18), (2, 20), (3, 101), (4, 0)] [0, 18] _)
  refine su_inv0 (τ := []) (τr := [0]) (ci := 8) (q := (RX8, TX8, 18)) hC WG (M_X8_city _) rfl rfl rfl rfl  rfl rfl wl_2_171 wl_2_172 wl_2_173 wl_1_1 wl_2_174 hd_X8_city (by rw [e3]; decide) (by decide) dL_law_300 (?_ : SdS X 303 [(0, 6), (1, 18), (2, 20), (3, 101), (4, 0)] [0] _)
  refine su_aload_n hC 20 dL_law_303 rfl (by decide) (by decide) (?_ : SdS X 304 [(0, 6), (1, 18), (2, 20), (3, 101), (4, 0)] [20, 0] _)
  refine su_aload_n hC 6 dL_law_304 rfl (by decide) (by decide) (?_ : SdS X 305 [(0, 6), (1, 18), (2, 20), (3, 101), (4, 0)] [6, 20, 0] _)
  refine su_iload hC dL_law_305 (by decide) (?_ : SdS X 307 [(0, 6), (1, 18), (2, 20), (3, 101), (4, 0)] [0, 6, 20, 0] _)
  refine su_iconst hC dL_law_307 ⟨by decide, by decide⟩ (?_ : SdS X 308 [(0, 6), (1, 18), (2, 20), (3, 101), (4, 0)] [0, 0, 6, 20, 0] _)
  refine su_iadd hC dL_law_308 (?_ : SdS X 309 [(0, 6), (1, 18), (2, 20), (3, 101), (4, 0)] [0, 6, 20, 0] _)
  refine su_sld hC hX dL_law_309 (?_ : SdS X 310 [(0, 6), (1, 18), (2, 20), (3, 101), (4, 0)] [0, 20, 0] _)
  refine su_inv (τ := [0]) (τr := [0]) (ci := 10) (q := (RX10, TX10, 45)) hC WG (M_X10_city _) rfl rfl rfl rfl (by rw [e3]; rfl) (by rw [e3]; rfl) rfl rfl wl_6_68 wl_6_69 wl_6_70 wl_1_10 wl_6_71 hd_X10_city (by rw [e3]; decide) (by decide) dL_law_310 (?_ : SdS X 313 [(0, 6), (1, 18), (2, 20), (3, 101), (4, 0)] [0, 0] _)
  refine su_icmp_eq (tgt := 1686) hC dL_law_313 rfl (?_ : SdS X 1686 [(0, 6), (1, 18), (2, 20), (3, 101), (4, 0)] [] _) (?_ : SdS X 316 [(0, 6), (1, 18), (2, 20), (3, 101), (4, 0)] [] _)
  · exact SdS.weak (by decide) (SL_1686 hC e2 e3 hX hT hled k23 h23)
  · refine su_iconst hC dL_law_316 ⟨by decide, by decide⟩ (?_ : SdS X 317 [(0, 6), (1, 18), (2, 20), (3, 101), (4, 0)] [0] _)
    exact su_lret hC hT dL_law_317
set_option maxRecDepth 100000 in
set_option maxHeartbeats 4000000 in
theorem SL_318 {X : CX} {sL : Nat} {sx : Nat → Int32} {Q : xQ} (hC : CF X cL_law RL WALL) (e2 : xn X = 7) (e3 : xR X = room_1) (hX : SX X sL sx) (hT : LT X Q) (hled : LH X) : ∀ (k23 : xK), SdS X 23 [(0, 6), (1, 18), (2, 20), (3, 101), (4, 0)] [] k23 → SdS X 318 [(0, 6), (1, 18), (2, 20), (3, 101), (4, 0)] [] (B_L_law_318 sL sx Q k23) := by
  intro k23 h23
  unfold B_L_law_318
  refine su_aload_n hC 18 dL_law_318 rfl (by decide) (by decide) (?_ : SdS X 319 [(0, 6), (1, 18), (2, 20), (3, 101), (4, 0)] [18] _)
  refine su_inv0 (τ := []) (τr := []) (ci := 8) (q := (RX8, TX8, 18)) hC WG (M_X8_fault _) rfl rfl rfl rfl  rfl rfl wl_3_230 wl_3_231 wl_3_232 wl_1_1 wl_3_233 hd_X8_fault (by rw [e3]; decide) (by decide) dL_law_319 (?_ : SdS X 322 [(0, 6), (1, 18), (2, 20), (3, 101), (4, 0)] [0] _)
  refine su_aload_n hC 20 dL_law_322 rfl (by decide) (by decide) (?_ : SdS X 323 [(0, 6), (1, 18), (2, 20), (3, 101), (4, 0)] [20, 0] _)
  refine su_inv0 (τ := [0]) (τr := []) (ci := 10) (q := (RX10, TX10, 45)) hC WG (M_X10_fault _) rfl rfl rfl rfl  rfl rfl wl_7_175 wl_7_176 wl_7_177 wl_1_10 wl_7_178 hd_X10_fault (by rw [e3]; decide) (by decide) dL_law_323 (?_ : SdS X 326 [(0, 6), (1, 18), (2, 20), (3, 101), (4, 0)] [0, 0] _)
  refine su_icmp_eq (tgt := 1686) hC dL_law_326 rfl (?_ : SdS X 1686 [(0, 6), (1, 18), (2, 20), (3, 101), (4, 0)] [] _) (?_ : SdS X 329 [(0, 6), (1, 18), (2, 20), (3, 101), (4, 0)] [] _)
  · exact SdS.weak (by decide) (SL_1686 hC e2 e3 hX hT hled k23 h23)
  · refine su_iconst hC dL_law_329 ⟨by decide, by decide⟩ (?_ : SdS X 330 [(0, 6), (1, 18), (2, 20), (3, 101), (4, 0)] [0] _)
    exact su_lret hC hT dL_law_330
set_option maxRecDepth 100000 in
set_option maxHeartbeats 4000000 in
theorem SL_331 {X : CX} {sL : Nat} {sx : Nat → Int32} {Q : xQ} (hC : CF X cL_law RL WALL) (e2 : xn X = 7) (e3 : xR X = room_1) (hX : SX X sL sx) (hT : LT X Q) (hled : LH X) : ∀ (k23 : xK), SdS X 23 [(0, 6), (1, 18), (2, 20), (3, 101), (4, 0)] [] k23 → SdS X 331 [(0, 6), (1, 18), (2, 20), (3, 101), (4, 0)] [] (B_L_law_331 sL sx Q k23) := by
  intro k23 h23
  unfold B_L_law_331
  refine su_aload_n hC 18 dL_law_331 rfl (by decide) (by decide) (?_ : SdS X 332 [(0, 6), (1, 18), (2, 20), (3, 101), (4, 0)] [18] _)
  refine su_inv0 (τ := []) (τr := []) (ci := 8) (q := (RX8, TX8, 18)) hC WG (M_X8_where _) rfl rfl rfl rfl  rfl rfl wl_3_234 wl_3_235 wl_3_236 wl_1_1 wl_3_237 hd_X8_where (by rw [e3]; decide) (by decide) dL_law_332 (?_ : SdS X 335 [(0, 6), (1, 18), (2, 20), (3, 101), (4, 0)] [0] _)
  refine su_aload_n hC 20 dL_law_335 rfl (by decide) (by decide) (?_ : SdS X 336 [(0, 6), (1, 18), (2, 20), (3, 101), (4, 0)] [20, 0] _)
  refine su_inv0 (τ := [0]) (τr := []) (ci := 10) (q := (RX10, TX10, 45)) hC WG (M_X10_where _) rfl rfl rfl rfl  rfl rfl wl_7_179 wl_7_180 wl_7_181 wl_1_10 wl_7_182 hd_X10_where (by rw [e3]; decide) (by decide) dL_law_336 (?_ : SdS X 339 [(0, 6), (1, 18), (2, 20), (3, 101), (4, 0)] [0, 0] _)
  refine su_icmp_eq (tgt := 1686) hC dL_law_339 rfl (?_ : SdS X 1686 [(0, 6), (1, 18), (2, 20), (3, 101), (4, 0)] [] _) (?_ : SdS X 342 [(0, 6), (1, 18), (2, 20), (3, 101), (4, 0)] [] _)
  · exact SdS.weak (by decide) (SL_1686 hC e2 e3 hX hT hled k23 h23)
  · refine su_iconst hC dL_law_342 ⟨by decide, by decide⟩ (?_ : SdS X 343 [(0, 6), (1, 18), (2, 20), (3, 101), (4, 0)] [0] _)
    exact su_lret hC hT dL_law_343
set_option maxRecDepth 100000 in
set_option maxHeartbeats 4000000 in
theorem SL_344 {X : CX} {sL : Nat} {sx : Nat → Int32} {Q : xQ} (hC : CF X cL_law RL WALL) (e2 : xn X = 7) (e3 : xR X = room_1) (hX : SX X sL sx) (hT : LT X Q) (hled : LH X) : ∀ (k23 : xK), SdS X 23 [(0, 6), (1, 18), (2, 20), (3, 101), (4, 0)] [] k23 → SdS X 344 [(0, 6), (1, 18), (2, 20), (3, 101), (4, 0)] [] (B_L_law_344 sL sx Q k23) := by
  intro k23 h23
  unfold B_L_law_344
  refine su_aload_n hC 18 dL_law_344 rfl (by decide) (by decide) (?_ : SdS X 345 [(0, 6), (1, 18), (2, 20), (3, 101), (4, 0)] [18] _)
  refine su_aload_n hC 6 dL_law_345 rfl (by decide) (by decide) (?_ : SdS X 346 [(0, 6), (1, 18), (2, 20), (3, 101), (4, 0)] [6, 18] _)
  refine su_iload hC dL_law_346 (by decide) (?_ : SdS X 348 [(0, 6), (1, 18), (2, 20), (3, 101), (4, 0)] [0, 6, 18] _)
  refine su_iconst hC dL_law_348 ⟨by decide, by decide⟩ (?_ : SdS X 349 [(0, 6), (1, 18), (2, 20), (3, 101), (4, 0)] [0, 0, 6, 18] _)
  refine su_iadd hC dL_law_349 (?_ : SdS X 350 [(0, 6), (1, 18), (2, 20), (3, 101), (4, 0)] [0, 6, 18] _)
  refine su_sld hC hX dL_law_350 (?_ : SdS X 351 [(0, 6), (1, 18), (2, 20), (3, 101), (4, 0)] [0, 18] _)
  refine su_aload_n hC 6 dL_law_351 rfl (by decide) (by decide) (?_ : SdS X 352 [(0, 6), (1, 18), (2, 20), (3, 101), (4, 0)] [6, 0, 18] _)
  refine su_iload hC dL_law_352 (by decide) (?_ : SdS X 354 [(0, 6), (1, 18), (2, 20), (3, 101), (4, 0)] [0, 6, 0, 18] _)
  refine su_iconst hC dL_law_354 ⟨by decide, by decide⟩ (?_ : SdS X 355 [(0, 6), (1, 18), (2, 20), (3, 101), (4, 0)] [0, 0, 6, 0, 18] _)
  refine su_iadd hC dL_law_355 (?_ : SdS X 356 [(0, 6), (1, 18), (2, 20), (3, 101), (4, 0)] [0, 6, 0, 18] _)
  refine su_sld hC hX dL_law_356 (?_ : SdS X 357 [(0, 6), (1, 18), (2, 20), (3, 101), (4, 0)] [0, 0, 18] _)
  refine su_inv0 (τ := []) (τr := [0, 0]) (ci := 8) (q := (RX8, TX8, 18)) hC WG (M_X8_gate _) rfl rfl rfl rfl  rfl rfl wl_3_238 wl_3_239 wl_4_0 wl_1_1 wl_4_1 hd_X8_gate (by rw [e3]; decide) (by decide) dL_law_357 (?_ : SdS X 360 [(0, 6), (1, 18), (2, 20), (3, 101), (4, 0)] [0] _)
  refine su_aload_n hC 20 dL_law_360 rfl (by decide) (by decide) (?_ : SdS X 361 [(0, 6), (1, 18), (2, 20), (3, 101), (4, 0)] [20, 0] _)
  refine su_aload_n hC 6 dL_law_361 rfl (by decide) (by decide) (?_ : SdS X 362 [(0, 6), (1, 18), (2, 20), (3, 101), (4, 0)] [6, 20, 0] _)
  refine su_iload hC dL_law_362 (by decide) (?_ : SdS X 364 [(0, 6), (1, 18), (2, 20), (3, 101), (4, 0)] [0, 6, 20, 0] _)
  refine su_iconst hC dL_law_364 ⟨by decide, by decide⟩ (?_ : SdS X 365 [(0, 6), (1, 18), (2, 20), (3, 101), (4, 0)] [0, 0, 6, 20, 0] _)
  refine su_iadd hC dL_law_365 (?_ : SdS X 366 [(0, 6), (1, 18), (2, 20), (3, 101), (4, 0)] [0, 6, 20, 0] _)
  refine su_sld hC hX dL_law_366 (?_ : SdS X 367 [(0, 6), (1, 18), (2, 20), (3, 101), (4, 0)] [0, 20, 0] _)
  refine su_aload_n hC 6 dL_law_367 rfl (by decide) (by decide) (?_ : SdS X 368 [(0, 6), (1, 18), (2, 20), (3, 101), (4, 0)] [6, 0, 20, 0] _)
  refine su_iload hC dL_law_368 (by decide) (?_ : SdS X 370 [(0, 6), (1, 18), (2, 20), (3, 101), (4, 0)] [0, 6, 0, 20, 0] _)
  refine su_iconst hC dL_law_370 ⟨by decide, by decide⟩ (?_ : SdS X 371 [(0, 6), (1, 18), (2, 20), (3, 101), (4, 0)] [0, 0, 6, 0, 20, 0] _)
  refine su_iadd hC dL_law_371 (?_ : SdS X 372 [(0, 6), (1, 18), (2, 20), (3, 101), (4, 0)] [0, 6, 0, 20, 0] _)
  refine su_sld hC hX dL_law_372 (?_ : SdS X 373 [(0, 6), (1, 18), (2, 20), (3, 101), (4, 0)] [0, 0, 20, 0] _)
  refine su_inv0 (τ := [0]) (τr := [0, 0]) (ci := 10) (q := (RX10, TX10, 45)) hC WG (M_X10_gate _) rfl rfl rfl rfl  rfl rfl wl_7_183 wl_7_184 wl_7_185 wl_1_10 wl_7_186 hd_X10_gate (by rw [e3]; decide) (by decide) dL_law_373 (?_ : SdS X 376 [(0, 6), (1, 18), (2, 20), (3, 101), (4, 0)] [0, 0] _)
  refine su_icmp_eq (tgt := 1686) hC dL_law_376 rfl (?_ : SdS X 1686 [(0, 6), (1, 18), (2, 20), (3, 101), (4, 0)] [] _) (?_ : SdS X 379 [(0, 6), (1, 18), (2, 20), (3, 101), (4, 0)] [] _)
  · exact SdS.weak (by decide) (SL_1686 hC e2 e3 hX hT hled k23 h23)
  · refine su_iconst hC dL_law_379 ⟨by decide, by decide⟩ (?_ : SdS X 380 [(0, 6), (1, 18), (2, 20), (3, 101), (4, 0)] [0] _)
    exact su_lret hC hT dL_law_380
set_option maxRecDepth 100000 in
set_option maxHeartbeats 4000000 in
theorem SL_438 {X : CX} {sL : Nat} {sx : Nat → Int32} {Q : xQ} (hC : CF X cL_law RL WALL) (e2 : xn X = 7) (e3 : xR X = room_1) (hX : SX X sL sx) (hT : LT X Q) (hled : LH X) : ∀ (k23 : xK), SdS X 23 [(0, 6), (1, 18), (2, 20), (3, 101), (4, 0)] [] k23 → SdS X 438 [(0, 6), (1, 18), (2, 20), (3, 101), (4, 0)] [0, 0, 20, 0] (B_L_law_438 sL sx Q k23) := by
  intro k23 h23
  unfold B_L_law_438
  refine su_aload_n hC 6 dL_law_438 rfl (by decide) (by decide) (?_ : SdS X 439 [(0, 6), (1, 18), (2, 20), (3, 101), (4, 0)] [6, 0, 0, 20, 0] _)
  refine su_iload hC dL_law_439 (by decide) (?_ : SdS X 441 [(0, 6), (1, 18), (2, 20), (3, 101), (4, 0)] [0, 6, 0, 0, 20, 0] _)
  refine su_iconst hC dL_law_441 ⟨by decide, by decide⟩ (?_ : SdS X 442 [(0, 6), (1, 18), (2, 20), (3, 101), (4, 0)] [0, 0, 6, 0, 0, 20, 0] _)
  refine su_iadd hC dL_law_442 (?_ : SdS X 443 [(0, 6), (1, 18), (2, 20), (3, 101), (4, 0)] [0, 6, 0, 0, 20, 0] _)
  refine su_sld hC hX dL_law_443 (?_ : SdS X 444 [(0, 6), (1, 18), (2, 20), (3, 101), (4, 0)] [0, 0, 0, 20, 0] _)
  refine su_aload_n hC 6 dL_law_444 rfl (by decide) (by decide) (?_ : SdS X 445 [(0, 6), (1, 18), (2, 20), (3, 101), (4, 0)] [6, 0, 0, 0, 20, 0] _)
  refine su_iload hC dL_law_445 (by decide) (?_ : SdS X 447 [(0, 6), (1, 18), (2, 20), (3, 101), (4, 0)] [0, 6, 0, 0, 0, 20, 0] _)
  refine su_iconst hC dL_law_447 ⟨by decide, by decide⟩ (?_ : SdS X 448 [(0, 6), (1, 18), (2, 20), (3, 101), (4, 0)] [0, 0, 6, 0, 0, 0, 20, 0] _)
  refine su_iadd hC dL_law_448 (?_ : SdS X 449 [(0, 6), (1, 18), (2, 20), (3, 101), (4, 0)] [0, 6, 0, 0, 0, 20, 0] _)
  refine su_sld hC hX dL_law_449 (?_ : SdS X 450 [(0, 6), (1, 18), (2, 20), (3, 101), (4, 0)] [0, 0, 0, 0, 20, 0] _)
  refine su_inv0 (τ := [0]) (τr := [0, 0, 0, 0]) (ci := 10) (q := (RX10, TX10, 45)) hC WG (M_X10_fits _) rfl rfl rfl rfl  rfl rfl wl_7_191 wl_7_192 wl_7_193 wl_1_10 wl_7_194 hd_X10_fits (by rw [e3]; decide) (by decide) dL_law_450 (?_ : SdS X 453 [(0, 6), (1, 18), (2, 20), (3, 101), (4, 0)] [0, 0] _)
  refine su_icmp_eq (tgt := 1686) hC dL_law_453 rfl (?_ : SdS X 1686 [(0, 6), (1, 18), (2, 20), (3, 101), (4, 0)] [] _) (?_ : SdS X 456 [(0, 6), (1, 18), (2, 20), (3, 101), (4, 0)] [] _)
  · exact SdS.weak (by decide) (SL_1686 hC e2 e3 hX hT hled k23 h23)
  · refine su_iconst hC dL_law_456 ⟨by decide, by decide⟩ (?_ : SdS X 457 [(0, 6), (1, 18), (2, 20), (3, 101), (4, 0)] [0] _)
    exact su_lret hC hT dL_law_457
set_option maxRecDepth 100000 in
set_option maxHeartbeats 4000000 in
theorem SL_402 {X : CX} {sL : Nat} {sx : Nat → Int32} {Q : xQ} (hC : CF X cL_law RL WALL) (e2 : xn X = 7) (e3 : xR X = room_1) (hX : SX X sL sx) (hT : LT X Q) (hled : LH X) : ∀ (k23 : xK), SdS X 23 [(0, 6), (1, 18), (2, 20), (3, 101), (4, 0)] [] k23 → SdS X 402 [(0, 6), (1, 18), (2, 20), (3, 101), (4, 0)] [0, 0, 18] (B_L_law_402 sL sx Q k23) := by
  intro k23 h23
  unfold B_L_law_402
  refine su_aload_n hC 6 dL_law_402 rfl (by decide) (by decide) (?_ : SdS X 403 [(0, 6), (1, 18), (2, 20), (3, 101), (4, 0)] [6, 0, 0, 18] _)
  refine su_iload hC dL_law_403 (by decide) (?_ : SdS X 405 [(0, 6), (1, 18), (2, 20), (3, 101), (4, 0)] [0, 6, 0, 0, 18] _)
  refine su_iconst hC dL_law_405 ⟨by decide, by decide⟩ (?_ : SdS X 406 [(0, 6), (1, 18), (2, 20), (3, 101), (4, 0)] [0, 0, 6, 0, 0, 18] _)
  refine su_iadd hC dL_law_406 (?_ : SdS X 407 [(0, 6), (1, 18), (2, 20), (3, 101), (4, 0)] [0, 6, 0, 0, 18] _)
  refine su_sld hC hX dL_law_407 (?_ : SdS X 408 [(0, 6), (1, 18), (2, 20), (3, 101), (4, 0)] [0, 0, 0, 18] _)
  refine su_aload_n hC 6 dL_law_408 rfl (by decide) (by decide) (?_ : SdS X 409 [(0, 6), (1, 18), (2, 20), (3, 101), (4, 0)] [6, 0, 0, 0, 18] _)
  refine su_iload hC dL_law_409 (by decide) (?_ : SdS X 411 [(0, 6), (1, 18), (2, 20), (3, 101), (4, 0)] [0, 6, 0, 0, 0, 18] _)
  refine su_iconst hC dL_law_411 ⟨by decide, by decide⟩ (?_ : SdS X 412 [(0, 6), (1, 18), (2, 20), (3, 101), (4, 0)] [0, 0, 6, 0, 0, 0, 18] _)
  refine su_iadd hC dL_law_412 (?_ : SdS X 413 [(0, 6), (1, 18), (2, 20), (3, 101), (4, 0)] [0, 6, 0, 0, 0, 18] _)
  refine su_sld hC hX dL_law_413 (?_ : SdS X 414 [(0, 6), (1, 18), (2, 20), (3, 101), (4, 0)] [0, 0, 0, 0, 18] _)
  refine su_inv0 (τ := []) (τr := [0, 0, 0, 0]) (ci := 8) (q := (RX8, TX8, 18)) hC WG (M_X8_fits _) rfl rfl rfl rfl  rfl rfl wl_4_9 wl_4_10 wl_4_11 wl_1_1 wl_4_12 hd_X8_fits (by rw [e3]; decide) (by decide) dL_law_414 (?_ : SdS X 417 [(0, 6), (1, 18), (2, 20), (3, 101), (4, 0)] [0] _)
  refine su_aload_n hC 20 dL_law_417 rfl (by decide) (by decide) (?_ : SdS X 418 [(0, 6), (1, 18), (2, 20), (3, 101), (4, 0)] [20, 0] _)
  refine su_aload_n hC 6 dL_law_418 rfl (by decide) (by decide) (?_ : SdS X 419 [(0, 6), (1, 18), (2, 20), (3, 101), (4, 0)] [6, 20, 0] _)
  refine su_iload hC dL_law_419 (by decide) (?_ : SdS X 421 [(0, 6), (1, 18), (2, 20), (3, 101), (4, 0)] [0, 6, 20, 0] _)
  refine su_iconst hC dL_law_421 ⟨by decide, by decide⟩ (?_ : SdS X 422 [(0, 6), (1, 18), (2, 20), (3, 101), (4, 0)] [0, 0, 6, 20, 0] _)
  refine su_iadd hC dL_law_422 (?_ : SdS X 423 [(0, 6), (1, 18), (2, 20), (3, 101), (4, 0)] [0, 6, 20, 0] _)
  refine su_sld hC hX dL_law_423 (?_ : SdS X 424 [(0, 6), (1, 18), (2, 20), (3, 101), (4, 0)] [0, 20, 0] _)
  refine su_aload_n hC 6 dL_law_424 rfl (by decide) (by decide) (?_ : SdS X 425 [(0, 6), (1, 18), (2, 20), (3, 101), (4, 0)] [6, 0, 20, 0] _)
  refine su_iload hC dL_law_425 (by decide) (?_ : SdS X 427 [(0, 6), (1, 18), (2, 20), (3, 101), (4, 0)] [0, 6, 0, 20, 0] _)
  refine su_iconst hC dL_law_427 ⟨by decide, by decide⟩ (?_ : SdS X 428 [(0, 6), (1, 18), (2, 20), (3, 101), (4, 0)] [0, 0, 6, 0, 20, 0] _)
  refine su_iadd hC dL_law_428 (?_ : SdS X 429 [(0, 6), (1, 18), (2, 20), (3, 101), (4, 0)] [0, 6, 0, 20, 0] _)
  refine su_sld hC hX dL_law_429 (?_ : SdS X 430 [(0, 6), (1, 18), (2, 20), (3, 101), (4, 0)] [0, 0, 20, 0] _)
  refine su_if_eq (tgt := 437) hC dL_law_430 rfl (?_ : SdS X 437 [(0, 6), (1, 18), (2, 20), (3, 101), (4, 0)] [0, 20, 0] _) (?_ : SdS X 433 [(0, 6), (1, 18), (2, 20), (3, 101), (4, 0)] [0, 20, 0] _)
  · refine su_iconst hC dL_law_437 ⟨by decide, by decide⟩ (?_ : SdS X 438 [(0, 6), (1, 18), (2, 20), (3, 101), (4, 0)] [0, 0, 20, 0] _)
    exact SdS.weak (by decide) (SL_438 hC e2 e3 hX hT hled k23 h23)
  · refine su_iconst hC dL_law_433 ⟨by decide, by decide⟩ (?_ : SdS X 434 [(0, 6), (1, 18), (2, 20), (3, 101), (4, 0)] [0, 0, 20, 0] _)
    refine su_goto (tgt := 438) hC dL_law_434 rfl (?_ : SdS X 438 [(0, 6), (1, 18), (2, 20), (3, 101), (4, 0)] [0, 0, 20, 0] _)
    exact SdS.weak (by decide) (SL_438 hC e2 e3 hX hT hled k23 h23)
set_option maxRecDepth 100000 in
set_option maxHeartbeats 4000000 in
theorem SL_381 {X : CX} {sL : Nat} {sx : Nat → Int32} {Q : xQ} (hC : CF X cL_law RL WALL) (e2 : xn X = 7) (e3 : xR X = room_1) (hX : SX X sL sx) (hT : LT X Q) (hled : LH X) : ∀ (k23 : xK), SdS X 23 [(0, 6), (1, 18), (2, 20), (3, 101), (4, 0)] [] k23 → SdS X 381 [(0, 6), (1, 18), (2, 20), (3, 101), (4, 0)] [] (B_L_law_381 sL sx Q k23) := by
  intro k23 h23
  unfold B_L_law_381
  refine su_aload_n hC 18 dL_law_381 rfl (by decide) (by decide) (?_ : SdS X 382 [(0, 6), (1, 18), (2, 20), (3, 101), (4, 0)] [18] _)
  refine su_aload_n hC 6 dL_law_382 rfl (by decide) (by decide) (?_ : SdS X 383 [(0, 6), (1, 18), (2, 20), (3, 101), (4, 0)] [6, 18] _)
  refine su_iload hC dL_law_383 (by decide) (?_ : SdS X 385 [(0, 6), (1, 18), (2, 20), (3, 101), (4, 0)] [0, 6, 18] _)
  refine su_iconst hC dL_law_385 ⟨by decide, by decide⟩ (?_ : SdS X 386 [(0, 6), (1, 18), (2, 20), (3, 101), (4, 0)] [0, 0, 6, 18] _)
  refine su_iadd hC dL_law_386 (?_ : SdS X 387 [(0, 6), (1, 18), (2, 20), (3, 101), (4, 0)] [0, 6, 18] _)
  refine su_sld hC hX dL_law_387 (?_ : SdS X 388 [(0, 6), (1, 18), (2, 20), (3, 101), (4, 0)] [0, 18] _)
  refine su_aload_n hC 6 dL_law_388 rfl (by decide) (by decide) (?_ : SdS X 389 [(0, 6), (1, 18), (2, 20), (3, 101), (4, 0)] [6, 0, 18] _)
  refine su_iload hC dL_law_389 (by decide) (?_ : SdS X 391 [(0, 6), (1, 18), (2, 20), (3, 101), (4, 0)] [0, 6, 0, 18] _)
  refine su_iconst hC dL_law_391 ⟨by decide, by decide⟩ (?_ : SdS X 392 [(0, 6), (1, 18), (2, 20), (3, 101), (4, 0)] [0, 0, 6, 0, 18] _)
  refine su_iadd hC dL_law_392 (?_ : SdS X 393 [(0, 6), (1, 18), (2, 20), (3, 101), (4, 0)] [0, 6, 0, 18] _)
  refine su_sld hC hX dL_law_393 (?_ : SdS X 394 [(0, 6), (1, 18), (2, 20), (3, 101), (4, 0)] [0, 0, 18] _)
  refine su_if_eq (tgt := 401) hC dL_law_394 rfl (?_ : SdS X 401 [(0, 6), (1, 18), (2, 20), (3, 101), (4, 0)] [0, 18] _) (?_ : SdS X 397 [(0, 6), (1, 18), (2, 20), (3, 101), (4, 0)] [0, 18] _)
  · refine su_iconst hC dL_law_401 ⟨by decide, by decide⟩ (?_ : SdS X 402 [(0, 6), (1, 18), (2, 20), (3, 101), (4, 0)] [0, 0, 18] _)
    exact SdS.weak (by decide) (SL_402 hC e2 e3 hX hT hled k23 h23)
  · refine su_iconst hC dL_law_397 ⟨by decide, by decide⟩ (?_ : SdS X 398 [(0, 6), (1, 18), (2, 20), (3, 101), (4, 0)] [0, 0, 18] _)
    refine su_goto (tgt := 402) hC dL_law_398 rfl (?_ : SdS X 402 [(0, 6), (1, 18), (2, 20), (3, 101), (4, 0)] [0, 0, 18] _)
    exact SdS.weak (by decide) (SL_402 hC e2 e3 hX hT hled k23 h23)
set_option maxRecDepth 100000 in
set_option maxHeartbeats 4000000 in
theorem SL_515 {X : CX} {sL : Nat} {sx : Nat → Int32} {Q : xQ} (hC : CF X cL_law RL WALL) (e2 : xn X = 7) (e3 : xR X = room_1) (hX : SX X sL sx) (hT : LT X Q) (hled : LH X) : ∀ (k23 : xK), SdS X 23 [(0, 6), (1, 18), (2, 20), (3, 101), (4, 0)] [] k23 → SdS X 515 [(0, 6), (1, 18), (2, 20), (3, 101), (4, 0)] [0, 0, 0, 20, 0] (B_L_law_515 sL sx Q k23) := by
  intro k23 h23
  unfold B_L_law_515
  refine su_inv0 (τ := [0]) (τr := [0, 0, 0]) (ci := 10) (q := (RX10, TX10, 45)) hC WG (M_X10_bars _) rfl rfl rfl rfl  rfl rfl wl_7_203 wl_7_204 wl_7_205 wl_1_10 wl_7_206 hd_X10_bars (by rw [e3]; decide) (by decide) dL_law_515 (?_ : SdS X 518 [(0, 6), (1, 18), (2, 20), (3, 101), (4, 0)] [0, 0] _)
  refine su_icmp_eq (tgt := 1686) hC dL_law_518 rfl (?_ : SdS X 1686 [(0, 6), (1, 18), (2, 20), (3, 101), (4, 0)] [] _) (?_ : SdS X 521 [(0, 6), (1, 18), (2, 20), (3, 101), (4, 0)] [] _)
  · exact SdS.weak (by decide) (SL_1686 hC e2 e3 hX hT hled k23 h23)
  · refine su_iconst hC dL_law_521 ⟨by decide, by decide⟩ (?_ : SdS X 522 [(0, 6), (1, 18), (2, 20), (3, 101), (4, 0)] [0] _)
    exact su_lret hC hT dL_law_522
set_option maxRecDepth 100000 in
set_option maxHeartbeats 4000000 in
theorem SL_485 {X : CX} {sL : Nat} {sx : Nat → Int32} {Q : xQ} (hC : CF X cL_law RL WALL) (e2 : xn X = 7) (e3 : xR X = room_1) (hX : SX X sL sx) (hT : LT X Q) (hled : LH X) : ∀ (k23 : xK), SdS X 23 [(0, 6), (1, 18), (2, 20), (3, 101), (4, 0)] [] k23 → SdS X 485 [(0, 6), (1, 18), (2, 20), (3, 101), (4, 0)] [0, 0, 0, 18] (B_L_law_485 sL sx Q k23) := by
  intro k23 h23
  unfold B_L_law_485
  refine su_inv0 (τ := []) (τr := [0, 0, 0]) (ci := 8) (q := (RX8, TX8, 18)) hC WG (M_X8_bars _) rfl rfl rfl rfl  rfl rfl wl_4_27 wl_4_28 wl_4_29 wl_1_1 wl_4_30 hd_X8_bars (by rw [e3]; decide) (by decide) dL_law_485 (?_ : SdS X 488 [(0, 6), (1, 18), (2, 20), (3, 101), (4, 0)] [0] _)
  refine su_aload_n hC 20 dL_law_488 rfl (by decide) (by decide) (?_ : SdS X 489 [(0, 6), (1, 18), (2, 20), (3, 101), (4, 0)] [20, 0] _)
  refine su_aload_n hC 6 dL_law_489 rfl (by decide) (by decide) (?_ : SdS X 490 [(0, 6), (1, 18), (2, 20), (3, 101), (4, 0)] [6, 20, 0] _)
  refine su_iload hC dL_law_490 (by decide) (?_ : SdS X 492 [(0, 6), (1, 18), (2, 20), (3, 101), (4, 0)] [0, 6, 20, 0] _)
  refine su_iconst hC dL_law_492 ⟨by decide, by decide⟩ (?_ : SdS X 493 [(0, 6), (1, 18), (2, 20), (3, 101), (4, 0)] [0, 0, 6, 20, 0] _)
  refine su_iadd hC dL_law_493 (?_ : SdS X 494 [(0, 6), (1, 18), (2, 20), (3, 101), (4, 0)] [0, 6, 20, 0] _)
  refine su_sld hC hX dL_law_494 (?_ : SdS X 495 [(0, 6), (1, 18), (2, 20), (3, 101), (4, 0)] [0, 20, 0] _)
  refine su_aload_n hC 6 dL_law_495 rfl (by decide) (by decide) (?_ : SdS X 496 [(0, 6), (1, 18), (2, 20), (3, 101), (4, 0)] [6, 0, 20, 0] _)
  refine su_iload hC dL_law_496 (by decide) (?_ : SdS X 498 [(0, 6), (1, 18), (2, 20), (3, 101), (4, 0)] [0, 6, 0, 20, 0] _)
  refine su_iconst hC dL_law_498 ⟨by decide, by decide⟩ (?_ : SdS X 499 [(0, 6), (1, 18), (2, 20), (3, 101), (4, 0)] [0, 0, 6, 0, 20, 0] _)
  refine su_iadd hC dL_law_499 (?_ : SdS X 500 [(0, 6), (1, 18), (2, 20), (3, 101), (4, 0)] [0, 6, 0, 20, 0] _)
  refine su_sld hC hX dL_law_500 (?_ : SdS X 501 [(0, 6), (1, 18), (2, 20), (3, 101), (4, 0)] [0, 0, 20, 0] _)
  refine su_aload_n hC 6 dL_law_501 rfl (by decide) (by decide) (?_ : SdS X 502 [(0, 6), (1, 18), (2, 20), (3, 101), (4, 0)] [6, 0, 0, 20, 0] _)
  refine su_iload hC dL_law_502 (by decide) (?_ : SdS X 504 [(0, 6), (1, 18), (2, 20), (3, 101), (4, 0)] [0, 6, 0, 0, 20, 0] _)
  refine su_iconst hC dL_law_504 ⟨by decide, by decide⟩ (?_ : SdS X 505 [(0, 6), (1, 18), (2, 20), (3, 101), (4, 0)] [0, 0, 6, 0, 0, 20, 0] _)
  refine su_iadd hC dL_law_505 (?_ : SdS X 506 [(0, 6), (1, 18), (2, 20), (3, 101), (4, 0)] [0, 6, 0, 0, 20, 0] _)
  refine su_sld hC hX dL_law_506 (?_ : SdS X 507 [(0, 6), (1, 18), (2, 20), (3, 101), (4, 0)] [0, 0, 0, 20, 0] _)
  refine su_if_eq (tgt := 514) hC dL_law_507 rfl (?_ : SdS X 514 [(0, 6), (1, 18), (2, 20), (3, 101), (4, 0)] [0, 0, 20, 0] _) (?_ : SdS X 510 [(0, 6), (1, 18), (2, 20), (3, 101), (4, 0)] [0, 0, 20, 0] _)
  · refine su_iconst hC dL_law_514 ⟨by decide, by decide⟩ (?_ : SdS X 515 [(0, 6), (1, 18), (2, 20), (3, 101), (4, 0)] [0, 0, 0, 20, 0] _)
    exact SdS.weak (by decide) (SL_515 hC e2 e3 hX hT hled k23 h23)
  · refine su_iconst hC dL_law_510 ⟨by decide, by decide⟩ (?_ : SdS X 511 [(0, 6), (1, 18), (2, 20), (3, 101), (4, 0)] [0, 0, 0, 20, 0] _)
    refine su_goto (tgt := 515) hC dL_law_511 rfl (?_ : SdS X 515 [(0, 6), (1, 18), (2, 20), (3, 101), (4, 0)] [0, 0, 0, 20, 0] _)
    exact SdS.weak (by decide) (SL_515 hC e2 e3 hX hT hled k23 h23)
set_option maxRecDepth 100000 in
set_option maxHeartbeats 4000000 in
theorem SL_458 {X : CX} {sL : Nat} {sx : Nat → Int32} {Q : xQ} (hC : CF X cL_law RL WALL) (e2 : xn X = 7) (e3 : xR X = room_1) (hX : SX X sL sx) (hT : LT X Q) (hled : LH X) : ∀ (k23 : xK), SdS X 23 [(0, 6), (1, 18), (2, 20), (3, 101), (4, 0)] [] k23 → SdS X 458 [(0, 6), (1, 18), (2, 20), (3, 101), (4, 0)] [] (B_L_law_458 sL sx Q k23) := by
  intro k23 h23
  unfold B_L_law_458
  refine su_aload_n hC 18 dL_law_458 rfl (by decide) (by decide) (?_ : SdS X 459 [(0, 6), (1, 18), (2, 20), (3, 101), (4, 0)] [18] _)
  refine su_aload_n hC 6 dL_law_459 rfl (by decide) (by decide) (?_ : SdS X 460 [(0, 6), (1, 18), (2, 20), (3, 101), (4, 0)] [6, 18] _)
  refine su_iload hC dL_law_460 (by decide) (?_ : SdS X 462 [(0, 6), (1, 18), (2, 20), (3, 101), (4, 0)] [0, 6, 18] _)
  refine su_iconst hC dL_law_462 ⟨by decide, by decide⟩ (?_ : SdS X 463 [(0, 6), (1, 18), (2, 20), (3, 101), (4, 0)] [0, 0, 6, 18] _)
  refine su_iadd hC dL_law_463 (?_ : SdS X 464 [(0, 6), (1, 18), (2, 20), (3, 101), (4, 0)] [0, 6, 18] _)
  refine su_sld hC hX dL_law_464 (?_ : SdS X 465 [(0, 6), (1, 18), (2, 20), (3, 101), (4, 0)] [0, 18] _)
  refine su_aload_n hC 6 dL_law_465 rfl (by decide) (by decide) (?_ : SdS X 466 [(0, 6), (1, 18), (2, 20), (3, 101), (4, 0)] [6, 0, 18] _)
  refine su_iload hC dL_law_466 (by decide) (?_ : SdS X 468 [(0, 6), (1, 18), (2, 20), (3, 101), (4, 0)] [0, 6, 0, 18] _)
  refine su_iconst hC dL_law_468 ⟨by decide, by decide⟩ (?_ : SdS X 469 [(0, 6), (1, 18), (2, 20), (3, 101), (4, 0)] [0, 0, 6, 0, 18] _)
  refine su_iadd hC dL_law_469 (?_ : SdS X 470 [(0, 6), (1, 18), (2, 20), (3, 101), (4, 0)] [0, 6, 0, 18] _)
  refine su_sld hC hX dL_law_470 (?_ : SdS X 471 [(0, 6), (1, 18), (2, 20), (3, 101), (4, 0)] [0, 0, 18] _)
  refine su_aload_n hC 6 dL_law_471 rfl (by decide) (by decide) (?_ : SdS X 472 [(0, 6), (1, 18), (2, 20), (3, 101), (4, 0)] [6, 0, 0, 18] _)
  refine su_iload hC dL_law_472 (by decide) (?_ : SdS X 474 [(0, 6), (1, 18), (2, 20), (3, 101), (4, 0)] [0, 6, 0, 0, 18] _)
  refine su_iconst hC dL_law_474 ⟨by decide, by decide⟩ (?_ : SdS X 475 [(0, 6), (1, 18), (2, 20), (3, 101), (4, 0)] [0, 0, 6, 0, 0, 18] _)
  refine su_iadd hC dL_law_475 (?_ : SdS X 476 [(0, 6), (1, 18), (2, 20), (3, 101), (4, 0)] [0, 6, 0, 0, 18] _)
  refine su_sld hC hX dL_law_476 (?_ : SdS X 477 [(0, 6), (1, 18), (2, 20), (3, 101), (4, 0)] [0, 0, 0, 18] _)
  refine su_if_eq (tgt := 484) hC dL_law_477 rfl (?_ : SdS X 484 [(0, 6), (1, 18), (2, 20), (3, 101), (4, 0)] [0, 0, 18] _) (?_ : SdS X 480 [(0, 6), (1, 18), (2, 20), (3, 101), (4, 0)] [0, 0, 18] _)
  · refine su_iconst hC dL_law_484 ⟨by decide, by decide⟩ (?_ : SdS X 485 [(0, 6), (1, 18), (2, 20), (3, 101), (4, 0)] [0, 0, 0, 18] _)
    exact SdS.weak (by decide) (SL_485 hC e2 e3 hX hT hled k23 h23)
  · refine su_iconst hC dL_law_480 ⟨by decide, by decide⟩ (?_ : SdS X 481 [(0, 6), (1, 18), (2, 20), (3, 101), (4, 0)] [0, 0, 0, 18] _)
    refine su_goto (tgt := 485) hC dL_law_481 rfl (?_ : SdS X 485 [(0, 6), (1, 18), (2, 20), (3, 101), (4, 0)] [0, 0, 0, 18] _)
    exact SdS.weak (by decide) (SL_485 hC e2 e3 hX hT hled k23 h23)
set_option maxRecDepth 100000 in
set_option maxHeartbeats 4000000 in
theorem SL_523 {X : CX} {sL : Nat} {sx : Nat → Int32} {Q : xQ} (hC : CF X cL_law RL WALL) (e2 : xn X = 7) (e3 : xR X = room_1) (hX : SX X sL sx) (hT : LT X Q) (hled : LH X) : ∀ (k23 : xK), SdS X 23 [(0, 6), (1, 18), (2, 20), (3, 101), (4, 0)] [] k23 → SdS X 523 [(0, 6), (1, 18), (2, 20), (3, 101), (4, 0)] [] (B_L_law_523 sL sx Q k23) := by
  intro k23 h23
  unfold B_L_law_523
  refine su_aload_n hC 18 dL_law_523 rfl (by decide) (by decide) (?_ : SdS X 524 [(0, 6), (1, 18), (2, 20), (3, 101), (4, 0)] [18] _)
  refine su_aload_n hC 6 dL_law_524 rfl (by decide) (by decide) (?_ : SdS X 525 [(0, 6), (1, 18), (2, 20), (3, 101), (4, 0)] [6, 18] _)
  refine su_iload hC dL_law_525 (by decide) (?_ : SdS X 527 [(0, 6), (1, 18), (2, 20), (3, 101), (4, 0)] [0, 6, 18] _)
  refine su_iconst hC dL_law_527 ⟨by decide, by decide⟩ (?_ : SdS X 528 [(0, 6), (1, 18), (2, 20), (3, 101), (4, 0)] [0, 0, 6, 18] _)
  refine su_iadd hC dL_law_528 (?_ : SdS X 529 [(0, 6), (1, 18), (2, 20), (3, 101), (4, 0)] [0, 6, 18] _)
  refine su_sld hC hX dL_law_529 (?_ : SdS X 530 [(0, 6), (1, 18), (2, 20), (3, 101), (4, 0)] [0, 18] _)
  refine su_inv0 (τ := []) (τr := [0]) (ci := 8) (q := (RX8, TX8, 18)) hC WG (M_X8_deepest _) rfl rfl rfl rfl  rfl rfl wl_4_37 wl_4_38 wl_4_39 wl_1_1 wl_4_40 hd_X8_deepest (by rw [e3]; decide) (by decide) dL_law_530 (?_ : SdS X 533 [(0, 6), (1, 18), (2, 20), (3, 101), (4, 0)] [0] _)
  refine su_aload_n hC 20 dL_law_533 rfl (by decide) (by decide) (?_ : SdS X 534 [(0, 6), (1, 18), (2, 20), (3, 101), (4, 0)] [20, 0] _)
  refine su_aload_n hC 6 dL_law_534 rfl (by decide) (by decide) (?_ : SdS X 535 [(0, 6), (1, 18), (2, 20), (3, 101), (4, 0)] [6, 20, 0] _)
  refine su_iload hC dL_law_535 (by decide) (?_ : SdS X 537 [(0, 6), (1, 18), (2, 20), (3, 101), (4, 0)] [0, 6, 20, 0] _)
  refine su_iconst hC dL_law_537 ⟨by decide, by decide⟩ (?_ : SdS X 538 [(0, 6), (1, 18), (2, 20), (3, 101), (4, 0)] [0, 0, 6, 20, 0] _)
  refine su_iadd hC dL_law_538 (?_ : SdS X 539 [(0, 6), (1, 18), (2, 20), (3, 101), (4, 0)] [0, 6, 20, 0] _)
  refine su_sld hC hX dL_law_539 (?_ : SdS X 540 [(0, 6), (1, 18), (2, 20), (3, 101), (4, 0)] [0, 20, 0] _)
  refine su_inv0 (τ := [0]) (τr := [0]) (ci := 10) (q := (RX10, TX10, 45)) hC WG (M_X10_deepest _) rfl rfl rfl rfl  rfl rfl wl_7_207 wl_7_208 wl_7_209 wl_1_10 wl_7_210 hd_X10_deepest (by rw [e3]; decide) (by decide) dL_law_540 (?_ : SdS X 543 [(0, 6), (1, 18), (2, 20), (3, 101), (4, 0)] [0, 0] _)
  refine su_icmp_eq (tgt := 1686) hC dL_law_543 rfl (?_ : SdS X 1686 [(0, 6), (1, 18), (2, 20), (3, 101), (4, 0)] [] _) (?_ : SdS X 546 [(0, 6), (1, 18), (2, 20), (3, 101), (4, 0)] [] _)
  · exact SdS.weak (by decide) (SL_1686 hC e2 e3 hX hT hled k23 h23)
  · refine su_iconst hC dL_law_546 ⟨by decide, by decide⟩ (?_ : SdS X 547 [(0, 6), (1, 18), (2, 20), (3, 101), (4, 0)] [0] _)
    exact su_lret hC hT dL_law_547
set_option maxRecDepth 100000 in
set_option maxHeartbeats 4000000 in
theorem SL_548 {X : CX} {sL : Nat} {sx : Nat → Int32} {Q : xQ} (hC : CF X cL_law RL WALL) (e2 : xn X = 7) (e3 : xR X = room_1) (hX : SX X sL sx) (hT : LT X Q) (hled : LH X) : ∀ (k23 : xK), SdS X 23 [(0, 6), (1, 18), (2, 20), (3, 101), (4, 0)] [] k23 → SdS X 548 [(0, 6), (1, 18), (2, 20), (3, 101), (4, 0)] [] (B_L_law_548 sL sx Q k23) := by
  intro k23 h23
  unfold B_L_law_548
  refine su_aload_n hC 18 dL_law_548 rfl (by decide) (by decide) (?_ : SdS X 549 [(0, 6), (1, 18), (2, 20), (3, 101), (4, 0)] [18] _)
  refine su_aload_n hC 6 dL_law_549 rfl (by decide) (by decide) (?_ : SdS X 550 [(0, 6), (1, 18), (2, 20), (3, 101), (4, 0)] [6, 18] _)
  refine su_iload hC dL_law_550 (by decide) (?_ : SdS X 552 [(0, 6), (1, 18), (2, 20), (3, 101), (4, 0)] [0, 6, 18] _)
  refine su_iconst hC dL_law_552 ⟨by decide, by decide⟩ (?_ : SdS X 553 [(0, 6), (1, 18), (2, 20), (3, 101), (4, 0)] [0, 0, 6, 18] _)
  refine su_iadd hC dL_law_553 (?_ : SdS X 554 [(0, 6), (1, 18), (2, 20), (3, 101), (4, 0)] [0, 6, 18] _)
  refine su_sld hC hX dL_law_554 (?_ : SdS X 555 [(0, 6), (1, 18), (2, 20), (3, 101), (4, 0)] [0, 18] _)
  refine su_inv0 (τ := []) (τr := [0]) (ci := 8) (q := (RX8, TX8, 18)) hC WG (M_X8_deepestCut _) rfl rfl rfl rfl  rfl rfl wl_4_55 wl_4_56 wl_4_57 wl_1_1 wl_4_58 hd_X8_deepestCut (by rw [e3]; decide) (by decide) dL_law_555 (?_ : SdS X 558 [(0, 6), (1, 18), (2, 20), (3, 101), (4, 0)] [0] _)
  refine su_aload_n hC 20 dL_law_558 rfl (by decide) (by decide) (?_ : SdS X 559 [(0, 6), (1, 18), (2, 20), (3, 101), (4, 0)] [20, 0] _)
  refine su_aload_n hC 6 dL_law_559 rfl (by decide) (by decide) (?_ : SdS X 560 [(0, 6), (1, 18), (2, 20), (3, 101), (4, 0)] [6, 20, 0] _)
  refine su_iload hC dL_law_560 (by decide) (?_ : SdS X 562 [(0, 6), (1, 18), (2, 20), (3, 101), (4, 0)] [0, 6, 20, 0] _)
  refine su_iconst hC dL_law_562 ⟨by decide, by decide⟩ (?_ : SdS X 563 [(0, 6), (1, 18), (2, 20), (3, 101), (4, 0)] [0, 0, 6, 20, 0] _)
  refine su_iadd hC dL_law_563 (?_ : SdS X 564 [(0, 6), (1, 18), (2, 20), (3, 101), (4, 0)] [0, 6, 20, 0] _)
  refine su_sld hC hX dL_law_564 (?_ : SdS X 565 [(0, 6), (1, 18), (2, 20), (3, 101), (4, 0)] [0, 20, 0] _)
  refine su_inv0 (τ := [0]) (τr := [0]) (ci := 10) (q := (RX10, TX10, 45)) hC WG (M_X10_deepestCut _) rfl rfl rfl rfl  rfl rfl wl_7_215 wl_7_216 wl_7_217 wl_1_10 wl_7_218 hd_X10_deepestCut (by rw [e3]; decide) (by decide) dL_law_565 (?_ : SdS X 568 [(0, 6), (1, 18), (2, 20), (3, 101), (4, 0)] [0, 0] _)
  refine su_icmp_eq (tgt := 1686) hC dL_law_568 rfl (?_ : SdS X 1686 [(0, 6), (1, 18), (2, 20), (3, 101), (4, 0)] [] _) (?_ : SdS X 571 [(0, 6), (1, 18), (2, 20), (3, 101), (4, 0)] [] _)
  · exact SdS.weak (by decide) (SL_1686 hC e2 e3 hX hT hled k23 h23)
  · refine su_iconst hC dL_law_571 ⟨by decide, by decide⟩ (?_ : SdS X 572 [(0, 6), (1, 18), (2, 20), (3, 101), (4, 0)] [0] _)
    exact su_lret hC hT dL_law_572
set_option maxRecDepth 100000 in
set_option maxHeartbeats 4000000 in
theorem SL_573 {X : CX} {sL : Nat} {sx : Nat → Int32} {Q : xQ} (hC : CF X cL_law RL WALL) (e2 : xn X = 7) (e3 : xR X = room_1) (hX : SX X sL sx) (hT : LT X Q) (hled : LH X) : ∀ (k23 : xK), SdS X 23 [(0, 6), (1, 18), (2, 20), (3, 101), (4, 0)] [] k23 → SdS X 573 [(0, 6), (1, 18), (2, 20), (3, 101), (4, 0)] [] (B_L_law_573 sL sx Q k23) := by
  intro k23 h23
  unfold B_L_law_573
  refine su_aload_n hC 18 dL_law_573 rfl (by decide) (by decide) (?_ : SdS X 574 [(0, 6), (1, 18), (2, 20), (3, 101), (4, 0)] [18] _)
  refine su_aload_n hC 6 dL_law_574 rfl (by decide) (by decide) (?_ : SdS X 575 [(0, 6), (1, 18), (2, 20), (3, 101), (4, 0)] [6, 18] _)
  refine su_iload hC dL_law_575 (by decide) (?_ : SdS X 577 [(0, 6), (1, 18), (2, 20), (3, 101), (4, 0)] [0, 6, 18] _)
  refine su_iconst hC dL_law_577 ⟨by decide, by decide⟩ (?_ : SdS X 578 [(0, 6), (1, 18), (2, 20), (3, 101), (4, 0)] [0, 0, 6, 18] _)
  refine su_iadd hC dL_law_578 (?_ : SdS X 579 [(0, 6), (1, 18), (2, 20), (3, 101), (4, 0)] [0, 6, 18] _)
  refine su_sld hC hX dL_law_579 (?_ : SdS X 580 [(0, 6), (1, 18), (2, 20), (3, 101), (4, 0)] [0, 18] _)
  refine su_aload_n hC 6 dL_law_580 rfl (by decide) (by decide) (?_ : SdS X 581 [(0, 6), (1, 18), (2, 20), (3, 101), (4, 0)] [6, 0, 18] _)
  refine su_iload hC dL_law_581 (by decide) (?_ : SdS X 583 [(0, 6), (1, 18), (2, 20), (3, 101), (4, 0)] [0, 6, 0, 18] _)
  refine su_iconst hC dL_law_583 ⟨by decide, by decide⟩ (?_ : SdS X 584 [(0, 6), (1, 18), (2, 20), (3, 101), (4, 0)] [0, 0, 6, 0, 18] _)
  refine su_iadd hC dL_law_584 (?_ : SdS X 585 [(0, 6), (1, 18), (2, 20), (3, 101), (4, 0)] [0, 6, 0, 18] _)
  refine su_sld hC hX dL_law_585 (?_ : SdS X 586 [(0, 6), (1, 18), (2, 20), (3, 101), (4, 0)] [0, 0, 18] _)
  refine su_aload_n hC 6 dL_law_586 rfl (by decide) (by decide) (?_ : SdS X 587 [(0, 6), (1, 18), (2, 20), (3, 101), (4, 0)] [6, 0, 0, 18] _)
  refine su_iload hC dL_law_587 (by decide) (?_ : SdS X 589 [(0, 6), (1, 18), (2, 20), (3, 101), (4, 0)] [0, 6, 0, 0, 18] _)
  refine su_iconst hC dL_law_589 ⟨by decide, by decide⟩ (?_ : SdS X 590 [(0, 6), (1, 18), (2, 20), (3, 101), (4, 0)] [0, 0, 6, 0, 0, 18] _)
  refine su_iadd hC dL_law_590 (?_ : SdS X 591 [(0, 6), (1, 18), (2, 20), (3, 101), (4, 0)] [0, 6, 0, 0, 18] _)
  refine su_sld hC hX dL_law_591 (?_ : SdS X 592 [(0, 6), (1, 18), (2, 20), (3, 101), (4, 0)] [0, 0, 0, 18] _)
  refine su_aload_n hC 6 dL_law_592 rfl (by decide) (by decide) (?_ : SdS X 593 [(0, 6), (1, 18), (2, 20), (3, 101), (4, 0)] [6, 0, 0, 0, 18] _)
  refine su_iload hC dL_law_593 (by decide) (?_ : SdS X 595 [(0, 6), (1, 18), (2, 20), (3, 101), (4, 0)] [0, 6, 0, 0, 0, 18] _)
  refine su_iconst hC dL_law_595 ⟨by decide, by decide⟩ (?_ : SdS X 596 [(0, 6), (1, 18), (2, 20), (3, 101), (4, 0)] [0, 0, 6, 0, 0, 0, 18] _)
  refine su_iadd hC dL_law_596 (?_ : SdS X 597 [(0, 6), (1, 18), (2, 20), (3, 101), (4, 0)] [0, 6, 0, 0, 0, 18] _)
  refine su_sld hC hX dL_law_597 (?_ : SdS X 598 [(0, 6), (1, 18), (2, 20), (3, 101), (4, 0)] [0, 0, 0, 0, 18] _)
  refine su_aload_n hC 6 dL_law_598 rfl (by decide) (by decide) (?_ : SdS X 599 [(0, 6), (1, 18), (2, 20), (3, 101), (4, 0)] [6, 0, 0, 0, 0, 18] _)
  refine su_iload hC dL_law_599 (by decide) (?_ : SdS X 601 [(0, 6), (1, 18), (2, 20), (3, 101), (4, 0)] [0, 6, 0, 0, 0, 0, 18] _)
  refine su_iconst hC dL_law_601 ⟨by decide, by decide⟩ (?_ : SdS X 602 [(0, 6), (1, 18), (2, 20), (3, 101), (4, 0)] [0, 0, 6, 0, 0, 0, 0, 18] _)
  refine su_iadd hC dL_law_602 (?_ : SdS X 603 [(0, 6), (1, 18), (2, 20), (3, 101), (4, 0)] [0, 6, 0, 0, 0, 0, 18] _)
  refine su_sld hC hX dL_law_603 (?_ : SdS X 604 [(0, 6), (1, 18), (2, 20), (3, 101), (4, 0)] [0, 0, 0, 0, 0, 18] _)
  refine su_inv0 (τ := []) (τr := [0, 0, 0, 0, 0]) (ci := 8) (q := (RX8, TX8, 18)) hC WG (M_X8_pay _) rfl rfl rfl rfl  rfl rfl wl_4_59 wl_4_60 wl_4_61 wl_1_1 wl_4_62 hd_X8_pay (by rw [e3]; decide) (by decide) dL_law_604 (?_ : SdS X 607 [(0, 6), (1, 18), (2, 20), (3, 101), (4, 0)] [0] _)
  refine su_aload_n hC 20 dL_law_607 rfl (by decide) (by decide) (?_ : SdS X 608 [(0, 6), (1, 18), (2, 20), (3, 101), (4, 0)] [20, 0] _)
  refine su_aload_n hC 6 dL_law_608 rfl (by decide) (by decide) (?_ : SdS X 609 [(0, 6), (1, 18), (2, 20), (3, 101), (4, 0)] [6, 20, 0] _)
  refine su_iload hC dL_law_609 (by decide) (?_ : SdS X 611 [(0, 6), (1, 18), (2, 20), (3, 101), (4, 0)] [0, 6, 20, 0] _)
  refine su_iconst hC dL_law_611 ⟨by decide, by decide⟩ (?_ : SdS X 612 [(0, 6), (1, 18), (2, 20), (3, 101), (4, 0)] [0, 0, 6, 20, 0] _)
  refine su_iadd hC dL_law_612 (?_ : SdS X 613 [(0, 6), (1, 18), (2, 20), (3, 101), (4, 0)] [0, 6, 20, 0] _)
  refine su_sld hC hX dL_law_613 (?_ : SdS X 614 [(0, 6), (1, 18), (2, 20), (3, 101), (4, 0)] [0, 20, 0] _)
  refine su_aload_n hC 6 dL_law_614 rfl (by decide) (by decide) (?_ : SdS X 615 [(0, 6), (1, 18), (2, 20), (3, 101), (4, 0)] [6, 0, 20, 0] _)
  refine su_iload hC dL_law_615 (by decide) (?_ : SdS X 617 [(0, 6), (1, 18), (2, 20), (3, 101), (4, 0)] [0, 6, 0, 20, 0] _)
  refine su_iconst hC dL_law_617 ⟨by decide, by decide⟩ (?_ : SdS X 618 [(0, 6), (1, 18), (2, 20), (3, 101), (4, 0)] [0, 0, 6, 0, 20, 0] _)
  refine su_iadd hC dL_law_618 (?_ : SdS X 619 [(0, 6), (1, 18), (2, 20), (3, 101), (4, 0)] [0, 6, 0, 20, 0] _)
  refine su_sld hC hX dL_law_619 (?_ : SdS X 620 [(0, 6), (1, 18), (2, 20), (3, 101), (4, 0)] [0, 0, 20, 0] _)
  refine su_aload_n hC 6 dL_law_620 rfl (by decide) (by decide) (?_ : SdS X 621 [(0, 6), (1, 18), (2, 20), (3, 101), (4, 0)] [6, 0, 0, 20, 0] _)
  refine su_iload hC dL_law_621 (by decide) (?_ : SdS X 623 [(0, 6), (1, 18), (2, 20), (3, 101), (4, 0)] [0, 6, 0, 0, 20, 0] _)
  refine su_iconst hC dL_law_623 ⟨by decide, by decide⟩ (?_ : SdS X 624 [(0, 6), (1, 18), (2, 20), (3, 101), (4, 0)] [0, 0, 6, 0, 0, 20, 0] _)
  refine su_iadd hC dL_law_624 (?_ : SdS X 625 [(0, 6), (1, 18), (2, 20), (3, 101), (4, 0)] [0, 6, 0, 0, 20, 0] _)
  refine su_sld hC hX dL_law_625 (?_ : SdS X 626 [(0, 6), (1, 18), (2, 20), (3, 101), (4, 0)] [0, 0, 0, 20, 0] _)
  refine su_aload_n hC 6 dL_law_626 rfl (by decide) (by decide) (?_ : SdS X 627 [(0, 6), (1, 18), (2, 20), (3, 101), (4, 0)] [6, 0, 0, 0, 20, 0] _)
  refine su_iload hC dL_law_627 (by decide) (?_ : SdS X 629 [(0, 6), (1, 18), (2, 20), (3, 101), (4, 0)] [0, 6, 0, 0, 0, 20, 0] _)
  refine su_iconst hC dL_law_629 ⟨by decide, by decide⟩ (?_ : SdS X 630 [(0, 6), (1, 18), (2, 20), (3, 101), (4, 0)] [0, 0, 6, 0, 0, 0, 20, 0] _)
  refine su_iadd hC dL_law_630 (?_ : SdS X 631 [(0, 6), (1, 18), (2, 20), (3, 101), (4, 0)] [0, 6, 0, 0, 0, 20, 0] _)
  refine su_sld hC hX dL_law_631 (?_ : SdS X 632 [(0, 6), (1, 18), (2, 20), (3, 101), (4, 0)] [0, 0, 0, 0, 20, 0] _)
  refine su_aload_n hC 6 dL_law_632 rfl (by decide) (by decide) (?_ : SdS X 633 [(0, 6), (1, 18), (2, 20), (3, 101), (4, 0)] [6, 0, 0, 0, 0, 20, 0] _)
  refine su_iload hC dL_law_633 (by decide) (?_ : SdS X 635 [(0, 6), (1, 18), (2, 20), (3, 101), (4, 0)] [0, 6, 0, 0, 0, 0, 20, 0] _)
  refine su_iconst hC dL_law_635 ⟨by decide, by decide⟩ (?_ : SdS X 636 [(0, 6), (1, 18), (2, 20), (3, 101), (4, 0)] [0, 0, 6, 0, 0, 0, 0, 20, 0] _)
  refine su_iadd hC dL_law_636 (?_ : SdS X 637 [(0, 6), (1, 18), (2, 20), (3, 101), (4, 0)] [0, 6, 0, 0, 0, 0, 20, 0] _)
  refine su_sld hC hX dL_law_637 (?_ : SdS X 638 [(0, 6), (1, 18), (2, 20), (3, 101), (4, 0)] [0, 0, 0, 0, 0, 20, 0] _)
  refine su_inv0 (τ := [0]) (τr := [0, 0, 0, 0, 0]) (ci := 10) (q := (RX10, TX10, 45)) hC WG (M_X10_pay _) rfl rfl rfl rfl  rfl rfl wl_7_219 wl_7_220 wl_7_221 wl_1_10 wl_7_222 hd_X10_pay (by rw [e3]; decide) (by decide) dL_law_638 (?_ : SdS X 641 [(0, 6), (1, 18), (2, 20), (3, 101), (4, 0)] [0, 0] _)
  refine su_icmp_eq (tgt := 1686) hC dL_law_641 rfl (?_ : SdS X 1686 [(0, 6), (1, 18), (2, 20), (3, 101), (4, 0)] [] _) (?_ : SdS X 644 [(0, 6), (1, 18), (2, 20), (3, 101), (4, 0)] [] _)
  · exact SdS.weak (by decide) (SL_1686 hC e2 e3 hX hT hled k23 h23)
  · refine su_iconst hC dL_law_644 ⟨by decide, by decide⟩ (?_ : SdS X 645 [(0, 6), (1, 18), (2, 20), (3, 101), (4, 0)] [0] _)
    exact su_lret hC hT dL_law_645
set_option maxRecDepth 100000 in
set_option maxHeartbeats 4000000 in
theorem SL_646 {X : CX} {sL : Nat} {sx : Nat → Int32} {Q : xQ} (hC : CF X cL_law RL WALL) (e2 : xn X = 7) (e3 : xR X = room_1) (hX : SX X sL sx) (hT : LT X Q) (hled : LH X) : ∀ (k23 : xK), SdS X 23 [(0, 6), (1, 18), (2, 20), (3, 101), (4, 0)] [] k23 → SdS X 646 [(0, 6), (1, 18), (2, 20), (3, 101), (4, 0)] [] (B_L_law_646 sL sx Q k23) := by
  intro k23 h23
  unfold B_L_law_646
  refine su_aload_n hC 18 dL_law_646 rfl (by decide) (by decide) (?_ : SdS X 647 [(0, 6), (1, 18), (2, 20), (3, 101), (4, 0)] [18] _)
  refine su_aload_n hC 6 dL_law_647 rfl (by decide) (by decide) (?_ : SdS X 648 [(0, 6), (1, 18), (2, 20), (3, 101), (4, 0)] [6, 18] _)
  refine su_iload hC dL_law_648 (by decide) (?_ : SdS X 650 [(0, 6), (1, 18), (2, 20), (3, 101), (4, 0)] [0, 6, 18] _)
  refine su_iconst hC dL_law_650 ⟨by decide, by decide⟩ (?_ : SdS X 651 [(0, 6), (1, 18), (2, 20), (3, 101), (4, 0)] [0, 0, 6, 18] _)
  refine su_iadd hC dL_law_651 (?_ : SdS X 652 [(0, 6), (1, 18), (2, 20), (3, 101), (4, 0)] [0, 6, 18] _)
  refine su_sld hC hX dL_law_652 (?_ : SdS X 653 [(0, 6), (1, 18), (2, 20), (3, 101), (4, 0)] [0, 18] _)
  refine su_aload_n hC 6 dL_law_653 rfl (by decide) (by decide) (?_ : SdS X 654 [(0, 6), (1, 18), (2, 20), (3, 101), (4, 0)] [6, 0, 18] _)
  refine su_iload hC dL_law_654 (by decide) (?_ : SdS X 656 [(0, 6), (1, 18), (2, 20), (3, 101), (4, 0)] [0, 6, 0, 18] _)
  refine su_iconst hC dL_law_656 ⟨by decide, by decide⟩ (?_ : SdS X 657 [(0, 6), (1, 18), (2, 20), (3, 101), (4, 0)] [0, 0, 6, 0, 18] _)
  refine su_iadd hC dL_law_657 (?_ : SdS X 658 [(0, 6), (1, 18), (2, 20), (3, 101), (4, 0)] [0, 6, 0, 18] _)
  refine su_sld hC hX dL_law_658 (?_ : SdS X 659 [(0, 6), (1, 18), (2, 20), (3, 101), (4, 0)] [0, 0, 18] _)
  refine su_aload_n hC 6 dL_law_659 rfl (by decide) (by decide) (?_ : SdS X 660 [(0, 6), (1, 18), (2, 20), (3, 101), (4, 0)] [6, 0, 0, 18] _)
  refine su_iload hC dL_law_660 (by decide) (?_ : SdS X 662 [(0, 6), (1, 18), (2, 20), (3, 101), (4, 0)] [0, 6, 0, 0, 18] _)
  refine su_iconst hC dL_law_662 ⟨by decide, by decide⟩ (?_ : SdS X 663 [(0, 6), (1, 18), (2, 20), (3, 101), (4, 0)] [0, 0, 6, 0, 0, 18] _)
  refine su_iadd hC dL_law_663 (?_ : SdS X 664 [(0, 6), (1, 18), (2, 20), (3, 101), (4, 0)] [0, 6, 0, 0, 18] _)
  refine su_sld hC hX dL_law_664 (?_ : SdS X 665 [(0, 6), (1, 18), (2, 20), (3, 101), (4, 0)] [0, 0, 0, 18] _)
  refine su_aload_n hC 6 dL_law_665 rfl (by decide) (by decide) (?_ : SdS X 666 [(0, 6), (1, 18), (2, 20), (3, 101), (4, 0)] [6, 0, 0, 0, 18] _)
  refine su_iload hC dL_law_666 (by decide) (?_ : SdS X 668 [(0, 6), (1, 18), (2, 20), (3, 101), (4, 0)] [0, 6, 0, 0, 0, 18] _)
  refine su_iconst hC dL_law_668 ⟨by decide, by decide⟩ (?_ : SdS X 669 [(0, 6), (1, 18), (2, 20), (3, 101), (4, 0)] [0, 0, 6, 0, 0, 0, 18] _)
  refine su_iadd hC dL_law_669 (?_ : SdS X 670 [(0, 6), (1, 18), (2, 20), (3, 101), (4, 0)] [0, 6, 0, 0, 0, 18] _)
  refine su_sld hC hX dL_law_670 (?_ : SdS X 671 [(0, 6), (1, 18), (2, 20), (3, 101), (4, 0)] [0, 0, 0, 0, 18] _)
  refine su_aload_n hC 6 dL_law_671 rfl (by decide) (by decide) (?_ : SdS X 672 [(0, 6), (1, 18), (2, 20), (3, 101), (4, 0)] [6, 0, 0, 0, 0, 18] _)
  refine su_iload hC dL_law_672 (by decide) (?_ : SdS X 674 [(0, 6), (1, 18), (2, 20), (3, 101), (4, 0)] [0, 6, 0, 0, 0, 0, 18] _)
  refine su_iconst hC dL_law_674 ⟨by decide, by decide⟩ (?_ : SdS X 675 [(0, 6), (1, 18), (2, 20), (3, 101), (4, 0)] [0, 0, 6, 0, 0, 0, 0, 18] _)
  refine su_iadd hC dL_law_675 (?_ : SdS X 676 [(0, 6), (1, 18), (2, 20), (3, 101), (4, 0)] [0, 6, 0, 0, 0, 0, 18] _)
  refine su_sld hC hX dL_law_676 (?_ : SdS X 677 [(0, 6), (1, 18), (2, 20), (3, 101), (4, 0)] [0, 0, 0, 0, 0, 18] _)
  refine su_inv0 (τ := []) (τr := [0, 0, 0, 0, 0]) (ci := 8) (q := (RX8, TX8, 18)) hC WG (M_X8_hours _) rfl rfl rfl rfl  rfl rfl wl_4_71 wl_4_72 wl_4_73 wl_1_1 wl_4_74 hd_X8_hours (by rw [e3]; decide) (by decide) dL_law_677 (?_ : SdS X 680 [(0, 6), (1, 18), (2, 20), (3, 101), (4, 0)] [0] _)
  refine su_aload_n hC 20 dL_law_680 rfl (by decide) (by decide) (?_ : SdS X 681 [(0, 6), (1, 18), (2, 20), (3, 101), (4, 0)] [20, 0] _)
  refine su_aload_n hC 6 dL_law_681 rfl (by decide) (by decide) (?_ : SdS X 682 [(0, 6), (1, 18), (2, 20), (3, 101), (4, 0)] [6, 20, 0] _)
  refine su_iload hC dL_law_682 (by decide) (?_ : SdS X 684 [(0, 6), (1, 18), (2, 20), (3, 101), (4, 0)] [0, 6, 20, 0] _)
  refine su_iconst hC dL_law_684 ⟨by decide, by decide⟩ (?_ : SdS X 685 [(0, 6), (1, 18), (2, 20), (3, 101), (4, 0)] [0, 0, 6, 20, 0] _)
  refine su_iadd hC dL_law_685 (?_ : SdS X 686 [(0, 6), (1, 18), (2, 20), (3, 101), (4, 0)] [0, 6, 20, 0] _)
  refine su_sld hC hX dL_law_686 (?_ : SdS X 687 [(0, 6), (1, 18), (2, 20), (3, 101), (4, 0)] [0, 20, 0] _)
  refine su_aload_n hC 6 dL_law_687 rfl (by decide) (by decide) (?_ : SdS X 688 [(0, 6), (1, 18), (2, 20), (3, 101), (4, 0)] [6, 0, 20, 0] _)
  refine su_iload hC dL_law_688 (by decide) (?_ : SdS X 690 [(0, 6), (1, 18), (2, 20), (3, 101), (4, 0)] [0, 6, 0, 20, 0] _)
  refine su_iconst hC dL_law_690 ⟨by decide, by decide⟩ (?_ : SdS X 691 [(0, 6), (1, 18), (2, 20), (3, 101), (4, 0)] [0, 0, 6, 0, 20, 0] _)
  refine su_iadd hC dL_law_691 (?_ : SdS X 692 [(0, 6), (1, 18), (2, 20), (3, 101), (4, 0)] [0, 6, 0, 20, 0] _)
  refine su_sld hC hX dL_law_692 (?_ : SdS X 693 [(0, 6), (1, 18), (2, 20), (3, 101), (4, 0)] [0, 0, 20, 0] _)
  refine su_aload_n hC 6 dL_law_693 rfl (by decide) (by decide) (?_ : SdS X 694 [(0, 6), (1, 18), (2, 20), (3, 101), (4, 0)] [6, 0, 0, 20, 0] _)
  refine su_iload hC dL_law_694 (by decide) (?_ : SdS X 696 [(0, 6), (1, 18), (2, 20), (3, 101), (4, 0)] [0, 6, 0, 0, 20, 0] _)
  refine su_iconst hC dL_law_696 ⟨by decide, by decide⟩ (?_ : SdS X 697 [(0, 6), (1, 18), (2, 20), (3, 101), (4, 0)] [0, 0, 6, 0, 0, 20, 0] _)
  refine su_iadd hC dL_law_697 (?_ : SdS X 698 [(0, 6), (1, 18), (2, 20), (3, 101), (4, 0)] [0, 6, 0, 0, 20, 0] _)
  refine su_sld hC hX dL_law_698 (?_ : SdS X 699 [(0, 6), (1, 18), (2, 20), (3, 101), (4, 0)] [0, 0, 0, 20, 0] _)
  refine su_aload_n hC 6 dL_law_699 rfl (by decide) (by decide) (?_ : SdS X 700 [(0, 6), (1, 18), (2, 20), (3, 101), (4, 0)] [6, 0, 0, 0, 20, 0] _)
  refine su_iload hC dL_law_700 (by decide) (?_ : SdS X 702 [(0, 6), (1, 18), (2, 20), (3, 101), (4, 0)] [0, 6, 0, 0, 0, 20, 0] _)
  refine su_iconst hC dL_law_702 ⟨by decide, by decide⟩ (?_ : SdS X 703 [(0, 6), (1, 18), (2, 20), (3, 101), (4, 0)] [0, 0, 6, 0, 0, 0, 20, 0] _)
  refine su_iadd hC dL_law_703 (?_ : SdS X 704 [(0, 6), (1, 18), (2, 20), (3, 101), (4, 0)] [0, 6, 0, 0, 0, 20, 0] _)
  refine su_sld hC hX dL_law_704 (?_ : SdS X 705 [(0, 6), (1, 18), (2, 20), (3, 101), (4, 0)] [0, 0, 0, 0, 20, 0] _)
  refine su_aload_n hC 6 dL_law_705 rfl (by decide) (by decide) (?_ : SdS X 706 [(0, 6), (1, 18), (2, 20), (3, 101), (4, 0)] [6, 0, 0, 0, 0, 20, 0] _)
  refine su_iload hC dL_law_706 (by decide) (?_ : SdS X 708 [(0, 6), (1, 18), (2, 20), (3, 101), (4, 0)] [0, 6, 0, 0, 0, 0, 20, 0] _)
  refine su_iconst hC dL_law_708 ⟨by decide, by decide⟩ (?_ : SdS X 709 [(0, 6), (1, 18), (2, 20), (3, 101), (4, 0)] [0, 0, 6, 0, 0, 0, 0, 20, 0] _)
  refine su_iadd hC dL_law_709 (?_ : SdS X 710 [(0, 6), (1, 18), (2, 20), (3, 101), (4, 0)] [0, 6, 0, 0, 0, 0, 20, 0] _)
  refine su_sld hC hX dL_law_710 (?_ : SdS X 711 [(0, 6), (1, 18), (2, 20), (3, 101), (4, 0)] [0, 0, 0, 0, 0, 20, 0] _)
  refine su_inv0 (τ := [0]) (τr := [0, 0, 0, 0, 0]) (ci := 10) (q := (RX10, TX10, 45)) hC WG (M_X10_hours _) rfl rfl rfl rfl  rfl rfl wl_7_227 wl_7_228 wl_7_229 wl_1_10 wl_7_230 hd_X10_hours (by rw [e3]; decide) (by decide) dL_law_711 (?_ : SdS X 714 [(0, 6), (1, 18), (2, 20), (3, 101), (4, 0)] [0, 0] _)
  refine su_icmp_eq (tgt := 1686) hC dL_law_714 rfl (?_ : SdS X 1686 [(0, 6), (1, 18), (2, 20), (3, 101), (4, 0)] [] _) (?_ : SdS X 717 [(0, 6), (1, 18), (2, 20), (3, 101), (4, 0)] [] _)
  · exact SdS.weak (by decide) (SL_1686 hC e2 e3 hX hT hled k23 h23)
  · refine su_iconst hC dL_law_717 ⟨by decide, by decide⟩ (?_ : SdS X 718 [(0, 6), (1, 18), (2, 20), (3, 101), (4, 0)] [0] _)
    exact su_lret hC hT dL_law_718
set_option maxRecDepth 100000 in
set_option maxHeartbeats 4000000 in
theorem SL_719 {X : CX} {sL : Nat} {sx : Nat → Int32} {Q : xQ} (hC : CF X cL_law RL WALL) (e2 : xn X = 7) (e3 : xR X = room_1) (hX : SX X sL sx) (hT : LT X Q) (hled : LH X) : ∀ (k23 : xK), SdS X 23 [(0, 6), (1, 18), (2, 20), (3, 101), (4, 0)] [] k23 → SdS X 719 [(0, 6), (1, 18), (2, 20), (3, 101), (4, 0)] [] (B_L_law_719 sL sx Q k23) := by
  intro k23 h23
  unfold B_L_law_719
  refine su_aload_n hC 18 dL_law_719 rfl (by decide) (by decide) (?_ : SdS X 720 [(0, 6), (1, 18), (2, 20), (3, 101), (4, 0)] [18] _)
  refine su_aload_n hC 6 dL_law_720 rfl (by decide) (by decide) (?_ : SdS X 721 [(0, 6), (1, 18), (2, 20), (3, 101), (4, 0)] [6, 18] _)
  refine su_iload hC dL_law_721 (by decide) (?_ : SdS X 723 [(0, 6), (1, 18), (2, 20), (3, 101), (4, 0)] [0, 6, 18] _)
  refine su_iconst hC dL_law_723 ⟨by decide, by decide⟩ (?_ : SdS X 724 [(0, 6), (1, 18), (2, 20), (3, 101), (4, 0)] [0, 0, 6, 18] _)
  refine su_iadd hC dL_law_724 (?_ : SdS X 725 [(0, 6), (1, 18), (2, 20), (3, 101), (4, 0)] [0, 6, 18] _)
  refine su_sld hC hX dL_law_725 (?_ : SdS X 726 [(0, 6), (1, 18), (2, 20), (3, 101), (4, 0)] [0, 18] _)
  refine su_inv0 (τ := []) (τr := [0]) (ci := 8) (q := (RX8, TX8, 18)) hC WG (M_X8_payOf _) rfl rfl rfl rfl  rfl rfl wl_4_75 wl_4_76 wl_4_77 wl_1_1 wl_4_78 hd_X8_payOf (by rw [e3]; decide) (by decide) dL_law_726 (?_ : SdS X 729 [(0, 6), (1, 18), (2, 20), (3, 101), (4, 0)] [0] _)
  refine su_aload_n hC 20 dL_law_729 rfl (by decide) (by decide) (?_ : SdS X 730 [(0, 6), (1, 18), (2, 20), (3, 101), (4, 0)] [20, 0] _)
  refine su_aload_n hC 6 dL_law_730 rfl (by decide) (by decide) (?_ : SdS X 731 [(0, 6), (1, 18), (2, 20), (3, 101), (4, 0)] [6, 20, 0] _)
  refine su_iload hC dL_law_731 (by decide) (?_ : SdS X 733 [(0, 6), (1, 18), (2, 20), (3, 101), (4, 0)] [0, 6, 20, 0] _)
  refine su_iconst hC dL_law_733 ⟨by decide, by decide⟩ (?_ : SdS X 734 [(0, 6), (1, 18), (2, 20), (3, 101), (4, 0)] [0, 0, 6, 20, 0] _)
  refine su_iadd hC dL_law_734 (?_ : SdS X 735 [(0, 6), (1, 18), (2, 20), (3, 101), (4, 0)] [0, 6, 20, 0] _)
  refine su_sld hC hX dL_law_735 (?_ : SdS X 736 [(0, 6), (1, 18), (2, 20), (3, 101), (4, 0)] [0, 20, 0] _)
  refine su_inv0 (τ := [0]) (τr := [0]) (ci := 10) (q := (RX10, TX10, 45)) hC WG (M_X10_payOf _) rfl rfl rfl rfl  rfl rfl wl_7_231 wl_7_232 wl_7_233 wl_1_10 wl_7_234 hd_X10_payOf (by rw [e3]; decide) (by decide) dL_law_736 (?_ : SdS X 739 [(0, 6), (1, 18), (2, 20), (3, 101), (4, 0)] [0, 0] _)
  refine su_icmp_eq (tgt := 1686) hC dL_law_739 rfl (?_ : SdS X 1686 [(0, 6), (1, 18), (2, 20), (3, 101), (4, 0)] [] _) (?_ : SdS X 742 [(0, 6), (1, 18), (2, 20), (3, 101), (4, 0)] [] _)
  · exact SdS.weak (by decide) (SL_1686 hC e2 e3 hX hT hled k23 h23)
  · refine su_iconst hC dL_law_742 ⟨by decide, by decide⟩ (?_ : SdS X 743 [(0, 6), (1, 18), (2, 20), (3, 101), (4, 0)] [0] _)
    exact su_lret hC hT dL_law_743
set_option maxRecDepth 100000 in
set_option maxHeartbeats 4000000 in
theorem SL_744 {X : CX} {sL : Nat} {sx : Nat → Int32} {Q : xQ} (hC : CF X cL_law RL WALL) (e2 : xn X = 7) (e3 : xR X = room_1) (hX : SX X sL sx) (hT : LT X Q) (hled : LH X) : ∀ (k23 : xK), SdS X 23 [(0, 6), (1, 18), (2, 20), (3, 101), (4, 0)] [] k23 → SdS X 744 [(0, 6), (1, 18), (2, 20), (3, 101), (4, 0)] [] (B_L_law_744 sL sx Q k23) := by
  intro k23 h23
  unfold B_L_law_744
  refine su_aload_n hC 18 dL_law_744 rfl (by decide) (by decide) (?_ : SdS X 745 [(0, 6), (1, 18), (2, 20), (3, 101), (4, 0)] [18] _)
  refine su_aload_n hC 6 dL_law_745 rfl (by decide) (by decide) (?_ : SdS X 746 [(0, 6), (1, 18), (2, 20), (3, 101), (4, 0)] [6, 18] _)
  refine su_iload hC dL_law_746 (by decide) (?_ : SdS X 748 [(0, 6), (1, 18), (2, 20), (3, 101), (4, 0)] [0, 6, 18] _)
  refine su_iconst hC dL_law_748 ⟨by decide, by decide⟩ (?_ : SdS X 749 [(0, 6), (1, 18), (2, 20), (3, 101), (4, 0)] [0, 0, 6, 18] _)
  refine su_iadd hC dL_law_749 (?_ : SdS X 750 [(0, 6), (1, 18), (2, 20), (3, 101), (4, 0)] [0, 6, 18] _)
  refine su_sld hC hX dL_law_750 (?_ : SdS X 751 [(0, 6), (1, 18), (2, 20), (3, 101), (4, 0)] [0, 18] _)
  refine su_inv0 (τ := []) (τr := [0]) (ci := 8) (q := (RX8, TX8, 18)) hC WG (M_X8_hoursOf _) rfl rfl rfl rfl  rfl rfl wl_4_83 wl_4_84 wl_4_85 wl_1_1 wl_4_86 hd_X8_hoursOf (by rw [e3]; decide) (by decide) dL_law_751 (?_ : SdS X 754 [(0, 6), (1, 18), (2, 20), (3, 101), (4, 0)] [0] _)
  refine su_aload_n hC 20 dL_law_754 rfl (by decide) (by decide) (?_ : SdS X 755 [(0, 6), (1, 18), (2, 20), (3, 101), (4, 0)] [20, 0] _)
  refine su_aload_n hC 6 dL_law_755 rfl (by decide) (by decide) (?_ : SdS X 756 [(0, 6), (1, 18), (2, 20), (3, 101), (4, 0)] [6, 20, 0] _)
  refine su_iload hC dL_law_756 (by decide) (?_ : SdS X 758 [(0, 6), (1, 18), (2, 20), (3, 101), (4, 0)] [0, 6, 20, 0] _)
  refine su_iconst hC dL_law_758 ⟨by decide, by decide⟩ (?_ : SdS X 759 [(0, 6), (1, 18), (2, 20), (3, 101), (4, 0)] [0, 0, 6, 20, 0] _)
  refine su_iadd hC dL_law_759 (?_ : SdS X 760 [(0, 6), (1, 18), (2, 20), (3, 101), (4, 0)] [0, 6, 20, 0] _)
  refine su_sld hC hX dL_law_760 (?_ : SdS X 761 [(0, 6), (1, 18), (2, 20), (3, 101), (4, 0)] [0, 20, 0] _)
  refine su_inv0 (τ := [0]) (τr := [0]) (ci := 10) (q := (RX10, TX10, 45)) hC WG (M_X10_hoursOf _) rfl rfl rfl rfl  rfl rfl wl_7_239 wl_8_0 wl_8_1 wl_1_10 wl_8_2 hd_X10_hoursOf (by rw [e3]; decide) (by decide) dL_law_761 (?_ : SdS X 764 [(0, 6), (1, 18), (2, 20), (3, 101), (4, 0)] [0, 0] _)
  refine su_icmp_eq (tgt := 1686) hC dL_law_764 rfl (?_ : SdS X 1686 [(0, 6), (1, 18), (2, 20), (3, 101), (4, 0)] [] _) (?_ : SdS X 767 [(0, 6), (1, 18), (2, 20), (3, 101), (4, 0)] [] _)
  · exact SdS.weak (by decide) (SL_1686 hC e2 e3 hX hT hled k23 h23)
  · refine su_iconst hC dL_law_767 ⟨by decide, by decide⟩ (?_ : SdS X 768 [(0, 6), (1, 18), (2, 20), (3, 101), (4, 0)] [0] _)
    exact su_lret hC hT dL_law_768
set_option maxRecDepth 100000 in
set_option maxHeartbeats 4000000 in
theorem SL_769 {X : CX} {sL : Nat} {sx : Nat → Int32} {Q : xQ} (hC : CF X cL_law RL WALL) (e2 : xn X = 7) (e3 : xR X = room_1) (hX : SX X sL sx) (hT : LT X Q) (hled : LH X) : ∀ (k23 : xK), SdS X 23 [(0, 6), (1, 18), (2, 20), (3, 101), (4, 0)] [] k23 → SdS X 769 [(0, 6), (1, 18), (2, 20), (3, 101), (4, 0)] [] (B_L_law_769 sL sx Q k23) := by
  intro k23 h23
  unfold B_L_law_769
  refine su_aload_n hC 18 dL_law_769 rfl (by decide) (by decide) (?_ : SdS X 770 [(0, 6), (1, 18), (2, 20), (3, 101), (4, 0)] [18] _)
  refine su_aload_n hC 6 dL_law_770 rfl (by decide) (by decide) (?_ : SdS X 771 [(0, 6), (1, 18), (2, 20), (3, 101), (4, 0)] [6, 18] _)
  refine su_iload hC dL_law_771 (by decide) (?_ : SdS X 773 [(0, 6), (1, 18), (2, 20), (3, 101), (4, 0)] [0, 6, 18] _)
  refine su_iconst hC dL_law_773 ⟨by decide, by decide⟩ (?_ : SdS X 774 [(0, 6), (1, 18), (2, 20), (3, 101), (4, 0)] [0, 0, 6, 18] _)
  refine su_iadd hC dL_law_774 (?_ : SdS X 775 [(0, 6), (1, 18), (2, 20), (3, 101), (4, 0)] [0, 6, 18] _)
  refine su_sld hC hX dL_law_775 (?_ : SdS X 776 [(0, 6), (1, 18), (2, 20), (3, 101), (4, 0)] [0, 18] _)
  refine su_inv0 (τ := []) (τr := [0]) (ci := 8) (q := (RX8, TX8, 18)) hC WG (M_X8_loadsOf _) rfl rfl rfl rfl  rfl rfl wl_4_87 wl_4_88 wl_4_89 wl_1_1 wl_4_90 hd_X8_loadsOf (by rw [e3]; decide) (by decide) dL_law_776 (?_ : SdS X 779 [(0, 6), (1, 18), (2, 20), (3, 101), (4, 0)] [0] _)
  refine su_aload_n hC 20 dL_law_779 rfl (by decide) (by decide) (?_ : SdS X 780 [(0, 6), (1, 18), (2, 20), (3, 101), (4, 0)] [20, 0] _)
  refine su_aload_n hC 6 dL_law_780 rfl (by decide) (by decide) (?_ : SdS X 781 [(0, 6), (1, 18), (2, 20), (3, 101), (4, 0)] [6, 20, 0] _)
  refine su_iload hC dL_law_781 (by decide) (?_ : SdS X 783 [(0, 6), (1, 18), (2, 20), (3, 101), (4, 0)] [0, 6, 20, 0] _)
  refine su_iconst hC dL_law_783 ⟨by decide, by decide⟩ (?_ : SdS X 784 [(0, 6), (1, 18), (2, 20), (3, 101), (4, 0)] [0, 0, 6, 20, 0] _)
  refine su_iadd hC dL_law_784 (?_ : SdS X 785 [(0, 6), (1, 18), (2, 20), (3, 101), (4, 0)] [0, 6, 20, 0] _)
  refine su_sld hC hX dL_law_785 (?_ : SdS X 786 [(0, 6), (1, 18), (2, 20), (3, 101), (4, 0)] [0, 20, 0] _)
  refine su_inv0 (τ := [0]) (τr := [0]) (ci := 10) (q := (RX10, TX10, 45)) hC WG (M_X10_loadsOf _) rfl rfl rfl rfl  rfl rfl wl_8_3 wl_8_4 wl_8_5 wl_1_10 wl_8_6 hd_X10_loadsOf (by rw [e3]; decide) (by decide) dL_law_786 (?_ : SdS X 789 [(0, 6), (1, 18), (2, 20), (3, 101), (4, 0)] [0, 0] _)
  refine su_icmp_eq (tgt := 1686) hC dL_law_789 rfl (?_ : SdS X 1686 [(0, 6), (1, 18), (2, 20), (3, 101), (4, 0)] [] _) (?_ : SdS X 792 [(0, 6), (1, 18), (2, 20), (3, 101), (4, 0)] [] _)
  · exact SdS.weak (by decide) (SL_1686 hC e2 e3 hX hT hled k23 h23)
  · refine su_iconst hC dL_law_792 ⟨by decide, by decide⟩ (?_ : SdS X 793 [(0, 6), (1, 18), (2, 20), (3, 101), (4, 0)] [0] _)
    exact su_lret hC hT dL_law_793
set_option maxRecDepth 100000 in
set_option maxHeartbeats 4000000 in
theorem SL_794 {X : CX} {sL : Nat} {sx : Nat → Int32} {Q : xQ} (hC : CF X cL_law RL WALL) (e2 : xn X = 7) (e3 : xR X = room_1) (hX : SX X sL sx) (hT : LT X Q) (hled : LH X) : ∀ (k23 : xK), SdS X 23 [(0, 6), (1, 18), (2, 20), (3, 101), (4, 0)] [] k23 → SdS X 794 [(0, 6), (1, 18), (2, 20), (3, 101), (4, 0)] [] (B_L_law_794 sL sx Q k23) := by
  intro k23 h23
  unfold B_L_law_794
  refine su_aload_n hC 18 dL_law_794 rfl (by decide) (by decide) (?_ : SdS X 795 [(0, 6), (1, 18), (2, 20), (3, 101), (4, 0)] [18] _)
  refine su_aload_n hC 6 dL_law_795 rfl (by decide) (by decide) (?_ : SdS X 796 [(0, 6), (1, 18), (2, 20), (3, 101), (4, 0)] [6, 18] _)
  refine su_iload hC dL_law_796 (by decide) (?_ : SdS X 798 [(0, 6), (1, 18), (2, 20), (3, 101), (4, 0)] [0, 6, 18] _)
  refine su_iconst hC dL_law_798 ⟨by decide, by decide⟩ (?_ : SdS X 799 [(0, 6), (1, 18), (2, 20), (3, 101), (4, 0)] [0, 0, 6, 18] _)
  refine su_iadd hC dL_law_799 (?_ : SdS X 800 [(0, 6), (1, 18), (2, 20), (3, 101), (4, 0)] [0, 6, 18] _)
  refine su_sld hC hX dL_law_800 (?_ : SdS X 801 [(0, 6), (1, 18), (2, 20), (3, 101), (4, 0)] [0, 18] _)
  refine su_aload_n hC 6 dL_law_801 rfl (by decide) (by decide) (?_ : SdS X 802 [(0, 6), (1, 18), (2, 20), (3, 101), (4, 0)] [6, 0, 18] _)
  refine su_iload hC dL_law_802 (by decide) (?_ : SdS X 804 [(0, 6), (1, 18), (2, 20), (3, 101), (4, 0)] [0, 6, 0, 18] _)
  refine su_iconst hC dL_law_804 ⟨by decide, by decide⟩ (?_ : SdS X 805 [(0, 6), (1, 18), (2, 20), (3, 101), (4, 0)] [0, 0, 6, 0, 18] _)
  refine su_iadd hC dL_law_805 (?_ : SdS X 806 [(0, 6), (1, 18), (2, 20), (3, 101), (4, 0)] [0, 6, 0, 18] _)
  refine su_sld hC hX dL_law_806 (?_ : SdS X 807 [(0, 6), (1, 18), (2, 20), (3, 101), (4, 0)] [0, 0, 18] _)
  refine su_inv0 (τ := []) (τr := [0, 0]) (ci := 8) (q := (RX8, TX8, 18)) hC WG (M_X8_gateOf _) rfl rfl rfl rfl  rfl rfl wl_4_91 wl_4_92 wl_4_93 wl_1_1 wl_4_94 hd_X8_gateOf (by rw [e3]; decide) (by decide) dL_law_807 (?_ : SdS X 810 [(0, 6), (1, 18), (2, 20), (3, 101), (4, 0)] [0] _)
  refine su_aload_n hC 20 dL_law_810 rfl (by decide) (by decide) (?_ : SdS X 811 [(0, 6), (1, 18), (2, 20), (3, 101), (4, 0)] [20, 0] _)
  refine su_aload_n hC 6 dL_law_811 rfl (by decide) (by decide) (?_ : SdS X 812 [(0, 6), (1, 18), (2, 20), (3, 101), (4, 0)] [6, 20, 0] _)
  refine su_iload hC dL_law_812 (by decide) (?_ : SdS X 814 [(0, 6), (1, 18), (2, 20), (3, 101), (4, 0)] [0, 6, 20, 0] _)
  refine su_iconst hC dL_law_814 ⟨by decide, by decide⟩ (?_ : SdS X 815 [(0, 6), (1, 18), (2, 20), (3, 101), (4, 0)] [0, 0, 6, 20, 0] _)
  refine su_iadd hC dL_law_815 (?_ : SdS X 816 [(0, 6), (1, 18), (2, 20), (3, 101), (4, 0)] [0, 6, 20, 0] _)
  refine su_sld hC hX dL_law_816 (?_ : SdS X 817 [(0, 6), (1, 18), (2, 20), (3, 101), (4, 0)] [0, 20, 0] _)
  refine su_aload_n hC 6 dL_law_817 rfl (by decide) (by decide) (?_ : SdS X 818 [(0, 6), (1, 18), (2, 20), (3, 101), (4, 0)] [6, 0, 20, 0] _)
  refine su_iload hC dL_law_818 (by decide) (?_ : SdS X 820 [(0, 6), (1, 18), (2, 20), (3, 101), (4, 0)] [0, 6, 0, 20, 0] _)
  refine su_iconst hC dL_law_820 ⟨by decide, by decide⟩ (?_ : SdS X 821 [(0, 6), (1, 18), (2, 20), (3, 101), (4, 0)] [0, 0, 6, 0, 20, 0] _)
  refine su_iadd hC dL_law_821 (?_ : SdS X 822 [(0, 6), (1, 18), (2, 20), (3, 101), (4, 0)] [0, 6, 0, 20, 0] _)
  refine su_sld hC hX dL_law_822 (?_ : SdS X 823 [(0, 6), (1, 18), (2, 20), (3, 101), (4, 0)] [0, 0, 20, 0] _)
  refine su_inv0 (τ := [0]) (τr := [0, 0]) (ci := 10) (q := (RX10, TX10, 45)) hC WG (M_X10_gateOf _) rfl rfl rfl rfl  rfl rfl wl_8_11 wl_8_12 wl_8_13 wl_1_10 wl_8_14 hd_X10_gateOf (by rw [e3]; decide) (by decide) dL_law_823 (?_ : SdS X 826 [(0, 6), (1, 18), (2, 20), (3, 101), (4, 0)] [0, 0] _)
  refine su_icmp_eq (tgt := 1686) hC dL_law_826 rfl (?_ : SdS X 1686 [(0, 6), (1, 18), (2, 20), (3, 101), (4, 0)] [] _) (?_ : SdS X 829 [(0, 6), (1, 18), (2, 20), (3, 101), (4, 0)] [] _)
  · exact SdS.weak (by decide) (SL_1686 hC e2 e3 hX hT hled k23 h23)
  · refine su_iconst hC dL_law_829 ⟨by decide, by decide⟩ (?_ : SdS X 830 [(0, 6), (1, 18), (2, 20), (3, 101), (4, 0)] [0] _)
    exact su_lret hC hT dL_law_830
set_option maxRecDepth 100000 in
set_option maxHeartbeats 4000000 in
theorem SL_831 {X : CX} {sL : Nat} {sx : Nat → Int32} {Q : xQ} (hC : CF X cL_law RL WALL) (e2 : xn X = 7) (e3 : xR X = room_1) (hX : SX X sL sx) (hT : LT X Q) (hled : LH X) : ∀ (k23 : xK), SdS X 23 [(0, 6), (1, 18), (2, 20), (3, 101), (4, 0)] [] k23 → SdS X 831 [(0, 6), (1, 18), (2, 20), (3, 101), (4, 0)] [] (B_L_law_831 sL sx Q k23) := by
  intro k23 h23
  unfold B_L_law_831
  refine su_aload_n hC 18 dL_law_831 rfl (by decide) (by decide) (?_ : SdS X 832 [(0, 6), (1, 18), (2, 20), (3, 101), (4, 0)] [18] _)
  refine su_inv0 (τ := []) (τr := []) (ci := 8) (q := (RX8, TX8, 18)) hC WG (M_X8_all _) rfl rfl rfl rfl  rfl rfl wl_4_95 wl_4_96 wl_4_97 wl_1_1 wl_4_98 hd_X8_all (by rw [e3]; decide) (by decide) dL_law_832 (?_ : SdS X 835 [(0, 6), (1, 18), (2, 20), (3, 101), (4, 0)] [0] _)
  refine su_aload_n hC 20 dL_law_835 rfl (by decide) (by decide) (?_ : SdS X 836 [(0, 6), (1, 18), (2, 20), (3, 101), (4, 0)] [20, 0] _)
  refine su_inv0 (τ := [0]) (τr := []) (ci := 10) (q := (RX10, TX10, 45)) hC WG (M_X10_all _) rfl rfl rfl rfl  rfl rfl wl_8_15 wl_8_16 wl_8_17 wl_1_10 wl_8_18 hd_X10_all (by rw [e3]; decide) (by decide) dL_law_836 (?_ : SdS X 839 [(0, 6), (1, 18), (2, 20), (3, 101), (4, 0)] [0, 0] _)
  refine su_icmp_eq (tgt := 1686) hC dL_law_839 rfl (?_ : SdS X 1686 [(0, 6), (1, 18), (2, 20), (3, 101), (4, 0)] [] _) (?_ : SdS X 842 [(0, 6), (1, 18), (2, 20), (3, 101), (4, 0)] [] _)
  · exact SdS.weak (by decide) (SL_1686 hC e2 e3 hX hT hled k23 h23)
  · refine su_iconst hC dL_law_842 ⟨by decide, by decide⟩ (?_ : SdS X 843 [(0, 6), (1, 18), (2, 20), (3, 101), (4, 0)] [0] _)
    exact su_lret hC hT dL_law_843
set_option maxRecDepth 100000 in
set_option maxHeartbeats 4000000 in
theorem SL_844 {X : CX} {sL : Nat} {sx : Nat → Int32} {Q : xQ} (hC : CF X cL_law RL WALL) (e2 : xn X = 7) (e3 : xR X = room_1) (hX : SX X sL sx) (hT : LT X Q) (hled : LH X) : ∀ (k23 : xK), SdS X 23 [(0, 6), (1, 18), (2, 20), (3, 101), (4, 0)] [] k23 → SdS X 844 [(0, 6), (1, 18), (2, 20), (3, 101), (4, 0)] [] (B_L_law_844 sL sx Q k23) := by
  intro k23 h23
  unfold B_L_law_844
  refine su_aload_n hC 18 dL_law_844 rfl (by decide) (by decide) (?_ : SdS X 845 [(0, 6), (1, 18), (2, 20), (3, 101), (4, 0)] [18] _)
  refine su_aload_n hC 6 dL_law_845 rfl (by decide) (by decide) (?_ : SdS X 846 [(0, 6), (1, 18), (2, 20), (3, 101), (4, 0)] [6, 18] _)
  refine su_iload hC dL_law_846 (by decide) (?_ : SdS X 848 [(0, 6), (1, 18), (2, 20), (3, 101), (4, 0)] [0, 6, 18] _)
  refine su_iconst hC dL_law_848 ⟨by decide, by decide⟩ (?_ : SdS X 849 [(0, 6), (1, 18), (2, 20), (3, 101), (4, 0)] [0, 0, 6, 18] _)
  refine su_iadd hC dL_law_849 (?_ : SdS X 850 [(0, 6), (1, 18), (2, 20), (3, 101), (4, 0)] [0, 6, 18] _)
  refine su_sld hC hX dL_law_850 (?_ : SdS X 851 [(0, 6), (1, 18), (2, 20), (3, 101), (4, 0)] [0, 18] _)
  refine su_inv0 (τ := []) (τr := [0]) (ci := 8) (q := (RX8, TX8, 18)) hC WG (M_X8_pass _) rfl rfl rfl rfl  rfl rfl wl_4_107 wl_4_108 wl_4_109 wl_1_1 wl_4_110 hd_X8_pass (by rw [e3]; decide) (by decide) dL_law_851 (?_ : SdS X 854 [(0, 6), (1, 18), (2, 20), (3, 101), (4, 0)] [0] _)
  refine su_aload_n hC 20 dL_law_854 rfl (by decide) (by decide) (?_ : SdS X 855 [(0, 6), (1, 18), (2, 20), (3, 101), (4, 0)] [20, 0] _)
  refine su_aload_n hC 6 dL_law_855 rfl (by decide) (by decide) (?_ : SdS X 856 [(0, 6), (1, 18), (2, 20), (3, 101), (4, 0)] [6, 20, 0] _)
  refine su_iload hC dL_law_856 (by decide) (?_ : SdS X 858 [(0, 6), (1, 18), (2, 20), (3, 101), (4, 0)] [0, 6, 20, 0] _)
  refine su_iconst hC dL_law_858 ⟨by decide, by decide⟩ (?_ : SdS X 859 [(0, 6), (1, 18), (2, 20), (3, 101), (4, 0)] [0, 0, 6, 20, 0] _)
  refine su_iadd hC dL_law_859 (?_ : SdS X 860 [(0, 6), (1, 18), (2, 20), (3, 101), (4, 0)] [0, 6, 20, 0] _)
  refine su_sld hC hX dL_law_860 (?_ : SdS X 861 [(0, 6), (1, 18), (2, 20), (3, 101), (4, 0)] [0, 20, 0] _)
  refine su_inv0 (τ := [0]) (τr := [0]) (ci := 10) (q := (RX10, TX10, 45)) hC WG (M_X10_pass _) rfl rfl rfl rfl  rfl rfl wl_8_23 wl_8_24 wl_8_25 wl_1_10 wl_8_26 hd_X10_pass (by rw [e3]; decide) (by decide) dL_law_861 (?_ : SdS X 864 [(0, 6), (1, 18), (2, 20), (3, 101), (4, 0)] [0, 0] _)
  refine su_icmp_eq (tgt := 1686) hC dL_law_864 rfl (?_ : SdS X 1686 [(0, 6), (1, 18), (2, 20), (3, 101), (4, 0)] [] _) (?_ : SdS X 867 [(0, 6), (1, 18), (2, 20), (3, 101), (4, 0)] [] _)
  · exact SdS.weak (by decide) (SL_1686 hC e2 e3 hX hT hled k23 h23)
  · refine su_iconst hC dL_law_867 ⟨by decide, by decide⟩ (?_ : SdS X 868 [(0, 6), (1, 18), (2, 20), (3, 101), (4, 0)] [0] _)
    exact su_lret hC hT dL_law_868
set_option maxRecDepth 100000 in
set_option maxHeartbeats 4000000 in
theorem SL_869 {X : CX} {sL : Nat} {sx : Nat → Int32} {Q : xQ} (hC : CF X cL_law RL WALL) (e2 : xn X = 7) (e3 : xR X = room_1) (hX : SX X sL sx) (hT : LT X Q) (hled : LH X) : ∀ (k23 : xK), SdS X 23 [(0, 6), (1, 18), (2, 20), (3, 101), (4, 0)] [] k23 → SdS X 869 [(0, 6), (1, 18), (2, 20), (3, 101), (4, 0)] [] (B_L_law_869 sL sx Q k23) := by
  intro k23 h23
  unfold B_L_law_869
  refine su_aload_n hC 18 dL_law_869 rfl (by decide) (by decide) (?_ : SdS X 870 [(0, 6), (1, 18), (2, 20), (3, 101), (4, 0)] [18] _)
  refine su_inv0 (τ := []) (τr := []) (ci := 8) (q := (RX8, TX8, 18)) hC WG (M_X8_anew _) rfl rfl rfl rfl  rfl rfl wl_4_163 wl_4_164 wl_4_165 wl_1_1 wl_4_166 hd_X8_anew (by rw [e3]; decide) (by decide) dL_law_870 (?_ : SdS X 873 [(0, 6), (1, 18), (2, 20), (3, 101), (4, 0)] [0] _)
  refine su_aload_n hC 20 dL_law_873 rfl (by decide) (by decide) (?_ : SdS X 874 [(0, 6), (1, 18), (2, 20), (3, 101), (4, 0)] [20, 0] _)
  refine su_inv0 (τ := [0]) (τr := []) (ci := 10) (q := (RX10, TX10, 45)) hC WG (M_X10_anew _) rfl rfl rfl rfl  rfl rfl wl_8_67 wl_8_68 wl_8_69 wl_1_10 wl_8_70 hd_X10_anew (by rw [e3]; decide) (by decide) dL_law_874 (?_ : SdS X 877 [(0, 6), (1, 18), (2, 20), (3, 101), (4, 0)] [0, 0] _)
  refine su_icmp_eq (tgt := 1686) hC dL_law_877 rfl (?_ : SdS X 1686 [(0, 6), (1, 18), (2, 20), (3, 101), (4, 0)] [] _) (?_ : SdS X 880 [(0, 6), (1, 18), (2, 20), (3, 101), (4, 0)] [] _)
  · exact SdS.weak (by decide) (SL_1686 hC e2 e3 hX hT hled k23 h23)
  · refine su_iconst hC dL_law_880 ⟨by decide, by decide⟩ (?_ : SdS X 881 [(0, 6), (1, 18), (2, 20), (3, 101), (4, 0)] [0] _)
    exact su_lret hC hT dL_law_881
set_option maxRecDepth 100000 in
set_option maxHeartbeats 4000000 in
theorem SL_882 {X : CX} {sL : Nat} {sx : Nat → Int32} {Q : xQ} (hC : CF X cL_law RL WALL) (e2 : xn X = 7) (e3 : xR X = room_1) (hX : SX X sL sx) (hT : LT X Q) (hled : LH X) : ∀ (k23 : xK), SdS X 23 [(0, 6), (1, 18), (2, 20), (3, 101), (4, 0)] [] k23 → SdS X 882 [(0, 6), (1, 18), (2, 20), (3, 101), (4, 0)] [] (B_L_law_882 sL sx Q k23) := by
  intro k23 h23
  unfold B_L_law_882
  refine su_aload_n hC 18 dL_law_882 rfl (by decide) (by decide) (?_ : SdS X 883 [(0, 6), (1, 18), (2, 20), (3, 101), (4, 0)] [18] _)
  refine su_inv0 (τ := []) (τr := []) (ci := 8) (q := (RX8, TX8, 18)) hC WG (M_X8_loads _) rfl rfl rfl rfl  rfl rfl wl_4_175 wl_4_176 wl_4_177 wl_1_1 wl_4_178 hd_X8_loads (by rw [e3]; decide) (by decide) dL_law_883 (?_ : SdS X 886 [(0, 6), (1, 18), (2, 20), (3, 101), (4, 0)] [0] _)
  refine su_aload_n hC 20 dL_law_886 rfl (by decide) (by decide) (?_ : SdS X 887 [(0, 6), (1, 18), (2, 20), (3, 101), (4, 0)] [20, 0] _)
  refine su_inv0 (τ := [0]) (τr := []) (ci := 10) (q := (RX10, TX10, 45)) hC WG (M_X10_loads _) rfl rfl rfl rfl  rfl rfl wl_8_79 wl_8_80 wl_8_81 wl_1_10 wl_8_82 hd_X10_loads (by rw [e3]; decide) (by decide) dL_law_887 (?_ : SdS X 890 [(0, 6), (1, 18), (2, 20), (3, 101), (4, 0)] [0, 0] _)
  refine su_icmp_eq (tgt := 1686) hC dL_law_890 rfl (?_ : SdS X 1686 [(0, 6), (1, 18), (2, 20), (3, 101), (4, 0)] [] _) (?_ : SdS X 893 [(0, 6), (1, 18), (2, 20), (3, 101), (4, 0)] [] _)
  · exact SdS.weak (by decide) (SL_1686 hC e2 e3 hX hT hled k23 h23)
  · refine su_iconst hC dL_law_893 ⟨by decide, by decide⟩ (?_ : SdS X 894 [(0, 6), (1, 18), (2, 20), (3, 101), (4, 0)] [0] _)
    exact su_lret hC hT dL_law_894
set_option maxRecDepth 100000 in
set_option maxHeartbeats 4000000 in
theorem SL_895 {X : CX} {sL : Nat} {sx : Nat → Int32} {Q : xQ} (hC : CF X cL_law RL WALL) (e2 : xn X = 7) (e3 : xR X = room_1) (hX : SX X sL sx) (hT : LT X Q) (hled : LH X) : ∀ (k23 : xK), SdS X 23 [(0, 6), (1, 18), (2, 20), (3, 101), (4, 0)] [] k23 → SdS X 895 [(0, 6), (1, 18), (2, 20), (3, 101), (4, 0)] [] (B_L_law_895 sL sx Q k23) := by
  intro k23 h23
  unfold B_L_law_895
  refine su_aload_n hC 18 dL_law_895 rfl (by decide) (by decide) (?_ : SdS X 896 [(0, 6), (1, 18), (2, 20), (3, 101), (4, 0)] [18] _)
  refine su_aload_n hC 6 dL_law_896 rfl (by decide) (by decide) (?_ : SdS X 897 [(0, 6), (1, 18), (2, 20), (3, 101), (4, 0)] [6, 18] _)
  refine su_iload hC dL_law_897 (by decide) (?_ : SdS X 899 [(0, 6), (1, 18), (2, 20), (3, 101), (4, 0)] [0, 6, 18] _)
  refine su_iconst hC dL_law_899 ⟨by decide, by decide⟩ (?_ : SdS X 900 [(0, 6), (1, 18), (2, 20), (3, 101), (4, 0)] [0, 0, 6, 18] _)
  refine su_iadd hC dL_law_900 (?_ : SdS X 901 [(0, 6), (1, 18), (2, 20), (3, 101), (4, 0)] [0, 6, 18] _)
  refine su_sld hC hX dL_law_901 (?_ : SdS X 902 [(0, 6), (1, 18), (2, 20), (3, 101), (4, 0)] [0, 18] _)
  refine su_aload_n hC 6 dL_law_902 rfl (by decide) (by decide) (?_ : SdS X 903 [(0, 6), (1, 18), (2, 20), (3, 101), (4, 0)] [6, 0, 18] _)
  refine su_iload hC dL_law_903 (by decide) (?_ : SdS X 905 [(0, 6), (1, 18), (2, 20), (3, 101), (4, 0)] [0, 6, 0, 18] _)
  refine su_iconst hC dL_law_905 ⟨by decide, by decide⟩ (?_ : SdS X 906 [(0, 6), (1, 18), (2, 20), (3, 101), (4, 0)] [0, 0, 6, 0, 18] _)
  refine su_iadd hC dL_law_906 (?_ : SdS X 907 [(0, 6), (1, 18), (2, 20), (3, 101), (4, 0)] [0, 6, 0, 18] _)
  refine su_sld hC hX dL_law_907 (?_ : SdS X 908 [(0, 6), (1, 18), (2, 20), (3, 101), (4, 0)] [0, 0, 18] _)
  refine su_inv0 (τ := []) (τr := [0, 0]) (ci := 8) (q := (RX8, TX8, 18)) hC WG (M_X8_load _) rfl rfl rfl rfl  rfl rfl wl_4_179 wl_4_180 wl_4_181 wl_1_1 wl_4_182 hd_X8_load (by rw [e3]; decide) (by decide) dL_law_908 (?_ : SdS X 911 [(0, 6), (1, 18), (2, 20), (3, 101), (4, 0)] [0] _)
  refine su_aload_n hC 20 dL_law_911 rfl (by decide) (by decide) (?_ : SdS X 912 [(0, 6), (1, 18), (2, 20), (3, 101), (4, 0)] [20, 0] _)
  refine su_aload_n hC 6 dL_law_912 rfl (by decide) (by decide) (?_ : SdS X 913 [(0, 6), (1, 18), (2, 20), (3, 101), (4, 0)] [6, 20, 0] _)
  refine su_iload hC dL_law_913 (by decide) (?_ : SdS X 915 [(0, 6), (1, 18), (2, 20), (3, 101), (4, 0)] [0, 6, 20, 0] _)
  refine su_iconst hC dL_law_915 ⟨by decide, by decide⟩ (?_ : SdS X 916 [(0, 6), (1, 18), (2, 20), (3, 101), (4, 0)] [0, 0, 6, 20, 0] _)
  refine su_iadd hC dL_law_916 (?_ : SdS X 917 [(0, 6), (1, 18), (2, 20), (3, 101), (4, 0)] [0, 6, 20, 0] _)
  refine su_sld hC hX dL_law_917 (?_ : SdS X 918 [(0, 6), (1, 18), (2, 20), (3, 101), (4, 0)] [0, 20, 0] _)
  refine su_aload_n hC 6 dL_law_918 rfl (by decide) (by decide) (?_ : SdS X 919 [(0, 6), (1, 18), (2, 20), (3, 101), (4, 0)] [6, 0, 20, 0] _)
  refine su_iload hC dL_law_919 (by decide) (?_ : SdS X 921 [(0, 6), (1, 18), (2, 20), (3, 101), (4, 0)] [0, 6, 0, 20, 0] _)
  refine su_iconst hC dL_law_921 ⟨by decide, by decide⟩ (?_ : SdS X 922 [(0, 6), (1, 18), (2, 20), (3, 101), (4, 0)] [0, 0, 6, 0, 20, 0] _)
  refine su_iadd hC dL_law_922 (?_ : SdS X 923 [(0, 6), (1, 18), (2, 20), (3, 101), (4, 0)] [0, 6, 0, 20, 0] _)
  refine su_sld hC hX dL_law_923 (?_ : SdS X 924 [(0, 6), (1, 18), (2, 20), (3, 101), (4, 0)] [0, 0, 20, 0] _)
  refine su_inv0 (τ := [0]) (τr := [0, 0]) (ci := 10) (q := (RX10, TX10, 45)) hC WG (M_X10_load _) rfl rfl rfl rfl  rfl rfl wl_8_83 wl_8_84 wl_8_85 wl_1_10 wl_8_86 hd_X10_load (by rw [e3]; decide) (by decide) dL_law_924 (?_ : SdS X 927 [(0, 6), (1, 18), (2, 20), (3, 101), (4, 0)] [0, 0] _)
  refine su_icmp_eq (tgt := 1686) hC dL_law_927 rfl (?_ : SdS X 1686 [(0, 6), (1, 18), (2, 20), (3, 101), (4, 0)] [] _) (?_ : SdS X 930 [(0, 6), (1, 18), (2, 20), (3, 101), (4, 0)] [] _)
  · exact SdS.weak (by decide) (SL_1686 hC e2 e3 hX hT hled k23 h23)
  · refine su_iconst hC dL_law_930 ⟨by decide, by decide⟩ (?_ : SdS X 931 [(0, 6), (1, 18), (2, 20), (3, 101), (4, 0)] [0] _)
    exact su_lret hC hT dL_law_931
set_option maxRecDepth 100000 in
set_option maxHeartbeats 4000000 in
theorem SL_932 {X : CX} {sL : Nat} {sx : Nat → Int32} {Q : xQ} (hC : CF X cL_law RL WALL) (e2 : xn X = 7) (e3 : xR X = room_1) (hX : SX X sL sx) (hT : LT X Q) (hled : LH X) : ∀ (k23 : xK), SdS X 23 [(0, 6), (1, 18), (2, 20), (3, 101), (4, 0)] [] k23 → SdS X 932 [(0, 6), (1, 18), (2, 20), (3, 101), (4, 0)] [] (B_L_law_932 sL sx Q k23) := by
  intro k23 h23
  unfold B_L_law_932
  refine su_aload_n hC 18 dL_law_932 rfl (by decide) (by decide) (?_ : SdS X 933 [(0, 6), (1, 18), (2, 20), (3, 101), (4, 0)] [18] _)
  refine su_aload_n hC 6 dL_law_933 rfl (by decide) (by decide) (?_ : SdS X 934 [(0, 6), (1, 18), (2, 20), (3, 101), (4, 0)] [6, 18] _)
  refine su_iload hC dL_law_934 (by decide) (?_ : SdS X 936 [(0, 6), (1, 18), (2, 20), (3, 101), (4, 0)] [0, 6, 18] _)
  refine su_iconst hC dL_law_936 ⟨by decide, by decide⟩ (?_ : SdS X 937 [(0, 6), (1, 18), (2, 20), (3, 101), (4, 0)] [0, 0, 6, 18] _)
  refine su_iadd hC dL_law_937 (?_ : SdS X 938 [(0, 6), (1, 18), (2, 20), (3, 101), (4, 0)] [0, 6, 18] _)
  refine su_sld hC hX dL_law_938 (?_ : SdS X 939 [(0, 6), (1, 18), (2, 20), (3, 101), (4, 0)] [0, 18] _)
  refine su_inv0 (τ := []) (τr := [0]) (ci := 8) (q := (RX8, TX8, 18)) hC WG (M_X8_cart _) rfl rfl rfl rfl  rfl rfl wl_4_183 wl_4_184 wl_4_185 wl_1_1 wl_4_186 hd_X8_cart (by rw [e3]; decide) (by decide) dL_law_939 (?_ : SdS X 942 [(0, 6), (1, 18), (2, 20), (3, 101), (4, 0)] [0] _)
  refine su_aload_n hC 20 dL_law_942 rfl (by decide) (by decide) (?_ : SdS X 943 [(0, 6), (1, 18), (2, 20), (3, 101), (4, 0)] [20, 0] _)
  refine su_aload_n hC 6 dL_law_943 rfl (by decide) (by decide) (?_ : SdS X 944 [(0, 6), (1, 18), (2, 20), (3, 101), (4, 0)] [6, 20, 0] _)
  refine su_iload hC dL_law_944 (by decide) (?_ : SdS X 946 [(0, 6), (1, 18), (2, 20), (3, 101), (4, 0)] [0, 6, 20, 0] _)
  refine su_iconst hC dL_law_946 ⟨by decide, by decide⟩ (?_ : SdS X 947 [(0, 6), (1, 18), (2, 20), (3, 101), (4, 0)] [0, 0, 6, 20, 0] _)
  refine su_iadd hC dL_law_947 (?_ : SdS X 948 [(0, 6), (1, 18), (2, 20), (3, 101), (4, 0)] [0, 6, 20, 0] _)
  refine su_sld hC hX dL_law_948 (?_ : SdS X 949 [(0, 6), (1, 18), (2, 20), (3, 101), (4, 0)] [0, 20, 0] _)
  refine su_inv0 (τ := [0]) (τr := [0]) (ci := 10) (q := (RX10, TX10, 45)) hC WG (M_X10_cart _) rfl rfl rfl rfl  rfl rfl wl_8_87 wl_8_88 wl_8_89 wl_1_10 wl_8_90 hd_X10_cart (by rw [e3]; decide) (by decide) dL_law_949 (?_ : SdS X 952 [(0, 6), (1, 18), (2, 20), (3, 101), (4, 0)] [0, 0] _)
  refine su_icmp_eq (tgt := 1686) hC dL_law_952 rfl (?_ : SdS X 1686 [(0, 6), (1, 18), (2, 20), (3, 101), (4, 0)] [] _) (?_ : SdS X 955 [(0, 6), (1, 18), (2, 20), (3, 101), (4, 0)] [] _)
  · exact SdS.weak (by decide) (SL_1686 hC e2 e3 hX hT hled k23 h23)
  · refine su_iconst hC dL_law_955 ⟨by decide, by decide⟩ (?_ : SdS X 956 [(0, 6), (1, 18), (2, 20), (3, 101), (4, 0)] [0] _)
    exact su_lret hC hT dL_law_956
set_option maxRecDepth 100000 in
set_option maxHeartbeats 4000000 in
theorem SL_957 {X : CX} {sL : Nat} {sx : Nat → Int32} {Q : xQ} (hC : CF X cL_law RL WALL) (e2 : xn X = 7) (e3 : xR X = room_1) (hX : SX X sL sx) (hT : LT X Q) (hled : LH X) : ∀ (k23 : xK), SdS X 23 [(0, 6), (1, 18), (2, 20), (3, 101), (4, 0)] [] k23 → SdS X 957 [(0, 6), (1, 18), (2, 20), (3, 101), (4, 0)] [] (B_L_law_957 sL sx Q k23) := by
  intro k23 h23
  unfold B_L_law_957
  refine su_aload_n hC 18 dL_law_957 rfl (by decide) (by decide) (?_ : SdS X 958 [(0, 6), (1, 18), (2, 20), (3, 101), (4, 0)] [18] _)
  refine su_aload_n hC 6 dL_law_958 rfl (by decide) (by decide) (?_ : SdS X 959 [(0, 6), (1, 18), (2, 20), (3, 101), (4, 0)] [6, 18] _)
  refine su_iload hC dL_law_959 (by decide) (?_ : SdS X 961 [(0, 6), (1, 18), (2, 20), (3, 101), (4, 0)] [0, 6, 18] _)
  refine su_iconst hC dL_law_961 ⟨by decide, by decide⟩ (?_ : SdS X 962 [(0, 6), (1, 18), (2, 20), (3, 101), (4, 0)] [0, 0, 6, 18] _)
  refine su_iadd hC dL_law_962 (?_ : SdS X 963 [(0, 6), (1, 18), (2, 20), (3, 101), (4, 0)] [0, 6, 18] _)
  refine su_sld hC hX dL_law_963 (?_ : SdS X 964 [(0, 6), (1, 18), (2, 20), (3, 101), (4, 0)] [0, 18] _)
  refine su_inv0 (τ := []) (τr := [0]) (ci := 8) (q := (RX8, TX8, 18)) hC WG (M_X8_busy _) rfl rfl rfl rfl  rfl rfl wl_4_187 wl_4_188 wl_4_189 wl_1_1 wl_4_190 hd_X8_busy (by rw [e3]; decide) (by decide) dL_law_964 (?_ : SdS X 967 [(0, 6), (1, 18), (2, 20), (3, 101), (4, 0)] [0] _)
  refine su_aload_n hC 20 dL_law_967 rfl (by decide) (by decide) (?_ : SdS X 968 [(0, 6), (1, 18), (2, 20), (3, 101), (4, 0)] [20, 0] _)
  refine su_aload_n hC 6 dL_law_968 rfl (by decide) (by decide) (?_ : SdS X 969 [(0, 6), (1, 18), (2, 20), (3, 101), (4, 0)] [6, 20, 0] _)
  refine su_iload hC dL_law_969 (by decide) (?_ : SdS X 971 [(0, 6), (1, 18), (2, 20), (3, 101), (4, 0)] [0, 6, 20, 0] _)
  refine su_iconst hC dL_law_971 ⟨by decide, by decide⟩ (?_ : SdS X 972 [(0, 6), (1, 18), (2, 20), (3, 101), (4, 0)] [0, 0, 6, 20, 0] _)
  refine su_iadd hC dL_law_972 (?_ : SdS X 973 [(0, 6), (1, 18), (2, 20), (3, 101), (4, 0)] [0, 6, 20, 0] _)
  refine su_sld hC hX dL_law_973 (?_ : SdS X 974 [(0, 6), (1, 18), (2, 20), (3, 101), (4, 0)] [0, 20, 0] _)
  refine su_inv0 (τ := [0]) (τr := [0]) (ci := 10) (q := (RX10, TX10, 45)) hC WG (M_X10_busy _) rfl rfl rfl rfl  rfl rfl wl_8_91 wl_8_92 wl_8_93 wl_1_10 wl_8_94 hd_X10_busy (by rw [e3]; decide) (by decide) dL_law_974 (?_ : SdS X 977 [(0, 6), (1, 18), (2, 20), (3, 101), (4, 0)] [0, 0] _)
  refine su_icmp_eq (tgt := 1686) hC dL_law_977 rfl (?_ : SdS X 1686 [(0, 6), (1, 18), (2, 20), (3, 101), (4, 0)] [] _) (?_ : SdS X 980 [(0, 6), (1, 18), (2, 20), (3, 101), (4, 0)] [] _)
  · exact SdS.weak (by decide) (SL_1686 hC e2 e3 hX hT hled k23 h23)
  · refine su_iconst hC dL_law_980 ⟨by decide, by decide⟩ (?_ : SdS X 981 [(0, 6), (1, 18), (2, 20), (3, 101), (4, 0)] [0] _)
    exact su_lret hC hT dL_law_981
set_option maxRecDepth 100000 in
set_option maxHeartbeats 4000000 in
theorem SL_982 {X : CX} {sL : Nat} {sx : Nat → Int32} {Q : xQ} (hC : CF X cL_law RL WALL) (e2 : xn X = 7) (e3 : xR X = room_1) (hX : SX X sL sx) (hT : LT X Q) (hled : LH X) : ∀ (k23 : xK), SdS X 23 [(0, 6), (1, 18), (2, 20), (3, 101), (4, 0)] [] k23 → SdS X 982 [(0, 6), (1, 18), (2, 20), (3, 101), (4, 0)] [] (B_L_law_982 sL sx Q k23) := by
  intro k23 h23
  unfold B_L_law_982
  refine su_aload_n hC 18 dL_law_982 rfl (by decide) (by decide) (?_ : SdS X 983 [(0, 6), (1, 18), (2, 20), (3, 101), (4, 0)] [18] _)
  refine su_aload_n hC 6 dL_law_983 rfl (by decide) (by decide) (?_ : SdS X 984 [(0, 6), (1, 18), (2, 20), (3, 101), (4, 0)] [6, 18] _)
  refine su_iload hC dL_law_984 (by decide) (?_ : SdS X 986 [(0, 6), (1, 18), (2, 20), (3, 101), (4, 0)] [0, 6, 18] _)
  refine su_iconst hC dL_law_986 ⟨by decide, by decide⟩ (?_ : SdS X 987 [(0, 6), (1, 18), (2, 20), (3, 101), (4, 0)] [0, 0, 6, 18] _)
  refine su_iadd hC dL_law_987 (?_ : SdS X 988 [(0, 6), (1, 18), (2, 20), (3, 101), (4, 0)] [0, 6, 18] _)
  refine su_sld hC hX dL_law_988 (?_ : SdS X 989 [(0, 6), (1, 18), (2, 20), (3, 101), (4, 0)] [0, 18] _)
  refine su_inv0 (τ := []) (τr := [0]) (ci := 8) (q := (RX8, TX8, 18)) hC WG (M_X8_tolls _) rfl rfl rfl rfl  rfl rfl wl_4_191 wl_4_192 wl_4_193 wl_1_1 wl_4_194 hd_X8_tolls (by rw [e3]; decide) (by decide) dL_law_989 (?_ : SdS X 992 [(0, 6), (1, 18), (2, 20), (3, 101), (4, 0)] [0] _)
  refine su_aload_n hC 20 dL_law_992 rfl (by decide) (by decide) (?_ : SdS X 993 [(0, 6), (1, 18), (2, 20), (3, 101), (4, 0)] [20, 0] _)
  refine su_aload_n hC 6 dL_law_993 rfl (by decide) (by decide) (?_ : SdS X 994 [(0, 6), (1, 18), (2, 20), (3, 101), (4, 0)] [6, 20, 0] _)
  refine su_iload hC dL_law_994 (by decide) (?_ : SdS X 996 [(0, 6), (1, 18), (2, 20), (3, 101), (4, 0)] [0, 6, 20, 0] _)
  refine su_iconst hC dL_law_996 ⟨by decide, by decide⟩ (?_ : SdS X 997 [(0, 6), (1, 18), (2, 20), (3, 101), (4, 0)] [0, 0, 6, 20, 0] _)
  refine su_iadd hC dL_law_997 (?_ : SdS X 998 [(0, 6), (1, 18), (2, 20), (3, 101), (4, 0)] [0, 6, 20, 0] _)
  refine su_sld hC hX dL_law_998 (?_ : SdS X 999 [(0, 6), (1, 18), (2, 20), (3, 101), (4, 0)] [0, 20, 0] _)
  refine su_inv0 (τ := [0]) (τr := [0]) (ci := 10) (q := (RX10, TX10, 45)) hC WG (M_X10_tolls _) rfl rfl rfl rfl  rfl rfl wl_8_95 wl_8_96 wl_8_97 wl_1_10 wl_8_98 hd_X10_tolls (by rw [e3]; decide) (by decide) dL_law_999 (?_ : SdS X 1002 [(0, 6), (1, 18), (2, 20), (3, 101), (4, 0)] [0, 0] _)
  refine su_icmp_eq (tgt := 1686) hC dL_law_1002 rfl (?_ : SdS X 1686 [(0, 6), (1, 18), (2, 20), (3, 101), (4, 0)] [] _) (?_ : SdS X 1005 [(0, 6), (1, 18), (2, 20), (3, 101), (4, 0)] [] _)
  · exact SdS.weak (by decide) (SL_1686 hC e2 e3 hX hT hled k23 h23)
  · refine su_iconst hC dL_law_1005 ⟨by decide, by decide⟩ (?_ : SdS X 1006 [(0, 6), (1, 18), (2, 20), (3, 101), (4, 0)] [0] _)
    exact su_lret hC hT dL_law_1006
set_option maxRecDepth 100000 in
set_option maxHeartbeats 4000000 in
theorem SL_1007 {X : CX} {sL : Nat} {sx : Nat → Int32} {Q : xQ} (hC : CF X cL_law RL WALL) (e2 : xn X = 7) (e3 : xR X = room_1) (hX : SX X sL sx) (hT : LT X Q) (hled : LH X) : ∀ (k23 : xK), SdS X 23 [(0, 6), (1, 18), (2, 20), (3, 101), (4, 0)] [] k23 → SdS X 1007 [(0, 6), (1, 18), (2, 20), (3, 101), (4, 0)] [] (B_L_law_1007 sL sx Q k23) := by
  intro k23 h23
  unfold B_L_law_1007
  refine su_aload_n hC 18 dL_law_1007 rfl (by decide) (by decide) (?_ : SdS X 1008 [(0, 6), (1, 18), (2, 20), (3, 101), (4, 0)] [18] _)
  refine su_aload_n hC 6 dL_law_1008 rfl (by decide) (by decide) (?_ : SdS X 1009 [(0, 6), (1, 18), (2, 20), (3, 101), (4, 0)] [6, 18] _)
  refine su_iload hC dL_law_1009 (by decide) (?_ : SdS X 1011 [(0, 6), (1, 18), (2, 20), (3, 101), (4, 0)] [0, 6, 18] _)
  refine su_iconst hC dL_law_1011 ⟨by decide, by decide⟩ (?_ : SdS X 1012 [(0, 6), (1, 18), (2, 20), (3, 101), (4, 0)] [0, 0, 6, 18] _)
  refine su_iadd hC dL_law_1012 (?_ : SdS X 1013 [(0, 6), (1, 18), (2, 20), (3, 101), (4, 0)] [0, 6, 18] _)
  refine su_sld hC hX dL_law_1013 (?_ : SdS X 1014 [(0, 6), (1, 18), (2, 20), (3, 101), (4, 0)] [0, 18] _)
  refine su_inv0 (τ := []) (τr := [0]) (ci := 8) (q := (RX8, TX8, 18)) hC WG (M_X8_worked _) rfl rfl rfl rfl  rfl rfl wl_4_195 wl_4_196 wl_4_197 wl_1_1 wl_4_198 hd_X8_worked (by rw [e3]; decide) (by decide) dL_law_1014 (?_ : SdS X 1017 [(0, 6), (1, 18), (2, 20), (3, 101), (4, 0)] [0] _)
  refine su_aload_n hC 20 dL_law_1017 rfl (by decide) (by decide) (?_ : SdS X 1018 [(0, 6), (1, 18), (2, 20), (3, 101), (4, 0)] [20, 0] _)
  refine su_aload_n hC 6 dL_law_1018 rfl (by decide) (by decide) (?_ : SdS X 1019 [(0, 6), (1, 18), (2, 20), (3, 101), (4, 0)] [6, 20, 0] _)
  refine su_iload hC dL_law_1019 (by decide) (?_ : SdS X 1021 [(0, 6), (1, 18), (2, 20), (3, 101), (4, 0)] [0, 6, 20, 0] _)
  refine su_iconst hC dL_law_1021 ⟨by decide, by decide⟩ (?_ : SdS X 1022 [(0, 6), (1, 18), (2, 20), (3, 101), (4, 0)] [0, 0, 6, 20, 0] _)
  refine su_iadd hC dL_law_1022 (?_ : SdS X 1023 [(0, 6), (1, 18), (2, 20), (3, 101), (4, 0)] [0, 6, 20, 0] _)
  refine su_sld hC hX dL_law_1023 (?_ : SdS X 1024 [(0, 6), (1, 18), (2, 20), (3, 101), (4, 0)] [0, 20, 0] _)
  refine su_inv0 (τ := [0]) (τr := [0]) (ci := 10) (q := (RX10, TX10, 45)) hC WG (M_X10_worked _) rfl rfl rfl rfl  rfl rfl wl_8_99 wl_8_100 wl_8_101 wl_1_10 wl_8_102 hd_X10_worked (by rw [e3]; decide) (by decide) dL_law_1024 (?_ : SdS X 1027 [(0, 6), (1, 18), (2, 20), (3, 101), (4, 0)] [0, 0] _)
  refine su_icmp_eq (tgt := 1686) hC dL_law_1027 rfl (?_ : SdS X 1686 [(0, 6), (1, 18), (2, 20), (3, 101), (4, 0)] [] _) (?_ : SdS X 1030 [(0, 6), (1, 18), (2, 20), (3, 101), (4, 0)] [] _)
  · exact SdS.weak (by decide) (SL_1686 hC e2 e3 hX hT hled k23 h23)
  · refine su_iconst hC dL_law_1030 ⟨by decide, by decide⟩ (?_ : SdS X 1031 [(0, 6), (1, 18), (2, 20), (3, 101), (4, 0)] [0] _)
    exact su_lret hC hT dL_law_1031
set_option maxRecDepth 100000 in
set_option maxHeartbeats 4000000 in
theorem SL_1032 {X : CX} {sL : Nat} {sx : Nat → Int32} {Q : xQ} (hC : CF X cL_law RL WALL) (e2 : xn X = 7) (e3 : xR X = room_1) (hX : SX X sL sx) (hT : LT X Q) (hled : LH X) : ∀ (k23 : xK), SdS X 23 [(0, 6), (1, 18), (2, 20), (3, 101), (4, 0)] [] k23 → SdS X 1032 [(0, 6), (1, 18), (2, 20), (3, 101), (4, 0)] [] (B_L_law_1032 sL sx Q k23) := by
  intro k23 h23
  unfold B_L_law_1032
  refine su_aload_n hC 18 dL_law_1032 rfl (by decide) (by decide) (?_ : SdS X 1033 [(0, 6), (1, 18), (2, 20), (3, 101), (4, 0)] [18] _)
  refine su_inv0 (τ := []) (τr := []) (ci := 8) (q := (RX8, TX8, 18)) hC WG (M_X8_waited _) rfl rfl rfl rfl  rfl rfl wl_4_199 wl_4_200 wl_4_201 wl_1_1 wl_4_202 hd_X8_waited (by rw [e3]; decide) (by decide) dL_law_1033 (?_ : SdS X 1036 [(0, 6), (1, 18), (2, 20), (3, 101), (4, 0)] [0] _)
  refine su_aload_n hC 20 dL_law_1036 rfl (by decide) (by decide) (?_ : SdS X 1037 [(0, 6), (1, 18), (2, 20), (3, 101), (4, 0)] [20, 0] _)
  refine su_inv0 (τ := [0]) (τr := []) (ci := 10) (q := (RX10, TX10, 45)) hC WG (M_X10_waited _) rfl rfl rfl rfl  rfl rfl wl_8_103 wl_8_104 wl_8_105 wl_1_10 wl_8_106 hd_X10_waited (by rw [e3]; decide) (by decide) dL_law_1037 (?_ : SdS X 1040 [(0, 6), (1, 18), (2, 20), (3, 101), (4, 0)] [0, 0] _)
  refine su_icmp_eq (tgt := 1686) hC dL_law_1040 rfl (?_ : SdS X 1686 [(0, 6), (1, 18), (2, 20), (3, 101), (4, 0)] [] _) (?_ : SdS X 1043 [(0, 6), (1, 18), (2, 20), (3, 101), (4, 0)] [] _)
  · exact SdS.weak (by decide) (SL_1686 hC e2 e3 hX hT hled k23 h23)
  · refine su_iconst hC dL_law_1043 ⟨by decide, by decide⟩ (?_ : SdS X 1044 [(0, 6), (1, 18), (2, 20), (3, 101), (4, 0)] [0] _)
    exact su_lret hC hT dL_law_1044
set_option maxRecDepth 100000 in
set_option maxHeartbeats 4000000 in
theorem SL_1045 {X : CX} {sL : Nat} {sx : Nat → Int32} {Q : xQ} (hC : CF X cL_law RL WALL) (e2 : xn X = 7) (e3 : xR X = room_1) (hX : SX X sL sx) (hT : LT X Q) (hled : LH X) : ∀ (k23 : xK), SdS X 23 [(0, 6), (1, 18), (2, 20), (3, 101), (4, 0)] [] k23 → SdS X 1045 [(0, 6), (1, 18), (2, 20), (3, 101), (4, 0)] [] (B_L_law_1045 sL sx Q k23) := by
  intro k23 h23
  unfold B_L_law_1045
  refine su_aload_n hC 18 dL_law_1045 rfl (by decide) (by decide) (?_ : SdS X 1046 [(0, 6), (1, 18), (2, 20), (3, 101), (4, 0)] [18] _)
  refine su_inv0 (τ := []) (τr := []) (ci := 8) (q := (RX8, TX8, 18)) hC WG (M_X8_mark _) rfl rfl rfl rfl  rfl rfl wl_4_207 wl_4_208 wl_4_209 wl_1_1 wl_4_210 hd_X8_mark (by rw [e3]; decide) (by decide) dL_law_1046 (?_ : SdS X 1049 [(0, 6), (1, 18), (2, 20), (3, 101), (4, 0)] [0] _)
  refine su_aload_n hC 20 dL_law_1049 rfl (by decide) (by decide) (?_ : SdS X 1050 [(0, 6), (1, 18), (2, 20), (3, 101), (4, 0)] [20, 0] _)
  refine su_inv0 (τ := [0]) (τr := []) (ci := 10) (q := (RX10, TX10, 45)) hC WG (M_X10_mark _) rfl rfl rfl rfl  rfl rfl wl_8_107 wl_8_108 wl_8_109 wl_1_10 wl_8_110 hd_X10_mark (by rw [e3]; decide) (by decide) dL_law_1050 (?_ : SdS X 1053 [(0, 6), (1, 18), (2, 20), (3, 101), (4, 0)] [0, 0] _)
  refine su_icmp_eq (tgt := 1686) hC dL_law_1053 rfl (?_ : SdS X 1686 [(0, 6), (1, 18), (2, 20), (3, 101), (4, 0)] [] _) (?_ : SdS X 1056 [(0, 6), (1, 18), (2, 20), (3, 101), (4, 0)] [] _)
  · exact SdS.weak (by decide) (SL_1686 hC e2 e3 hX hT hled k23 h23)
  · refine su_iconst hC dL_law_1056 ⟨by decide, by decide⟩ (?_ : SdS X 1057 [(0, 6), (1, 18), (2, 20), (3, 101), (4, 0)] [0] _)
    exact su_lret hC hT dL_law_1057
set_option maxRecDepth 100000 in
set_option maxHeartbeats 4000000 in
theorem SL_1058 {X : CX} {sL : Nat} {sx : Nat → Int32} {Q : xQ} (hC : CF X cL_law RL WALL) (e2 : xn X = 7) (e3 : xR X = room_1) (hX : SX X sL sx) (hT : LT X Q) (hled : LH X) : ∀ (k23 : xK), SdS X 23 [(0, 6), (1, 18), (2, 20), (3, 101), (4, 0)] [] k23 → SdS X 1058 [(0, 6), (1, 18), (2, 20), (3, 101), (4, 0)] [] (B_L_law_1058 sL sx Q k23) := by
  intro k23 h23
  unfold B_L_law_1058
  refine su_aload_n hC 18 dL_law_1058 rfl (by decide) (by decide) (?_ : SdS X 1059 [(0, 6), (1, 18), (2, 20), (3, 101), (4, 0)] [18] _)
  refine su_aload_n hC 6 dL_law_1059 rfl (by decide) (by decide) (?_ : SdS X 1060 [(0, 6), (1, 18), (2, 20), (3, 101), (4, 0)] [6, 18] _)
  refine su_iload hC dL_law_1060 (by decide) (?_ : SdS X 1062 [(0, 6), (1, 18), (2, 20), (3, 101), (4, 0)] [0, 6, 18] _)
  refine su_iconst hC dL_law_1062 ⟨by decide, by decide⟩ (?_ : SdS X 1063 [(0, 6), (1, 18), (2, 20), (3, 101), (4, 0)] [0, 0, 6, 18] _)
  refine su_iadd hC dL_law_1063 (?_ : SdS X 1064 [(0, 6), (1, 18), (2, 20), (3, 101), (4, 0)] [0, 6, 18] _)
  refine su_sld hC hX dL_law_1064 (?_ : SdS X 1065 [(0, 6), (1, 18), (2, 20), (3, 101), (4, 0)] [0, 18] _)
  refine su_inv0 (τ := []) (τr := [0]) (ci := 8) (q := (RX8, TX8, 18)) hC WG (M_X8_back _) rfl rfl rfl rfl  rfl rfl wl_4_218 wl_4_219 wl_4_220 wl_1_1 wl_4_221 hd_X8_back (by rw [e3]; decide) (by decide) dL_law_1065 (?_ : SdS X 1068 [(0, 6), (1, 18), (2, 20), (3, 101), (4, 0)] [0] _)
  refine su_aload_n hC 20 dL_law_1068 rfl (by decide) (by decide) (?_ : SdS X 1069 [(0, 6), (1, 18), (2, 20), (3, 101), (4, 0)] [20, 0] _)
  refine su_aload_n hC 6 dL_law_1069 rfl (by decide) (by decide) (?_ : SdS X 1070 [(0, 6), (1, 18), (2, 20), (3, 101), (4, 0)] [6, 20, 0] _)
  refine su_iload hC dL_law_1070 (by decide) (?_ : SdS X 1072 [(0, 6), (1, 18), (2, 20), (3, 101), (4, 0)] [0, 6, 20, 0] _)
  refine su_iconst hC dL_law_1072 ⟨by decide, by decide⟩ (?_ : SdS X 1073 [(0, 6), (1, 18), (2, 20), (3, 101), (4, 0)] [0, 0, 6, 20, 0] _)
  refine su_iadd hC dL_law_1073 (?_ : SdS X 1074 [(0, 6), (1, 18), (2, 20), (3, 101), (4, 0)] [0, 6, 20, 0] _)
  refine su_sld hC hX dL_law_1074 (?_ : SdS X 1075 [(0, 6), (1, 18), (2, 20), (3, 101), (4, 0)] [0, 20, 0] _)
  refine su_inv0 (τ := [0]) (τr := [0]) (ci := 10) (q := (RX10, TX10, 45)) hC WG (M_X10_back _) rfl rfl rfl rfl  rfl rfl wl_8_111 wl_8_112 wl_8_113 wl_1_10 wl_8_114 hd_X10_back (by rw [e3]; decide) (by decide) dL_law_1075 (?_ : SdS X 1078 [(0, 6), (1, 18), (2, 20), (3, 101), (4, 0)] [0, 0] _)
  refine su_icmp_eq (tgt := 1686) hC dL_law_1078 rfl (?_ : SdS X 1686 [(0, 6), (1, 18), (2, 20), (3, 101), (4, 0)] [] _) (?_ : SdS X 1081 [(0, 6), (1, 18), (2, 20), (3, 101), (4, 0)] [] _)
  · exact SdS.weak (by decide) (SL_1686 hC e2 e3 hX hT hled k23 h23)
  · refine su_iconst hC dL_law_1081 ⟨by decide, by decide⟩ (?_ : SdS X 1082 [(0, 6), (1, 18), (2, 20), (3, 101), (4, 0)] [0] _)
    exact su_lret hC hT dL_law_1082
set_option maxRecDepth 100000 in
set_option maxHeartbeats 4000000 in
theorem SL_1083 {X : CX} {sL : Nat} {sx : Nat → Int32} {Q : xQ} (hC : CF X cL_law RL WALL) (e2 : xn X = 7) (e3 : xR X = room_1) (hX : SX X sL sx) (hT : LT X Q) (hled : LH X) : ∀ (k23 : xK), SdS X 23 [(0, 6), (1, 18), (2, 20), (3, 101), (4, 0)] [] k23 → SdS X 1083 [(0, 6), (1, 18), (2, 20), (3, 101), (4, 0)] [] (B_L_law_1083 sL sx Q k23) := by
  intro k23 h23
  unfold B_L_law_1083
  refine su_aload_n hC 18 dL_law_1083 rfl (by decide) (by decide) (?_ : SdS X 1084 [(0, 6), (1, 18), (2, 20), (3, 101), (4, 0)] [18] _)
  refine su_aload_n hC 6 dL_law_1084 rfl (by decide) (by decide) (?_ : SdS X 1085 [(0, 6), (1, 18), (2, 20), (3, 101), (4, 0)] [6, 18] _)
  refine su_iload hC dL_law_1085 (by decide) (?_ : SdS X 1087 [(0, 6), (1, 18), (2, 20), (3, 101), (4, 0)] [0, 6, 18] _)
  refine su_iconst hC dL_law_1087 ⟨by decide, by decide⟩ (?_ : SdS X 1088 [(0, 6), (1, 18), (2, 20), (3, 101), (4, 0)] [0, 0, 6, 18] _)
  refine su_iadd hC dL_law_1088 (?_ : SdS X 1089 [(0, 6), (1, 18), (2, 20), (3, 101), (4, 0)] [0, 6, 18] _)
  refine su_sld hC hX dL_law_1089 (?_ : SdS X 1090 [(0, 6), (1, 18), (2, 20), (3, 101), (4, 0)] [0, 18] _)
  refine su_aload_n hC 6 dL_law_1090 rfl (by decide) (by decide) (?_ : SdS X 1091 [(0, 6), (1, 18), (2, 20), (3, 101), (4, 0)] [6, 0, 18] _)
  refine su_iload hC dL_law_1091 (by decide) (?_ : SdS X 1093 [(0, 6), (1, 18), (2, 20), (3, 101), (4, 0)] [0, 6, 0, 18] _)
  refine su_iconst hC dL_law_1093 ⟨by decide, by decide⟩ (?_ : SdS X 1094 [(0, 6), (1, 18), (2, 20), (3, 101), (4, 0)] [0, 0, 6, 0, 18] _)
  refine su_iadd hC dL_law_1094 (?_ : SdS X 1095 [(0, 6), (1, 18), (2, 20), (3, 101), (4, 0)] [0, 6, 0, 18] _)
  refine su_sld hC hX dL_law_1095 (?_ : SdS X 1096 [(0, 6), (1, 18), (2, 20), (3, 101), (4, 0)] [0, 0, 18] _)
  refine su_aload_n hC 6 dL_law_1096 rfl (by decide) (by decide) (?_ : SdS X 1097 [(0, 6), (1, 18), (2, 20), (3, 101), (4, 0)] [6, 0, 0, 18] _)
  refine su_iload hC dL_law_1097 (by decide) (?_ : SdS X 1099 [(0, 6), (1, 18), (2, 20), (3, 101), (4, 0)] [0, 6, 0, 0, 18] _)
  refine su_iconst hC dL_law_1099 ⟨by decide, by decide⟩ (?_ : SdS X 1100 [(0, 6), (1, 18), (2, 20), (3, 101), (4, 0)] [0, 0, 6, 0, 0, 18] _)
  refine su_iadd hC dL_law_1100 (?_ : SdS X 1101 [(0, 6), (1, 18), (2, 20), (3, 101), (4, 0)] [0, 6, 0, 0, 18] _)
  refine su_sld hC hX dL_law_1101 (?_ : SdS X 1102 [(0, 6), (1, 18), (2, 20), (3, 101), (4, 0)] [0, 0, 0, 18] _)
  refine su_inv0 (τ := []) (τr := [0, 0, 0]) (ci := 8) (q := (RX8, TX8, 18)) hC WG (M_X8_saves _) rfl rfl rfl rfl  rfl rfl wl_4_222 wl_4_223 wl_4_224 wl_1_1 wl_4_225 hd_X8_saves (by rw [e3]; decide) (by decide) dL_law_1102 (?_ : SdS X 1105 [(0, 6), (1, 18), (2, 20), (3, 101), (4, 0)] [0] _)
  refine su_aload_n hC 20 dL_law_1105 rfl (by decide) (by decide) (?_ : SdS X 1106 [(0, 6), (1, 18), (2, 20), (3, 101), (4, 0)] [20, 0] _)
  refine su_aload_n hC 6 dL_law_1106 rfl (by decide) (by decide) (?_ : SdS X 1107 [(0, 6), (1, 18), (2, 20), (3, 101), (4, 0)] [6, 20, 0] _)
  refine su_iload hC dL_law_1107 (by decide) (?_ : SdS X 1109 [(0, 6), (1, 18), (2, 20), (3, 101), (4, 0)] [0, 6, 20, 0] _)
  refine su_iconst hC dL_law_1109 ⟨by decide, by decide⟩ (?_ : SdS X 1110 [(0, 6), (1, 18), (2, 20), (3, 101), (4, 0)] [0, 0, 6, 20, 0] _)
  refine su_iadd hC dL_law_1110 (?_ : SdS X 1111 [(0, 6), (1, 18), (2, 20), (3, 101), (4, 0)] [0, 6, 20, 0] _)
  refine su_sld hC hX dL_law_1111 (?_ : SdS X 1112 [(0, 6), (1, 18), (2, 20), (3, 101), (4, 0)] [0, 20, 0] _)
  refine su_aload_n hC 6 dL_law_1112 rfl (by decide) (by decide) (?_ : SdS X 1113 [(0, 6), (1, 18), (2, 20), (3, 101), (4, 0)] [6, 0, 20, 0] _)
  refine su_iload hC dL_law_1113 (by decide) (?_ : SdS X 1115 [(0, 6), (1, 18), (2, 20), (3, 101), (4, 0)] [0, 6, 0, 20, 0] _)
  refine su_iconst hC dL_law_1115 ⟨by decide, by decide⟩ (?_ : SdS X 1116 [(0, 6), (1, 18), (2, 20), (3, 101), (4, 0)] [0, 0, 6, 0, 20, 0] _)
  refine su_iadd hC dL_law_1116 (?_ : SdS X 1117 [(0, 6), (1, 18), (2, 20), (3, 101), (4, 0)] [0, 6, 0, 20, 0] _)
  refine su_sld hC hX dL_law_1117 (?_ : SdS X 1118 [(0, 6), (1, 18), (2, 20), (3, 101), (4, 0)] [0, 0, 20, 0] _)
  refine su_aload_n hC 6 dL_law_1118 rfl (by decide) (by decide) (?_ : SdS X 1119 [(0, 6), (1, 18), (2, 20), (3, 101), (4, 0)] [6, 0, 0, 20, 0] _)
  refine su_iload hC dL_law_1119 (by decide) (?_ : SdS X 1121 [(0, 6), (1, 18), (2, 20), (3, 101), (4, 0)] [0, 6, 0, 0, 20, 0] _)
  refine su_iconst hC dL_law_1121 ⟨by decide, by decide⟩ (?_ : SdS X 1122 [(0, 6), (1, 18), (2, 20), (3, 101), (4, 0)] [0, 0, 6, 0, 0, 20, 0] _)
  refine su_iadd hC dL_law_1122 (?_ : SdS X 1123 [(0, 6), (1, 18), (2, 20), (3, 101), (4, 0)] [0, 6, 0, 0, 20, 0] _)
  refine su_sld hC hX dL_law_1123 (?_ : SdS X 1124 [(0, 6), (1, 18), (2, 20), (3, 101), (4, 0)] [0, 0, 0, 20, 0] _)
  refine su_inv0 (τ := [0]) (τr := [0, 0, 0]) (ci := 10) (q := (RX10, TX10, 45)) hC WG (M_X10_saves _) rfl rfl rfl rfl  rfl rfl wl_8_115 wl_8_116 wl_8_117 wl_1_10 wl_8_118 hd_X10_saves (by rw [e3]; decide) (by decide) dL_law_1124 (?_ : SdS X 1127 [(0, 6), (1, 18), (2, 20), (3, 101), (4, 0)] [0, 0] _)
  refine su_icmp_eq (tgt := 1686) hC dL_law_1127 rfl (?_ : SdS X 1686 [(0, 6), (1, 18), (2, 20), (3, 101), (4, 0)] [] _) (?_ : SdS X 1130 [(0, 6), (1, 18), (2, 20), (3, 101), (4, 0)] [] _)
  · exact SdS.weak (by decide) (SL_1686 hC e2 e3 hX hT hled k23 h23)
  · refine su_iconst hC dL_law_1130 ⟨by decide, by decide⟩ (?_ : SdS X 1131 [(0, 6), (1, 18), (2, 20), (3, 101), (4, 0)] [0] _)
    exact su_lret hC hT dL_law_1131
set_option maxRecDepth 100000 in
set_option maxHeartbeats 4000000 in
theorem SL_1132 {X : CX} {sL : Nat} {sx : Nat → Int32} {Q : xQ} (hC : CF X cL_law RL WALL) (e2 : xn X = 7) (e3 : xR X = room_1) (hX : SX X sL sx) (hT : LT X Q) (hled : LH X) : ∀ (k23 : xK), SdS X 23 [(0, 6), (1, 18), (2, 20), (3, 101), (4, 0)] [] k23 → SdS X 1132 [(0, 6), (1, 18), (2, 20), (3, 101), (4, 0)] [] (B_L_law_1132 sL sx Q k23) := by
  intro k23 h23
  unfold B_L_law_1132
  refine su_aload_n hC 18 dL_law_1132 rfl (by decide) (by decide) (?_ : SdS X 1133 [(0, 6), (1, 18), (2, 20), (3, 101), (4, 0)] [18] _)
  refine su_aload_n hC 6 dL_law_1133 rfl (by decide) (by decide) (?_ : SdS X 1134 [(0, 6), (1, 18), (2, 20), (3, 101), (4, 0)] [6, 18] _)
  refine su_iload hC dL_law_1134 (by decide) (?_ : SdS X 1136 [(0, 6), (1, 18), (2, 20), (3, 101), (4, 0)] [0, 6, 18] _)
  refine su_iconst hC dL_law_1136 ⟨by decide, by decide⟩ (?_ : SdS X 1137 [(0, 6), (1, 18), (2, 20), (3, 101), (4, 0)] [0, 0, 6, 18] _)
  refine su_iadd hC dL_law_1137 (?_ : SdS X 1138 [(0, 6), (1, 18), (2, 20), (3, 101), (4, 0)] [0, 6, 18] _)
  refine su_sld hC hX dL_law_1138 (?_ : SdS X 1139 [(0, 6), (1, 18), (2, 20), (3, 101), (4, 0)] [0, 18] _)
  refine su_aload_n hC 6 dL_law_1139 rfl (by decide) (by decide) (?_ : SdS X 1140 [(0, 6), (1, 18), (2, 20), (3, 101), (4, 0)] [6, 0, 18] _)
  refine su_iload hC dL_law_1140 (by decide) (?_ : SdS X 1142 [(0, 6), (1, 18), (2, 20), (3, 101), (4, 0)] [0, 6, 0, 18] _)
  refine su_iconst hC dL_law_1142 ⟨by decide, by decide⟩ (?_ : SdS X 1143 [(0, 6), (1, 18), (2, 20), (3, 101), (4, 0)] [0, 0, 6, 0, 18] _)
  refine su_iadd hC dL_law_1143 (?_ : SdS X 1144 [(0, 6), (1, 18), (2, 20), (3, 101), (4, 0)] [0, 6, 0, 18] _)
  refine su_sld hC hX dL_law_1144 (?_ : SdS X 1145 [(0, 6), (1, 18), (2, 20), (3, 101), (4, 0)] [0, 0, 18] _)
  refine su_inv0 (τ := []) (τr := [0, 0]) (ci := 8) (q := (RX8, TX8, 18)) hC WG (M_X8_breach _) rfl rfl rfl rfl  rfl rfl wl_4_237 wl_4_238 wl_4_239 wl_1_1 wl_5_0 hd_X8_breach (by rw [e3]; decide) (by decide) dL_law_1145 (?_ : SdS X 1148 [(0, 6), (1, 18), (2, 20), (3, 101), (4, 0)] [0] _)
  refine su_aload_n hC 20 dL_law_1148 rfl (by decide) (by decide) (?_ : SdS X 1149 [(0, 6), (1, 18), (2, 20), (3, 101), (4, 0)] [20, 0] _)
  refine su_aload_n hC 6 dL_law_1149 rfl (by decide) (by decide) (?_ : SdS X 1150 [(0, 6), (1, 18), (2, 20), (3, 101), (4, 0)] [6, 20, 0] _)
  refine su_iload hC dL_law_1150 (by decide) (?_ : SdS X 1152 [(0, 6), (1, 18), (2, 20), (3, 101), (4, 0)] [0, 6, 20, 0] _)
  refine su_iconst hC dL_law_1152 ⟨by decide, by decide⟩ (?_ : SdS X 1153 [(0, 6), (1, 18), (2, 20), (3, 101), (4, 0)] [0, 0, 6, 20, 0] _)
  refine su_iadd hC dL_law_1153 (?_ : SdS X 1154 [(0, 6), (1, 18), (2, 20), (3, 101), (4, 0)] [0, 6, 20, 0] _)
  refine su_sld hC hX dL_law_1154 (?_ : SdS X 1155 [(0, 6), (1, 18), (2, 20), (3, 101), (4, 0)] [0, 20, 0] _)
  refine su_aload_n hC 6 dL_law_1155 rfl (by decide) (by decide) (?_ : SdS X 1156 [(0, 6), (1, 18), (2, 20), (3, 101), (4, 0)] [6, 0, 20, 0] _)
  refine su_iload hC dL_law_1156 (by decide) (?_ : SdS X 1158 [(0, 6), (1, 18), (2, 20), (3, 101), (4, 0)] [0, 6, 0, 20, 0] _)
  refine su_iconst hC dL_law_1158 ⟨by decide, by decide⟩ (?_ : SdS X 1159 [(0, 6), (1, 18), (2, 20), (3, 101), (4, 0)] [0, 0, 6, 0, 20, 0] _)
  refine su_iadd hC dL_law_1159 (?_ : SdS X 1160 [(0, 6), (1, 18), (2, 20), (3, 101), (4, 0)] [0, 6, 0, 20, 0] _)
  refine su_sld hC hX dL_law_1160 (?_ : SdS X 1161 [(0, 6), (1, 18), (2, 20), (3, 101), (4, 0)] [0, 0, 20, 0] _)
  refine su_inv0 (τ := [0]) (τr := [0, 0]) (ci := 10) (q := (RX10, TX10, 45)) hC WG (M_X10_breach _) rfl rfl rfl rfl  rfl rfl wl_8_126 wl_8_127 wl_8_128 wl_1_10 wl_8_129 hd_X10_breach (by rw [e3]; decide) (by decide) dL_law_1161 (?_ : SdS X 1164 [(0, 6), (1, 18), (2, 20), (3, 101), (4, 0)] [0, 0] _)
  refine su_icmp_eq (tgt := 1686) hC dL_law_1164 rfl (?_ : SdS X 1686 [(0, 6), (1, 18), (2, 20), (3, 101), (4, 0)] [] _) (?_ : SdS X 1167 [(0, 6), (1, 18), (2, 20), (3, 101), (4, 0)] [] _)
  · exact SdS.weak (by decide) (SL_1686 hC e2 e3 hX hT hled k23 h23)
  · refine su_iconst hC dL_law_1167 ⟨by decide, by decide⟩ (?_ : SdS X 1168 [(0, 6), (1, 18), (2, 20), (3, 101), (4, 0)] [0] _)
    exact su_lret hC hT dL_law_1168
set_option maxRecDepth 100000 in
set_option maxHeartbeats 4000000 in
theorem SL_1169 {X : CX} {sL : Nat} {sx : Nat → Int32} {Q : xQ} (hC : CF X cL_law RL WALL) (e2 : xn X = 7) (e3 : xR X = room_1) (hX : SX X sL sx) (hT : LT X Q) (hled : LH X) : ∀ (k23 : xK), SdS X 23 [(0, 6), (1, 18), (2, 20), (3, 101), (4, 0)] [] k23 → SdS X 1169 [(0, 6), (1, 18), (2, 20), (3, 101), (4, 0)] [] (B_L_law_1169 sL sx Q k23) := by
  intro k23 h23
  unfold B_L_law_1169
  refine su_aload_n hC 18 dL_law_1169 rfl (by decide) (by decide) (?_ : SdS X 1170 [(0, 6), (1, 18), (2, 20), (3, 101), (4, 0)] [18] _)
  refine su_aload_n hC 6 dL_law_1170 rfl (by decide) (by decide) (?_ : SdS X 1171 [(0, 6), (1, 18), (2, 20), (3, 101), (4, 0)] [6, 18] _)
  refine su_iload hC dL_law_1171 (by decide) (?_ : SdS X 1173 [(0, 6), (1, 18), (2, 20), (3, 101), (4, 0)] [0, 6, 18] _)
  refine su_iconst hC dL_law_1173 ⟨by decide, by decide⟩ (?_ : SdS X 1174 [(0, 6), (1, 18), (2, 20), (3, 101), (4, 0)] [0, 0, 6, 18] _)
  refine su_iadd hC dL_law_1174 (?_ : SdS X 1175 [(0, 6), (1, 18), (2, 20), (3, 101), (4, 0)] [0, 6, 18] _)
  refine su_sld hC hX dL_law_1175 (?_ : SdS X 1176 [(0, 6), (1, 18), (2, 20), (3, 101), (4, 0)] [0, 18] _)
  refine su_aload_n hC 6 dL_law_1176 rfl (by decide) (by decide) (?_ : SdS X 1177 [(0, 6), (1, 18), (2, 20), (3, 101), (4, 0)] [6, 0, 18] _)
  refine su_iload hC dL_law_1177 (by decide) (?_ : SdS X 1179 [(0, 6), (1, 18), (2, 20), (3, 101), (4, 0)] [0, 6, 0, 18] _)
  refine su_iconst hC dL_law_1179 ⟨by decide, by decide⟩ (?_ : SdS X 1180 [(0, 6), (1, 18), (2, 20), (3, 101), (4, 0)] [0, 0, 6, 0, 18] _)
  refine su_iadd hC dL_law_1180 (?_ : SdS X 1181 [(0, 6), (1, 18), (2, 20), (3, 101), (4, 0)] [0, 6, 0, 18] _)
  refine su_sld hC hX dL_law_1181 (?_ : SdS X 1182 [(0, 6), (1, 18), (2, 20), (3, 101), (4, 0)] [0, 0, 18] _)
  refine su_aload_n hC 6 dL_law_1182 rfl (by decide) (by decide) (?_ : SdS X 1183 [(0, 6), (1, 18), (2, 20), (3, 101), (4, 0)] [6, 0, 0, 18] _)
  refine su_iload hC dL_law_1183 (by decide) (?_ : SdS X 1185 [(0, 6), (1, 18), (2, 20), (3, 101), (4, 0)] [0, 6, 0, 0, 18] _)
  refine su_iconst hC dL_law_1185 ⟨by decide, by decide⟩ (?_ : SdS X 1186 [(0, 6), (1, 18), (2, 20), (3, 101), (4, 0)] [0, 0, 6, 0, 0, 18] _)
  refine su_iadd hC dL_law_1186 (?_ : SdS X 1187 [(0, 6), (1, 18), (2, 20), (3, 101), (4, 0)] [0, 6, 0, 0, 18] _)
  refine su_sld hC hX dL_law_1187 (?_ : SdS X 1188 [(0, 6), (1, 18), (2, 20), (3, 101), (4, 0)] [0, 0, 0, 18] _)
  refine su_inv0 (τ := []) (τr := [0, 0, 0]) (ci := 8) (q := (RX8, TX8, 18)) hC WG (M_X8_ram _) rfl rfl rfl rfl  rfl rfl wl_5_1 wl_5_2 wl_5_3 wl_1_1 wl_5_4 hd_X8_ram (by rw [e3]; decide) (by decide) dL_law_1188 (?_ : SdS X 1191 [(0, 6), (1, 18), (2, 20), (3, 101), (4, 0)] [0] _)
  refine su_aload_n hC 20 dL_law_1191 rfl (by decide) (by decide) (?_ : SdS X 1192 [(0, 6), (1, 18), (2, 20), (3, 101), (4, 0)] [20, 0] _)
  refine su_aload_n hC 6 dL_law_1192 rfl (by decide) (by decide) (?_ : SdS X 1193 [(0, 6), (1, 18), (2, 20), (3, 101), (4, 0)] [6, 20, 0] _)
  refine su_iload hC dL_law_1193 (by decide) (?_ : SdS X 1195 [(0, 6), (1, 18), (2, 20), (3, 101), (4, 0)] [0, 6, 20, 0] _)
  refine su_iconst hC dL_law_1195 ⟨by decide, by decide⟩ (?_ : SdS X 1196 [(0, 6), (1, 18), (2, 20), (3, 101), (4, 0)] [0, 0, 6, 20, 0] _)
  refine su_iadd hC dL_law_1196 (?_ : SdS X 1197 [(0, 6), (1, 18), (2, 20), (3, 101), (4, 0)] [0, 6, 20, 0] _)
  refine su_sld hC hX dL_law_1197 (?_ : SdS X 1198 [(0, 6), (1, 18), (2, 20), (3, 101), (4, 0)] [0, 20, 0] _)
  refine su_aload_n hC 6 dL_law_1198 rfl (by decide) (by decide) (?_ : SdS X 1199 [(0, 6), (1, 18), (2, 20), (3, 101), (4, 0)] [6, 0, 20, 0] _)
  refine su_iload hC dL_law_1199 (by decide) (?_ : SdS X 1201 [(0, 6), (1, 18), (2, 20), (3, 101), (4, 0)] [0, 6, 0, 20, 0] _)
  refine su_iconst hC dL_law_1201 ⟨by decide, by decide⟩ (?_ : SdS X 1202 [(0, 6), (1, 18), (2, 20), (3, 101), (4, 0)] [0, 0, 6, 0, 20, 0] _)
  refine su_iadd hC dL_law_1202 (?_ : SdS X 1203 [(0, 6), (1, 18), (2, 20), (3, 101), (4, 0)] [0, 6, 0, 20, 0] _)
  refine su_sld hC hX dL_law_1203 (?_ : SdS X 1204 [(0, 6), (1, 18), (2, 20), (3, 101), (4, 0)] [0, 0, 20, 0] _)
  refine su_aload_n hC 6 dL_law_1204 rfl (by decide) (by decide) (?_ : SdS X 1205 [(0, 6), (1, 18), (2, 20), (3, 101), (4, 0)] [6, 0, 0, 20, 0] _)
  refine su_iload hC dL_law_1205 (by decide) (?_ : SdS X 1207 [(0, 6), (1, 18), (2, 20), (3, 101), (4, 0)] [0, 6, 0, 0, 20, 0] _)
  refine su_iconst hC dL_law_1207 ⟨by decide, by decide⟩ (?_ : SdS X 1208 [(0, 6), (1, 18), (2, 20), (3, 101), (4, 0)] [0, 0, 6, 0, 0, 20, 0] _)
  refine su_iadd hC dL_law_1208 (?_ : SdS X 1209 [(0, 6), (1, 18), (2, 20), (3, 101), (4, 0)] [0, 6, 0, 0, 20, 0] _)
  refine su_sld hC hX dL_law_1209 (?_ : SdS X 1210 [(0, 6), (1, 18), (2, 20), (3, 101), (4, 0)] [0, 0, 0, 20, 0] _)
  refine su_inv0 (τ := [0]) (τr := [0, 0, 0]) (ci := 10) (q := (RX10, TX10, 45)) hC WG (M_X10_ram _) rfl rfl rfl rfl  rfl rfl wl_8_130 wl_8_131 wl_8_132 wl_1_10 wl_8_133 hd_X10_ram (by rw [e3]; decide) (by decide) dL_law_1210 (?_ : SdS X 1213 [(0, 6), (1, 18), (2, 20), (3, 101), (4, 0)] [0, 0] _)
  refine su_icmp_eq (tgt := 1686) hC dL_law_1213 rfl (?_ : SdS X 1686 [(0, 6), (1, 18), (2, 20), (3, 101), (4, 0)] [] _) (?_ : SdS X 1216 [(0, 6), (1, 18), (2, 20), (3, 101), (4, 0)] [] _)
  · exact SdS.weak (by decide) (SL_1686 hC e2 e3 hX hT hled k23 h23)
  · refine su_iconst hC dL_law_1216 ⟨by decide, by decide⟩ (?_ : SdS X 1217 [(0, 6), (1, 18), (2, 20), (3, 101), (4, 0)] [0] _)
    exact su_lret hC hT dL_law_1217
set_option maxRecDepth 100000 in
set_option maxHeartbeats 4000000 in
theorem SL_1218 {X : CX} {sL : Nat} {sx : Nat → Int32} {Q : xQ} (hC : CF X cL_law RL WALL) (e2 : xn X = 7) (e3 : xR X = room_1) (hX : SX X sL sx) (hT : LT X Q) (hled : LH X) : ∀ (k23 : xK), SdS X 23 [(0, 6), (1, 18), (2, 20), (3, 101), (4, 0)] [] k23 → SdS X 1218 [(0, 6), (1, 18), (2, 20), (3, 101), (4, 0)] [] (B_L_law_1218 sL sx Q k23) := by
  intro k23 h23
  unfold B_L_law_1218
  refine su_aload_n hC 18 dL_law_1218 rfl (by decide) (by decide) (?_ : SdS X 1219 [(0, 6), (1, 18), (2, 20), (3, 101), (4, 0)] [18] _)
  refine su_aload_n hC 6 dL_law_1219 rfl (by decide) (by decide) (?_ : SdS X 1220 [(0, 6), (1, 18), (2, 20), (3, 101), (4, 0)] [6, 18] _)
  refine su_iload hC dL_law_1220 (by decide) (?_ : SdS X 1222 [(0, 6), (1, 18), (2, 20), (3, 101), (4, 0)] [0, 6, 18] _)
  refine su_iconst hC dL_law_1222 ⟨by decide, by decide⟩ (?_ : SdS X 1223 [(0, 6), (1, 18), (2, 20), (3, 101), (4, 0)] [0, 0, 6, 18] _)
  refine su_iadd hC dL_law_1223 (?_ : SdS X 1224 [(0, 6), (1, 18), (2, 20), (3, 101), (4, 0)] [0, 6, 18] _)
  refine su_sld hC hX dL_law_1224 (?_ : SdS X 1225 [(0, 6), (1, 18), (2, 20), (3, 101), (4, 0)] [0, 18] _)
  refine su_aload_n hC 6 dL_law_1225 rfl (by decide) (by decide) (?_ : SdS X 1226 [(0, 6), (1, 18), (2, 20), (3, 101), (4, 0)] [6, 0, 18] _)
  refine su_iload hC dL_law_1226 (by decide) (?_ : SdS X 1228 [(0, 6), (1, 18), (2, 20), (3, 101), (4, 0)] [0, 6, 0, 18] _)
  refine su_iconst hC dL_law_1228 ⟨by decide, by decide⟩ (?_ : SdS X 1229 [(0, 6), (1, 18), (2, 20), (3, 101), (4, 0)] [0, 0, 6, 0, 18] _)
  refine su_iadd hC dL_law_1229 (?_ : SdS X 1230 [(0, 6), (1, 18), (2, 20), (3, 101), (4, 0)] [0, 6, 0, 18] _)
  refine su_sld hC hX dL_law_1230 (?_ : SdS X 1231 [(0, 6), (1, 18), (2, 20), (3, 101), (4, 0)] [0, 0, 18] _)
  refine su_aload_n hC 6 dL_law_1231 rfl (by decide) (by decide) (?_ : SdS X 1232 [(0, 6), (1, 18), (2, 20), (3, 101), (4, 0)] [6, 0, 0, 18] _)
  refine su_iload hC dL_law_1232 (by decide) (?_ : SdS X 1234 [(0, 6), (1, 18), (2, 20), (3, 101), (4, 0)] [0, 6, 0, 0, 18] _)
  refine su_iconst hC dL_law_1234 ⟨by decide, by decide⟩ (?_ : SdS X 1235 [(0, 6), (1, 18), (2, 20), (3, 101), (4, 0)] [0, 0, 6, 0, 0, 18] _)
  refine su_iadd hC dL_law_1235 (?_ : SdS X 1236 [(0, 6), (1, 18), (2, 20), (3, 101), (4, 0)] [0, 6, 0, 0, 18] _)
  refine su_sld hC hX dL_law_1236 (?_ : SdS X 1237 [(0, 6), (1, 18), (2, 20), (3, 101), (4, 0)] [0, 0, 0, 18] _)
  refine su_aload_n hC 6 dL_law_1237 rfl (by decide) (by decide) (?_ : SdS X 1238 [(0, 6), (1, 18), (2, 20), (3, 101), (4, 0)] [6, 0, 0, 0, 18] _)
  refine su_iload hC dL_law_1238 (by decide) (?_ : SdS X 1240 [(0, 6), (1, 18), (2, 20), (3, 101), (4, 0)] [0, 6, 0, 0, 0, 18] _)
  refine su_iconst hC dL_law_1240 ⟨by decide, by decide⟩ (?_ : SdS X 1241 [(0, 6), (1, 18), (2, 20), (3, 101), (4, 0)] [0, 0, 6, 0, 0, 0, 18] _)
  refine su_iadd hC dL_law_1241 (?_ : SdS X 1242 [(0, 6), (1, 18), (2, 20), (3, 101), (4, 0)] [0, 6, 0, 0, 0, 18] _)
  refine su_sld hC hX dL_law_1242 (?_ : SdS X 1243 [(0, 6), (1, 18), (2, 20), (3, 101), (4, 0)] [0, 0, 0, 0, 18] _)
  refine su_aload_n hC 6 dL_law_1243 rfl (by decide) (by decide) (?_ : SdS X 1244 [(0, 6), (1, 18), (2, 20), (3, 101), (4, 0)] [6, 0, 0, 0, 0, 18] _)
  refine su_iload hC dL_law_1244 (by decide) (?_ : SdS X 1246 [(0, 6), (1, 18), (2, 20), (3, 101), (4, 0)] [0, 6, 0, 0, 0, 0, 18] _)
  refine su_iconst hC dL_law_1246 ⟨by decide, by decide⟩ (?_ : SdS X 1247 [(0, 6), (1, 18), (2, 20), (3, 101), (4, 0)] [0, 0, 6, 0, 0, 0, 0, 18] _)
  refine su_iadd hC dL_law_1247 (?_ : SdS X 1248 [(0, 6), (1, 18), (2, 20), (3, 101), (4, 0)] [0, 6, 0, 0, 0, 0, 18] _)
  refine su_sld hC hX dL_law_1248 (?_ : SdS X 1249 [(0, 6), (1, 18), (2, 20), (3, 101), (4, 0)] [0, 0, 0, 0, 0, 18] _)
  refine su_inv0 (τ := []) (τr := [0, 0, 0, 0, 0]) (ci := 8) (q := (RX8, TX8, 18)) hC WG (M_X8_ramBy _) rfl rfl rfl rfl  rfl rfl wl_5_6 wl_5_7 wl_5_8 wl_1_1 wl_5_9 hd_X8_ramBy (by rw [e3]; decide) (by decide) dL_law_1249 (?_ : SdS X 1252 [(0, 6), (1, 18), (2, 20), (3, 101), (4, 0)] [0] _)
  refine su_aload_n hC 20 dL_law_1252 rfl (by decide) (by decide) (?_ : SdS X 1253 [(0, 6), (1, 18), (2, 20), (3, 101), (4, 0)] [20, 0] _)
  refine su_aload_n hC 6 dL_law_1253 rfl (by decide) (by decide) (?_ : SdS X 1254 [(0, 6), (1, 18), (2, 20), (3, 101), (4, 0)] [6, 20, 0] _)
  refine su_iload hC dL_law_1254 (by decide) (?_ : SdS X 1256 [(0, 6), (1, 18), (2, 20), (3, 101), (4, 0)] [0, 6, 20, 0] _)
  refine su_iconst hC dL_law_1256 ⟨by decide, by decide⟩ (?_ : SdS X 1257 [(0, 6), (1, 18), (2, 20), (3, 101), (4, 0)] [0, 0, 6, 20, 0] _)
  refine su_iadd hC dL_law_1257 (?_ : SdS X 1258 [(0, 6), (1, 18), (2, 20), (3, 101), (4, 0)] [0, 6, 20, 0] _)
  refine su_sld hC hX dL_law_1258 (?_ : SdS X 1259 [(0, 6), (1, 18), (2, 20), (3, 101), (4, 0)] [0, 20, 0] _)
  refine su_aload_n hC 6 dL_law_1259 rfl (by decide) (by decide) (?_ : SdS X 1260 [(0, 6), (1, 18), (2, 20), (3, 101), (4, 0)] [6, 0, 20, 0] _)
  refine su_iload hC dL_law_1260 (by decide) (?_ : SdS X 1262 [(0, 6), (1, 18), (2, 20), (3, 101), (4, 0)] [0, 6, 0, 20, 0] _)
  refine su_iconst hC dL_law_1262 ⟨by decide, by decide⟩ (?_ : SdS X 1263 [(0, 6), (1, 18), (2, 20), (3, 101), (4, 0)] [0, 0, 6, 0, 20, 0] _)
  refine su_iadd hC dL_law_1263 (?_ : SdS X 1264 [(0, 6), (1, 18), (2, 20), (3, 101), (4, 0)] [0, 6, 0, 20, 0] _)
  refine su_sld hC hX dL_law_1264 (?_ : SdS X 1265 [(0, 6), (1, 18), (2, 20), (3, 101), (4, 0)] [0, 0, 20, 0] _)
  refine su_aload_n hC 6 dL_law_1265 rfl (by decide) (by decide) (?_ : SdS X 1266 [(0, 6), (1, 18), (2, 20), (3, 101), (4, 0)] [6, 0, 0, 20, 0] _)
  refine su_iload hC dL_law_1266 (by decide) (?_ : SdS X 1268 [(0, 6), (1, 18), (2, 20), (3, 101), (4, 0)] [0, 6, 0, 0, 20, 0] _)
  refine su_iconst hC dL_law_1268 ⟨by decide, by decide⟩ (?_ : SdS X 1269 [(0, 6), (1, 18), (2, 20), (3, 101), (4, 0)] [0, 0, 6, 0, 0, 20, 0] _)
  refine su_iadd hC dL_law_1269 (?_ : SdS X 1270 [(0, 6), (1, 18), (2, 20), (3, 101), (4, 0)] [0, 6, 0, 0, 20, 0] _)
  refine su_sld hC hX dL_law_1270 (?_ : SdS X 1271 [(0, 6), (1, 18), (2, 20), (3, 101), (4, 0)] [0, 0, 0, 20, 0] _)
  refine su_aload_n hC 6 dL_law_1271 rfl (by decide) (by decide) (?_ : SdS X 1272 [(0, 6), (1, 18), (2, 20), (3, 101), (4, 0)] [6, 0, 0, 0, 20, 0] _)
  refine su_iload hC dL_law_1272 (by decide) (?_ : SdS X 1274 [(0, 6), (1, 18), (2, 20), (3, 101), (4, 0)] [0, 6, 0, 0, 0, 20, 0] _)
  refine su_iconst hC dL_law_1274 ⟨by decide, by decide⟩ (?_ : SdS X 1275 [(0, 6), (1, 18), (2, 20), (3, 101), (4, 0)] [0, 0, 6, 0, 0, 0, 20, 0] _)
  refine su_iadd hC dL_law_1275 (?_ : SdS X 1276 [(0, 6), (1, 18), (2, 20), (3, 101), (4, 0)] [0, 6, 0, 0, 0, 20, 0] _)
  refine su_sld hC hX dL_law_1276 (?_ : SdS X 1277 [(0, 6), (1, 18), (2, 20), (3, 101), (4, 0)] [0, 0, 0, 0, 20, 0] _)
  refine su_aload_n hC 6 dL_law_1277 rfl (by decide) (by decide) (?_ : SdS X 1278 [(0, 6), (1, 18), (2, 20), (3, 101), (4, 0)] [6, 0, 0, 0, 0, 20, 0] _)
  refine su_iload hC dL_law_1278 (by decide) (?_ : SdS X 1280 [(0, 6), (1, 18), (2, 20), (3, 101), (4, 0)] [0, 6, 0, 0, 0, 0, 20, 0] _)
  refine su_iconst hC dL_law_1280 ⟨by decide, by decide⟩ (?_ : SdS X 1281 [(0, 6), (1, 18), (2, 20), (3, 101), (4, 0)] [0, 0, 6, 0, 0, 0, 0, 20, 0] _)
  refine su_iadd hC dL_law_1281 (?_ : SdS X 1282 [(0, 6), (1, 18), (2, 20), (3, 101), (4, 0)] [0, 6, 0, 0, 0, 0, 20, 0] _)
  refine su_sld hC hX dL_law_1282 (?_ : SdS X 1283 [(0, 6), (1, 18), (2, 20), (3, 101), (4, 0)] [0, 0, 0, 0, 0, 20, 0] _)
  refine su_inv0 (τ := [0]) (τr := [0, 0, 0, 0, 0]) (ci := 10) (q := (RX10, TX10, 45)) hC WG (M_X10_ramBy _) rfl rfl rfl rfl  rfl rfl wl_8_138 wl_8_139 wl_8_140 wl_1_10 wl_8_141 hd_X10_ramBy (by rw [e3]; decide) (by decide) dL_law_1283 (?_ : SdS X 1286 [(0, 6), (1, 18), (2, 20), (3, 101), (4, 0)] [0, 0] _)
  refine su_icmp_eq (tgt := 1686) hC dL_law_1286 rfl (?_ : SdS X 1686 [(0, 6), (1, 18), (2, 20), (3, 101), (4, 0)] [] _) (?_ : SdS X 1289 [(0, 6), (1, 18), (2, 20), (3, 101), (4, 0)] [] _)
  · exact SdS.weak (by decide) (SL_1686 hC e2 e3 hX hT hled k23 h23)
  · refine su_iconst hC dL_law_1289 ⟨by decide, by decide⟩ (?_ : SdS X 1290 [(0, 6), (1, 18), (2, 20), (3, 101), (4, 0)] [0] _)
    exact su_lret hC hT dL_law_1290
set_option maxRecDepth 100000 in
set_option maxHeartbeats 4000000 in
theorem SL_1291 {X : CX} {sL : Nat} {sx : Nat → Int32} {Q : xQ} (hC : CF X cL_law RL WALL) (e2 : xn X = 7) (e3 : xR X = room_1) (hX : SX X sL sx) (hT : LT X Q) (hled : LH X) : ∀ (k23 : xK), SdS X 23 [(0, 6), (1, 18), (2, 20), (3, 101), (4, 0)] [] k23 → SdS X 1291 [(0, 6), (1, 18), (2, 20), (3, 101), (4, 0)] [] (B_L_law_1291 sL sx Q k23) := by
  intro k23 h23
  unfold B_L_law_1291
  refine su_aload_n hC 18 dL_law_1291 rfl (by decide) (by decide) (?_ : SdS X 1292 [(0, 6), (1, 18), (2, 20), (3, 101), (4, 0)] [18] _)
  refine su_aload_n hC 6 dL_law_1292 rfl (by decide) (by decide) (?_ : SdS X 1293 [(0, 6), (1, 18), (2, 20), (3, 101), (4, 0)] [6, 18] _)
  refine su_iload hC dL_law_1293 (by decide) (?_ : SdS X 1295 [(0, 6), (1, 18), (2, 20), (3, 101), (4, 0)] [0, 6, 18] _)
  refine su_iconst hC dL_law_1295 ⟨by decide, by decide⟩ (?_ : SdS X 1296 [(0, 6), (1, 18), (2, 20), (3, 101), (4, 0)] [0, 0, 6, 18] _)
  refine su_iadd hC dL_law_1296 (?_ : SdS X 1297 [(0, 6), (1, 18), (2, 20), (3, 101), (4, 0)] [0, 6, 18] _)
  refine su_sld hC hX dL_law_1297 (?_ : SdS X 1298 [(0, 6), (1, 18), (2, 20), (3, 101), (4, 0)] [0, 18] _)
  refine su_inv0 (τ := []) (τr := [0]) (ci := 8) (q := (RX8, TX8, 18)) hC WG (M_X8_hold _) rfl rfl rfl rfl  rfl rfl wl_5_10 wl_5_11 wl_5_12 wl_1_1 wl_5_13 hd_X8_hold (by rw [e3]; decide) (by decide) dL_law_1298 (?_ : SdS X 1301 [(0, 6), (1, 18), (2, 20), (3, 101), (4, 0)] [0] _)
  refine su_aload_n hC 20 dL_law_1301 rfl (by decide) (by decide) (?_ : SdS X 1302 [(0, 6), (1, 18), (2, 20), (3, 101), (4, 0)] [20, 0] _)
  refine su_aload_n hC 6 dL_law_1302 rfl (by decide) (by decide) (?_ : SdS X 1303 [(0, 6), (1, 18), (2, 20), (3, 101), (4, 0)] [6, 20, 0] _)
  refine su_iload hC dL_law_1303 (by decide) (?_ : SdS X 1305 [(0, 6), (1, 18), (2, 20), (3, 101), (4, 0)] [0, 6, 20, 0] _)
  refine su_iconst hC dL_law_1305 ⟨by decide, by decide⟩ (?_ : SdS X 1306 [(0, 6), (1, 18), (2, 20), (3, 101), (4, 0)] [0, 0, 6, 20, 0] _)
  refine su_iadd hC dL_law_1306 (?_ : SdS X 1307 [(0, 6), (1, 18), (2, 20), (3, 101), (4, 0)] [0, 6, 20, 0] _)
  refine su_sld hC hX dL_law_1307 (?_ : SdS X 1308 [(0, 6), (1, 18), (2, 20), (3, 101), (4, 0)] [0, 20, 0] _)
  refine su_inv0 (τ := [0]) (τr := [0]) (ci := 10) (q := (RX10, TX10, 45)) hC WG (M_X10_hold _) rfl rfl rfl rfl  rfl rfl wl_8_142 wl_8_143 wl_8_144 wl_1_10 wl_8_145 hd_X10_hold (by rw [e3]; decide) (by decide) dL_law_1308 (?_ : SdS X 1311 [(0, 6), (1, 18), (2, 20), (3, 101), (4, 0)] [0, 0] _)
  refine su_icmp_eq (tgt := 1686) hC dL_law_1311 rfl (?_ : SdS X 1686 [(0, 6), (1, 18), (2, 20), (3, 101), (4, 0)] [] _) (?_ : SdS X 1314 [(0, 6), (1, 18), (2, 20), (3, 101), (4, 0)] [] _)
  · exact SdS.weak (by decide) (SL_1686 hC e2 e3 hX hT hled k23 h23)
  · refine su_iconst hC dL_law_1314 ⟨by decide, by decide⟩ (?_ : SdS X 1315 [(0, 6), (1, 18), (2, 20), (3, 101), (4, 0)] [0] _)
    exact su_lret hC hT dL_law_1315
set_option maxRecDepth 100000 in
set_option maxHeartbeats 4000000 in
theorem SL_1316 {X : CX} {sL : Nat} {sx : Nat → Int32} {Q : xQ} (hC : CF X cL_law RL WALL) (e2 : xn X = 7) (e3 : xR X = room_1) (hX : SX X sL sx) (hT : LT X Q) (hled : LH X) : ∀ (k23 : xK), SdS X 23 [(0, 6), (1, 18), (2, 20), (3, 101), (4, 0)] [] k23 → SdS X 1316 [(0, 6), (1, 18), (2, 20), (3, 101), (4, 0)] [] (B_L_law_1316 sL sx Q k23) := by
  intro k23 h23
  unfold B_L_law_1316
  refine su_aload_n hC 18 dL_law_1316 rfl (by decide) (by decide) (?_ : SdS X 1317 [(0, 6), (1, 18), (2, 20), (3, 101), (4, 0)] [18] _)
  refine su_inv0 (τ := []) (τr := []) (ci := 8) (q := (RX8, TX8, 18)) hC WG (M_X8_stand _) rfl rfl rfl rfl  rfl rfl wl_5_18 wl_5_19 wl_5_20 wl_1_1 wl_5_21 hd_X8_stand (by rw [e3]; decide) (by decide) dL_law_1317 (?_ : SdS X 1320 [(0, 6), (1, 18), (2, 20), (3, 101), (4, 0)] [0] _)
  refine su_aload_n hC 20 dL_law_1320 rfl (by decide) (by decide) (?_ : SdS X 1321 [(0, 6), (1, 18), (2, 20), (3, 101), (4, 0)] [20, 0] _)
  refine su_inv0 (τ := [0]) (τr := []) (ci := 10) (q := (RX10, TX10, 45)) hC WG (M_X10_stand _) rfl rfl rfl rfl  rfl rfl wl_8_150 wl_8_151 wl_8_152 wl_1_10 wl_8_153 hd_X10_stand (by rw [e3]; decide) (by decide) dL_law_1321 (?_ : SdS X 1324 [(0, 6), (1, 18), (2, 20), (3, 101), (4, 0)] [0, 0] _)
  refine su_icmp_eq (tgt := 1686) hC dL_law_1324 rfl (?_ : SdS X 1686 [(0, 6), (1, 18), (2, 20), (3, 101), (4, 0)] [] _) (?_ : SdS X 1327 [(0, 6), (1, 18), (2, 20), (3, 101), (4, 0)] [] _)
  · exact SdS.weak (by decide) (SL_1686 hC e2 e3 hX hT hled k23 h23)
  · refine su_iconst hC dL_law_1327 ⟨by decide, by decide⟩ (?_ : SdS X 1328 [(0, 6), (1, 18), (2, 20), (3, 101), (4, 0)] [0] _)
    exact su_lret hC hT dL_law_1328
set_option maxRecDepth 100000 in
set_option maxHeartbeats 4000000 in
theorem SL_1410 {X : CX} {sL : Nat} {sx : Nat → Int32} {Q : xQ} (hC : CF X cL_law RL WALL) (e2 : xn X = 7) (e3 : xR X = room_1) (hX : SX X sL sx) (hT : LT X Q) (hled : LH X) : ∀ (k23 : xK), SdS X 23 [(0, 6), (1, 18), (2, 20), (3, 101), (4, 0)] [] k23 → SdS X 1410 [(0, 6), (1, 18), (2, 20), (3, 101), (4, 0)] [0, 0, 0, 0, 0, 20, 0] (B_L_law_1410 sL sx Q k23) := by
  intro k23 h23
  unfold B_L_law_1410
  refine su_inv0 (τ := [0]) (τr := [0, 0, 0, 0, 0]) (ci := 10) (q := (RX10, TX10, 45)) hC WG (M_X10_theft _) rfl rfl rfl rfl  rfl rfl wl_8_154 wl_8_155 wl_8_156 wl_1_10 wl_8_157 hd_X10_theft (by rw [e3]; decide) (by decide) dL_law_1410 (?_ : SdS X 1413 [(0, 6), (1, 18), (2, 20), (3, 101), (4, 0)] [0, 0] _)
  refine su_icmp_eq (tgt := 1686) hC dL_law_1413 rfl (?_ : SdS X 1686 [(0, 6), (1, 18), (2, 20), (3, 101), (4, 0)] [] _) (?_ : SdS X 1416 [(0, 6), (1, 18), (2, 20), (3, 101), (4, 0)] [] _)
  · exact SdS.weak (by decide) (SL_1686 hC e2 e3 hX hT hled k23 h23)
  · refine su_iconst hC dL_law_1416 ⟨by decide, by decide⟩ (?_ : SdS X 1417 [(0, 6), (1, 18), (2, 20), (3, 101), (4, 0)] [0] _)
    exact su_lret hC hT dL_law_1417
set_option maxRecDepth 100000 in
set_option maxHeartbeats 4000000 in
theorem SL_1368 {X : CX} {sL : Nat} {sx : Nat → Int32} {Q : xQ} (hC : CF X cL_law RL WALL) (e2 : xn X = 7) (e3 : xR X = room_1) (hX : SX X sL sx) (hT : LT X Q) (hled : LH X) : ∀ (k23 : xK), SdS X 23 [(0, 6), (1, 18), (2, 20), (3, 101), (4, 0)] [] k23 → SdS X 1368 [(0, 6), (1, 18), (2, 20), (3, 101), (4, 0)] [0, 0, 0, 0, 0, 18] (B_L_law_1368 sL sx Q k23) := by
  intro k23 h23
  unfold B_L_law_1368
  refine su_inv0 (τ := []) (τr := [0, 0, 0, 0, 0]) (ci := 8) (q := (RX8, TX8, 18)) hC WG (M_X8_theft _) rfl rfl rfl rfl  rfl rfl wl_5_22 wl_5_23 wl_5_24 wl_1_1 wl_5_25 hd_X8_theft (by rw [e3]; decide) (by decide) dL_law_1368 (?_ : SdS X 1371 [(0, 6), (1, 18), (2, 20), (3, 101), (4, 0)] [0] _)
  refine su_aload_n hC 20 dL_law_1371 rfl (by decide) (by decide) (?_ : SdS X 1372 [(0, 6), (1, 18), (2, 20), (3, 101), (4, 0)] [20, 0] _)
  refine su_aload_n hC 6 dL_law_1372 rfl (by decide) (by decide) (?_ : SdS X 1373 [(0, 6), (1, 18), (2, 20), (3, 101), (4, 0)] [6, 20, 0] _)
  refine su_iload hC dL_law_1373 (by decide) (?_ : SdS X 1375 [(0, 6), (1, 18), (2, 20), (3, 101), (4, 0)] [0, 6, 20, 0] _)
  refine su_iconst hC dL_law_1375 ⟨by decide, by decide⟩ (?_ : SdS X 1376 [(0, 6), (1, 18), (2, 20), (3, 101), (4, 0)] [0, 0, 6, 20, 0] _)
  refine su_iadd hC dL_law_1376 (?_ : SdS X 1377 [(0, 6), (1, 18), (2, 20), (3, 101), (4, 0)] [0, 6, 20, 0] _)
  refine su_sld hC hX dL_law_1377 (?_ : SdS X 1378 [(0, 6), (1, 18), (2, 20), (3, 101), (4, 0)] [0, 20, 0] _)
  refine su_aload_n hC 6 dL_law_1378 rfl (by decide) (by decide) (?_ : SdS X 1379 [(0, 6), (1, 18), (2, 20), (3, 101), (4, 0)] [6, 0, 20, 0] _)
  refine su_iload hC dL_law_1379 (by decide) (?_ : SdS X 1381 [(0, 6), (1, 18), (2, 20), (3, 101), (4, 0)] [0, 6, 0, 20, 0] _)
  refine su_iconst hC dL_law_1381 ⟨by decide, by decide⟩ (?_ : SdS X 1382 [(0, 6), (1, 18), (2, 20), (3, 101), (4, 0)] [0, 0, 6, 0, 20, 0] _)
  refine su_iadd hC dL_law_1382 (?_ : SdS X 1383 [(0, 6), (1, 18), (2, 20), (3, 101), (4, 0)] [0, 6, 0, 20, 0] _)
  refine su_sld hC hX dL_law_1383 (?_ : SdS X 1384 [(0, 6), (1, 18), (2, 20), (3, 101), (4, 0)] [0, 0, 20, 0] _)
  refine su_aload_n hC 6 dL_law_1384 rfl (by decide) (by decide) (?_ : SdS X 1385 [(0, 6), (1, 18), (2, 20), (3, 101), (4, 0)] [6, 0, 0, 20, 0] _)
  refine su_iload hC dL_law_1385 (by decide) (?_ : SdS X 1387 [(0, 6), (1, 18), (2, 20), (3, 101), (4, 0)] [0, 6, 0, 0, 20, 0] _)
  refine su_iconst hC dL_law_1387 ⟨by decide, by decide⟩ (?_ : SdS X 1388 [(0, 6), (1, 18), (2, 20), (3, 101), (4, 0)] [0, 0, 6, 0, 0, 20, 0] _)
  refine su_iadd hC dL_law_1388 (?_ : SdS X 1389 [(0, 6), (1, 18), (2, 20), (3, 101), (4, 0)] [0, 6, 0, 0, 20, 0] _)
  refine su_sld hC hX dL_law_1389 (?_ : SdS X 1390 [(0, 6), (1, 18), (2, 20), (3, 101), (4, 0)] [0, 0, 0, 20, 0] _)
  refine su_aload_n hC 6 dL_law_1390 rfl (by decide) (by decide) (?_ : SdS X 1391 [(0, 6), (1, 18), (2, 20), (3, 101), (4, 0)] [6, 0, 0, 0, 20, 0] _)
  refine su_iload hC dL_law_1391 (by decide) (?_ : SdS X 1393 [(0, 6), (1, 18), (2, 20), (3, 101), (4, 0)] [0, 6, 0, 0, 0, 20, 0] _)
  refine su_iconst hC dL_law_1393 ⟨by decide, by decide⟩ (?_ : SdS X 1394 [(0, 6), (1, 18), (2, 20), (3, 101), (4, 0)] [0, 0, 6, 0, 0, 0, 20, 0] _)
  refine su_iadd hC dL_law_1394 (?_ : SdS X 1395 [(0, 6), (1, 18), (2, 20), (3, 101), (4, 0)] [0, 6, 0, 0, 0, 20, 0] _)
  refine su_sld hC hX dL_law_1395 (?_ : SdS X 1396 [(0, 6), (1, 18), (2, 20), (3, 101), (4, 0)] [0, 0, 0, 0, 20, 0] _)
  refine su_aload_n hC 6 dL_law_1396 rfl (by decide) (by decide) (?_ : SdS X 1397 [(0, 6), (1, 18), (2, 20), (3, 101), (4, 0)] [6, 0, 0, 0, 0, 20, 0] _)
  refine su_iload hC dL_law_1397 (by decide) (?_ : SdS X 1399 [(0, 6), (1, 18), (2, 20), (3, 101), (4, 0)] [0, 6, 0, 0, 0, 0, 20, 0] _)
  refine su_iconst hC dL_law_1399 ⟨by decide, by decide⟩ (?_ : SdS X 1400 [(0, 6), (1, 18), (2, 20), (3, 101), (4, 0)] [0, 0, 6, 0, 0, 0, 0, 20, 0] _)
  refine su_iadd hC dL_law_1400 (?_ : SdS X 1401 [(0, 6), (1, 18), (2, 20), (3, 101), (4, 0)] [0, 6, 0, 0, 0, 0, 20, 0] _)
  refine su_sld hC hX dL_law_1401 (?_ : SdS X 1402 [(0, 6), (1, 18), (2, 20), (3, 101), (4, 0)] [0, 0, 0, 0, 0, 20, 0] _)
  refine su_if_eq (tgt := 1409) hC dL_law_1402 rfl (?_ : SdS X 1409 [(0, 6), (1, 18), (2, 20), (3, 101), (4, 0)] [0, 0, 0, 0, 20, 0] _) (?_ : SdS X 1405 [(0, 6), (1, 18), (2, 20), (3, 101), (4, 0)] [0, 0, 0, 0, 20, 0] _)
  · refine su_iconst hC dL_law_1409 ⟨by decide, by decide⟩ (?_ : SdS X 1410 [(0, 6), (1, 18), (2, 20), (3, 101), (4, 0)] [0, 0, 0, 0, 0, 20, 0] _)
    exact SdS.weak (by decide) (SL_1410 hC e2 e3 hX hT hled k23 h23)
  · refine su_iconst hC dL_law_1405 ⟨by decide, by decide⟩ (?_ : SdS X 1406 [(0, 6), (1, 18), (2, 20), (3, 101), (4, 0)] [0, 0, 0, 0, 0, 20, 0] _)
    refine su_goto (tgt := 1410) hC dL_law_1406 rfl (?_ : SdS X 1410 [(0, 6), (1, 18), (2, 20), (3, 101), (4, 0)] [0, 0, 0, 0, 0, 20, 0] _)
    exact SdS.weak (by decide) (SL_1410 hC e2 e3 hX hT hled k23 h23)
set_option maxRecDepth 100000 in
set_option maxHeartbeats 4000000 in
theorem SL_1329 {X : CX} {sL : Nat} {sx : Nat → Int32} {Q : xQ} (hC : CF X cL_law RL WALL) (e2 : xn X = 7) (e3 : xR X = room_1) (hX : SX X sL sx) (hT : LT X Q) (hled : LH X) : ∀ (k23 : xK), SdS X 23 [(0, 6), (1, 18), (2, 20), (3, 101), (4, 0)] [] k23 → SdS X 1329 [(0, 6), (1, 18), (2, 20), (3, 101), (4, 0)] [] (B_L_law_1329 sL sx Q k23) := by
  intro k23 h23
  unfold B_L_law_1329
  refine su_aload_n hC 18 dL_law_1329 rfl (by decide) (by decide) (?_ : SdS X 1330 [(0, 6), (1, 18), (2, 20), (3, 101), (4, 0)] [18] _)
  refine su_aload_n hC 6 dL_law_1330 rfl (by decide) (by decide) (?_ : SdS X 1331 [(0, 6), (1, 18), (2, 20), (3, 101), (4, 0)] [6, 18] _)
  refine su_iload hC dL_law_1331 (by decide) (?_ : SdS X 1333 [(0, 6), (1, 18), (2, 20), (3, 101), (4, 0)] [0, 6, 18] _)
  refine su_iconst hC dL_law_1333 ⟨by decide, by decide⟩ (?_ : SdS X 1334 [(0, 6), (1, 18), (2, 20), (3, 101), (4, 0)] [0, 0, 6, 18] _)
  refine su_iadd hC dL_law_1334 (?_ : SdS X 1335 [(0, 6), (1, 18), (2, 20), (3, 101), (4, 0)] [0, 6, 18] _)
  refine su_sld hC hX dL_law_1335 (?_ : SdS X 1336 [(0, 6), (1, 18), (2, 20), (3, 101), (4, 0)] [0, 18] _)
  refine su_aload_n hC 6 dL_law_1336 rfl (by decide) (by decide) (?_ : SdS X 1337 [(0, 6), (1, 18), (2, 20), (3, 101), (4, 0)] [6, 0, 18] _)
  refine su_iload hC dL_law_1337 (by decide) (?_ : SdS X 1339 [(0, 6), (1, 18), (2, 20), (3, 101), (4, 0)] [0, 6, 0, 18] _)
  refine su_iconst hC dL_law_1339 ⟨by decide, by decide⟩ (?_ : SdS X 1340 [(0, 6), (1, 18), (2, 20), (3, 101), (4, 0)] [0, 0, 6, 0, 18] _)
  refine su_iadd hC dL_law_1340 (?_ : SdS X 1341 [(0, 6), (1, 18), (2, 20), (3, 101), (4, 0)] [0, 6, 0, 18] _)
  refine su_sld hC hX dL_law_1341 (?_ : SdS X 1342 [(0, 6), (1, 18), (2, 20), (3, 101), (4, 0)] [0, 0, 18] _)
  refine su_aload_n hC 6 dL_law_1342 rfl (by decide) (by decide) (?_ : SdS X 1343 [(0, 6), (1, 18), (2, 20), (3, 101), (4, 0)] [6, 0, 0, 18] _)
  refine su_iload hC dL_law_1343 (by decide) (?_ : SdS X 1345 [(0, 6), (1, 18), (2, 20), (3, 101), (4, 0)] [0, 6, 0, 0, 18] _)
  refine su_iconst hC dL_law_1345 ⟨by decide, by decide⟩ (?_ : SdS X 1346 [(0, 6), (1, 18), (2, 20), (3, 101), (4, 0)] [0, 0, 6, 0, 0, 18] _)
  refine su_iadd hC dL_law_1346 (?_ : SdS X 1347 [(0, 6), (1, 18), (2, 20), (3, 101), (4, 0)] [0, 6, 0, 0, 18] _)
  refine su_sld hC hX dL_law_1347 (?_ : SdS X 1348 [(0, 6), (1, 18), (2, 20), (3, 101), (4, 0)] [0, 0, 0, 18] _)
  refine su_aload_n hC 6 dL_law_1348 rfl (by decide) (by decide) (?_ : SdS X 1349 [(0, 6), (1, 18), (2, 20), (3, 101), (4, 0)] [6, 0, 0, 0, 18] _)
  refine su_iload hC dL_law_1349 (by decide) (?_ : SdS X 1351 [(0, 6), (1, 18), (2, 20), (3, 101), (4, 0)] [0, 6, 0, 0, 0, 18] _)
  refine su_iconst hC dL_law_1351 ⟨by decide, by decide⟩ (?_ : SdS X 1352 [(0, 6), (1, 18), (2, 20), (3, 101), (4, 0)] [0, 0, 6, 0, 0, 0, 18] _)
  refine su_iadd hC dL_law_1352 (?_ : SdS X 1353 [(0, 6), (1, 18), (2, 20), (3, 101), (4, 0)] [0, 6, 0, 0, 0, 18] _)
  refine su_sld hC hX dL_law_1353 (?_ : SdS X 1354 [(0, 6), (1, 18), (2, 20), (3, 101), (4, 0)] [0, 0, 0, 0, 18] _)
  refine su_aload_n hC 6 dL_law_1354 rfl (by decide) (by decide) (?_ : SdS X 1355 [(0, 6), (1, 18), (2, 20), (3, 101), (4, 0)] [6, 0, 0, 0, 0, 18] _)
  refine su_iload hC dL_law_1355 (by decide) (?_ : SdS X 1357 [(0, 6), (1, 18), (2, 20), (3, 101), (4, 0)] [0, 6, 0, 0, 0, 0, 18] _)
  refine su_iconst hC dL_law_1357 ⟨by decide, by decide⟩ (?_ : SdS X 1358 [(0, 6), (1, 18), (2, 20), (3, 101), (4, 0)] [0, 0, 6, 0, 0, 0, 0, 18] _)
  refine su_iadd hC dL_law_1358 (?_ : SdS X 1359 [(0, 6), (1, 18), (2, 20), (3, 101), (4, 0)] [0, 6, 0, 0, 0, 0, 18] _)
  refine su_sld hC hX dL_law_1359 (?_ : SdS X 1360 [(0, 6), (1, 18), (2, 20), (3, 101), (4, 0)] [0, 0, 0, 0, 0, 18] _)
  refine su_if_eq (tgt := 1367) hC dL_law_1360 rfl (?_ : SdS X 1367 [(0, 6), (1, 18), (2, 20), (3, 101), (4, 0)] [0, 0, 0, 0, 18] _) (?_ : SdS X 1363 [(0, 6), (1, 18), (2, 20), (3, 101), (4, 0)] [0, 0, 0, 0, 18] _)
  · refine su_iconst hC dL_law_1367 ⟨by decide, by decide⟩ (?_ : SdS X 1368 [(0, 6), (1, 18), (2, 20), (3, 101), (4, 0)] [0, 0, 0, 0, 0, 18] _)
    exact SdS.weak (by decide) (SL_1368 hC e2 e3 hX hT hled k23 h23)
  · refine su_iconst hC dL_law_1363 ⟨by decide, by decide⟩ (?_ : SdS X 1364 [(0, 6), (1, 18), (2, 20), (3, 101), (4, 0)] [0, 0, 0, 0, 0, 18] _)
    refine su_goto (tgt := 1368) hC dL_law_1364 rfl (?_ : SdS X 1368 [(0, 6), (1, 18), (2, 20), (3, 101), (4, 0)] [0, 0, 0, 0, 0, 18] _)
    exact SdS.weak (by decide) (SL_1368 hC e2 e3 hX hT hled k23 h23)
set_option maxRecDepth 100000 in
set_option maxHeartbeats 4000000 in
theorem SL_1418 {X : CX} {sL : Nat} {sx : Nat → Int32} {Q : xQ} (hC : CF X cL_law RL WALL) (e2 : xn X = 7) (e3 : xR X = room_1) (hX : SX X sL sx) (hT : LT X Q) (hled : LH X) : ∀ (k23 : xK), SdS X 23 [(0, 6), (1, 18), (2, 20), (3, 101), (4, 0)] [] k23 → SdS X 1418 [(0, 6), (1, 18), (2, 20), (3, 101), (4, 0)] [] (B_L_law_1418 sL sx Q k23) := by
  intro k23 h23
  unfold B_L_law_1418
  refine su_aload_n hC 18 dL_law_1418 rfl (by decide) (by decide) (?_ : SdS X 1419 [(0, 6), (1, 18), (2, 20), (3, 101), (4, 0)] [18] _)
  refine su_aload_n hC 6 dL_law_1419 rfl (by decide) (by decide) (?_ : SdS X 1420 [(0, 6), (1, 18), (2, 20), (3, 101), (4, 0)] [6, 18] _)
  refine su_iload hC dL_law_1420 (by decide) (?_ : SdS X 1422 [(0, 6), (1, 18), (2, 20), (3, 101), (4, 0)] [0, 6, 18] _)
  refine su_iconst hC dL_law_1422 ⟨by decide, by decide⟩ (?_ : SdS X 1423 [(0, 6), (1, 18), (2, 20), (3, 101), (4, 0)] [0, 0, 6, 18] _)
  refine su_iadd hC dL_law_1423 (?_ : SdS X 1424 [(0, 6), (1, 18), (2, 20), (3, 101), (4, 0)] [0, 6, 18] _)
  refine su_sld hC hX dL_law_1424 (?_ : SdS X 1425 [(0, 6), (1, 18), (2, 20), (3, 101), (4, 0)] [0, 18] _)
  refine su_aload_n hC 6 dL_law_1425 rfl (by decide) (by decide) (?_ : SdS X 1426 [(0, 6), (1, 18), (2, 20), (3, 101), (4, 0)] [6, 0, 18] _)
  refine su_iload hC dL_law_1426 (by decide) (?_ : SdS X 1428 [(0, 6), (1, 18), (2, 20), (3, 101), (4, 0)] [0, 6, 0, 18] _)
  refine su_iconst hC dL_law_1428 ⟨by decide, by decide⟩ (?_ : SdS X 1429 [(0, 6), (1, 18), (2, 20), (3, 101), (4, 0)] [0, 0, 6, 0, 18] _)
  refine su_iadd hC dL_law_1429 (?_ : SdS X 1430 [(0, 6), (1, 18), (2, 20), (3, 101), (4, 0)] [0, 6, 0, 18] _)
  refine su_sld hC hX dL_law_1430 (?_ : SdS X 1431 [(0, 6), (1, 18), (2, 20), (3, 101), (4, 0)] [0, 0, 18] _)
  refine su_aload_n hC 6 dL_law_1431 rfl (by decide) (by decide) (?_ : SdS X 1432 [(0, 6), (1, 18), (2, 20), (3, 101), (4, 0)] [6, 0, 0, 18] _)
  refine su_iload hC dL_law_1432 (by decide) (?_ : SdS X 1434 [(0, 6), (1, 18), (2, 20), (3, 101), (4, 0)] [0, 6, 0, 0, 18] _)
  refine su_iconst hC dL_law_1434 ⟨by decide, by decide⟩ (?_ : SdS X 1435 [(0, 6), (1, 18), (2, 20), (3, 101), (4, 0)] [0, 0, 6, 0, 0, 18] _)
  refine su_iadd hC dL_law_1435 (?_ : SdS X 1436 [(0, 6), (1, 18), (2, 20), (3, 101), (4, 0)] [0, 6, 0, 0, 18] _)
  refine su_sld hC hX dL_law_1436 (?_ : SdS X 1437 [(0, 6), (1, 18), (2, 20), (3, 101), (4, 0)] [0, 0, 0, 18] _)
  refine su_inv0 (τ := []) (τr := [0, 0, 0]) (ci := 8) (q := (RX8, TX8, 18)) hC WG (M_X8_widen _) rfl rfl rfl rfl  rfl rfl wl_5_52 wl_5_53 wl_5_54 wl_1_1 wl_5_55 hd_X8_widen (by rw [e3]; decide) (by decide) dL_law_1437 (?_ : SdS X 1440 [(0, 6), (1, 18), (2, 20), (3, 101), (4, 0)] [0] _)
  refine su_aload_n hC 20 dL_law_1440 rfl (by decide) (by decide) (?_ : SdS X 1441 [(0, 6), (1, 18), (2, 20), (3, 101), (4, 0)] [20, 0] _)
  refine su_aload_n hC 6 dL_law_1441 rfl (by decide) (by decide) (?_ : SdS X 1442 [(0, 6), (1, 18), (2, 20), (3, 101), (4, 0)] [6, 20, 0] _)
  refine su_iload hC dL_law_1442 (by decide) (?_ : SdS X 1444 [(0, 6), (1, 18), (2, 20), (3, 101), (4, 0)] [0, 6, 20, 0] _)
  refine su_iconst hC dL_law_1444 ⟨by decide, by decide⟩ (?_ : SdS X 1445 [(0, 6), (1, 18), (2, 20), (3, 101), (4, 0)] [0, 0, 6, 20, 0] _)
  refine su_iadd hC dL_law_1445 (?_ : SdS X 1446 [(0, 6), (1, 18), (2, 20), (3, 101), (4, 0)] [0, 6, 20, 0] _)
  refine su_sld hC hX dL_law_1446 (?_ : SdS X 1447 [(0, 6), (1, 18), (2, 20), (3, 101), (4, 0)] [0, 20, 0] _)
  refine su_aload_n hC 6 dL_law_1447 rfl (by decide) (by decide) (?_ : SdS X 1448 [(0, 6), (1, 18), (2, 20), (3, 101), (4, 0)] [6, 0, 20, 0] _)
  refine su_iload hC dL_law_1448 (by decide) (?_ : SdS X 1450 [(0, 6), (1, 18), (2, 20), (3, 101), (4, 0)] [0, 6, 0, 20, 0] _)
  refine su_iconst hC dL_law_1450 ⟨by decide, by decide⟩ (?_ : SdS X 1451 [(0, 6), (1, 18), (2, 20), (3, 101), (4, 0)] [0, 0, 6, 0, 20, 0] _)
  refine su_iadd hC dL_law_1451 (?_ : SdS X 1452 [(0, 6), (1, 18), (2, 20), (3, 101), (4, 0)] [0, 6, 0, 20, 0] _)
  refine su_sld hC hX dL_law_1452 (?_ : SdS X 1453 [(0, 6), (1, 18), (2, 20), (3, 101), (4, 0)] [0, 0, 20, 0] _)
  refine su_aload_n hC 6 dL_law_1453 rfl (by decide) (by decide) (?_ : SdS X 1454 [(0, 6), (1, 18), (2, 20), (3, 101), (4, 0)] [6, 0, 0, 20, 0] _)
  refine su_iload hC dL_law_1454 (by decide) (?_ : SdS X 1456 [(0, 6), (1, 18), (2, 20), (3, 101), (4, 0)] [0, 6, 0, 0, 20, 0] _)
  refine su_iconst hC dL_law_1456 ⟨by decide, by decide⟩ (?_ : SdS X 1457 [(0, 6), (1, 18), (2, 20), (3, 101), (4, 0)] [0, 0, 6, 0, 0, 20, 0] _)
  refine su_iadd hC dL_law_1457 (?_ : SdS X 1458 [(0, 6), (1, 18), (2, 20), (3, 101), (4, 0)] [0, 6, 0, 0, 20, 0] _)
  refine su_sld hC hX dL_law_1458 (?_ : SdS X 1459 [(0, 6), (1, 18), (2, 20), (3, 101), (4, 0)] [0, 0, 0, 20, 0] _)
  refine su_inv0 (τ := [0]) (τr := [0, 0, 0]) (ci := 10) (q := (RX10, TX10, 45)) hC WG (M_X10_widen _) rfl rfl rfl rfl  rfl rfl wl_8_166 wl_8_167 wl_8_168 wl_1_10 wl_8_169 hd_X10_widen (by rw [e3]; decide) (by decide) dL_law_1459 (?_ : SdS X 1462 [(0, 6), (1, 18), (2, 20), (3, 101), (4, 0)] [0, 0] _)
  refine su_icmp_eq (tgt := 1686) hC dL_law_1462 rfl (?_ : SdS X 1686 [(0, 6), (1, 18), (2, 20), (3, 101), (4, 0)] [] _) (?_ : SdS X 1465 [(0, 6), (1, 18), (2, 20), (3, 101), (4, 0)] [] _)
  · exact SdS.weak (by decide) (SL_1686 hC e2 e3 hX hT hled k23 h23)
  · refine su_iconst hC dL_law_1465 ⟨by decide, by decide⟩ (?_ : SdS X 1466 [(0, 6), (1, 18), (2, 20), (3, 101), (4, 0)] [0] _)
    exact su_lret hC hT dL_law_1466
set_option maxRecDepth 100000 in
set_option maxHeartbeats 4000000 in
theorem SL_1467 {X : CX} {sL : Nat} {sx : Nat → Int32} {Q : xQ} (hC : CF X cL_law RL WALL) (e2 : xn X = 7) (e3 : xR X = room_1) (hX : SX X sL sx) (hT : LT X Q) (hled : LH X) : ∀ (k23 : xK), SdS X 23 [(0, 6), (1, 18), (2, 20), (3, 101), (4, 0)] [] k23 → SdS X 1467 [(0, 6), (1, 18), (2, 20), (3, 101), (4, 0)] [] (B_L_law_1467 sL sx Q k23) := by
  intro k23 h23
  unfold B_L_law_1467
  refine su_aload_n hC 18 dL_law_1467 rfl (by decide) (by decide) (?_ : SdS X 1468 [(0, 6), (1, 18), (2, 20), (3, 101), (4, 0)] [18] _)
  refine su_aload_n hC 6 dL_law_1468 rfl (by decide) (by decide) (?_ : SdS X 1469 [(0, 6), (1, 18), (2, 20), (3, 101), (4, 0)] [6, 18] _)
  refine su_iload hC dL_law_1469 (by decide) (?_ : SdS X 1471 [(0, 6), (1, 18), (2, 20), (3, 101), (4, 0)] [0, 6, 18] _)
  refine su_iconst hC dL_law_1471 ⟨by decide, by decide⟩ (?_ : SdS X 1472 [(0, 6), (1, 18), (2, 20), (3, 101), (4, 0)] [0, 0, 6, 18] _)
  refine su_iadd hC dL_law_1472 (?_ : SdS X 1473 [(0, 6), (1, 18), (2, 20), (3, 101), (4, 0)] [0, 6, 18] _)
  refine su_sld hC hX dL_law_1473 (?_ : SdS X 1474 [(0, 6), (1, 18), (2, 20), (3, 101), (4, 0)] [0, 18] _)
  refine su_aload_n hC 6 dL_law_1474 rfl (by decide) (by decide) (?_ : SdS X 1475 [(0, 6), (1, 18), (2, 20), (3, 101), (4, 0)] [6, 0, 18] _)
  refine su_iload hC dL_law_1475 (by decide) (?_ : SdS X 1477 [(0, 6), (1, 18), (2, 20), (3, 101), (4, 0)] [0, 6, 0, 18] _)
  refine su_iconst hC dL_law_1477 ⟨by decide, by decide⟩ (?_ : SdS X 1478 [(0, 6), (1, 18), (2, 20), (3, 101), (4, 0)] [0, 0, 6, 0, 18] _)
  refine su_iadd hC dL_law_1478 (?_ : SdS X 1479 [(0, 6), (1, 18), (2, 20), (3, 101), (4, 0)] [0, 6, 0, 18] _)
  refine su_sld hC hX dL_law_1479 (?_ : SdS X 1480 [(0, 6), (1, 18), (2, 20), (3, 101), (4, 0)] [0, 0, 18] _)
  refine su_aload_n hC 6 dL_law_1480 rfl (by decide) (by decide) (?_ : SdS X 1481 [(0, 6), (1, 18), (2, 20), (3, 101), (4, 0)] [6, 0, 0, 18] _)
  refine su_iload hC dL_law_1481 (by decide) (?_ : SdS X 1483 [(0, 6), (1, 18), (2, 20), (3, 101), (4, 0)] [0, 6, 0, 0, 18] _)
  refine su_iconst hC dL_law_1483 ⟨by decide, by decide⟩ (?_ : SdS X 1484 [(0, 6), (1, 18), (2, 20), (3, 101), (4, 0)] [0, 0, 6, 0, 0, 18] _)
  refine su_iadd hC dL_law_1484 (?_ : SdS X 1485 [(0, 6), (1, 18), (2, 20), (3, 101), (4, 0)] [0, 6, 0, 0, 18] _)
  refine su_sld hC hX dL_law_1485 (?_ : SdS X 1486 [(0, 6), (1, 18), (2, 20), (3, 101), (4, 0)] [0, 0, 0, 18] _)
  refine su_aload_n hC 6 dL_law_1486 rfl (by decide) (by decide) (?_ : SdS X 1487 [(0, 6), (1, 18), (2, 20), (3, 101), (4, 0)] [6, 0, 0, 0, 18] _)
  refine su_iload hC dL_law_1487 (by decide) (?_ : SdS X 1489 [(0, 6), (1, 18), (2, 20), (3, 101), (4, 0)] [0, 6, 0, 0, 0, 18] _)
  refine su_iconst hC dL_law_1489 ⟨by decide, by decide⟩ (?_ : SdS X 1490 [(0, 6), (1, 18), (2, 20), (3, 101), (4, 0)] [0, 0, 6, 0, 0, 0, 18] _)
  refine su_iadd hC dL_law_1490 (?_ : SdS X 1491 [(0, 6), (1, 18), (2, 20), (3, 101), (4, 0)] [0, 6, 0, 0, 0, 18] _)
  refine su_sld hC hX dL_law_1491 (?_ : SdS X 1492 [(0, 6), (1, 18), (2, 20), (3, 101), (4, 0)] [0, 0, 0, 0, 18] _)
  refine su_aload_n hC 6 dL_law_1492 rfl (by decide) (by decide) (?_ : SdS X 1493 [(0, 6), (1, 18), (2, 20), (3, 101), (4, 0)] [6, 0, 0, 0, 0, 18] _)
  refine su_iload hC dL_law_1493 (by decide) (?_ : SdS X 1495 [(0, 6), (1, 18), (2, 20), (3, 101), (4, 0)] [0, 6, 0, 0, 0, 0, 18] _)
  refine su_iconst hC dL_law_1495 ⟨by decide, by decide⟩ (?_ : SdS X 1496 [(0, 6), (1, 18), (2, 20), (3, 101), (4, 0)] [0, 0, 6, 0, 0, 0, 0, 18] _)
  refine su_iadd hC dL_law_1496 (?_ : SdS X 1497 [(0, 6), (1, 18), (2, 20), (3, 101), (4, 0)] [0, 6, 0, 0, 0, 0, 18] _)
  refine su_sld hC hX dL_law_1497 (?_ : SdS X 1498 [(0, 6), (1, 18), (2, 20), (3, 101), (4, 0)] [0, 0, 0, 0, 0, 18] _)
  refine su_aload_n hC 6 dL_law_1498 rfl (by decide) (by decide) (?_ : SdS X 1499 [(0, 6), (1, 18), (2, 20), (3, 101), (4, 0)] [6, 0, 0, 0, 0, 0, 18] _)
  refine su_iload hC dL_law_1499 (by decide) (?_ : SdS X 1501 [(0, 6), (1, 18), (2, 20), (3, 101), (4, 0)] [0, 6, 0, 0, 0, 0, 0, 18] _)
  refine su_bipush hC dL_law_1501 (by decide) (?_ : SdS X 1503 [(0, 6), (1, 18), (2, 20), (3, 101), (4, 0)] [0, 0, 6, 0, 0, 0, 0, 0, 18] _)
  refine su_iadd hC dL_law_1503 (?_ : SdS X 1504 [(0, 6), (1, 18), (2, 20), (3, 101), (4, 0)] [0, 6, 0, 0, 0, 0, 0, 18] _)
  refine su_sld hC hX dL_law_1504 (?_ : SdS X 1505 [(0, 6), (1, 18), (2, 20), (3, 101), (4, 0)] [0, 0, 0, 0, 0, 0, 18] _)
  refine su_inv0 (τ := []) (τr := [0, 0, 0, 0, 0, 0]) (ci := 8) (q := (RX8, TX8, 18)) hC WG (M_X8_dig _) rfl rfl rfl rfl  rfl rfl wl_5_65 wl_5_66 wl_5_67 wl_1_1 wl_5_68 hd_X8_dig (by rw [e3]; decide) (by decide) dL_law_1505 (?_ : SdS X 1508 [(0, 6), (1, 18), (2, 20), (3, 101), (4, 0)] [0] _)
  refine su_aload_n hC 20 dL_law_1508 rfl (by decide) (by decide) (?_ : SdS X 1509 [(0, 6), (1, 18), (2, 20), (3, 101), (4, 0)] [20, 0] _)
  refine su_aload_n hC 6 dL_law_1509 rfl (by decide) (by decide) (?_ : SdS X 1510 [(0, 6), (1, 18), (2, 20), (3, 101), (4, 0)] [6, 20, 0] _)
  refine su_iload hC dL_law_1510 (by decide) (?_ : SdS X 1512 [(0, 6), (1, 18), (2, 20), (3, 101), (4, 0)] [0, 6, 20, 0] _)
  refine su_iconst hC dL_law_1512 ⟨by decide, by decide⟩ (?_ : SdS X 1513 [(0, 6), (1, 18), (2, 20), (3, 101), (4, 0)] [0, 0, 6, 20, 0] _)
  refine su_iadd hC dL_law_1513 (?_ : SdS X 1514 [(0, 6), (1, 18), (2, 20), (3, 101), (4, 0)] [0, 6, 20, 0] _)
  refine su_sld hC hX dL_law_1514 (?_ : SdS X 1515 [(0, 6), (1, 18), (2, 20), (3, 101), (4, 0)] [0, 20, 0] _)
  refine su_aload_n hC 6 dL_law_1515 rfl (by decide) (by decide) (?_ : SdS X 1516 [(0, 6), (1, 18), (2, 20), (3, 101), (4, 0)] [6, 0, 20, 0] _)
  refine su_iload hC dL_law_1516 (by decide) (?_ : SdS X 1518 [(0, 6), (1, 18), (2, 20), (3, 101), (4, 0)] [0, 6, 0, 20, 0] _)
  refine su_iconst hC dL_law_1518 ⟨by decide, by decide⟩ (?_ : SdS X 1519 [(0, 6), (1, 18), (2, 20), (3, 101), (4, 0)] [0, 0, 6, 0, 20, 0] _)
  refine su_iadd hC dL_law_1519 (?_ : SdS X 1520 [(0, 6), (1, 18), (2, 20), (3, 101), (4, 0)] [0, 6, 0, 20, 0] _)
  refine su_sld hC hX dL_law_1520 (?_ : SdS X 1521 [(0, 6), (1, 18), (2, 20), (3, 101), (4, 0)] [0, 0, 20, 0] _)
  refine su_aload_n hC 6 dL_law_1521 rfl (by decide) (by decide) (?_ : SdS X 1522 [(0, 6), (1, 18), (2, 20), (3, 101), (4, 0)] [6, 0, 0, 20, 0] _)
  refine su_iload hC dL_law_1522 (by decide) (?_ : SdS X 1524 [(0, 6), (1, 18), (2, 20), (3, 101), (4, 0)] [0, 6, 0, 0, 20, 0] _)
  refine su_iconst hC dL_law_1524 ⟨by decide, by decide⟩ (?_ : SdS X 1525 [(0, 6), (1, 18), (2, 20), (3, 101), (4, 0)] [0, 0, 6, 0, 0, 20, 0] _)
  refine su_iadd hC dL_law_1525 (?_ : SdS X 1526 [(0, 6), (1, 18), (2, 20), (3, 101), (4, 0)] [0, 6, 0, 0, 20, 0] _)
  refine su_sld hC hX dL_law_1526 (?_ : SdS X 1527 [(0, 6), (1, 18), (2, 20), (3, 101), (4, 0)] [0, 0, 0, 20, 0] _)
  refine su_aload_n hC 6 dL_law_1527 rfl (by decide) (by decide) (?_ : SdS X 1528 [(0, 6), (1, 18), (2, 20), (3, 101), (4, 0)] [6, 0, 0, 0, 20, 0] _)
  refine su_iload hC dL_law_1528 (by decide) (?_ : SdS X 1530 [(0, 6), (1, 18), (2, 20), (3, 101), (4, 0)] [0, 6, 0, 0, 0, 20, 0] _)
  refine su_iconst hC dL_law_1530 ⟨by decide, by decide⟩ (?_ : SdS X 1531 [(0, 6), (1, 18), (2, 20), (3, 101), (4, 0)] [0, 0, 6, 0, 0, 0, 20, 0] _)
  refine su_iadd hC dL_law_1531 (?_ : SdS X 1532 [(0, 6), (1, 18), (2, 20), (3, 101), (4, 0)] [0, 6, 0, 0, 0, 20, 0] _)
  refine su_sld hC hX dL_law_1532 (?_ : SdS X 1533 [(0, 6), (1, 18), (2, 20), (3, 101), (4, 0)] [0, 0, 0, 0, 20, 0] _)
  refine su_aload_n hC 6 dL_law_1533 rfl (by decide) (by decide) (?_ : SdS X 1534 [(0, 6), (1, 18), (2, 20), (3, 101), (4, 0)] [6, 0, 0, 0, 0, 20, 0] _)
  refine su_iload hC dL_law_1534 (by decide) (?_ : SdS X 1536 [(0, 6), (1, 18), (2, 20), (3, 101), (4, 0)] [0, 6, 0, 0, 0, 0, 20, 0] _)
  refine su_iconst hC dL_law_1536 ⟨by decide, by decide⟩ (?_ : SdS X 1537 [(0, 6), (1, 18), (2, 20), (3, 101), (4, 0)] [0, 0, 6, 0, 0, 0, 0, 20, 0] _)
  refine su_iadd hC dL_law_1537 (?_ : SdS X 1538 [(0, 6), (1, 18), (2, 20), (3, 101), (4, 0)] [0, 6, 0, 0, 0, 0, 20, 0] _)
  refine su_sld hC hX dL_law_1538 (?_ : SdS X 1539 [(0, 6), (1, 18), (2, 20), (3, 101), (4, 0)] [0, 0, 0, 0, 0, 20, 0] _)
  refine su_aload_n hC 6 dL_law_1539 rfl (by decide) (by decide) (?_ : SdS X 1540 [(0, 6), (1, 18), (2, 20), (3, 101), (4, 0)] [6, 0, 0, 0, 0, 0, 20, 0] _)
  refine su_iload hC dL_law_1540 (by decide) (?_ : SdS X 1542 [(0, 6), (1, 18), (2, 20), (3, 101), (4, 0)] [0, 6, 0, 0, 0, 0, 0, 20, 0] _)
  refine su_bipush hC dL_law_1542 (by decide) (?_ : SdS X 1544 [(0, 6), (1, 18), (2, 20), (3, 101), (4, 0)] [0, 0, 6, 0, 0, 0, 0, 0, 20, 0] _)
  refine su_iadd hC dL_law_1544 (?_ : SdS X 1545 [(0, 6), (1, 18), (2, 20), (3, 101), (4, 0)] [0, 6, 0, 0, 0, 0, 0, 20, 0] _)
  refine su_sld hC hX dL_law_1545 (?_ : SdS X 1546 [(0, 6), (1, 18), (2, 20), (3, 101), (4, 0)] [0, 0, 0, 0, 0, 0, 20, 0] _)
  refine su_inv0 (τ := [0]) (τr := [0, 0, 0, 0, 0, 0]) (ci := 10) (q := (RX10, TX10, 45)) hC WG (M_X10_dig _) rfl rfl rfl rfl  rfl rfl wl_8_174 wl_8_175 wl_8_176 wl_1_10 wl_8_177 hd_X10_dig (by rw [e3]; decide) (by decide) dL_law_1546 (?_ : SdS X 1549 [(0, 6), (1, 18), (2, 20), (3, 101), (4, 0)] [0, 0] _)
  refine su_icmp_eq (tgt := 1686) hC dL_law_1549 rfl (?_ : SdS X 1686 [(0, 6), (1, 18), (2, 20), (3, 101), (4, 0)] [] _) (?_ : SdS X 1552 [(0, 6), (1, 18), (2, 20), (3, 101), (4, 0)] [] _)
  · exact SdS.weak (by decide) (SL_1686 hC e2 e3 hX hT hled k23 h23)
  · refine su_iconst hC dL_law_1552 ⟨by decide, by decide⟩ (?_ : SdS X 1553 [(0, 6), (1, 18), (2, 20), (3, 101), (4, 0)] [0] _)
    exact su_lret hC hT dL_law_1553
set_option maxRecDepth 100000 in
set_option maxHeartbeats 4000000 in
theorem SL_1554 {X : CX} {sL : Nat} {sx : Nat → Int32} {Q : xQ} (hC : CF X cL_law RL WALL) (e2 : xn X = 7) (e3 : xR X = room_1) (hX : SX X sL sx) (hT : LT X Q) (hled : LH X) : ∀ (k23 : xK), SdS X 23 [(0, 6), (1, 18), (2, 20), (3, 101), (4, 0)] [] k23 → SdS X 1554 [(0, 6), (1, 18), (2, 20), (3, 101), (4, 0)] [] (B_L_law_1554 sL sx Q k23) := by
  intro k23 h23
  unfold B_L_law_1554
  refine su_aload_n hC 18 dL_law_1554 rfl (by decide) (by decide) (?_ : SdS X 1555 [(0, 6), (1, 18), (2, 20), (3, 101), (4, 0)] [18] _)
  refine su_aload_n hC 6 dL_law_1555 rfl (by decide) (by decide) (?_ : SdS X 1556 [(0, 6), (1, 18), (2, 20), (3, 101), (4, 0)] [6, 18] _)
  refine su_iload hC dL_law_1556 (by decide) (?_ : SdS X 1558 [(0, 6), (1, 18), (2, 20), (3, 101), (4, 0)] [0, 6, 18] _)
  refine su_iconst hC dL_law_1558 ⟨by decide, by decide⟩ (?_ : SdS X 1559 [(0, 6), (1, 18), (2, 20), (3, 101), (4, 0)] [0, 0, 6, 18] _)
  refine su_iadd hC dL_law_1559 (?_ : SdS X 1560 [(0, 6), (1, 18), (2, 20), (3, 101), (4, 0)] [0, 6, 18] _)
  refine su_sld hC hX dL_law_1560 (?_ : SdS X 1561 [(0, 6), (1, 18), (2, 20), (3, 101), (4, 0)] [0, 18] _)
  refine su_inv0 (τ := []) (τr := [0]) (ci := 8) (q := (RX8, TX8, 18)) hC WG (M_X8_close _) rfl rfl rfl rfl  rfl rfl wl_5_69 wl_5_70 wl_5_71 wl_1_1 wl_5_72 hd_X8_close (by rw [e3]; decide) (by decide) dL_law_1561 (?_ : SdS X 1564 [(0, 6), (1, 18), (2, 20), (3, 101), (4, 0)] [0] _)
  refine su_aload_n hC 20 dL_law_1564 rfl (by decide) (by decide) (?_ : SdS X 1565 [(0, 6), (1, 18), (2, 20), (3, 101), (4, 0)] [20, 0] _)
  refine su_aload_n hC 6 dL_law_1565 rfl (by decide) (by decide) (?_ : SdS X 1566 [(0, 6), (1, 18), (2, 20), (3, 101), (4, 0)] [6, 20, 0] _)
  refine su_iload hC dL_law_1566 (by decide) (?_ : SdS X 1568 [(0, 6), (1, 18), (2, 20), (3, 101), (4, 0)] [0, 6, 20, 0] _)
  refine su_iconst hC dL_law_1568 ⟨by decide, by decide⟩ (?_ : SdS X 1569 [(0, 6), (1, 18), (2, 20), (3, 101), (4, 0)] [0, 0, 6, 20, 0] _)
  refine su_iadd hC dL_law_1569 (?_ : SdS X 1570 [(0, 6), (1, 18), (2, 20), (3, 101), (4, 0)] [0, 6, 20, 0] _)
  refine su_sld hC hX dL_law_1570 (?_ : SdS X 1571 [(0, 6), (1, 18), (2, 20), (3, 101), (4, 0)] [0, 20, 0] _)
  refine su_inv0 (τ := [0]) (τr := [0]) (ci := 10) (q := (RX10, TX10, 45)) hC WG (M_X10_close _) rfl rfl rfl rfl  rfl rfl wl_8_178 wl_8_179 wl_8_180 wl_1_10 wl_8_181 hd_X10_close (by rw [e3]; decide) (by decide) dL_law_1571 (?_ : SdS X 1574 [(0, 6), (1, 18), (2, 20), (3, 101), (4, 0)] [0, 0] _)
  refine su_icmp_eq (tgt := 1686) hC dL_law_1574 rfl (?_ : SdS X 1686 [(0, 6), (1, 18), (2, 20), (3, 101), (4, 0)] [] _) (?_ : SdS X 1577 [(0, 6), (1, 18), (2, 20), (3, 101), (4, 0)] [] _)
  · exact SdS.weak (by decide) (SL_1686 hC e2 e3 hX hT hled k23 h23)
  · refine su_iconst hC dL_law_1577 ⟨by decide, by decide⟩ (?_ : SdS X 1578 [(0, 6), (1, 18), (2, 20), (3, 101), (4, 0)] [0] _)
    exact su_lret hC hT dL_law_1578
set_option maxRecDepth 100000 in
set_option maxHeartbeats 4000000 in
theorem SL_1579 {X : CX} {sL : Nat} {sx : Nat → Int32} {Q : xQ} (hC : CF X cL_law RL WALL) (e2 : xn X = 7) (e3 : xR X = room_1) (hX : SX X sL sx) (hT : LT X Q) (hled : LH X) : ∀ (k23 : xK), SdS X 23 [(0, 6), (1, 18), (2, 20), (3, 101), (4, 0)] [] k23 → SdS X 1579 [(0, 6), (1, 18), (2, 20), (3, 101), (4, 0)] [] (B_L_law_1579 sL sx Q k23) := by
  intro k23 h23
  unfold B_L_law_1579
  refine su_aload_n hC 18 dL_law_1579 rfl (by decide) (by decide) (?_ : SdS X 1580 [(0, 6), (1, 18), (2, 20), (3, 101), (4, 0)] [18] _)
  refine su_inv0 (τ := []) (τr := []) (ci := 8) (q := (RX8, TX8, 18)) hC WG (M_X8_undo _) rfl rfl rfl rfl  rfl rfl wl_5_73 wl_5_74 wl_5_75 wl_1_1 wl_5_76 hd_X8_undo (by rw [e3]; decide) (by decide) dL_law_1580 (?_ : SdS X 1583 [(0, 6), (1, 18), (2, 20), (3, 101), (4, 0)] [0] _)
  refine su_aload_n hC 20 dL_law_1583 rfl (by decide) (by decide) (?_ : SdS X 1584 [(0, 6), (1, 18), (2, 20), (3, 101), (4, 0)] [20, 0] _)
  refine su_inv0 (τ := [0]) (τr := []) (ci := 10) (q := (RX10, TX10, 45)) hC WG (M_X10_undo _) rfl rfl rfl rfl  rfl rfl wl_8_182 wl_8_183 wl_8_184 wl_1_10 wl_8_185 hd_X10_undo (by rw [e3]; decide) (by decide) dL_law_1584 (?_ : SdS X 1587 [(0, 6), (1, 18), (2, 20), (3, 101), (4, 0)] [0, 0] _)
  refine su_icmp_eq (tgt := 1686) hC dL_law_1587 rfl (?_ : SdS X 1686 [(0, 6), (1, 18), (2, 20), (3, 101), (4, 0)] [] _) (?_ : SdS X 1590 [(0, 6), (1, 18), (2, 20), (3, 101), (4, 0)] [] _)
  · exact SdS.weak (by decide) (SL_1686 hC e2 e3 hX hT hled k23 h23)
  · refine su_iconst hC dL_law_1590 ⟨by decide, by decide⟩ (?_ : SdS X 1591 [(0, 6), (1, 18), (2, 20), (3, 101), (4, 0)] [0] _)
    exact su_lret hC hT dL_law_1591
set_option maxRecDepth 100000 in
set_option maxHeartbeats 4000000 in
theorem SL_1645 {X : CX} {sL : Nat} {sx : Nat → Int32} {Q : xQ} (hC : CF X cL_law RL WALL) (e2 : xn X = 7) (e3 : xR X = room_1) (hX : SX X sL sx) (hT : LT X Q) (hled : LH X) : ∀ (k23 : xK), SdS X 23 [(0, 6), (1, 18), (2, 20), (3, 101), (4, 0)] [] k23 → SdS X 1645 [(0, 6), (1, 18), (2, 20), (3, 101), (4, 0), (5, 0), (6, 0)] [] (B_L_law_1645 sL sx Q k23) := by
  intro k23 h23
  unfold B_L_law_1645
  refine su_goto (tgt := 1686) hC dL_law_1645 rfl (?_ : SdS X 1686 [(0, 6), (1, 18), (2, 20), (3, 101), (4, 0), (5, 0), (6, 0)] [] _)
  exact SdS.weak (by decide) (SL_1686 hC e2 e3 hX hT hled k23 h23)
set_option maxRecDepth 100000 in
set_option maxHeartbeats 4000000 in
theorem SL_1592 {X : CX} {sL : Nat} {sx : Nat → Int32} {Q : xQ} (hC : CF X cL_law RL WALL) (e2 : xn X = 7) (e3 : xR X = room_1) (hX : SX X sL sx) (hT : LT X Q) (hled : LH X) : ∀ (k23 : xK), SdS X 23 [(0, 6), (1, 18), (2, 20), (3, 101), (4, 0)] [] k23 → SdS X 1592 [(0, 6), (1, 18), (2, 20), (3, 101), (4, 0)] [] (B_L_law_1592 sL sx Q k23) := by
  intro k23 h23
  unfold B_L_law_1592
  refine su_aload_n hC 18 dL_law_1592 rfl (by decide) (by decide) (?_ : SdS X 1593 [(0, 6), (1, 18), (2, 20), (3, 101), (4, 0)] [18] _)
  refine su_aload_n hC 6 dL_law_1593 rfl (by decide) (by decide) (?_ : SdS X 1594 [(0, 6), (1, 18), (2, 20), (3, 101), (4, 0)] [6, 18] _)
  refine su_iload hC dL_law_1594 (by decide) (?_ : SdS X 1596 [(0, 6), (1, 18), (2, 20), (3, 101), (4, 0)] [0, 6, 18] _)
  refine su_iconst hC dL_law_1596 ⟨by decide, by decide⟩ (?_ : SdS X 1597 [(0, 6), (1, 18), (2, 20), (3, 101), (4, 0)] [0, 0, 6, 18] _)
  refine su_iadd hC dL_law_1597 (?_ : SdS X 1598 [(0, 6), (1, 18), (2, 20), (3, 101), (4, 0)] [0, 6, 18] _)
  refine su_sld hC hX dL_law_1598 (?_ : SdS X 1599 [(0, 6), (1, 18), (2, 20), (3, 101), (4, 0)] [0, 18] _)
  refine su_aload_n hC 101 dL_law_1599 rfl (by decide) (by decide) (?_ : SdS X 1600 [(0, 6), (1, 18), (2, 20), (3, 101), (4, 0)] [101, 0, 18] _)
  refine hled dL_law_1600 (by decide) (?_ : SdS X 1603 [(0, 6), (1, 18), (2, 20), (3, 101), (4, 0)] [0] _)
  refine su_istore (Γ' := [(0, 6), (1, 18), (2, 20), (3, 101), (4, 0), (5, 0)]) hC dL_law_1603 (by rw [e2]; decide) (by decide) (?_ : SdS X 1605 [(0, 6), (1, 18), (2, 20), (3, 101), (4, 0), (5, 0)] [] _)
  refine su_aload_n hC 20 dL_law_1605 rfl (by decide) (by decide) (?_ : SdS X 1606 [(0, 6), (1, 18), (2, 20), (3, 101), (4, 0), (5, 0)] [20] _)
  refine su_aload_n hC 6 dL_law_1606 rfl (by decide) (by decide) (?_ : SdS X 1607 [(0, 6), (1, 18), (2, 20), (3, 101), (4, 0), (5, 0)] [6, 20] _)
  refine su_iload hC dL_law_1607 (by decide) (?_ : SdS X 1609 [(0, 6), (1, 18), (2, 20), (3, 101), (4, 0), (5, 0)] [0, 6, 20] _)
  refine su_iconst hC dL_law_1609 ⟨by decide, by decide⟩ (?_ : SdS X 1610 [(0, 6), (1, 18), (2, 20), (3, 101), (4, 0), (5, 0)] [0, 0, 6, 20] _)
  refine su_iadd hC dL_law_1610 (?_ : SdS X 1611 [(0, 6), (1, 18), (2, 20), (3, 101), (4, 0), (5, 0)] [0, 6, 20] _)
  refine su_sld hC hX dL_law_1611 (?_ : SdS X 1612 [(0, 6), (1, 18), (2, 20), (3, 101), (4, 0), (5, 0)] [0, 20] _)
  refine su_inv0 (τ := []) (τr := [0]) (ci := 10) (q := (RX10, TX10, 45)) hC WG (M_X10_led _) rfl rfl rfl rfl  rfl rfl wl_8_186 wl_8_187 wl_8_188 wl_1_10 wl_8_189 hd_X10_led (by rw [e3]; decide) (by decide) dL_law_1612 (?_ : SdS X 1615 [(0, 6), (1, 18), (2, 20), (3, 101), (4, 0), (5, 0)] [0] _)
  refine su_istore (Γ' := [(0, 6), (1, 18), (2, 20), (3, 101), (4, 0), (5, 0), (6, 0)]) hC dL_law_1615 (by rw [e2]; decide) (by decide) (?_ : SdS X 1617 [(0, 6), (1, 18), (2, 20), (3, 101), (4, 0), (5, 0), (6, 0)] [] _)
  refine su_aload_n hC 20 dL_law_1617 rfl (by decide) (by decide) (?_ : SdS X 1618 [(0, 6), (1, 18), (2, 20), (3, 101), (4, 0), (5, 0), (6, 0)] [20] _)
  refine su_inv0 (τ := []) (τr := []) (ci := 10) (q := (RX10, TX10, 45)) hC WG (M_X10_thrown _) rfl rfl rfl rfl  rfl rfl wl_6_60 wl_6_61 wl_6_62 wl_1_10 wl_6_63 hd_X10_thrown (by rw [e3]; decide) (by decide) dL_law_1618 (?_ : SdS X 1621 [(0, 6), (1, 18), (2, 20), (3, 101), (4, 0), (5, 0), (6, 0)] [0] _)
  refine su_iload hC dL_law_1621 (by decide) (?_ : SdS X 1623 [(0, 6), (1, 18), (2, 20), (3, 101), (4, 0), (5, 0), (6, 0)] [0, 0] _)
  refine su_icmp_eq (tgt := 1628) hC dL_law_1623 rfl (?_ : SdS X 1628 [(0, 6), (1, 18), (2, 20), (3, 101), (4, 0), (5, 0), (6, 0)] [] _) (?_ : SdS X 1626 [(0, 6), (1, 18), (2, 20), (3, 101), (4, 0), (5, 0), (6, 0)] [] _)
  · refine su_iload hC dL_law_1628 (by decide) (?_ : SdS X 1630 [(0, 6), (1, 18), (2, 20), (3, 101), (4, 0), (5, 0), (6, 0)] [0] _)
    refine su_if_ne (tgt := 1645) hC dL_law_1630 rfl (?_ : SdS X 1645 [(0, 6), (1, 18), (2, 20), (3, 101), (4, 0), (5, 0), (6, 0)] [] _) (?_ : SdS X 1633 [(0, 6), (1, 18), (2, 20), (3, 101), (4, 0), (5, 0), (6, 0)] [] _)
    · exact SdS.weak (by decide) (SL_1645 hC e2 e3 hX hT hled k23 h23)
    · refine su_aload_n hC 101 dL_law_1633 rfl (by decide) (by decide) (?_ : SdS X 1634 [(0, 6), (1, 18), (2, 20), (3, 101), (4, 0), (5, 0), (6, 0)] [101] _)
      refine su_iconst hC dL_law_1634 ⟨by decide, by decide⟩ (?_ : SdS X 1635 [(0, 6), (1, 18), (2, 20), (3, 101), (4, 0), (5, 0), (6, 0)] [0, 101] _)
      refine su_laload hC dL_law_1635 (?_ : SdS X 1636 [(0, 6), (1, 18), (2, 20), (3, 101), (4, 0), (5, 0), (6, 0)] [1] _)
      refine su_iload hC dL_law_1636 (by decide) (?_ : SdS X 1638 [(0, 6), (1, 18), (2, 20), (3, 101), (4, 0), (5, 0), (6, 0)] [0, 1] _)
      refine su_i2l hC dL_law_1638 (?_ : SdS X 1639 [(0, 6), (1, 18), (2, 20), (3, 101), (4, 0), (5, 0), (6, 0)] [1, 1] _)
      refine su_lcmp hC dL_law_1639 (?_ : SdS X 1640 [(0, 6), (1, 18), (2, 20), (3, 101), (4, 0), (5, 0), (6, 0)] [0] _)
      refine su_if_eq (tgt := 1645) hC dL_law_1640 rfl (?_ : SdS X 1645 [(0, 6), (1, 18), (2, 20), (3, 101), (4, 0), (5, 0), (6, 0)] [] _) (?_ : SdS X 1643 [(0, 6), (1, 18), (2, 20), (3, 101), (4, 0), (5, 0), (6, 0)] [] _)
      · exact SdS.weak (by decide) (SL_1645 hC e2 e3 hX hT hled k23 h23)
      · refine su_iconst hC dL_law_1643 ⟨by decide, by decide⟩ (?_ : SdS X 1644 [(0, 6), (1, 18), (2, 20), (3, 101), (4, 0), (5, 0), (6, 0)] [0] _)
        exact su_lret hC hT dL_law_1644
  · refine su_iconst hC dL_law_1626 ⟨by decide, by decide⟩ (?_ : SdS X 1627 [(0, 6), (1, 18), (2, 20), (3, 101), (4, 0), (5, 0), (6, 0)] [0] _)
    exact su_lret hC hT dL_law_1627
set_option maxRecDepth 100000 in
set_option maxHeartbeats 4000000 in
theorem SL_1648 {X : CX} {sL : Nat} {sx : Nat → Int32} {Q : xQ} (hC : CF X cL_law RL WALL) (e2 : xn X = 7) (e3 : xR X = room_1) (hX : SX X sL sx) (hT : LT X Q) (hled : LH X) : ∀ (k23 : xK), SdS X 23 [(0, 6), (1, 18), (2, 20), (3, 101), (4, 0)] [] k23 → SdS X 1648 [(0, 6), (1, 18), (2, 20), (3, 101), (4, 0)] [] (B_L_law_1648 sL sx Q k23) := by
  intro k23 h23
  unfold B_L_law_1648
  refine su_aload_n hC 18 dL_law_1648 rfl (by decide) (by decide) (?_ : SdS X 1649 [(0, 6), (1, 18), (2, 20), (3, 101), (4, 0)] [18] _)
  refine su_aload_n hC 6 dL_law_1649 rfl (by decide) (by decide) (?_ : SdS X 1650 [(0, 6), (1, 18), (2, 20), (3, 101), (4, 0)] [6, 18] _)
  refine su_iload hC dL_law_1650 (by decide) (?_ : SdS X 1652 [(0, 6), (1, 18), (2, 20), (3, 101), (4, 0)] [0, 6, 18] _)
  refine su_iconst hC dL_law_1652 ⟨by decide, by decide⟩ (?_ : SdS X 1653 [(0, 6), (1, 18), (2, 20), (3, 101), (4, 0)] [0, 0, 6, 18] _)
  refine su_iadd hC dL_law_1653 (?_ : SdS X 1654 [(0, 6), (1, 18), (2, 20), (3, 101), (4, 0)] [0, 6, 18] _)
  refine su_sld hC hX dL_law_1654 (?_ : SdS X 1655 [(0, 6), (1, 18), (2, 20), (3, 101), (4, 0)] [0, 18] _)
  refine su_inv0 (τ := []) (τr := [0]) (ci := 8) (q := (RX8, TX8, 18)) hC WG (M_X8_size _) rfl rfl rfl rfl  rfl rfl wl_5_81 wl_5_82 wl_5_83 wl_1_1 wl_5_84 hd_X8_size (by rw [e3]; decide) (by decide) dL_law_1655 (?_ : SdS X 1658 [(0, 6), (1, 18), (2, 20), (3, 101), (4, 0)] [0] _)
  refine su_aload_n hC 20 dL_law_1658 rfl (by decide) (by decide) (?_ : SdS X 1659 [(0, 6), (1, 18), (2, 20), (3, 101), (4, 0)] [20, 0] _)
  refine su_aload_n hC 6 dL_law_1659 rfl (by decide) (by decide) (?_ : SdS X 1660 [(0, 6), (1, 18), (2, 20), (3, 101), (4, 0)] [6, 20, 0] _)
  refine su_iload hC dL_law_1660 (by decide) (?_ : SdS X 1662 [(0, 6), (1, 18), (2, 20), (3, 101), (4, 0)] [0, 6, 20, 0] _)
  refine su_iconst hC dL_law_1662 ⟨by decide, by decide⟩ (?_ : SdS X 1663 [(0, 6), (1, 18), (2, 20), (3, 101), (4, 0)] [0, 0, 6, 20, 0] _)
  refine su_iadd hC dL_law_1663 (?_ : SdS X 1664 [(0, 6), (1, 18), (2, 20), (3, 101), (4, 0)] [0, 6, 20, 0] _)
  refine su_sld hC hX dL_law_1664 (?_ : SdS X 1665 [(0, 6), (1, 18), (2, 20), (3, 101), (4, 0)] [0, 20, 0] _)
  refine su_inv0 (τ := [0]) (τr := [0]) (ci := 10) (q := (RX10, TX10, 45)) hC WG (M_X10_size _) rfl rfl rfl rfl  rfl rfl wl_8_190 wl_8_191 wl_8_192 wl_1_10 wl_8_193 hd_X10_size (by rw [e3]; decide) (by decide) dL_law_1665 (?_ : SdS X 1668 [(0, 6), (1, 18), (2, 20), (3, 101), (4, 0)] [0, 0] _)
  refine su_icmp_eq (tgt := 1686) hC dL_law_1668 rfl (?_ : SdS X 1686 [(0, 6), (1, 18), (2, 20), (3, 101), (4, 0)] [] _) (?_ : SdS X 1671 [(0, 6), (1, 18), (2, 20), (3, 101), (4, 0)] [] _)
  · exact SdS.weak (by decide) (SL_1686 hC e2 e3 hX hT hled k23 h23)
  · refine su_iconst hC dL_law_1671 ⟨by decide, by decide⟩ (?_ : SdS X 1672 [(0, 6), (1, 18), (2, 20), (3, 101), (4, 0)] [0] _)
    exact su_lret hC hT dL_law_1672
set_option maxRecDepth 100000 in
set_option maxHeartbeats 4000000 in
theorem SL_1673 {X : CX} {sL : Nat} {sx : Nat → Int32} {Q : xQ} (hC : CF X cL_law RL WALL) (e2 : xn X = 7) (e3 : xR X = room_1) (hX : SX X sL sx) (hT : LT X Q) (hled : LH X) : ∀ (k23 : xK), SdS X 23 [(0, 6), (1, 18), (2, 20), (3, 101), (4, 0)] [] k23 → SdS X 1673 [(0, 6), (1, 18), (2, 20), (3, 101), (4, 0)] [] (B_L_law_1673 sL sx Q k23) := by
  intro k23 h23
  unfold B_L_law_1673
  refine su_aload_n hC 18 dL_law_1673 rfl (by decide) (by decide) (?_ : SdS X 1674 [(0, 6), (1, 18), (2, 20), (3, 101), (4, 0)] [18] _)
  refine su_inv0 (τ := []) (τr := []) (ci := 8) (q := (RX8, TX8, 18)) hC WG (M_X8_trouble _) rfl rfl rfl rfl  rfl rfl wl_5_85 wl_5_86 wl_5_87 wl_1_1 wl_5_88 hd_X8_trouble (by rw [e3]; decide) (by decide) dL_law_1674 (?_ : SdS X 1677 [(0, 6), (1, 18), (2, 20), (3, 101), (4, 0)] [0] _)
  refine su_aload_n hC 20 dL_law_1677 rfl (by decide) (by decide) (?_ : SdS X 1678 [(0, 6), (1, 18), (2, 20), (3, 101), (4, 0)] [20, 0] _)
  refine su_inv0 (τ := [0]) (τr := []) (ci := 10) (q := (RX10, TX10, 45)) hC WG (M_X10_trouble _) rfl rfl rfl rfl  rfl rfl wl_8_194 wl_8_195 wl_8_196 wl_1_10 wl_8_197 hd_X10_trouble (by rw [e3]; decide) (by decide) dL_law_1678 (?_ : SdS X 1681 [(0, 6), (1, 18), (2, 20), (3, 101), (4, 0)] [0, 0] _)
  refine su_icmp_eq (tgt := 1686) hC dL_law_1681 rfl (?_ : SdS X 1686 [(0, 6), (1, 18), (2, 20), (3, 101), (4, 0)] [] _) (?_ : SdS X 1684 [(0, 6), (1, 18), (2, 20), (3, 101), (4, 0)] [] _)
  · exact SdS.weak (by decide) (SL_1686 hC e2 e3 hX hT hled k23 h23)
  · refine su_iconst hC dL_law_1684 ⟨by decide, by decide⟩ (?_ : SdS X 1685 [(0, 6), (1, 18), (2, 20), (3, 101), (4, 0)] [0] _)
    exact su_lret hC hT dL_law_1685
set_option maxRecDepth 100000 in
set_option maxHeartbeats 4000000 in
theorem SL_23 {X : CX} {sL : Nat} {sx : Nat → Int32} {Q : xQ} (hC : CF X cL_law RL WALL) (e2 : xn X = 7) (e3 : xR X = room_1) (hX : SX X sL sx) (hT : LT X Q) (hled : LH X) : SdS X 23 [(0, 6), (1, 18), (2, 20), (3, 101), (4, 0)] [] (L_L_law_23 sL sx Q) := by
  unfold L_L_law_23
  refine SdS.loop (fun k23 h23 => ?_)
  refine su_fresh ?_
  refine su_iload hC dL_law_23 (by decide) (?_ : SdS X 25 [(0, 6), (1, 18), (2, 20), (3, 101), (4, 0)] [0] _)
  refine su_aload_n hC 6 dL_law_25 rfl (by decide) (by decide) (?_ : SdS X 26 [(0, 6), (1, 18), (2, 20), (3, 101), (4, 0)] [6, 0] _)
  refine su_slen hC hX dL_law_26 (?_ : SdS X 27 [(0, 6), (1, 18), (2, 20), (3, 101), (4, 0)] [0, 0] _)
  refine su_bipush hC dL_law_27 (by decide) (?_ : SdS X 29 [(0, 6), (1, 18), (2, 20), (3, 101), (4, 0)] [0, 0, 0] _)
  refine su_isub hC dL_law_29 (?_ : SdS X 30 [(0, 6), (1, 18), (2, 20), (3, 101), (4, 0)] [0, 0] _)
  refine su_icmp_gt (tgt := 1692) hC dL_law_30 rfl (?_ : SdS X 1692 [(0, 6), (1, 18), (2, 20), (3, 101), (4, 0)] [] _) (?_ : SdS X 33 [(0, 6), (1, 18), (2, 20), (3, 101), (4, 0)] [] _)
  · refine su_iconst hC dL_law_1692 ⟨by decide, by decide⟩ (?_ : SdS X 1693 [(0, 6), (1, 18), (2, 20), (3, 101), (4, 0)] [0] _)
    exact su_lret hC hT dL_law_1693
  · refine su_aload_n hC 6 dL_law_33 rfl (by decide) (by decide) (?_ : SdS X 34 [(0, 6), (1, 18), (2, 20), (3, 101), (4, 0)] [6] _)
    refine su_iload hC dL_law_34 (by decide) (?_ : SdS X 36 [(0, 6), (1, 18), (2, 20), (3, 101), (4, 0)] [0, 6] _)
    refine su_sld hC hX dL_law_36 (?_ : SdS X 37 [(0, 6), (1, 18), (2, 20), (3, 101), (4, 0)] [0] _)
    refine su_bipush hC dL_law_37 (by decide) (?_ : SdS X 39 [(0, 6), (1, 18), (2, 20), (3, 101), (4, 0)] [0, 0] _)
    refine su_iand hC dL_law_39 (?_ : SdS X 40 [(0, 6), (1, 18), (2, 20), (3, 101), (4, 0)] [0] _)
    refine su_tsw (td := 1686) hC dL_law_40 rfl rfl ?_ (?_ : SdS X 1686 [(0, 6), (1, 18), (2, 20), (3, 101), (4, 0)] [] _)
    · intro j kj hj
      match j, hj with
      | 0, hj =>
        cases hj
        refine ⟨_, 220, rfl, rfl, (?_ : SdS X 220 [(0, 6), (1, 18), (2, 20), (3, 101), (4, 0)] [] _)⟩
        exact SdS.weak (by decide) (SL_220 hC e2 e3 hX hT hled k23 h23)
      | 1, hj =>
        cases hj
        refine ⟨_, 293, rfl, rfl, (?_ : SdS X 293 [(0, 6), (1, 18), (2, 20), (3, 101), (4, 0)] [] _)⟩
        exact SdS.weak (by decide) (SL_293 hC e2 e3 hX hT hled k23 h23)
      | 2, hj =>
        cases hj
        refine ⟨_, 318, rfl, rfl, (?_ : SdS X 318 [(0, 6), (1, 18), (2, 20), (3, 101), (4, 0)] [] _)⟩
        exact SdS.weak (by decide) (SL_318 hC e2 e3 hX hT hled k23 h23)
      | 3, hj =>
        cases hj
        refine ⟨_, 331, rfl, rfl, (?_ : SdS X 331 [(0, 6), (1, 18), (2, 20), (3, 101), (4, 0)] [] _)⟩
        exact SdS.weak (by decide) (SL_331 hC e2 e3 hX hT hled k23 h23)
      | 4, hj =>
        cases hj
        refine ⟨_, 344, rfl, rfl, (?_ : SdS X 344 [(0, 6), (1, 18), (2, 20), (3, 101), (4, 0)] [] _)⟩
        exact SdS.weak (by decide) (SL_344 hC e2 e3 hX hT hled k23 h23)
      | 5, hj =>
        cases hj
        refine ⟨_, 381, rfl, rfl, (?_ : SdS X 381 [(0, 6), (1, 18), (2, 20), (3, 101), (4, 0)] [] _)⟩
        exact SdS.weak (by decide) (SL_381 hC e2 e3 hX hT hled k23 h23)
      | 6, hj =>
        cases hj
        refine ⟨_, 458, rfl, rfl, (?_ : SdS X 458 [(0, 6), (1, 18), (2, 20), (3, 101), (4, 0)] [] _)⟩
        exact SdS.weak (by decide) (SL_458 hC e2 e3 hX hT hled k23 h23)
      | 7, hj =>
        cases hj
        refine ⟨_, 523, rfl, rfl, (?_ : SdS X 523 [(0, 6), (1, 18), (2, 20), (3, 101), (4, 0)] [] _)⟩
        exact SdS.weak (by decide) (SL_523 hC e2 e3 hX hT hled k23 h23)
      | 8, hj =>
        cases hj
        refine ⟨_, 548, rfl, rfl, (?_ : SdS X 548 [(0, 6), (1, 18), (2, 20), (3, 101), (4, 0)] [] _)⟩
        exact SdS.weak (by decide) (SL_548 hC e2 e3 hX hT hled k23 h23)
      | 9, hj =>
        cases hj
        refine ⟨_, 573, rfl, rfl, (?_ : SdS X 573 [(0, 6), (1, 18), (2, 20), (3, 101), (4, 0)] [] _)⟩
        exact SdS.weak (by decide) (SL_573 hC e2 e3 hX hT hled k23 h23)
      | 10, hj =>
        cases hj
        refine ⟨_, 646, rfl, rfl, (?_ : SdS X 646 [(0, 6), (1, 18), (2, 20), (3, 101), (4, 0)] [] _)⟩
        exact SdS.weak (by decide) (SL_646 hC e2 e3 hX hT hled k23 h23)
      | 11, hj =>
        cases hj
        refine ⟨_, 719, rfl, rfl, (?_ : SdS X 719 [(0, 6), (1, 18), (2, 20), (3, 101), (4, 0)] [] _)⟩
        exact SdS.weak (by decide) (SL_719 hC e2 e3 hX hT hled k23 h23)
      | 12, hj =>
        cases hj
        refine ⟨_, 744, rfl, rfl, (?_ : SdS X 744 [(0, 6), (1, 18), (2, 20), (3, 101), (4, 0)] [] _)⟩
        exact SdS.weak (by decide) (SL_744 hC e2 e3 hX hT hled k23 h23)
      | 13, hj =>
        cases hj
        refine ⟨_, 769, rfl, rfl, (?_ : SdS X 769 [(0, 6), (1, 18), (2, 20), (3, 101), (4, 0)] [] _)⟩
        exact SdS.weak (by decide) (SL_769 hC e2 e3 hX hT hled k23 h23)
      | 14, hj =>
        cases hj
        refine ⟨_, 794, rfl, rfl, (?_ : SdS X 794 [(0, 6), (1, 18), (2, 20), (3, 101), (4, 0)] [] _)⟩
        exact SdS.weak (by decide) (SL_794 hC e2 e3 hX hT hled k23 h23)
      | 15, hj =>
        cases hj
        refine ⟨_, 831, rfl, rfl, (?_ : SdS X 831 [(0, 6), (1, 18), (2, 20), (3, 101), (4, 0)] [] _)⟩
        exact SdS.weak (by decide) (SL_831 hC e2 e3 hX hT hled k23 h23)
      | 16, hj =>
        cases hj
        refine ⟨_, 844, rfl, rfl, (?_ : SdS X 844 [(0, 6), (1, 18), (2, 20), (3, 101), (4, 0)] [] _)⟩
        exact SdS.weak (by decide) (SL_844 hC e2 e3 hX hT hled k23 h23)
      | 17, hj =>
        cases hj
        refine ⟨_, 869, rfl, rfl, (?_ : SdS X 869 [(0, 6), (1, 18), (2, 20), (3, 101), (4, 0)] [] _)⟩
        exact SdS.weak (by decide) (SL_869 hC e2 e3 hX hT hled k23 h23)
      | 18, hj =>
        cases hj
        refine ⟨_, 882, rfl, rfl, (?_ : SdS X 882 [(0, 6), (1, 18), (2, 20), (3, 101), (4, 0)] [] _)⟩
        exact SdS.weak (by decide) (SL_882 hC e2 e3 hX hT hled k23 h23)
      | 19, hj =>
        cases hj
        refine ⟨_, 895, rfl, rfl, (?_ : SdS X 895 [(0, 6), (1, 18), (2, 20), (3, 101), (4, 0)] [] _)⟩
        exact SdS.weak (by decide) (SL_895 hC e2 e3 hX hT hled k23 h23)
      | 20, hj =>
        cases hj
        refine ⟨_, 932, rfl, rfl, (?_ : SdS X 932 [(0, 6), (1, 18), (2, 20), (3, 101), (4, 0)] [] _)⟩
        exact SdS.weak (by decide) (SL_932 hC e2 e3 hX hT hled k23 h23)
      | 21, hj =>
        cases hj
        refine ⟨_, 957, rfl, rfl, (?_ : SdS X 957 [(0, 6), (1, 18), (2, 20), (3, 101), (4, 0)] [] _)⟩
        exact SdS.weak (by decide) (SL_957 hC e2 e3 hX hT hled k23 h23)
      | 22, hj =>
        cases hj
        refine ⟨_, 982, rfl, rfl, (?_ : SdS X 982 [(0, 6), (1, 18), (2, 20), (3, 101), (4, 0)] [] _)⟩
        exact SdS.weak (by decide) (SL_982 hC e2 e3 hX hT hled k23 h23)
      | 23, hj =>
        cases hj
        refine ⟨_, 1007, rfl, rfl, (?_ : SdS X 1007 [(0, 6), (1, 18), (2, 20), (3, 101), (4, 0)] [] _)⟩
        exact SdS.weak (by decide) (SL_1007 hC e2 e3 hX hT hled k23 h23)
      | 24, hj =>
        cases hj
        refine ⟨_, 1032, rfl, rfl, (?_ : SdS X 1032 [(0, 6), (1, 18), (2, 20), (3, 101), (4, 0)] [] _)⟩
        exact SdS.weak (by decide) (SL_1032 hC e2 e3 hX hT hled k23 h23)
      | 25, hj =>
        cases hj
        refine ⟨_, 1045, rfl, rfl, (?_ : SdS X 1045 [(0, 6), (1, 18), (2, 20), (3, 101), (4, 0)] [] _)⟩
        exact SdS.weak (by decide) (SL_1045 hC e2 e3 hX hT hled k23 h23)
      | 26, hj =>
        cases hj
        refine ⟨_, 1058, rfl, rfl, (?_ : SdS X 1058 [(0, 6), (1, 18), (2, 20), (3, 101), (4, 0)] [] _)⟩
        exact SdS.weak (by decide) (SL_1058 hC e2 e3 hX hT hled k23 h23)
      | 27, hj =>
        cases hj
        refine ⟨_, 1083, rfl, rfl, (?_ : SdS X 1083 [(0, 6), (1, 18), (2, 20), (3, 101), (4, 0)] [] _)⟩
        exact SdS.weak (by decide) (SL_1083 hC e2 e3 hX hT hled k23 h23)
      | 28, hj =>
        cases hj
        refine ⟨_, 1132, rfl, rfl, (?_ : SdS X 1132 [(0, 6), (1, 18), (2, 20), (3, 101), (4, 0)] [] _)⟩
        exact SdS.weak (by decide) (SL_1132 hC e2 e3 hX hT hled k23 h23)
      | 29, hj =>
        cases hj
        refine ⟨_, 1169, rfl, rfl, (?_ : SdS X 1169 [(0, 6), (1, 18), (2, 20), (3, 101), (4, 0)] [] _)⟩
        exact SdS.weak (by decide) (SL_1169 hC e2 e3 hX hT hled k23 h23)
      | 30, hj =>
        cases hj
        refine ⟨_, 1218, rfl, rfl, (?_ : SdS X 1218 [(0, 6), (1, 18), (2, 20), (3, 101), (4, 0)] [] _)⟩
        exact SdS.weak (by decide) (SL_1218 hC e2 e3 hX hT hled k23 h23)
      | 31, hj =>
        cases hj
        refine ⟨_, 1291, rfl, rfl, (?_ : SdS X 1291 [(0, 6), (1, 18), (2, 20), (3, 101), (4, 0)] [] _)⟩
        exact SdS.weak (by decide) (SL_1291 hC e2 e3 hX hT hled k23 h23)
      | 32, hj =>
        cases hj
        refine ⟨_, 1316, rfl, rfl, (?_ : SdS X 1316 [(0, 6), (1, 18), (2, 20), (3, 101), (4, 0)] [] _)⟩
        exact SdS.weak (by decide) (SL_1316 hC e2 e3 hX hT hled k23 h23)
      | 33, hj =>
        cases hj
        refine ⟨_, 1329, rfl, rfl, (?_ : SdS X 1329 [(0, 6), (1, 18), (2, 20), (3, 101), (4, 0)] [] _)⟩
        exact SdS.weak (by decide) (SL_1329 hC e2 e3 hX hT hled k23 h23)
      | 34, hj =>
        cases hj
        refine ⟨_, 1418, rfl, rfl, (?_ : SdS X 1418 [(0, 6), (1, 18), (2, 20), (3, 101), (4, 0)] [] _)⟩
        exact SdS.weak (by decide) (SL_1418 hC e2 e3 hX hT hled k23 h23)
      | 35, hj =>
        cases hj
        refine ⟨_, 1467, rfl, rfl, (?_ : SdS X 1467 [(0, 6), (1, 18), (2, 20), (3, 101), (4, 0)] [] _)⟩
        exact SdS.weak (by decide) (SL_1467 hC e2 e3 hX hT hled k23 h23)
      | 36, hj =>
        cases hj
        refine ⟨_, 1554, rfl, rfl, (?_ : SdS X 1554 [(0, 6), (1, 18), (2, 20), (3, 101), (4, 0)] [] _)⟩
        exact SdS.weak (by decide) (SL_1554 hC e2 e3 hX hT hled k23 h23)
      | 37, hj =>
        cases hj
        refine ⟨_, 1579, rfl, rfl, (?_ : SdS X 1579 [(0, 6), (1, 18), (2, 20), (3, 101), (4, 0)] [] _)⟩
        exact SdS.weak (by decide) (SL_1579 hC e2 e3 hX hT hled k23 h23)
      | 38, hj =>
        cases hj
        refine ⟨_, 1592, rfl, rfl, (?_ : SdS X 1592 [(0, 6), (1, 18), (2, 20), (3, 101), (4, 0)] [] _)⟩
        exact SdS.weak (by decide) (SL_1592 hC e2 e3 hX hT hled k23 h23)
      | 39, hj =>
        cases hj
        refine ⟨_, 1648, rfl, rfl, (?_ : SdS X 1648 [(0, 6), (1, 18), (2, 20), (3, 101), (4, 0)] [] _)⟩
        exact SdS.weak (by decide) (SL_1648 hC e2 e3 hX hT hled k23 h23)
      | 40, hj =>
        cases hj
        refine ⟨_, 1673, rfl, rfl, (?_ : SdS X 1673 [(0, 6), (1, 18), (2, 20), (3, 101), (4, 0)] [] _)⟩
        exact SdS.weak (by decide) (SL_1673 hC e2 e3 hX hT hled k23 h23)
      | j + 41, hj => exact absurd hj (by simp)
    · exact SdS.weak (by decide) (SL_1686 hC e2 e3 hX hT hled k23 h23)
