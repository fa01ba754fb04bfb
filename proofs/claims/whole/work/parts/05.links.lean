theorem ac_char : Cond.arrayClass .char ∈ zts := zin (List.mem_of_getElem? (i := 182) (by decide +kernel)) rfl
theorem ac_int : Cond.arrayClass .int ∈ zts := zin (List.mem_of_getElem? (i := 117) (by decide +kernel)) rfl
theorem ac_long : Cond.arrayClass .long ∈ zts := zin (List.mem_of_getElem? (i := 203) (by decide +kernel)) rfl
theorem cl_L_10 : Cond.classLink RL 10 RX7 ∈ zts := zin (List.mem_of_getElem? (i := 723) (by decide +kernel)) rfl
theorem cl_L_7 : Cond.classLink RL 7 RX6 ∈ zts := zin (List.mem_of_getElem? (i := 66) (by decide +kernel)) rfl
theorem cl_X5_18 : Cond.classLink RX5 18 RX1 ∈ zts := zin (List.mem_of_getElem? (i := 118) (by decide +kernel)) rfl
theorem cl_X5_9 : Cond.classLink RX5 9 RX2 ∈ zts := zin (List.mem_of_getElem? (i := 80) (by decide +kernel)) rfl
theorem cl_X6_23 : Cond.classLink RX6 23 RX4 ∈ zts := zin (List.mem_of_getElem? (i := 164) (by decide +kernel)) rfl
theorem cl_X6_30 : Cond.classLink RX6 30 RX3 ∈ zts := zin (List.mem_of_getElem? (i := 183) (by decide +kernel)) rfl
theorem cl_X6_37 : Cond.classLink RX6 37 RX2 ∈ zts := zin (List.mem_of_getElem? (i := 204) (by decide +kernel)) rfl
theorem cl_X6_44 : Cond.classLink RX6 44 RX1 ∈ zts := zin (List.mem_of_getElem? (i := 206) (by decide +kernel)) rfl
theorem cl_X6_51 : Cond.classLink RX6 51 RX0 ∈ zts := zin (List.mem_of_getElem? (i := 208) (by decide +kernel)) rfl
theorem cl_X6_7 : Cond.classLink RX6 7 RX5 ∈ zts := zin (List.mem_of_getElem? (i := 74) (by decide +kernel)) rfl
theorem kc_X2_91 : Cond.constant RX2 91 (65536) ∈ zts := zin (List.mem_of_getElem? (i := 508) (by decide +kernel)) rfl
theorem kc_X7_165 : Cond.constant RX7 165 (65536) ∈ zts := zin (List.mem_of_getElem? (i := 946) (by decide +kernel)) rfl
theorem kl_L_144 : Cond.constantLong RL 144 (4294967295) ∈ zts := zin (List.mem_of_getElem? (i := 1074) (by decide +kernel)) rfl
theorem kl_X2_85 : Cond.constantLong RX2 85 (1103515245) ∈ zts := zin (List.mem_of_getElem? (i := 505) (by decide +kernel)) rfl
theorem kl_X2_87 : Cond.constantLong RX2 87 (12345) ∈ zts := zin (List.mem_of_getElem? (i := 506) (by decide +kernel)) rfl
theorem kl_X2_89 : Cond.constantLong RX2 89 (2147483647) ∈ zts := zin (List.mem_of_getElem? (i := 507) (by decide +kernel)) rfl
theorem kl_X7_109 : Cond.constantLong RX7 109 (32) ∈ zts := zin (List.mem_of_getElem? (i := 865) (by decide +kernel)) rfl
theorem kl_X7_111 : Cond.constantLong RX7 111 (126) ∈ zts := zin (List.mem_of_getElem? (i := 866) (by decide +kernel)) rfl
theorem kl_X7_126 : Cond.constantLong RX7 126 (48) ∈ zts := zin (List.mem_of_getElem? (i := 887) (by decide +kernel)) rfl
theorem kl_X7_128 : Cond.constantLong RX7 128 (57) ∈ zts := zin (List.mem_of_getElem? (i := 888) (by decide +kernel)) rfl
theorem kl_X7_130 : Cond.constantLong RX7 130 (5) ∈ zts := zin (List.mem_of_getElem? (i := 893) (by decide +kernel)) rfl
theorem kl_X7_151 : Cond.constantLong RX7 151 (40) ∈ zts := zin (List.mem_of_getElem? (i := 902) (by decide +kernel)) rfl
theorem kl_X7_159 : Cond.constantLong RX7 159 (1103515245) ∈ zts := zin (List.mem_of_getElem? (i := 943) (by decide +kernel)) rfl
theorem kl_X7_161 : Cond.constantLong RX7 161 (12345) ∈ zts := zin (List.mem_of_getElem? (i := 944) (by decide +kernel)) rfl
theorem kl_X7_163 : Cond.constantLong RX7 163 (2147483647) ∈ zts := zin (List.mem_of_getElem? (i := 945) (by decide +kernel)) rfl
theorem kl_X7_166 : Cond.constantLong RX7 166 (60) ∈ zts := zin (List.mem_of_getElem? (i := 959) (by decide +kernel)) rfl
theorem kl_X7_177 : Cond.constantLong RX7 177 (2) ∈ zts := zin (List.mem_of_getElem? (i := 976) (by decide +kernel)) rfl
theorem kl_X7_201 : Cond.constantLong RX7 201 (10) ∈ zts := zin (List.mem_of_getElem? (i := 1021) (by decide +kernel)) rfl
theorem kl_X7_215 : Cond.constantLong RX7 215 (8) ∈ zts := zin (List.mem_of_getElem? (i := 1040) (by decide +kernel)) rfl
theorem kl_X7_225 : Cond.constantLong RX7 225 (24) ∈ zts := zin (List.mem_of_getElem? (i := 1057) (by decide +kernel)) rfl
theorem kl_X7_48 : Cond.constantLong RX7 48 (3) ∈ zts := zin (List.mem_of_getElem? (i := 844) (by decide +kernel)) rfl
theorem kl_X7_89 : Cond.constantLong RX7 89 (4) ∈ zts := zin (List.mem_of_getElem? (i := 803) (by decide +kernel)) rfl
theorem kl_X7_91 : Cond.constantLong RX7 91 (63) ∈ zts := zin (List.mem_of_getElem? (i := 807) (by decide +kernel)) rfl
theorem kl_X7_93 : Cond.constantLong RX7 93 (9) ∈ zts := zin (List.mem_of_getElem? (i := 808) (by decide +kernel)) rfl
theorem fl_X0_14 : Cond.fieldLink RX0 14 "RefusedStones$Choice" "which" "I" ∈ zts := zin (List.mem_of_getElem? (i := 218) (by decide +kernel)) rfl
theorem fl_X0_18 : Cond.fieldLink RX0 18 "RefusedStones$Choice" "falls" "I" ∈ zts := zin (List.mem_of_getElem? (i := 220) (by decide +kernel)) rfl
theorem fl_X0_21 : Cond.fieldLink RX0 21 "RefusedStones$Choice" "overs" "I" ∈ zts := zin (List.mem_of_getElem? (i := 222) (by decide +kernel)) rfl
theorem fl_X1_15 : Cond.fieldLink RX1 15 "RefusedStones$Crowd" "looks" "[I" ∈ zts := zin (List.mem_of_getElem? (i := 127) (by decide +kernel)) rfl
theorem fl_X1_18 : Cond.fieldLink RX1 18 "RefusedStones$Crowd" "everies" "[I" ∈ zts := zin (List.mem_of_getElem? (i := 129) (by decide +kernel)) rfl
theorem fl_X1_21 : Cond.fieldLink RX1 21 "RefusedStones$Crowd" "size" "I" ∈ zts := zin (List.mem_of_getElem? (i := 131) (by decide +kernel)) rfl
theorem fl_X1_9 : Cond.fieldLink RX1 9 "RefusedStones$Crowd" "kinds" "[I" ∈ zts := zin (List.mem_of_getElem? (i := 124) (by decide +kernel)) rfl
theorem fl_X2_15 : Cond.fieldLink RX2 15 "RefusedStones$Moment" "listed" "I" ∈ zts := zin (List.mem_of_getElem? (i := 89) (by decide +kernel)) rfl
theorem fl_X2_19 : Cond.fieldLink RX2 19 "RefusedStones$Moment" "day" "I" ∈ zts := zin (List.mem_of_getElem? (i := 92) (by decide +kernel)) rfl
theorem fl_X2_22 : Cond.fieldLink RX2 22 "RefusedStones$Moment" "over" "I" ∈ zts := zin (List.mem_of_getElem? (i := 94) (by decide +kernel)) rfl
theorem fl_X2_25 : Cond.fieldLink RX2 25 "RefusedStones$Moment" "refused" "I" ∈ zts := zin (List.mem_of_getElem? (i := 96) (by decide +kernel)) rfl
theorem fl_X2_28 : Cond.fieldLink RX2 28 "RefusedStones$Moment" "fell" "I" ∈ zts := zin (List.mem_of_getElem? (i := 98) (by decide +kernel)) rfl
theorem fl_X2_31 : Cond.fieldLink RX2 31 "RefusedStones$Moment" "draw" "I" ∈ zts := zin (List.mem_of_getElem? (i := 100) (by decide +kernel)) rfl
theorem fl_X2_48 : Cond.fieldLink RX2 48 "RefusedStones$Crowd" "size" "I" ∈ zts := zin (List.mem_of_getElem? (i := 134) (by decide +kernel)) rfl
theorem fl_X2_57 : Cond.fieldLink RX2 57 "RefusedStones$Crowd" "kinds" "[I" ∈ zts := zin (List.mem_of_getElem? (i := 126) (by decide +kernel)) rfl
theorem fl_X2_9 : Cond.fieldLink RX2 9 "RefusedStones$Moment" "heaps" "[I" ∈ zts := zin (List.mem_of_getElem? (i := 86) (by decide +kernel)) rfl
theorem fl_X3_15 : Cond.fieldLink RX3 15 "RefusedStones$Sheet" "lane" "I" ∈ zts := zin (List.mem_of_getElem? (i := 192) (by decide +kernel)) rfl
theorem fl_X3_19 : Cond.fieldLink RX3 19 "RefusedStones$Sheet" "size" "I" ∈ zts := zin (List.mem_of_getElem? (i := 194) (by decide +kernel)) rfl
theorem fl_X3_9 : Cond.fieldLink RX3 9 "RefusedStones$Sheet" "items" "[J" ∈ zts := zin (List.mem_of_getElem? (i := 190) (by decide +kernel)) rfl
theorem fl_X4_15 : Cond.fieldLink RX4 15 "RefusedStones$Tape" "length" "I" ∈ zts := zin (List.mem_of_getElem? (i := 171) (by decide +kernel)) rfl
theorem fl_X4_19 : Cond.fieldLink RX4 19 "RefusedStones$Tape" "place" "I" ∈ zts := zin (List.mem_of_getElem? (i := 173) (by decide +kernel)) rfl
theorem fl_X4_26 : Cond.fieldLink RX4 26 "RefusedStones$Moment" "listed" "I" ∈ zts := zin (List.mem_of_getElem? (i := 91) (by decide +kernel)) rfl
theorem fl_X4_31 : Cond.fieldLink RX4 31 "RefusedStones$Crowd" "size" "I" ∈ zts := zin (List.mem_of_getElem? (i := 133) (by decide +kernel)) rfl
theorem fl_X4_59 : Cond.fieldLink RX4 59 "RefusedStones$Moment" "heaps" "[I" ∈ zts := zin (List.mem_of_getElem? (i := 88) (by decide +kernel)) rfl
theorem fl_X4_9 : Cond.fieldLink RX4 9 "RefusedStones$Tape" "letters" "[C" ∈ zts := zin (List.mem_of_getElem? (i := 170) (by decide +kernel)) rfl
theorem fl_X5_12 : Cond.fieldLink RX5 12 "RefusedStones$World" "now" "LRefusedStones$Moment;" ∈ zts := zin (List.mem_of_getElem? (i := 145) (by decide +kernel)) rfl
theorem fl_X5_21 : Cond.fieldLink RX5 21 "RefusedStones$World" "crowd" "LRefusedStones$Crowd;" ∈ zts := zin (List.mem_of_getElem? (i := 147) (by decide +kernel)) rfl
theorem fl_X5_25 : Cond.fieldLink RX5 25 "RefusedStones$World" "past" "[LRefusedStones$Moment;" ∈ zts := zin (List.mem_of_getElem? (i := 149) (by decide +kernel)) rfl
theorem fl_X5_29 : Cond.fieldLink RX5 29 "RefusedStones$World" "oldest" "I" ∈ zts := zin (List.mem_of_getElem? (i := 150) (by decide +kernel)) rfl
theorem fl_X5_33 : Cond.fieldLink RX5 33 "RefusedStones$World" "known" "I" ∈ zts := zin (List.mem_of_getElem? (i := 151) (by decide +kernel)) rfl
theorem fl_X6_10 : Cond.fieldLink RX6 10 "RefusedStones" "world" "LRefusedStones$World;" ∈ zts := zin (List.mem_of_getElem? (i := 231) (by decide +kernel)) rfl
theorem fl_X6_101 : Cond.fieldLink RX6 101 "RefusedStones$Moment" "day" "I" ∈ zts := zin (List.mem_of_getElem? (i := 93) (by decide +kernel)) rfl
theorem fl_X6_111 : Cond.fieldLink RX6 111 "RefusedStones$Moment" "listed" "I" ∈ zts := zin (List.mem_of_getElem? (i := 90) (by decide +kernel)) rfl
theorem fl_X6_125 : Cond.fieldLink RX6 125 "RefusedStones$Moment" "heaps" "[I" ∈ zts := zin (List.mem_of_getElem? (i := 87) (by decide +kernel)) rfl
theorem fl_X6_133 : Cond.fieldLink RX6 133 "RefusedStones$Tape" "length" "I" ∈ zts := zin (List.mem_of_getElem? (i := 172) (by decide +kernel)) rfl
theorem fl_X6_140 : Cond.fieldLink RX6 140 "RefusedStones$Tape" "place" "I" ∈ zts := zin (List.mem_of_getElem? (i := 174) (by decide +kernel)) rfl
theorem fl_X6_150 : Cond.fieldLink RX6 150 "RefusedStones$Moment" "over" "I" ∈ zts := zin (List.mem_of_getElem? (i := 95) (by decide +kernel)) rfl
theorem fl_X6_153 : Cond.fieldLink RX6 153 "RefusedStones$Moment" "refused" "I" ∈ zts := zin (List.mem_of_getElem? (i := 97) (by decide +kernel)) rfl
theorem fl_X6_156 : Cond.fieldLink RX6 156 "RefusedStones$Moment" "fell" "I" ∈ zts := zin (List.mem_of_getElem? (i := 99) (by decide +kernel)) rfl
theorem fl_X6_16 : Cond.fieldLink RX6 16 "RefusedStones" "kept" "LRefusedStones$World;" ∈ zts := zin (List.mem_of_getElem? (i := 232) (by decide +kernel)) rfl
theorem fl_X6_166 : Cond.fieldLink RX6 166 "RefusedStones$World" "known" "I" ∈ zts := zin (List.mem_of_getElem? (i := 152) (by decide +kernel)) rfl
theorem fl_X6_188 : Cond.fieldLink RX6 188 "RefusedStones$Moment" "draw" "I" ∈ zts := zin (List.mem_of_getElem? (i := 101) (by decide +kernel)) rfl
theorem fl_X6_19 : Cond.fieldLink RX6 19 "RefusedStones" "isKept" "Z" ∈ zts := zin (List.mem_of_getElem? (i := 233) (by decide +kernel)) rfl
theorem fl_X6_217 : Cond.fieldLink RX6 217 "RefusedStones$Choice" "which" "I" ∈ zts := zin (List.mem_of_getElem? (i := 219) (by decide +kernel)) rfl
theorem fl_X6_220 : Cond.fieldLink RX6 220 "RefusedStones$Choice" "falls" "I" ∈ zts := zin (List.mem_of_getElem? (i := 221) (by decide +kernel)) rfl
theorem fl_X6_223 : Cond.fieldLink RX6 223 "RefusedStones$Choice" "overs" "I" ∈ zts := zin (List.mem_of_getElem? (i := 223) (by decide +kernel)) rfl
theorem fl_X6_26 : Cond.fieldLink RX6 26 "RefusedStones" "tape" "LRefusedStones$Tape;" ∈ zts := zin (List.mem_of_getElem? (i := 234) (by decide +kernel)) rfl
theorem fl_X6_267 : Cond.fieldLink RX6 267 "RefusedStones$Sheet" "items" "[J" ∈ zts := zin (List.mem_of_getElem? (i := 191) (by decide +kernel)) rfl
theorem fl_X6_274 : Cond.fieldLink RX6 274 "RefusedStones$Sheet" "lane" "I" ∈ zts := zin (List.mem_of_getElem? (i := 193) (by decide +kernel)) rfl
theorem fl_X6_277 : Cond.fieldLink RX6 277 "RefusedStones$Sheet" "size" "I" ∈ zts := zin (List.mem_of_getElem? (i := 195) (by decide +kernel)) rfl
theorem fl_X6_32 : Cond.fieldLink RX6 32 "RefusedStones" "sheets" "[LRefusedStones$Sheet;" ∈ zts := zin (List.mem_of_getElem? (i := 235) (by decide +kernel)) rfl
theorem fl_X6_40 : Cond.fieldLink RX6 40 "RefusedStones" "fore" "LRefusedStones$Moment;" ∈ zts := zin (List.mem_of_getElem? (i := 236) (by decide +kernel)) rfl
theorem fl_X6_47 : Cond.fieldLink RX6 47 "RefusedStones" "guess" "LRefusedStones$Crowd;" ∈ zts := zin (List.mem_of_getElem? (i := 237) (by decide +kernel)) rfl
theorem fl_X6_54 : Cond.fieldLink RX6 54 "RefusedStones" "choice" "LRefusedStones$Choice;" ∈ zts := zin (List.mem_of_getElem? (i := 238) (by decide +kernel)) rfl
theorem fl_X6_66 : Cond.fieldLink RX6 66 "RefusedStones$World" "crowd" "LRefusedStones$Crowd;" ∈ zts := zin (List.mem_of_getElem? (i := 148) (by decide +kernel)) rfl
theorem fl_X6_80 : Cond.fieldLink RX6 80 "RefusedStones$Crowd" "size" "I" ∈ zts := zin (List.mem_of_getElem? (i := 132) (by decide +kernel)) rfl
theorem fl_X6_88 : Cond.fieldLink RX6 88 "RefusedStones$World" "now" "LRefusedStones$Moment;" ∈ zts := zin (List.mem_of_getElem? (i := 146) (by decide +kernel)) rfl
theorem fl_X6_91 : Cond.fieldLink RX6 91 "RefusedStones$Crowd" "kinds" "[I" ∈ zts := zin (List.mem_of_getElem? (i := 125) (by decide +kernel)) rfl
theorem fl_X6_95 : Cond.fieldLink RX6 95 "RefusedStones$Crowd" "looks" "[I" ∈ zts := zin (List.mem_of_getElem? (i := 128) (by decide +kernel)) rfl
theorem fl_X6_98 : Cond.fieldLink RX6 98 "RefusedStones$Crowd" "everies" "[I" ∈ zts := zin (List.mem_of_getElem? (i := 130) (by decide +kernel)) rfl
theorem fl_X7_113 : Cond.fieldLink RX7 113 "RefusedStonesModel" "typed" "I" ∈ zts := zin (List.mem_of_getElem? (i := 732) (by decide +kernel)) rfl
theorem fl_X7_116 : Cond.fieldLink RX7 116 "RefusedStonesModel" "place" "I" ∈ zts := zin (List.mem_of_getElem? (i := 733) (by decide +kernel)) rfl
theorem fl_X7_119 : Cond.fieldLink RX7 119 "RefusedStonesModel" "isFault" "Z" ∈ zts := zin (List.mem_of_getElem? (i := 734) (by decide +kernel)) rfl
theorem fl_X7_13 : Cond.fieldLink RX7 13 "RefusedStonesModel" "tape" "[I" ∈ zts := zin (List.mem_of_getElem? (i := 731) (by decide +kernel)) rfl
theorem fl_X7_139 : Cond.fieldLink RX7 139 "RefusedStonesModel" "readList" "I" ∈ zts := zin (List.mem_of_getElem? (i := 736) (by decide +kernel)) rfl
theorem fl_X7_16 : Cond.fieldLink RX7 16 "RefusedStonesModel" "readStones" "[I" ∈ zts := zin (List.mem_of_getElem? (i := 735) (by decide +kernel)) rfl
theorem fl_X7_182 : Cond.fieldLink RX7 182 "RefusedStonesModel" "fell" "I" ∈ zts := zin (List.mem_of_getElem? (i := 741) (by decide +kernel)) rfl
theorem fl_X7_185 : Cond.fieldLink RX7 185 "RefusedStonesModel" "over" "I" ∈ zts := zin (List.mem_of_getElem? (i := 742) (by decide +kernel)) rfl
theorem fl_X7_188 : Cond.fieldLink RX7 188 "RefusedStonesModel" "bestFell" "I" ∈ zts := zin (List.mem_of_getElem? (i := 743) (by decide +kernel)) rfl
theorem fl_X7_19 : Cond.fieldLink RX7 19 "RefusedStonesModel" "read" "[I" ∈ zts := zin (List.mem_of_getElem? (i := 737) (by decide +kernel)) rfl
theorem fl_X7_191 : Cond.fieldLink RX7 191 "RefusedStonesModel" "bestOver" "I" ∈ zts := zin (List.mem_of_getElem? (i := 744) (by decide +kernel)) rfl
theorem fl_X7_203 : Cond.fieldLink RX7 203 "RefusedStonesModel" "keptUndos" "I" ∈ zts := zin (List.mem_of_getElem? (i := 746) (by decide +kernel)) rfl
theorem fl_X7_206 : Cond.fieldLink RX7 206 "RefusedStonesModel" "isKept" "Z" ∈ zts := zin (List.mem_of_getElem? (i := 747) (by decide +kernel)) rfl
theorem fl_X7_22 : Cond.fieldLink RX7 22 "RefusedStonesModel" "undone" "[I" ∈ zts := zin (List.mem_of_getElem? (i := 738) (by decide +kernel)) rfl
theorem fl_X7_25 : Cond.fieldLink RX7 25 "RefusedStonesModel" "aside" "[I" ∈ zts := zin (List.mem_of_getElem? (i := 740) (by decide +kernel)) rfl
theorem fl_X7_28 : Cond.fieldLink RX7 28 "RefusedStonesModel" "kept" "[I" ∈ zts := zin (List.mem_of_getElem? (i := 745) (by decide +kernel)) rfl
theorem fl_X7_31 : Cond.fieldLink RX7 31 "RefusedStonesModel" "lanes" "[I" ∈ zts := zin (List.mem_of_getElem? (i := 748) (by decide +kernel)) rfl
theorem fl_X7_34 : Cond.fieldLink RX7 34 "RefusedStonesModel" "sizes" "[I" ∈ zts := zin (List.mem_of_getElem? (i := 749) (by decide +kernel)) rfl
theorem fl_X7_37 : Cond.fieldLink RX7 37 "RefusedStonesModel" "items" "[J" ∈ zts := zin (List.mem_of_getElem? (i := 750) (by decide +kernel)) rfl
theorem fl_X7_41 : Cond.fieldLink RX7 41 "RefusedStonesModel" "moved" "[J" ∈ zts := zin (List.mem_of_getElem? (i := 751) (by decide +kernel)) rfl
theorem fl_X7_61 : Cond.fieldLink RX7 61 "RefusedStonesModel" "fallen" "I" ∈ zts := zin (List.mem_of_getElem? (i := 730) (by decide +kernel)) rfl
theorem fl_X7_7 : Cond.fieldLink RX7 7 "RefusedStonesModel" "now" "[I" ∈ zts := zin (List.mem_of_getElem? (i := 729) (by decide +kernel)) rfl
theorem fl_X7_86 : Cond.fieldLink RX7 86 "RefusedStonesModel" "undos" "I" ∈ zts := zin (List.mem_of_getElem? (i := 739) (by decide +kernel)) rfl
theorem im_oi : Cond.instanceMethod objectInit ∈ zts := zin (List.mem_of_getElem? (i := 72) (by decide +kernel)) rfl
theorem in_X0 : Cond.instantiable RX0 3 ∈ zts := zin (List.mem_of_getElem? (i := 209) (by decide +kernel)) rfl
theorem in_X1 : Cond.instantiable RX1 4 ∈ zts := zin (List.mem_of_getElem? (i := 119) (by decide +kernel)) rfl
theorem in_X2 : Cond.instantiable RX2 7 ∈ zts := zin (List.mem_of_getElem? (i := 81) (by decide +kernel)) rfl
theorem in_X3 : Cond.instantiable RX3 3 ∈ zts := zin (List.mem_of_getElem? (i := 185) (by decide +kernel)) rfl
theorem in_X4 : Cond.instantiable RX4 3 ∈ zts := zin (List.mem_of_getElem? (i := 165) (by decide +kernel)) rfl
theorem in_X5 : Cond.instantiable RX5 5 ∈ zts := zin (List.mem_of_getElem? (i := 75) (by decide +kernel)) rfl
theorem in_X6 : Cond.instantiable RX6 8 ∈ zts := zin (List.mem_of_getElem? (i := 67) (by decide +kernel)) rfl
theorem in_X7 : Cond.instantiable RX7 23 ∈ zts := zin (List.mem_of_getElem? (i := 724) (by decide +kernel)) rfl
theorem ml_L_100 : Cond.methodLink RL 100 yX7_less ∈ zts := zin (List.mem_of_getElem? (i := 1009) (by decide +kernel)) rfl
theorem ml_L_101 : Cond.methodLink RL 101 yX6_stands ∈ zts := zin (List.mem_of_getElem? (i := 621) (by decide +kernel)) rfl
theorem ml_L_104 : Cond.methodLink RL 104 yX7_stands ∈ zts := zin (List.mem_of_getElem? (i := 985) (by decide +kernel)) rfl
theorem ml_L_105 : Cond.methodLink RL 105 yX6_bears ∈ zts := zin (List.mem_of_getElem? (i := 625) (by decide +kernel)) rfl
theorem ml_L_108 : Cond.methodLink RL 108 yX7_bears ∈ zts := zin (List.mem_of_getElem? (i := 1013) (by decide +kernel)) rfl
theorem ml_L_109 : Cond.methodLink RL 109 yX6_floods ∈ zts := zin (List.mem_of_getElem? (i := 633) (by decide +kernel)) rfl
theorem ml_L_112 : Cond.methodLink RL 112 yX7_floods ∈ zts := zin (List.mem_of_getElem? (i := 1017) (by decide +kernel)) rfl
theorem ml_L_113 : Cond.methodLink RL 113 yX6_image ∈ zts := zin (List.mem_of_getElem? (i := 648) (by decide +kernel)) rfl
theorem ml_L_116 : Cond.methodLink RL 116 yX7_image ∈ zts := zin (List.mem_of_getElem? (i := 1022) (by decide +kernel)) rfl
theorem ml_L_117 : Cond.methodLink RL 117 yX6_restore ∈ zts := zin (List.mem_of_getElem? (i := 656) (by decide +kernel)) rfl
theorem ml_L_12 : Cond.methodLink RL 12 yX7_init ∈ zts := zin (List.mem_of_getElem? (i := 725) (by decide +kernel)) rfl
theorem ml_L_120 : Cond.methodLink RL 120 yX7_restore ∈ zts := zin (List.mem_of_getElem? (i := 1026) (by decide +kernel)) rfl
theorem ml_L_121 : Cond.methodLink RL 121 yX6_lists ∈ zts := zin (List.mem_of_getElem? (i := 660) (by decide +kernel)) rfl
theorem ml_L_125 : Cond.methodLink RL 125 yX7_lists ∈ zts := zin (List.mem_of_getElem? (i := 1030) (by decide +kernel)) rfl
theorem ml_L_126 : Cond.methodLink RL 126 yX6_seen ∈ zts := zin (List.mem_of_getElem? (i := 679) (by decide +kernel)) rfl
theorem ml_L_13 : Cond.methodLink RL 13 yX6_traveller ∈ zts := zin (List.mem_of_getElem? (i := 256) (by decide +kernel)) rfl
theorem ml_L_130 : Cond.methodLink RL 130 yX7_seen ∈ zts := zin (List.mem_of_getElem? (i := 1049) (by decide +kernel)) rfl
theorem ml_L_131 : Cond.methodLink RL 131 yX6_film ∈ zts := zin (List.mem_of_getElem? (i := 692) (by decide +kernel)) rfl
theorem ml_L_135 : Cond.methodLink RL 135 yX7_film ∈ zts := zin (List.mem_of_getElem? (i := 1053) (by decide +kernel)) rfl
theorem ml_L_136 : Cond.methodLink RL 136 yX6_sheet ∈ zts := zin (List.mem_of_getElem? (i := 696) (by decide +kernel)) rfl
theorem ml_L_139 : Cond.methodLink RL 139 yX7_sheet ∈ zts := zin (List.mem_of_getElem? (i := 1058) (by decide +kernel)) rfl
theorem ml_L_140 : Cond.methodLink RL 140 yX6_drop ∈ zts := zin (List.mem_of_getElem? (i := 704) (by decide +kernel)) rfl
theorem ml_L_143 : Cond.methodLink RL 143 yX7_drop ∈ zts := zin (List.mem_of_getElem? (i := 1062) (by decide +kernel)) rfl
theorem ml_L_146 : Cond.methodLink RL 146 yX6_item ∈ zts := zin (List.mem_of_getElem? (i := 708) (by decide +kernel)) rfl
theorem ml_L_150 : Cond.methodLink RL 150 yX7_item ∈ zts := zin (List.mem_of_getElem? (i := 1066) (by decide +kernel)) rfl
theorem ml_L_151 : Cond.methodLink RL 151 yX6_copy ∈ zts := zin (List.mem_of_getElem? (i := 715) (by decide +kernel)) rfl
theorem ml_L_154 : Cond.methodLink RL 154 yX7_copy ∈ zts := zin (List.mem_of_getElem? (i := 1070) (by decide +kernel)) rfl
theorem ml_L_17 : Cond.methodLink RL 17 yX7_traveller ∈ zts := zin (List.mem_of_getElem? (i := 799) (by decide +kernel)) rfl
theorem ml_L_18 : Cond.methodLink RL 18 yX6_of ∈ zts := zin (List.mem_of_getElem? (i := 279) (by decide +kernel)) rfl
theorem ml_L_22 : Cond.methodLink RL 22 yX7_of ∈ zts := zin (List.mem_of_getElem? (i := 813) (by decide +kernel)) rfl
theorem ml_L_23 : Cond.methodLink RL 23 yX6_wears ∈ zts := zin (List.mem_of_getElem? (i := 304) (by decide +kernel)) rfl
theorem ml_L_26 : Cond.methodLink RL 26 yX7_wears ∈ zts := zin (List.mem_of_getElem? (i := 837) (by decide +kernel)) rfl
theorem ml_L_27 : Cond.methodLink RL 27 yX6_stones ∈ zts := zin (List.mem_of_getElem? (i := 311) (by decide +kernel)) rfl
theorem ml_L_31 : Cond.methodLink RL 31 yX7_stones ∈ zts := zin (List.mem_of_getElem? (i := 849) (by decide +kernel)) rfl
theorem ml_L_32 : Cond.methodLink RL 32 yX6_type ∈ zts := zin (List.mem_of_getElem? (i := 315) (by decide +kernel)) rfl
theorem ml_L_35 : Cond.methodLink RL 35 yX7_type ∈ zts := zin (List.mem_of_getElem? (i := 861) (by decide +kernel)) rfl
theorem ml_L_36 : Cond.methodLink RL 36 yX6_bridge ∈ zts := zin (List.mem_of_getElem? (i := 328) (by decide +kernel)) rfl
theorem ml_L_40 : Cond.methodLink RL 40 yX7_bridge ∈ zts := zin (List.mem_of_getElem? (i := 867) (by decide +kernel)) rfl
theorem ml_L_41 : Cond.methodLink RL 41 yX6_count ∈ zts := zin (List.mem_of_getElem? (i := 473) (by decide +kernel)) rfl
theorem ml_L_44 : Cond.methodLink RL 44 yX7_count ∈ zts := zin (List.mem_of_getElem? (i := 853) (by decide +kernel)) rfl
theorem ml_L_45 : Cond.methodLink RL 45 yX6_days ∈ zts := zin (List.mem_of_getElem? (i := 485) (by decide +kernel)) rfl
theorem ml_L_48 : Cond.methodLink RL 48 yX7_days ∈ zts := zin (List.mem_of_getElem? (i := 898) (by decide +kernel)) rfl
theorem ml_L_49 : Cond.methodLink RL 49 yX6_list ∈ zts := zin (List.mem_of_getElem? (i := 530) (by decide +kernel)) rfl
theorem ml_L_52 : Cond.methodLink RL 52 yX7_list ∈ zts := zin (List.mem_of_getElem? (i := 923) (by decide +kernel)) rfl
theorem ml_L_53 : Cond.methodLink RL 53 yX6_mend ∈ zts := zin (List.mem_of_getElem? (i := 534) (by decide +kernel)) rfl
theorem ml_L_56 : Cond.methodLink RL 56 yX7_mend ∈ zts := zin (List.mem_of_getElem? (i := 927) (by decide +kernel)) rfl
theorem ml_L_57 : Cond.methodLink RL 57 yX6_flood ∈ zts := zin (List.mem_of_getElem? (i := 539) (by decide +kernel)) rfl
theorem ml_L_60 : Cond.methodLink RL 60 yX7_flood ∈ zts := zin (List.mem_of_getElem? (i := 931) (by decide +kernel)) rfl
theorem ml_L_61 : Cond.methodLink RL 61 yX6_drift ∈ zts := zin (List.mem_of_getElem? (i := 552) (by decide +kernel)) rfl
theorem ml_L_64 : Cond.methodLink RL 64 yX7_drift ∈ zts := zin (List.mem_of_getElem? (i := 939) (by decide +kernel)) rfl
theorem ml_L_65 : Cond.methodLink RL 65 yX6_undo ∈ zts := zin (List.mem_of_getElem? (i := 556) (by decide +kernel)) rfl
theorem ml_L_68 : Cond.methodLink RL 68 yX7_undo ∈ zts := zin (List.mem_of_getElem? (i := 947) (by decide +kernel)) rfl
theorem ml_L_69 : Cond.methodLink RL 69 yX6_seed ∈ zts := zin (List.mem_of_getElem? (i := 564) (by decide +kernel)) rfl
theorem ml_L_72 : Cond.methodLink RL 72 yX7_seed ∈ zts := zin (List.mem_of_getElem? (i := 951) (by decide +kernel)) rfl
theorem ml_L_73 : Cond.methodLink RL 73 yX6_ahead ∈ zts := zin (List.mem_of_getElem? (i := 568) (by decide +kernel)) rfl
theorem ml_L_76 : Cond.methodLink RL 76 yX7_ahead ∈ zts := zin (List.mem_of_getElem? (i := 955) (by decide +kernel)) rfl
theorem ml_L_77 : Cond.methodLink RL 77 yX6_then ∈ zts := zin (List.mem_of_getElem? (i := 577) (by decide +kernel)) rfl
theorem ml_L_80 : Cond.methodLink RL 80 yX7_then ∈ zts := zin (List.mem_of_getElem? (i := 972) (by decide +kernel)) rfl
theorem ml_L_81 : Cond.methodLink RL 81 yX6_hole ∈ zts := zin (List.mem_of_getElem? (i := 581) (by decide +kernel)) rfl
theorem ml_L_84 : Cond.methodLink RL 84 yX7_hole ∈ zts := zin (List.mem_of_getElem? (i := 977) (by decide +kernel)) rfl
theorem ml_L_85 : Cond.methodLink RL 85 yX6_first ∈ zts := zin (List.mem_of_getElem? (i := 589) (by decide +kernel)) rfl
theorem ml_L_88 : Cond.methodLink RL 88 yX7_first ∈ zts := zin (List.mem_of_getElem? (i := 989) (by decide +kernel)) rfl
theorem ml_L_89 : Cond.methodLink RL 89 yX6_wise ∈ zts := zin (List.mem_of_getElem? (i := 596) (by decide +kernel)) rfl
theorem ml_L_9 : Cond.methodLink RL 9 yX6_init ∈ zts := zin (List.mem_of_getElem? (i := 68) (by decide +kernel)) rfl
theorem ml_L_92 : Cond.methodLink RL 92 yX7_wise ∈ zts := zin (List.mem_of_getElem? (i := 993) (by decide +kernel)) rfl
theorem ml_L_93 : Cond.methodLink RL 93 yX6_more ∈ zts := zin (List.mem_of_getElem? (i := 609) (by decide +kernel)) rfl
theorem ml_L_96 : Cond.methodLink RL 96 yX7_more ∈ zts := zin (List.mem_of_getElem? (i := 1001) (by decide +kernel)) rfl
theorem ml_L_97 : Cond.methodLink RL 97 yX6_less ∈ zts := zin (List.mem_of_getElem? (i := 617) (by decide +kernel)) rfl
theorem ml_X0_3 : Cond.methodLink RX0 3 objectInit ∈ zts := zin (List.mem_of_getElem? (i := 213) (by decide +kernel)) rfl
theorem ml_X0_9 : Cond.methodLink RX0 9 yX0_clear ∈ zts := zin (List.mem_of_getElem? (i := 214) (by decide +kernel)) rfl
theorem ml_X1_25 : Cond.methodLink RX1 25 yX1_hasRoom ∈ zts := zin (List.mem_of_getElem? (i := 274) (by decide +kernel)) rfl
theorem ml_X1_3 : Cond.methodLink RX1 3 objectInit ∈ zts := zin (List.mem_of_getElem? (i := 123) (by decide +kernel)) rfl
theorem ml_X2_3 : Cond.methodLink RX2 3 objectInit ∈ zts := zin (List.mem_of_getElem? (i := 85) (by decide +kernel)) rfl
theorem ml_X2_34 : Cond.methodLink RX2 34 yX2_takeHeaps ∈ zts := zin (List.mem_of_getElem? (i := 463) (by decide +kernel)) rfl
theorem ml_X2_38 : Cond.methodLink RX2 38 Lib.Math.max.name ∈ zts := zin (List.mem_of_getElem? (i := 551) (by decide +kernel)) rfl
theorem ml_X2_44 : Cond.methodLink RX2 44 yX2_lose ∈ zts := zin (List.mem_of_getElem? (i := 547) (by decide +kernel)) rfl
theorem ml_X2_53 : Cond.methodLink RX2 53 yX1_comes ∈ zts := zin (List.mem_of_getElem? (i := 513) (by decide +kernel)) rfl
theorem ml_X2_60 : Cond.methodLink RX2 60 yX1_isRefused ∈ zts := zin (List.mem_of_getElem? (i := 514) (by decide +kernel)) rfl
theorem ml_X2_66 : Cond.methodLink RX2 66 yX2_putIn ∈ zts := zin (List.mem_of_getElem? (i := 516) (by decide +kernel)) rfl
theorem ml_X2_70 : Cond.methodLink RX2 70 yX2_crosses ∈ zts := zin (List.mem_of_getElem? (i := 525) (by decide +kernel)) rfl
theorem ml_X2_74 : Cond.methodLink RX2 74 yX2_weakest ∈ zts := zin (List.mem_of_getElem? (i := 520) (by decide +kernel)) rfl
theorem ml_X2_78 : Cond.methodLink RX2 78 Lib.Math.min.name ∈ zts := zin (List.mem_of_getElem? (i := 524) (by decide +kernel)) rfl
theorem ml_X3_22 : Cond.methodLink RX3 22 yX3_holds ∈ zts := zin (List.mem_of_getElem? (i := 671) (by decide +kernel)) rfl
theorem ml_X3_3 : Cond.methodLink RX3 3 objectInit ∈ zts := zin (List.mem_of_getElem? (i := 189) (by decide +kernel)) rfl
theorem ml_X4_22 : Cond.methodLink RX4 22 yX4_hasRoom ∈ zts := zin (List.mem_of_getElem? (i := 327) (by decide +kernel)) rfl
theorem ml_X4_3 : Cond.methodLink RX4 3 objectInit ∈ zts := zin (List.mem_of_getElem? (i := 169) (by decide +kernel)) rfl
theorem ml_X4_36 : Cond.methodLink RX4 36 yX4_readsHeaps ∈ zts := zin (List.mem_of_getElem? (i := 336) (by decide +kernel)) rfl
theorem ml_X4_40 : Cond.methodLink RX4 40 yX4_passes ∈ zts := zin (List.mem_of_getElem? (i := 340) (by decide +kernel)) rfl
theorem ml_X4_44 : Cond.methodLink RX4 44 yX4_risingLooks ∈ zts := zin (List.mem_of_getElem? (i := 353) (by decide +kernel)) rfl
theorem ml_X4_48 : Cond.methodLink RX4 48 yX4_readsCrowd ∈ zts := zin (List.mem_of_getElem? (i := 357) (by decide +kernel)) rfl
theorem ml_X4_52 : Cond.methodLink RX4 52 yX4_next ∈ zts := zin (List.mem_of_getElem? (i := 344) (by decide +kernel)) rfl
theorem ml_X4_56 : Cond.methodLink RX4 56 yX4_number ∈ zts := zin (List.mem_of_getElem? (i := 348) (by decide +kernel)) rfl
theorem ml_X4_67 : Cond.methodLink RX4 67 yX4_readsTraveller ∈ zts := zin (List.mem_of_getElem? (i := 361) (by decide +kernel)) rfl
theorem ml_X4_72 : Cond.methodLink RX4 72 yJ0_indexOf_0f7a4 ∈ zts := zin (List.mem_of_getElem? (i := 366) (by decide +kernel)) rfl
theorem ml_X4_78 : Cond.methodLink RX4 78 yX1_join ∈ zts := zin (List.mem_of_getElem? (i := 450) (by decide +kernel)) rfl
theorem ml_X5_11 : Cond.methodLink RX5 11 yX2_init ∈ zts := zin (List.mem_of_getElem? (i := 82) (by decide +kernel)) rfl
theorem ml_X5_20 : Cond.methodLink RX5 20 yX1_init ∈ zts := zin (List.mem_of_getElem? (i := 120) (by decide +kernel)) rfl
theorem ml_X5_3 : Cond.methodLink RX5 3 objectInit ∈ zts := zin (List.mem_of_getElem? (i := 79) (by decide +kernel)) rfl
theorem ml_X5_36 : Cond.methodLink RX5 36 yX2_take ∈ zts := zin (List.mem_of_getElem? (i := 497) (by decide +kernel)) rfl
theorem ml_X5_40 : Cond.methodLink RX5 40 yX2_begin ∈ zts := zin (List.mem_of_getElem? (i := 459) (by decide +kernel)) rfl
theorem ml_X5_43 : Cond.methodLink RX5 43 yX1_take ∈ zts := zin (List.mem_of_getElem? (i := 467) (by decide +kernel)) rfl
theorem ml_X5_46 : Cond.methodLink RX5 46 yX5_forget ∈ zts := zin (List.mem_of_getElem? (i := 471) (by decide +kernel)) rfl
theorem ml_X6_1 : Cond.methodLink RX6 1 objectInit ∈ zts := zin (List.mem_of_getElem? (i := 71) (by decide +kernel)) rfl
theorem ml_X6_104 : Cond.methodLink RX6 104 yX1_comes ∈ zts := zin (List.mem_of_getElem? (i := 287) (by decide +kernel)) rfl
theorem ml_X6_107 : Cond.methodLink RX6 107 yX6_asNumber ∈ zts := zin (List.mem_of_getElem? (i := 291) (by decide +kernel)) rfl
theorem ml_X6_114 : Cond.methodLink RX6 114 yX1_isRefused ∈ zts := zin (List.mem_of_getElem? (i := 294) (by decide +kernel)) rfl
theorem ml_X6_117 : Cond.methodLink RX6 117 yX6_given ∈ zts := zin (List.mem_of_getElem? (i := 298) (by decide +kernel)) rfl
theorem ml_X6_121 : Cond.methodLink RX6 121 yX6_worn ∈ zts := zin (List.mem_of_getElem? (i := 308) (by decide +kernel)) rfl
theorem ml_X6_128 : Cond.methodLink RX6 128 yX4_hasRoom ∈ zts := zin (List.mem_of_getElem? (i := 319) (by decide +kernel)) rfl
theorem ml_X6_129 : Cond.methodLink RX6 129 yX4_append ∈ zts := zin (List.mem_of_getElem? (i := 323) (by decide +kernel)) rfl
theorem ml_X6_136 : Cond.methodLink RX6 136 yX4_reads ∈ zts := zin (List.mem_of_getElem? (i := 332) (by decide +kernel)) rfl
theorem ml_X6_143 : Cond.methodLink RX6 143 yX4_clear ∈ zts := zin (List.mem_of_getElem? (i := 451) (by decide +kernel)) rfl
theorem ml_X6_146 : Cond.methodLink RX6 146 yX5_begin ∈ zts := zin (List.mem_of_getElem? (i := 455) (by decide +kernel)) rfl
theorem ml_X6_159 : Cond.methodLink RX6 159 yX2_allStones ∈ zts := zin (List.mem_of_getElem? (i := 477) (by decide +kernel)) rfl
theorem ml_X6_163 : Cond.methodLink RX6 163 yX2_holes ∈ zts := zin (List.mem_of_getElem? (i := 481) (by decide +kernel)) rfl
theorem ml_X6_169 : Cond.methodLink RX6 169 yX6_live ∈ zts := zin (List.mem_of_getElem? (i := 489) (by decide +kernel)) rfl
theorem ml_X6_173 : Cond.methodLink RX6 173 yX5_remember ∈ zts := zin (List.mem_of_getElem? (i := 493) (by decide +kernel)) rfl
theorem ml_X6_176 : Cond.methodLink RX6 176 Lib.Math.min.name ∈ zts := zin (List.mem_of_getElem? (i := 538) (by decide +kernel)) rfl
theorem ml_X6_181 : Cond.methodLink RX6 181 yX2_loseAll ∈ zts := zin (List.mem_of_getElem? (i := 543) (by decide +kernel)) rfl
theorem ml_X6_185 : Cond.methodLink RX6 185 yX5_goBack ∈ zts := zin (List.mem_of_getElem? (i := 560) (by decide +kernel)) rfl
theorem ml_X6_191 : Cond.methodLink RX6 191 yX2_drawLook ∈ zts := zin (List.mem_of_getElem? (i := 501) (by decide +kernel)) rfl
theorem ml_X6_194 : Cond.methodLink RX6 194 yX2_pass ∈ zts := zin (List.mem_of_getElem? (i := 509) (by decide +kernel)) rfl
theorem ml_X6_198 : Cond.methodLink RX6 198 yX6_foretell ∈ zts := zin (List.mem_of_getElem? (i := 572) (by decide +kernel)) rfl
theorem ml_X6_202 : Cond.methodLink RX6 202 yX6_firstHole ∈ zts := zin (List.mem_of_getElem? (i := 585) (by decide +kernel)) rfl
theorem ml_X6_206 : Cond.methodLink RX6 206 yX2_take ∈ zts := zin (List.mem_of_getElem? (i := 576) (by decide +kernel)) rfl
theorem ml_X6_210 : Cond.methodLink RX6 210 yX6_isIn ∈ zts := zin (List.mem_of_getElem? (i := 593) (by decide +kernel)) rfl
theorem ml_X6_213 : Cond.methodLink RX6 213 yX0_clear ∈ zts := zin (List.mem_of_getElem? (i := 600) (by decide +kernel)) rfl
theorem ml_X6_214 : Cond.methodLink RX6 214 yX6_weigh ∈ zts := zin (List.mem_of_getElem? (i := 601) (by decide +kernel)) rfl
theorem ml_X6_226 : Cond.methodLink RX6 226 yX6_bestTurn ∈ zts := zin (List.mem_of_getElem? (i := 613) (by decide +kernel)) rfl
theorem ml_X6_229 : Cond.methodLink RX6 229 yX6_nobodyFalls ∈ zts := zin (List.mem_of_getElem? (i := 629) (by decide +kernel)) rfl
theorem ml_X6_232 : Cond.methodLink RX6 232 yX6_chance ∈ zts := zin (List.mem_of_getElem? (i := 637) (by decide +kernel)) rfl
theorem ml_X6_235 : Cond.methodLink RX6 235 yX6_isDryAfter ∈ zts := zin (List.mem_of_getElem? (i := 640) (by decide +kernel)) rfl
theorem ml_X6_238 : Cond.methodLink RX6 238 yX6_commonDivisor ∈ zts := zin (List.mem_of_getElem? (i := 645) (by decide +kernel)) rfl
theorem ml_X6_241 : Cond.methodLink RX6 241 yX5_take ∈ zts := zin (List.mem_of_getElem? (i := 652) (by decide +kernel)) rfl
theorem ml_X6_244 : Cond.methodLink RX6 244 yX0_offer ∈ zts := zin (List.mem_of_getElem? (i := 605) (by decide +kernel)) rfl
theorem ml_X6_247 : Cond.methodLink RX6 247 yX2_lose ∈ zts := zin (List.mem_of_getElem? (i := 644) (by decide +kernel)) rfl
theorem ml_X6_25 : Cond.methodLink RX6 25 yX4_init ∈ zts := zin (List.mem_of_getElem? (i := 166) (by decide +kernel)) rfl
theorem ml_X6_250 : Cond.methodLink RX6 250 yX6_isPlace ∈ zts := zin (List.mem_of_getElem? (i := 664) (by decide +kernel)) rfl
theorem ml_X6_253 : Cond.methodLink RX6 253 yX3_faultOf ∈ zts := zin (List.mem_of_getElem? (i := 667) (by decide +kernel)) rfl
theorem ml_X6_256 : Cond.methodLink RX6 256 yX6_wouldShow ∈ zts := zin (List.mem_of_getElem? (i := 675) (by decide +kernel)) rfl
theorem ml_X6_260 : Cond.methodLink RX6 260 yX6_kindsSeen ∈ zts := zin (List.mem_of_getElem? (i := 683) (by decide +kernel)) rfl
theorem ml_X6_264 : Cond.methodLink RX6 264 yX6_everiesSeen ∈ zts := zin (List.mem_of_getElem? (i := 688) (by decide +kernel)) rfl
theorem ml_X6_271 : Cond.methodLink RX6 271 yX3_renew ∈ zts := zin (List.mem_of_getElem? (i := 700) (by decide +kernel)) rfl
theorem ml_X6_278 : Cond.methodLink RX6 278 yX6_lowestBits ∈ zts := zin (List.mem_of_getElem? (i := 712) (by decide +kernel)) rfl
theorem ml_X6_282 : Cond.methodLink RX6 282 yX3_holds ∈ zts := zin (List.mem_of_getElem? (i := 719) (by decide +kernel)) rfl
theorem ml_X6_285 : Cond.methodLink RX6 285 arraycopyName ∈ zts := zin (List.mem_of_getElem? (i := 720) (by decide +kernel)) rfl
theorem ml_X6_291 : Cond.methodLink RX6 291 yX1_take ∈ zts := zin (List.mem_of_getElem? (i := 687) (by decide +kernel)) rfl
theorem ml_X6_294 : Cond.methodLink RX6 294 Lib.Math.max.name ∈ zts := zin (List.mem_of_getElem? (i := 301) (by decide +kernel)) rfl
theorem ml_X6_36 : Cond.methodLink RX6 36 yX3_init ∈ zts := zin (List.mem_of_getElem? (i := 186) (by decide +kernel)) rfl
theorem ml_X6_39 : Cond.methodLink RX6 39 yX2_init ∈ zts := zin (List.mem_of_getElem? (i := 205) (by decide +kernel)) rfl
theorem ml_X6_46 : Cond.methodLink RX6 46 yX1_init ∈ zts := zin (List.mem_of_getElem? (i := 207) (by decide +kernel)) rfl
theorem ml_X6_53 : Cond.methodLink RX6 53 yX0_init ∈ zts := zin (List.mem_of_getElem? (i := 210) (by decide +kernel)) rfl
theorem ml_X6_58 : Cond.methodLink RX6 58 yX6_isBelow ∈ zts := zin (List.mem_of_getElem? (i := 260) (by decide +kernel)) rfl
theorem ml_X6_62 : Cond.methodLink RX6 62 yX6_isWithin ∈ zts := zin (List.mem_of_getElem? (i := 263) (by decide +kernel)) rfl
theorem ml_X6_69 : Cond.methodLink RX6 69 yX1_hasRoom ∈ zts := zin (List.mem_of_getElem? (i := 266) (by decide +kernel)) rfl
theorem ml_X6_73 : Cond.methodLink RX6 73 yX1_join ∈ zts := zin (List.mem_of_getElem? (i := 270) (by decide +kernel)) rfl
theorem ml_X6_77 : Cond.methodLink RX6 77 yX5_forget ∈ zts := zin (List.mem_of_getElem? (i := 275) (by decide +kernel)) rfl
theorem ml_X6_84 : Cond.methodLink RX6 84 yX6_isTraveller ∈ zts := zin (List.mem_of_getElem? (i := 283) (by decide +kernel)) rfl
theorem ml_X6_9 : Cond.methodLink RX6 9 yX5_init ∈ zts := zin (List.mem_of_getElem? (i := 76) (by decide +kernel)) rfl
theorem ml_X7_1 : Cond.methodLink RX7 1 objectInit ∈ zts := zin (List.mem_of_getElem? (i := 728) (by decide +kernel)) rfl
theorem ml_X7_102 : Cond.methodLink RX7 102 yX7_isArch ∈ zts := zin (List.mem_of_getElem? (i := 841) (by decide +kernel)) rfl
theorem ml_X7_105 : Cond.methodLink RX7 105 yX7_holes ∈ zts := zin (List.mem_of_getElem? (i := 857) (by decide +kernel)) rfl
theorem ml_X7_123 : Cond.methodLink RX7 123 yX7_here ∈ zts := zin (List.mem_of_getElem? (i := 875) (by decide +kernel)) rfl
theorem ml_X7_132 : Cond.methodLink RX7 132 yX7_must ∈ zts := zin (List.mem_of_getElem? (i := 879) (by decide +kernel)) rfl
theorem ml_X7_136 : Cond.methodLink RX7 136 yX7_number ∈ zts := zin (List.mem_of_getElem? (i := 883) (by decide +kernel)) rfl
theorem ml_X7_142 : Cond.methodLink RX7 142 yX7_letters ∈ zts := zin (List.mem_of_getElem? (i := 889) (by decide +kernel)) rfl
theorem ml_X7_145 : Cond.methodLink RX7 145 yX7_archesRead ∈ zts := zin (List.mem_of_getElem? (i := 871) (by decide +kernel)) rfl
theorem ml_X7_148 : Cond.methodLink RX7 148 yX7_peopleRead ∈ zts := zin (List.mem_of_getElem? (i := 894) (by decide +kernel)) rfl
theorem ml_X7_153 : Cond.methodLink RX7 153 yX7_notes ∈ zts := zin (List.mem_of_getElem? (i := 903) (by decide +kernel)) rfl
theorem ml_X7_156 : Cond.methodLink RX7 156 yX7_floodBy ∈ zts := zin (List.mem_of_getElem? (i := 935) (by decide +kernel)) rfl
theorem ml_X7_168 : Cond.methodLink RX7 168 yX7_asides ∈ zts := zin (List.mem_of_getElem? (i := 960) (by decide +kernel)) rfl
theorem ml_X7_171 : Cond.methodLink RX7 171 yX7_goesOn ∈ zts := zin (List.mem_of_getElem? (i := 964) (by decide +kernel)) rfl
theorem ml_X7_174 : Cond.methodLink RX7 174 yX7_backs ∈ zts := zin (List.mem_of_getElem? (i := 968) (by decide +kernel)) rfl
theorem ml_X7_179 : Cond.methodLink RX7 179 yX7_holeFirst ∈ zts := zin (List.mem_of_getElem? (i := 981) (by decide +kernel)) rfl
theorem ml_X7_194 : Cond.methodLink RX7 194 yX7_isBetter ∈ zts := zin (List.mem_of_getElem? (i := 997) (by decide +kernel)) rfl
theorem ml_X7_198 : Cond.methodLink RX7 198 yX7_otherwise ∈ zts := zin (List.mem_of_getElem? (i := 1005) (by decide +kernel)) rfl
theorem ml_X7_209 : Cond.methodLink RX7 209 yX7_isSheet ∈ zts := zin (List.mem_of_getElem? (i := 1034) (by decide +kernel)) rfl
theorem ml_X7_212 : Cond.methodLink RX7 212 yX7_isLane ∈ zts := zin (List.mem_of_getElem? (i := 1037) (by decide +kernel)) rfl
theorem ml_X7_217 : Cond.methodLink RX7 217 yX7_why ∈ zts := zin (List.mem_of_getElem? (i := 1041) (by decide +kernel)) rfl
theorem ml_X7_221 : Cond.methodLink RX7 221 yX7_isSo ∈ zts := zin (List.mem_of_getElem? (i := 1045) (by decide +kernel)) rfl
theorem ml_X7_44 : Cond.methodLink RX7 44 yX7_in ∈ zts := zin (List.mem_of_getElem? (i := 804) (by decide +kernel)) rfl
theorem ml_X7_50 : Cond.methodLink RX7 50 yX7_told ∈ zts := zin (List.mem_of_getElem? (i := 821) (by decide +kernel)) rfl
theorem ml_X7_54 : Cond.methodLink RX7 54 yX7_stonesBy ∈ zts := zin (List.mem_of_getElem? (i := 915) (by decide +kernel)) rfl
theorem ml_X7_58 : Cond.methodLink RX7 58 yX7_wearsOff ∈ zts := zin (List.mem_of_getElem? (i := 845) (by decide +kernel)) rfl
theorem ml_X7_65 : Cond.methodLink RX7 65 yX7_comes ∈ zts := zin (List.mem_of_getElem? (i := 825) (by decide +kernel)) rfl
theorem ml_X7_69 : Cond.methodLink RX7 69 yX7_isRefused ∈ zts := zin (List.mem_of_getElem? (i := 829) (by decide +kernel)) rfl
theorem ml_X7_72 : Cond.methodLink RX7 72 yX7_gives ∈ zts := zin (List.mem_of_getElem? (i := 833) (by decide +kernel)) rfl
theorem ml_X7_76 : Cond.methodLink RX7 76 yX7_putsIn ∈ zts := zin (List.mem_of_getElem? (i := 911) (by decide +kernel)) rfl
theorem ml_X7_80 : Cond.methodLink RX7 80 yX7_goesOver ∈ zts := zin (List.mem_of_getElem? (i := 919) (by decide +kernel)) rfl
theorem ml_X7_83 : Cond.methodLink RX7 83 yX7_goesBy ∈ zts := zin (List.mem_of_getElem? (i := 907) (by decide +kernel)) rfl
theorem ml_X7_95 : Cond.methodLink RX7 95 yX7_personComes ∈ zts := zin (List.mem_of_getElem? (i := 809) (by decide +kernel)) rfl
theorem ml_X7_99 : Cond.methodLink RX7 99 yX7_isPerson ∈ zts := zin (List.mem_of_getElem? (i := 817) (by decide +kernel)) rfl
set_option maxRecDepth 100000 in
theorem co_oi : Cond.code Lib.objectInit ⟨#[0xb1]⟩ 1 none ∈ zts := zin (List.mem_of_getElem? (i := 73) rfl) rfl
theorem ii_Math : Cond.initialized "java/lang/Math" ∈ zts := zin (List.mem_of_getElem? (i := 59) (by decide +kernel)) rfl
set_option maxRecDepth 100000 in
theorem co_max : Cond.code Lib.Math.max.name Lib.Math.max.code 2 (some .int) ∈ zts := zin (List.mem_of_getElem? (i := 303) rfl) rfl
theorem st_max : Cond.static Lib.Math.max.name ∈ zts := zin (List.mem_of_getElem? (i := 302) (by decide +kernel)) rfl
set_option maxRecDepth 100000 in
theorem co_min : Cond.code Lib.Math.min.name Lib.Math.min.code 2 (some .int) ∈ zts := zin (List.mem_of_getElem? (i := 397) rfl) rfl
theorem st_min : Cond.static Lib.Math.min.name ∈ zts := zin (List.mem_of_getElem? (i := 396) (by decide +kernel)) rfl
theorem ii_X0 : Cond.initialized RX0 ∈ zts := zin (List.mem_of_getElem? (i := 57) (by decide +kernel)) rfl
theorem ii_X1 : Cond.initialized RX1 ∈ zts := zin (List.mem_of_getElem? (i := 54) (by decide +kernel)) rfl
theorem ii_X2 : Cond.initialized RX2 ∈ zts := zin (List.mem_of_getElem? (i := 53) (by decide +kernel)) rfl
theorem ii_X3 : Cond.initialized RX3 ∈ zts := zin (List.mem_of_getElem? (i := 56) (by decide +kernel)) rfl
theorem ii_X4 : Cond.initialized RX4 ∈ zts := zin (List.mem_of_getElem? (i := 55) (by decide +kernel)) rfl
theorem ii_X5 : Cond.initialized RX5 ∈ zts := zin (List.mem_of_getElem? (i := 52) (by decide +kernel)) rfl
theorem ii_X6 : Cond.initialized RX6 ∈ zts := zin (List.mem_of_getElem? (i := 51) (by decide +kernel)) rfl
theorem ii_X7 : Cond.initialized RX7 ∈ zts := zin (List.mem_of_getElem? (i := 58) (by decide +kernel)) rfl
theorem ii_L : Cond.initialized RL ∈ zts := zin (List.mem_of_getElem? (i := 50) (by decide +kernel)) rfl
theorem fX0 : zFc 0 RX0 TX0 3 tyX0 := ⟨rfl, fun w hw => zin (inX0 w hw) (List.all_eq_true.mp (show wsX00.all goodWord = true by decide +kernel) w hw), tyX0_ok, nmX0⟩
theorem fX1 : zFc 1 RX1 TX1 4 tyX1 := ⟨rfl, fun w hw => zin (inX1 w hw) (List.all_eq_true.mp (show wsX10.all goodWord = true by decide +kernel) w hw), tyX1_ok, nmX1⟩
theorem fX2 : zFc 2 RX2 TX2 7 tyX2 := ⟨rfl, fun w hw => zin (inX2 w hw) (List.all_eq_true.mp (show wsX20.all goodWord = true by decide +kernel) w hw), tyX2_ok, nmX2⟩
theorem fX3 : zFc 3 RX3 TX3 3 tyX3 := ⟨rfl, fun w hw => zin (inX3 w hw) (List.all_eq_true.mp (show wsX30.all goodWord = true by decide +kernel) w hw), tyX3_ok, nmX3⟩
theorem fX4 : zFc 4 RX4 TX4 3 tyX4 := ⟨rfl, fun w hw => zin (inX4 w hw) (List.all_eq_true.mp (show wsX40.all goodWord = true by decide +kernel) w hw), tyX4_ok, nmX4⟩
theorem fX5 : zFc 5 RX5 TX5 5 tyX5 := ⟨rfl, fun w hw => zin (inX5 w hw) (List.all_eq_true.mp (show wsX50.all goodWord = true by decide +kernel) w hw), tyX5_ok, nmX5⟩
theorem fX6 : zFc 6 RX6 TX6 8 tyX6 := ⟨rfl, fun w hw => zin (inX6 w hw) (List.all_eq_true.mp (show wsX60.all goodWord = true by decide +kernel) w hw), tyX6_ok, nmX6⟩
theorem fX7 : zFc 7 RX7 TX7 23 tyX7 := ⟨rfl, fun w hw => zin (inX7 w hw) (List.all_eq_true.mp (show wsX70.all goodWord = true by decide +kernel) w hw), tyX7_ok, nmX7⟩
set_option maxRecDepth 100000 in
theorem lb_X0_clear : zLV yX0_clear cX0_clear 1 none 0 := ⟨⟨ii_X0, zin (List.mem_of_getElem? (i := 217) rfl) rfl, by decide +kernel, by decide +kernel, by decide +kernel⟩, zin (List.mem_of_getElem? (i := 215) (by decide +kernel)) rfl, zin (List.mem_of_getElem? (i := 216) (by decide +kernel)) rfl⟩
set_option maxRecDepth 100000 in
theorem lb_X0_init : zLB yX0_init cX0_init 1 none 0 ∧ Cond.instanceMethod yX0_init ∈ zts := ⟨⟨ii_X0, zin (List.mem_of_getElem? (i := 212) rfl) rfl, by decide +kernel, by decide +kernel, by decide +kernel⟩, zin (List.mem_of_getElem? (i := 211) (by decide +kernel)) rfl⟩
set_option maxRecDepth 100000 in
theorem lb_X0_offer : zLV yX0_offer cX0_offer 4 none 3 := ⟨⟨ii_X0, zin (List.mem_of_getElem? (i := 608) rfl) rfl, by decide +kernel, by decide +kernel, by decide +kernel⟩, zin (List.mem_of_getElem? (i := 606) (by decide +kernel)) rfl, zin (List.mem_of_getElem? (i := 607) (by decide +kernel)) rfl⟩
set_option maxRecDepth 100000 in
theorem lb_X1_comes : zLV yX1_comes cX1_comes 4 (some .boolean) 2 := ⟨⟨ii_X1, zin (List.mem_of_getElem? (i := 290) rfl) rfl, by decide +kernel, by decide +kernel, by decide +kernel⟩, zin (List.mem_of_getElem? (i := 288) (by decide +kernel)) rfl, zin (List.mem_of_getElem? (i := 289) (by decide +kernel)) rfl⟩
set_option maxRecDepth 100000 in
theorem lb_X1_hasRoom : zLV yX1_hasRoom cX1_hasRoom 1 (some .boolean) 0 := ⟨⟨ii_X1, zin (List.mem_of_getElem? (i := 269) rfl) rfl, by decide +kernel, by decide +kernel, by decide +kernel⟩, zin (List.mem_of_getElem? (i := 267) (by decide +kernel)) rfl, zin (List.mem_of_getElem? (i := 268) (by decide +kernel)) rfl⟩
set_option maxRecDepth 100000 in
theorem lb_X1_init : zLB yX1_init cX1_init 1 none 0 ∧ Cond.instanceMethod yX1_init ∈ zts := ⟨⟨ii_X1, zin (List.mem_of_getElem? (i := 122) rfl) rfl, by decide +kernel, by decide +kernel, by decide +kernel⟩, zin (List.mem_of_getElem? (i := 121) (by decide +kernel)) rfl⟩
set_option maxRecDepth 100000 in
theorem lb_X1_isRefused : zLV yX1_isRefused cX1_isRefused 3 (some .boolean) 2 := ⟨⟨ii_X1, zin (List.mem_of_getElem? (i := 297) rfl) rfl, by decide +kernel, by decide +kernel, by decide +kernel⟩, zin (List.mem_of_getElem? (i := 295) (by decide +kernel)) rfl, zin (List.mem_of_getElem? (i := 296) (by decide +kernel)) rfl⟩
set_option maxRecDepth 100000 in
theorem lb_X1_join : zLV yX1_join cX1_join 4 none 3 := ⟨⟨ii_X1, zin (List.mem_of_getElem? (i := 273) rfl) rfl, by decide +kernel, by decide +kernel, by decide +kernel⟩, zin (List.mem_of_getElem? (i := 271) (by decide +kernel)) rfl, zin (List.mem_of_getElem? (i := 272) (by decide +kernel)) rfl⟩
set_option maxRecDepth 100000 in
theorem lb_X1_take : zLV yX1_take cX1_take 3 none 1 := ⟨⟨ii_X1, zin (List.mem_of_getElem? (i := 470) rfl) rfl, by decide +kernel, by decide +kernel, by decide +kernel⟩, zin (List.mem_of_getElem? (i := 468) (by decide +kernel)) rfl, zin (List.mem_of_getElem? (i := 469) (by decide +kernel)) rfl⟩
set_option maxRecDepth 100000 in
theorem lb_X2_allStones : zLV yX2_allStones cX2_allStones 3 (some .int) 0 := ⟨⟨ii_X2, zin (List.mem_of_getElem? (i := 480) rfl) rfl, by decide +kernel, by decide +kernel, by decide +kernel⟩, zin (List.mem_of_getElem? (i := 478) (by decide +kernel)) rfl, zin (List.mem_of_getElem? (i := 479) (by decide +kernel)) rfl⟩
set_option maxRecDepth 100000 in
theorem lb_X2_begin : zLV yX2_begin cX2_begin 2 none 1 := ⟨⟨ii_X2, zin (List.mem_of_getElem? (i := 462) rfl) rfl, by decide +kernel, by decide +kernel, by decide +kernel⟩, zin (List.mem_of_getElem? (i := 460) (by decide +kernel)) rfl, zin (List.mem_of_getElem? (i := 461) (by decide +kernel)) rfl⟩
set_option maxRecDepth 100000 in
theorem lb_X2_crosses : zLV yX2_crosses cX2_crosses 4 (some .boolean) 1 := ⟨⟨ii_X2, zin (List.mem_of_getElem? (i := 528) rfl) rfl, by decide +kernel, by decide +kernel, by decide +kernel⟩, zin (List.mem_of_getElem? (i := 527) (by decide +kernel)) rfl, zin (List.mem_of_getElem? (i := 12) (by decide +kernel)) rfl⟩
set_option maxRecDepth 100000 in
theorem lb_X2_drawLook : zLV yX2_drawLook cX2_drawLook 1 none 0 := ⟨⟨ii_X2, zin (List.mem_of_getElem? (i := 504) rfl) rfl, by decide +kernel, by decide +kernel, by decide +kernel⟩, zin (List.mem_of_getElem? (i := 502) (by decide +kernel)) rfl, zin (List.mem_of_getElem? (i := 503) (by decide +kernel)) rfl⟩
set_option maxRecDepth 100000 in
theorem lb_X2_holes : zLV yX2_holes cX2_holes 3 (some .int) 0 := ⟨⟨ii_X2, zin (List.mem_of_getElem? (i := 484) rfl) rfl, by decide +kernel, by decide +kernel, by decide +kernel⟩, zin (List.mem_of_getElem? (i := 482) (by decide +kernel)) rfl, zin (List.mem_of_getElem? (i := 483) (by decide +kernel)) rfl⟩
set_option maxRecDepth 100000 in
theorem lb_X2_init : zLB yX2_init cX2_init 2 none 0 ∧ Cond.instanceMethod yX2_init ∈ zts := ⟨⟨ii_X2, zin (List.mem_of_getElem? (i := 84) rfl) rfl, by decide +kernel, by decide +kernel, by decide +kernel⟩, zin (List.mem_of_getElem? (i := 83) (by decide +kernel)) rfl⟩
set_option maxRecDepth 100000 in
theorem lb_X2_lose : zLV yX2_lose cX2_lose 3 none 2 := ⟨⟨ii_X2, zin (List.mem_of_getElem? (i := 550) rfl) rfl, by decide +kernel, by decide +kernel, by decide +kernel⟩, zin (List.mem_of_getElem? (i := 548) (by decide +kernel)) rfl, zin (List.mem_of_getElem? (i := 549) (by decide +kernel)) rfl⟩
set_option maxRecDepth 100000 in
theorem lb_X2_loseAll : zLV yX2_loseAll cX2_loseAll 3 none 1 := ⟨⟨ii_X2, zin (List.mem_of_getElem? (i := 546) rfl) rfl, by decide +kernel, by decide +kernel, by decide +kernel⟩, zin (List.mem_of_getElem? (i := 544) (by decide +kernel)) rfl, zin (List.mem_of_getElem? (i := 545) (by decide +kernel)) rfl⟩
set_option maxRecDepth 100000 in
theorem lb_X2_pass : zLV yX2_pass cX2_pass 5 (some .int) 1 := ⟨⟨ii_X2, zin (List.mem_of_getElem? (i := 512) rfl) rfl, by decide +kernel, by decide +kernel, by decide +kernel⟩, zin (List.mem_of_getElem? (i := 510) (by decide +kernel)) rfl, zin (List.mem_of_getElem? (i := 511) (by decide +kernel)) rfl⟩
set_option maxRecDepth 100000 in
theorem lb_X2_putIn : zLV yX2_putIn cX2_putIn 4 none 1 := ⟨⟨ii_X2, zin (List.mem_of_getElem? (i := 519) rfl) rfl, by decide +kernel, by decide +kernel, by decide +kernel⟩, zin (List.mem_of_getElem? (i := 518) (by decide +kernel)) rfl, zin (List.mem_of_getElem? (i := 10) (by decide +kernel)) rfl⟩
set_option maxRecDepth 100000 in
theorem lb_X2_take : zLV yX2_take cX2_take 2 none 1 := ⟨⟨ii_X2, zin (List.mem_of_getElem? (i := 500) rfl) rfl, by decide +kernel, by decide +kernel, by decide +kernel⟩, zin (List.mem_of_getElem? (i := 498) (by decide +kernel)) rfl, zin (List.mem_of_getElem? (i := 499) (by decide +kernel)) rfl⟩
set_option maxRecDepth 100000 in
theorem lb_X2_takeHeaps : zLV yX2_takeHeaps cX2_takeHeaps 3 none 1 := ⟨⟨ii_X2, zin (List.mem_of_getElem? (i := 466) rfl) rfl, by decide +kernel, by decide +kernel, by decide +kernel⟩, zin (List.mem_of_getElem? (i := 465) (by decide +kernel)) rfl, zin (List.mem_of_getElem? (i := 8) (by decide +kernel)) rfl⟩
set_option maxRecDepth 100000 in
theorem lb_X2_weakest : zLV yX2_weakest cX2_weakest 3 (some .int) 0 := ⟨⟨ii_X2, zin (List.mem_of_getElem? (i := 523) rfl) rfl, by decide +kernel, by decide +kernel, by decide +kernel⟩, zin (List.mem_of_getElem? (i := 522) (by decide +kernel)) rfl, zin (List.mem_of_getElem? (i := 11) (by decide +kernel)) rfl⟩
set_option maxRecDepth 100000 in
theorem lb_X3_faultOf : zLV yX3_faultOf cX3_faultOf 4 (some .int) 3 := ⟨⟨ii_X3, zin (List.mem_of_getElem? (i := 670) rfl) rfl, by decide +kernel, by decide +kernel, by decide +kernel⟩, zin (List.mem_of_getElem? (i := 668) (by decide +kernel)) rfl, zin (List.mem_of_getElem? (i := 669) (by decide +kernel)) rfl⟩
set_option maxRecDepth 100000 in
theorem lb_X3_holds : zLV yX3_holds cX3_holds 3 (some .boolean) 2 := ⟨⟨ii_X3, zin (List.mem_of_getElem? (i := 674) rfl) rfl, by decide +kernel, by decide +kernel, by decide +kernel⟩, zin (List.mem_of_getElem? (i := 672) (by decide +kernel)) rfl, zin (List.mem_of_getElem? (i := 673) (by decide +kernel)) rfl⟩
set_option maxRecDepth 100000 in
theorem lb_X3_init : zLB yX3_init cX3_init 1 none 0 ∧ Cond.instanceMethod yX3_init ∈ zts := ⟨⟨ii_X3, zin (List.mem_of_getElem? (i := 188) rfl) rfl, by decide +kernel, by decide +kernel, by decide +kernel⟩, zin (List.mem_of_getElem? (i := 187) (by decide +kernel)) rfl⟩
set_option maxRecDepth 100000 in
theorem lb_X3_renew : zLV yX3_renew cX3_renew 4 none 2 := ⟨⟨ii_X3, zin (List.mem_of_getElem? (i := 703) rfl) rfl, by decide +kernel, by decide +kernel, by decide +kernel⟩, zin (List.mem_of_getElem? (i := 701) (by decide +kernel)) rfl, zin (List.mem_of_getElem? (i := 702) (by decide +kernel)) rfl⟩
set_option maxRecDepth 100000 in
theorem lb_X4_append : zLV yX4_append cX4_append 2 none 1 := ⟨⟨ii_X4, zin (List.mem_of_getElem? (i := 326) rfl) rfl, by decide +kernel, by decide +kernel, by decide +kernel⟩, zin (List.mem_of_getElem? (i := 324) (by decide +kernel)) rfl, zin (List.mem_of_getElem? (i := 325) (by decide +kernel)) rfl⟩
set_option maxRecDepth 100000 in
theorem lb_X4_clear : zLV yX4_clear cX4_clear 1 none 0 := ⟨⟨ii_X4, zin (List.mem_of_getElem? (i := 454) rfl) rfl, by decide +kernel, by decide +kernel, by decide +kernel⟩, zin (List.mem_of_getElem? (i := 452) (by decide +kernel)) rfl, zin (List.mem_of_getElem? (i := 453) (by decide +kernel)) rfl⟩
set_option maxRecDepth 100000 in
theorem lb_X4_hasRoom : zLV yX4_hasRoom cX4_hasRoom 1 (some .boolean) 0 := ⟨⟨ii_X4, zin (List.mem_of_getElem? (i := 322) rfl) rfl, by decide +kernel, by decide +kernel, by decide +kernel⟩, zin (List.mem_of_getElem? (i := 320) (by decide +kernel)) rfl, zin (List.mem_of_getElem? (i := 321) (by decide +kernel)) rfl⟩
set_option maxRecDepth 100000 in
theorem lb_X4_init : zLB yX4_init cX4_init 1 none 0 ∧ Cond.instanceMethod yX4_init ∈ zts := ⟨⟨ii_X4, zin (List.mem_of_getElem? (i := 168) rfl) rfl, by decide +kernel, by decide +kernel, by decide +kernel⟩, zin (List.mem_of_getElem? (i := 167) (by decide +kernel)) rfl⟩
set_option maxRecDepth 100000 in
theorem lb_X4_next : zLV yX4_next cX4_next 1 (some .char) 0 := ⟨⟨ii_X4, zin (List.mem_of_getElem? (i := 347) rfl) rfl, by decide +kernel, by decide +kernel, by decide +kernel⟩, zin (List.mem_of_getElem? (i := 346) (by decide +kernel)) rfl, zin (List.mem_of_getElem? (i := 3) (by decide +kernel)) rfl⟩
set_option maxRecDepth 100000 in
theorem lb_X4_number : zLV yX4_number cX4_number 3 (some .int) 0 := ⟨⟨ii_X4, zin (List.mem_of_getElem? (i := 351) rfl) rfl, by decide +kernel, by decide +kernel, by decide +kernel⟩, zin (List.mem_of_getElem? (i := 350) (by decide +kernel)) rfl, zin (List.mem_of_getElem? (i := 4) (by decide +kernel)) rfl⟩
set_option maxRecDepth 100000 in
theorem lb_X4_passes : zLV yX4_passes cX4_passes 2 (some .boolean) 1 := ⟨⟨ii_X4, zin (List.mem_of_getElem? (i := 343) rfl) rfl, by decide +kernel, by decide +kernel, by decide +kernel⟩, zin (List.mem_of_getElem? (i := 342) (by decide +kernel)) rfl, zin (List.mem_of_getElem? (i := 2) (by decide +kernel)) rfl⟩
set_option maxRecDepth 100000 in
theorem lb_X4_reads : zLV yX4_reads cX4_reads 3 (some .boolean) 2 := ⟨⟨ii_X4, zin (List.mem_of_getElem? (i := 335) rfl) rfl, by decide +kernel, by decide +kernel, by decide +kernel⟩, zin (List.mem_of_getElem? (i := 333) (by decide +kernel)) rfl, zin (List.mem_of_getElem? (i := 334) (by decide +kernel)) rfl⟩
set_option maxRecDepth 100000 in
theorem lb_X4_readsCrowd : zLV yX4_readsCrowd cX4_readsCrowd 3 (some .boolean) 1 := ⟨⟨ii_X4, zin (List.mem_of_getElem? (i := 360) rfl) rfl, by decide +kernel, by decide +kernel, by decide +kernel⟩, zin (List.mem_of_getElem? (i := 359) (by decide +kernel)) rfl, zin (List.mem_of_getElem? (i := 6) (by decide +kernel)) rfl⟩
set_option maxRecDepth 100000 in
theorem lb_X4_readsHeaps : zLV yX4_readsHeaps cX4_readsHeaps 4 (some .boolean) 1 := ⟨⟨ii_X4, zin (List.mem_of_getElem? (i := 339) rfl) rfl, by decide +kernel, by decide +kernel, by decide +kernel⟩, zin (List.mem_of_getElem? (i := 338) (by decide +kernel)) rfl, zin (List.mem_of_getElem? (i := 1) (by decide +kernel)) rfl⟩
set_option maxRecDepth 100000 in
theorem lb_X4_readsTraveller : zLV yX4_readsTraveller cX4_readsTraveller 4 (some .boolean) 1 := ⟨⟨ii_X4, zin (List.mem_of_getElem? (i := 364) rfl) rfl, by decide +kernel, by decide +kernel, by decide +kernel⟩, zin (List.mem_of_getElem? (i := 363) (by decide +kernel)) rfl, zin (List.mem_of_getElem? (i := 7) (by decide +kernel)) rfl⟩
set_option maxRecDepth 100000 in
theorem lb_X4_risingLooks : zLV yX4_risingLooks cX4_risingLooks 3 (some .int) 0 := ⟨⟨ii_X4, zin (List.mem_of_getElem? (i := 356) rfl) rfl, by decide +kernel, by decide +kernel, by decide +kernel⟩, zin (List.mem_of_getElem? (i := 355) (by decide +kernel)) rfl, zin (List.mem_of_getElem? (i := 5) (by decide +kernel)) rfl⟩
set_option maxRecDepth 100000 in
theorem lb_X5_begin : zLV yX5_begin cX5_begin 3 none 2 := ⟨⟨ii_X5, zin (List.mem_of_getElem? (i := 458) rfl) rfl, by decide +kernel, by decide +kernel, by decide +kernel⟩, zin (List.mem_of_getElem? (i := 456) (by decide +kernel)) rfl, zin (List.mem_of_getElem? (i := 457) (by decide +kernel)) rfl⟩
set_option maxRecDepth 100000 in
theorem lb_X5_forget : zLV yX5_forget cX5_forget 1 none 0 := ⟨⟨ii_X5, zin (List.mem_of_getElem? (i := 278) rfl) rfl, by decide +kernel, by decide +kernel, by decide +kernel⟩, zin (List.mem_of_getElem? (i := 276) (by decide +kernel)) rfl, zin (List.mem_of_getElem? (i := 277) (by decide +kernel)) rfl⟩
set_option maxRecDepth 100000 in
theorem lb_X5_goBack : zLV yX5_goBack cX5_goBack 1 none 0 := ⟨⟨ii_X5, zin (List.mem_of_getElem? (i := 563) rfl) rfl, by decide +kernel, by decide +kernel, by decide +kernel⟩, zin (List.mem_of_getElem? (i := 561) (by decide +kernel)) rfl, zin (List.mem_of_getElem? (i := 562) (by decide +kernel)) rfl⟩
set_option maxRecDepth 100000 in
theorem lb_X5_init : zLB yX5_init cX5_init 2 none 0 ∧ Cond.instanceMethod yX5_init ∈ zts := ⟨⟨ii_X5, zin (List.mem_of_getElem? (i := 78) rfl) rfl, by decide +kernel, by decide +kernel, by decide +kernel⟩, zin (List.mem_of_getElem? (i := 77) (by decide +kernel)) rfl⟩
set_option maxRecDepth 100000 in
theorem lb_X5_remember : zLV yX5_remember cX5_remember 1 none 0 := ⟨⟨ii_X5, zin (List.mem_of_getElem? (i := 496) rfl) rfl, by decide +kernel, by decide +kernel, by decide +kernel⟩, zin (List.mem_of_getElem? (i := 494) (by decide +kernel)) rfl, zin (List.mem_of_getElem? (i := 495) (by decide +kernel)) rfl⟩
set_option maxRecDepth 100000 in
theorem lb_X5_take : zLV yX5_take cX5_take 3 none 1 := ⟨⟨ii_X5, zin (List.mem_of_getElem? (i := 655) rfl) rfl, by decide +kernel, by decide +kernel, by decide +kernel⟩, zin (List.mem_of_getElem? (i := 653) (by decide +kernel)) rfl, zin (List.mem_of_getElem? (i := 654) (by decide +kernel)) rfl⟩
set_option maxRecDepth 100000 in
theorem lb_X6_ahead : zLV yX6_ahead cX6_ahead 3 (some .int) 2 := ⟨⟨ii_X6, zin (List.mem_of_getElem? (i := 571) rfl) rfl, by decide +kernel, by decide +kernel, by decide +kernel⟩, zin (List.mem_of_getElem? (i := 569) (by decide +kernel)) rfl, zin (List.mem_of_getElem? (i := 570) (by decide +kernel)) rfl⟩
set_option maxRecDepth 100000 in
theorem lb_X6_asNumber : zLS yX6_asNumber cX6_asNumber 1 (some .int) 1 := ⟨⟨ii_X6, zin (List.mem_of_getElem? (i := 293) rfl) rfl, by decide +kernel, by decide +kernel, by decide +kernel⟩, zin (List.mem_of_getElem? (i := 292) (by decide +kernel)) rfl⟩
set_option maxRecDepth 100000 in
theorem lb_X6_bears : zLV yX6_bears cX6_bears 3 (some .int) 1 := ⟨⟨ii_X6, zin (List.mem_of_getElem? (i := 628) rfl) rfl, by decide +kernel, by decide +kernel, by decide +kernel⟩, zin (List.mem_of_getElem? (i := 626) (by decide +kernel)) rfl, zin (List.mem_of_getElem? (i := 627) (by decide +kernel)) rfl⟩
set_option maxRecDepth 100000 in
theorem lb_X6_bestTurn : zLV yX6_bestTurn cX6_bestTurn 5 (some .int) 2 := ⟨⟨ii_X6, zin (List.mem_of_getElem? (i := 616) rfl) rfl, by decide +kernel, by decide +kernel, by decide +kernel⟩, zin (List.mem_of_getElem? (i := 615) (by decide +kernel)) rfl, zin (List.mem_of_getElem? (i := 16) (by decide +kernel)) rfl⟩
set_option maxRecDepth 100000 in
theorem lb_X6_bridge : zLV yX6_bridge cX6_bridge 3 (some .int) 0 := ⟨⟨ii_X6, zin (List.mem_of_getElem? (i := 331) rfl) rfl, by decide +kernel, by decide +kernel, by decide +kernel⟩, zin (List.mem_of_getElem? (i := 329) (by decide +kernel)) rfl, zin (List.mem_of_getElem? (i := 330) (by decide +kernel)) rfl⟩
set_option maxRecDepth 100000 in
theorem lb_X6_chance : zLS yX6_chance cX6_chance 4 (some .int) 2 := ⟨⟨ii_X6, zin (List.mem_of_getElem? (i := 639) rfl) rfl, by decide +kernel, by decide +kernel, by decide +kernel⟩, zin (List.mem_of_getElem? (i := 638) (by decide +kernel)) rfl⟩
set_option maxRecDepth 100000 in
theorem lb_X6_commonDivisor : zLS yX6_commonDivisor cX6_commonDivisor 6 (some .int) 2 := ⟨⟨ii_X6, zin (List.mem_of_getElem? (i := 647) rfl) rfl, by decide +kernel, by decide +kernel, by decide +kernel⟩, zin (List.mem_of_getElem? (i := 646) (by decide +kernel)) rfl⟩
set_option maxRecDepth 100000 in
theorem lb_X6_copy : zLV yX6_copy cX6_copy 8 (some .int) 5 := ⟨⟨ii_X6, zin (List.mem_of_getElem? (i := 718) rfl) rfl, by decide +kernel, by decide +kernel, by decide +kernel⟩, zin (List.mem_of_getElem? (i := 716) (by decide +kernel)) rfl, zin (List.mem_of_getElem? (i := 717) (by decide +kernel)) rfl⟩
set_option maxRecDepth 100000 in
theorem lb_X6_count : zLV yX6_count cX6_count 3 (some .int) 1 := ⟨⟨ii_X6, zin (List.mem_of_getElem? (i := 476) rfl) rfl, by decide +kernel, by decide +kernel, by decide +kernel⟩, zin (List.mem_of_getElem? (i := 474) (by decide +kernel)) rfl, zin (List.mem_of_getElem? (i := 475) (by decide +kernel)) rfl⟩
set_option maxRecDepth 100000 in
theorem lb_X6_days : zLV yX6_days cX6_days 2 (some .int) 1 := ⟨⟨ii_X6, zin (List.mem_of_getElem? (i := 488) rfl) rfl, by decide +kernel, by decide +kernel, by decide +kernel⟩, zin (List.mem_of_getElem? (i := 486) (by decide +kernel)) rfl, zin (List.mem_of_getElem? (i := 487) (by decide +kernel)) rfl⟩
set_option maxRecDepth 100000 in
theorem lb_X6_drift : zLV yX6_drift cX6_drift 2 (some .int) 1 := ⟨⟨ii_X6, zin (List.mem_of_getElem? (i := 555) rfl) rfl, by decide +kernel, by decide +kernel, by decide +kernel⟩, zin (List.mem_of_getElem? (i := 553) (by decide +kernel)) rfl, zin (List.mem_of_getElem? (i := 554) (by decide +kernel)) rfl⟩
set_option maxRecDepth 100000 in
theorem lb_X6_drop : zLV yX6_drop cX6_drop 4 (some .int) 1 := ⟨⟨ii_X6, zin (List.mem_of_getElem? (i := 707) rfl) rfl, by decide +kernel, by decide +kernel, by decide +kernel⟩, zin (List.mem_of_getElem? (i := 705) (by decide +kernel)) rfl, zin (List.mem_of_getElem? (i := 706) (by decide +kernel)) rfl⟩
set_option maxRecDepth 100000 in
theorem lb_X6_everiesSeen : zLV yX6_everiesSeen cX6_everiesSeen 8 (some .int) 5 := ⟨⟨ii_X6, zin (List.mem_of_getElem? (i := 691) rfl) rfl, by decide +kernel, by decide +kernel, by decide +kernel⟩, zin (List.mem_of_getElem? (i := 690) (by decide +kernel)) rfl, zin (List.mem_of_getElem? (i := 21) (by decide +kernel)) rfl⟩
set_option maxRecDepth 100000 in
theorem lb_X6_film : zLV yX6_film cX6_film 9 (some .int) 5 := ⟨⟨ii_X6, zin (List.mem_of_getElem? (i := 695) rfl) rfl, by decide +kernel, by decide +kernel, by decide +kernel⟩, zin (List.mem_of_getElem? (i := 693) (by decide +kernel)) rfl, zin (List.mem_of_getElem? (i := 694) (by decide +kernel)) rfl⟩
set_option maxRecDepth 100000 in
theorem lb_X6_first : zLV yX6_first cX6_first 4 (some .int) 1 := ⟨⟨ii_X6, zin (List.mem_of_getElem? (i := 592) rfl) rfl, by decide +kernel, by decide +kernel, by decide +kernel⟩, zin (List.mem_of_getElem? (i := 590) (by decide +kernel)) rfl, zin (List.mem_of_getElem? (i := 591) (by decide +kernel)) rfl⟩
set_option maxRecDepth 100000 in
theorem lb_X6_firstHole : zLV yX6_firstHole cX6_firstHole 3 (some .int) 1 := ⟨⟨ii_X6, zin (List.mem_of_getElem? (i := 588) rfl) rfl, by decide +kernel, by decide +kernel, by decide +kernel⟩, zin (List.mem_of_getElem? (i := 587) (by decide +kernel)) rfl, zin (List.mem_of_getElem? (i := 14) (by decide +kernel)) rfl⟩
set_option maxRecDepth 100000 in
theorem lb_X6_flood : zLV yX6_flood cX6_flood 2 (some .int) 1 := ⟨⟨ii_X6, zin (List.mem_of_getElem? (i := 542) rfl) rfl, by decide +kernel, by decide +kernel, by decide +kernel⟩, zin (List.mem_of_getElem? (i := 540) (by decide +kernel)) rfl, zin (List.mem_of_getElem? (i := 541) (by decide +kernel)) rfl⟩
set_option maxRecDepth 100000 in
theorem lb_X6_floods : zLV yX6_floods cX6_floods 7 (some .int) 2 := ⟨⟨ii_X6, zin (List.mem_of_getElem? (i := 636) rfl) rfl, by decide +kernel, by decide +kernel, by decide +kernel⟩, zin (List.mem_of_getElem? (i := 634) (by decide +kernel)) rfl, zin (List.mem_of_getElem? (i := 635) (by decide +kernel)) rfl⟩
set_option maxRecDepth 100000 in
theorem lb_X6_foretell : zLV yX6_foretell cX6_foretell 4 none 2 := ⟨⟨ii_X6, zin (List.mem_of_getElem? (i := 575) rfl) rfl, by decide +kernel, by decide +kernel, by decide +kernel⟩, zin (List.mem_of_getElem? (i := 574) (by decide +kernel)) rfl, zin (List.mem_of_getElem? (i := 13) (by decide +kernel)) rfl⟩
set_option maxRecDepth 100000 in
theorem lb_X6_given : zLS yX6_given cX6_given 5 (some .int) 2 := ⟨⟨ii_X6, zin (List.mem_of_getElem? (i := 300) rfl) rfl, by decide +kernel, by decide +kernel, by decide +kernel⟩, zin (List.mem_of_getElem? (i := 299) (by decide +kernel)) rfl⟩
set_option maxRecDepth 100000 in
theorem lb_X6_hole : zLV yX6_hole cX6_hole 1 (some .int) 0 := ⟨⟨ii_X6, zin (List.mem_of_getElem? (i := 584) rfl) rfl, by decide +kernel, by decide +kernel, by decide +kernel⟩, zin (List.mem_of_getElem? (i := 582) (by decide +kernel)) rfl, zin (List.mem_of_getElem? (i := 583) (by decide +kernel)) rfl⟩
set_option maxRecDepth 100000 in
theorem lb_X6_image : zLV yX6_image cX6_image 1 (some .int) 0 := ⟨⟨ii_X6, zin (List.mem_of_getElem? (i := 651) rfl) rfl, by decide +kernel, by decide +kernel, by decide +kernel⟩, zin (List.mem_of_getElem? (i := 649) (by decide +kernel)) rfl, zin (List.mem_of_getElem? (i := 650) (by decide +kernel)) rfl⟩
set_option maxRecDepth 100000 in
theorem lb_X6_init : zLB yX6_init cX6_init 2 none 0 ∧ Cond.instanceMethod yX6_init ∈ zts := ⟨⟨ii_X6, zin (List.mem_of_getElem? (i := 70) rfl) rfl, by decide +kernel, by decide +kernel, by decide +kernel⟩, zin (List.mem_of_getElem? (i := 69) (by decide +kernel)) rfl⟩
set_option maxRecDepth 100000 in
theorem lb_X6_isBelow : zLS yX6_isBelow cX6_isBelow 2 (some .boolean) 2 := ⟨⟨ii_X6, zin (List.mem_of_getElem? (i := 262) rfl) rfl, by decide +kernel, by decide +kernel, by decide +kernel⟩, zin (List.mem_of_getElem? (i := 261) (by decide +kernel)) rfl⟩
set_option maxRecDepth 100000 in
theorem lb_X6_isDryAfter : zLV yX6_isDryAfter cX6_isDryAfter 3 (some .boolean) 1 := ⟨⟨ii_X6, zin (List.mem_of_getElem? (i := 643) rfl) rfl, by decide +kernel, by decide +kernel, by decide +kernel⟩, zin (List.mem_of_getElem? (i := 642) (by decide +kernel)) rfl, zin (List.mem_of_getElem? (i := 18) (by decide +kernel)) rfl⟩
set_option maxRecDepth 100000 in
theorem lb_X6_isIn : zLS yX6_isIn cX6_isIn 2 (some .boolean) 2 := ⟨⟨ii_X6, zin (List.mem_of_getElem? (i := 595) rfl) rfl, by decide +kernel, by decide +kernel, by decide +kernel⟩, zin (List.mem_of_getElem? (i := 594) (by decide +kernel)) rfl⟩
set_option maxRecDepth 100000 in
theorem lb_X6_isPlace : zLS yX6_isPlace cX6_isPlace 2 (some .boolean) 2 := ⟨⟨ii_X6, zin (List.mem_of_getElem? (i := 666) rfl) rfl, by decide +kernel, by decide +kernel, by decide +kernel⟩, zin (List.mem_of_getElem? (i := 665) (by decide +kernel)) rfl⟩
set_option maxRecDepth 100000 in
theorem lb_X6_isTraveller : zLV yX6_isTraveller cX6_isTraveller 2 (some .boolean) 1 := ⟨⟨ii_X6, zin (List.mem_of_getElem? (i := 286) rfl) rfl, by decide +kernel, by decide +kernel, by decide +kernel⟩, zin (List.mem_of_getElem? (i := 285) (by decide +kernel)) rfl, zin (List.mem_of_getElem? (i := 0) (by decide +kernel)) rfl⟩
set_option maxRecDepth 100000 in
theorem lb_X6_isWithin : zLS yX6_isWithin cX6_isWithin 3 (some .boolean) 3 := ⟨⟨ii_X6, zin (List.mem_of_getElem? (i := 265) rfl) rfl, by decide +kernel, by decide +kernel, by decide +kernel⟩, zin (List.mem_of_getElem? (i := 264) (by decide +kernel)) rfl⟩
set_option maxRecDepth 100000 in
theorem lb_X6_item : zLV yX6_item cX6_item 7 (some .int) 4 := ⟨⟨ii_X6, zin (List.mem_of_getElem? (i := 711) rfl) rfl, by decide +kernel, by decide +kernel, by decide +kernel⟩, zin (List.mem_of_getElem? (i := 709) (by decide +kernel)) rfl, zin (List.mem_of_getElem? (i := 710) (by decide +kernel)) rfl⟩
set_option maxRecDepth 100000 in
theorem lb_X6_kindsSeen : zLV yX6_kindsSeen cX6_kindsSeen 8 (some .int) 5 := ⟨⟨ii_X6, zin (List.mem_of_getElem? (i := 686) rfl) rfl, by decide +kernel, by decide +kernel, by decide +kernel⟩, zin (List.mem_of_getElem? (i := 685) (by decide +kernel)) rfl, zin (List.mem_of_getElem? (i := 20) (by decide +kernel)) rfl⟩
set_option maxRecDepth 100000 in
theorem lb_X6_less : zLV yX6_less cX6_less 2 (some .int) 1 := ⟨⟨ii_X6, zin (List.mem_of_getElem? (i := 620) rfl) rfl, by decide +kernel, by decide +kernel, by decide +kernel⟩, zin (List.mem_of_getElem? (i := 618) (by decide +kernel)) rfl, zin (List.mem_of_getElem? (i := 619) (by decide +kernel)) rfl⟩
set_option maxRecDepth 100000 in
theorem lb_X6_list : zLV yX6_list cX6_list 3 (some .int) 1 := ⟨⟨ii_X6, zin (List.mem_of_getElem? (i := 533) rfl) rfl, by decide +kernel, by decide +kernel, by decide +kernel⟩, zin (List.mem_of_getElem? (i := 531) (by decide +kernel)) rfl, zin (List.mem_of_getElem? (i := 532) (by decide +kernel)) rfl⟩
set_option maxRecDepth 100000 in
theorem lb_X6_lists : zLV yX6_lists cX6_lists 11 (some .int) 6 := ⟨⟨ii_X6, zin (List.mem_of_getElem? (i := 663) rfl) rfl, by decide +kernel, by decide +kernel, by decide +kernel⟩, zin (List.mem_of_getElem? (i := 661) (by decide +kernel)) rfl, zin (List.mem_of_getElem? (i := 662) (by decide +kernel)) rfl⟩
set_option maxRecDepth 100000 in
theorem lb_X6_live : zLV yX6_live cX6_live 5 (some .int) 2 := ⟨⟨ii_X6, zin (List.mem_of_getElem? (i := 492) rfl) rfl, by decide +kernel, by decide +kernel, by decide +kernel⟩, zin (List.mem_of_getElem? (i := 491) (by decide +kernel)) rfl, zin (List.mem_of_getElem? (i := 9) (by decide +kernel)) rfl⟩
set_option maxRecDepth 100000 in
theorem lb_X6_lowestBits : zLS yX6_lowestBits cX6_lowestBits 3 (some .long) 2 := ⟨⟨ii_X6, zin (List.mem_of_getElem? (i := 714) rfl) rfl, by decide +kernel, by decide +kernel, by decide +kernel⟩, zin (List.mem_of_getElem? (i := 713) (by decide +kernel)) rfl⟩
set_option maxRecDepth 100000 in
theorem lb_X6_mend : zLV yX6_mend cX6_mend 4 (some .int) 2 := ⟨⟨ii_X6, zin (List.mem_of_getElem? (i := 537) rfl) rfl, by decide +kernel, by decide +kernel, by decide +kernel⟩, zin (List.mem_of_getElem? (i := 535) (by decide +kernel)) rfl, zin (List.mem_of_getElem? (i := 536) (by decide +kernel)) rfl⟩
set_option maxRecDepth 100000 in
theorem lb_X6_more : zLV yX6_more cX6_more 2 (some .int) 1 := ⟨⟨ii_X6, zin (List.mem_of_getElem? (i := 612) rfl) rfl, by decide +kernel, by decide +kernel, by decide +kernel⟩, zin (List.mem_of_getElem? (i := 610) (by decide +kernel)) rfl, zin (List.mem_of_getElem? (i := 611) (by decide +kernel)) rfl⟩
set_option maxRecDepth 100000 in
theorem lb_X6_nobodyFalls : zLV yX6_nobodyFalls cX6_nobodyFalls 3 (some .boolean) 1 := ⟨⟨ii_X6, zin (List.mem_of_getElem? (i := 632) rfl) rfl, by decide +kernel, by decide +kernel, by decide +kernel⟩, zin (List.mem_of_getElem? (i := 631) (by decide +kernel)) rfl, zin (List.mem_of_getElem? (i := 17) (by decide +kernel)) rfl⟩
set_option maxRecDepth 100000 in
theorem lb_X6_of : zLV yX6_of cX6_of 5 (some .int) 2 := ⟨⟨ii_X6, zin (List.mem_of_getElem? (i := 282) rfl) rfl, by decide +kernel, by decide +kernel, by decide +kernel⟩, zin (List.mem_of_getElem? (i := 280) (by decide +kernel)) rfl, zin (List.mem_of_getElem? (i := 281) (by decide +kernel)) rfl⟩
set_option maxRecDepth 100000 in
theorem lb_X6_restore : zLV yX6_restore cX6_restore 1 (some .int) 0 := ⟨⟨ii_X6, zin (List.mem_of_getElem? (i := 659) rfl) rfl, by decide +kernel, by decide +kernel, by decide +kernel⟩, zin (List.mem_of_getElem? (i := 657) (by decide +kernel)) rfl, zin (List.mem_of_getElem? (i := 658) (by decide +kernel)) rfl⟩
set_option maxRecDepth 100000 in
theorem lb_X6_seed : zLV yX6_seed cX6_seed 3 (some .int) 1 := ⟨⟨ii_X6, zin (List.mem_of_getElem? (i := 567) rfl) rfl, by decide +kernel, by decide +kernel, by decide +kernel⟩, zin (List.mem_of_getElem? (i := 565) (by decide +kernel)) rfl, zin (List.mem_of_getElem? (i := 566) (by decide +kernel)) rfl⟩
set_option maxRecDepth 100000 in
theorem lb_X6_seen : zLV yX6_seen cX6_seen 9 (some .int) 7 := ⟨⟨ii_X6, zin (List.mem_of_getElem? (i := 682) rfl) rfl, by decide +kernel, by decide +kernel, by decide +kernel⟩, zin (List.mem_of_getElem? (i := 680) (by decide +kernel)) rfl, zin (List.mem_of_getElem? (i := 681) (by decide +kernel)) rfl⟩
set_option maxRecDepth 100000 in
theorem lb_X6_sheet : zLV yX6_sheet cX6_sheet 4 (some .int) 3 := ⟨⟨ii_X6, zin (List.mem_of_getElem? (i := 699) rfl) rfl, by decide +kernel, by decide +kernel, by decide +kernel⟩, zin (List.mem_of_getElem? (i := 697) (by decide +kernel)) rfl, zin (List.mem_of_getElem? (i := 698) (by decide +kernel)) rfl⟩
set_option maxRecDepth 100000 in
theorem lb_X6_stands : zLV yX6_stands cX6_stands 2 (some .int) 1 := ⟨⟨ii_X6, zin (List.mem_of_getElem? (i := 624) rfl) rfl, by decide +kernel, by decide +kernel, by decide +kernel⟩, zin (List.mem_of_getElem? (i := 622) (by decide +kernel)) rfl, zin (List.mem_of_getElem? (i := 623) (by decide +kernel)) rfl⟩
set_option maxRecDepth 100000 in
theorem lb_X6_stones : zLV yX6_stones cX6_stones 2 (some .int) 1 := ⟨⟨ii_X6, zin (List.mem_of_getElem? (i := 314) rfl) rfl, by decide +kernel, by decide +kernel, by decide +kernel⟩, zin (List.mem_of_getElem? (i := 312) (by decide +kernel)) rfl, zin (List.mem_of_getElem? (i := 313) (by decide +kernel)) rfl⟩
set_option maxRecDepth 100000 in
theorem lb_X6_then : zLV yX6_then cX6_then 3 (some .int) 2 := ⟨⟨ii_X6, zin (List.mem_of_getElem? (i := 580) rfl) rfl, by decide +kernel, by decide +kernel, by decide +kernel⟩, zin (List.mem_of_getElem? (i := 578) (by decide +kernel)) rfl, zin (List.mem_of_getElem? (i := 579) (by decide +kernel)) rfl⟩
set_option maxRecDepth 100000 in
theorem lb_X6_traveller : zLV yX6_traveller cX6_traveller 4 (some .int) 3 := ⟨⟨ii_X6, zin (List.mem_of_getElem? (i := 259) rfl) rfl, by decide +kernel, by decide +kernel, by decide +kernel⟩, zin (List.mem_of_getElem? (i := 257) (by decide +kernel)) rfl, zin (List.mem_of_getElem? (i := 258) (by decide +kernel)) rfl⟩
set_option maxRecDepth 100000 in
theorem lb_X6_type : zLV yX6_type cX6_type 2 (some .int) 1 := ⟨⟨ii_X6, zin (List.mem_of_getElem? (i := 318) rfl) rfl, by decide +kernel, by decide +kernel, by decide +kernel⟩, zin (List.mem_of_getElem? (i := 316) (by decide +kernel)) rfl, zin (List.mem_of_getElem? (i := 317) (by decide +kernel)) rfl⟩
set_option maxRecDepth 100000 in
theorem lb_X6_undo : zLV yX6_undo cX6_undo 1 (some .int) 0 := ⟨⟨ii_X6, zin (List.mem_of_getElem? (i := 559) rfl) rfl, by decide +kernel, by decide +kernel, by decide +kernel⟩, zin (List.mem_of_getElem? (i := 557) (by decide +kernel)) rfl, zin (List.mem_of_getElem? (i := 558) (by decide +kernel)) rfl⟩
set_option maxRecDepth 100000 in
theorem lb_X6_wears : zLV yX6_wears cX6_wears 3 (some .int) 2 := ⟨⟨ii_X6, zin (List.mem_of_getElem? (i := 307) rfl) rfl, by decide +kernel, by decide +kernel, by decide +kernel⟩, zin (List.mem_of_getElem? (i := 305) (by decide +kernel)) rfl, zin (List.mem_of_getElem? (i := 306) (by decide +kernel)) rfl⟩
set_option maxRecDepth 100000 in
theorem lb_X6_weigh : zLV yX6_weigh cX6_weigh 4 none 3 := ⟨⟨ii_X6, zin (List.mem_of_getElem? (i := 604) rfl) rfl, by decide +kernel, by decide +kernel, by decide +kernel⟩, zin (List.mem_of_getElem? (i := 603) (by decide +kernel)) rfl, zin (List.mem_of_getElem? (i := 15) (by decide +kernel)) rfl⟩
set_option maxRecDepth 100000 in
theorem lb_X6_wise : zLV yX6_wise cX6_wise 4 (some .int) 2 := ⟨⟨ii_X6, zin (List.mem_of_getElem? (i := 599) rfl) rfl, by decide +kernel, by decide +kernel, by decide +kernel⟩, zin (List.mem_of_getElem? (i := 597) (by decide +kernel)) rfl, zin (List.mem_of_getElem? (i := 598) (by decide +kernel)) rfl⟩
set_option maxRecDepth 100000 in
theorem lb_X6_worn : zLS yX6_worn cX6_worn 6 (some .int) 3 := ⟨⟨ii_X6, zin (List.mem_of_getElem? (i := 310) rfl) rfl, by decide +kernel, by decide +kernel, by decide +kernel⟩, zin (List.mem_of_getElem? (i := 309) (by decide +kernel)) rfl⟩
set_option maxRecDepth 100000 in
theorem lb_X6_wouldShow : zLV yX6_wouldShow cX6_wouldShow 8 (some .boolean) 6 := ⟨⟨ii_X6, zin (List.mem_of_getElem? (i := 678) rfl) rfl, by decide +kernel, by decide +kernel, by decide +kernel⟩, zin (List.mem_of_getElem? (i := 677) (by decide +kernel)) rfl, zin (List.mem_of_getElem? (i := 19) (by decide +kernel)) rfl⟩
set_option maxRecDepth 100000 in
theorem lb_X7_ahead : zLV yX7_ahead cX7_ahead 4 (some .int) 2 := ⟨⟨ii_X7, zin (List.mem_of_getElem? (i := 958) rfl) rfl, by decide +kernel, by decide +kernel, by decide +kernel⟩, zin (List.mem_of_getElem? (i := 956) (by decide +kernel)) rfl, zin (List.mem_of_getElem? (i := 957) (by decide +kernel)) rfl⟩
set_option maxRecDepth 100000 in
theorem lb_X7_archesRead : zLV yX7_archesRead cX7_archesRead 2 none 0 := ⟨⟨ii_X7, zin (List.mem_of_getElem? (i := 874) rfl) rfl, by decide +kernel, by decide +kernel, by decide +kernel⟩, zin (List.mem_of_getElem? (i := 873) (by decide +kernel)) rfl, zin (List.mem_of_getElem? (i := 30) (by decide +kernel)) rfl⟩
set_option maxRecDepth 100000 in
theorem lb_X7_asides : zLV yX7_asides cX7_asides 2 none 0 := ⟨⟨ii_X7, zin (List.mem_of_getElem? (i := 963) rfl) rfl, by decide +kernel, by decide +kernel, by decide +kernel⟩, zin (List.mem_of_getElem? (i := 962) (by decide +kernel)) rfl, zin (List.mem_of_getElem? (i := 42) (by decide +kernel)) rfl⟩
set_option maxRecDepth 100000 in
theorem lb_X7_backs : zLV yX7_backs cX7_backs 2 none 0 := ⟨⟨ii_X7, zin (List.mem_of_getElem? (i := 971) rfl) rfl, by decide +kernel, by decide +kernel, by decide +kernel⟩, zin (List.mem_of_getElem? (i := 970) (by decide +kernel)) rfl, zin (List.mem_of_getElem? (i := 44) (by decide +kernel)) rfl⟩
set_option maxRecDepth 100000 in
theorem lb_X7_bears : zLV yX7_bears cX7_bears 4 (some .int) 1 := ⟨⟨ii_X7, zin (List.mem_of_getElem? (i := 1016) rfl) rfl, by decide +kernel, by decide +kernel, by decide +kernel⟩, zin (List.mem_of_getElem? (i := 1014) (by decide +kernel)) rfl, zin (List.mem_of_getElem? (i := 1015) (by decide +kernel)) rfl⟩
set_option maxRecDepth 100000 in
theorem lb_X7_bridge : zLV yX7_bridge cX7_bridge 3 (some .int) 0 := ⟨⟨ii_X7, zin (List.mem_of_getElem? (i := 870) rfl) rfl, by decide +kernel, by decide +kernel, by decide +kernel⟩, zin (List.mem_of_getElem? (i := 868) (by decide +kernel)) rfl, zin (List.mem_of_getElem? (i := 869) (by decide +kernel)) rfl⟩
set_option maxRecDepth 100000 in
theorem lb_X7_comes : zLV yX7_comes cX7_comes 2 (some .boolean) 1 := ⟨⟨ii_X7, zin (List.mem_of_getElem? (i := 828) rfl) rfl, by decide +kernel, by decide +kernel, by decide +kernel⟩, zin (List.mem_of_getElem? (i := 827) (by decide +kernel)) rfl, zin (List.mem_of_getElem? (i := 25) (by decide +kernel)) rfl⟩
set_option maxRecDepth 100000 in
theorem lb_X7_copy : zLV yX7_copy cX7_copy 8 (some .int) 5 := ⟨⟨ii_X7, zin (List.mem_of_getElem? (i := 1073) rfl) rfl, by decide +kernel, by decide +kernel, by decide +kernel⟩, zin (List.mem_of_getElem? (i := 1071) (by decide +kernel)) rfl, zin (List.mem_of_getElem? (i := 1072) (by decide +kernel)) rfl⟩
set_option maxRecDepth 100000 in
theorem lb_X7_count : zLV yX7_count cX7_count 2 (some .int) 1 := ⟨⟨ii_X7, zin (List.mem_of_getElem? (i := 856) rfl) rfl, by decide +kernel, by decide +kernel, by decide +kernel⟩, zin (List.mem_of_getElem? (i := 854) (by decide +kernel)) rfl, zin (List.mem_of_getElem? (i := 855) (by decide +kernel)) rfl⟩
set_option maxRecDepth 100000 in
theorem lb_X7_days : zLV yX7_days cX7_days 4 (some .int) 1 := ⟨⟨ii_X7, zin (List.mem_of_getElem? (i := 901) rfl) rfl, by decide +kernel, by decide +kernel, by decide +kernel⟩, zin (List.mem_of_getElem? (i := 899) (by decide +kernel)) rfl, zin (List.mem_of_getElem? (i := 900) (by decide +kernel)) rfl⟩
set_option maxRecDepth 100000 in
theorem lb_X7_drift : zLV yX7_drift cX7_drift 4 (some .int) 1 := ⟨⟨ii_X7, zin (List.mem_of_getElem? (i := 942) rfl) rfl, by decide +kernel, by decide +kernel, by decide +kernel⟩, zin (List.mem_of_getElem? (i := 940) (by decide +kernel)) rfl, zin (List.mem_of_getElem? (i := 941) (by decide +kernel)) rfl⟩
set_option maxRecDepth 100000 in
theorem lb_X7_drop : zLV yX7_drop cX7_drop 2 (some .int) 1 := ⟨⟨ii_X7, zin (List.mem_of_getElem? (i := 1065) rfl) rfl, by decide +kernel, by decide +kernel, by decide +kernel⟩, zin (List.mem_of_getElem? (i := 1063) (by decide +kernel)) rfl, zin (List.mem_of_getElem? (i := 1064) (by decide +kernel)) rfl⟩
set_option maxRecDepth 100000 in
theorem lb_X7_film : zLV yX7_film cX7_film 8 (some .int) 5 := ⟨⟨ii_X7, zin (List.mem_of_getElem? (i := 1056) rfl) rfl, by decide +kernel, by decide +kernel, by decide +kernel⟩, zin (List.mem_of_getElem? (i := 1054) (by decide +kernel)) rfl, zin (List.mem_of_getElem? (i := 1055) (by decide +kernel)) rfl⟩
set_option maxRecDepth 100000 in
theorem lb_X7_first : zLV yX7_first cX7_first 4 (some .int) 1 := ⟨⟨ii_X7, zin (List.mem_of_getElem? (i := 992) rfl) rfl, by decide +kernel, by decide +kernel, by decide +kernel⟩, zin (List.mem_of_getElem? (i := 990) (by decide +kernel)) rfl, zin (List.mem_of_getElem? (i := 991) (by decide +kernel)) rfl⟩
set_option maxRecDepth 100000 in
theorem lb_X7_flood : zLV yX7_flood cX7_flood 2 (some .int) 1 := ⟨⟨ii_X7, zin (List.mem_of_getElem? (i := 934) rfl) rfl, by decide +kernel, by decide +kernel, by decide +kernel⟩, zin (List.mem_of_getElem? (i := 932) (by decide +kernel)) rfl, zin (List.mem_of_getElem? (i := 933) (by decide +kernel)) rfl⟩
set_option maxRecDepth 100000 in
theorem lb_X7_floodBy : zLV yX7_floodBy cX7_floodBy 3 none 1 := ⟨⟨ii_X7, zin (List.mem_of_getElem? (i := 938) rfl) rfl, by decide +kernel, by decide +kernel, by decide +kernel⟩, zin (List.mem_of_getElem? (i := 937) (by decide +kernel)) rfl, zin (List.mem_of_getElem? (i := 41) (by decide +kernel)) rfl⟩
set_option maxRecDepth 100000 in
theorem lb_X7_floods : zLV yX7_floods cX7_floods 9 (some .int) 2 := ⟨⟨ii_X7, zin (List.mem_of_getElem? (i := 1020) rfl) rfl, by decide +kernel, by decide +kernel, by decide +kernel⟩, zin (List.mem_of_getElem? (i := 1018) (by decide +kernel)) rfl, zin (List.mem_of_getElem? (i := 1019) (by decide +kernel)) rfl⟩
set_option maxRecDepth 100000 in
theorem lb_X7_gives : zLV yX7_gives cX7_gives 3 (some .int) 1 := ⟨⟨ii_X7, zin (List.mem_of_getElem? (i := 836) rfl) rfl, by decide +kernel, by decide +kernel, by decide +kernel⟩, zin (List.mem_of_getElem? (i := 835) (by decide +kernel)) rfl, zin (List.mem_of_getElem? (i := 27) (by decide +kernel)) rfl⟩
set_option maxRecDepth 100000 in
theorem lb_X7_goesBy : zLV yX7_goesBy cX7_goesBy 2 none 0 := ⟨⟨ii_X7, zin (List.mem_of_getElem? (i := 910) rfl) rfl, by decide +kernel, by decide +kernel, by decide +kernel⟩, zin (List.mem_of_getElem? (i := 909) (by decide +kernel)) rfl, zin (List.mem_of_getElem? (i := 37) (by decide +kernel)) rfl⟩
set_option maxRecDepth 100000 in
theorem lb_X7_goesOn : zLV yX7_goesOn cX7_goesOn 3 none 1 := ⟨⟨ii_X7, zin (List.mem_of_getElem? (i := 967) rfl) rfl, by decide +kernel, by decide +kernel, by decide +kernel⟩, zin (List.mem_of_getElem? (i := 966) (by decide +kernel)) rfl, zin (List.mem_of_getElem? (i := 43) (by decide +kernel)) rfl⟩
set_option maxRecDepth 100000 in
theorem lb_X7_goesOver : zLV yX7_goesOver cX7_goesOver 4 (some .boolean) 1 := ⟨⟨ii_X7, zin (List.mem_of_getElem? (i := 922) rfl) rfl, by decide +kernel, by decide +kernel, by decide +kernel⟩, zin (List.mem_of_getElem? (i := 921) (by decide +kernel)) rfl, zin (List.mem_of_getElem? (i := 40) (by decide +kernel)) rfl⟩
set_option maxRecDepth 100000 in
theorem lb_X7_here : zLV yX7_here cX7_here 1 (some .int) 0 := ⟨⟨ii_X7, zin (List.mem_of_getElem? (i := 878) rfl) rfl, by decide +kernel, by decide +kernel, by decide +kernel⟩, zin (List.mem_of_getElem? (i := 877) (by decide +kernel)) rfl, zin (List.mem_of_getElem? (i := 31) (by decide +kernel)) rfl⟩
set_option maxRecDepth 100000 in
theorem lb_X7_hole : zLV yX7_hole cX7_hole 1 (some .int) 0 := ⟨⟨ii_X7, zin (List.mem_of_getElem? (i := 980) rfl) rfl, by decide +kernel, by decide +kernel, by decide +kernel⟩, zin (List.mem_of_getElem? (i := 978) (by decide +kernel)) rfl, zin (List.mem_of_getElem? (i := 979) (by decide +kernel)) rfl⟩
set_option maxRecDepth 100000 in
theorem lb_X7_holeFirst : zLV yX7_holeFirst cX7_holeFirst 2 (some .int) 0 := ⟨⟨ii_X7, zin (List.mem_of_getElem? (i := 984) rfl) rfl, by decide +kernel, by decide +kernel, by decide +kernel⟩, zin (List.mem_of_getElem? (i := 983) (by decide +kernel)) rfl, zin (List.mem_of_getElem? (i := 45) (by decide +kernel)) rfl⟩
set_option maxRecDepth 100000 in
theorem lb_X7_holes : zLV yX7_holes cX7_holes 3 (some .int) 0 := ⟨⟨ii_X7, zin (List.mem_of_getElem? (i := 860) rfl) rfl, by decide +kernel, by decide +kernel, by decide +kernel⟩, zin (List.mem_of_getElem? (i := 859) (by decide +kernel)) rfl, zin (List.mem_of_getElem? (i := 29) (by decide +kernel)) rfl⟩
set_option maxRecDepth 100000 in
theorem lb_X7_image : zLV yX7_image cX7_image 2 (some .int) 0 := ⟨⟨ii_X7, zin (List.mem_of_getElem? (i := 1025) rfl) rfl, by decide +kernel, by decide +kernel, by decide +kernel⟩, zin (List.mem_of_getElem? (i := 1023) (by decide +kernel)) rfl, zin (List.mem_of_getElem? (i := 1024) (by decide +kernel)) rfl⟩
set_option maxRecDepth 100000 in
theorem lb_X7_in : zLS yX7_in cX7_in 6 (some .boolean) 3 := ⟨⟨ii_X7, zin (List.mem_of_getElem? (i := 806) rfl) rfl, by decide +kernel, by decide +kernel, by decide +kernel⟩, zin (List.mem_of_getElem? (i := 805) (by decide +kernel)) rfl⟩
set_option maxRecDepth 100000 in
theorem lb_X7_init : zLB yX7_init cX7_init 2 none 0 ∧ Cond.instanceMethod yX7_init ∈ zts := ⟨⟨ii_X7, zin (List.mem_of_getElem? (i := 727) rfl) rfl, by decide +kernel, by decide +kernel, by decide +kernel⟩, zin (List.mem_of_getElem? (i := 726) (by decide +kernel)) rfl⟩
set_option maxRecDepth 100000 in
theorem lb_X7_isArch : zLS yX7_isArch cX7_isArch 1 (some .boolean) 1 := ⟨⟨ii_X7, zin (List.mem_of_getElem? (i := 843) rfl) rfl, by decide +kernel, by decide +kernel, by decide +kernel⟩, zin (List.mem_of_getElem? (i := 842) (by decide +kernel)) rfl⟩
set_option maxRecDepth 100000 in
theorem lb_X7_isBetter : zLV yX7_isBetter cX7_isBetter 5 (some .boolean) 3 := ⟨⟨ii_X7, zin (List.mem_of_getElem? (i := 1000) rfl) rfl, by decide +kernel, by decide +kernel, by decide +kernel⟩, zin (List.mem_of_getElem? (i := 999) (by decide +kernel)) rfl, zin (List.mem_of_getElem? (i := 46) (by decide +kernel)) rfl⟩
set_option maxRecDepth 100000 in
theorem lb_X7_isLane : zLS yX7_isLane cX7_isLane 1 (some .boolean) 1 := ⟨⟨ii_X7, zin (List.mem_of_getElem? (i := 1039) rfl) rfl, by decide +kernel, by decide +kernel, by decide +kernel⟩, zin (List.mem_of_getElem? (i := 1038) (by decide +kernel)) rfl⟩
set_option maxRecDepth 100000 in
theorem lb_X7_isPerson : zLV yX7_isPerson cX7_isPerson 2 (some .boolean) 1 := ⟨⟨ii_X7, zin (List.mem_of_getElem? (i := 820) rfl) rfl, by decide +kernel, by decide +kernel, by decide +kernel⟩, zin (List.mem_of_getElem? (i := 819) (by decide +kernel)) rfl, zin (List.mem_of_getElem? (i := 23) (by decide +kernel)) rfl⟩
set_option maxRecDepth 100000 in
theorem lb_X7_isRefused : zLV yX7_isRefused cX7_isRefused 2 (some .boolean) 1 := ⟨⟨ii_X7, zin (List.mem_of_getElem? (i := 832) rfl) rfl, by decide +kernel, by decide +kernel, by decide +kernel⟩, zin (List.mem_of_getElem? (i := 831) (by decide +kernel)) rfl, zin (List.mem_of_getElem? (i := 26) (by decide +kernel)) rfl⟩
set_option maxRecDepth 100000 in
theorem lb_X7_isSheet : zLS yX7_isSheet cX7_isSheet 1 (some .boolean) 1 := ⟨⟨ii_X7, zin (List.mem_of_getElem? (i := 1036) rfl) rfl, by decide +kernel, by decide +kernel, by decide +kernel⟩, zin (List.mem_of_getElem? (i := 1035) (by decide +kernel)) rfl⟩
set_option maxRecDepth 100000 in
theorem lb_X7_isSo : zLV yX7_isSo cX7_isSo 6 (some .boolean) 3 := ⟨⟨ii_X7, zin (List.mem_of_getElem? (i := 1048) rfl) rfl, by decide +kernel, by decide +kernel, by decide +kernel⟩, zin (List.mem_of_getElem? (i := 1047) (by decide +kernel)) rfl, zin (List.mem_of_getElem? (i := 49) (by decide +kernel)) rfl⟩
set_option maxRecDepth 100000 in
theorem lb_X7_item : zLV yX7_item cX7_item 7 (some .int) 4 := ⟨⟨ii_X7, zin (List.mem_of_getElem? (i := 1069) rfl) rfl, by decide +kernel, by decide +kernel, by decide +kernel⟩, zin (List.mem_of_getElem? (i := 1067) (by decide +kernel)) rfl, zin (List.mem_of_getElem? (i := 1068) (by decide +kernel)) rfl⟩
set_option maxRecDepth 100000 in
theorem lb_X7_less : zLV yX7_less cX7_less 2 (some .int) 1 := ⟨⟨ii_X7, zin (List.mem_of_getElem? (i := 1012) rfl) rfl, by decide +kernel, by decide +kernel, by decide +kernel⟩, zin (List.mem_of_getElem? (i := 1010) (by decide +kernel)) rfl, zin (List.mem_of_getElem? (i := 1011) (by decide +kernel)) rfl⟩
set_option maxRecDepth 100000 in
theorem lb_X7_letters : zLV yX7_letters cX7_letters 3 (some .int) 0 := ⟨⟨ii_X7, zin (List.mem_of_getElem? (i := 892) rfl) rfl, by decide +kernel, by decide +kernel, by decide +kernel⟩, zin (List.mem_of_getElem? (i := 891) (by decide +kernel)) rfl, zin (List.mem_of_getElem? (i := 34) (by decide +kernel)) rfl⟩
set_option maxRecDepth 100000 in
theorem lb_X7_list : zLV yX7_list cX7_list 3 (some .int) 1 := ⟨⟨ii_X7, zin (List.mem_of_getElem? (i := 926) rfl) rfl, by decide +kernel, by decide +kernel, by decide +kernel⟩, zin (List.mem_of_getElem? (i := 924) (by decide +kernel)) rfl, zin (List.mem_of_getElem? (i := 925) (by decide +kernel)) rfl⟩
set_option maxRecDepth 100000 in
theorem lb_X7_lists : zLV yX7_lists cX7_lists 12 (some .int) 6 := ⟨⟨ii_X7, zin (List.mem_of_getElem? (i := 1033) rfl) rfl, by decide +kernel, by decide +kernel, by decide +kernel⟩, zin (List.mem_of_getElem? (i := 1031) (by decide +kernel)) rfl, zin (List.mem_of_getElem? (i := 1032) (by decide +kernel)) rfl⟩
set_option maxRecDepth 100000 in
theorem lb_X7_mend : zLV yX7_mend cX7_mend 3 (some .int) 2 := ⟨⟨ii_X7, zin (List.mem_of_getElem? (i := 930) rfl) rfl, by decide +kernel, by decide +kernel, by decide +kernel⟩, zin (List.mem_of_getElem? (i := 928) (by decide +kernel)) rfl, zin (List.mem_of_getElem? (i := 929) (by decide +kernel)) rfl⟩
set_option maxRecDepth 100000 in
theorem lb_X7_more : zLV yX7_more cX7_more 2 (some .int) 1 := ⟨⟨ii_X7, zin (List.mem_of_getElem? (i := 1004) rfl) rfl, by decide +kernel, by decide +kernel, by decide +kernel⟩, zin (List.mem_of_getElem? (i := 1002) (by decide +kernel)) rfl, zin (List.mem_of_getElem? (i := 1003) (by decide +kernel)) rfl⟩
set_option maxRecDepth 100000 in
theorem lb_X7_must : zLV yX7_must cX7_must 2 none 1 := ⟨⟨ii_X7, zin (List.mem_of_getElem? (i := 882) rfl) rfl, by decide +kernel, by decide +kernel, by decide +kernel⟩, zin (List.mem_of_getElem? (i := 881) (by decide +kernel)) rfl, zin (List.mem_of_getElem? (i := 32) (by decide +kernel)) rfl⟩
set_option maxRecDepth 100000 in
theorem lb_X7_notes : zLV yX7_notes cX7_notes 2 none 0 := ⟨⟨ii_X7, zin (List.mem_of_getElem? (i := 906) rfl) rfl, by decide +kernel, by decide +kernel, by decide +kernel⟩, zin (List.mem_of_getElem? (i := 905) (by decide +kernel)) rfl, zin (List.mem_of_getElem? (i := 36) (by decide +kernel)) rfl⟩
set_option maxRecDepth 100000 in
theorem lb_X7_number : zLV yX7_number cX7_number 5 (some .int) 1 := ⟨⟨ii_X7, zin (List.mem_of_getElem? (i := 886) rfl) rfl, by decide +kernel, by decide +kernel, by decide +kernel⟩, zin (List.mem_of_getElem? (i := 885) (by decide +kernel)) rfl, zin (List.mem_of_getElem? (i := 33) (by decide +kernel)) rfl⟩
set_option maxRecDepth 100000 in
theorem lb_X7_of : zLV yX7_of cX7_of 3 (some .int) 2 := ⟨⟨ii_X7, zin (List.mem_of_getElem? (i := 816) rfl) rfl, by decide +kernel, by decide +kernel, by decide +kernel⟩, zin (List.mem_of_getElem? (i := 814) (by decide +kernel)) rfl, zin (List.mem_of_getElem? (i := 815) (by decide +kernel)) rfl⟩
set_option maxRecDepth 100000 in
theorem lb_X7_otherwise : zLV yX7_otherwise cX7_otherwise 5 (some .int) 2 := ⟨⟨ii_X7, zin (List.mem_of_getElem? (i := 1008) rfl) rfl, by decide +kernel, by decide +kernel, by decide +kernel⟩, zin (List.mem_of_getElem? (i := 1007) (by decide +kernel)) rfl, zin (List.mem_of_getElem? (i := 47) (by decide +kernel)) rfl⟩
set_option maxRecDepth 100000 in
theorem lb_X7_peopleRead : zLV yX7_peopleRead cX7_peopleRead 6 (some .int) 0 := ⟨⟨ii_X7, zin (List.mem_of_getElem? (i := 897) rfl) rfl, by decide +kernel, by decide +kernel, by decide +kernel⟩, zin (List.mem_of_getElem? (i := 896) (by decide +kernel)) rfl, zin (List.mem_of_getElem? (i := 35) (by decide +kernel)) rfl⟩
set_option maxRecDepth 100000 in
theorem lb_X7_personComes : zLV yX7_personComes cX7_personComes 5 none 3 := ⟨⟨ii_X7, zin (List.mem_of_getElem? (i := 812) rfl) rfl, by decide +kernel, by decide +kernel, by decide +kernel⟩, zin (List.mem_of_getElem? (i := 811) (by decide +kernel)) rfl, zin (List.mem_of_getElem? (i := 22) (by decide +kernel)) rfl⟩
set_option maxRecDepth 100000 in
theorem lb_X7_putsIn : zLV yX7_putsIn cX7_putsIn 5 none 1 := ⟨⟨ii_X7, zin (List.mem_of_getElem? (i := 914) rfl) rfl, by decide +kernel, by decide +kernel, by decide +kernel⟩, zin (List.mem_of_getElem? (i := 913) (by decide +kernel)) rfl, zin (List.mem_of_getElem? (i := 38) (by decide +kernel)) rfl⟩
set_option maxRecDepth 100000 in
theorem lb_X7_restore : zLV yX7_restore cX7_restore 2 (some .int) 0 := ⟨⟨ii_X7, zin (List.mem_of_getElem? (i := 1029) rfl) rfl, by decide +kernel, by decide +kernel, by decide +kernel⟩, zin (List.mem_of_getElem? (i := 1027) (by decide +kernel)) rfl, zin (List.mem_of_getElem? (i := 1028) (by decide +kernel)) rfl⟩
set_option maxRecDepth 100000 in
theorem lb_X7_seed : zLV yX7_seed cX7_seed 3 (some .int) 1 := ⟨⟨ii_X7, zin (List.mem_of_getElem? (i := 954) rfl) rfl, by decide +kernel, by decide +kernel, by decide +kernel⟩, zin (List.mem_of_getElem? (i := 952) (by decide +kernel)) rfl, zin (List.mem_of_getElem? (i := 953) (by decide +kernel)) rfl⟩
set_option maxRecDepth 100000 in
theorem lb_X7_seen : zLV yX7_seen cX7_seen 12 (some .int) 7 := ⟨⟨ii_X7, zin (List.mem_of_getElem? (i := 1052) rfl) rfl, by decide +kernel, by decide +kernel, by decide +kernel⟩, zin (List.mem_of_getElem? (i := 1050) (by decide +kernel)) rfl, zin (List.mem_of_getElem? (i := 1051) (by decide +kernel)) rfl⟩
set_option maxRecDepth 100000 in
theorem lb_X7_sheet : zLV yX7_sheet cX7_sheet 5 (some .int) 3 := ⟨⟨ii_X7, zin (List.mem_of_getElem? (i := 1061) rfl) rfl, by decide +kernel, by decide +kernel, by decide +kernel⟩, zin (List.mem_of_getElem? (i := 1059) (by decide +kernel)) rfl, zin (List.mem_of_getElem? (i := 1060) (by decide +kernel)) rfl⟩
set_option maxRecDepth 100000 in
theorem lb_X7_stands : zLV yX7_stands cX7_stands 2 (some .int) 1 := ⟨⟨ii_X7, zin (List.mem_of_getElem? (i := 988) rfl) rfl, by decide +kernel, by decide +kernel, by decide +kernel⟩, zin (List.mem_of_getElem? (i := 986) (by decide +kernel)) rfl, zin (List.mem_of_getElem? (i := 987) (by decide +kernel)) rfl⟩
set_option maxRecDepth 100000 in
theorem lb_X7_stones : zLV yX7_stones cX7_stones 2 (some .int) 1 := ⟨⟨ii_X7, zin (List.mem_of_getElem? (i := 852) rfl) rfl, by decide +kernel, by decide +kernel, by decide +kernel⟩, zin (List.mem_of_getElem? (i := 850) (by decide +kernel)) rfl, zin (List.mem_of_getElem? (i := 851) (by decide +kernel)) rfl⟩
set_option maxRecDepth 100000 in
theorem lb_X7_stonesBy : zLV yX7_stonesBy cX7_stonesBy 4 none 2 := ⟨⟨ii_X7, zin (List.mem_of_getElem? (i := 918) rfl) rfl, by decide +kernel, by decide +kernel, by decide +kernel⟩, zin (List.mem_of_getElem? (i := 917) (by decide +kernel)) rfl, zin (List.mem_of_getElem? (i := 39) (by decide +kernel)) rfl⟩
set_option maxRecDepth 100000 in
theorem lb_X7_then : zLV yX7_then cX7_then 4 (some .int) 2 := ⟨⟨ii_X7, zin (List.mem_of_getElem? (i := 975) rfl) rfl, by decide +kernel, by decide +kernel, by decide +kernel⟩, zin (List.mem_of_getElem? (i := 973) (by decide +kernel)) rfl, zin (List.mem_of_getElem? (i := 974) (by decide +kernel)) rfl⟩
set_option maxRecDepth 100000 in
theorem lb_X7_told : zLV yX7_told cX7_told 3 (some .int) 2 := ⟨⟨ii_X7, zin (List.mem_of_getElem? (i := 824) rfl) rfl, by decide +kernel, by decide +kernel, by decide +kernel⟩, zin (List.mem_of_getElem? (i := 823) (by decide +kernel)) rfl, zin (List.mem_of_getElem? (i := 24) (by decide +kernel)) rfl⟩
set_option maxRecDepth 100000 in
theorem lb_X7_traveller : zLV yX7_traveller cX7_traveller 4 (some .int) 3 := ⟨⟨ii_X7, zin (List.mem_of_getElem? (i := 802) rfl) rfl, by decide +kernel, by decide +kernel, by decide +kernel⟩, zin (List.mem_of_getElem? (i := 800) (by decide +kernel)) rfl, zin (List.mem_of_getElem? (i := 801) (by decide +kernel)) rfl⟩
set_option maxRecDepth 100000 in
theorem lb_X7_type : zLV yX7_type cX7_type 2 (some .int) 1 := ⟨⟨ii_X7, zin (List.mem_of_getElem? (i := 864) rfl) rfl, by decide +kernel, by decide +kernel, by decide +kernel⟩, zin (List.mem_of_getElem? (i := 862) (by decide +kernel)) rfl, zin (List.mem_of_getElem? (i := 863) (by decide +kernel)) rfl⟩
set_option maxRecDepth 100000 in
theorem lb_X7_undo : zLV yX7_undo cX7_undo 2 (some .int) 0 := ⟨⟨ii_X7, zin (List.mem_of_getElem? (i := 950) rfl) rfl, by decide +kernel, by decide +kernel, by decide +kernel⟩, zin (List.mem_of_getElem? (i := 948) (by decide +kernel)) rfl, zin (List.mem_of_getElem? (i := 949) (by decide +kernel)) rfl⟩
set_option maxRecDepth 100000 in
theorem lb_X7_wears : zLV yX7_wears cX7_wears 3 (some .int) 2 := ⟨⟨ii_X7, zin (List.mem_of_getElem? (i := 840) rfl) rfl, by decide +kernel, by decide +kernel, by decide +kernel⟩, zin (List.mem_of_getElem? (i := 838) (by decide +kernel)) rfl, zin (List.mem_of_getElem? (i := 839) (by decide +kernel)) rfl⟩
set_option maxRecDepth 100000 in
theorem lb_X7_wearsOff : zLV yX7_wearsOff cX7_wearsOff 3 (some .int) 2 := ⟨⟨ii_X7, zin (List.mem_of_getElem? (i := 848) rfl) rfl, by decide +kernel, by decide +kernel, by decide +kernel⟩, zin (List.mem_of_getElem? (i := 847) (by decide +kernel)) rfl, zin (List.mem_of_getElem? (i := 28) (by decide +kernel)) rfl⟩
set_option maxRecDepth 100000 in
theorem lb_X7_why : zLV yX7_why cX7_why 5 (some .int) 4 := ⟨⟨ii_X7, zin (List.mem_of_getElem? (i := 1044) rfl) rfl, by decide +kernel, by decide +kernel, by decide +kernel⟩, zin (List.mem_of_getElem? (i := 1043) (by decide +kernel)) rfl, zin (List.mem_of_getElem? (i := 48) (by decide +kernel)) rfl⟩
set_option maxRecDepth 100000 in
theorem lb_X7_wise : zLV yX7_wise cX7_wise 5 (some .int) 2 := ⟨⟨ii_X7, zin (List.mem_of_getElem? (i := 996) rfl) rfl, by decide +kernel, by decide +kernel, by decide +kernel⟩, zin (List.mem_of_getElem? (i := 994) (by decide +kernel)) rfl, zin (List.mem_of_getElem? (i := 995) (by decide +kernel)) rfl⟩
