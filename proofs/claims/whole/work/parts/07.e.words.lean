theorem oi2 : Cond.code objectInit ⟨#[0xb1]⟩ 1 none ∈ BIG := tb_in (i := 27) tb_c0 (rfl) rfl
theorem w_0_46 : Cond.methodLink RX4 3 objectInit ∈ BIG := tb_in (i := 46) tb_c0 (by decide +kernel) rfl
theorem w_0_161 : Cond.methodLink RX9 3 objectInit ∈ BIG := tb_in (i := 161) tb_c0 (by decide +kernel) rfl
theorem w_0_162 : Cond.fieldLink RX9 9 RX9 "bytes" "[I" ∈ BIG := tb_in (i := 162) tb_c0 (by decide +kernel) rfl
theorem w_0_164 : Cond.fieldLink RX9 15 RX9 "size" "I" ∈ BIG := tb_in (i := 164) tb_c0 (by decide +kernel) rfl
theorem w_0_177 : Cond.methodLink RX1 3 objectInit ∈ BIG := tb_in (i := 177) tb_c0 (by decide +kernel) rfl
theorem w_0_178 : Cond.fieldLink RX1 9 RX1 "flat" "[I" ∈ BIG := tb_in (i := 178) tb_c0 (by decide +kernel) rfl
theorem w_0_180 : Cond.fieldLink RX1 15 RX1 "sort" "[I" ∈ BIG := tb_in (i := 180) tb_c0 (by decide +kernel) rfl
theorem w_0_182 : Cond.fieldLink RX1 18 RX1 "hour" "[I" ∈ BIG := tb_in (i := 182) tb_c0 (by decide +kernel) rfl
theorem w_0_184 : Cond.fieldLink RX1 21 RX1 "group" "[I" ∈ BIG := tb_in (i := 184) tb_c0 (by decide +kernel) rfl
theorem w_0_186 : Cond.fieldLink RX1 24 RX1 "size" "I" ∈ BIG := tb_in (i := 186) tb_c0 (by decide +kernel) rfl
theorem w_0_238 : Cond.methodLink RX7 3 objectInit ∈ BIG := tb_in (i := 238) tb_c0 (by decide +kernel) rfl
theorem w_0_239 : Cond.fieldLink RX7 9 RX7 "shares" "[I" ∈ BIG := tb_in (i := 239) tb_c0 (by decide +kernel) rfl
theorem w_1_17 : Cond.methodLink RX2 3 objectInit ∈ BIG := tb_in (i := 17) tb_c1 (by decide +kernel) rfl
theorem w_1_23 : Cond.fieldLink RX2 9 RX2 "warmAtFirst" "[I" ∈ BIG := tb_in (i := 23) tb_c1 (by decide +kernel) rfl
theorem w_1_24 : Cond.fieldLink RX2 15 RX2 "warm" "[I" ∈ BIG := tb_in (i := 24) tb_c1 (by decide +kernel) rfl
theorem w_1_27 : Cond.fieldLink RX2 18 RX2 "leaks" "[I" ∈ BIG := tb_in (i := 27) tb_c1 (by decide +kernel) rfl
theorem w_1_29 : Cond.fieldLink RX2 21 RX2 "weight" "[I" ∈ BIG := tb_in (i := 29) tb_c1 (by decide +kernel) rfl
theorem w_1_31 : Cond.fieldLink RX2 24 RX2 "flow" "[I" ∈ BIG := tb_in (i := 31) tb_c1 (by decide +kernel) rfl
theorem w_1_32 : Cond.fieldLink RX2 27 RX2 "in" "[I" ∈ BIG := tb_in (i := 32) tb_c1 (by decide +kernel) rfl
theorem w_1_34 : Cond.fieldLink RX2 30 RX2 "through" "[I" ∈ BIG := tb_in (i := 34) tb_c1 (by decide +kernel) rfl
theorem w_1_36 : Cond.fieldLink RX2 33 RX2 "oneSide" "[I" ∈ BIG := tb_in (i := 36) tb_c1 (by decide +kernel) rfl
theorem w_1_37 : Cond.fieldLink RX2 36 RX2 "otherSide" "[I" ∈ BIG := tb_in (i := 37) tb_c1 (by decide +kernel) rfl
theorem w_1_73 : Cond.methodLink RX3 3 objectInit ∈ BIG := tb_in (i := 73) tb_c1 (by decide +kernel) rfl
theorem w_1_76 : Cond.fieldLink RX3 9 RX3 "newOpen" "[I" ∈ BIG := tb_in (i := 76) tb_c1 (by decide +kernel) rfl
theorem w_1_74 : Cond.fieldLink RX3 15 RX3 "block" "LWarmthShared$Block;" ∈ BIG := tb_in (i := 74) tb_c1 (by decide +kernel) rfl
theorem w_1_75 : Cond.fieldLink RX3 19 RX3 "course" "LWarmthShared$Course;" ∈ BIG := tb_in (i := 75) tb_c1 (by decide +kernel) rfl
theorem w_0_219 : Cond.methodLink RX5 3 objectInit ∈ BIG := tb_in (i := 219) tb_c0 (by decide +kernel) rfl
theorem w_0_221 : Cond.fieldLink RX5 9 RX5 "values" "[I" ∈ BIG := tb_in (i := 221) tb_c0 (by decide +kernel) rfl
theorem w_0_220 : Cond.fieldLink RX5 15 RX5 "text" "LWarmthShared$Text;" ∈ BIG := tb_in (i := 220) tb_c0 (by decide +kernel) rfl
theorem w_1_95 : Cond.methodLink RX6 3 objectInit ∈ BIG := tb_in (i := 95) tb_c1 (by decide +kernel) rfl
theorem w_1_96 : Cond.classLink RX6 9 "[[J" ∈ BIG := tb_in (i := 96) tb_c1 (by decide +kernel) rfl
theorem w_1_98 : Cond.fieldLink RX6 11 RX6 "numbers" "[[J" ∈ BIG := tb_in (i := 98) tb_c1 (by decide +kernel) rfl
theorem w_1_100 : Cond.fieldLink RX6 16 RX6 "bits" "[I" ∈ BIG := tb_in (i := 100) tb_c1 (by decide +kernel) rfl
theorem w_1_102 : Cond.fieldLink RX6 20 RX6 "size" "[I" ∈ BIG := tb_in (i := 102) tb_c1 (by decide +kernel) rfl
theorem w_0_39 : Cond.methodLink RX0 3 objectInit ∈ BIG := tb_in (i := 39) tb_c0 (by decide +kernel) rfl
theorem w_0_40 : Cond.classLink RX0 9 RX4 ∈ BIG := tb_in (i := 40) tb_c0 (by decide +kernel) rfl
theorem w_0_118 : Cond.fieldLink RX0 11 RX0 "flats" "[LWarmthShared$Flat;" ∈ BIG := tb_in (i := 118) tb_c0 (by decide +kernel) rfl
theorem w_0_124 : Cond.fieldLink RX0 17 RX0 "size" "I" ∈ BIG := tb_in (i := 124) tb_c0 (by decide +kernel) rfl
theorem w_0_128 : Cond.fieldLink RX0 21 RX0 "heights" "[I" ∈ BIG := tb_in (i := 128) tb_c0 (by decide +kernel) rfl
theorem w_0_129 : Cond.fieldLink RX0 25 RX0 "now" "I" ∈ BIG := tb_in (i := 129) tb_c0 (by decide +kernel) rfl
theorem w_0_132 : Cond.fieldLink RX0 28 RX0 "outside" "I" ∈ BIG := tb_in (i := 132) tb_c0 (by decide +kernel) rfl
theorem w_0_135 : Cond.fieldLink RX0 31 RX0 "pump" "I" ∈ BIG := tb_in (i := 135) tb_c0 (by decide +kernel) rfl
theorem w_0_138 : Cond.fieldLink RX0 34 RX0 "boiler" "I" ∈ BIG := tb_in (i := 138) tb_c0 (by decide +kernel) rfl
theorem w_0_42 : Cond.instantiable RX4 12 ∈ BIG := tb_in (i := 42) tb_c0 (by decide +kernel) rfl
theorem w_0_4 : Cond.initialized RX4 ∈ BIG := tb_in (i := 4) tb_c0 (by decide +kernel) rfl
theorem w_0_44 : Cond.instanceMethod yX4_init ∈ BIG := tb_in (i := 44) tb_c0 (by decide +kernel) rfl
theorem w_0_45 : Cond.code yX4_init cX4_init 1 none ∈ BIG := tb_in (i := 45) tb_c0 (rfl) rfl
theorem w_0_33 : Cond.methodLink RX8 1 objectInit ∈ BIG := tb_in (i := 33) tb_c0 (by decide +kernel) rfl
theorem w_0_34 : Cond.classLink RX8 7 RX0 ∈ BIG := tb_in (i := 34) tb_c0 (by decide +kernel) rfl
theorem w_0_35 : Cond.instantiable RX0 7 ∈ BIG := tb_in (i := 35) tb_c0 (by decide +kernel) rfl
theorem w_0_3 : Cond.initialized RX0 ∈ BIG := tb_in (i := 3) tb_c0 (by decide +kernel) rfl
theorem w_0_37 : Cond.instanceMethod yX0_init ∈ BIG := tb_in (i := 37) tb_c0 (by decide +kernel) rfl
theorem w_0_38 : Cond.code yX0_init cX0_init 2 none ∈ BIG := tb_in (i := 38) tb_c0 (rfl) rfl
theorem w_0_36 : Cond.methodLink RX8 9 yX0_init ∈ BIG := tb_in (i := 36) tb_c0 (by decide +kernel) rfl
theorem w_0_199 : Cond.fieldLink RX8 10 RX8 "block" "LWarmthShared$Block;" ∈ BIG := tb_in (i := 199) tb_c0 (by decide +kernel) rfl
theorem w_0_156 : Cond.classLink RX8 16 RX9 ∈ BIG := tb_in (i := 156) tb_c0 (by decide +kernel) rfl
theorem w_0_157 : Cond.instantiable RX9 2 ∈ BIG := tb_in (i := 157) tb_c0 (by decide +kernel) rfl
theorem w_0_5 : Cond.initialized RX9 ∈ BIG := tb_in (i := 5) tb_c0 (by decide +kernel) rfl
theorem w_0_159 : Cond.instanceMethod yX9_init ∈ BIG := tb_in (i := 159) tb_c0 (by decide +kernel) rfl
theorem w_0_160 : Cond.code yX9_init cX9_init 1 none ∈ BIG := tb_in (i := 160) tb_c0 (rfl) rfl
theorem w_0_201 : Cond.fieldLink RX8 19 RX8 "rule" "LWarmthShared$Text;" ∈ BIG := tb_in (i := 201) tb_c0 (by decide +kernel) rfl
theorem w_0_172 : Cond.classLink RX8 23 RX1 ∈ BIG := tb_in (i := 172) tb_c0 (by decide +kernel) rfl
theorem w_0_173 : Cond.instantiable RX1 5 ∈ BIG := tb_in (i := 173) tb_c0 (by decide +kernel) rfl
theorem w_0_6 : Cond.initialized RX1 ∈ BIG := tb_in (i := 6) tb_c0 (by decide +kernel) rfl
theorem w_0_175 : Cond.instanceMethod yX1_init ∈ BIG := tb_in (i := 175) tb_c0 (by decide +kernel) rfl
theorem w_0_176 : Cond.code yX1_init cX1_init 1 none ∈ BIG := tb_in (i := 176) tb_c0 (rfl) rfl
theorem w_0_203 : Cond.fieldLink RX8 26 RX8 "complaints" "LWarmthShared$Complaints;" ∈ BIG := tb_in (i := 203) tb_c0 (by decide +kernel) rfl
theorem w_4_9 : Cond.methodLink RX11 1 objectInit ∈ BIG := tb_in (i := 9) tb_c4 (by decide +kernel) rfl
theorem w_4_10 : Cond.fieldLink RX11 9 RX11 "now" "[I" ∈ BIG := tb_in (i := 10) tb_c4 (by decide +kernel) rfl
theorem w_4_11 : Cond.fieldLink RX11 13 RX11 "kept" "[I" ∈ BIG := tb_in (i := 11) tb_c4 (by decide +kernel) rfl
theorem w_4_13 : Cond.fieldLink RX11 16 RX11 "found" "[I" ∈ BIG := tb_in (i := 13) tb_c4 (by decide +kernel) rfl
theorem w_4_15 : Cond.fieldLink RX11 19 RX11 "above" "[I" ∈ BIG := tb_in (i := 15) tb_c4 (by decide +kernel) rfl
theorem w_4_16 : Cond.fieldLink RX11 22 RX11 "below" "[I" ∈ BIG := tb_in (i := 16) tb_c4 (by decide +kernel) rfl
theorem w_4_17 : Cond.fieldLink RX11 25 RX11 "before" "[I" ∈ BIG := tb_in (i := 17) tb_c4 (by decide +kernel) rfl
theorem w_4_18 : Cond.fieldLink RX11 28 RX11 "behind" "[I" ∈ BIG := tb_in (i := 18) tb_c4 (by decide +kernel) rfl
theorem w_4_19 : Cond.fieldLink RX11 31 RX11 "higher" "[I" ∈ BIG := tb_in (i := 19) tb_c4 (by decide +kernel) rfl
theorem w_4_20 : Cond.fieldLink RX11 34 RX11 "opens" "[I" ∈ BIG := tb_in (i := 20) tb_c4 (by decide +kernel) rfl
theorem w_4_21 : Cond.fieldLink RX11 37 RX11 "flows" "[I" ∈ BIG := tb_in (i := 21) tb_c4 (by decide +kernel) rfl
theorem w_4_22 : Cond.fieldLink RX11 40 RX11 "leaks" "[I" ∈ BIG := tb_in (i := 22) tb_c4 (by decide +kernel) rfl
theorem w_4_23 : Cond.fieldLink RX11 43 RX11 "warms" "[I" ∈ BIG := tb_in (i := 23) tb_c4 (by decide +kernel) rfl
theorem w_4_24 : Cond.fieldLink RX11 46 RX11 "next" "[I" ∈ BIG := tb_in (i := 24) tb_c4 (by decide +kernel) rfl
theorem w_4_25 : Cond.fieldLink RX11 49 RX11 "ins" "[I" ∈ BIG := tb_in (i := 25) tb_c4 (by decide +kernel) rfl
theorem w_4_26 : Cond.fieldLink RX11 52 RX11 "throughs" "[I" ∈ BIG := tb_in (i := 26) tb_c4 (by decide +kernel) rfl
theorem w_4_27 : Cond.fieldLink RX11 55 RX11 "tape" "[I" ∈ BIG := tb_in (i := 27) tb_c4 (by decide +kernel) rfl
theorem w_4_29 : Cond.fieldLink RX11 58 RX11 "fresh" "[I" ∈ BIG := tb_in (i := 29) tb_c4 (by decide +kernel) rfl
theorem w_4_31 : Cond.fieldLink RX11 61 RX11 "waits" "[I" ∈ BIG := tb_in (i := 31) tb_c4 (by decide +kernel) rfl
theorem w_4_36 : Cond.fieldLink RX11 64 RX11 "pile" "[I" ∈ BIG := tb_in (i := 36) tb_c4 (by decide +kernel) rfl
theorem w_4_37 : Cond.fieldLink RX11 67 RX11 "shares" "[I" ∈ BIG := tb_in (i := 37) tb_c4 (by decide +kernel) rfl
theorem w_4_38 : Cond.fieldLink RX11 70 RX11 "pays" "[I" ∈ BIG := tb_in (i := 38) tb_c4 (by decide +kernel) rfl
theorem w_4_39 : Cond.fieldLink RX11 73 RX11 "rests" "[I" ∈ BIG := tb_in (i := 39) tb_c4 (by decide +kernel) rfl
theorem w_4_48 : Cond.fieldLink RX11 76 RX11 "group" "[I" ∈ BIG := tb_in (i := 48) tb_c4 (by decide +kernel) rfl
theorem w_4_49 : Cond.fieldLink RX11 79 RX11 "widths" "[I" ∈ BIG := tb_in (i := 49) tb_c4 (by decide +kernel) rfl
theorem w_4_50 : Cond.fieldLink RX11 82 RX11 "sizes" "[I" ∈ BIG := tb_in (i := 50) tb_c4 (by decide +kernel) rfl
theorem w_4_51 : Cond.fieldLink RX11 85 RX11 "cells" "[J" ∈ BIG := tb_in (i := 51) tb_c4 (by decide +kernel) rfl
theorem w_4_52 : Cond.fieldLink RX11 89 RX11 "moved" "[J" ∈ BIG := tb_in (i := 52) tb_c4 (by decide +kernel) rfl
theorem w_0_25 : Cond.methodLink RX10 1 objectInit ∈ BIG := tb_in (i := 25) tb_c0 (by decide +kernel) rfl
theorem w_0_28 : Cond.classLink RX10 7 RX8 ∈ BIG := tb_in (i := 28) tb_c0 (by decide +kernel) rfl
theorem w_0_29 : Cond.instantiable RX8 3 ∈ BIG := tb_in (i := 29) tb_c0 (by decide +kernel) rfl
theorem w_0_2 : Cond.initialized RX8 ∈ BIG := tb_in (i := 2) tb_c0 (by decide +kernel) rfl
theorem w_0_31 : Cond.instanceMethod yX8_init ∈ BIG := tb_in (i := 31) tb_c0 (by decide +kernel) rfl
theorem w_0_32 : Cond.code yX8_init cX8_init 1 none ∈ BIG := tb_in (i := 32) tb_c0 (rfl) rfl
theorem w_1_112 : Cond.fieldLink RX10 10 RX10 "state" "LWarmthShared$State;" ∈ BIG := tb_in (i := 112) tb_c1 (by decide +kernel) rfl
theorem w_1_113 : Cond.fieldLink RX10 16 RX10 "kept" "LWarmthShared$State;" ∈ BIG := tb_in (i := 113) tb_c1 (by decide +kernel) rfl
theorem w_1_114 : Cond.fieldLink RX10 19 RX10 "isKept" "Z" ∈ BIG := tb_in (i := 114) tb_c1 (by decide +kernel) rfl
theorem w_0_200 : Cond.fieldLink RX10 23 RX8 "block" "LWarmthShared$Block;" ∈ BIG := tb_in (i := 200) tb_c0 (by decide +kernel) rfl
theorem w_1_115 : Cond.fieldLink RX10 27 RX10 "block" "LWarmthShared$Block;" ∈ BIG := tb_in (i := 115) tb_c1 (by decide +kernel) rfl
theorem w_0_204 : Cond.fieldLink RX10 28 RX8 "complaints" "LWarmthShared$Complaints;" ∈ BIG := tb_in (i := 204) tb_c0 (by decide +kernel) rfl
theorem w_1_116 : Cond.fieldLink RX10 32 RX10 "complaints" "LWarmthShared$Complaints;" ∈ BIG := tb_in (i := 116) tb_c1 (by decide +kernel) rfl
theorem w_0_202 : Cond.fieldLink RX10 33 RX8 "rule" "LWarmthShared$Text;" ∈ BIG := tb_in (i := 202) tb_c0 (by decide +kernel) rfl
theorem w_1_117 : Cond.fieldLink RX10 37 RX10 "rule" "LWarmthShared$Text;" ∈ BIG := tb_in (i := 117) tb_c1 (by decide +kernel) rfl
theorem w_0_212 : Cond.classLink RX10 38 RX9 ∈ BIG := tb_in (i := 212) tb_c0 (by decide +kernel) rfl
theorem w_1_118 : Cond.fieldLink RX10 41 RX10 "tape" "LWarmthShared$Text;" ∈ BIG := tb_in (i := 118) tb_c1 (by decide +kernel) rfl
theorem w_0_214 : Cond.classLink RX10 44 RX5 ∈ BIG := tb_in (i := 214) tb_c0 (by decide +kernel) rfl
theorem w_0_215 : Cond.instantiable RX5 4 ∈ BIG := tb_in (i := 215) tb_c0 (by decide +kernel) rfl
theorem w_0_7 : Cond.initialized RX5 ∈ BIG := tb_in (i := 7) tb_c0 (by decide +kernel) rfl
theorem w_0_217 : Cond.instanceMethod yX5_init ∈ BIG := tb_in (i := 217) tb_c0 (by decide +kernel) rfl
theorem w_0_218 : Cond.code yX5_init cX5_init 2 none ∈ BIG := tb_in (i := 218) tb_c0 (rfl) rfl
theorem w_0_216 : Cond.methodLink RX10 46 yX5_init ∈ BIG := tb_in (i := 216) tb_c0 (by decide +kernel) rfl
theorem w_1_119 : Cond.fieldLink RX10 49 RX10 "ruleReader" "LWarmthShared$RuleReader;" ∈ BIG := tb_in (i := 119) tb_c1 (by decide +kernel) rfl
theorem w_1_120 : Cond.fieldLink RX10 53 RX10 "tapeReader" "LWarmthShared$RuleReader;" ∈ BIG := tb_in (i := 120) tb_c1 (by decide +kernel) rfl
theorem w_0_233 : Cond.classLink RX10 56 RX7 ∈ BIG := tb_in (i := 233) tb_c0 (by decide +kernel) rfl
theorem w_0_234 : Cond.instantiable RX7 4 ∈ BIG := tb_in (i := 234) tb_c0 (by decide +kernel) rfl
theorem w_0_8 : Cond.initialized RX7 ∈ BIG := tb_in (i := 8) tb_c0 (by decide +kernel) rfl
theorem w_0_236 : Cond.instanceMethod yX7_init ∈ BIG := tb_in (i := 236) tb_c0 (by decide +kernel) rfl
theorem w_0_237 : Cond.code yX7_init cX7_init 1 none ∈ BIG := tb_in (i := 237) tb_c0 (rfl) rfl
theorem w_1_121 : Cond.fieldLink RX10 59 RX10 "split" "LWarmthShared$Split;" ∈ BIG := tb_in (i := 121) tb_c1 (by decide +kernel) rfl
theorem w_1_12 : Cond.classLink RX10 63 RX2 ∈ BIG := tb_in (i := 12) tb_c1 (by decide +kernel) rfl
theorem w_1_13 : Cond.instantiable RX2 14 ∈ BIG := tb_in (i := 13) tb_c1 (by decide +kernel) rfl
theorem w_0_9 : Cond.initialized RX2 ∈ BIG := tb_in (i := 9) tb_c0 (by decide +kernel) rfl
theorem w_1_15 : Cond.instanceMethod yX2_init ∈ BIG := tb_in (i := 15) tb_c1 (by decide +kernel) rfl
theorem w_1_16 : Cond.code yX2_init cX2_init 1 none ∈ BIG := tb_in (i := 16) tb_c1 (rfl) rfl
theorem w_1_122 : Cond.fieldLink RX10 66 RX10 "course" "LWarmthShared$Course;" ∈ BIG := tb_in (i := 122) tb_c1 (by decide +kernel) rfl
theorem w_1_68 : Cond.classLink RX10 70 RX3 ∈ BIG := tb_in (i := 68) tb_c1 (by decide +kernel) rfl
theorem w_1_69 : Cond.instantiable RX3 5 ∈ BIG := tb_in (i := 69) tb_c1 (by decide +kernel) rfl
theorem w_0_10 : Cond.initialized RX3 ∈ BIG := tb_in (i := 10) tb_c0 (by decide +kernel) rfl
theorem w_1_71 : Cond.instanceMethod yX3_init ∈ BIG := tb_in (i := 71) tb_c1 (by decide +kernel) rfl
theorem w_1_72 : Cond.code yX3_init cX3_init 3 none ∈ BIG := tb_in (i := 72) tb_c1 (rfl) rfl
theorem w_1_70 : Cond.methodLink RX10 72 yX3_init ∈ BIG := tb_in (i := 70) tb_c1 (by decide +kernel) rfl
theorem w_1_123 : Cond.fieldLink RX10 75 RX10 "fewTurns" "LWarmthShared$FewTurns;" ∈ BIG := tb_in (i := 123) tb_c1 (by decide +kernel) rfl
theorem w_1_90 : Cond.classLink RX10 79 RX6 ∈ BIG := tb_in (i := 90) tb_c1 (by decide +kernel) rfl
theorem w_1_91 : Cond.instantiable RX6 3 ∈ BIG := tb_in (i := 91) tb_c1 (by decide +kernel) rfl
theorem w_0_11 : Cond.initialized RX6 ∈ BIG := tb_in (i := 11) tb_c0 (by decide +kernel) rfl
theorem w_1_93 : Cond.instanceMethod yX6_init ∈ BIG := tb_in (i := 93) tb_c1 (by decide +kernel) rfl
theorem w_1_94 : Cond.code yX6_init cX6_init 1 none ∈ BIG := tb_in (i := 94) tb_c1 (rfl) rfl
theorem w_1_124 : Cond.fieldLink RX10 82 RX10 "sheets" "LWarmthShared$Sheets;" ∈ BIG := tb_in (i := 124) tb_c1 (by decide +kernel) rfl
theorem w_1_125 : Cond.fieldLink RX10 86 RX10 "findings" "[I" ∈ BIG := tb_in (i := 125) tb_c1 (by decide +kernel) rfl
