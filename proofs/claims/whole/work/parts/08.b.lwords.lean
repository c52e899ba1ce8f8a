theorem v_1_155 : Cond.methodLink RL 13 yX10_flat ∈ BIG := tb_in (i := 155) tb_c1 (by decide +kernel) rfl
theorem v_1_156 : Cond.instanceMethod yX10_flat ∈ BIG := tb_in (i := 156) tb_c1 (by decide +kernel) rfl
theorem v_1_157 : Cond.selects RX10 yX10_flat yX10_flat ∈ BIG := tb_in (i := 157) tb_c1 (by decide +kernel) rfl
theorem v_0_1 : Cond.initialized RX10 ∈ BIG := tb_in (i := 1) tb_c0 (by decide +kernel) rfl
theorem v_1_158 : Cond.code yX10_flat cX10_flat 4 (some .int) ∈ BIG := tb_in (i := 158) tb_c1 (rfl) rfl
theorem vb_X10_flat : VB RL 13 RX10 yX10_flat (.code yX10_flat cX10_flat 4 (some .int)) 3 := ⟨⟨all4 v_1_155 v_1_156 v_1_157 v_0_1, v_1_158⟩, by decide +kernel⟩
theorem v_4_140 : Cond.methodLink RL 17 yX11_flat ∈ BIG := tb_in (i := 140) tb_c4 (by decide +kernel) rfl
theorem v_4_141 : Cond.instanceMethod yX11_flat ∈ BIG := tb_in (i := 141) tb_c4 (by decide +kernel) rfl
theorem v_4_142 : Cond.selects RX11 yX11_flat yX11_flat ∈ BIG := tb_in (i := 142) tb_c4 (by decide +kernel) rfl
theorem v_0_12 : Cond.initialized RX11 ∈ BIG := tb_in (i := 12) tb_c0 (by decide +kernel) rfl
theorem v_4_143 : Cond.code yX11_flat cX11_flat 6 (some .int) ∈ BIG := tb_in (i := 143) tb_c4 (rfl) rfl
theorem vb_X11_flat : VB RL 17 RX11 yX11_flat (.code yX11_flat cX11_flat 6 (some .int)) 3 := ⟨⟨all4 v_4_140 v_4_141 v_4_142 v_0_12, v_4_143⟩, by decide +kernel⟩
theorem v_1_176 : Cond.methodLink RL 18 yX10_of ∈ BIG := tb_in (i := 176) tb_c1 (by decide +kernel) rfl
theorem v_1_177 : Cond.instanceMethod yX10_of ∈ BIG := tb_in (i := 177) tb_c1 (by decide +kernel) rfl
theorem v_1_178 : Cond.selects RX10 yX10_of yX10_of ∈ BIG := tb_in (i := 178) tb_c1 (by decide +kernel) rfl
theorem v_1_179 : Cond.code yX10_of cX10_of 4 (some .int) ∈ BIG := tb_in (i := 179) tb_c1 (rfl) rfl
theorem vb_X10_of : VB RL 18 RX10 yX10_of (.code yX10_of cX10_of 4 (some .int)) 2 := ⟨⟨all4 v_1_176 v_1_177 v_1_178 v_0_1, v_1_179⟩, by decide +kernel⟩
theorem v_4_153 : Cond.methodLink RL 22 yX11_of ∈ BIG := tb_in (i := 153) tb_c4 (by decide +kernel) rfl
theorem v_4_154 : Cond.instanceMethod yX11_of ∈ BIG := tb_in (i := 154) tb_c4 (by decide +kernel) rfl
theorem v_4_155 : Cond.selects RX11 yX11_of yX11_of ∈ BIG := tb_in (i := 155) tb_c4 (by decide +kernel) rfl
theorem v_4_156 : Cond.code yX11_of cX11_of 3 (some .int) ∈ BIG := tb_in (i := 156) tb_c4 (rfl) rfl
theorem vb_X11_of : VB RL 22 RX11 yX11_of (.code yX11_of cX11_of 3 (some .int)) 2 := ⟨⟨all4 v_4_153 v_4_154 v_4_155 v_0_12, v_4_156⟩, by decide +kernel⟩
theorem v_1_218 : Cond.methodLink RL 23 yX10_as ∈ BIG := tb_in (i := 218) tb_c1 (by decide +kernel) rfl
theorem v_1_219 : Cond.instanceMethod yX10_as ∈ BIG := tb_in (i := 219) tb_c1 (by decide +kernel) rfl
theorem v_1_220 : Cond.selects RX10 yX10_as yX10_as ∈ BIG := tb_in (i := 220) tb_c1 (by decide +kernel) rfl
theorem v_1_221 : Cond.code yX10_as cX10_as 4 (some .int) ∈ BIG := tb_in (i := 221) tb_c1 (rfl) rfl
theorem vb_X10_as : VB RL 23 RX10 yX10_as (.code yX10_as cX10_as 4 (some .int)) 2 := ⟨⟨all4 v_1_218 v_1_219 v_1_220 v_0_1, v_1_221⟩, by decide +kernel⟩
theorem v_4_197 : Cond.methodLink RL 26 yX11_as ∈ BIG := tb_in (i := 197) tb_c4 (by decide +kernel) rfl
theorem v_4_198 : Cond.instanceMethod yX11_as ∈ BIG := tb_in (i := 198) tb_c4 (by decide +kernel) rfl
theorem v_4_199 : Cond.selects RX11 yX11_as yX11_as ∈ BIG := tb_in (i := 199) tb_c4 (by decide +kernel) rfl
theorem v_4_200 : Cond.code yX11_as cX11_as 3 (some .int) ∈ BIG := tb_in (i := 200) tb_c4 (rfl) rfl
theorem vb_X11_as : VB RL 26 RX11 yX11_as (.code yX11_as cX11_as 3 (some .int)) 2 := ⟨⟨all4 v_4_197 v_4_198 v_4_199 v_0_12, v_4_200⟩, by decide +kernel⟩
theorem v_1_228 : Cond.methodLink RL 27 yX10_set ∈ BIG := tb_in (i := 228) tb_c1 (by decide +kernel) rfl
theorem v_1_229 : Cond.instanceMethod yX10_set ∈ BIG := tb_in (i := 229) tb_c1 (by decide +kernel) rfl
theorem v_1_230 : Cond.selects RX10 yX10_set yX10_set ∈ BIG := tb_in (i := 230) tb_c1 (by decide +kernel) rfl
theorem v_1_231 : Cond.code yX10_set cX10_set 4 (some .int) ∈ BIG := tb_in (i := 231) tb_c1 (rfl) rfl
theorem vb_X10_set : VB RL 27 RX10 yX10_set (.code yX10_set cX10_set 4 (some .int)) 2 := ⟨⟨all4 v_1_228 v_1_229 v_1_230 v_0_1, v_1_231⟩, by decide +kernel⟩
theorem v_4_205 : Cond.methodLink RL 30 yX11_set ∈ BIG := tb_in (i := 205) tb_c4 (by decide +kernel) rfl
theorem v_4_206 : Cond.instanceMethod yX11_set ∈ BIG := tb_in (i := 206) tb_c4 (by decide +kernel) rfl
theorem v_4_207 : Cond.selects RX11 yX11_set yX11_set ∈ BIG := tb_in (i := 207) tb_c4 (by decide +kernel) rfl
theorem v_4_208 : Cond.code yX11_set cX11_set 4 (some .int) ∈ BIG := tb_in (i := 208) tb_c4 (rfl) rfl
theorem vb_X11_set : VB RL 30 RX11 yX11_set (.code yX11_set cX11_set 4 (some .int)) 2 := ⟨⟨all4 v_4_205 v_4_206 v_4_207 v_0_12, v_4_208⟩, by decide +kernel⟩
theorem v_1_232 : Cond.methodLink RL 31 yX10_turn ∈ BIG := tb_in (i := 232) tb_c1 (by decide +kernel) rfl
theorem v_1_233 : Cond.instanceMethod yX10_turn ∈ BIG := tb_in (i := 233) tb_c1 (by decide +kernel) rfl
theorem v_1_234 : Cond.selects RX10 yX10_turn yX10_turn ∈ BIG := tb_in (i := 234) tb_c1 (by decide +kernel) rfl
theorem v_1_235 : Cond.code yX10_turn cX10_turn 5 (some .int) ∈ BIG := tb_in (i := 235) tb_c1 (rfl) rfl
theorem vb_X10_turn : VB RL 31 RX10 yX10_turn (.code yX10_turn cX10_turn 5 (some .int)) 2 := ⟨⟨all4 v_1_232 v_1_233 v_1_234 v_0_1, v_1_235⟩, by decide +kernel⟩
theorem v_4_209 : Cond.methodLink RL 34 yX11_turn ∈ BIG := tb_in (i := 209) tb_c4 (by decide +kernel) rfl
theorem v_4_210 : Cond.instanceMethod yX11_turn ∈ BIG := tb_in (i := 210) tb_c4 (by decide +kernel) rfl
theorem v_4_211 : Cond.selects RX11 yX11_turn yX11_turn ∈ BIG := tb_in (i := 211) tb_c4 (by decide +kernel) rfl
theorem v_4_212 : Cond.code yX11_turn cX11_turn 3 (some .int) ∈ BIG := tb_in (i := 212) tb_c4 (rfl) rfl
theorem vb_X11_turn : VB RL 34 RX11 yX11_turn (.code yX11_turn cX11_turn 3 (some .int)) 2 := ⟨⟨all4 v_4_209 v_4_210 v_4_211 v_0_12, v_4_212⟩, by decide +kernel⟩
theorem v_1_237 : Cond.methodLink RL 35 yX10_hold ∈ BIG := tb_in (i := 237) tb_c1 (by decide +kernel) rfl
theorem v_1_238 : Cond.instanceMethod yX10_hold ∈ BIG := tb_in (i := 238) tb_c1 (by decide +kernel) rfl
theorem v_1_239 : Cond.selects RX10 yX10_hold yX10_hold ∈ BIG := tb_in (i := 239) tb_c1 (by decide +kernel) rfl
theorem v_2_0 : Cond.code yX10_hold cX10_hold 5 (some .int) ∈ BIG := tb_in (i := 0) tb_c2 (rfl) rfl
theorem vb_X10_hold : VB RL 35 RX10 yX10_hold (.code yX10_hold cX10_hold 5 (some .int)) 2 := ⟨⟨all4 v_1_237 v_1_238 v_1_239 v_0_1, v_2_0⟩, by decide +kernel⟩
theorem v_4_218 : Cond.methodLink RL 39 yX11_hold ∈ BIG := tb_in (i := 218) tb_c4 (by decide +kernel) rfl
theorem v_4_219 : Cond.instanceMethod yX11_hold ∈ BIG := tb_in (i := 219) tb_c4 (by decide +kernel) rfl
theorem v_4_220 : Cond.selects RX11 yX11_hold yX11_hold ∈ BIG := tb_in (i := 220) tb_c4 (by decide +kernel) rfl
theorem v_4_221 : Cond.code yX11_hold cX11_hold 3 (some .int) ∈ BIG := tb_in (i := 221) tb_c4 (rfl) rfl
theorem vb_X11_hold : VB RL 39 RX11 yX11_hold (.code yX11_hold cX11_hold 3 (some .int)) 2 := ⟨⟨all4 v_4_218 v_4_219 v_4_220 v_0_12, v_4_221⟩, by decide +kernel⟩
theorem v_2_1 : Cond.methodLink RL 40 yX10_window ∈ BIG := tb_in (i := 1) tb_c2 (by decide +kernel) rfl
theorem v_2_2 : Cond.instanceMethod yX10_window ∈ BIG := tb_in (i := 2) tb_c2 (by decide +kernel) rfl
theorem v_2_3 : Cond.selects RX10 yX10_window yX10_window ∈ BIG := tb_in (i := 3) tb_c2 (by decide +kernel) rfl
theorem v_2_4 : Cond.code yX10_window cX10_window 5 (some .int) ∈ BIG := tb_in (i := 4) tb_c2 (rfl) rfl
theorem vb_X10_window : VB RL 40 RX10 yX10_window (.code yX10_window cX10_window 5 (some .int)) 2 := ⟨⟨all4 v_2_1 v_2_2 v_2_3 v_0_1, v_2_4⟩, by decide +kernel⟩
theorem v_4_222 : Cond.methodLink RL 43 yX11_window ∈ BIG := tb_in (i := 222) tb_c4 (by decide +kernel) rfl
theorem v_4_223 : Cond.instanceMethod yX11_window ∈ BIG := tb_in (i := 223) tb_c4 (by decide +kernel) rfl
theorem v_4_224 : Cond.selects RX11 yX11_window yX11_window ∈ BIG := tb_in (i := 224) tb_c4 (by decide +kernel) rfl
theorem v_4_225 : Cond.code yX11_window cX11_window 3 (some .int) ∈ BIG := tb_in (i := 225) tb_c4 (rfl) rfl
theorem vb_X11_window : VB RL 43 RX11 yX11_window (.code yX11_window cX11_window 3 (some .int)) 2 := ⟨⟨all4 v_4_222 v_4_223 v_4_224 v_0_12, v_4_225⟩, by decide +kernel⟩
theorem v_2_5 : Cond.methodLink RL 44 yX10_drift ∈ BIG := tb_in (i := 5) tb_c2 (by decide +kernel) rfl
theorem v_2_6 : Cond.instanceMethod yX10_drift ∈ BIG := tb_in (i := 6) tb_c2 (by decide +kernel) rfl
theorem v_2_7 : Cond.selects RX10 yX10_drift yX10_drift ∈ BIG := tb_in (i := 7) tb_c2 (by decide +kernel) rfl
theorem v_2_8 : Cond.code yX10_drift cX10_drift 5 (some .int) ∈ BIG := tb_in (i := 8) tb_c2 (rfl) rfl
theorem vb_X10_drift : VB RL 44 RX10 yX10_drift (.code yX10_drift cX10_drift 5 (some .int)) 2 := ⟨⟨all4 v_2_5 v_2_6 v_2_7 v_0_1, v_2_8⟩, by decide +kernel⟩
theorem v_4_226 : Cond.methodLink RL 47 yX11_drift ∈ BIG := tb_in (i := 226) tb_c4 (by decide +kernel) rfl
theorem v_4_227 : Cond.instanceMethod yX11_drift ∈ BIG := tb_in (i := 227) tb_c4 (by decide +kernel) rfl
theorem v_4_228 : Cond.selects RX11 yX11_drift yX11_drift ∈ BIG := tb_in (i := 228) tb_c4 (by decide +kernel) rfl
theorem v_4_229 : Cond.code yX11_drift cX11_drift 3 (some .int) ∈ BIG := tb_in (i := 229) tb_c4 (rfl) rfl
theorem vb_X11_drift : VB RL 47 RX11 yX11_drift (.code yX11_drift cX11_drift 3 (some .int)) 2 := ⟨⟨all4 v_4_226 v_4_227 v_4_228 v_0_12, v_4_229⟩, by decide +kernel⟩
theorem v_2_9 : Cond.methodLink RL 48 yX10_hours ∈ BIG := tb_in (i := 9) tb_c2 (by decide +kernel) rfl
theorem v_2_10 : Cond.instanceMethod yX10_hours ∈ BIG := tb_in (i := 10) tb_c2 (by decide +kernel) rfl
theorem v_2_11 : Cond.selects RX10 yX10_hours yX10_hours ∈ BIG := tb_in (i := 11) tb_c2 (by decide +kernel) rfl
theorem v_2_12 : Cond.code yX10_hours cX10_hours 3 (some .int) ∈ BIG := tb_in (i := 12) tb_c2 (rfl) rfl
theorem vb_X10_hours : VB RL 48 RX10 yX10_hours (.code yX10_hours cX10_hours 3 (some .int)) 1 := ⟨⟨all4 v_2_9 v_2_10 v_2_11 v_0_1, v_2_12⟩, by decide +kernel⟩
theorem v_4_230 : Cond.methodLink RL 52 yX11_hours ∈ BIG := tb_in (i := 230) tb_c4 (by decide +kernel) rfl
theorem v_4_231 : Cond.instanceMethod yX11_hours ∈ BIG := tb_in (i := 231) tb_c4 (by decide +kernel) rfl
theorem v_4_232 : Cond.selects RX11 yX11_hours yX11_hours ∈ BIG := tb_in (i := 232) tb_c4 (by decide +kernel) rfl
theorem v_4_233 : Cond.code yX11_hours cX11_hours 3 (some .int) ∈ BIG := tb_in (i := 233) tb_c4 (rfl) rfl
theorem vb_X11_hours : VB RL 52 RX11 yX11_hours (.code yX11_hours cX11_hours 3 (some .int)) 1 := ⟨⟨all4 v_4_230 v_4_231 v_4_232 v_0_12, v_4_233⟩, by decide +kernel⟩
theorem v_2_48 : Cond.methodLink RL 53 yX10_riser ∈ BIG := tb_in (i := 48) tb_c2 (by decide +kernel) rfl
theorem v_2_49 : Cond.instanceMethod yX10_riser ∈ BIG := tb_in (i := 49) tb_c2 (by decide +kernel) rfl
theorem v_2_50 : Cond.selects RX10 yX10_riser yX10_riser ∈ BIG := tb_in (i := 50) tb_c2 (by decide +kernel) rfl
theorem v_2_51 : Cond.code yX10_riser cX10_riser 4 (some .int) ∈ BIG := tb_in (i := 51) tb_c2 (rfl) rfl
theorem vb_X10_riser : VB RL 53 RX10 yX10_riser (.code yX10_riser cX10_riser 4 (some .int)) 1 := ⟨⟨all4 v_2_48 v_2_49 v_2_50 v_0_1, v_2_51⟩, by decide +kernel⟩
theorem v_5_6 : Cond.methodLink RL 56 yX11_riser ∈ BIG := tb_in (i := 6) tb_c5 (by decide +kernel) rfl
theorem v_5_7 : Cond.instanceMethod yX11_riser ∈ BIG := tb_in (i := 7) tb_c5 (by decide +kernel) rfl
theorem v_5_8 : Cond.selects RX11 yX11_riser yX11_riser ∈ BIG := tb_in (i := 8) tb_c5 (by decide +kernel) rfl
theorem v_5_9 : Cond.code yX11_riser cX11_riser 4 (some .int) ∈ BIG := tb_in (i := 9) tb_c5 (rfl) rfl
theorem vb_X11_riser : VB RL 56 RX11 yX11_riser (.code yX11_riser cX11_riser 4 (some .int)) 1 := ⟨⟨all4 v_5_6 v_5_7 v_5_8 v_0_12, v_5_9⟩, by decide +kernel⟩
theorem v_2_52 : Cond.methodLink RL 57 yX10_feed ∈ BIG := tb_in (i := 52) tb_c2 (by decide +kernel) rfl
theorem v_2_53 : Cond.instanceMethod yX10_feed ∈ BIG := tb_in (i := 53) tb_c2 (by decide +kernel) rfl
theorem v_2_54 : Cond.selects RX10 yX10_feed yX10_feed ∈ BIG := tb_in (i := 54) tb_c2 (by decide +kernel) rfl
theorem v_2_55 : Cond.code yX10_feed cX10_feed 4 (some .int) ∈ BIG := tb_in (i := 55) tb_c2 (rfl) rfl
theorem vb_X10_feed : VB RL 57 RX10 yX10_feed (.code yX10_feed cX10_feed 4 (some .int)) 2 := ⟨⟨all4 v_2_52 v_2_53 v_2_54 v_0_1, v_2_55⟩, by decide +kernel⟩
theorem v_5_10 : Cond.methodLink RL 60 yX11_feed ∈ BIG := tb_in (i := 10) tb_c5 (by decide +kernel) rfl
theorem v_5_11 : Cond.instanceMethod yX11_feed ∈ BIG := tb_in (i := 11) tb_c5 (by decide +kernel) rfl
theorem v_5_12 : Cond.selects RX11 yX11_feed yX11_feed ∈ BIG := tb_in (i := 12) tb_c5 (by decide +kernel) rfl
theorem v_5_13 : Cond.code yX11_feed cX11_feed 4 (some .int) ∈ BIG := tb_in (i := 13) tb_c5 (rfl) rfl
theorem vb_X11_feed : VB RL 60 RX11 yX11_feed (.code yX11_feed cX11_feed 4 (some .int)) 2 := ⟨⟨all4 v_5_10 v_5_11 v_5_12 v_0_12, v_5_13⟩, by decide +kernel⟩
theorem v_2_60 : Cond.methodLink RL 61 yX10_wipe ∈ BIG := tb_in (i := 60) tb_c2 (by decide +kernel) rfl
theorem v_2_61 : Cond.instanceMethod yX10_wipe ∈ BIG := tb_in (i := 61) tb_c2 (by decide +kernel) rfl
theorem v_2_62 : Cond.selects RX10 yX10_wipe yX10_wipe ∈ BIG := tb_in (i := 62) tb_c2 (by decide +kernel) rfl
theorem v_2_63 : Cond.code yX10_wipe cX10_wipe 2 (some .int) ∈ BIG := tb_in (i := 63) tb_c2 (rfl) rfl
theorem vb_X10_wipe : VB RL 61 RX10 yX10_wipe (.code yX10_wipe cX10_wipe 2 (some .int)) 0 := ⟨⟨all4 v_2_60 v_2_61 v_2_62 v_0_1, v_2_63⟩, by decide +kernel⟩
theorem v_5_14 : Cond.methodLink RL 65 yX11_wipe ∈ BIG := tb_in (i := 14) tb_c5 (by decide +kernel) rfl
theorem v_5_15 : Cond.instanceMethod yX11_wipe ∈ BIG := tb_in (i := 15) tb_c5 (by decide +kernel) rfl
theorem v_5_16 : Cond.selects RX11 yX11_wipe yX11_wipe ∈ BIG := tb_in (i := 16) tb_c5 (by decide +kernel) rfl
theorem v_5_17 : Cond.code yX11_wipe cX11_wipe 2 (some .int) ∈ BIG := tb_in (i := 17) tb_c5 (rfl) rfl
theorem vb_X11_wipe : VB RL 65 RX11 yX11_wipe (.code yX11_wipe cX11_wipe 2 (some .int)) 0 := ⟨⟨all4 v_5_14 v_5_15 v_5_16 v_0_12, v_5_17⟩, by decide +kernel⟩
theorem v_2_64 : Cond.methodLink RL 66 yX10_rule ∈ BIG := tb_in (i := 64) tb_c2 (by decide +kernel) rfl
theorem v_2_65 : Cond.instanceMethod yX10_rule ∈ BIG := tb_in (i := 65) tb_c2 (by decide +kernel) rfl
theorem v_2_66 : Cond.selects RX10 yX10_rule yX10_rule ∈ BIG := tb_in (i := 66) tb_c2 (by decide +kernel) rfl
theorem v_2_67 : Cond.code yX10_rule cX10_rule 2 (some .int) ∈ BIG := tb_in (i := 67) tb_c2 (rfl) rfl
theorem vb_X10_rule : VB RL 66 RX10 yX10_rule (.code yX10_rule cX10_rule 2 (some .int)) 0 := ⟨⟨all4 v_2_64 v_2_65 v_2_66 v_0_1, v_2_67⟩, by decide +kernel⟩
theorem v_5_18 : Cond.methodLink RL 69 yX11_rule ∈ BIG := tb_in (i := 18) tb_c5 (by decide +kernel) rfl
theorem v_5_19 : Cond.instanceMethod yX11_rule ∈ BIG := tb_in (i := 19) tb_c5 (by decide +kernel) rfl
theorem v_5_20 : Cond.selects RX11 yX11_rule yX11_rule ∈ BIG := tb_in (i := 20) tb_c5 (by decide +kernel) rfl
theorem v_5_21 : Cond.code yX11_rule cX11_rule 3 (some .int) ∈ BIG := tb_in (i := 21) tb_c5 (rfl) rfl
theorem vb_X11_rule : VB RL 69 RX11 yX11_rule (.code yX11_rule cX11_rule 3 (some .int)) 0 := ⟨⟨all4 v_5_18 v_5_19 v_5_20 v_0_12, v_5_21⟩, by decide +kernel⟩
theorem v_2_203 : Cond.methodLink RL 70 yX10_plain ∈ BIG := tb_in (i := 203) tb_c2 (by decide +kernel) rfl
theorem v_2_204 : Cond.instanceMethod yX10_plain ∈ BIG := tb_in (i := 204) tb_c2 (by decide +kernel) rfl
theorem v_2_205 : Cond.selects RX10 yX10_plain yX10_plain ∈ BIG := tb_in (i := 205) tb_c2 (by decide +kernel) rfl
theorem v_2_206 : Cond.code yX10_plain cX10_plain 2 (some .int) ∈ BIG := tb_in (i := 206) tb_c2 (rfl) rfl
theorem vb_X10_plain : VB RL 70 RX10 yX10_plain (.code yX10_plain cX10_plain 2 (some .int)) 0 := ⟨⟨all4 v_2_203 v_2_204 v_2_205 v_0_1, v_2_206⟩, by decide +kernel⟩
theorem v_5_52 : Cond.methodLink RL 73 yX11_plain ∈ BIG := tb_in (i := 52) tb_c5 (by decide +kernel) rfl
theorem v_5_53 : Cond.instanceMethod yX11_plain ∈ BIG := tb_in (i := 53) tb_c5 (by decide +kernel) rfl
theorem v_5_54 : Cond.selects RX11 yX11_plain yX11_plain ∈ BIG := tb_in (i := 54) tb_c5 (by decide +kernel) rfl
theorem v_5_55 : Cond.code yX11_plain cX11_plain 2 (some .int) ∈ BIG := tb_in (i := 55) tb_c5 (rfl) rfl
theorem vb_X11_plain : VB RL 73 RX11 yX11_plain (.code yX11_plain cX11_plain 2 (some .int)) 0 := ⟨⟨all4 v_5_52 v_5_53 v_5_54 v_0_12, v_5_55⟩, by decide +kernel⟩
theorem v_2_211 : Cond.methodLink RL 74 yX10_share ∈ BIG := tb_in (i := 211) tb_c2 (by decide +kernel) rfl
theorem v_2_212 : Cond.instanceMethod yX10_share ∈ BIG := tb_in (i := 212) tb_c2 (by decide +kernel) rfl
theorem v_2_213 : Cond.selects RX10 yX10_share yX10_share ∈ BIG := tb_in (i := 213) tb_c2 (by decide +kernel) rfl
theorem v_2_214 : Cond.code yX10_share cX10_share 2 (some .int) ∈ BIG := tb_in (i := 214) tb_c2 (rfl) rfl
theorem vb_X10_share : VB RL 74 RX10 yX10_share (.code yX10_share cX10_share 2 (some .int)) 1 := ⟨⟨all4 v_2_211 v_2_212 v_2_213 v_0_1, v_2_214⟩, by decide +kernel⟩
theorem v_5_56 : Cond.methodLink RL 77 yX11_share ∈ BIG := tb_in (i := 56) tb_c5 (by decide +kernel) rfl
theorem v_5_57 : Cond.instanceMethod yX11_share ∈ BIG := tb_in (i := 57) tb_c5 (by decide +kernel) rfl
theorem v_5_58 : Cond.selects RX11 yX11_share yX11_share ∈ BIG := tb_in (i := 58) tb_c5 (by decide +kernel) rfl
theorem v_5_59 : Cond.code yX11_share cX11_share 2 (some .int) ∈ BIG := tb_in (i := 59) tb_c5 (rfl) rfl
theorem vb_X11_share : VB RL 77 RX11 yX11_share (.code yX11_share cX11_share 2 (some .int)) 1 := ⟨⟨all4 v_5_56 v_5_57 v_5_58 v_0_12, v_5_59⟩, by decide +kernel⟩
theorem v_2_230 : Cond.methodLink RL 78 yX10_bill ∈ BIG := tb_in (i := 230) tb_c2 (by decide +kernel) rfl
theorem v_2_231 : Cond.instanceMethod yX10_bill ∈ BIG := tb_in (i := 231) tb_c2 (by decide +kernel) rfl
theorem v_2_232 : Cond.selects RX10 yX10_bill yX10_bill ∈ BIG := tb_in (i := 232) tb_c2 (by decide +kernel) rfl
theorem v_2_233 : Cond.code yX10_bill cX10_bill 3 (some .int) ∈ BIG := tb_in (i := 233) tb_c2 (rfl) rfl
theorem vb_X10_bill : VB RL 78 RX10 yX10_bill (.code yX10_bill cX10_bill 3 (some .int)) 2 := ⟨⟨all4 v_2_230 v_2_231 v_2_232 v_0_1, v_2_233⟩, by decide +kernel⟩
theorem v_5_79 : Cond.methodLink RL 81 yX11_bill ∈ BIG := tb_in (i := 79) tb_c5 (by decide +kernel) rfl
theorem v_5_80 : Cond.instanceMethod yX11_bill ∈ BIG := tb_in (i := 80) tb_c5 (by decide +kernel) rfl
theorem v_5_81 : Cond.selects RX11 yX11_bill yX11_bill ∈ BIG := tb_in (i := 81) tb_c5 (by decide +kernel) rfl
theorem v_5_82 : Cond.code yX11_bill cX11_bill 3 (some .int) ∈ BIG := tb_in (i := 82) tb_c5 (rfl) rfl
theorem vb_X11_bill : VB RL 81 RX11 yX11_bill (.code yX11_bill cX11_bill 3 (some .int)) 2 := ⟨⟨all4 v_5_79 v_5_80 v_5_81 v_0_12, v_5_82⟩, by decide +kernel⟩
theorem v_3_17 : Cond.methodLink RL 82 yX10_other ∈ BIG := tb_in (i := 17) tb_c3 (by decide +kernel) rfl
theorem v_3_18 : Cond.instanceMethod yX10_other ∈ BIG := tb_in (i := 18) tb_c3 (by decide +kernel) rfl
theorem v_3_19 : Cond.selects RX10 yX10_other yX10_other ∈ BIG := tb_in (i := 19) tb_c3 (by decide +kernel) rfl
theorem v_3_20 : Cond.code yX10_other cX10_other 4 (some .int) ∈ BIG := tb_in (i := 20) tb_c3 (rfl) rfl
theorem vb_X10_other : VB RL 82 RX10 yX10_other (.code yX10_other cX10_other 4 (some .int)) 2 := ⟨⟨all4 v_3_17 v_3_18 v_3_19 v_0_1, v_3_20⟩, by decide +kernel⟩
theorem v_5_88 : Cond.methodLink RL 85 yX11_other ∈ BIG := tb_in (i := 88) tb_c5 (by decide +kernel) rfl
theorem v_5_89 : Cond.instanceMethod yX11_other ∈ BIG := tb_in (i := 89) tb_c5 (by decide +kernel) rfl
theorem v_5_90 : Cond.selects RX11 yX11_other yX11_other ∈ BIG := tb_in (i := 90) tb_c5 (by decide +kernel) rfl
theorem v_5_91 : Cond.code yX11_other cX11_other 5 (some .int) ∈ BIG := tb_in (i := 91) tb_c5 (rfl) rfl
theorem vb_X11_other : VB RL 85 RX11 yX11_other (.code yX11_other cX11_other 5 (some .int)) 2 := ⟨⟨all4 v_5_88 v_5_89 v_5_90 v_0_12, v_5_91⟩, by decide +kernel⟩
theorem v_3_21 : Cond.methodLink RL 86 yX10_meters ∈ BIG := tb_in (i := 21) tb_c3 (by decide +kernel) rfl
theorem v_3_22 : Cond.instanceMethod yX10_meters ∈ BIG := tb_in (i := 22) tb_c3 (by decide +kernel) rfl
theorem v_3_23 : Cond.selects RX10 yX10_meters yX10_meters ∈ BIG := tb_in (i := 23) tb_c3 (by decide +kernel) rfl
theorem v_3_24 : Cond.code yX10_meters cX10_meters 2 (some .int) ∈ BIG := tb_in (i := 24) tb_c3 (rfl) rfl
theorem vb_X10_meters : VB RL 86 RX10 yX10_meters (.code yX10_meters cX10_meters 2 (some .int)) 1 := ⟨⟨all4 v_3_21 v_3_22 v_3_23 v_0_1, v_3_24⟩, by decide +kernel⟩
theorem v_5_92 : Cond.methodLink RL 89 yX11_meters ∈ BIG := tb_in (i := 92) tb_c5 (by decide +kernel) rfl
theorem v_5_93 : Cond.instanceMethod yX11_meters ∈ BIG := tb_in (i := 93) tb_c5 (by decide +kernel) rfl
theorem v_5_94 : Cond.selects RX11 yX11_meters yX11_meters ∈ BIG := tb_in (i := 94) tb_c5 (by decide +kernel) rfl
theorem v_5_95 : Cond.code yX11_meters cX11_meters 4 (some .int) ∈ BIG := tb_in (i := 95) tb_c5 (rfl) rfl
theorem vb_X11_meters : VB RL 89 RX11 yX11_meters (.code yX11_meters cX11_meters 4 (some .int)) 1 := ⟨⟨all4 v_5_92 v_5_93 v_5_94 v_0_12, v_5_95⟩, by decide +kernel⟩
theorem v_3_38 : Cond.methodLink RL 90 yX10_felt ∈ BIG := tb_in (i := 38) tb_c3 (by decide +kernel) rfl
theorem v_3_39 : Cond.instanceMethod yX10_felt ∈ BIG := tb_in (i := 39) tb_c3 (by decide +kernel) rfl
theorem v_3_40 : Cond.selects RX10 yX10_felt yX10_felt ∈ BIG := tb_in (i := 40) tb_c3 (by decide +kernel) rfl
theorem v_3_41 : Cond.code yX10_felt cX10_felt 3 (some .int) ∈ BIG := tb_in (i := 41) tb_c3 (rfl) rfl
theorem vb_X10_felt : VB RL 90 RX10 yX10_felt (.code yX10_felt cX10_felt 3 (some .int)) 2 := ⟨⟨all4 v_3_38 v_3_39 v_3_40 v_0_1, v_3_41⟩, by decide +kernel⟩
theorem v_5_104 : Cond.methodLink RL 93 yX11_felt ∈ BIG := tb_in (i := 104) tb_c5 (by decide +kernel) rfl
theorem v_5_105 : Cond.instanceMethod yX11_felt ∈ BIG := tb_in (i := 105) tb_c5 (by decide +kernel) rfl
theorem v_5_106 : Cond.selects RX11 yX11_felt yX11_felt ∈ BIG := tb_in (i := 106) tb_c5 (by decide +kernel) rfl
theorem v_5_107 : Cond.code yX11_felt cX11_felt 4 (some .int) ∈ BIG := tb_in (i := 107) tb_c5 (rfl) rfl
theorem vb_X11_felt : VB RL 93 RX11 yX11_felt (.code yX11_felt cX11_felt 4 (some .int)) 2 := ⟨⟨all4 v_5_104 v_5_105 v_5_106 v_0_12, v_5_107⟩, by decide +kernel⟩
theorem v_3_49 : Cond.methodLink RL 94 yX10_even ∈ BIG := tb_in (i := 49) tb_c3 (by decide +kernel) rfl
theorem v_3_50 : Cond.instanceMethod yX10_even ∈ BIG := tb_in (i := 50) tb_c3 (by decide +kernel) rfl
theorem v_3_51 : Cond.selects RX10 yX10_even yX10_even ∈ BIG := tb_in (i := 51) tb_c3 (by decide +kernel) rfl
theorem v_3_52 : Cond.code yX10_even cX10_even 5 (some .int) ∈ BIG := tb_in (i := 52) tb_c3 (rfl) rfl
theorem vb_X10_even : VB RL 94 RX10 yX10_even (.code yX10_even cX10_even 5 (some .int)) 2 := ⟨⟨all4 v_3_49 v_3_50 v_3_51 v_0_1, v_3_52⟩, by decide +kernel⟩
theorem v_5_112 : Cond.methodLink RL 97 yX11_even ∈ BIG := tb_in (i := 112) tb_c5 (by decide +kernel) rfl
theorem v_5_113 : Cond.instanceMethod yX11_even ∈ BIG := tb_in (i := 113) tb_c5 (by decide +kernel) rfl
theorem v_5_114 : Cond.selects RX11 yX11_even yX11_even ∈ BIG := tb_in (i := 114) tb_c5 (by decide +kernel) rfl
theorem v_5_115 : Cond.code yX11_even cX11_even 5 (some .int) ∈ BIG := tb_in (i := 115) tb_c5 (rfl) rfl
theorem vb_X11_even : VB RL 97 RX11 yX11_even (.code yX11_even cX11_even 5 (some .int)) 2 := ⟨⟨all4 v_5_112 v_5_113 v_5_114 v_0_12, v_5_115⟩, by decide +kernel⟩
theorem v_3_58 : Cond.methodLink RL 98 yX10_foretold ∈ BIG := tb_in (i := 58) tb_c3 (by decide +kernel) rfl
theorem v_3_59 : Cond.instanceMethod yX10_foretold ∈ BIG := tb_in (i := 59) tb_c3 (by decide +kernel) rfl
theorem v_3_60 : Cond.selects RX10 yX10_foretold yX10_foretold ∈ BIG := tb_in (i := 60) tb_c3 (by decide +kernel) rfl
theorem v_3_61 : Cond.code yX10_foretold cX10_foretold 3 (some .int) ∈ BIG := tb_in (i := 61) tb_c3 (rfl) rfl
theorem vb_X10_foretold : VB RL 98 RX10 yX10_foretold (.code yX10_foretold cX10_foretold 3 (some .int)) 2 := ⟨⟨all4 v_3_58 v_3_59 v_3_60 v_0_1, v_3_61⟩, by decide +kernel⟩
theorem v_5_124 : Cond.methodLink RL 101 yX11_foretold ∈ BIG := tb_in (i := 124) tb_c5 (by decide +kernel) rfl
theorem v_5_125 : Cond.instanceMethod yX11_foretold ∈ BIG := tb_in (i := 125) tb_c5 (by decide +kernel) rfl
theorem v_5_126 : Cond.selects RX11 yX11_foretold yX11_foretold ∈ BIG := tb_in (i := 126) tb_c5 (by decide +kernel) rfl
theorem v_5_127 : Cond.code yX11_foretold cX11_foretold 3 (some .int) ∈ BIG := tb_in (i := 127) tb_c5 (rfl) rfl
theorem vb_X11_foretold : VB RL 101 RX11 yX11_foretold (.code yX11_foretold cX11_foretold 3 (some .int)) 2 := ⟨⟨all4 v_5_124 v_5_125 v_5_126 v_0_12, v_5_127⟩, by decide +kernel⟩
theorem v_3_62 : Cond.methodLink RL 102 yX10_few ∈ BIG := tb_in (i := 62) tb_c3 (by decide +kernel) rfl
theorem v_3_63 : Cond.instanceMethod yX10_few ∈ BIG := tb_in (i := 63) tb_c3 (by decide +kernel) rfl
theorem v_3_64 : Cond.selects RX10 yX10_few yX10_few ∈ BIG := tb_in (i := 64) tb_c3 (by decide +kernel) rfl
theorem v_3_65 : Cond.code yX10_few cX10_few 4 (some .int) ∈ BIG := tb_in (i := 65) tb_c3 (rfl) rfl
theorem vb_X10_few : VB RL 102 RX10 yX10_few (.code yX10_few cX10_few 4 (some .int)) 3 := ⟨⟨all4 v_3_62 v_3_63 v_3_64 v_0_1, v_3_65⟩, by decide +kernel⟩
theorem v_5_128 : Cond.methodLink RL 105 yX11_few ∈ BIG := tb_in (i := 128) tb_c5 (by decide +kernel) rfl
theorem v_5_129 : Cond.instanceMethod yX11_few ∈ BIG := tb_in (i := 129) tb_c5 (by decide +kernel) rfl
theorem v_5_130 : Cond.selects RX11 yX11_few yX11_few ∈ BIG := tb_in (i := 130) tb_c5 (by decide +kernel) rfl
theorem v_5_131 : Cond.code yX11_few cX11_few 4 (some .int) ∈ BIG := tb_in (i := 131) tb_c5 (rfl) rfl
theorem vb_X11_few : VB RL 105 RX11 yX11_few (.code yX11_few cX11_few 4 (some .int)) 3 := ⟨⟨all4 v_5_128 v_5_129 v_5_130 v_0_12, v_5_131⟩, by decide +kernel⟩
theorem v_3_104 : Cond.methodLink RL 106 yX10_setback ∈ BIG := tb_in (i := 104) tb_c3 (by decide +kernel) rfl
theorem v_3_105 : Cond.instanceMethod yX10_setback ∈ BIG := tb_in (i := 105) tb_c3 (by decide +kernel) rfl
theorem v_3_106 : Cond.selects RX10 yX10_setback yX10_setback ∈ BIG := tb_in (i := 106) tb_c3 (by decide +kernel) rfl
theorem v_3_107 : Cond.code yX10_setback cX10_setback 4 (some .int) ∈ BIG := tb_in (i := 107) tb_c3 (rfl) rfl
theorem vb_X10_setback : VB RL 106 RX10 yX10_setback (.code yX10_setback cX10_setback 4 (some .int)) 2 := ⟨⟨all4 v_3_104 v_3_105 v_3_106 v_0_1, v_3_107⟩, by decide +kernel⟩
theorem v_5_152 : Cond.methodLink RL 109 yX11_setback ∈ BIG := tb_in (i := 152) tb_c5 (by decide +kernel) rfl
theorem v_5_153 : Cond.instanceMethod yX11_setback ∈ BIG := tb_in (i := 153) tb_c5 (by decide +kernel) rfl
theorem v_5_154 : Cond.selects RX11 yX11_setback yX11_setback ∈ BIG := tb_in (i := 154) tb_c5 (by decide +kernel) rfl
theorem v_5_155 : Cond.code yX11_setback cX11_setback 4 (some .int) ∈ BIG := tb_in (i := 155) tb_c5 (rfl) rfl
theorem vb_X11_setback : VB RL 109 RX11 yX11_setback (.code yX11_setback cX11_setback 4 (some .int)) 2 := ⟨⟨all4 v_5_152 v_5_153 v_5_154 v_0_12, v_5_155⟩, by decide +kernel⟩
theorem v_3_108 : Cond.methodLink RL 110 yX10_works ∈ BIG := tb_in (i := 108) tb_c3 (by decide +kernel) rfl
theorem v_3_109 : Cond.instanceMethod yX10_works ∈ BIG := tb_in (i := 109) tb_c3 (by decide +kernel) rfl
theorem v_3_110 : Cond.selects RX10 yX10_works yX10_works ∈ BIG := tb_in (i := 110) tb_c3 (by decide +kernel) rfl
theorem v_3_111 : Cond.code yX10_works cX10_works 5 (some .int) ∈ BIG := tb_in (i := 111) tb_c3 (rfl) rfl
theorem vb_X10_works : VB RL 110 RX10 yX10_works (.code yX10_works cX10_works 5 (some .int)) 3 := ⟨⟨all4 v_3_108 v_3_109 v_3_110 v_0_1, v_3_111⟩, by decide +kernel⟩
theorem v_5_156 : Cond.methodLink RL 113 yX11_works ∈ BIG := tb_in (i := 156) tb_c5 (by decide +kernel) rfl
theorem v_5_157 : Cond.instanceMethod yX11_works ∈ BIG := tb_in (i := 157) tb_c5 (by decide +kernel) rfl
theorem v_5_158 : Cond.selects RX11 yX11_works yX11_works ∈ BIG := tb_in (i := 158) tb_c5 (by decide +kernel) rfl
theorem v_5_159 : Cond.code yX11_works cX11_works 5 (some .int) ∈ BIG := tb_in (i := 159) tb_c5 (rfl) rfl
theorem vb_X11_works : VB RL 113 RX11 yX11_works (.code yX11_works cX11_works 5 (some .int)) 3 := ⟨⟨all4 v_5_156 v_5_157 v_5_158 v_0_12, v_5_159⟩, by decide +kernel⟩
theorem v_3_112 : Cond.methodLink RL 114 yX10_complain ∈ BIG := tb_in (i := 112) tb_c3 (by decide +kernel) rfl
theorem v_3_113 : Cond.instanceMethod yX10_complain ∈ BIG := tb_in (i := 113) tb_c3 (by decide +kernel) rfl
theorem v_3_114 : Cond.selects RX10 yX10_complain yX10_complain ∈ BIG := tb_in (i := 114) tb_c3 (by decide +kernel) rfl
theorem v_3_115 : Cond.code yX10_complain cX10_complain 3 (some .int) ∈ BIG := tb_in (i := 115) tb_c3 (rfl) rfl
theorem vb_X10_complain : VB RL 114 RX10 yX10_complain (.code yX10_complain cX10_complain 3 (some .int)) 2 := ⟨⟨all4 v_3_112 v_3_113 v_3_114 v_0_1, v_3_115⟩, by decide +kernel⟩
theorem v_5_160 : Cond.methodLink RL 117 yX11_complain ∈ BIG := tb_in (i := 160) tb_c5 (by decide +kernel) rfl
theorem v_5_161 : Cond.instanceMethod yX11_complain ∈ BIG := tb_in (i := 161) tb_c5 (by decide +kernel) rfl
theorem v_5_162 : Cond.selects RX11 yX11_complain yX11_complain ∈ BIG := tb_in (i := 162) tb_c5 (by decide +kernel) rfl
theorem v_5_163 : Cond.code yX11_complain cX11_complain 4 (some .int) ∈ BIG := tb_in (i := 163) tb_c5 (rfl) rfl
theorem vb_X11_complain : VB RL 117 RX11 yX11_complain (.code yX11_complain cX11_complain 4 (some .int)) 2 := ⟨⟨all4 v_5_160 v_5_161 v_5_162 v_0_12, v_5_163⟩, by decide +kernel⟩
theorem v_3_131 : Cond.methodLink RL 118 yX10_complaint ∈ BIG := tb_in (i := 131) tb_c3 (by decide +kernel) rfl
theorem v_3_132 : Cond.instanceMethod yX10_complaint ∈ BIG := tb_in (i := 132) tb_c3 (by decide +kernel) rfl
theorem v_3_133 : Cond.selects RX10 yX10_complaint yX10_complaint ∈ BIG := tb_in (i := 133) tb_c3 (by decide +kernel) rfl
theorem v_3_134 : Cond.code yX10_complaint cX10_complaint 3 (some .int) ∈ BIG := tb_in (i := 134) tb_c3 (rfl) rfl
theorem vb_X10_complaint : VB RL 118 RX10 yX10_complaint (.code yX10_complaint cX10_complaint 3 (some .int)) 2 := ⟨⟨all4 v_3_131 v_3_132 v_3_133 v_0_1, v_3_134⟩, by decide +kernel⟩
theorem v_5_164 : Cond.methodLink RL 121 yX11_complaint ∈ BIG := tb_in (i := 164) tb_c5 (by decide +kernel) rfl
theorem v_5_165 : Cond.instanceMethod yX11_complaint ∈ BIG := tb_in (i := 165) tb_c5 (by decide +kernel) rfl
theorem v_5_166 : Cond.selects RX11 yX11_complaint yX11_complaint ∈ BIG := tb_in (i := 166) tb_c5 (by decide +kernel) rfl
theorem v_5_167 : Cond.code yX11_complaint cX11_complaint 3 (some .int) ∈ BIG := tb_in (i := 167) tb_c5 (rfl) rfl
theorem vb_X11_complaint : VB RL 121 RX11 yX11_complaint (.code yX11_complaint cX11_complaint 3 (some .int)) 2 := ⟨⟨all4 v_5_164 v_5_165 v_5_166 v_0_12, v_5_167⟩, by decide +kernel⟩
theorem v_3_135 : Cond.methodLink RL 122 yX10_joined ∈ BIG := tb_in (i := 135) tb_c3 (by decide +kernel) rfl
theorem v_3_136 : Cond.instanceMethod yX10_joined ∈ BIG := tb_in (i := 136) tb_c3 (by decide +kernel) rfl
theorem v_3_137 : Cond.selects RX10 yX10_joined yX10_joined ∈ BIG := tb_in (i := 137) tb_c3 (by decide +kernel) rfl
theorem v_3_138 : Cond.code yX10_joined cX10_joined 3 (some .int) ∈ BIG := tb_in (i := 138) tb_c3 (rfl) rfl
theorem vb_X10_joined : VB RL 122 RX10 yX10_joined (.code yX10_joined cX10_joined 3 (some .int)) 2 := ⟨⟨all4 v_3_135 v_3_136 v_3_137 v_0_1, v_3_138⟩, by decide +kernel⟩
theorem v_5_187 : Cond.methodLink RL 125 yX11_joined ∈ BIG := tb_in (i := 187) tb_c5 (by decide +kernel) rfl
theorem v_5_188 : Cond.instanceMethod yX11_joined ∈ BIG := tb_in (i := 188) tb_c5 (by decide +kernel) rfl
theorem v_5_189 : Cond.selects RX11 yX11_joined yX11_joined ∈ BIG := tb_in (i := 189) tb_c5 (by decide +kernel) rfl
theorem v_5_190 : Cond.code yX11_joined cX11_joined 3 (some .int) ∈ BIG := tb_in (i := 190) tb_c5 (rfl) rfl
theorem vb_X11_joined : VB RL 125 RX11 yX11_joined (.code yX11_joined cX11_joined 3 (some .int)) 2 := ⟨⟨all4 v_5_187 v_5_188 v_5_189 v_0_12, v_5_190⟩, by decide +kernel⟩
theorem v_3_139 : Cond.methodLink RL 126 yX10_groups ∈ BIG := tb_in (i := 139) tb_c3 (by decide +kernel) rfl
theorem v_3_140 : Cond.instanceMethod yX10_groups ∈ BIG := tb_in (i := 140) tb_c3 (by decide +kernel) rfl
theorem v_3_141 : Cond.selects RX10 yX10_groups yX10_groups ∈ BIG := tb_in (i := 141) tb_c3 (by decide +kernel) rfl
theorem v_3_142 : Cond.code yX10_groups cX10_groups 2 (some .int) ∈ BIG := tb_in (i := 142) tb_c3 (rfl) rfl
theorem vb_X10_groups : VB RL 126 RX10 yX10_groups (.code yX10_groups cX10_groups 2 (some .int)) 1 := ⟨⟨all4 v_3_139 v_3_140 v_3_141 v_0_1, v_3_142⟩, by decide +kernel⟩
theorem v_5_191 : Cond.methodLink RL 129 yX11_groups ∈ BIG := tb_in (i := 191) tb_c5 (by decide +kernel) rfl
theorem v_5_192 : Cond.instanceMethod yX11_groups ∈ BIG := tb_in (i := 192) tb_c5 (by decide +kernel) rfl
theorem v_5_193 : Cond.selects RX11 yX11_groups yX11_groups ∈ BIG := tb_in (i := 193) tb_c5 (by decide +kernel) rfl
theorem v_5_194 : Cond.code yX11_groups cX11_groups 4 (some .int) ∈ BIG := tb_in (i := 194) tb_c5 (rfl) rfl
theorem vb_X11_groups : VB RL 129 RX11 yX11_groups (.code yX11_groups cX11_groups 4 (some .int)) 1 := ⟨⟨all4 v_5_191 v_5_192 v_5_193 v_0_12, v_5_194⟩, by decide +kernel⟩
theorem v_3_147 : Cond.methodLink RL 130 yX10_sheet ∈ BIG := tb_in (i := 147) tb_c3 (by decide +kernel) rfl
theorem v_3_148 : Cond.instanceMethod yX10_sheet ∈ BIG := tb_in (i := 148) tb_c3 (by decide +kernel) rfl
theorem v_3_149 : Cond.selects RX10 yX10_sheet yX10_sheet ∈ BIG := tb_in (i := 149) tb_c3 (by decide +kernel) rfl
theorem v_3_150 : Cond.code yX10_sheet cX10_sheet 4 (some .int) ∈ BIG := tb_in (i := 150) tb_c3 (rfl) rfl
theorem vb_X10_sheet : VB RL 130 RX10 yX10_sheet (.code yX10_sheet cX10_sheet 4 (some .int)) 3 := ⟨⟨all4 v_3_147 v_3_148 v_3_149 v_0_1, v_3_150⟩, by decide +kernel⟩
theorem v_5_195 : Cond.methodLink RL 133 yX11_sheet ∈ BIG := tb_in (i := 195) tb_c5 (by decide +kernel) rfl
theorem v_5_196 : Cond.instanceMethod yX11_sheet ∈ BIG := tb_in (i := 196) tb_c5 (by decide +kernel) rfl
theorem v_5_197 : Cond.selects RX11 yX11_sheet yX11_sheet ∈ BIG := tb_in (i := 197) tb_c5 (by decide +kernel) rfl
theorem v_5_198 : Cond.code yX11_sheet cX11_sheet 5 (some .int) ∈ BIG := tb_in (i := 198) tb_c5 (rfl) rfl
theorem vb_X11_sheet : VB RL 133 RX11 yX11_sheet (.code yX11_sheet cX11_sheet 5 (some .int)) 3 := ⟨⟨all4 v_5_195 v_5_196 v_5_197 v_0_12, v_5_198⟩, by decide +kernel⟩
theorem v_6_14 : Cond.constantLong RL 134 4294967295 ∈ BIG := tb_in (i := 14) tb_c6 (by decide +kernel) rfl
theorem v_3_159 : Cond.methodLink RL 136 yX10_write ∈ BIG := tb_in (i := 159) tb_c3 (by decide +kernel) rfl
theorem v_3_160 : Cond.instanceMethod yX10_write ∈ BIG := tb_in (i := 160) tb_c3 (by decide +kernel) rfl
theorem v_3_161 : Cond.selects RX10 yX10_write yX10_write ∈ BIG := tb_in (i := 161) tb_c3 (by decide +kernel) rfl
theorem v_3_162 : Cond.code yX10_write cX10_write 7 (some .long) ∈ BIG := tb_in (i := 162) tb_c3 (rfl) rfl
theorem vb_X10_write : VB RL 136 RX10 yX10_write (.code yX10_write cX10_write 7 (some .long)) 3 := ⟨⟨all4 v_3_159 v_3_160 v_3_161 v_0_1, v_3_162⟩, by decide +kernel⟩
theorem v_5_203 : Cond.methodLink RL 140 yX11_write ∈ BIG := tb_in (i := 203) tb_c5 (by decide +kernel) rfl
theorem v_5_204 : Cond.instanceMethod yX11_write ∈ BIG := tb_in (i := 204) tb_c5 (by decide +kernel) rfl
theorem v_5_205 : Cond.selects RX11 yX11_write yX11_write ∈ BIG := tb_in (i := 205) tb_c5 (by decide +kernel) rfl
theorem v_5_206 : Cond.code yX11_write cX11_write 7 (some .long) ∈ BIG := tb_in (i := 206) tb_c5 (rfl) rfl
theorem vb_X11_write : VB RL 140 RX11 yX11_write (.code yX11_write cX11_write 7 (some .long)) 3 := ⟨⟨all4 v_5_203 v_5_204 v_5_205 v_0_12, v_5_206⟩, by decide +kernel⟩
theorem v_3_171 : Cond.methodLink RL 141 yX10_copy ∈ BIG := tb_in (i := 171) tb_c3 (by decide +kernel) rfl
theorem v_3_172 : Cond.instanceMethod yX10_copy ∈ BIG := tb_in (i := 172) tb_c3 (by decide +kernel) rfl
theorem v_3_173 : Cond.selects RX10 yX10_copy yX10_copy ∈ BIG := tb_in (i := 173) tb_c3 (by decide +kernel) rfl
theorem v_3_174 : Cond.code yX10_copy cX10_copy 6 (some .int) ∈ BIG := tb_in (i := 174) tb_c3 (rfl) rfl
theorem vb_X10_copy : VB RL 141 RX10 yX10_copy (.code yX10_copy cX10_copy 6 (some .int)) 5 := ⟨⟨all4 v_3_171 v_3_172 v_3_173 v_0_1, v_3_174⟩, by decide +kernel⟩
theorem v_5_208 : Cond.methodLink RL 145 yX11_copy ∈ BIG := tb_in (i := 208) tb_c5 (by decide +kernel) rfl
theorem v_5_209 : Cond.instanceMethod yX11_copy ∈ BIG := tb_in (i := 209) tb_c5 (by decide +kernel) rfl
theorem v_5_210 : Cond.selects RX11 yX11_copy yX11_copy ∈ BIG := tb_in (i := 210) tb_c5 (by decide +kernel) rfl
theorem v_5_211 : Cond.code yX11_copy cX11_copy 7 (some .int) ∈ BIG := tb_in (i := 211) tb_c5 (rfl) rfl
theorem vb_X11_copy : VB RL 145 RX11 yX11_copy (.code yX11_copy cX11_copy 7 (some .int)) 5 := ⟨⟨all4 v_5_208 v_5_209 v_5_210 v_0_12, v_5_211⟩, by decide +kernel⟩
theorem v_3_182 : Cond.methodLink RL 146 yX10_weather ∈ BIG := tb_in (i := 182) tb_c3 (by decide +kernel) rfl
theorem v_3_183 : Cond.instanceMethod yX10_weather ∈ BIG := tb_in (i := 183) tb_c3 (by decide +kernel) rfl
theorem v_3_184 : Cond.selects RX10 yX10_weather yX10_weather ∈ BIG := tb_in (i := 184) tb_c3 (by decide +kernel) rfl
theorem v_3_185 : Cond.code yX10_weather cX10_weather 6 (some .int) ∈ BIG := tb_in (i := 185) tb_c3 (rfl) rfl
theorem vb_X10_weather : VB RL 146 RX10 yX10_weather (.code yX10_weather cX10_weather 6 (some .int)) 1 := ⟨⟨all4 v_3_182 v_3_183 v_3_184 v_0_1, v_3_185⟩, by decide +kernel⟩
theorem v_5_216 : Cond.methodLink RL 149 yX11_weather ∈ BIG := tb_in (i := 216) tb_c5 (by decide +kernel) rfl
theorem v_5_217 : Cond.instanceMethod yX11_weather ∈ BIG := tb_in (i := 217) tb_c5 (by decide +kernel) rfl
theorem v_5_218 : Cond.selects RX11 yX11_weather yX11_weather ∈ BIG := tb_in (i := 218) tb_c5 (by decide +kernel) rfl
theorem v_5_219 : Cond.code yX11_weather cX11_weather 6 (some .int) ∈ BIG := tb_in (i := 219) tb_c5 (rfl) rfl
theorem vb_X11_weather : VB RL 149 RX11 yX11_weather (.code yX11_weather cX11_weather 6 (some .int)) 1 := ⟨⟨all4 v_5_216 v_5_217 v_5_218 v_0_12, v_5_219⟩, by decide +kernel⟩
theorem v_3_188 : Cond.methodLink RL 150 yX10_read ∈ BIG := tb_in (i := 188) tb_c3 (by decide +kernel) rfl
theorem v_3_189 : Cond.instanceMethod yX10_read ∈ BIG := tb_in (i := 189) tb_c3 (by decide +kernel) rfl
theorem v_3_190 : Cond.selects RX10 yX10_read yX10_read ∈ BIG := tb_in (i := 190) tb_c3 (by decide +kernel) rfl
theorem v_3_191 : Cond.code yX10_read cX10_read 3 (some .int) ∈ BIG := tb_in (i := 191) tb_c3 (rfl) rfl
theorem vb_X10_read : VB RL 150 RX10 yX10_read (.code yX10_read cX10_read 3 (some .int)) 1 := ⟨⟨all4 v_3_188 v_3_189 v_3_190 v_0_1, v_3_191⟩, by decide +kernel⟩
theorem v_5_222 : Cond.methodLink RL 153 yX11_read ∈ BIG := tb_in (i := 222) tb_c5 (by decide +kernel) rfl
theorem v_5_223 : Cond.instanceMethod yX11_read ∈ BIG := tb_in (i := 223) tb_c5 (by decide +kernel) rfl
theorem v_5_224 : Cond.selects RX11 yX11_read yX11_read ∈ BIG := tb_in (i := 224) tb_c5 (by decide +kernel) rfl
theorem v_5_225 : Cond.code yX11_read cX11_read 3 (some .int) ∈ BIG := tb_in (i := 225) tb_c5 (rfl) rfl
theorem vb_X11_read : VB RL 153 RX11 yX11_read (.code yX11_read cX11_read 3 (some .int)) 1 := ⟨⟨all4 v_5_222 v_5_223 v_5_224 v_0_12, v_5_225⟩, by decide +kernel⟩
theorem v_3_192 : Cond.methodLink RL 154 yX10_image ∈ BIG := tb_in (i := 192) tb_c3 (by decide +kernel) rfl
theorem v_3_193 : Cond.instanceMethod yX10_image ∈ BIG := tb_in (i := 193) tb_c3 (by decide +kernel) rfl
theorem v_3_194 : Cond.selects RX10 yX10_image yX10_image ∈ BIG := tb_in (i := 194) tb_c3 (by decide +kernel) rfl
theorem v_3_195 : Cond.code yX10_image cX10_image 1 (some .int) ∈ BIG := tb_in (i := 195) tb_c3 (rfl) rfl
theorem vb_X10_image : VB RL 154 RX10 yX10_image (.code yX10_image cX10_image 1 (some .int)) 0 := ⟨⟨all4 v_3_192 v_3_193 v_3_194 v_0_1, v_3_195⟩, by decide +kernel⟩
theorem v_5_226 : Cond.methodLink RL 157 yX11_image ∈ BIG := tb_in (i := 226) tb_c5 (by decide +kernel) rfl
theorem v_5_227 : Cond.instanceMethod yX11_image ∈ BIG := tb_in (i := 227) tb_c5 (by decide +kernel) rfl
theorem v_5_228 : Cond.selects RX11 yX11_image yX11_image ∈ BIG := tb_in (i := 228) tb_c5 (by decide +kernel) rfl
theorem v_5_229 : Cond.code yX11_image cX11_image 2 (some .int) ∈ BIG := tb_in (i := 229) tb_c5 (rfl) rfl
theorem vb_X11_image : VB RL 157 RX11 yX11_image (.code yX11_image cX11_image 2 (some .int)) 0 := ⟨⟨all4 v_5_226 v_5_227 v_5_228 v_0_12, v_5_229⟩, by decide +kernel⟩
theorem v_3_214 : Cond.methodLink RL 158 yX10_undo ∈ BIG := tb_in (i := 214) tb_c3 (by decide +kernel) rfl
theorem v_3_215 : Cond.instanceMethod yX10_undo ∈ BIG := tb_in (i := 215) tb_c3 (by decide +kernel) rfl
theorem v_3_216 : Cond.selects RX10 yX10_undo yX10_undo ∈ BIG := tb_in (i := 216) tb_c3 (by decide +kernel) rfl
theorem v_3_217 : Cond.code yX10_undo cX10_undo 1 (some .int) ∈ BIG := tb_in (i := 217) tb_c3 (rfl) rfl
theorem vb_X10_undo : VB RL 158 RX10 yX10_undo (.code yX10_undo cX10_undo 1 (some .int)) 0 := ⟨⟨all4 v_3_214 v_3_215 v_3_216 v_0_1, v_3_217⟩, by decide +kernel⟩
theorem v_5_230 : Cond.methodLink RL 161 yX11_undo ∈ BIG := tb_in (i := 230) tb_c5 (by decide +kernel) rfl
theorem v_5_231 : Cond.instanceMethod yX11_undo ∈ BIG := tb_in (i := 231) tb_c5 (by decide +kernel) rfl
theorem v_5_232 : Cond.selects RX11 yX11_undo yX11_undo ∈ BIG := tb_in (i := 232) tb_c5 (by decide +kernel) rfl
theorem v_5_233 : Cond.code yX11_undo cX11_undo 2 (some .int) ∈ BIG := tb_in (i := 233) tb_c5 (rfl) rfl
theorem vb_X11_undo : VB RL 161 RX11 yX11_undo (.code yX11_undo cX11_undo 2 (some .int)) 0 := ⟨⟨all4 v_5_230 v_5_231 v_5_232 v_0_12, v_5_233⟩, by decide +kernel⟩
theorem v_3_218 : Cond.methodLink RL 162 yX10_tear ∈ BIG := tb_in (i := 218) tb_c3 (by decide +kernel) rfl
theorem v_3_219 : Cond.instanceMethod yX10_tear ∈ BIG := tb_in (i := 219) tb_c3 (by decide +kernel) rfl
theorem v_3_220 : Cond.selects RX10 yX10_tear yX10_tear ∈ BIG := tb_in (i := 220) tb_c3 (by decide +kernel) rfl
theorem v_3_221 : Cond.code yX10_tear cX10_tear 2 (some .int) ∈ BIG := tb_in (i := 221) tb_c3 (rfl) rfl
theorem vb_X10_tear : VB RL 162 RX10 yX10_tear (.code yX10_tear cX10_tear 2 (some .int)) 0 := ⟨⟨all4 v_3_218 v_3_219 v_3_220 v_0_1, v_3_221⟩, by decide +kernel⟩
theorem v_5_234 : Cond.methodLink RL 165 yX11_tear ∈ BIG := tb_in (i := 234) tb_c5 (by decide +kernel) rfl
theorem v_5_235 : Cond.instanceMethod yX11_tear ∈ BIG := tb_in (i := 235) tb_c5 (by decide +kernel) rfl
theorem v_5_236 : Cond.selects RX11 yX11_tear yX11_tear ∈ BIG := tb_in (i := 236) tb_c5 (by decide +kernel) rfl
theorem v_5_237 : Cond.code yX11_tear cX11_tear 2 (some .int) ∈ BIG := tb_in (i := 237) tb_c5 (rfl) rfl
theorem vb_X11_tear : VB RL 165 RX11 yX11_tear (.code yX11_tear cX11_tear 2 (some .int)) 0 := ⟨⟨all4 v_5_234 v_5_235 v_5_236 v_0_12, v_5_237⟩, by decide +kernel⟩
theorem v_3_222 : Cond.methodLink RL 166 yX10_count ∈ BIG := tb_in (i := 222) tb_c3 (by decide +kernel) rfl
theorem v_3_223 : Cond.instanceMethod yX10_count ∈ BIG := tb_in (i := 223) tb_c3 (by decide +kernel) rfl
theorem v_3_224 : Cond.selects RX10 yX10_count yX10_count ∈ BIG := tb_in (i := 224) tb_c3 (by decide +kernel) rfl
theorem v_3_225 : Cond.code yX10_count cX10_count 2 (some .int) ∈ BIG := tb_in (i := 225) tb_c3 (rfl) rfl
theorem vb_X10_count : VB RL 166 RX10 yX10_count (.code yX10_count cX10_count 2 (some .int)) 1 := ⟨⟨all4 v_3_222 v_3_223 v_3_224 v_0_1, v_3_225⟩, by decide +kernel⟩
theorem v_5_238 : Cond.methodLink RL 169 yX11_count ∈ BIG := tb_in (i := 238) tb_c5 (by decide +kernel) rfl
theorem v_5_239 : Cond.instanceMethod yX11_count ∈ BIG := tb_in (i := 239) tb_c5 (by decide +kernel) rfl
theorem v_6_0 : Cond.selects RX11 yX11_count yX11_count ∈ BIG := tb_in (i := 0) tb_c6 (by decide +kernel) rfl
theorem v_6_1 : Cond.code yX11_count cX11_count 2 (some .int) ∈ BIG := tb_in (i := 1) tb_c6 (rfl) rfl
theorem vb_X11_count : VB RL 169 RX11 yX11_count (.code yX11_count cX11_count 2 (some .int)) 1 := ⟨⟨all4 v_5_238 v_5_239 v_6_0 v_0_12, v_6_1⟩, by decide +kernel⟩
theorem v_4_0 : Cond.methodLink RL 170 yX10_status ∈ BIG := tb_in (i := 0) tb_c4 (by decide +kernel) rfl
theorem v_4_1 : Cond.instanceMethod yX10_status ∈ BIG := tb_in (i := 1) tb_c4 (by decide +kernel) rfl
theorem v_4_2 : Cond.selects RX10 yX10_status yX10_status ∈ BIG := tb_in (i := 2) tb_c4 (by decide +kernel) rfl
theorem v_4_3 : Cond.code yX10_status cX10_status 4 (some .int) ∈ BIG := tb_in (i := 3) tb_c4 (rfl) rfl
theorem vb_X10_status : VB RL 170 RX10 yX10_status (.code yX10_status cX10_status 4 (some .int)) 1 := ⟨⟨all4 v_4_0 v_4_1 v_4_2 v_0_1, v_4_3⟩, by decide +kernel⟩
theorem v_6_10 : Cond.methodLink RL 173 yX11_status ∈ BIG := tb_in (i := 10) tb_c6 (by decide +kernel) rfl
theorem v_6_11 : Cond.instanceMethod yX11_status ∈ BIG := tb_in (i := 11) tb_c6 (by decide +kernel) rfl
theorem v_6_12 : Cond.selects RX11 yX11_status yX11_status ∈ BIG := tb_in (i := 12) tb_c6 (by decide +kernel) rfl
theorem v_6_13 : Cond.code yX11_status cX11_status 2 (some .int) ∈ BIG := tb_in (i := 13) tb_c6 (rfl) rfl
theorem vb_X11_status : VB RL 173 RX11 yX11_status (.code yX11_status cX11_status 2 (some .int)) 1 := ⟨⟨all4 v_6_10 v_6_11 v_6_12 v_0_12, v_6_13⟩, by decide +kernel⟩
