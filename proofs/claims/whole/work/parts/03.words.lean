theorem tb_in {c : List Cond} {w : Cond} {i : Nat} (hc : ∀ w ∈ c, w ∈ tables_1) (h : c[i]? = some w) (g : goodWord w = true) : w ∈ BIG := big_mem (List.mem_append_right _ (hc w (List.mem_of_getElem? h))) g
theorem tb_c0 : ∀ w ∈ tables_1_1, w ∈ tables_1 := fun w h => List.mem_append_left _ h
theorem tb_c1 : ∀ w ∈ tables_1_2, w ∈ tables_1 := fun w h => List.mem_append_right _ (List.mem_append_left _ h)
theorem tb_c2 : ∀ w ∈ tables_1_3, w ∈ tables_1 := fun w h => List.mem_append_right _ (List.mem_append_right _ (List.mem_append_left _ h))
theorem tb_c3 : ∀ w ∈ tables_1_4, w ∈ tables_1 := fun w h => List.mem_append_right _ (List.mem_append_right _ (List.mem_append_right _ (List.mem_append_left _ h)))
theorem tb_c4 : ∀ w ∈ tables_1_5, w ∈ tables_1 := fun w h => List.mem_append_right _ (List.mem_append_right _ (List.mem_append_right _ (List.mem_append_right _ (List.mem_append_left _ h))))
theorem tb_c5 : ∀ w ∈ tables_1_6, w ∈ tables_1 := fun w h => List.mem_append_right _ (List.mem_append_right _ (List.mem_append_right _ (List.mem_append_right _ (List.mem_append_right _ (List.mem_append_left _ h)))))
theorem tb_c6 : ∀ w ∈ tables_1_7, w ∈ tables_1 := fun w h => List.mem_append_right _ (List.mem_append_right _ (List.mem_append_right _ (List.mem_append_right _ (List.mem_append_right _ (List.mem_append_right _ (h))))))
theorem sel_in {y : MethodName} {n i : Nat} (h : lw_privs[i]? = some (y, n)) : Cond.selects y.cls y y ∈ BIG := big_mem (List.mem_append_left _ (List.mem_map.mpr ⟨(y, n), List.mem_of_getElem? h, rfl⟩)) rfl
theorem all4 {a b c d : Cond} {P : Cond → Prop} (h1 : P a) (h2 : P b) (h3 : P c) (h4 : P d) : ∀ w ∈ ([a, b, c, d] : List Cond), P w := by simp [h1, h2, h3, h4]
theorem all3 {a b c : Cond} {P : Cond → Prop} (h1 : P a) (h2 : P b) (h3 : P c) : ∀ w ∈ ([a, b, c] : List Cond), P w := by simp [h1, h2, h3]
theorem all2 {a b : Cond} {P : Cond → Prop} (h1 : P a) (h2 : P b) : ∀ w ∈ ([a, b] : List Cond), P w := by simp [h1, h2]
theorem m_3_179 : Cond.methodLink RX10 307 arraycopyName ∈ BIG := tb_in (i := 179) tb_c3 (by decide +kernel) rfl
theorem m_3_181 : Cond.native arraycopyName ∈ BIG := tb_in (i := 181) tb_c3 (by decide +kernel) rfl
theorem m_3_180 : Cond.static arraycopyName ∈ BIG := tb_in (i := 180) tb_c3 (by decide +kernel) rfl
theorem m_0_19 : Cond.initialized "java/lang/System" ∈ BIG := tb_in (i := 19) tb_c0 (by decide +kernel) rfl
theorem b_ac_RX10_307 : AB RX10 307 := ⟨m_3_179, m_3_181, m_3_180, m_0_19⟩
theorem m_1_167 : Cond.constant RX10 105 (-1000000002) ∈ BIG := tb_in (i := 167) tb_c1 (by decide +kernel) rfl
theorem b_cn_RX10_105 : Cond.constant RX10 105 (-1000000002) ∈ BIG := m_1_167
theorem m_1_227 : Cond.constant RX10 173 (-1000000003) ∈ BIG := tb_in (i := 227) tb_c1 (by decide +kernel) rfl
theorem b_cn_RX10_173 : Cond.constant RX10 173 (-1000000003) ∈ BIG := m_1_227
theorem m_1_236 : Cond.constant RX10 183 (-1000000005) ∈ BIG := tb_in (i := 236) tb_c1 (by decide +kernel) rfl
theorem b_cn_RX10_183 : Cond.constant RX10 183 (-1000000005) ∈ BIG := m_1_236
theorem m_3_10 : Cond.constant RX10 224 (-1000000004) ∈ BIG := tb_in (i := 10) tb_c3 (by decide +kernel) rfl
theorem b_cn_RX10_224 : Cond.constant RX10 224 (-1000000004) ∈ BIG := m_3_10
theorem m_3_154 : Cond.constant RX10 282 (-1000000007) ∈ BIG := tb_in (i := 154) tb_c3 (by decide +kernel) rfl
theorem b_cn_RX10_282 : Cond.constant RX10 282 (-1000000007) ∈ BIG := m_3_154
theorem m_3_167 : Cond.constant RX10 292 (-1000000006) ∈ BIG := tb_in (i := 167) tb_c3 (by decide +kernel) rfl
theorem b_cn_RX10_292 : Cond.constant RX10 292 (-1000000006) ∈ BIG := m_3_167
theorem m_2_219 : Cond.constant RX10 329 99999 ∈ BIG := tb_in (i := 219) tb_c2 (by decide +kernel) rfl
theorem b_cn_RX10_329 : Cond.constant RX10 329 99999 ∈ BIG := m_2_219
theorem m_3_45 : Cond.constant RX10 346 999999 ∈ BIG := tb_in (i := 45) tb_c3 (by decide +kernel) rfl
theorem b_cn_RX10_346 : Cond.constant RX10 346 999999 ∈ BIG := m_3_45
theorem m_1_162 : Cond.constant RX10 94 (-1000000001) ∈ BIG := tb_in (i := 162) tb_c1 (by decide +kernel) rfl
theorem b_cn_RX10_94 : Cond.constant RX10 94 (-1000000001) ∈ BIG := m_1_162
theorem m_4_152 : Cond.constant RX11 113 (-1000000002) ∈ BIG := tb_in (i := 152) tb_c4 (by decide +kernel) rfl
theorem b_cn_RX11_113 : Cond.constant RX11 113 (-1000000002) ∈ BIG := m_4_152
theorem m_4_204 : Cond.constant RX11 152 (-1000000003) ∈ BIG := tb_in (i := 204) tb_c4 (by decide +kernel) rfl
theorem b_cn_RX11_152 : Cond.constant RX11 152 (-1000000003) ∈ BIG := m_4_204
theorem m_4_213 : Cond.constant RX11 153 (-1000000005) ∈ BIG := tb_in (i := 213) tb_c4 (by decide +kernel) rfl
theorem b_cn_RX11_153 : Cond.constant RX11 153 (-1000000005) ∈ BIG := m_4_213
theorem m_5_75 : Cond.constant RX11 214 99999 ∈ BIG := tb_in (i := 75) tb_c5 (by decide +kernel) rfl
theorem b_cn_RX11_214 : Cond.constant RX11 214 99999 ∈ BIG := m_5_75
theorem m_5_87 : Cond.constant RX11 225 (-1000000004) ∈ BIG := tb_in (i := 87) tb_c5 (by decide +kernel) rfl
theorem b_cn_RX11_225 : Cond.constant RX11 225 (-1000000004) ∈ BIG := m_5_87
theorem m_5_111 : Cond.constant RX11 232 999999 ∈ BIG := tb_in (i := 111) tb_c5 (by decide +kernel) rfl
theorem b_cn_RX11_232 : Cond.constant RX11 232 999999 ∈ BIG := m_5_111
theorem m_5_202 : Cond.constant RX11 298 (-1000000007) ∈ BIG := tb_in (i := 202) tb_c5 (by decide +kernel) rfl
theorem b_cn_RX11_298 : Cond.constant RX11 298 (-1000000007) ∈ BIG := m_5_202
theorem m_5_207 : Cond.constant RX11 299 (-1000000006) ∈ BIG := tb_in (i := 207) tb_c5 (by decide +kernel) rfl
theorem b_cn_RX11_299 : Cond.constant RX11 299 (-1000000006) ∈ BIG := m_5_207
theorem m_4_147 : Cond.constant RX11 92 (-1000000001) ∈ BIG := tb_in (i := 147) tb_c4 (by decide +kernel) rfl
theorem b_cn_RX11_92 : Cond.constant RX11 92 (-1000000001) ∈ BIG := m_4_147
theorem m_3_186 : Cond.constantLong RX10 313 (-300) ∈ BIG := tb_in (i := 186) tb_c3 (by decide +kernel) rfl
theorem b_cl_RX10_313 : Cond.constantLong RX10 313 (-300) ∈ BIG := m_3_186
theorem m_3_187 : Cond.constantLong RX10 315 400 ∈ BIG := tb_in (i := 187) tb_c3 (by decide +kernel) rfl
theorem b_cl_RX10_315 : Cond.constantLong RX10 315 400 ∈ BIG := m_3_187
theorem m_5_220 : Cond.constantLong RX11 303 (-300) ∈ BIG := tb_in (i := 220) tb_c5 (by decide +kernel) rfl
theorem b_cl_RX11_303 : Cond.constantLong RX11 303 (-300) ∈ BIG := m_5_220
theorem m_5_221 : Cond.constantLong RX11 305 400 ∈ BIG := tb_in (i := 221) tb_c5 (by decide +kernel) rfl
theorem b_cl_RX11_305 : Cond.constantLong RX11 305 400 ∈ BIG := m_5_221
theorem m_1_35 : Cond.fieldLink RX0 101 "WarmthShared$Course" "through" "[I" ∈ BIG := tb_in (i := 35) tb_c1 (by decide +kernel) rfl
theorem b_fl_RX0_101 : Cond.fieldLink RX0 101 "WarmthShared$Course" "through" "[I" ∈ BIG := m_1_35
theorem m_0_70 : Cond.fieldLink RX0 104 "WarmthShared$Flat" "isHeld" "Z" ∈ BIG := tb_in (i := 70) tb_c0 (by decide +kernel) rfl
theorem b_fl_RX0_104 : Cond.fieldLink RX0 104 "WarmthShared$Flat" "isHeld" "Z" ∈ BIG := m_0_70
theorem m_0_118 : Cond.fieldLink RX0 11 "WarmthShared$Block" "flats" "[LWarmthShared$Flat;" ∈ BIG := tb_in (i := 118) tb_c0 (by decide +kernel) rfl
theorem b_fl_RX0_11 : Cond.fieldLink RX0 11 "WarmthShared$Block" "flats" "[LWarmthShared$Flat;" ∈ BIG := m_0_118
theorem m_0_124 : Cond.fieldLink RX0 17 "WarmthShared$Block" "size" "I" ∈ BIG := tb_in (i := 124) tb_c0 (by decide +kernel) rfl
theorem b_fl_RX0_17 : Cond.fieldLink RX0 17 "WarmthShared$Block" "size" "I" ∈ BIG := m_0_124
theorem m_0_128 : Cond.fieldLink RX0 21 "WarmthShared$Block" "heights" "[I" ∈ BIG := tb_in (i := 128) tb_c0 (by decide +kernel) rfl
theorem b_fl_RX0_21 : Cond.fieldLink RX0 21 "WarmthShared$Block" "heights" "[I" ∈ BIG := m_0_128
theorem m_0_129 : Cond.fieldLink RX0 25 "WarmthShared$Block" "now" "I" ∈ BIG := tb_in (i := 129) tb_c0 (by decide +kernel) rfl
theorem b_fl_RX0_25 : Cond.fieldLink RX0 25 "WarmthShared$Block" "now" "I" ∈ BIG := m_0_129
theorem m_0_132 : Cond.fieldLink RX0 28 "WarmthShared$Block" "outside" "I" ∈ BIG := tb_in (i := 132) tb_c0 (by decide +kernel) rfl
theorem b_fl_RX0_28 : Cond.fieldLink RX0 28 "WarmthShared$Block" "outside" "I" ∈ BIG := m_0_132
theorem m_0_135 : Cond.fieldLink RX0 31 "WarmthShared$Block" "pump" "I" ∈ BIG := tb_in (i := 135) tb_c0 (by decide +kernel) rfl
theorem b_fl_RX0_31 : Cond.fieldLink RX0 31 "WarmthShared$Block" "pump" "I" ∈ BIG := m_0_135
theorem m_0_138 : Cond.fieldLink RX0 34 "WarmthShared$Block" "boiler" "I" ∈ BIG := tb_in (i := 138) tb_c0 (by decide +kernel) rfl
theorem b_fl_RX0_34 : Cond.fieldLink RX0 34 "WarmthShared$Block" "boiler" "I" ∈ BIG := m_0_138
theorem m_0_53 : Cond.fieldLink RX0 50 "WarmthShared$Flat" "riser" "I" ∈ BIG := tb_in (i := 53) tb_c0 (by decide +kernel) rfl
theorem b_fl_RX0_50 : Cond.fieldLink RX0 50 "WarmthShared$Flat" "riser" "I" ∈ BIG := m_0_53
theorem m_0_57 : Cond.fieldLink RX0 53 "WarmthShared$Flat" "place" "I" ∈ BIG := tb_in (i := 57) tb_c0 (by decide +kernel) rfl
theorem b_fl_RX0_53 : Cond.fieldLink RX0 53 "WarmthShared$Flat" "place" "I" ∈ BIG := m_0_57
theorem m_0_66 : Cond.fieldLink RX0 66 "WarmthShared$Flat" "open" "I" ∈ BIG := tb_in (i := 66) tb_c0 (by decide +kernel) rfl
theorem b_fl_RX0_66 : Cond.fieldLink RX0 66 "WarmthShared$Flat" "open" "I" ∈ BIG := m_0_66
theorem m_1_25 : Cond.fieldLink RX0 81 "WarmthShared$Course" "warm" "[I" ∈ BIG := tb_in (i := 25) tb_c1 (by decide +kernel) rfl
theorem b_fl_RX0_81 : Cond.fieldLink RX0 81 "WarmthShared$Course" "warm" "[I" ∈ BIG := m_1_25
theorem m_0_76 : Cond.fieldLink RX0 84 "WarmthShared$Flat" "warm" "I" ∈ BIG := tb_in (i := 76) tb_c0 (by decide +kernel) rfl
theorem b_fl_RX0_84 : Cond.fieldLink RX0 84 "WarmthShared$Flat" "warm" "I" ∈ BIG := m_0_76
theorem m_0_80 : Cond.fieldLink RX0 86 "WarmthShared$Flat" "used" "I" ∈ BIG := tb_in (i := 80) tb_c0 (by decide +kernel) rfl
theorem b_fl_RX0_86 : Cond.fieldLink RX0 86 "WarmthShared$Flat" "used" "I" ∈ BIG := m_0_80
theorem m_1_33 : Cond.fieldLink RX0 89 "WarmthShared$Course" "in" "[I" ∈ BIG := tb_in (i := 33) tb_c1 (by decide +kernel) rfl
theorem b_fl_RX0_89 : Cond.fieldLink RX0 89 "WarmthShared$Course" "in" "[I" ∈ BIG := m_1_33
theorem m_0_91 : Cond.fieldLink RX0 92 "WarmthShared$Flat" "drift" "I" ∈ BIG := tb_in (i := 91) tb_c0 (by decide +kernel) rfl
theorem b_fl_RX0_92 : Cond.fieldLink RX0 92 "WarmthShared$Flat" "drift" "I" ∈ BIG := m_0_91
theorem m_0_84 : Cond.fieldLink RX0 95 "WarmthShared$Flat" "taken" "I" ∈ BIG := tb_in (i := 84) tb_c0 (by decide +kernel) rfl
theorem b_fl_RX0_95 : Cond.fieldLink RX0 95 "WarmthShared$Flat" "taken" "I" ∈ BIG := m_0_84
theorem m_0_88 : Cond.fieldLink RX0 98 "WarmthShared$Flat" "gift" "I" ∈ BIG := tb_in (i := 88) tb_c0 (by decide +kernel) rfl
theorem b_fl_RX0_98 : Cond.fieldLink RX0 98 "WarmthShared$Flat" "gift" "I" ∈ BIG := m_0_88
theorem m_0_180 : Cond.fieldLink RX1 15 "WarmthShared$Complaints" "sort" "[I" ∈ BIG := tb_in (i := 180) tb_c0 (by decide +kernel) rfl
theorem b_fl_RX1_15 : Cond.fieldLink RX1 15 "WarmthShared$Complaints" "sort" "[I" ∈ BIG := m_0_180
theorem m_0_182 : Cond.fieldLink RX1 18 "WarmthShared$Complaints" "hour" "[I" ∈ BIG := tb_in (i := 182) tb_c0 (by decide +kernel) rfl
theorem b_fl_RX1_18 : Cond.fieldLink RX1 18 "WarmthShared$Complaints" "hour" "[I" ∈ BIG := m_0_182
theorem m_0_184 : Cond.fieldLink RX1 21 "WarmthShared$Complaints" "group" "[I" ∈ BIG := tb_in (i := 184) tb_c0 (by decide +kernel) rfl
theorem b_fl_RX1_21 : Cond.fieldLink RX1 21 "WarmthShared$Complaints" "group" "[I" ∈ BIG := m_0_184
theorem m_0_186 : Cond.fieldLink RX1 24 "WarmthShared$Complaints" "size" "I" ∈ BIG := tb_in (i := 186) tb_c0 (by decide +kernel) rfl
theorem b_fl_RX1_24 : Cond.fieldLink RX1 24 "WarmthShared$Complaints" "size" "I" ∈ BIG := m_0_186
theorem m_0_130 : Cond.fieldLink RX1 28 "WarmthShared$Block" "now" "I" ∈ BIG := tb_in (i := 130) tb_c0 (by decide +kernel) rfl
theorem b_fl_RX1_28 : Cond.fieldLink RX1 28 "WarmthShared$Block" "now" "I" ∈ BIG := m_0_130
theorem m_0_123 : Cond.fieldLink RX1 47 "WarmthShared$Block" "flats" "[LWarmthShared$Flat;" ∈ BIG := tb_in (i := 123) tb_c0 (by decide +kernel) rfl
theorem b_fl_RX1_47 : Cond.fieldLink RX1 47 "WarmthShared$Block" "flats" "[LWarmthShared$Flat;" ∈ BIG := m_0_123
theorem m_0_178 : Cond.fieldLink RX1 9 "WarmthShared$Complaints" "flat" "[I" ∈ BIG := tb_in (i := 178) tb_c0 (by decide +kernel) rfl
theorem b_fl_RX1_9 : Cond.fieldLink RX1 9 "WarmthShared$Complaints" "flat" "[I" ∈ BIG := m_0_178
theorem m_1_112 : Cond.fieldLink RX10 10 "WarmthShared" "state" "LWarmthShared$State;" ∈ BIG := tb_in (i := 112) tb_c1 (by decide +kernel) rfl
theorem b_fl_RX10_10 : Cond.fieldLink RX10 10 "WarmthShared" "state" "LWarmthShared$State;" ∈ BIG := m_1_112
theorem m_0_122 : Cond.fieldLink RX10 114 "WarmthShared$Block" "flats" "[LWarmthShared$Flat;" ∈ BIG := tb_in (i := 122) tb_c0 (by decide +kernel) rfl
theorem b_fl_RX10_114 : Cond.fieldLink RX10 114 "WarmthShared$Block" "flats" "[LWarmthShared$Flat;" ∈ BIG := m_0_122
theorem m_0_49 : Cond.fieldLink RX10 118 "WarmthShared$Flat" "kind" "I" ∈ BIG := tb_in (i := 49) tb_c0 (by decide +kernel) rfl
theorem b_fl_RX10_118 : Cond.fieldLink RX10 118 "WarmthShared$Flat" "kind" "I" ∈ BIG := m_0_49
theorem m_0_52 : Cond.fieldLink RX10 123 "WarmthShared$Flat" "riser" "I" ∈ BIG := tb_in (i := 52) tb_c0 (by decide +kernel) rfl
theorem b_fl_RX10_123 : Cond.fieldLink RX10 123 "WarmthShared$Flat" "riser" "I" ∈ BIG := m_0_52
theorem m_0_56 : Cond.fieldLink RX10 126 "WarmthShared$Flat" "place" "I" ∈ BIG := tb_in (i := 56) tb_c0 (by decide +kernel) rfl
theorem b_fl_RX10_126 : Cond.fieldLink RX10 126 "WarmthShared$Flat" "place" "I" ∈ BIG := m_0_56
theorem m_0_61 : Cond.fieldLink RX10 129 "WarmthShared$Flat" "wall" "I" ∈ BIG := tb_in (i := 61) tb_c0 (by decide +kernel) rfl
theorem b_fl_RX10_129 : Cond.fieldLink RX10 129 "WarmthShared$Flat" "wall" "I" ∈ BIG := m_0_61
theorem m_0_64 : Cond.fieldLink RX10 132 "WarmthShared$Flat" "open" "I" ∈ BIG := tb_in (i := 64) tb_c0 (by decide +kernel) rfl
theorem b_fl_RX10_132 : Cond.fieldLink RX10 132 "WarmthShared$Flat" "open" "I" ∈ BIG := m_0_64
theorem m_0_69 : Cond.fieldLink RX10 135 "WarmthShared$Flat" "isHeld" "Z" ∈ BIG := tb_in (i := 69) tb_c0 (by decide +kernel) rfl
theorem b_fl_RX10_135 : Cond.fieldLink RX10 135 "WarmthShared$Flat" "isHeld" "Z" ∈ BIG := m_0_69
theorem m_0_72 : Cond.fieldLink RX10 142 "WarmthShared$Flat" "isWindowOpen" "Z" ∈ BIG := tb_in (i := 72) tb_c0 (by decide +kernel) rfl
theorem b_fl_RX10_142 : Cond.fieldLink RX10 142 "WarmthShared$Flat" "isWindowOpen" "Z" ∈ BIG := m_0_72
theorem m_0_75 : Cond.fieldLink RX10 145 "WarmthShared$Flat" "warm" "I" ∈ BIG := tb_in (i := 75) tb_c0 (by decide +kernel) rfl
theorem b_fl_RX10_145 : Cond.fieldLink RX10 145 "WarmthShared$Flat" "warm" "I" ∈ BIG := m_0_75
theorem m_0_79 : Cond.fieldLink RX10 157 "WarmthShared$Flat" "used" "I" ∈ BIG := tb_in (i := 79) tb_c0 (by decide +kernel) rfl
theorem b_fl_RX10_157 : Cond.fieldLink RX10 157 "WarmthShared$Flat" "used" "I" ∈ BIG := m_0_79
theorem m_1_113 : Cond.fieldLink RX10 16 "WarmthShared" "kept" "LWarmthShared$State;" ∈ BIG := tb_in (i := 113) tb_c1 (by decide +kernel) rfl
theorem b_fl_RX10_16 : Cond.fieldLink RX10 16 "WarmthShared" "kept" "LWarmthShared$State;" ∈ BIG := m_1_113
theorem m_0_83 : Cond.fieldLink RX10 160 "WarmthShared$Flat" "taken" "I" ∈ BIG := tb_in (i := 83) tb_c0 (by decide +kernel) rfl
theorem b_fl_RX10_160 : Cond.fieldLink RX10 160 "WarmthShared$Flat" "taken" "I" ∈ BIG := m_0_83
theorem m_0_87 : Cond.fieldLink RX10 163 "WarmthShared$Flat" "gift" "I" ∈ BIG := tb_in (i := 87) tb_c0 (by decide +kernel) rfl
theorem b_fl_RX10_163 : Cond.fieldLink RX10 163 "WarmthShared$Flat" "gift" "I" ∈ BIG := m_0_87
theorem m_0_90 : Cond.fieldLink RX10 166 "WarmthShared$Flat" "drift" "I" ∈ BIG := tb_in (i := 90) tb_c0 (by decide +kernel) rfl
theorem b_fl_RX10_166 : Cond.fieldLink RX10 166 "WarmthShared$Flat" "drift" "I" ∈ BIG := m_0_90
theorem m_0_134 : Cond.fieldLink RX10 174 "WarmthShared$Block" "outside" "I" ∈ BIG := tb_in (i := 134) tb_c0 (by decide +kernel) rfl
theorem b_fl_RX10_174 : Cond.fieldLink RX10 174 "WarmthShared$Block" "outside" "I" ∈ BIG := m_0_134
theorem m_0_137 : Cond.fieldLink RX10 177 "WarmthShared$Block" "pump" "I" ∈ BIG := tb_in (i := 137) tb_c0 (by decide +kernel) rfl
theorem b_fl_RX10_177 : Cond.fieldLink RX10 177 "WarmthShared$Block" "pump" "I" ∈ BIG := m_0_137
theorem m_0_140 : Cond.fieldLink RX10 180 "WarmthShared$Block" "boiler" "I" ∈ BIG := tb_in (i := 140) tb_c0 (by decide +kernel) rfl
theorem b_fl_RX10_180 : Cond.fieldLink RX10 180 "WarmthShared$Block" "boiler" "I" ∈ BIG := m_0_140
theorem m_0_131 : Cond.fieldLink RX10 184 "WarmthShared$Block" "now" "I" ∈ BIG := tb_in (i := 131) tb_c0 (by decide +kernel) rfl
theorem b_fl_RX10_184 : Cond.fieldLink RX10 184 "WarmthShared$Block" "now" "I" ∈ BIG := m_0_131
theorem m_1_114 : Cond.fieldLink RX10 19 "WarmthShared" "isKept" "Z" ∈ BIG := tb_in (i := 114) tb_c1 (by decide +kernel) rfl
theorem b_fl_RX10_19 : Cond.fieldLink RX10 19 "WarmthShared" "isKept" "Z" ∈ BIG := m_1_114
theorem m_0_166 : Cond.fieldLink RX10 195 "WarmthShared$Text" "size" "I" ∈ BIG := tb_in (i := 166) tb_c0 (by decide +kernel) rfl
theorem b_fl_RX10_195 : Cond.fieldLink RX10 195 "WarmthShared$Text" "size" "I" ∈ BIG := m_0_166
theorem m_1_26 : Cond.fieldLink RX10 247 "WarmthShared$Course" "warm" "[I" ∈ BIG := tb_in (i := 26) tb_c1 (by decide +kernel) rfl
theorem b_fl_RX10_247 : Cond.fieldLink RX10 247 "WarmthShared$Course" "warm" "[I" ∈ BIG := m_1_26
theorem m_1_20 : Cond.fieldLink RX10 255 "WarmthShared$Course" "boiler" "I" ∈ BIG := tb_in (i := 20) tb_c1 (by decide +kernel) rfl
theorem b_fl_RX10_255 : Cond.fieldLink RX10 255 "WarmthShared$Course" "boiler" "I" ∈ BIG := m_1_20
theorem m_1_28 : Cond.fieldLink RX10 256 "WarmthShared$Course" "leaks" "[I" ∈ BIG := tb_in (i := 28) tb_c1 (by decide +kernel) rfl
theorem b_fl_RX10_256 : Cond.fieldLink RX10 256 "WarmthShared$Course" "leaks" "[I" ∈ BIG := m_1_28
theorem m_0_187 : Cond.fieldLink RX10 258 "WarmthShared$Complaints" "size" "I" ∈ BIG := tb_in (i := 187) tb_c0 (by decide +kernel) rfl
theorem b_fl_RX10_258 : Cond.fieldLink RX10 258 "WarmthShared$Complaints" "size" "I" ∈ BIG := m_0_187
theorem m_0_179 : Cond.fieldLink RX10 264 "WarmthShared$Complaints" "flat" "[I" ∈ BIG := tb_in (i := 179) tb_c0 (by decide +kernel) rfl
theorem b_fl_RX10_264 : Cond.fieldLink RX10 264 "WarmthShared$Complaints" "flat" "[I" ∈ BIG := m_0_179
theorem m_0_181 : Cond.fieldLink RX10 267 "WarmthShared$Complaints" "sort" "[I" ∈ BIG := tb_in (i := 181) tb_c0 (by decide +kernel) rfl
theorem b_fl_RX10_267 : Cond.fieldLink RX10 267 "WarmthShared$Complaints" "sort" "[I" ∈ BIG := m_0_181
theorem m_1_115 : Cond.fieldLink RX10 27 "WarmthShared" "block" "LWarmthShared$Block;" ∈ BIG := tb_in (i := 115) tb_c1 (by decide +kernel) rfl
theorem b_fl_RX10_27 : Cond.fieldLink RX10 27 "WarmthShared" "block" "LWarmthShared$Block;" ∈ BIG := m_1_115
theorem m_0_183 : Cond.fieldLink RX10 270 "WarmthShared$Complaints" "hour" "[I" ∈ BIG := tb_in (i := 183) tb_c0 (by decide +kernel) rfl
theorem b_fl_RX10_270 : Cond.fieldLink RX10 270 "WarmthShared$Complaints" "hour" "[I" ∈ BIG := m_0_183
theorem m_0_185 : Cond.fieldLink RX10 273 "WarmthShared$Complaints" "group" "[I" ∈ BIG := tb_in (i := 185) tb_c0 (by decide +kernel) rfl
theorem b_fl_RX10_273 : Cond.fieldLink RX10 273 "WarmthShared$Complaints" "group" "[I" ∈ BIG := m_0_185
theorem m_1_103 : Cond.fieldLink RX10 287 "WarmthShared$Sheets" "size" "[I" ∈ BIG := tb_in (i := 103) tb_c1 (by decide +kernel) rfl
theorem b_fl_RX10_287 : Cond.fieldLink RX10 287 "WarmthShared$Sheets" "size" "[I" ∈ BIG := m_1_103
theorem m_1_99 : Cond.fieldLink RX10 293 "WarmthShared$Sheets" "numbers" "[[J" ∈ BIG := tb_in (i := 99) tb_c1 (by decide +kernel) rfl
theorem b_fl_RX10_293 : Cond.fieldLink RX10 293 "WarmthShared$Sheets" "numbers" "[[J" ∈ BIG := m_1_99
theorem m_1_101 : Cond.fieldLink RX10 297 "WarmthShared$Sheets" "bits" "[I" ∈ BIG := tb_in (i := 101) tb_c1 (by decide +kernel) rfl
theorem b_fl_RX10_297 : Cond.fieldLink RX10 297 "WarmthShared$Sheets" "bits" "[I" ∈ BIG := m_1_101
theorem m_1_116 : Cond.fieldLink RX10 32 "WarmthShared" "complaints" "LWarmthShared$Complaints;" ∈ BIG := tb_in (i := 116) tb_c1 (by decide +kernel) rfl
theorem b_fl_RX10_32 : Cond.fieldLink RX10 32 "WarmthShared" "complaints" "LWarmthShared$Complaints;" ∈ BIG := m_1_116
theorem m_1_117 : Cond.fieldLink RX10 37 "WarmthShared" "rule" "LWarmthShared$Text;" ∈ BIG := tb_in (i := 117) tb_c1 (by decide +kernel) rfl
theorem b_fl_RX10_37 : Cond.fieldLink RX10 37 "WarmthShared" "rule" "LWarmthShared$Text;" ∈ BIG := m_1_117
theorem m_1_118 : Cond.fieldLink RX10 41 "WarmthShared" "tape" "LWarmthShared$Text;" ∈ BIG := tb_in (i := 118) tb_c1 (by decide +kernel) rfl
theorem b_fl_RX10_41 : Cond.fieldLink RX10 41 "WarmthShared" "tape" "LWarmthShared$Text;" ∈ BIG := m_1_118
theorem m_1_119 : Cond.fieldLink RX10 49 "WarmthShared" "ruleReader" "LWarmthShared$RuleReader;" ∈ BIG := tb_in (i := 119) tb_c1 (by decide +kernel) rfl
theorem b_fl_RX10_49 : Cond.fieldLink RX10 49 "WarmthShared" "ruleReader" "LWarmthShared$RuleReader;" ∈ BIG := m_1_119
theorem m_1_120 : Cond.fieldLink RX10 53 "WarmthShared" "tapeReader" "LWarmthShared$RuleReader;" ∈ BIG := tb_in (i := 120) tb_c1 (by decide +kernel) rfl
theorem b_fl_RX10_53 : Cond.fieldLink RX10 53 "WarmthShared" "tapeReader" "LWarmthShared$RuleReader;" ∈ BIG := m_1_120
theorem m_1_121 : Cond.fieldLink RX10 59 "WarmthShared" "split" "LWarmthShared$Split;" ∈ BIG := tb_in (i := 121) tb_c1 (by decide +kernel) rfl
theorem b_fl_RX10_59 : Cond.fieldLink RX10 59 "WarmthShared" "split" "LWarmthShared$Split;" ∈ BIG := m_1_121
theorem m_1_122 : Cond.fieldLink RX10 66 "WarmthShared" "course" "LWarmthShared$Course;" ∈ BIG := tb_in (i := 122) tb_c1 (by decide +kernel) rfl
theorem b_fl_RX10_66 : Cond.fieldLink RX10 66 "WarmthShared" "course" "LWarmthShared$Course;" ∈ BIG := m_1_122
theorem m_1_123 : Cond.fieldLink RX10 75 "WarmthShared" "fewTurns" "LWarmthShared$FewTurns;" ∈ BIG := tb_in (i := 123) tb_c1 (by decide +kernel) rfl
theorem b_fl_RX10_75 : Cond.fieldLink RX10 75 "WarmthShared" "fewTurns" "LWarmthShared$FewTurns;" ∈ BIG := m_1_123
theorem m_1_124 : Cond.fieldLink RX10 82 "WarmthShared" "sheets" "LWarmthShared$Sheets;" ∈ BIG := tb_in (i := 124) tb_c1 (by decide +kernel) rfl
theorem b_fl_RX10_82 : Cond.fieldLink RX10 82 "WarmthShared" "sheets" "LWarmthShared$Sheets;" ∈ BIG := m_1_124
theorem m_1_125 : Cond.fieldLink RX10 86 "WarmthShared" "findings" "[I" ∈ BIG := tb_in (i := 125) tb_c1 (by decide +kernel) rfl
theorem b_fl_RX10_86 : Cond.fieldLink RX10 86 "WarmthShared" "findings" "[I" ∈ BIG := m_1_125
theorem m_0_126 : Cond.fieldLink RX10 99 "WarmthShared$Block" "size" "I" ∈ BIG := tb_in (i := 126) tb_c0 (by decide +kernel) rfl
theorem b_fl_RX10_99 : Cond.fieldLink RX10 99 "WarmthShared$Block" "size" "I" ∈ BIG := m_0_126
theorem m_4_40 : Cond.fieldLink RX11 105 "WarmthSharedModel" "hasFew" "Z" ∈ BIG := tb_in (i := 40) tb_c4 (by decide +kernel) rfl
theorem b_fl_RX11_105 : Cond.fieldLink RX11 105 "WarmthSharedModel" "hasFew" "Z" ∈ BIG := m_4_40
theorem m_4_11 : Cond.fieldLink RX11 13 "WarmthSharedModel" "kept" "[I" ∈ BIG := tb_in (i := 11) tb_c4 (by decide +kernel) rfl
theorem b_fl_RX11_13 : Cond.fieldLink RX11 13 "WarmthSharedModel" "kept" "[I" ∈ BIG := m_4_11
theorem m_4_13 : Cond.fieldLink RX11 16 "WarmthSharedModel" "found" "[I" ∈ BIG := tb_in (i := 13) tb_c4 (by decide +kernel) rfl
theorem b_fl_RX11_16 : Cond.fieldLink RX11 16 "WarmthSharedModel" "found" "[I" ∈ BIG := m_4_13
theorem m_4_28 : Cond.fieldLink RX11 161 "WarmthSharedModel" "taped" "I" ∈ BIG := tb_in (i := 28) tb_c4 (by decide +kernel) rfl
theorem b_fl_RX11_161 : Cond.fieldLink RX11 161 "WarmthSharedModel" "taped" "I" ∈ BIG := m_4_28
theorem m_4_30 : Cond.fieldLink RX11 164 "WarmthSharedModel" "freshMany" "I" ∈ BIG := tb_in (i := 30) tb_c4 (by decide +kernel) rfl
theorem b_fl_RX11_164 : Cond.fieldLink RX11 164 "WarmthSharedModel" "freshMany" "I" ∈ BIG := m_4_30
theorem m_4_32 : Cond.fieldLink RX11 167 "WarmthSharedModel" "held" "I" ∈ BIG := tb_in (i := 32) tb_c4 (by decide +kernel) rfl
theorem b_fl_RX11_167 : Cond.fieldLink RX11 167 "WarmthSharedModel" "held" "I" ∈ BIG := m_4_32
theorem m_4_34 : Cond.fieldLink RX11 174 "WarmthSharedModel" "at" "I" ∈ BIG := tb_in (i := 34) tb_c4 (by decide +kernel) rfl
theorem b_fl_RX11_174 : Cond.fieldLink RX11 174 "WarmthSharedModel" "at" "I" ∈ BIG := m_4_34
theorem m_4_33 : Cond.fieldLink RX11 183 "WarmthSharedModel" "opened" "I" ∈ BIG := tb_in (i := 33) tb_c4 (by decide +kernel) rfl
theorem b_fl_RX11_183 : Cond.fieldLink RX11 183 "WarmthSharedModel" "opened" "I" ∈ BIG := m_4_33
theorem m_4_35 : Cond.fieldLink RX11 188 "WarmthSharedModel" "isFault" "Z" ∈ BIG := tb_in (i := 35) tb_c4 (by decide +kernel) rfl
theorem b_fl_RX11_188 : Cond.fieldLink RX11 188 "WarmthSharedModel" "isFault" "Z" ∈ BIG := m_4_35
theorem m_4_15 : Cond.fieldLink RX11 19 "WarmthSharedModel" "above" "[I" ∈ BIG := tb_in (i := 15) tb_c4 (by decide +kernel) rfl
theorem b_fl_RX11_19 : Cond.fieldLink RX11 19 "WarmthSharedModel" "above" "[I" ∈ BIG := m_4_15
theorem m_4_16 : Cond.fieldLink RX11 22 "WarmthSharedModel" "below" "[I" ∈ BIG := tb_in (i := 16) tb_c4 (by decide +kernel) rfl
theorem b_fl_RX11_22 : Cond.fieldLink RX11 22 "WarmthSharedModel" "below" "[I" ∈ BIG := m_4_16
theorem m_4_43 : Cond.fieldLink RX11 245 "WarmthSharedModel" "visits" "I" ∈ BIG := tb_in (i := 43) tb_c4 (by decide +kernel) rfl
theorem b_fl_RX11_245 : Cond.fieldLink RX11 245 "WarmthSharedModel" "visits" "I" ∈ BIG := m_4_43
theorem m_4_44 : Cond.fieldLink RX11 248 "WarmthSharedModel" "lesser" "I" ∈ BIG := tb_in (i := 44) tb_c4 (by decide +kernel) rfl
theorem b_fl_RX11_248 : Cond.fieldLink RX11 248 "WarmthSharedModel" "lesser" "I" ∈ BIG := m_4_44
theorem m_4_17 : Cond.fieldLink RX11 25 "WarmthSharedModel" "before" "[I" ∈ BIG := tb_in (i := 17) tb_c4 (by decide +kernel) rfl
theorem b_fl_RX11_25 : Cond.fieldLink RX11 25 "WarmthSharedModel" "before" "[I" ∈ BIG := m_4_17
theorem m_4_46 : Cond.fieldLink RX11 251 "WarmthSharedModel" "lesserOpen" "I" ∈ BIG := tb_in (i := 46) tb_c4 (by decide +kernel) rfl
theorem b_fl_RX11_251 : Cond.fieldLink RX11 251 "WarmthSharedModel" "lesserOpen" "I" ∈ BIG := m_4_46
theorem m_4_45 : Cond.fieldLink RX11 254 "WarmthSharedModel" "greater" "I" ∈ BIG := tb_in (i := 45) tb_c4 (by decide +kernel) rfl
theorem b_fl_RX11_254 : Cond.fieldLink RX11 254 "WarmthSharedModel" "greater" "I" ∈ BIG := m_4_45
theorem m_4_47 : Cond.fieldLink RX11 257 "WarmthSharedModel" "greaterOpen" "I" ∈ BIG := tb_in (i := 47) tb_c4 (by decide +kernel) rfl
theorem b_fl_RX11_257 : Cond.fieldLink RX11 257 "WarmthSharedModel" "greaterOpen" "I" ∈ BIG := m_4_47
theorem m_4_41 : Cond.fieldLink RX11 260 "WarmthSharedModel" "fewBounds" "I" ∈ BIG := tb_in (i := 41) tb_c4 (by decide +kernel) rfl
theorem b_fl_RX11_260 : Cond.fieldLink RX11 260 "WarmthSharedModel" "fewBounds" "I" ∈ BIG := m_4_41
theorem m_4_42 : Cond.fieldLink RX11 263 "WarmthSharedModel" "fewHours" "I" ∈ BIG := tb_in (i := 42) tb_c4 (by decide +kernel) rfl
theorem b_fl_RX11_263 : Cond.fieldLink RX11 263 "WarmthSharedModel" "fewHours" "I" ∈ BIG := m_4_42
theorem m_4_18 : Cond.fieldLink RX11 28 "WarmthSharedModel" "behind" "[I" ∈ BIG := tb_in (i := 18) tb_c4 (by decide +kernel) rfl
theorem b_fl_RX11_28 : Cond.fieldLink RX11 28 "WarmthSharedModel" "behind" "[I" ∈ BIG := m_4_18
theorem m_4_12 : Cond.fieldLink RX11 307 "WarmthSharedModel" "isKept" "Z" ∈ BIG := tb_in (i := 12) tb_c4 (by decide +kernel) rfl
theorem b_fl_RX11_307 : Cond.fieldLink RX11 307 "WarmthSharedModel" "isKept" "Z" ∈ BIG := m_4_12
theorem m_4_19 : Cond.fieldLink RX11 31 "WarmthSharedModel" "higher" "[I" ∈ BIG := tb_in (i := 19) tb_c4 (by decide +kernel) rfl
theorem b_fl_RX11_31 : Cond.fieldLink RX11 31 "WarmthSharedModel" "higher" "[I" ∈ BIG := m_4_19
theorem m_4_20 : Cond.fieldLink RX11 34 "WarmthSharedModel" "opens" "[I" ∈ BIG := tb_in (i := 20) tb_c4 (by decide +kernel) rfl
theorem b_fl_RX11_34 : Cond.fieldLink RX11 34 "WarmthSharedModel" "opens" "[I" ∈ BIG := m_4_20
theorem m_4_21 : Cond.fieldLink RX11 37 "WarmthSharedModel" "flows" "[I" ∈ BIG := tb_in (i := 21) tb_c4 (by decide +kernel) rfl
theorem b_fl_RX11_37 : Cond.fieldLink RX11 37 "WarmthSharedModel" "flows" "[I" ∈ BIG := m_4_21
theorem m_4_22 : Cond.fieldLink RX11 40 "WarmthSharedModel" "leaks" "[I" ∈ BIG := tb_in (i := 22) tb_c4 (by decide +kernel) rfl
theorem b_fl_RX11_40 : Cond.fieldLink RX11 40 "WarmthSharedModel" "leaks" "[I" ∈ BIG := m_4_22
theorem m_4_23 : Cond.fieldLink RX11 43 "WarmthSharedModel" "warms" "[I" ∈ BIG := tb_in (i := 23) tb_c4 (by decide +kernel) rfl
theorem b_fl_RX11_43 : Cond.fieldLink RX11 43 "WarmthSharedModel" "warms" "[I" ∈ BIG := m_4_23
theorem m_4_24 : Cond.fieldLink RX11 46 "WarmthSharedModel" "next" "[I" ∈ BIG := tb_in (i := 24) tb_c4 (by decide +kernel) rfl
theorem b_fl_RX11_46 : Cond.fieldLink RX11 46 "WarmthSharedModel" "next" "[I" ∈ BIG := m_4_24
theorem m_4_25 : Cond.fieldLink RX11 49 "WarmthSharedModel" "ins" "[I" ∈ BIG := tb_in (i := 25) tb_c4 (by decide +kernel) rfl
theorem b_fl_RX11_49 : Cond.fieldLink RX11 49 "WarmthSharedModel" "ins" "[I" ∈ BIG := m_4_25
theorem m_4_26 : Cond.fieldLink RX11 52 "WarmthSharedModel" "throughs" "[I" ∈ BIG := tb_in (i := 26) tb_c4 (by decide +kernel) rfl
theorem b_fl_RX11_52 : Cond.fieldLink RX11 52 "WarmthSharedModel" "throughs" "[I" ∈ BIG := m_4_26
theorem m_4_27 : Cond.fieldLink RX11 55 "WarmthSharedModel" "tape" "[I" ∈ BIG := tb_in (i := 27) tb_c4 (by decide +kernel) rfl
theorem b_fl_RX11_55 : Cond.fieldLink RX11 55 "WarmthSharedModel" "tape" "[I" ∈ BIG := m_4_27
theorem m_4_29 : Cond.fieldLink RX11 58 "WarmthSharedModel" "fresh" "[I" ∈ BIG := tb_in (i := 29) tb_c4 (by decide +kernel) rfl
theorem b_fl_RX11_58 : Cond.fieldLink RX11 58 "WarmthSharedModel" "fresh" "[I" ∈ BIG := m_4_29
theorem m_4_31 : Cond.fieldLink RX11 61 "WarmthSharedModel" "waits" "[I" ∈ BIG := tb_in (i := 31) tb_c4 (by decide +kernel) rfl
theorem b_fl_RX11_61 : Cond.fieldLink RX11 61 "WarmthSharedModel" "waits" "[I" ∈ BIG := m_4_31
theorem m_4_36 : Cond.fieldLink RX11 64 "WarmthSharedModel" "pile" "[I" ∈ BIG := tb_in (i := 36) tb_c4 (by decide +kernel) rfl
theorem b_fl_RX11_64 : Cond.fieldLink RX11 64 "WarmthSharedModel" "pile" "[I" ∈ BIG := m_4_36
theorem m_4_37 : Cond.fieldLink RX11 67 "WarmthSharedModel" "shares" "[I" ∈ BIG := tb_in (i := 37) tb_c4 (by decide +kernel) rfl
theorem b_fl_RX11_67 : Cond.fieldLink RX11 67 "WarmthSharedModel" "shares" "[I" ∈ BIG := m_4_37
theorem m_4_38 : Cond.fieldLink RX11 70 "WarmthSharedModel" "pays" "[I" ∈ BIG := tb_in (i := 38) tb_c4 (by decide +kernel) rfl
theorem b_fl_RX11_70 : Cond.fieldLink RX11 70 "WarmthSharedModel" "pays" "[I" ∈ BIG := m_4_38
theorem m_4_39 : Cond.fieldLink RX11 73 "WarmthSharedModel" "rests" "[I" ∈ BIG := tb_in (i := 39) tb_c4 (by decide +kernel) rfl
theorem b_fl_RX11_73 : Cond.fieldLink RX11 73 "WarmthSharedModel" "rests" "[I" ∈ BIG := m_4_39
theorem m_4_48 : Cond.fieldLink RX11 76 "WarmthSharedModel" "group" "[I" ∈ BIG := tb_in (i := 48) tb_c4 (by decide +kernel) rfl
theorem b_fl_RX11_76 : Cond.fieldLink RX11 76 "WarmthSharedModel" "group" "[I" ∈ BIG := m_4_48
theorem m_4_49 : Cond.fieldLink RX11 79 "WarmthSharedModel" "widths" "[I" ∈ BIG := tb_in (i := 49) tb_c4 (by decide +kernel) rfl
theorem b_fl_RX11_79 : Cond.fieldLink RX11 79 "WarmthSharedModel" "widths" "[I" ∈ BIG := m_4_49
theorem m_4_50 : Cond.fieldLink RX11 82 "WarmthSharedModel" "sizes" "[I" ∈ BIG := tb_in (i := 50) tb_c4 (by decide +kernel) rfl
theorem b_fl_RX11_82 : Cond.fieldLink RX11 82 "WarmthSharedModel" "sizes" "[I" ∈ BIG := m_4_50
theorem m_4_51 : Cond.fieldLink RX11 85 "WarmthSharedModel" "cells" "[J" ∈ BIG := tb_in (i := 51) tb_c4 (by decide +kernel) rfl
theorem b_fl_RX11_85 : Cond.fieldLink RX11 85 "WarmthSharedModel" "cells" "[J" ∈ BIG := m_4_51
theorem m_4_52 : Cond.fieldLink RX11 89 "WarmthSharedModel" "moved" "[J" ∈ BIG := tb_in (i := 52) tb_c4 (by decide +kernel) rfl
theorem b_fl_RX11_89 : Cond.fieldLink RX11 89 "WarmthSharedModel" "moved" "[J" ∈ BIG := m_4_52
theorem m_4_10 : Cond.fieldLink RX11 9 "WarmthSharedModel" "now" "[I" ∈ BIG := tb_in (i := 10) tb_c4 (by decide +kernel) rfl
theorem b_fl_RX11_9 : Cond.fieldLink RX11 9 "WarmthSharedModel" "now" "[I" ∈ BIG := m_4_10
theorem m_4_14 : Cond.fieldLink RX11 93 "WarmthSharedModel" "foundAll" "I" ∈ BIG := tb_in (i := 14) tb_c4 (by decide +kernel) rfl
theorem b_fl_RX11_93 : Cond.fieldLink RX11 93 "WarmthSharedModel" "foundAll" "I" ∈ BIG := m_4_14
theorem m_1_24 : Cond.fieldLink RX2 15 "WarmthShared$Course" "warm" "[I" ∈ BIG := tb_in (i := 24) tb_c1 (by decide +kernel) rfl
theorem b_fl_RX2_15 : Cond.fieldLink RX2 15 "WarmthShared$Course" "warm" "[I" ∈ BIG := m_1_24
theorem m_1_27 : Cond.fieldLink RX2 18 "WarmthShared$Course" "leaks" "[I" ∈ BIG := tb_in (i := 27) tb_c1 (by decide +kernel) rfl
theorem b_fl_RX2_18 : Cond.fieldLink RX2 18 "WarmthShared$Course" "leaks" "[I" ∈ BIG := m_1_27
theorem m_1_29 : Cond.fieldLink RX2 21 "WarmthShared$Course" "weight" "[I" ∈ BIG := tb_in (i := 29) tb_c1 (by decide +kernel) rfl
theorem b_fl_RX2_21 : Cond.fieldLink RX2 21 "WarmthShared$Course" "weight" "[I" ∈ BIG := m_1_29
theorem m_1_31 : Cond.fieldLink RX2 24 "WarmthShared$Course" "flow" "[I" ∈ BIG := tb_in (i := 31) tb_c1 (by decide +kernel) rfl
theorem b_fl_RX2_24 : Cond.fieldLink RX2 24 "WarmthShared$Course" "flow" "[I" ∈ BIG := m_1_31
theorem m_1_32 : Cond.fieldLink RX2 27 "WarmthShared$Course" "in" "[I" ∈ BIG := tb_in (i := 32) tb_c1 (by decide +kernel) rfl
theorem b_fl_RX2_27 : Cond.fieldLink RX2 27 "WarmthShared$Course" "in" "[I" ∈ BIG := m_1_32
theorem m_1_34 : Cond.fieldLink RX2 30 "WarmthShared$Course" "through" "[I" ∈ BIG := tb_in (i := 34) tb_c1 (by decide +kernel) rfl
theorem b_fl_RX2_30 : Cond.fieldLink RX2 30 "WarmthShared$Course" "through" "[I" ∈ BIG := m_1_34
theorem m_1_36 : Cond.fieldLink RX2 33 "WarmthShared$Course" "oneSide" "[I" ∈ BIG := tb_in (i := 36) tb_c1 (by decide +kernel) rfl
theorem b_fl_RX2_33 : Cond.fieldLink RX2 33 "WarmthShared$Course" "oneSide" "[I" ∈ BIG := m_1_36
theorem m_1_37 : Cond.fieldLink RX2 36 "WarmthShared$Course" "otherSide" "[I" ∈ BIG := tb_in (i := 37) tb_c1 (by decide +kernel) rfl
theorem b_fl_RX2_36 : Cond.fieldLink RX2 36 "WarmthShared$Course" "otherSide" "[I" ∈ BIG := m_1_37
theorem m_0_125 : Cond.fieldLink RX2 39 "WarmthShared$Block" "size" "I" ∈ BIG := tb_in (i := 125) tb_c0 (by decide +kernel) rfl
theorem b_fl_RX2_39 : Cond.fieldLink RX2 39 "WarmthShared$Block" "size" "I" ∈ BIG := m_0_125
theorem m_1_18 : Cond.fieldLink RX2 45 "WarmthShared$Course" "size" "I" ∈ BIG := tb_in (i := 18) tb_c1 (by decide +kernel) rfl
theorem b_fl_RX2_45 : Cond.fieldLink RX2 45 "WarmthShared$Course" "size" "I" ∈ BIG := m_1_18
theorem m_0_139 : Cond.fieldLink RX2 46 "WarmthShared$Block" "boiler" "I" ∈ BIG := tb_in (i := 139) tb_c0 (by decide +kernel) rfl
theorem b_fl_RX2_46 : Cond.fieldLink RX2 46 "WarmthShared$Block" "boiler" "I" ∈ BIG := m_0_139
theorem m_1_19 : Cond.fieldLink RX2 49 "WarmthShared$Course" "boiler" "I" ∈ BIG := tb_in (i := 19) tb_c1 (by decide +kernel) rfl
theorem b_fl_RX2_49 : Cond.fieldLink RX2 49 "WarmthShared$Course" "boiler" "I" ∈ BIG := m_1_19
theorem m_0_133 : Cond.fieldLink RX2 50 "WarmthShared$Block" "outside" "I" ∈ BIG := tb_in (i := 133) tb_c0 (by decide +kernel) rfl
theorem b_fl_RX2_50 : Cond.fieldLink RX2 50 "WarmthShared$Block" "outside" "I" ∈ BIG := m_0_133
theorem m_1_21 : Cond.fieldLink RX2 53 "WarmthShared$Course" "outside" "I" ∈ BIG := tb_in (i := 21) tb_c1 (by decide +kernel) rfl
theorem b_fl_RX2_53 : Cond.fieldLink RX2 53 "WarmthShared$Course" "outside" "I" ∈ BIG := m_1_21
theorem m_0_136 : Cond.fieldLink RX2 54 "WarmthShared$Block" "pump" "I" ∈ BIG := tb_in (i := 136) tb_c0 (by decide +kernel) rfl
theorem b_fl_RX2_54 : Cond.fieldLink RX2 54 "WarmthShared$Block" "pump" "I" ∈ BIG := m_0_136
theorem m_1_22 : Cond.fieldLink RX2 57 "WarmthShared$Course" "pump" "I" ∈ BIG := tb_in (i := 22) tb_c1 (by decide +kernel) rfl
theorem b_fl_RX2_57 : Cond.fieldLink RX2 57 "WarmthShared$Course" "pump" "I" ∈ BIG := m_1_22
theorem m_1_38 : Cond.fieldLink RX2 58 "WarmthShared$Course" "walls" "I" ∈ BIG := tb_in (i := 38) tb_c1 (by decide +kernel) rfl
theorem b_fl_RX2_58 : Cond.fieldLink RX2 58 "WarmthShared$Course" "walls" "I" ∈ BIG := m_1_38
theorem m_0_119 : Cond.fieldLink RX2 61 "WarmthShared$Block" "flats" "[LWarmthShared$Flat;" ∈ BIG := tb_in (i := 119) tb_c0 (by decide +kernel) rfl
theorem b_fl_RX2_61 : Cond.fieldLink RX2 61 "WarmthShared$Block" "flats" "[LWarmthShared$Flat;" ∈ BIG := m_0_119
theorem m_0_74 : Cond.fieldLink RX2 65 "WarmthShared$Flat" "warm" "I" ∈ BIG := tb_in (i := 74) tb_c0 (by decide +kernel) rfl
theorem b_fl_RX2_65 : Cond.fieldLink RX2 65 "WarmthShared$Flat" "warm" "I" ∈ BIG := m_0_74
theorem m_0_59 : Cond.fieldLink RX2 69 "WarmthShared$Flat" "wall" "I" ∈ BIG := tb_in (i := 59) tb_c0 (by decide +kernel) rfl
theorem b_fl_RX2_69 : Cond.fieldLink RX2 69 "WarmthShared$Flat" "wall" "I" ∈ BIG := m_0_59
theorem m_0_63 : Cond.fieldLink RX2 75 "WarmthShared$Flat" "open" "I" ∈ BIG := tb_in (i := 63) tb_c0 (by decide +kernel) rfl
theorem b_fl_RX2_75 : Cond.fieldLink RX2 75 "WarmthShared$Flat" "open" "I" ∈ BIG := m_0_63
theorem m_1_23 : Cond.fieldLink RX2 9 "WarmthShared$Course" "warmAtFirst" "[I" ∈ BIG := tb_in (i := 23) tb_c1 (by decide +kernel) rfl
theorem b_fl_RX2_9 : Cond.fieldLink RX2 9 "WarmthShared$Course" "warmAtFirst" "[I" ∈ BIG := m_1_23
theorem m_1_74 : Cond.fieldLink RX3 15 "WarmthShared$FewTurns" "block" "LWarmthShared$Block;" ∈ BIG := tb_in (i := 74) tb_c1 (by decide +kernel) rfl
theorem b_fl_RX3_15 : Cond.fieldLink RX3 15 "WarmthShared$FewTurns" "block" "LWarmthShared$Block;" ∈ BIG := m_1_74
theorem m_1_75 : Cond.fieldLink RX3 19 "WarmthShared$FewTurns" "course" "LWarmthShared$Course;" ∈ BIG := tb_in (i := 75) tb_c1 (by decide +kernel) rfl
theorem b_fl_RX3_19 : Cond.fieldLink RX3 19 "WarmthShared$FewTurns" "course" "LWarmthShared$Course;" ∈ BIG := m_1_75
theorem m_1_77 : Cond.fieldLink RX3 23 "WarmthShared$FewTurns" "bounds" "I" ∈ BIG := tb_in (i := 77) tb_c1 (by decide +kernel) rfl
theorem b_fl_RX3_23 : Cond.fieldLink RX3 23 "WarmthShared$FewTurns" "bounds" "I" ∈ BIG := m_1_77
theorem m_1_78 : Cond.fieldLink RX3 27 "WarmthShared$FewTurns" "hours" "I" ∈ BIG := tb_in (i := 78) tb_c1 (by decide +kernel) rfl
theorem b_fl_RX3_27 : Cond.fieldLink RX3 27 "WarmthShared$FewTurns" "hours" "I" ∈ BIG := m_1_78
theorem m_0_127 : Cond.fieldLink RX3 46 "WarmthShared$Block" "size" "I" ∈ BIG := tb_in (i := 127) tb_c0 (by decide +kernel) rfl
theorem b_fl_RX3_46 : Cond.fieldLink RX3 46 "WarmthShared$Block" "size" "I" ∈ BIG := m_0_127
theorem m_0_121 : Cond.fieldLink RX3 51 "WarmthShared$Block" "flats" "[LWarmthShared$Flat;" ∈ BIG := tb_in (i := 121) tb_c0 (by decide +kernel) rfl
theorem b_fl_RX3_51 : Cond.fieldLink RX3 51 "WarmthShared$Block" "flats" "[LWarmthShared$Flat;" ∈ BIG := m_0_121
theorem m_0_68 : Cond.fieldLink RX3 55 "WarmthShared$Flat" "isHeld" "Z" ∈ BIG := tb_in (i := 68) tb_c0 (by decide +kernel) rfl
theorem b_fl_RX3_55 : Cond.fieldLink RX3 55 "WarmthShared$Flat" "isHeld" "Z" ∈ BIG := m_0_68
theorem m_0_65 : Cond.fieldLink RX3 69 "WarmthShared$Flat" "open" "I" ∈ BIG := tb_in (i := 65) tb_c0 (by decide +kernel) rfl
theorem b_fl_RX3_69 : Cond.fieldLink RX3 69 "WarmthShared$Flat" "open" "I" ∈ BIG := m_0_65
theorem m_1_30 : Cond.fieldLink RX3 72 "WarmthShared$Course" "weight" "[I" ∈ BIG := tb_in (i := 30) tb_c1 (by decide +kernel) rfl
theorem b_fl_RX3_72 : Cond.fieldLink RX3 72 "WarmthShared$Course" "weight" "[I" ∈ BIG := m_1_30
theorem m_1_76 : Cond.fieldLink RX3 9 "WarmthShared$FewTurns" "newOpen" "[I" ∈ BIG := tb_in (i := 76) tb_c1 (by decide +kernel) rfl
theorem b_fl_RX3_9 : Cond.fieldLink RX3 9 "WarmthShared$FewTurns" "newOpen" "[I" ∈ BIG := m_1_76
theorem m_0_50 : Cond.fieldLink RX4 15 "WarmthShared$Flat" "riser" "I" ∈ BIG := tb_in (i := 50) tb_c0 (by decide +kernel) rfl
theorem b_fl_RX4_15 : Cond.fieldLink RX4 15 "WarmthShared$Flat" "riser" "I" ∈ BIG := m_0_50
theorem m_0_54 : Cond.fieldLink RX4 18 "WarmthShared$Flat" "place" "I" ∈ BIG := tb_in (i := 54) tb_c0 (by decide +kernel) rfl
theorem b_fl_RX4_18 : Cond.fieldLink RX4 18 "WarmthShared$Flat" "place" "I" ∈ BIG := m_0_54
theorem m_0_58 : Cond.fieldLink RX4 21 "WarmthShared$Flat" "wall" "I" ∈ BIG := tb_in (i := 58) tb_c0 (by decide +kernel) rfl
theorem b_fl_RX4_21 : Cond.fieldLink RX4 21 "WarmthShared$Flat" "wall" "I" ∈ BIG := m_0_58
theorem m_0_62 : Cond.fieldLink RX4 24 "WarmthShared$Flat" "open" "I" ∈ BIG := tb_in (i := 62) tb_c0 (by decide +kernel) rfl
theorem b_fl_RX4_24 : Cond.fieldLink RX4 24 "WarmthShared$Flat" "open" "I" ∈ BIG := m_0_62
theorem m_0_67 : Cond.fieldLink RX4 27 "WarmthShared$Flat" "isHeld" "Z" ∈ BIG := tb_in (i := 67) tb_c0 (by decide +kernel) rfl
theorem b_fl_RX4_27 : Cond.fieldLink RX4 27 "WarmthShared$Flat" "isHeld" "Z" ∈ BIG := m_0_67
theorem m_0_71 : Cond.fieldLink RX4 31 "WarmthShared$Flat" "isWindowOpen" "Z" ∈ BIG := tb_in (i := 71) tb_c0 (by decide +kernel) rfl
theorem b_fl_RX4_31 : Cond.fieldLink RX4 31 "WarmthShared$Flat" "isWindowOpen" "Z" ∈ BIG := m_0_71
theorem m_0_73 : Cond.fieldLink RX4 34 "WarmthShared$Flat" "warm" "I" ∈ BIG := tb_in (i := 73) tb_c0 (by decide +kernel) rfl
theorem b_fl_RX4_34 : Cond.fieldLink RX4 34 "WarmthShared$Flat" "warm" "I" ∈ BIG := m_0_73
theorem m_0_77 : Cond.fieldLink RX4 37 "WarmthShared$Flat" "used" "I" ∈ BIG := tb_in (i := 77) tb_c0 (by decide +kernel) rfl
theorem b_fl_RX4_37 : Cond.fieldLink RX4 37 "WarmthShared$Flat" "used" "I" ∈ BIG := m_0_77
theorem m_0_81 : Cond.fieldLink RX4 40 "WarmthShared$Flat" "taken" "I" ∈ BIG := tb_in (i := 81) tb_c0 (by decide +kernel) rfl
theorem b_fl_RX4_40 : Cond.fieldLink RX4 40 "WarmthShared$Flat" "taken" "I" ∈ BIG := m_0_81
theorem m_0_85 : Cond.fieldLink RX4 43 "WarmthShared$Flat" "gift" "I" ∈ BIG := tb_in (i := 85) tb_c0 (by decide +kernel) rfl
theorem b_fl_RX4_43 : Cond.fieldLink RX4 43 "WarmthShared$Flat" "gift" "I" ∈ BIG := m_0_85
theorem m_0_89 : Cond.fieldLink RX4 46 "WarmthShared$Flat" "drift" "I" ∈ BIG := tb_in (i := 89) tb_c0 (by decide +kernel) rfl
theorem b_fl_RX4_46 : Cond.fieldLink RX4 46 "WarmthShared$Flat" "drift" "I" ∈ BIG := m_0_89
theorem m_0_47 : Cond.fieldLink RX4 9 "WarmthShared$Flat" "kind" "I" ∈ BIG := tb_in (i := 47) tb_c0 (by decide +kernel) rfl
theorem b_fl_RX4_9 : Cond.fieldLink RX4 9 "WarmthShared$Flat" "kind" "I" ∈ BIG := m_0_47
theorem m_0_220 : Cond.fieldLink RX5 15 "WarmthShared$RuleReader" "text" "LWarmthShared$Text;" ∈ BIG := tb_in (i := 220) tb_c0 (by decide +kernel) rfl
theorem b_fl_RX5_15 : Cond.fieldLink RX5 15 "WarmthShared$RuleReader" "text" "LWarmthShared$Text;" ∈ BIG := m_0_220
theorem m_0_222 : Cond.fieldLink RX5 19 "WarmthShared$RuleReader" "at" "I" ∈ BIG := tb_in (i := 222) tb_c0 (by decide +kernel) rfl
theorem b_fl_RX5_19 : Cond.fieldLink RX5 19 "WarmthShared$RuleReader" "at" "I" ∈ BIG := m_0_222
theorem m_0_223 : Cond.fieldLink RX5 23 "WarmthShared$RuleReader" "fault" "I" ∈ BIG := tb_in (i := 223) tb_c0 (by decide +kernel) rfl
theorem b_fl_RX5_23 : Cond.fieldLink RX5 23 "WarmthShared$RuleReader" "fault" "I" ∈ BIG := m_0_223
theorem m_0_165 : Cond.fieldLink RX5 30 "WarmthShared$Text" "size" "I" ∈ BIG := tb_in (i := 165) tb_c0 (by decide +kernel) rfl
theorem b_fl_RX5_30 : Cond.fieldLink RX5 30 "WarmthShared$Text" "size" "I" ∈ BIG := m_0_165
theorem m_0_120 : Cond.fieldLink RX5 38 "WarmthShared$Block" "flats" "[LWarmthShared$Flat;" ∈ BIG := tb_in (i := 120) tb_c0 (by decide +kernel) rfl
theorem b_fl_RX5_38 : Cond.fieldLink RX5 38 "WarmthShared$Block" "flats" "[LWarmthShared$Flat;" ∈ BIG := m_0_120
theorem m_0_78 : Cond.fieldLink RX5 44 "WarmthShared$Flat" "used" "I" ∈ BIG := tb_in (i := 78) tb_c0 (by decide +kernel) rfl
theorem b_fl_RX5_44 : Cond.fieldLink RX5 44 "WarmthShared$Flat" "used" "I" ∈ BIG := m_0_78
theorem m_0_82 : Cond.fieldLink RX5 49 "WarmthShared$Flat" "taken" "I" ∈ BIG := tb_in (i := 82) tb_c0 (by decide +kernel) rfl
theorem b_fl_RX5_49 : Cond.fieldLink RX5 49 "WarmthShared$Flat" "taken" "I" ∈ BIG := m_0_82
theorem m_0_86 : Cond.fieldLink RX5 52 "WarmthShared$Flat" "gift" "I" ∈ BIG := tb_in (i := 86) tb_c0 (by decide +kernel) rfl
theorem b_fl_RX5_52 : Cond.fieldLink RX5 52 "WarmthShared$Flat" "gift" "I" ∈ BIG := m_0_86
theorem m_0_60 : Cond.fieldLink RX5 55 "WarmthShared$Flat" "wall" "I" ∈ BIG := tb_in (i := 60) tb_c0 (by decide +kernel) rfl
theorem b_fl_RX5_55 : Cond.fieldLink RX5 55 "WarmthShared$Flat" "wall" "I" ∈ BIG := m_0_60
theorem m_0_48 : Cond.fieldLink RX5 58 "WarmthShared$Flat" "kind" "I" ∈ BIG := tb_in (i := 48) tb_c0 (by decide +kernel) rfl
theorem b_fl_RX5_58 : Cond.fieldLink RX5 58 "WarmthShared$Flat" "kind" "I" ∈ BIG := m_0_48
theorem m_0_51 : Cond.fieldLink RX5 61 "WarmthShared$Flat" "riser" "I" ∈ BIG := tb_in (i := 51) tb_c0 (by decide +kernel) rfl
theorem b_fl_RX5_61 : Cond.fieldLink RX5 61 "WarmthShared$Flat" "riser" "I" ∈ BIG := m_0_51
theorem m_0_55 : Cond.fieldLink RX5 64 "WarmthShared$Flat" "place" "I" ∈ BIG := tb_in (i := 55) tb_c0 (by decide +kernel) rfl
theorem b_fl_RX5_64 : Cond.fieldLink RX5 64 "WarmthShared$Flat" "place" "I" ∈ BIG := m_0_55
theorem m_0_163 : Cond.fieldLink RX5 67 "WarmthShared$Text" "bytes" "[I" ∈ BIG := tb_in (i := 163) tb_c0 (by decide +kernel) rfl
theorem b_fl_RX5_67 : Cond.fieldLink RX5 67 "WarmthShared$Text" "bytes" "[I" ∈ BIG := m_0_163
theorem m_0_221 : Cond.fieldLink RX5 9 "WarmthShared$RuleReader" "values" "[I" ∈ BIG := tb_in (i := 221) tb_c0 (by decide +kernel) rfl
theorem b_fl_RX5_9 : Cond.fieldLink RX5 9 "WarmthShared$RuleReader" "values" "[I" ∈ BIG := m_0_221
theorem m_1_98 : Cond.fieldLink RX6 11 "WarmthShared$Sheets" "numbers" "[[J" ∈ BIG := tb_in (i := 98) tb_c1 (by decide +kernel) rfl
theorem b_fl_RX6_11 : Cond.fieldLink RX6 11 "WarmthShared$Sheets" "numbers" "[[J" ∈ BIG := m_1_98
theorem m_1_100 : Cond.fieldLink RX6 16 "WarmthShared$Sheets" "bits" "[I" ∈ BIG := tb_in (i := 100) tb_c1 (by decide +kernel) rfl
theorem b_fl_RX6_16 : Cond.fieldLink RX6 16 "WarmthShared$Sheets" "bits" "[I" ∈ BIG := m_1_100
theorem m_1_102 : Cond.fieldLink RX6 20 "WarmthShared$Sheets" "size" "[I" ∈ BIG := tb_in (i := 102) tb_c1 (by decide +kernel) rfl
theorem b_fl_RX6_20 : Cond.fieldLink RX6 20 "WarmthShared$Sheets" "size" "[I" ∈ BIG := m_1_102
theorem m_1_1 : Cond.fieldLink RX7 15 "WarmthShared$Split" "price" "I" ∈ BIG := tb_in (i := 1) tb_c1 (by decide +kernel) rfl
theorem b_fl_RX7_15 : Cond.fieldLink RX7 15 "WarmthShared$Split" "price" "I" ∈ BIG := m_1_1
theorem m_1_0 : Cond.fieldLink RX7 19 "WarmthShared$Split" "size" "I" ∈ BIG := tb_in (i := 0) tb_c1 (by decide +kernel) rfl
theorem b_fl_RX7_19 : Cond.fieldLink RX7 19 "WarmthShared$Split" "size" "I" ∈ BIG := m_1_0
theorem m_1_2 : Cond.fieldLink RX7 22 "WarmthShared$Split" "allShares" "I" ∈ BIG := tb_in (i := 2) tb_c1 (by decide +kernel) rfl
theorem b_fl_RX7_22 : Cond.fieldLink RX7 22 "WarmthShared$Split" "allShares" "I" ∈ BIG := m_1_2
theorem m_0_239 : Cond.fieldLink RX7 9 "WarmthShared$Split" "shares" "[I" ∈ BIG := tb_in (i := 239) tb_c0 (by decide +kernel) rfl
theorem b_fl_RX7_9 : Cond.fieldLink RX7 9 "WarmthShared$Split" "shares" "[I" ∈ BIG := m_0_239
theorem m_0_199 : Cond.fieldLink RX8 10 "WarmthShared$State" "block" "LWarmthShared$Block;" ∈ BIG := tb_in (i := 199) tb_c0 (by decide +kernel) rfl
theorem b_fl_RX8_10 : Cond.fieldLink RX8 10 "WarmthShared$State" "block" "LWarmthShared$Block;" ∈ BIG := m_0_199
theorem m_0_201 : Cond.fieldLink RX8 19 "WarmthShared$State" "rule" "LWarmthShared$Text;" ∈ BIG := tb_in (i := 201) tb_c0 (by decide +kernel) rfl
theorem b_fl_RX8_19 : Cond.fieldLink RX8 19 "WarmthShared$State" "rule" "LWarmthShared$Text;" ∈ BIG := m_0_201
theorem m_0_203 : Cond.fieldLink RX8 26 "WarmthShared$State" "complaints" "LWarmthShared$Complaints;" ∈ BIG := tb_in (i := 203) tb_c0 (by decide +kernel) rfl
theorem b_fl_RX8_26 : Cond.fieldLink RX8 26 "WarmthShared$State" "complaints" "LWarmthShared$Complaints;" ∈ BIG := m_0_203
theorem m_0_164 : Cond.fieldLink RX9 15 "WarmthShared$Text" "size" "I" ∈ BIG := tb_in (i := 164) tb_c0 (by decide +kernel) rfl
theorem b_fl_RX9_15 : Cond.fieldLink RX9 15 "WarmthShared$Text" "size" "I" ∈ BIG := m_0_164
theorem m_0_162 : Cond.fieldLink RX9 9 "WarmthShared$Text" "bytes" "[I" ∈ BIG := tb_in (i := 162) tb_c0 (by decide +kernel) rfl
theorem b_fl_RX9_9 : Cond.fieldLink RX9 9 "WarmthShared$Text" "bytes" "[I" ∈ BIG := m_0_162
theorem m_2_141 : Cond.methodLink RJ1 38 Lib.Math.min.name ∈ BIG := tb_in (i := 141) tb_c2 (by decide +kernel) rfl
theorem m_1_201 : Cond.static Lib.Math.min.name ∈ BIG := tb_in (i := 201) tb_c1 (by decide +kernel) rfl
theorem m_0_13 : Cond.initialized "java/lang/Math" ∈ BIG := tb_in (i := 13) tb_c0 (by decide +kernel) rfl
theorem m_1_202 : Cond.code Lib.Math.min.name Lib.Math.min.code 2 (some .int) ∈ BIG := tb_in (i := 202) tb_c1 (rfl) rfl
theorem b_ma_RJ1_38 : MB RJ1 38 Lib.Math.min.name (.code Lib.Math.min.name Lib.Math.min.code 2 (some .int)) := ⟨m_2_141, m_1_201, m_0_13, m_1_202⟩
theorem m_2_140 : Cond.methodLink RJ1 92 Lib.Math.max.name ∈ BIG := tb_in (i := 140) tb_c2 (by decide +kernel) rfl
theorem m_1_213 : Cond.static Lib.Math.max.name ∈ BIG := tb_in (i := 213) tb_c1 (by decide +kernel) rfl
theorem m_1_214 : Cond.code Lib.Math.max.name Lib.Math.max.code 2 (some .int) ∈ BIG := tb_in (i := 214) tb_c1 (rfl) rfl
theorem b_ma_RJ1_92 : MB RJ1 92 Lib.Math.max.name (.code Lib.Math.max.name Lib.Math.max.code 2 (some .int)) := ⟨m_2_140, m_1_213, m_0_13, m_1_214⟩
theorem m_3_37 : Cond.methodLink RX0 115 Lib.Math.abs.name ∈ BIG := tb_in (i := 37) tb_c3 (by decide +kernel) rfl
theorem m_2_24 : Cond.static Lib.Math.abs.name ∈ BIG := tb_in (i := 24) tb_c2 (by decide +kernel) rfl
theorem m_2_25 : Cond.code Lib.Math.abs.name Lib.Math.abs.code 1 (some .int) ∈ BIG := tb_in (i := 25) tb_c2 (rfl) rfl
theorem b_ma_RX0_115 : MB RX0 115 Lib.Math.abs.name (.code Lib.Math.abs.name Lib.Math.abs.code 1 (some .int)) := ⟨m_3_37, m_2_24, m_0_13, m_2_25⟩
theorem m_1_212 : Cond.methodLink RX0 60 Lib.Math.max.name ∈ BIG := tb_in (i := 212) tb_c1 (by decide +kernel) rfl
theorem b_ma_RX0_60 : MB RX0 60 Lib.Math.max.name (.code Lib.Math.max.name Lib.Math.max.code 2 (some .int)) := ⟨m_1_212, m_1_213, m_0_13, m_1_214⟩
theorem m_3_124 : Cond.methodLink RX1 41 Lib.Math.abs.name ∈ BIG := tb_in (i := 124) tb_c3 (by decide +kernel) rfl
theorem b_ma_RX1_41 : MB RX1 41 Lib.Math.abs.name (.code Lib.Math.abs.name Lib.Math.abs.code 1 (some .int)) := ⟨m_3_124, m_2_24, m_0_13, m_2_25⟩
theorem m_3_130 : Cond.methodLink RX1 57 Lib.Math.min.name ∈ BIG := tb_in (i := 130) tb_c3 (by decide +kernel) rfl
theorem b_ma_RX1_57 : MB RX1 57 Lib.Math.min.name (.code Lib.Math.min.name Lib.Math.min.code 2 (some .int)) := ⟨m_3_130, m_1_201, m_0_13, m_1_202⟩
theorem m_2_224 : Cond.methodLink RX10 334 Lib.Math.min.name ∈ BIG := tb_in (i := 224) tb_c2 (by decide +kernel) rfl
theorem b_ma_RX10_334 : MB RX10 334 Lib.Math.min.name (.code Lib.Math.min.name Lib.Math.min.code 2 (some .int)) := ⟨m_2_224, m_1_201, m_0_13, m_1_202⟩
theorem m_2_225 : Cond.methodLink RX10 339 Lib.Math.max.name ∈ BIG := tb_in (i := 225) tb_c2 (by decide +kernel) rfl
theorem b_ma_RX10_339 : MB RX10 339 Lib.Math.max.name (.code Lib.Math.max.name Lib.Math.max.code 2 (some .int)) := ⟨m_2_225, m_1_213, m_0_13, m_1_214⟩
theorem m_2_47 : Cond.methodLink RX2 102 Lib.Math.max.name ∈ BIG := tb_in (i := 47) tb_c2 (by decide +kernel) rfl
theorem b_ma_RX2_102 : MB RX2 102 Lib.Math.max.name (.code Lib.Math.max.name Lib.Math.max.code 2 (some .int)) := ⟨m_2_47, m_1_213, m_0_13, m_1_214⟩
theorem m_3_103 : Cond.methodLink RX3 87 Lib.Math.abs.name ∈ BIG := tb_in (i := 103) tb_c3 (by decide +kernel) rfl
theorem b_ma_RX3_87 : MB RX3 87 Lib.Math.abs.name (.code Lib.Math.abs.name Lib.Math.abs.code 1 (some .int)) := ⟨m_3_103, m_2_24, m_0_13, m_2_25⟩
theorem m_1_200 : Cond.methodLink RX4 57 Lib.Math.min.name ∈ BIG := tb_in (i := 200) tb_c1 (by decide +kernel) rfl
theorem b_ma_RX4_57 : MB RX4 57 Lib.Math.min.name (.code Lib.Math.min.name Lib.Math.min.code 2 (some .int)) := ⟨m_1_200, m_1_201, m_0_13, m_1_202⟩
theorem m_2_23 : Cond.methodLink RX4 63 Lib.Math.abs.name ∈ BIG := tb_in (i := 23) tb_c2 (by decide +kernel) rfl
theorem b_ma_RX4_63 : MB RX4 63 Lib.Math.abs.name (.code Lib.Math.abs.name Lib.Math.abs.code 1 (some .int)) := ⟨m_2_23, m_2_24, m_0_13, m_2_25⟩
theorem m_1_186 : Cond.static yX10_bit ∈ BIG := tb_in (i := 186) tb_c1 (by decide +kernel) rfl
theorem m_0_1 : Cond.initialized "WarmthShared" ∈ BIG := tb_in (i := 1) tb_c0 (by decide +kernel) rfl
theorem m_1_187 : Cond.code yX10_bit cX10_bit 1 (some .int) ∈ BIG := tb_in (i := 187) tb_c1 (rfl) rfl
theorem dn_X10_bit : yX10_bit.cls ≠ "java/lang/invoke/MethodHandle" ∧ yX10_bit.cls ≠ "java/lang/invoke/VarHandle" ∧ (parseMethodDescriptor yX10_bit.desc).map (fun d => d.parameters.length) = some 1 := by decide +kernel
theorem b_nb_RX0_108 : NB RX0 108 yX10_bit RX10 (.code yX10_bit cX10_bit 1 (some .int)) 1 := ⟨⟨⟨by decide +kernel, all2 m_1_186 m_0_1⟩, m_1_187⟩, dn_X10_bit⟩
theorem m_1_160 : Cond.static yX10_within ∈ BIG := tb_in (i := 160) tb_c1 (by decide +kernel) rfl
theorem m_1_161 : Cond.code yX10_within cX10_within 3 (some .boolean) ∈ BIG := tb_in (i := 161) tb_c1 (rfl) rfl
theorem dn_X10_within : yX10_within.cls ≠ "java/lang/invoke/MethodHandle" ∧ yX10_within.cls ≠ "java/lang/invoke/VarHandle" ∧ (parseMethodDescriptor yX10_within.desc).map (fun d => d.parameters.length) = some 3 := by decide +kernel
theorem b_nb_RX0_42 : NB RX0 42 yX10_within RX10 (.code yX10_within cX10_within 3 (some .boolean)) 3 := ⟨⟨⟨by decide +kernel, all2 m_1_160 m_0_1⟩, m_1_161⟩, dn_X10_within⟩
theorem m_3_47 : Cond.static yX10_feeling ∈ BIG := tb_in (i := 47) tb_c3 (by decide +kernel) rfl
theorem m_3_48 : Cond.code yX10_feeling cX10_feeling 2 (some .int) ∈ BIG := tb_in (i := 48) tb_c3 (rfl) rfl
theorem dn_X10_feeling : yX10_feeling.cls ≠ "java/lang/invoke/MethodHandle" ∧ yX10_feeling.cls ≠ "java/lang/invoke/VarHandle" ∧ (parseMethodDescriptor yX10_feeling.desc).map (fun d => d.parameters.length) = some 2 := by decide +kernel
theorem b_nb_RX2_107 : NB RX2 107 yX10_feeling RX10 (.code yX10_feeling cX10_feeling 2 (some .int)) 2 := ⟨⟨⟨by decide +kernel, all2 m_3_47 m_0_1⟩, m_3_48⟩, dn_X10_feeling⟩
theorem b_nb_RX5_104 : NB RX5 104 yX10_within RX10 (.code yX10_within cX10_within 3 (some .boolean)) 3 := ⟨⟨⟨by decide +kernel, all2 m_1_160 m_0_1⟩, m_1_161⟩, dn_X10_within⟩
theorem b_nb_RX7_25 : NB RX7 25 yX10_within RX10 (.code yX10_within cX10_within 3 (some .boolean)) 3 := ⟨⟨⟨by decide +kernel, all2 m_1_160 m_0_1⟩, m_1_161⟩, dn_X10_within⟩
theorem b_nb_RX7_29 : NB RX7 29 yX10_bit RX10 (.code yX10_bit cX10_bit 1 (some .int)) 1 := ⟨⟨⟨by decide +kernel, all2 m_1_186 m_0_1⟩, m_1_187⟩, dn_X10_bit⟩
theorem m_2_134 : Cond.methodLink RJ0 637 yJ1_indexOf_4cfef ∈ BIG := tb_in (i := 134) tb_c2 (by decide +kernel) rfl
theorem m_2_135 : Cond.static yJ1_indexOf_4cfef ∈ BIG := tb_in (i := 135) tb_c2 (by decide +kernel) rfl
theorem m_0_15 : Cond.initialized "java/lang/StringLatin1" ∈ BIG := tb_in (i := 15) tb_c0 (by decide +kernel) rfl
theorem m_2_136 : Cond.code yJ1_indexOf_4cfef cJ1_indexOf_4cfef 4 (some .int) ∈ BIG := tb_in (i := 136) tb_c2 (rfl) rfl
theorem dn_J1_indexOf_4cfef : yJ1_indexOf_4cfef.cls ≠ "java/lang/invoke/MethodHandle" ∧ yJ1_indexOf_4cfef.cls ≠ "java/lang/invoke/VarHandle" ∧ (parseMethodDescriptor yJ1_indexOf_4cfef.desc).map (fun d => d.parameters.length) = some 4 := by decide +kernel
theorem b_sb_RJ0_637 : SB RJ0 637 yJ1_indexOf_4cfef (.code yJ1_indexOf_4cfef cJ1_indexOf_4cfef 4 (some .int)) 4 := ⟨⟨all3 m_2_134 m_2_135 m_0_15, m_2_136⟩, dn_J1_indexOf_4cfef⟩
theorem m_2_137 : Cond.methodLink RJ1 88 yJ1_canEncode_9a6ad ∈ BIG := tb_in (i := 137) tb_c2 (by decide +kernel) rfl
theorem m_2_138 : Cond.static yJ1_canEncode_9a6ad ∈ BIG := tb_in (i := 138) tb_c2 (by decide +kernel) rfl
theorem m_2_139 : Cond.code yJ1_canEncode_9a6ad cJ1_canEncode_9a6ad 1 (some .boolean) ∈ BIG := tb_in (i := 139) tb_c2 (rfl) rfl
theorem dn_J1_canEncode_9a6ad : yJ1_canEncode_9a6ad.cls ≠ "java/lang/invoke/MethodHandle" ∧ yJ1_canEncode_9a6ad.cls ≠ "java/lang/invoke/VarHandle" ∧ (parseMethodDescriptor yJ1_canEncode_9a6ad.desc).map (fun d => d.parameters.length) = some 1 := by decide +kernel
theorem b_sb_RJ1_88 : SB RJ1 88 yJ1_canEncode_9a6ad (.code yJ1_canEncode_9a6ad cJ1_canEncode_9a6ad 1 (some .boolean)) 1 := ⟨⟨all3 m_2_137 m_2_138 m_0_15, m_2_139⟩, dn_J1_canEncode_9a6ad⟩
theorem m_2_142 : Cond.methodLink RJ1 95 yJ1_indexOfChar_4cfef ∈ BIG := tb_in (i := 142) tb_c2 (by decide +kernel) rfl
theorem m_2_143 : Cond.static yJ1_indexOfChar_4cfef ∈ BIG := tb_in (i := 143) tb_c2 (by decide +kernel) rfl
theorem m_2_144 : Cond.code yJ1_indexOfChar_4cfef cJ1_indexOfChar_4cfef 6 (some .int) ∈ BIG := tb_in (i := 144) tb_c2 (rfl) rfl
theorem dn_J1_indexOfChar_4cfef : yJ1_indexOfChar_4cfef.cls ≠ "java/lang/invoke/MethodHandle" ∧ yJ1_indexOfChar_4cfef.cls ≠ "java/lang/invoke/VarHandle" ∧ (parseMethodDescriptor yJ1_indexOfChar_4cfef.desc).map (fun d => d.parameters.length) = some 4 := by decide +kernel
theorem b_sb_RJ1_95 : SB RJ1 95 yJ1_indexOfChar_4cfef (.code yJ1_indexOfChar_4cfef cJ1_indexOfChar_4cfef 6 (some .int)) 4 := ⟨⟨all3 m_2_142 m_2_143 m_0_15, m_2_144⟩, dn_J1_indexOfChar_4cfef⟩
theorem m_1_215 : Cond.methodLink RX0 72 yX0_flowOf ∈ BIG := tb_in (i := 215) tb_c1 (by decide +kernel) rfl
theorem m_1_216 : Cond.static yX0_flowOf ∈ BIG := tb_in (i := 216) tb_c1 (by decide +kernel) rfl
theorem m_0_3 : Cond.initialized "WarmthShared$Block" ∈ BIG := tb_in (i := 3) tb_c0 (by decide +kernel) rfl
theorem m_1_217 : Cond.code yX0_flowOf cX0_flowOf 3 (some .int) ∈ BIG := tb_in (i := 217) tb_c1 (rfl) rfl
theorem dn_X0_flowOf : yX0_flowOf.cls ≠ "java/lang/invoke/MethodHandle" ∧ yX0_flowOf.cls ≠ "java/lang/invoke/VarHandle" ∧ (parseMethodDescriptor yX0_flowOf.desc).map (fun d => d.parameters.length) = some 3 := by decide +kernel
theorem b_sb_RX0_72 : SB RX0 72 yX0_flowOf (.code yX0_flowOf cX0_flowOf 3 (some .int)) 3 := ⟨⟨all3 m_1_215 m_1_216 m_0_3, m_1_217⟩, dn_X0_flowOf⟩
theorem m_1_185 : Cond.methodLink RX10 138 yX10_bit ∈ BIG := tb_in (i := 185) tb_c1 (by decide +kernel) rfl
theorem b_sb_RX10_138 : SB RX10 138 yX10_bit (.code yX10_bit cX10_bit 1 (some .int)) 1 := ⟨⟨all3 m_1_185 m_1_186 m_0_1, m_1_187⟩, dn_X10_bit⟩
theorem m_1_222 : Cond.methodLink RX10 169 yX10_isUnder ∈ BIG := tb_in (i := 222) tb_c1 (by decide +kernel) rfl
theorem m_1_223 : Cond.static yX10_isUnder ∈ BIG := tb_in (i := 223) tb_c1 (by decide +kernel) rfl
theorem m_1_224 : Cond.code yX10_isUnder cX10_isUnder 4 (some .boolean) ∈ BIG := tb_in (i := 224) tb_c1 (rfl) rfl
theorem dn_X10_isUnder : yX10_isUnder.cls ≠ "java/lang/invoke/MethodHandle" ∧ yX10_isUnder.cls ≠ "java/lang/invoke/VarHandle" ∧ (parseMethodDescriptor yX10_isUnder.desc).map (fun d => d.parameters.length) = some 2 := by decide +kernel
theorem b_sb_RX10_169 : SB RX10 169 yX10_isUnder (.code yX10_isUnder cX10_isUnder 4 (some .boolean)) 2 := ⟨⟨all3 m_1_222 m_1_223 m_0_1, m_1_224⟩, dn_X10_isUnder⟩
theorem m_3_42 : Cond.methodLink RX10 237 yX10_areBounds ∈ BIG := tb_in (i := 42) tb_c3 (by decide +kernel) rfl
theorem m_3_43 : Cond.static yX10_areBounds ∈ BIG := tb_in (i := 43) tb_c3 (by decide +kernel) rfl
theorem m_3_44 : Cond.code yX10_areBounds cX10_areBounds 1 (some .boolean) ∈ BIG := tb_in (i := 44) tb_c3 (rfl) rfl
theorem dn_X10_areBounds : yX10_areBounds.cls ≠ "java/lang/invoke/MethodHandle" ∧ yX10_areBounds.cls ≠ "java/lang/invoke/VarHandle" ∧ (parseMethodDescriptor yX10_areBounds.desc).map (fun d => d.parameters.length) = some 1 := by decide +kernel
theorem b_sb_RX10_237 : SB RX10 237 yX10_areBounds (.code yX10_areBounds cX10_areBounds 1 (some .boolean)) 1 := ⟨⟨all3 m_3_42 m_3_43 m_0_1, m_3_44⟩, dn_X10_areBounds⟩
theorem m_3_46 : Cond.methodLink RX10 240 yX10_feeling ∈ BIG := tb_in (i := 46) tb_c3 (by decide +kernel) rfl
theorem b_sb_RX10_240 : SB RX10 240 yX10_feeling (.code yX10_feeling cX10_feeling 2 (some .int)) 2 := ⟨⟨all3 m_3_46 m_3_47 m_0_1, m_3_48⟩, dn_X10_feeling⟩
theorem m_3_151 : Cond.methodLink RX10 279 yX10_isSheet ∈ BIG := tb_in (i := 151) tb_c3 (by decide +kernel) rfl
theorem m_3_152 : Cond.static yX10_isSheet ∈ BIG := tb_in (i := 152) tb_c3 (by decide +kernel) rfl
theorem m_3_153 : Cond.code yX10_isSheet cX10_isSheet 1 (some .boolean) ∈ BIG := tb_in (i := 153) tb_c3 (rfl) rfl
theorem dn_X10_isSheet : yX10_isSheet.cls ≠ "java/lang/invoke/MethodHandle" ∧ yX10_isSheet.cls ≠ "java/lang/invoke/VarHandle" ∧ (parseMethodDescriptor yX10_isSheet.desc).map (fun d => d.parameters.length) = some 1 := by decide +kernel
theorem b_sb_RX10_279 : SB RX10 279 yX10_isSheet (.code yX10_isSheet cX10_isSheet 1 (some .boolean)) 1 := ⟨⟨all3 m_3_151 m_3_152 m_0_1, m_3_153⟩, dn_X10_isSheet⟩
theorem m_3_168 : Cond.methodLink RX10 300 yX10_lowest ∈ BIG := tb_in (i := 168) tb_c3 (by decide +kernel) rfl
theorem m_3_169 : Cond.static yX10_lowest ∈ BIG := tb_in (i := 169) tb_c3 (by decide +kernel) rfl
theorem m_3_170 : Cond.code yX10_lowest cX10_lowest 3 (some .long) ∈ BIG := tb_in (i := 170) tb_c3 (rfl) rfl
theorem dn_X10_lowest : yX10_lowest.cls ≠ "java/lang/invoke/MethodHandle" ∧ yX10_lowest.cls ≠ "java/lang/invoke/VarHandle" ∧ (parseMethodDescriptor yX10_lowest.desc).map (fun d => d.parameters.length) = some 2 := by decide +kernel
theorem b_sb_RX10_300 : SB RX10 300 yX10_lowest (.code yX10_lowest cX10_lowest 3 (some .long)) 2 := ⟨⟨all3 m_3_168 m_3_169 m_0_1, m_3_170⟩, dn_X10_lowest⟩
theorem m_1_159 : Cond.methodLink RX10 90 yX10_within ∈ BIG := tb_in (i := 159) tb_c1 (by decide +kernel) rfl
theorem b_sb_RX10_90 : SB RX10 90 yX10_within (.code yX10_within cX10_within 3 (some .boolean)) 3 := ⟨⟨all3 m_1_159 m_1_160 m_0_1, m_1_161⟩, dn_X10_within⟩
theorem m_4_201 : Cond.methodLink RX11 148 yX11_isUnder ∈ BIG := tb_in (i := 201) tb_c4 (by decide +kernel) rfl
theorem m_4_202 : Cond.static yX11_isUnder ∈ BIG := tb_in (i := 202) tb_c4 (by decide +kernel) rfl
theorem m_0_12 : Cond.initialized "WarmthSharedModel" ∈ BIG := tb_in (i := 12) tb_c0 (by decide +kernel) rfl
theorem m_4_203 : Cond.code yX11_isUnder cX11_isUnder 2 (some .boolean) ∈ BIG := tb_in (i := 203) tb_c4 (rfl) rfl
theorem dn_X11_isUnder : yX11_isUnder.cls ≠ "java/lang/invoke/MethodHandle" ∧ yX11_isUnder.cls ≠ "java/lang/invoke/VarHandle" ∧ (parseMethodDescriptor yX11_isUnder.desc).map (fun d => d.parameters.length) = some 2 := by decide +kernel
theorem b_sb_RX11_148 : SB RX11 148 yX11_isUnder (.code yX11_isUnder cX11_isUnder 2 (some .boolean)) 2 := ⟨⟨all3 m_4_201 m_4_202 m_0_12, m_4_203⟩, dn_X11_isUnder⟩
theorem m_5_26 : Cond.methodLink RX11 177 yX11_isDigit ∈ BIG := tb_in (i := 26) tb_c5 (by decide +kernel) rfl
theorem m_5_27 : Cond.static yX11_isDigit ∈ BIG := tb_in (i := 27) tb_c5 (by decide +kernel) rfl
theorem m_5_28 : Cond.code yX11_isDigit cX11_isDigit 1 (some .boolean) ∈ BIG := tb_in (i := 28) tb_c5 (rfl) rfl
theorem dn_X11_isDigit : yX11_isDigit.cls ≠ "java/lang/invoke/MethodHandle" ∧ yX11_isDigit.cls ≠ "java/lang/invoke/VarHandle" ∧ (parseMethodDescriptor yX11_isDigit.desc).map (fun d => d.parameters.length) = some 1 := by decide +kernel
theorem b_sb_RX11_177 : SB RX11 177 yX11_isDigit (.code yX11_isDigit cX11_isDigit 1 (some .boolean)) 1 := ⟨⟨all3 m_5_26 m_5_27 m_0_12, m_5_28⟩, dn_X11_isDigit⟩
theorem m_5_33 : Cond.methodLink RX11 180 yX11_nameOf ∈ BIG := tb_in (i := 33) tb_c5 (by decide +kernel) rfl
theorem m_5_34 : Cond.static yX11_nameOf ∈ BIG := tb_in (i := 34) tb_c5 (by decide +kernel) rfl
theorem m_5_35 : Cond.code yX11_nameOf cX11_nameOf 1 (some .int) ∈ BIG := tb_in (i := 35) tb_c5 (rfl) rfl
theorem dn_X11_nameOf : yX11_nameOf.cls ≠ "java/lang/invoke/MethodHandle" ∧ yX11_nameOf.cls ≠ "java/lang/invoke/VarHandle" ∧ (parseMethodDescriptor yX11_nameOf.desc).map (fun d => d.parameters.length) = some 1 := by decide +kernel
theorem b_sb_RX11_180 : SB RX11 180 yX11_nameOf (.code yX11_nameOf cX11_nameOf 1 (some .int)) 1 := ⟨⟨all3 m_5_33 m_5_34 m_0_12, m_5_35⟩, dn_X11_nameOf⟩
theorem m_5_72 : Cond.methodLink RX11 208 yX11_done ∈ BIG := tb_in (i := 72) tb_c5 (by decide +kernel) rfl
theorem m_5_73 : Cond.static yX11_done ∈ BIG := tb_in (i := 73) tb_c5 (by decide +kernel) rfl
theorem m_5_74 : Cond.code yX11_done cX11_done 3 (some .int) ∈ BIG := tb_in (i := 74) tb_c5 (rfl) rfl
theorem dn_X11_done : yX11_done.cls ≠ "java/lang/invoke/MethodHandle" ∧ yX11_done.cls ≠ "java/lang/invoke/VarHandle" ∧ (parseMethodDescriptor yX11_done.desc).map (fun d => d.parameters.length) = some 3 := by decide +kernel
theorem b_sb_RX11_208 : SB RX11 208 yX11_done (.code yX11_done cX11_done 3 (some .int)) 3 := ⟨⟨all3 m_5_72 m_5_73 m_0_12, m_5_74⟩, dn_X11_done⟩
theorem m_5_76 : Cond.methodLink RX11 215 yX11_within ∈ BIG := tb_in (i := 76) tb_c5 (by decide +kernel) rfl
theorem m_5_77 : Cond.static yX11_within ∈ BIG := tb_in (i := 77) tb_c5 (by decide +kernel) rfl
theorem m_5_78 : Cond.code yX11_within cX11_within 3 (some .int) ∈ BIG := tb_in (i := 78) tb_c5 (rfl) rfl
theorem dn_X11_within : yX11_within.cls ≠ "java/lang/invoke/MethodHandle" ∧ yX11_within.cls ≠ "java/lang/invoke/VarHandle" ∧ (parseMethodDescriptor yX11_within.desc).map (fun d => d.parameters.length) = some 3 := by decide +kernel
theorem b_sb_RX11_215 : SB RX11 215 yX11_within (.code yX11_within cX11_within 3 (some .int)) 3 := ⟨⟨all3 m_5_76 m_5_77 m_0_12, m_5_78⟩, dn_X11_within⟩
theorem m_5_108 : Cond.methodLink RX11 233 yX11_areBounds ∈ BIG := tb_in (i := 108) tb_c5 (by decide +kernel) rfl
theorem m_5_109 : Cond.static yX11_areBounds ∈ BIG := tb_in (i := 109) tb_c5 (by decide +kernel) rfl
theorem m_5_110 : Cond.code yX11_areBounds cX11_areBounds 1 (some .boolean) ∈ BIG := tb_in (i := 110) tb_c5 (rfl) rfl
theorem dn_X11_areBounds : yX11_areBounds.cls ≠ "java/lang/invoke/MethodHandle" ∧ yX11_areBounds.cls ≠ "java/lang/invoke/VarHandle" ∧ (parseMethodDescriptor yX11_areBounds.desc).map (fun d => d.parameters.length) = some 1 := by decide +kernel
theorem b_sb_RX11_233 : SB RX11 233 yX11_areBounds (.code yX11_areBounds cX11_areBounds 1 (some .boolean)) 1 := ⟨⟨all3 m_5_108 m_5_109 m_0_12, m_5_110⟩, dn_X11_areBounds⟩
theorem m_5_184 : Cond.methodLink RX11 283 yX11_areNear ∈ BIG := tb_in (i := 184) tb_c5 (by decide +kernel) rfl
theorem m_5_185 : Cond.static yX11_areNear ∈ BIG := tb_in (i := 185) tb_c5 (by decide +kernel) rfl
theorem m_5_186 : Cond.code yX11_areNear cX11_areNear 3 (some .boolean) ∈ BIG := tb_in (i := 186) tb_c5 (rfl) rfl
theorem dn_X11_areNear : yX11_areNear.cls ≠ "java/lang/invoke/MethodHandle" ∧ yX11_areNear.cls ≠ "java/lang/invoke/VarHandle" ∧ (parseMethodDescriptor yX11_areNear.desc).map (fun d => d.parameters.length) = some 3 := by decide +kernel
theorem b_sb_RX11_283 : SB RX11 283 yX11_areNear (.code yX11_areNear cX11_areNear 3 (some .boolean)) 3 := ⟨⟨all3 m_5_184 m_5_185 m_0_12, m_5_186⟩, dn_X11_areNear⟩
theorem m_5_199 : Cond.methodLink RX11 295 yX11_isSheet ∈ BIG := tb_in (i := 199) tb_c5 (by decide +kernel) rfl
theorem m_5_200 : Cond.static yX11_isSheet ∈ BIG := tb_in (i := 200) tb_c5 (by decide +kernel) rfl
theorem m_5_201 : Cond.code yX11_isSheet cX11_isSheet 1 (some .boolean) ∈ BIG := tb_in (i := 201) tb_c5 (rfl) rfl
theorem dn_X11_isSheet : yX11_isSheet.cls ≠ "java/lang/invoke/MethodHandle" ∧ yX11_isSheet.cls ≠ "java/lang/invoke/VarHandle" ∧ (parseMethodDescriptor yX11_isSheet.desc).map (fun d => d.parameters.length) = some 1 := by decide +kernel
theorem b_sb_RX11_295 : SB RX11 295 yX11_isSheet (.code yX11_isSheet cX11_isSheet 1 (some .boolean)) 1 := ⟨⟨all3 m_5_199 m_5_200 m_0_12, m_5_201⟩, dn_X11_isSheet⟩
theorem m_4_144 : Cond.methodLink RX11 97 yX11_in ∈ BIG := tb_in (i := 144) tb_c4 (by decide +kernel) rfl
theorem m_4_145 : Cond.static yX11_in ∈ BIG := tb_in (i := 145) tb_c4 (by decide +kernel) rfl
theorem m_4_146 : Cond.code yX11_in cX11_in 3 (some .boolean) ∈ BIG := tb_in (i := 146) tb_c4 (rfl) rfl
theorem dn_X11_in : yX11_in.cls ≠ "java/lang/invoke/MethodHandle" ∧ yX11_in.cls ≠ "java/lang/invoke/VarHandle" ∧ (parseMethodDescriptor yX11_in.desc).map (fun d => d.parameters.length) = some 3 := by decide +kernel
theorem b_sb_RX11_97 : SB RX11 97 yX11_in (.code yX11_in cX11_in 3 (some .boolean)) 3 := ⟨⟨all3 m_4_144 m_4_145 m_0_12, m_4_146⟩, dn_X11_in⟩
theorem m_2_38 : Cond.methodLink RX2 95 yX0_flowOf ∈ BIG := tb_in (i := 38) tb_c2 (by decide +kernel) rfl
theorem b_sb_RX2_95 : SB RX2 95 yX0_flowOf (.code yX0_flowOf cX0_flowOf 3 (some .int)) 3 := ⟨⟨all3 m_2_38 m_1_216 m_0_3, m_1_217⟩, dn_X0_flowOf⟩
theorem m_2_195 : Cond.methodLink RX5 80 yX5_quotient ∈ BIG := tb_in (i := 195) tb_c2 (by decide +kernel) rfl
theorem m_2_196 : Cond.static yX5_quotient ∈ BIG := tb_in (i := 196) tb_c2 (by decide +kernel) rfl
theorem m_0_7 : Cond.initialized "WarmthShared$RuleReader" ∈ BIG := tb_in (i := 7) tb_c0 (by decide +kernel) rfl
theorem m_2_197 : Cond.code yX5_quotient cX5_quotient 2 (some .int) ∈ BIG := tb_in (i := 197) tb_c2 (rfl) rfl
theorem dn_X5_quotient : yX5_quotient.cls ≠ "java/lang/invoke/MethodHandle" ∧ yX5_quotient.cls ≠ "java/lang/invoke/VarHandle" ∧ (parseMethodDescriptor yX5_quotient.desc).map (fun d => d.parameters.length) = some 2 := by decide +kernel
theorem b_sb_RX5_80 : SB RX5 80 yX5_quotient (.code yX5_quotient cX5_quotient 2 (some .int)) 2 := ⟨⟨all3 m_2_195 m_2_196 m_0_7, m_2_197⟩, dn_X5_quotient⟩
theorem m_2_88 : Cond.methodLink RX5 84 yX5_isDigit ∈ BIG := tb_in (i := 88) tb_c2 (by decide +kernel) rfl
theorem m_2_89 : Cond.static yX5_isDigit ∈ BIG := tb_in (i := 89) tb_c2 (by decide +kernel) rfl
theorem m_2_90 : Cond.code yX5_isDigit cX5_isDigit 1 (some .boolean) ∈ BIG := tb_in (i := 90) tb_c2 (rfl) rfl
theorem dn_X5_isDigit : yX5_isDigit.cls ≠ "java/lang/invoke/MethodHandle" ∧ yX5_isDigit.cls ≠ "java/lang/invoke/VarHandle" ∧ (parseMethodDescriptor yX5_isDigit.desc).map (fun d => d.parameters.length) = some 1 := by decide +kernel
theorem b_sb_RX5_84 : SB RX5 84 yX5_isDigit (.code yX5_isDigit cX5_isDigit 1 (some .boolean)) 1 := ⟨⟨all3 m_2_88 m_2_89 m_0_7, m_2_90⟩, dn_X5_isDigit⟩
theorem m_6_15 : Cond.fieldLink RJ0 15 "java/lang/String" "coder" "B" ∈ BIG := tb_in (i := 15) tb_c6 (by decide +kernel) rfl
theorem b_sf_RJ0_15 : Cond.fieldLink RJ0 15 "java/lang/String" "coder" "B" ∈ BIG := m_6_15
theorem m_2_124 : Cond.fieldLink RJ0 38 "java/lang/String" "COMPACT_STRINGS" "Z" ∈ BIG := tb_in (i := 124) tb_c2 (by decide +kernel) rfl
theorem b_sf_RJ0_38 : Cond.fieldLink RJ0 38 "java/lang/String" "COMPACT_STRINGS" "Z" ∈ BIG := m_2_124
theorem m_6_16 : Cond.fieldLink RJ0 9 "java/lang/String" "value" "[B" ∈ BIG := tb_in (i := 16) tb_c6 (by decide +kernel) rfl
theorem b_sf_RJ0_9 : Cond.fieldLink RJ0 9 "java/lang/String" "value" "[B" ∈ BIG := m_6_16
theorem m_1_225 : Cond.fieldLink RX10 347 "WarmthShared" "UNDER" "[I" ∈ BIG := tb_in (i := 225) tb_c1 (by decide +kernel) rfl
theorem b_sf_RX10_347 : Cond.fieldLink RX10 347 RX10 "UNDER" "[I" ∈ BIG := m_1_225
theorem m_2_130 : Cond.methodLink RJ0 335 yJ0_coder_7d493 ∈ BIG := tb_in (i := 130) tb_c2 (by decide +kernel) rfl
theorem m_2_131 : Cond.instanceMethod yJ0_coder_7d493 ∈ BIG := tb_in (i := 131) tb_c2 (by decide +kernel) rfl
theorem m_2_132 : Cond.selects yJ0_coder_7d493.cls yJ0_coder_7d493 yJ0_coder_7d493 ∈ BIG := tb_in (i := 132) tb_c2 (by decide +kernel) rfl
theorem m_0_14 : Cond.initialized "java/lang/String" ∈ BIG := tb_in (i := 14) tb_c0 (by decide +kernel) rfl
theorem m_2_133 : Cond.code yJ0_coder_7d493 cJ0_coder_7d493 1 (some .byte) ∈ BIG := tb_in (i := 133) tb_c2 (rfl) rfl
theorem dn_J0_coder_7d493 : yJ0_coder_7d493.cls ≠ "java/lang/invoke/MethodHandle" ∧ yJ0_coder_7d493.cls ≠ "java/lang/invoke/VarHandle" ∧ (parseMethodDescriptor yJ0_coder_7d493.desc).map (fun d => d.parameters.length) = some 0 := by decide +kernel
theorem b_vb_RJ0_335 : VB RJ0 335 "java/lang/String" yJ0_coder_7d493 (.code yJ0_coder_7d493 cJ0_coder_7d493 1 (some .byte)) 0 := ⟨⟨all4 m_2_130 m_2_131 m_2_132 m_0_14, m_2_133⟩, rfl, dn_J0_coder_7d493⟩
theorem m_2_120 : Cond.methodLink RJ0 492 yJ0_isLatin1_aae02 ∈ BIG := tb_in (i := 120) tb_c2 (by decide +kernel) rfl
theorem m_2_121 : Cond.instanceMethod yJ0_isLatin1_aae02 ∈ BIG := tb_in (i := 121) tb_c2 (by decide +kernel) rfl
theorem m_2_122 : Cond.selects yJ0_isLatin1_aae02.cls yJ0_isLatin1_aae02 yJ0_isLatin1_aae02 ∈ BIG := tb_in (i := 122) tb_c2 (by decide +kernel) rfl
theorem m_2_123 : Cond.code yJ0_isLatin1_aae02 cJ0_isLatin1_aae02 1 (some .boolean) ∈ BIG := tb_in (i := 123) tb_c2 (rfl) rfl
theorem dn_J0_isLatin1_aae02 : yJ0_isLatin1_aae02.cls ≠ "java/lang/invoke/MethodHandle" ∧ yJ0_isLatin1_aae02.cls ≠ "java/lang/invoke/VarHandle" ∧ (parseMethodDescriptor yJ0_isLatin1_aae02.desc).map (fun d => d.parameters.length) = some 0 := by decide +kernel
theorem b_vb_RJ0_492 : VB RJ0 492 "java/lang/String" yJ0_isLatin1_aae02 (.code yJ0_isLatin1_aae02 cJ0_isLatin1_aae02 1 (some .boolean)) 0 := ⟨⟨all4 m_2_120 m_2_121 m_2_122 m_0_14, m_2_123⟩, rfl, dn_J0_isLatin1_aae02⟩
theorem m_2_126 : Cond.methodLink RJ0 505 yJ0_length_8abf5 ∈ BIG := tb_in (i := 126) tb_c2 (by decide +kernel) rfl
theorem m_2_127 : Cond.instanceMethod yJ0_length_8abf5 ∈ BIG := tb_in (i := 127) tb_c2 (by decide +kernel) rfl
theorem m_2_128 : Cond.selects yJ0_length_8abf5.cls yJ0_length_8abf5 yJ0_length_8abf5 ∈ BIG := tb_in (i := 128) tb_c2 (by decide +kernel) rfl
theorem m_2_129 : Cond.code yJ0_length_8abf5 cJ0_length_8abf5 1 (some .int) ∈ BIG := tb_in (i := 129) tb_c2 (rfl) rfl
theorem dn_J0_length_8abf5 : yJ0_length_8abf5.cls ≠ "java/lang/invoke/MethodHandle" ∧ yJ0_length_8abf5.cls ≠ "java/lang/invoke/VarHandle" ∧ (parseMethodDescriptor yJ0_length_8abf5.desc).map (fun d => d.parameters.length) = some 0 := by decide +kernel
theorem b_vb_RJ0_505 : VB RJ0 505 "java/lang/String" yJ0_length_8abf5 (.code yJ0_length_8abf5 cJ0_length_8abf5 1 (some .int)) 0 := ⟨⟨all4 m_2_126 m_2_127 m_2_128 m_0_14, m_2_129⟩, rfl, dn_J0_length_8abf5⟩
theorem m_2_116 : Cond.methodLink RJ0 633 yJ0_indexOf_7cf53 ∈ BIG := tb_in (i := 116) tb_c2 (by decide +kernel) rfl
theorem m_2_117 : Cond.instanceMethod yJ0_indexOf_7cf53 ∈ BIG := tb_in (i := 117) tb_c2 (by decide +kernel) rfl
theorem m_2_118 : Cond.selects yJ0_indexOf_7cf53.cls yJ0_indexOf_7cf53 yJ0_indexOf_7cf53 ∈ BIG := tb_in (i := 118) tb_c2 (by decide +kernel) rfl
theorem m_2_119 : Cond.code yJ0_indexOf_7cf53 cJ0_indexOf_7cf53 3 (some .int) ∈ BIG := tb_in (i := 119) tb_c2 (rfl) rfl
theorem dn_J0_indexOf_7cf53 : yJ0_indexOf_7cf53.cls ≠ "java/lang/invoke/MethodHandle" ∧ yJ0_indexOf_7cf53.cls ≠ "java/lang/invoke/VarHandle" ∧ (parseMethodDescriptor yJ0_indexOf_7cf53.desc).map (fun d => d.parameters.length) = some 2 := by decide +kernel
theorem b_vb_RJ0_633 : VB RJ0 633 "java/lang/String" yJ0_indexOf_7cf53 (.code yJ0_indexOf_7cf53 cJ0_indexOf_7cf53 3 (some .int)) 2 := ⟨⟨all4 m_2_116 m_2_117 m_2_118 m_0_14, m_2_119⟩, rfl, dn_J0_indexOf_7cf53⟩
theorem m_3_239 : Cond.methodLink RX0 112 yX0_flow ∈ BIG := tb_in (i := 239) tb_c3 (by decide +kernel) rfl
theorem m_1_204 : Cond.instanceMethod yX0_flow ∈ BIG := tb_in (i := 204) tb_c1 (by decide +kernel) rfl
theorem m_1_205 : Cond.selects yX0_flow.cls yX0_flow yX0_flow ∈ BIG := tb_in (i := 205) tb_c1 (by decide +kernel) rfl
theorem m_1_206 : Cond.code yX0_flow cX0_flow 4 (some .int) ∈ BIG := tb_in (i := 206) tb_c1 (rfl) rfl
theorem dn_X0_flow : yX0_flow.cls ≠ "java/lang/invoke/MethodHandle" ∧ yX0_flow.cls ≠ "java/lang/invoke/VarHandle" ∧ (parseMethodDescriptor yX0_flow.desc).map (fun d => d.parameters.length) = some 1 := by decide +kernel
theorem b_vb_RX0_112 : VB RX0 112 RX0 yX0_flow (.code yX0_flow cX0_flow 4 (some .int)) 1 := ⟨⟨all4 m_3_239 m_1_204 m_1_205 m_0_3, m_1_206⟩, rfl, dn_X0_flow⟩
theorem m_3_204 : Cond.methodLink RX0 38 yX4_become ∈ BIG := tb_in (i := 204) tb_c3 (by decide +kernel) rfl
theorem m_3_205 : Cond.instanceMethod yX4_become ∈ BIG := tb_in (i := 205) tb_c3 (by decide +kernel) rfl
theorem m_3_206 : Cond.selects yX4_become.cls yX4_become yX4_become ∈ BIG := tb_in (i := 206) tb_c3 (by decide +kernel) rfl
theorem m_0_4 : Cond.initialized "WarmthShared$Flat" ∈ BIG := tb_in (i := 4) tb_c0 (by decide +kernel) rfl
theorem m_3_207 : Cond.code yX4_become cX4_become 2 none ∈ BIG := tb_in (i := 207) tb_c3 (rfl) rfl
theorem dn_X4_become : yX4_become.cls ≠ "java/lang/invoke/MethodHandle" ∧ yX4_become.cls ≠ "java/lang/invoke/VarHandle" ∧ (parseMethodDescriptor yX4_become.desc).map (fun d => d.parameters.length) = some 1 := by decide +kernel
theorem b_vb_RX0_38 : VB RX0 38 RX4 yX4_become (.code yX4_become cX4_become 2 none) 1 := ⟨⟨all4 m_3_204 m_3_205 m_3_206 m_0_4, m_3_207⟩, rfl, dn_X4_become⟩
theorem m_1_172 : Cond.methodLink RX0 46 yX4_becomeNew ∈ BIG := tb_in (i := 172) tb_c1 (by decide +kernel) rfl
theorem m_1_173 : Cond.instanceMethod yX4_becomeNew ∈ BIG := tb_in (i := 173) tb_c1 (by decide +kernel) rfl
theorem m_1_174 : Cond.selects yX4_becomeNew.cls yX4_becomeNew yX4_becomeNew ∈ BIG := tb_in (i := 174) tb_c1 (by decide +kernel) rfl
theorem m_1_175 : Cond.code yX4_becomeNew cX4_becomeNew 5 none ∈ BIG := tb_in (i := 175) tb_c1 (rfl) rfl
theorem dn_X4_becomeNew : yX4_becomeNew.cls ≠ "java/lang/invoke/MethodHandle" ∧ yX4_becomeNew.cls ≠ "java/lang/invoke/VarHandle" ∧ (parseMethodDescriptor yX4_becomeNew.desc).map (fun d => d.parameters.length) = some 4 := by decide +kernel
theorem b_vb_RX0_46 : VB RX0 46 RX4 yX4_becomeNew (.code yX4_becomeNew cX4_becomeNew 5 none) 4 := ⟨⟨all4 m_1_172 m_1_173 m_1_174 m_0_4, m_1_175⟩, rfl, dn_X4_becomeNew⟩
theorem m_1_211 : Cond.methodLink RX0 56 yX4_takes ∈ BIG := tb_in (i := 211) tb_c1 (by decide +kernel) rfl
theorem m_1_197 : Cond.instanceMethod yX4_takes ∈ BIG := tb_in (i := 197) tb_c1 (by decide +kernel) rfl
theorem m_1_198 : Cond.selects yX4_takes.cls yX4_takes yX4_takes ∈ BIG := tb_in (i := 198) tb_c1 (by decide +kernel) rfl
theorem m_1_199 : Cond.code yX4_takes cX4_takes 3 (some .int) ∈ BIG := tb_in (i := 199) tb_c1 (rfl) rfl
theorem dn_X4_takes : yX4_takes.cls ≠ "java/lang/invoke/MethodHandle" ∧ yX4_takes.cls ≠ "java/lang/invoke/VarHandle" ∧ (parseMethodDescriptor yX4_takes.desc).map (fun d => d.parameters.length) = some 1 := by decide +kernel
theorem b_vb_RX0_56 : VB RX0 56 RX4 yX4_takes (.code yX4_takes cX4_takes 3 (some .int)) 1 := ⟨⟨all4 m_1_211 m_1_197 m_1_198 m_0_4, m_1_199⟩, rfl, dn_X4_takes⟩
theorem m_1_207 : Cond.methodLink RX0 69 yX0_weight ∈ BIG := tb_in (i := 207) tb_c1 (by decide +kernel) rfl
theorem m_1_208 : Cond.instanceMethod yX0_weight ∈ BIG := tb_in (i := 208) tb_c1 (by decide +kernel) rfl
theorem m_1_209 : Cond.selects yX0_weight.cls yX0_weight yX0_weight ∈ BIG := tb_in (i := 209) tb_c1 (by decide +kernel) rfl
theorem m_1_210 : Cond.code yX0_weight cX0_weight 5 (some .int) ∈ BIG := tb_in (i := 210) tb_c1 (rfl) rfl
theorem dn_X0_weight : yX0_weight.cls ≠ "java/lang/invoke/MethodHandle" ∧ yX0_weight.cls ≠ "java/lang/invoke/VarHandle" ∧ (parseMethodDescriptor yX0_weight.desc).map (fun d => d.parameters.length) = some 2 := by decide +kernel
theorem b_vb_RX0_69 : VB RX0 69 RX0 yX0_weight (.code yX0_weight cX0_weight 5 (some .int)) 2 := ⟨⟨all4 m_1_207 m_1_208 m_1_209 m_0_3, m_1_210⟩, rfl, dn_X0_weight⟩
theorem m_2_43 : Cond.methodLink RX0 76 yX2_goHour ∈ BIG := tb_in (i := 43) tb_c2 (by decide +kernel) rfl
theorem m_2_44 : Cond.instanceMethod yX2_goHour ∈ BIG := tb_in (i := 44) tb_c2 (by decide +kernel) rfl
theorem m_2_45 : Cond.selects yX2_goHour.cls yX2_goHour yX2_goHour ∈ BIG := tb_in (i := 45) tb_c2 (by decide +kernel) rfl
theorem m_0_9 : Cond.initialized "WarmthShared$Course" ∈ BIG := tb_in (i := 9) tb_c0 (by decide +kernel) rfl
theorem m_2_46 : Cond.code yX2_goHour cX2_goHour 5 none ∈ BIG := tb_in (i := 46) tb_c2 (rfl) rfl
theorem dn_X2_goHour : yX2_goHour.cls ≠ "java/lang/invoke/MethodHandle" ∧ yX2_goHour.cls ≠ "java/lang/invoke/VarHandle" ∧ (parseMethodDescriptor yX2_goHour.desc).map (fun d => d.parameters.length) = some 0 := by decide +kernel
theorem b_vb_RX0_76 : VB RX0 76 RX2 yX2_goHour (.code yX2_goHour cX2_goHour 5 none) 0 := ⟨⟨all4 m_2_43 m_2_44 m_2_45 m_0_9, m_2_46⟩, rfl, dn_X2_goHour⟩
theorem m_3_120 : Cond.methodLink RX1 33 yX1_isNear ∈ BIG := tb_in (i := 120) tb_c3 (by decide +kernel) rfl
theorem m_3_122 : Cond.instanceMethod yX1_isNear ∈ BIG := tb_in (i := 122) tb_c3 (by decide +kernel) rfl
theorem s_X1_isNear : Cond.selects yX1_isNear.cls yX1_isNear yX1_isNear ∈ BIG := sel_in (n := 5) (i := 21) (by decide +kernel)
theorem m_0_6 : Cond.initialized "WarmthShared$Complaints" ∈ BIG := tb_in (i := 6) tb_c0 (by decide +kernel) rfl
theorem m_3_123 : Cond.code yX1_isNear cX1_isNear 4 (some .boolean) ∈ BIG := tb_in (i := 123) tb_c3 (rfl) rfl
theorem dn_X1_isNear : yX1_isNear.cls ≠ "java/lang/invoke/MethodHandle" ∧ yX1_isNear.cls ≠ "java/lang/invoke/VarHandle" ∧ (parseMethodDescriptor yX1_isNear.desc).map (fun d => d.parameters.length) = some 3 := by decide +kernel
theorem b_vb_RX1_33 : VB RX1 33 RX1 yX1_isNear (.code yX1_isNear cX1_isNear 4 (some .boolean)) 3 := ⟨⟨all4 m_3_120 m_3_122 s_X1_isNear m_0_6, m_3_123⟩, rfl, dn_X1_isNear⟩
theorem m_3_126 : Cond.methodLink RX1 37 yX1_merge ∈ BIG := tb_in (i := 126) tb_c3 (by decide +kernel) rfl
theorem m_3_128 : Cond.instanceMethod yX1_merge ∈ BIG := tb_in (i := 128) tb_c3 (by decide +kernel) rfl
theorem s_X1_merge : Cond.selects yX1_merge.cls yX1_merge yX1_merge ∈ BIG := sel_in (n := 5) (i := 22) (by decide +kernel)
theorem m_3_129 : Cond.code yX1_merge cX1_merge 5 none ∈ BIG := tb_in (i := 129) tb_c3 (rfl) rfl
theorem dn_X1_merge : yX1_merge.cls ≠ "java/lang/invoke/MethodHandle" ∧ yX1_merge.cls ≠ "java/lang/invoke/VarHandle" ∧ (parseMethodDescriptor yX1_merge.desc).map (fun d => d.parameters.length) = some 2 := by decide +kernel
theorem b_vb_RX1_37 : VB RX1 37 RX1 yX1_merge (.code yX1_merge cX1_merge 5 none) 2 := ⟨⟨all4 m_3_126 m_3_128 s_X1_merge m_0_6, m_3_129⟩, rfl, dn_X1_merge⟩
theorem m_3_125 : Cond.methodLink RX1 51 yX4_isRightAboveOrBelow ∈ BIG := tb_in (i := 125) tb_c3 (by decide +kernel) rfl
theorem m_2_20 : Cond.instanceMethod yX4_isRightAboveOrBelow ∈ BIG := tb_in (i := 20) tb_c2 (by decide +kernel) rfl
theorem m_2_21 : Cond.selects yX4_isRightAboveOrBelow.cls yX4_isRightAboveOrBelow yX4_isRightAboveOrBelow ∈ BIG := tb_in (i := 21) tb_c2 (by decide +kernel) rfl
theorem m_2_22 : Cond.code yX4_isRightAboveOrBelow cX4_isRightAboveOrBelow 2 (some .boolean) ∈ BIG := tb_in (i := 22) tb_c2 (rfl) rfl
theorem dn_X4_isRightAboveOrBelow : yX4_isRightAboveOrBelow.cls ≠ "java/lang/invoke/MethodHandle" ∧ yX4_isRightAboveOrBelow.cls ≠ "java/lang/invoke/VarHandle" ∧ (parseMethodDescriptor yX4_isRightAboveOrBelow.desc).map (fun d => d.parameters.length) = some 1 := by decide +kernel
theorem b_vb_RX1_51 : VB RX1 51 RX4 yX4_isRightAboveOrBelow (.code yX4_isRightAboveOrBelow cX4_isRightAboveOrBelow 2 (some .boolean)) 1 := ⟨⟨all4 m_3_125 m_2_20 m_2_21 m_0_4, m_2_22⟩, rfl, dn_X4_isRightAboveOrBelow⟩
theorem m_1_168 : Cond.methodLink RX10 106 yX0_add ∈ BIG := tb_in (i := 168) tb_c1 (by decide +kernel) rfl
theorem m_1_169 : Cond.instanceMethod yX0_add ∈ BIG := tb_in (i := 169) tb_c1 (by decide +kernel) rfl
theorem m_1_170 : Cond.selects yX0_add.cls yX0_add yX0_add ∈ BIG := tb_in (i := 170) tb_c1 (by decide +kernel) rfl
theorem m_1_171 : Cond.code yX0_add cX0_add 4 (some .int) ∈ BIG := tb_in (i := 171) tb_c1 (rfl) rfl
theorem dn_X0_add : yX0_add.cls ≠ "java/lang/invoke/MethodHandle" ∧ yX0_add.cls ≠ "java/lang/invoke/VarHandle" ∧ (parseMethodDescriptor yX0_add.desc).map (fun d => d.parameters.length) = some 3 := by decide +kernel
theorem b_vb_RX10_106 : VB RX10 106 RX0 yX0_add (.code yX0_add cX0_add 4 (some .int)) 3 := ⟨⟨all4 m_1_168 m_1_169 m_1_170 m_0_3, m_1_171⟩, rfl, dn_X0_add⟩
theorem m_1_180 : Cond.methodLink RX10 110 yX0_has ∈ BIG := tb_in (i := 180) tb_c1 (by decide +kernel) rfl
theorem m_1_181 : Cond.instanceMethod yX0_has ∈ BIG := tb_in (i := 181) tb_c1 (by decide +kernel) rfl
theorem m_1_182 : Cond.selects yX0_has.cls yX0_has yX0_has ∈ BIG := tb_in (i := 182) tb_c1 (by decide +kernel) rfl
theorem m_1_183 : Cond.code yX0_has cX0_has 2 (some .boolean) ∈ BIG := tb_in (i := 183) tb_c1 (rfl) rfl
theorem dn_X0_has : yX0_has.cls ≠ "java/lang/invoke/MethodHandle" ∧ yX0_has.cls ≠ "java/lang/invoke/VarHandle" ∧ (parseMethodDescriptor yX0_has.desc).map (fun d => d.parameters.length) = some 1 := by decide +kernel
theorem b_vb_RX10_110 : VB RX10 110 RX0 yX0_has (.code yX0_has cX0_has 2 (some .boolean)) 1 := ⟨⟨all4 m_1_180 m_1_181 m_1_182 m_0_3, m_1_183⟩, rfl, dn_X0_has⟩
theorem m_1_188 : Cond.methodLink RX10 148 yX4_leaks ∈ BIG := tb_in (i := 188) tb_c1 (by decide +kernel) rfl
theorem m_1_189 : Cond.instanceMethod yX4_leaks ∈ BIG := tb_in (i := 189) tb_c1 (by decide +kernel) rfl
theorem m_1_190 : Cond.selects yX4_leaks.cls yX4_leaks yX4_leaks ∈ BIG := tb_in (i := 190) tb_c1 (by decide +kernel) rfl
theorem m_1_191 : Cond.code yX4_leaks cX4_leaks 2 (some .int) ∈ BIG := tb_in (i := 191) tb_c1 (rfl) rfl
theorem dn_X4_leaks : yX4_leaks.cls ≠ "java/lang/invoke/MethodHandle" ∧ yX4_leaks.cls ≠ "java/lang/invoke/VarHandle" ∧ (parseMethodDescriptor yX4_leaks.desc).map (fun d => d.parameters.length) = some 1 := by decide +kernel
theorem b_vb_RX10_148 : VB RX10 148 RX4 yX4_leaks (.code yX4_leaks cX4_leaks 2 (some .int)) 1 := ⟨⟨all4 m_1_188 m_1_189 m_1_190 m_0_4, m_1_191⟩, rfl, dn_X4_leaks⟩
theorem m_1_196 : Cond.methodLink RX10 151 yX4_takes ∈ BIG := tb_in (i := 196) tb_c1 (by decide +kernel) rfl
theorem b_vb_RX10_151 : VB RX10 151 RX4 yX4_takes (.code yX4_takes cX4_takes 3 (some .int)) 1 := ⟨⟨all4 m_1_196 m_1_197 m_1_198 m_0_4, m_1_199⟩, rfl, dn_X4_takes⟩
theorem m_1_203 : Cond.methodLink RX10 154 yX0_flow ∈ BIG := tb_in (i := 203) tb_c1 (by decide +kernel) rfl
theorem b_vb_RX10_154 : VB RX10 154 RX0 yX0_flow (.code yX0_flow cX0_flow 4 (some .int)) 1 := ⟨⟨all4 m_1_203 m_1_204 m_1_205 m_0_3, m_1_206⟩, rfl, dn_X0_flow⟩
theorem m_2_13 : Cond.methodLink RX10 187 yX2_begin ∈ BIG := tb_in (i := 13) tb_c2 (by decide +kernel) rfl
theorem m_2_14 : Cond.instanceMethod yX2_begin ∈ BIG := tb_in (i := 14) tb_c2 (by decide +kernel) rfl
theorem m_2_15 : Cond.selects yX2_begin.cls yX2_begin yX2_begin ∈ BIG := tb_in (i := 15) tb_c2 (by decide +kernel) rfl
theorem m_2_16 : Cond.code yX2_begin cX2_begin 5 none ∈ BIG := tb_in (i := 16) tb_c2 (rfl) rfl
theorem dn_X2_begin : yX2_begin.cls ≠ "java/lang/invoke/MethodHandle" ∧ yX2_begin.cls ≠ "java/lang/invoke/VarHandle" ∧ (parseMethodDescriptor yX2_begin.desc).map (fun d => d.parameters.length) = some 1 := by decide +kernel
theorem b_vb_RX10_187 : VB RX10 187 RX2 yX2_begin (.code yX2_begin cX2_begin 5 none) 1 := ⟨⟨all4 m_2_13 m_2_14 m_2_15 m_0_9, m_2_16⟩, rfl, dn_X2_begin⟩
theorem m_2_39 : Cond.methodLink RX10 191 yX0_live ∈ BIG := tb_in (i := 39) tb_c2 (by decide +kernel) rfl
theorem m_2_40 : Cond.instanceMethod yX0_live ∈ BIG := tb_in (i := 40) tb_c2 (by decide +kernel) rfl
theorem m_2_41 : Cond.selects yX0_live.cls yX0_live yX0_live ∈ BIG := tb_in (i := 41) tb_c2 (by decide +kernel) rfl
theorem m_2_42 : Cond.code yX0_live cX0_live 4 none ∈ BIG := tb_in (i := 42) tb_c2 (rfl) rfl
theorem dn_X0_live : yX0_live.cls ≠ "java/lang/invoke/MethodHandle" ∧ yX0_live.cls ≠ "java/lang/invoke/VarHandle" ∧ (parseMethodDescriptor yX0_live.desc).map (fun d => d.parameters.length) = some 1 := by decide +kernel
theorem b_vb_RX10_191 : VB RX10 191 RX0 yX0_live (.code yX0_live cX0_live 4 none) 1 := ⟨⟨all4 m_2_39 m_2_40 m_2_41 m_0_3, m_2_42⟩, rfl, dn_X0_live⟩
theorem m_2_56 : Cond.methodLink RX10 196 yX9_append ∈ BIG := tb_in (i := 56) tb_c2 (by decide +kernel) rfl
theorem m_2_57 : Cond.instanceMethod yX9_append ∈ BIG := tb_in (i := 57) tb_c2 (by decide +kernel) rfl
theorem m_2_58 : Cond.selects yX9_append.cls yX9_append yX9_append ∈ BIG := tb_in (i := 58) tb_c2 (by decide +kernel) rfl
theorem m_0_5 : Cond.initialized "WarmthShared$Text" ∈ BIG := tb_in (i := 5) tb_c0 (by decide +kernel) rfl
theorem m_2_59 : Cond.code yX9_append cX9_append 2 none ∈ BIG := tb_in (i := 59) tb_c2 (rfl) rfl
theorem dn_X9_append : yX9_append.cls ≠ "java/lang/invoke/MethodHandle" ∧ yX9_append.cls ≠ "java/lang/invoke/VarHandle" ∧ (parseMethodDescriptor yX9_append.desc).map (fun d => d.parameters.length) = some 1 := by decide +kernel
theorem b_vb_RX10_196 : VB RX10 196 RX9 yX9_append (.code yX9_append cX9_append 2 none) 1 := ⟨⟨all4 m_2_56 m_2_57 m_2_58 m_0_5, m_2_59⟩, rfl, dn_X9_append⟩
theorem m_2_68 : Cond.methodLink RX10 200 yX5_check ∈ BIG := tb_in (i := 68) tb_c2 (by decide +kernel) rfl
theorem m_2_69 : Cond.instanceMethod yX5_check ∈ BIG := tb_in (i := 69) tb_c2 (by decide +kernel) rfl
theorem m_2_70 : Cond.selects yX5_check.cls yX5_check yX5_check ∈ BIG := tb_in (i := 70) tb_c2 (by decide +kernel) rfl
theorem m_2_71 : Cond.code yX5_check cX5_check 1 (some .int) ∈ BIG := tb_in (i := 71) tb_c2 (rfl) rfl
theorem dn_X5_check : yX5_check.cls ≠ "java/lang/invoke/MethodHandle" ∧ yX5_check.cls ≠ "java/lang/invoke/VarHandle" ∧ (parseMethodDescriptor yX5_check.desc).map (fun d => d.parameters.length) = some 0 := by decide +kernel
theorem b_vb_RX10_200 : VB RX10 200 RX5 yX5_check (.code yX5_check cX5_check 1 (some .int)) 0 := ⟨⟨all4 m_2_68 m_2_69 m_2_70 m_0_7, m_2_71⟩, rfl, dn_X5_check⟩
theorem m_2_198 : Cond.methodLink RX10 204 yX9_become ∈ BIG := tb_in (i := 198) tb_c2 (by decide +kernel) rfl
theorem m_2_199 : Cond.instanceMethod yX9_become ∈ BIG := tb_in (i := 199) tb_c2 (by decide +kernel) rfl
theorem m_2_200 : Cond.selects yX9_become.cls yX9_become yX9_become ∈ BIG := tb_in (i := 200) tb_c2 (by decide +kernel) rfl
theorem m_2_201 : Cond.code yX9_become cX9_become 3 none ∈ BIG := tb_in (i := 201) tb_c2 (rfl) rfl
theorem dn_X9_become : yX9_become.cls ≠ "java/lang/invoke/MethodHandle" ∧ yX9_become.cls ≠ "java/lang/invoke/VarHandle" ∧ (parseMethodDescriptor yX9_become.desc).map (fun d => d.parameters.length) = some 1 := by decide +kernel
theorem b_vb_RX10_204 : VB RX10 204 RX9 yX9_become (.code yX9_become cX9_become 3 none) 1 := ⟨⟨all4 m_2_198 m_2_199 m_2_200 m_0_5, m_2_201⟩, rfl, dn_X9_become⟩
theorem m_2_207 : Cond.methodLink RX10 207 yX10_isRuled ∈ BIG := tb_in (i := 207) tb_c2 (by decide +kernel) rfl
theorem m_2_209 : Cond.instanceMethod yX10_isRuled ∈ BIG := tb_in (i := 209) tb_c2 (by decide +kernel) rfl
theorem s_X10_isRuled : Cond.selects yX10_isRuled.cls yX10_isRuled yX10_isRuled ∈ BIG := sel_in (n := 14) (i := 12) (by decide +kernel)
theorem m_2_210 : Cond.code yX10_isRuled cX10_isRuled 1 (some .boolean) ∈ BIG := tb_in (i := 210) tb_c2 (rfl) rfl
theorem dn_X10_isRuled : yX10_isRuled.cls ≠ "java/lang/invoke/MethodHandle" ∧ yX10_isRuled.cls ≠ "java/lang/invoke/VarHandle" ∧ (parseMethodDescriptor yX10_isRuled.desc).map (fun d => d.parameters.length) = some 0 := by decide +kernel
theorem b_vb_RX10_207 : VB RX10 207 RX10 yX10_isRuled (.code yX10_isRuled cX10_isRuled 1 (some .boolean)) 0 := ⟨⟨all4 m_2_207 m_2_209 s_X10_isRuled m_0_1, m_2_210⟩, rfl, dn_X10_isRuled⟩
theorem m_2_215 : Cond.methodLink RX10 211 yX10_ruledShare ∈ BIG := tb_in (i := 215) tb_c2 (by decide +kernel) rfl
theorem m_2_217 : Cond.instanceMethod yX10_ruledShare ∈ BIG := tb_in (i := 217) tb_c2 (by decide +kernel) rfl
theorem s_X10_ruledShare : Cond.selects yX10_ruledShare.cls yX10_ruledShare yX10_ruledShare ∈ BIG := sel_in (n := 14) (i := 13) (by decide +kernel)
theorem m_2_218 : Cond.code yX10_ruledShare cX10_ruledShare 2 (some .int) ∈ BIG := tb_in (i := 218) tb_c2 (rfl) rfl
theorem dn_X10_ruledShare : yX10_ruledShare.cls ≠ "java/lang/invoke/MethodHandle" ∧ yX10_ruledShare.cls ≠ "java/lang/invoke/VarHandle" ∧ (parseMethodDescriptor yX10_ruledShare.desc).map (fun d => d.parameters.length) = some 1 := by decide +kernel
theorem b_vb_RX10_211 : VB RX10 211 RX10 yX10_ruledShare (.code yX10_ruledShare cX10_ruledShare 2 (some .int)) 1 := ⟨⟨all4 m_2_215 m_2_217 s_X10_ruledShare m_0_1, m_2_218⟩, rfl, dn_X10_ruledShare⟩
theorem m_2_226 : Cond.methodLink RX10 214 yX10_plainShare ∈ BIG := tb_in (i := 226) tb_c2 (by decide +kernel) rfl
theorem m_2_228 : Cond.instanceMethod yX10_plainShare ∈ BIG := tb_in (i := 228) tb_c2 (by decide +kernel) rfl
theorem s_X10_plainShare : Cond.selects yX10_plainShare.cls yX10_plainShare yX10_plainShare ∈ BIG := sel_in (n := 14) (i := 14) (by decide +kernel)
theorem m_2_229 : Cond.code yX10_plainShare cX10_plainShare 2 (some .int) ∈ BIG := tb_in (i := 229) tb_c2 (rfl) rfl
theorem dn_X10_plainShare : yX10_plainShare.cls ≠ "java/lang/invoke/MethodHandle" ∧ yX10_plainShare.cls ≠ "java/lang/invoke/VarHandle" ∧ (parseMethodDescriptor yX10_plainShare.desc).map (fun d => d.parameters.length) = some 1 := by decide +kernel
theorem b_vb_RX10_214 : VB RX10 214 RX10 yX10_plainShare (.code yX10_plainShare cX10_plainShare 2 (some .int)) 1 := ⟨⟨all4 m_2_226 m_2_228 s_X10_plainShare m_0_1, m_2_229⟩, rfl, dn_X10_plainShare⟩
theorem m_2_234 : Cond.methodLink RX10 217 yX10_splitByShares ∈ BIG := tb_in (i := 234) tb_c2 (by decide +kernel) rfl
theorem m_2_236 : Cond.instanceMethod yX10_splitByShares ∈ BIG := tb_in (i := 236) tb_c2 (by decide +kernel) rfl
theorem s_X10_splitByShares : Cond.selects yX10_splitByShares.cls yX10_splitByShares yX10_splitByShares ∈ BIG := sel_in (n := 14) (i := 15) (by decide +kernel)
theorem m_2_237 : Cond.code yX10_splitByShares cX10_splitByShares 4 none ∈ BIG := tb_in (i := 237) tb_c2 (rfl) rfl
theorem dn_X10_splitByShares : yX10_splitByShares.cls ≠ "java/lang/invoke/MethodHandle" ∧ yX10_splitByShares.cls ≠ "java/lang/invoke/VarHandle" ∧ (parseMethodDescriptor yX10_splitByShares.desc).map (fun d => d.parameters.length) = some 2 := by decide +kernel
theorem b_vb_RX10_217 : VB RX10 217 RX10 yX10_splitByShares (.code yX10_splitByShares cX10_splitByShares 4 none) 2 := ⟨⟨all4 m_2_234 m_2_236 s_X10_splitByShares m_0_1, m_2_237⟩, rfl, dn_X10_splitByShares⟩
theorem m_3_6 : Cond.methodLink RX10 221 yX7_nobodyPays ∈ BIG := tb_in (i := 6) tb_c3 (by decide +kernel) rfl
theorem m_3_7 : Cond.instanceMethod yX7_nobodyPays ∈ BIG := tb_in (i := 7) tb_c3 (by decide +kernel) rfl
theorem m_3_8 : Cond.selects yX7_nobodyPays.cls yX7_nobodyPays yX7_nobodyPays ∈ BIG := tb_in (i := 8) tb_c3 (by decide +kernel) rfl
theorem m_0_8 : Cond.initialized "WarmthShared$Split" ∈ BIG := tb_in (i := 8) tb_c0 (by decide +kernel) rfl
theorem m_3_9 : Cond.code yX7_nobodyPays cX7_nobodyPays 1 (some .boolean) ∈ BIG := tb_in (i := 9) tb_c3 (rfl) rfl
theorem dn_X7_nobodyPays : yX7_nobodyPays.cls ≠ "java/lang/invoke/MethodHandle" ∧ yX7_nobodyPays.cls ≠ "java/lang/invoke/VarHandle" ∧ (parseMethodDescriptor yX7_nobodyPays.desc).map (fun d => d.parameters.length) = some 0 := by decide +kernel
theorem b_vb_RX10_221 : VB RX10 221 RX7 yX7_nobodyPays (.code yX7_nobodyPays cX7_nobodyPays 1 (some .boolean)) 0 := ⟨⟨all4 m_3_6 m_3_7 m_3_8 m_0_8, m_3_9⟩, rfl, dn_X7_nobodyPays⟩
theorem m_3_11 : Cond.methodLink RX10 225 yX7_pays ∈ BIG := tb_in (i := 11) tb_c3 (by decide +kernel) rfl
theorem m_3_12 : Cond.instanceMethod yX7_pays ∈ BIG := tb_in (i := 12) tb_c3 (by decide +kernel) rfl
theorem m_3_13 : Cond.selects yX7_pays.cls yX7_pays yX7_pays ∈ BIG := tb_in (i := 13) tb_c3 (by decide +kernel) rfl
theorem m_3_14 : Cond.code yX7_pays cX7_pays 7 (some .int) ∈ BIG := tb_in (i := 14) tb_c3 (rfl) rfl
theorem dn_X7_pays : yX7_pays.cls ≠ "java/lang/invoke/MethodHandle" ∧ yX7_pays.cls ≠ "java/lang/invoke/VarHandle" ∧ (parseMethodDescriptor yX7_pays.desc).map (fun d => d.parameters.length) = some 1 := by decide +kernel
theorem b_vb_RX10_225 : VB RX10 225 RX7 yX7_pays (.code yX7_pays cX7_pays 7 (some .int)) 1 := ⟨⟨all4 m_3_11 m_3_12 m_3_13 m_0_8, m_3_14⟩, rfl, dn_X7_pays⟩
theorem m_3_25 : Cond.methodLink RX10 228 yX0_usedOfAll ∈ BIG := tb_in (i := 25) tb_c3 (by decide +kernel) rfl
theorem m_3_26 : Cond.instanceMethod yX0_usedOfAll ∈ BIG := tb_in (i := 26) tb_c3 (by decide +kernel) rfl
theorem m_3_27 : Cond.selects yX0_usedOfAll.cls yX0_usedOfAll yX0_usedOfAll ∈ BIG := tb_in (i := 27) tb_c3 (by decide +kernel) rfl
theorem m_3_28 : Cond.code yX0_usedOfAll cX0_usedOfAll 3 (some .int) ∈ BIG := tb_in (i := 28) tb_c3 (rfl) rfl
theorem dn_X0_usedOfAll : yX0_usedOfAll.cls ≠ "java/lang/invoke/MethodHandle" ∧ yX0_usedOfAll.cls ≠ "java/lang/invoke/VarHandle" ∧ (parseMethodDescriptor yX0_usedOfAll.desc).map (fun d => d.parameters.length) = some 0 := by decide +kernel
theorem b_vb_RX10_228 : VB RX10 228 RX0 yX0_usedOfAll (.code yX0_usedOfAll cX0_usedOfAll 3 (some .int)) 0 := ⟨⟨all4 m_3_25 m_3_26 m_3_27 m_0_3, m_3_28⟩, rfl, dn_X0_usedOfAll⟩
theorem m_3_29 : Cond.methodLink RX10 231 yX0_takenOfAll ∈ BIG := tb_in (i := 29) tb_c3 (by decide +kernel) rfl
theorem m_3_30 : Cond.instanceMethod yX0_takenOfAll ∈ BIG := tb_in (i := 30) tb_c3 (by decide +kernel) rfl
theorem m_3_31 : Cond.selects yX0_takenOfAll.cls yX0_takenOfAll yX0_takenOfAll ∈ BIG := tb_in (i := 31) tb_c3 (by decide +kernel) rfl
theorem m_3_32 : Cond.code yX0_takenOfAll cX0_takenOfAll 3 (some .int) ∈ BIG := tb_in (i := 32) tb_c3 (rfl) rfl
theorem dn_X0_takenOfAll : yX0_takenOfAll.cls ≠ "java/lang/invoke/MethodHandle" ∧ yX0_takenOfAll.cls ≠ "java/lang/invoke/VarHandle" ∧ (parseMethodDescriptor yX0_takenOfAll.desc).map (fun d => d.parameters.length) = some 0 := by decide +kernel
theorem b_vb_RX10_231 : VB RX10 231 RX0 yX0_takenOfAll (.code yX0_takenOfAll cX0_takenOfAll 3 (some .int)) 0 := ⟨⟨all4 m_3_29 m_3_30 m_3_31 m_0_3, m_3_32⟩, rfl, dn_X0_takenOfAll⟩
theorem m_3_33 : Cond.methodLink RX10 234 yX0_farthestMeter ∈ BIG := tb_in (i := 33) tb_c3 (by decide +kernel) rfl
theorem m_3_34 : Cond.instanceMethod yX0_farthestMeter ∈ BIG := tb_in (i := 34) tb_c3 (by decide +kernel) rfl
theorem m_3_35 : Cond.selects yX0_farthestMeter.cls yX0_farthestMeter yX0_farthestMeter ∈ BIG := tb_in (i := 35) tb_c3 (by decide +kernel) rfl
theorem m_3_36 : Cond.code yX0_farthestMeter cX0_farthestMeter 5 (some .int) ∈ BIG := tb_in (i := 36) tb_c3 (rfl) rfl
theorem dn_X0_farthestMeter : yX0_farthestMeter.cls ≠ "java/lang/invoke/MethodHandle" ∧ yX0_farthestMeter.cls ≠ "java/lang/invoke/VarHandle" ∧ (parseMethodDescriptor yX0_farthestMeter.desc).map (fun d => d.parameters.length) = some 0 := by decide +kernel
theorem b_vb_RX10_234 : VB RX10 234 RX0 yX0_farthestMeter (.code yX0_farthestMeter cX0_farthestMeter 5 (some .int)) 0 := ⟨⟨all4 m_3_33 m_3_34 m_3_35 m_0_3, m_3_36⟩, rfl, dn_X0_farthestMeter⟩
theorem m_3_53 : Cond.methodLink RX10 244 yX2_go ∈ BIG := tb_in (i := 53) tb_c3 (by decide +kernel) rfl
theorem m_3_54 : Cond.instanceMethod yX2_go ∈ BIG := tb_in (i := 54) tb_c3 (by decide +kernel) rfl
theorem m_3_55 : Cond.selects yX2_go.cls yX2_go yX2_go ∈ BIG := tb_in (i := 55) tb_c3 (by decide +kernel) rfl
theorem m_3_56 : Cond.code yX2_go cX2_go 5 (some .int) ∈ BIG := tb_in (i := 56) tb_c3 (rfl) rfl
theorem dn_X2_go : yX2_go.cls ≠ "java/lang/invoke/MethodHandle" ∧ yX2_go.cls ≠ "java/lang/invoke/VarHandle" ∧ (parseMethodDescriptor yX2_go.desc).map (fun d => d.parameters.length) = some 1 := by decide +kernel
theorem b_vb_RX10_244 : VB RX10 244 RX2 yX2_go (.code yX2_go cX2_go 5 (some .int)) 1 := ⟨⟨all4 m_3_53 m_3_54 m_3_55 m_0_9, m_3_56⟩, rfl, dn_X2_go⟩
theorem m_3_66 : Cond.methodLink RX10 249 yX3_seek ∈ BIG := tb_in (i := 66) tb_c3 (by decide +kernel) rfl
theorem m_3_67 : Cond.instanceMethod yX3_seek ∈ BIG := tb_in (i := 67) tb_c3 (by decide +kernel) rfl
theorem m_3_68 : Cond.selects yX3_seek.cls yX3_seek yX3_seek ∈ BIG := tb_in (i := 68) tb_c3 (by decide +kernel) rfl
theorem m_0_10 : Cond.initialized "WarmthShared$FewTurns" ∈ BIG := tb_in (i := 10) tb_c0 (by decide +kernel) rfl
theorem m_3_69 : Cond.code yX3_seek cX3_seek 4 (some .boolean) ∈ BIG := tb_in (i := 69) tb_c3 (rfl) rfl
theorem dn_X3_seek : yX3_seek.cls ≠ "java/lang/invoke/MethodHandle" ∧ yX3_seek.cls ≠ "java/lang/invoke/VarHandle" ∧ (parseMethodDescriptor yX3_seek.desc).map (fun d => d.parameters.length) = some 2 := by decide +kernel
theorem b_vb_RX10_249 : VB RX10 249 RX3 yX3_seek (.code yX3_seek cX3_seek 4 (some .boolean)) 2 := ⟨⟨all4 m_3_66 m_3_67 m_3_68 m_0_10, m_3_69⟩, rfl, dn_X3_seek⟩
theorem m_3_99 : Cond.methodLink RX10 252 yX3_tell ∈ BIG := tb_in (i := 99) tb_c3 (by decide +kernel) rfl
theorem m_3_100 : Cond.instanceMethod yX3_tell ∈ BIG := tb_in (i := 100) tb_c3 (by decide +kernel) rfl
theorem m_3_101 : Cond.selects yX3_tell.cls yX3_tell yX3_tell ∈ BIG := tb_in (i := 101) tb_c3 (by decide +kernel) rfl
theorem m_3_102 : Cond.code yX3_tell cX3_tell 8 (some .int) ∈ BIG := tb_in (i := 102) tb_c3 (rfl) rfl
theorem dn_X3_tell : yX3_tell.cls ≠ "java/lang/invoke/MethodHandle" ∧ yX3_tell.cls ≠ "java/lang/invoke/VarHandle" ∧ (parseMethodDescriptor yX3_tell.desc).map (fun d => d.parameters.length) = some 1 := by decide +kernel
theorem b_vb_RX10_252 : VB RX10 252 RX3 yX3_tell (.code yX3_tell cX3_tell 8 (some .int)) 1 := ⟨⟨all4 m_3_99 m_3_100 m_3_101 m_0_10, m_3_102⟩, rfl, dn_X3_tell⟩
theorem m_3_116 : Cond.methodLink RX10 261 yX1_add ∈ BIG := tb_in (i := 116) tb_c3 (by decide +kernel) rfl
theorem m_3_117 : Cond.instanceMethod yX1_add ∈ BIG := tb_in (i := 117) tb_c3 (by decide +kernel) rfl
theorem m_3_118 : Cond.selects yX1_add.cls yX1_add yX1_add ∈ BIG := tb_in (i := 118) tb_c3 (by decide +kernel) rfl
theorem m_3_119 : Cond.code yX1_add cX1_add 6 (some .int) ∈ BIG := tb_in (i := 119) tb_c3 (rfl) rfl
theorem dn_X1_add : yX1_add.cls ≠ "java/lang/invoke/MethodHandle" ∧ yX1_add.cls ≠ "java/lang/invoke/VarHandle" ∧ (parseMethodDescriptor yX1_add.desc).map (fun d => d.parameters.length) = some 3 := by decide +kernel
theorem b_vb_RX10_261 : VB RX10 261 RX1 yX1_add (.code yX1_add cX1_add 6 (some .int)) 3 := ⟨⟨all4 m_3_116 m_3_117 m_3_118 m_0_6, m_3_119⟩, rfl, dn_X1_add⟩
theorem m_3_143 : Cond.methodLink RX10 276 yX1_groupsOf ∈ BIG := tb_in (i := 143) tb_c3 (by decide +kernel) rfl
theorem m_3_144 : Cond.instanceMethod yX1_groupsOf ∈ BIG := tb_in (i := 144) tb_c3 (by decide +kernel) rfl
theorem m_3_145 : Cond.selects yX1_groupsOf.cls yX1_groupsOf yX1_groupsOf ∈ BIG := tb_in (i := 145) tb_c3 (by decide +kernel) rfl
theorem m_3_146 : Cond.code yX1_groupsOf cX1_groupsOf 4 (some .int) ∈ BIG := tb_in (i := 146) tb_c3 (rfl) rfl
theorem dn_X1_groupsOf : yX1_groupsOf.cls ≠ "java/lang/invoke/MethodHandle" ∧ yX1_groupsOf.cls ≠ "java/lang/invoke/VarHandle" ∧ (parseMethodDescriptor yX1_groupsOf.desc).map (fun d => d.parameters.length) = some 1 := by decide +kernel
theorem b_vb_RX10_276 : VB RX10 276 RX1 yX1_groupsOf (.code yX1_groupsOf cX1_groupsOf 4 (some .int)) 1 := ⟨⟨all4 m_3_143 m_3_144 m_3_145 m_0_6, m_3_146⟩, rfl, dn_X1_groupsOf⟩
theorem m_3_155 : Cond.methodLink RX10 283 yX6_lay ∈ BIG := tb_in (i := 155) tb_c3 (by decide +kernel) rfl
theorem m_3_156 : Cond.instanceMethod yX6_lay ∈ BIG := tb_in (i := 156) tb_c3 (by decide +kernel) rfl
theorem m_3_157 : Cond.selects yX6_lay.cls yX6_lay yX6_lay ∈ BIG := tb_in (i := 157) tb_c3 (by decide +kernel) rfl
theorem m_0_11 : Cond.initialized "WarmthShared$Sheets" ∈ BIG := tb_in (i := 11) tb_c0 (by decide +kernel) rfl
theorem m_3_158 : Cond.code yX6_lay cX6_lay 5 none ∈ BIG := tb_in (i := 158) tb_c3 (rfl) rfl
theorem dn_X6_lay : yX6_lay.cls ≠ "java/lang/invoke/MethodHandle" ∧ yX6_lay.cls ≠ "java/lang/invoke/VarHandle" ∧ (parseMethodDescriptor yX6_lay.desc).map (fun d => d.parameters.length) = some 3 := by decide +kernel
theorem b_vb_RX10_283 : VB RX10 283 RX6 yX6_lay (.code yX6_lay cX6_lay 5 none) 3 := ⟨⟨all4 m_3_155 m_3_156 m_3_157 m_0_11, m_3_158⟩, rfl, dn_X6_lay⟩
theorem m_3_163 : Cond.methodLink RX10 289 yX6_isMissing ∈ BIG := tb_in (i := 163) tb_c3 (by decide +kernel) rfl
theorem m_3_164 : Cond.instanceMethod yX6_isMissing ∈ BIG := tb_in (i := 164) tb_c3 (by decide +kernel) rfl
theorem m_3_165 : Cond.selects yX6_isMissing.cls yX6_isMissing yX6_isMissing ∈ BIG := tb_in (i := 165) tb_c3 (by decide +kernel) rfl
theorem m_3_166 : Cond.code yX6_isMissing cX6_isMissing 2 (some .boolean) ∈ BIG := tb_in (i := 166) tb_c3 (rfl) rfl
theorem dn_X6_isMissing : yX6_isMissing.cls ≠ "java/lang/invoke/MethodHandle" ∧ yX6_isMissing.cls ≠ "java/lang/invoke/VarHandle" ∧ (parseMethodDescriptor yX6_isMissing.desc).map (fun d => d.parameters.length) = some 1 := by decide +kernel
theorem b_vb_RX10_289 : VB RX10 289 RX6 yX6_isMissing (.code yX6_isMissing cX6_isMissing 2 (some .boolean)) 1 := ⟨⟨all4 m_3_163 m_3_164 m_3_165 m_0_11, m_3_166⟩, rfl, dn_X6_isMissing⟩
theorem m_3_175 : Cond.methodLink RX10 304 yX6_hasPart ∈ BIG := tb_in (i := 175) tb_c3 (by decide +kernel) rfl
theorem m_3_176 : Cond.instanceMethod yX6_hasPart ∈ BIG := tb_in (i := 176) tb_c3 (by decide +kernel) rfl
theorem m_3_177 : Cond.selects yX6_hasPart.cls yX6_hasPart yX6_hasPart ∈ BIG := tb_in (i := 177) tb_c3 (by decide +kernel) rfl
theorem m_3_178 : Cond.code yX6_hasPart cX6_hasPart 4 (some .boolean) ∈ BIG := tb_in (i := 178) tb_c3 (rfl) rfl
theorem dn_X6_hasPart : yX6_hasPart.cls ≠ "java/lang/invoke/MethodHandle" ∧ yX6_hasPart.cls ≠ "java/lang/invoke/VarHandle" ∧ (parseMethodDescriptor yX6_hasPart.desc).map (fun d => d.parameters.length) = some 3 := by decide +kernel
theorem b_vb_RX10_304 : VB RX10 304 RX6 yX6_hasPart (.code yX6_hasPart cX6_hasPart 4 (some .boolean)) 3 := ⟨⟨all4 m_3_175 m_3_176 m_3_177 m_0_11, m_3_178⟩, rfl, dn_X6_hasPart⟩
theorem m_3_196 : Cond.methodLink RX10 317 yX8_become ∈ BIG := tb_in (i := 196) tb_c3 (by decide +kernel) rfl
theorem m_3_197 : Cond.instanceMethod yX8_become ∈ BIG := tb_in (i := 197) tb_c3 (by decide +kernel) rfl
theorem m_3_198 : Cond.selects yX8_become.cls yX8_become yX8_become ∈ BIG := tb_in (i := 198) tb_c3 (by decide +kernel) rfl
theorem m_0_2 : Cond.initialized "WarmthShared$State" ∈ BIG := tb_in (i := 2) tb_c0 (by decide +kernel) rfl
theorem m_3_199 : Cond.code yX8_become cX8_become 2 none ∈ BIG := tb_in (i := 199) tb_c3 (rfl) rfl
theorem dn_X8_become : yX8_become.cls ≠ "java/lang/invoke/MethodHandle" ∧ yX8_become.cls ≠ "java/lang/invoke/VarHandle" ∧ (parseMethodDescriptor yX8_become.desc).map (fun d => d.parameters.length) = some 1 := by decide +kernel
theorem b_vb_RX10_317 : VB RX10 317 RX8 yX8_become (.code yX8_become cX8_become 2 none) 1 := ⟨⟨all4 m_3_196 m_3_197 m_3_198 m_0_2, m_3_199⟩, rfl, dn_X8_become⟩
theorem m_3_226 : Cond.methodLink RX10 320 yX0_heldOfAll ∈ BIG := tb_in (i := 226) tb_c3 (by decide +kernel) rfl
theorem m_3_227 : Cond.instanceMethod yX0_heldOfAll ∈ BIG := tb_in (i := 227) tb_c3 (by decide +kernel) rfl
theorem m_3_228 : Cond.selects yX0_heldOfAll.cls yX0_heldOfAll yX0_heldOfAll ∈ BIG := tb_in (i := 228) tb_c3 (by decide +kernel) rfl
theorem m_3_229 : Cond.code yX0_heldOfAll cX0_heldOfAll 3 (some .int) ∈ BIG := tb_in (i := 229) tb_c3 (rfl) rfl
theorem dn_X0_heldOfAll : yX0_heldOfAll.cls ≠ "java/lang/invoke/MethodHandle" ∧ yX0_heldOfAll.cls ≠ "java/lang/invoke/VarHandle" ∧ (parseMethodDescriptor yX0_heldOfAll.desc).map (fun d => d.parameters.length) = some 0 := by decide +kernel
theorem b_vb_RX10_320 : VB RX10 320 RX0 yX0_heldOfAll (.code yX0_heldOfAll cX0_heldOfAll 3 (some .int)) 0 := ⟨⟨all4 m_3_226 m_3_227 m_3_228 m_0_3, m_3_229⟩, rfl, dn_X0_heldOfAll⟩
theorem m_3_231 : Cond.methodLink RX10 323 yX0_highestRiser ∈ BIG := tb_in (i := 231) tb_c3 (by decide +kernel) rfl
theorem m_3_232 : Cond.instanceMethod yX0_highestRiser ∈ BIG := tb_in (i := 232) tb_c3 (by decide +kernel) rfl
theorem m_3_233 : Cond.selects yX0_highestRiser.cls yX0_highestRiser yX0_highestRiser ∈ BIG := tb_in (i := 233) tb_c3 (by decide +kernel) rfl
theorem m_3_234 : Cond.code yX0_highestRiser cX0_highestRiser 3 (some .int) ∈ BIG := tb_in (i := 234) tb_c3 (rfl) rfl
theorem dn_X0_highestRiser : yX0_highestRiser.cls ≠ "java/lang/invoke/MethodHandle" ∧ yX0_highestRiser.cls ≠ "java/lang/invoke/VarHandle" ∧ (parseMethodDescriptor yX0_highestRiser.desc).map (fun d => d.parameters.length) = some 0 := by decide +kernel
theorem b_vb_RX10_323 : VB RX10 323 RX0 yX0_highestRiser (.code yX0_highestRiser cX0_highestRiser 3 (some .int)) 0 := ⟨⟨all4 m_3_231 m_3_232 m_3_233 m_0_3, m_3_234⟩, rfl, dn_X0_highestRiser⟩
theorem m_3_235 : Cond.methodLink RX10 326 yX0_flowOfAll ∈ BIG := tb_in (i := 235) tb_c3 (by decide +kernel) rfl
theorem m_3_236 : Cond.instanceMethod yX0_flowOfAll ∈ BIG := tb_in (i := 236) tb_c3 (by decide +kernel) rfl
theorem m_3_237 : Cond.selects yX0_flowOfAll.cls yX0_flowOfAll yX0_flowOfAll ∈ BIG := tb_in (i := 237) tb_c3 (by decide +kernel) rfl
theorem m_3_238 : Cond.code yX0_flowOfAll cX0_flowOfAll 3 (some .int) ∈ BIG := tb_in (i := 238) tb_c3 (rfl) rfl
theorem dn_X0_flowOfAll : yX0_flowOfAll.cls ≠ "java/lang/invoke/MethodHandle" ∧ yX0_flowOfAll.cls ≠ "java/lang/invoke/VarHandle" ∧ (parseMethodDescriptor yX0_flowOfAll.desc).map (fun d => d.parameters.length) = some 0 := by decide +kernel
theorem b_vb_RX10_326 : VB RX10 326 RX0 yX0_flowOfAll (.code yX0_flowOfAll cX0_flowOfAll 3 (some .int)) 0 := ⟨⟨all4 m_3_235 m_3_236 m_3_237 m_0_3, m_3_238⟩, rfl, dn_X0_flowOfAll⟩
theorem m_2_220 : Cond.methodLink RX10 330 yX5_value ∈ BIG := tb_in (i := 220) tb_c2 (by decide +kernel) rfl
theorem m_2_221 : Cond.instanceMethod yX5_value ∈ BIG := tb_in (i := 221) tb_c2 (by decide +kernel) rfl
theorem m_2_222 : Cond.selects yX5_value.cls yX5_value yX5_value ∈ BIG := tb_in (i := 222) tb_c2 (by decide +kernel) rfl
theorem m_2_223 : Cond.code yX5_value cX5_value 4 (some .int) ∈ BIG := tb_in (i := 223) tb_c2 (rfl) rfl
theorem dn_X5_value : yX5_value.cls ≠ "java/lang/invoke/MethodHandle" ∧ yX5_value.cls ≠ "java/lang/invoke/VarHandle" ∧ (parseMethodDescriptor yX5_value.desc).map (fun d => d.parameters.length) = some 2 := by decide +kernel
theorem b_vb_RX10_330 : VB RX10 330 RX5 yX5_value (.code yX5_value cX5_value 4 (some .int)) 2 := ⟨⟨all4 m_2_220 m_2_221 m_2_222 m_0_7, m_2_223⟩, rfl, dn_X5_value⟩
theorem m_2_238 : Cond.methodLink RX10 342 yX7_begin ∈ BIG := tb_in (i := 238) tb_c2 (by decide +kernel) rfl
theorem m_2_239 : Cond.instanceMethod yX7_begin ∈ BIG := tb_in (i := 239) tb_c2 (by decide +kernel) rfl
theorem m_3_0 : Cond.selects yX7_begin.cls yX7_begin yX7_begin ∈ BIG := tb_in (i := 0) tb_c3 (by decide +kernel) rfl
theorem m_3_1 : Cond.code yX7_begin cX7_begin 2 none ∈ BIG := tb_in (i := 1) tb_c3 (rfl) rfl
theorem dn_X7_begin : yX7_begin.cls ≠ "java/lang/invoke/MethodHandle" ∧ yX7_begin.cls ≠ "java/lang/invoke/VarHandle" ∧ (parseMethodDescriptor yX7_begin.desc).map (fun d => d.parameters.length) = some 1 := by decide +kernel
theorem b_vb_RX10_342 : VB RX10 342 RX7 yX7_begin (.code yX7_begin cX7_begin 2 none) 1 := ⟨⟨all4 m_2_238 m_2_239 m_3_0 m_0_8, m_3_1⟩, rfl, dn_X7_begin⟩
theorem m_3_2 : Cond.methodLink RX10 344 yX7_add ∈ BIG := tb_in (i := 2) tb_c3 (by decide +kernel) rfl
theorem m_3_3 : Cond.instanceMethod yX7_add ∈ BIG := tb_in (i := 3) tb_c3 (by decide +kernel) rfl
theorem m_3_4 : Cond.selects yX7_add.cls yX7_add yX7_add ∈ BIG := tb_in (i := 4) tb_c3 (by decide +kernel) rfl
theorem m_3_5 : Cond.code yX7_add cX7_add 2 none ∈ BIG := tb_in (i := 5) tb_c3 (rfl) rfl
theorem dn_X7_add : yX7_add.cls ≠ "java/lang/invoke/MethodHandle" ∧ yX7_add.cls ≠ "java/lang/invoke/VarHandle" ∧ (parseMethodDescriptor yX7_add.desc).map (fun d => d.parameters.length) = some 1 := by decide +kernel
theorem b_vb_RX10_344 : VB RX10 344 RX7 yX7_add (.code yX7_add cX7_add 2 none) 1 := ⟨⟨all4 m_3_2 m_3_3 m_3_4 m_0_8, m_3_5⟩, rfl, dn_X7_add⟩
theorem m_1_163 : Cond.methodLink RX10 95 yX10_finding ∈ BIG := tb_in (i := 163) tb_c1 (by decide +kernel) rfl
theorem m_1_165 : Cond.instanceMethod yX10_finding ∈ BIG := tb_in (i := 165) tb_c1 (by decide +kernel) rfl
theorem s_X10_finding : Cond.selects yX10_finding.cls yX10_finding yX10_finding ∈ BIG := sel_in (n := 14) (i := 0) (by decide +kernel)
theorem m_1_166 : Cond.code yX10_finding cX10_finding 3 (some .int) ∈ BIG := tb_in (i := 166) tb_c1 (rfl) rfl
theorem dn_X10_finding : yX10_finding.cls ≠ "java/lang/invoke/MethodHandle" ∧ yX10_finding.cls ≠ "java/lang/invoke/VarHandle" ∧ (parseMethodDescriptor yX10_finding.desc).map (fun d => d.parameters.length) = some 1 := by decide +kernel
theorem b_vb_RX10_95 : VB RX10 95 RX10 yX10_finding (.code yX10_finding cX10_finding 3 (some .int)) 1 := ⟨⟨all4 m_1_163 m_1_165 s_X10_finding m_0_1, m_1_166⟩, rfl, dn_X10_finding⟩
theorem m_4_161 : Cond.methodLink RX11 101 yX11_get ∈ BIG := tb_in (i := 161) tb_c4 (by decide +kernel) rfl
theorem m_4_163 : Cond.instanceMethod yX11_get ∈ BIG := tb_in (i := 163) tb_c4 (by decide +kernel) rfl
theorem s_X11_get : Cond.selects yX11_get.cls yX11_get yX11_get ∈ BIG := sel_in (n := 43) (i := 25) (by decide +kernel)
theorem m_4_164 : Cond.code yX11_get cX11_get 3 (some .int) ∈ BIG := tb_in (i := 164) tb_c4 (rfl) rfl
theorem dn_X11_get : yX11_get.cls ≠ "java/lang/invoke/MethodHandle" ∧ yX11_get.cls ≠ "java/lang/invoke/VarHandle" ∧ (parseMethodDescriptor yX11_get.desc).map (fun d => d.parameters.length) = some 2 := by decide +kernel
theorem b_vb_RX11_101 : VB RX11 101 RX11 yX11_get (.code yX11_get cX11_get 3 (some .int)) 2 := ⟨⟨all4 m_4_161 m_4_163 s_X11_get m_0_12, m_4_164⟩, rfl, dn_X11_get⟩
theorem m_4_148 : Cond.methodLink RX11 109 yX11_finds ∈ BIG := tb_in (i := 148) tb_c4 (by decide +kernel) rfl
theorem m_4_150 : Cond.instanceMethod yX11_finds ∈ BIG := tb_in (i := 150) tb_c4 (by decide +kernel) rfl
theorem s_X11_finds : Cond.selects yX11_finds.cls yX11_finds yX11_finds ∈ BIG := sel_in (n := 43) (i := 23) (by decide +kernel)
theorem m_4_151 : Cond.code yX11_finds cX11_finds 2 (some .int) ∈ BIG := tb_in (i := 151) tb_c4 (rfl) rfl
theorem dn_X11_finds : yX11_finds.cls ≠ "java/lang/invoke/MethodHandle" ∧ yX11_finds.cls ≠ "java/lang/invoke/VarHandle" ∧ (parseMethodDescriptor yX11_finds.desc).map (fun d => d.parameters.length) = some 1 := by decide +kernel
theorem b_vb_RX11_109 : VB RX11 109 RX11 yX11_finds (.code yX11_finds cX11_finds 2 (some .int)) 1 := ⟨⟨all4 m_4_148 m_4_150 s_X11_finds m_0_12, m_4_151⟩, rfl, dn_X11_finds⟩
theorem m_4_165 : Cond.methodLink RX11 114 yX11_placeOf ∈ BIG := tb_in (i := 165) tb_c4 (by decide +kernel) rfl
theorem m_4_167 : Cond.instanceMethod yX11_placeOf ∈ BIG := tb_in (i := 167) tb_c4 (by decide +kernel) rfl
theorem s_X11_placeOf : Cond.selects yX11_placeOf.cls yX11_placeOf yX11_placeOf ∈ BIG := sel_in (n := 43) (i := 26) (by decide +kernel)
theorem m_4_168 : Cond.code yX11_placeOf cX11_placeOf 4 (some .int) ∈ BIG := tb_in (i := 168) tb_c4 (rfl) rfl
theorem dn_X11_placeOf : yX11_placeOf.cls ≠ "java/lang/invoke/MethodHandle" ∧ yX11_placeOf.cls ≠ "java/lang/invoke/VarHandle" ∧ (parseMethodDescriptor yX11_placeOf.desc).map (fun d => d.parameters.length) = some 1 := by decide +kernel
theorem b_vb_RX11_114 : VB RX11 114 RX11 yX11_placeOf (.code yX11_placeOf cX11_placeOf 4 (some .int)) 1 := ⟨⟨all4 m_4_165 m_4_167 s_X11_placeOf m_0_12, m_4_168⟩, rfl, dn_X11_placeOf⟩
theorem m_4_181 : Cond.methodLink RX11 117 yX11_flatAt ∈ BIG := tb_in (i := 181) tb_c4 (by decide +kernel) rfl
theorem m_4_183 : Cond.instanceMethod yX11_flatAt ∈ BIG := tb_in (i := 183) tb_c4 (by decide +kernel) rfl
theorem s_X11_flatAt : Cond.selects yX11_flatAt.cls yX11_flatAt yX11_flatAt ∈ BIG := sel_in (n := 43) (i := 30) (by decide +kernel)
theorem m_4_184 : Cond.code yX11_flatAt cX11_flatAt 5 (some .int) ∈ BIG := tb_in (i := 184) tb_c4 (rfl) rfl
theorem dn_X11_flatAt : yX11_flatAt.cls ≠ "java/lang/invoke/MethodHandle" ∧ yX11_flatAt.cls ≠ "java/lang/invoke/VarHandle" ∧ (parseMethodDescriptor yX11_flatAt.desc).map (fun d => d.parameters.length) = some 2 := by decide +kernel
theorem b_vb_RX11_117 : VB RX11 117 RX11 yX11_flatAt (.code yX11_flatAt cX11_flatAt 5 (some .int)) 2 := ⟨⟨all4 m_4_181 m_4_183 s_X11_flatAt m_0_12, m_4_184⟩, rfl, dn_X11_flatAt⟩
theorem m_4_169 : Cond.methodLink RX11 120 yX11_leaksBy ∈ BIG := tb_in (i := 169) tb_c4 (by decide +kernel) rfl
theorem m_4_171 : Cond.instanceMethod yX11_leaksBy ∈ BIG := tb_in (i := 171) tb_c4 (by decide +kernel) rfl
theorem s_X11_leaksBy : Cond.selects yX11_leaksBy.cls yX11_leaksBy yX11_leaksBy ∈ BIG := sel_in (n := 43) (i := 27) (by decide +kernel)
theorem m_4_172 : Cond.code yX11_leaksBy cX11_leaksBy 4 (some .int) ∈ BIG := tb_in (i := 172) tb_c4 (rfl) rfl
theorem dn_X11_leaksBy : yX11_leaksBy.cls ≠ "java/lang/invoke/MethodHandle" ∧ yX11_leaksBy.cls ≠ "java/lang/invoke/VarHandle" ∧ (parseMethodDescriptor yX11_leaksBy.desc).map (fun d => d.parameters.length) = some 2 := by decide +kernel
theorem b_vb_RX11_120 : VB RX11 120 RX11 yX11_leaksBy (.code yX11_leaksBy cX11_leaksBy 4 (some .int)) 2 := ⟨⟨all4 m_4_169 m_4_171 s_X11_leaksBy m_0_12, m_4_172⟩, rfl, dn_X11_leaksBy⟩
theorem m_4_185 : Cond.methodLink RX11 123 yX11_startsWarm ∈ BIG := tb_in (i := 185) tb_c4 (by decide +kernel) rfl
theorem m_4_187 : Cond.instanceMethod yX11_startsWarm ∈ BIG := tb_in (i := 187) tb_c4 (by decide +kernel) rfl
theorem s_X11_startsWarm : Cond.selects yX11_startsWarm.cls yX11_startsWarm yX11_startsWarm ∈ BIG := sel_in (n := 43) (i := 31) (by decide +kernel)
theorem m_4_188 : Cond.code yX11_startsWarm cX11_startsWarm 2 none ∈ BIG := tb_in (i := 188) tb_c4 (rfl) rfl
theorem dn_X11_startsWarm : yX11_startsWarm.cls ≠ "java/lang/invoke/MethodHandle" ∧ yX11_startsWarm.cls ≠ "java/lang/invoke/VarHandle" ∧ (parseMethodDescriptor yX11_startsWarm.desc).map (fun d => d.parameters.length) = some 0 := by decide +kernel
theorem b_vb_RX11_123 : VB RX11 123 RX11 yX11_startsWarm (.code yX11_startsWarm cX11_startsWarm 2 none) 0 := ⟨⟨all4 m_4_185 m_4_187 s_X11_startsWarm m_0_12, m_4_188⟩, rfl, dn_X11_startsWarm⟩
theorem m_4_189 : Cond.methodLink RX11 126 yX11_findFlows ∈ BIG := tb_in (i := 189) tb_c4 (by decide +kernel) rfl
theorem m_4_191 : Cond.instanceMethod yX11_findFlows ∈ BIG := tb_in (i := 191) tb_c4 (by decide +kernel) rfl
theorem s_X11_findFlows : Cond.selects yX11_findFlows.cls yX11_findFlows yX11_findFlows ∈ BIG := sel_in (n := 43) (i := 32) (by decide +kernel)
theorem m_4_192 : Cond.code yX11_findFlows cX11_findFlows 3 none ∈ BIG := tb_in (i := 192) tb_c4 (rfl) rfl
theorem dn_X11_findFlows : yX11_findFlows.cls ≠ "java/lang/invoke/MethodHandle" ∧ yX11_findFlows.cls ≠ "java/lang/invoke/VarHandle" ∧ (parseMethodDescriptor yX11_findFlows.desc).map (fun d => d.parameters.length) = some 0 := by decide +kernel
theorem b_vb_RX11_126 : VB RX11 126 RX11 yX11_findFlows (.code yX11_findFlows cX11_findFlows 3 none) 0 := ⟨⟨all4 m_4_189 m_4_191 s_X11_findFlows m_0_12, m_4_192⟩, rfl, dn_X11_findFlows⟩
theorem m_4_173 : Cond.methodLink RX11 129 yX11_takesBy ∈ BIG := tb_in (i := 173) tb_c4 (by decide +kernel) rfl
theorem m_4_175 : Cond.instanceMethod yX11_takesBy ∈ BIG := tb_in (i := 175) tb_c4 (by decide +kernel) rfl
theorem s_X11_takesBy : Cond.selects yX11_takesBy.cls yX11_takesBy yX11_takesBy ∈ BIG := sel_in (n := 43) (i := 28) (by decide +kernel)
theorem m_4_176 : Cond.code yX11_takesBy cX11_takesBy 5 (some .int) ∈ BIG := tb_in (i := 176) tb_c4 (rfl) rfl
theorem dn_X11_takesBy : yX11_takesBy.cls ≠ "java/lang/invoke/MethodHandle" ∧ yX11_takesBy.cls ≠ "java/lang/invoke/VarHandle" ∧ (parseMethodDescriptor yX11_takesBy.desc).map (fun d => d.parameters.length) = some 2 := by decide +kernel
theorem b_vb_RX11_129 : VB RX11 129 RX11 yX11_takesBy (.code yX11_takesBy cX11_takesBy 5 (some .int)) 2 := ⟨⟨all4 m_4_173 m_4_175 s_X11_takesBy m_0_12, m_4_176⟩, rfl, dn_X11_takesBy⟩
theorem m_4_193 : Cond.methodLink RX11 132 yX11_weight ∈ BIG := tb_in (i := 193) tb_c4 (by decide +kernel) rfl
theorem m_4_195 : Cond.instanceMethod yX11_weight ∈ BIG := tb_in (i := 195) tb_c4 (by decide +kernel) rfl
theorem s_X11_weight : Cond.selects yX11_weight.cls yX11_weight yX11_weight ∈ BIG := sel_in (n := 43) (i := 33) (by decide +kernel)
theorem m_4_196 : Cond.code yX11_weight cX11_weight 3 (some .int) ∈ BIG := tb_in (i := 196) tb_c4 (rfl) rfl
theorem dn_X11_weight : yX11_weight.cls ≠ "java/lang/invoke/MethodHandle" ∧ yX11_weight.cls ≠ "java/lang/invoke/VarHandle" ∧ (parseMethodDescriptor yX11_weight.desc).map (fun d => d.parameters.length) = some 1 := by decide +kernel
theorem b_vb_RX11_132 : VB RX11 132 RX11 yX11_weight (.code yX11_weight cX11_weight 3 (some .int)) 1 := ⟨⟨all4 m_4_193 m_4_195 s_X11_weight m_0_12, m_4_196⟩, rfl, dn_X11_weight⟩
theorem m_5_2 : Cond.methodLink RX11 135 yX11_from ∈ BIG := tb_in (i := 2) tb_c5 (by decide +kernel) rfl
theorem m_5_4 : Cond.instanceMethod yX11_from ∈ BIG := tb_in (i := 4) tb_c5 (by decide +kernel) rfl
theorem s_X11_from : Cond.selects yX11_from.cls yX11_from yX11_from ∈ BIG := sel_in (n := 43) (i := 37) (by decide +kernel)
theorem m_5_5 : Cond.code yX11_from cX11_from 3 (some .int) ∈ BIG := tb_in (i := 5) tb_c5 (rfl) rfl
theorem dn_X11_from : yX11_from.cls ≠ "java/lang/invoke/MethodHandle" ∧ yX11_from.cls ≠ "java/lang/invoke/VarHandle" ∧ (parseMethodDescriptor yX11_from.desc).map (fun d => d.parameters.length) = some 2 := by decide +kernel
theorem b_vb_RX11_135 : VB RX11 135 RX11 yX11_from (.code yX11_from cX11_from 3 (some .int)) 2 := ⟨⟨all4 m_5_2 m_5_4 s_X11_from m_0_12, m_5_5⟩, rfl, dn_X11_from⟩
theorem m_4_238 : Cond.methodLink RX11 138 yX11_goes ∈ BIG := tb_in (i := 238) tb_c4 (by decide +kernel) rfl
theorem m_5_0 : Cond.instanceMethod yX11_goes ∈ BIG := tb_in (i := 0) tb_c5 (by decide +kernel) rfl
theorem s_X11_goes : Cond.selects yX11_goes.cls yX11_goes yX11_goes ∈ BIG := sel_in (n := 43) (i := 36) (by decide +kernel)
theorem m_5_1 : Cond.code yX11_goes cX11_goes 5 (some .int) ∈ BIG := tb_in (i := 1) tb_c5 (rfl) rfl
theorem dn_X11_goes : yX11_goes.cls ≠ "java/lang/invoke/MethodHandle" ∧ yX11_goes.cls ≠ "java/lang/invoke/VarHandle" ∧ (parseMethodDescriptor yX11_goes.desc).map (fun d => d.parameters.length) = some 1 := by decide +kernel
theorem b_vb_RX11_138 : VB RX11 138 RX11 yX11_goes (.code yX11_goes cX11_goes 5 (some .int)) 1 := ⟨⟨all4 m_4_238 m_5_0 s_X11_goes m_0_12, m_5_1⟩, rfl, dn_X11_goes⟩
theorem m_4_157 : Cond.methodLink RX11 141 yX11_isFlat ∈ BIG := tb_in (i := 157) tb_c4 (by decide +kernel) rfl
theorem m_4_159 : Cond.instanceMethod yX11_isFlat ∈ BIG := tb_in (i := 159) tb_c4 (by decide +kernel) rfl
theorem s_X11_isFlat : Cond.selects yX11_isFlat.cls yX11_isFlat yX11_isFlat ∈ BIG := sel_in (n := 43) (i := 24) (by decide +kernel)
theorem m_4_160 : Cond.code yX11_isFlat cX11_isFlat 2 (some .boolean) ∈ BIG := tb_in (i := 160) tb_c4 (rfl) rfl
theorem dn_X11_isFlat : yX11_isFlat.cls ≠ "java/lang/invoke/MethodHandle" ∧ yX11_isFlat.cls ≠ "java/lang/invoke/VarHandle" ∧ (parseMethodDescriptor yX11_isFlat.desc).map (fun d => d.parameters.length) = some 1 := by decide +kernel
theorem b_vb_RX11_141 : VB RX11 141 RX11 yX11_isFlat (.code yX11_isFlat cX11_isFlat 2 (some .boolean)) 1 := ⟨⟨all4 m_4_157 m_4_159 s_X11_isFlat m_0_12, m_4_160⟩, rfl, dn_X11_isFlat⟩
theorem m_4_177 : Cond.methodLink RX11 145 yX11_setsAside ∈ BIG := tb_in (i := 177) tb_c4 (by decide +kernel) rfl
theorem m_4_179 : Cond.instanceMethod yX11_setsAside ∈ BIG := tb_in (i := 179) tb_c4 (by decide +kernel) rfl
theorem s_X11_setsAside : Cond.selects yX11_setsAside.cls yX11_setsAside yX11_setsAside ∈ BIG := sel_in (n := 43) (i := 29) (by decide +kernel)
theorem m_4_180 : Cond.code yX11_setsAside cX11_setsAside 5 none ∈ BIG := tb_in (i := 180) tb_c4 (rfl) rfl
theorem dn_X11_setsAside : yX11_setsAside.cls ≠ "java/lang/invoke/MethodHandle" ∧ yX11_setsAside.cls ≠ "java/lang/invoke/VarHandle" ∧ (parseMethodDescriptor yX11_setsAside.desc).map (fun d => d.parameters.length) = some 0 := by decide +kernel
theorem b_vb_RX11_145 : VB RX11 145 RX11 yX11_setsAside (.code yX11_setsAside cX11_setsAside 5 none) 0 := ⟨⟨all4 m_4_177 m_4_179 s_X11_setsAside m_0_12, m_4_180⟩, rfl, dn_X11_setsAside⟩
theorem m_4_214 : Cond.methodLink RX11 154 yX11_becomes ∈ BIG := tb_in (i := 214) tb_c4 (by decide +kernel) rfl
theorem m_4_216 : Cond.instanceMethod yX11_becomes ∈ BIG := tb_in (i := 216) tb_c4 (by decide +kernel) rfl
theorem s_X11_becomes : Cond.selects yX11_becomes.cls yX11_becomes yX11_becomes ∈ BIG := sel_in (n := 43) (i := 34) (by decide +kernel)
theorem m_4_217 : Cond.code yX11_becomes cX11_becomes 5 (some .int) ∈ BIG := tb_in (i := 217) tb_c4 (rfl) rfl
theorem dn_X11_becomes : yX11_becomes.cls ≠ "java/lang/invoke/MethodHandle" ∧ yX11_becomes.cls ≠ "java/lang/invoke/VarHandle" ∧ (parseMethodDescriptor yX11_becomes.desc).map (fun d => d.parameters.length) = some 3 := by decide +kernel
theorem b_vb_RX11_154 : VB RX11 154 RX11 yX11_becomes (.code yX11_becomes cX11_becomes 5 (some .int)) 3 := ⟨⟨all4 m_4_214 m_4_216 s_X11_becomes m_0_12, m_4_217⟩, rfl, dn_X11_becomes⟩
theorem m_4_234 : Cond.methodLink RX11 158 yX11_anHour ∈ BIG := tb_in (i := 234) tb_c4 (by decide +kernel) rfl
theorem m_4_236 : Cond.instanceMethod yX11_anHour ∈ BIG := tb_in (i := 236) tb_c4 (by decide +kernel) rfl
theorem s_X11_anHour : Cond.selects yX11_anHour.cls yX11_anHour yX11_anHour ∈ BIG := sel_in (n := 43) (i := 35) (by decide +kernel)
theorem m_4_237 : Cond.code yX11_anHour cX11_anHour 3 none ∈ BIG := tb_in (i := 237) tb_c4 (rfl) rfl
theorem dn_X11_anHour : yX11_anHour.cls ≠ "java/lang/invoke/MethodHandle" ∧ yX11_anHour.cls ≠ "java/lang/invoke/VarHandle" ∧ (parseMethodDescriptor yX11_anHour.desc).map (fun d => d.parameters.length) = some 0 := by decide +kernel
theorem b_vb_RX11_158 : VB RX11 158 RX11 yX11_anHour (.code yX11_anHour cX11_anHour 3 none) 0 := ⟨⟨all4 m_4_234 m_4_236 s_X11_anHour m_0_12, m_4_237⟩, rfl, dn_X11_anHour⟩
theorem m_5_29 : Cond.methodLink RX11 170 yX11_emit ∈ BIG := tb_in (i := 29) tb_c5 (by decide +kernel) rfl
theorem m_5_31 : Cond.instanceMethod yX11_emit ∈ BIG := tb_in (i := 31) tb_c5 (by decide +kernel) rfl
theorem s_X11_emit : Cond.selects yX11_emit.cls yX11_emit yX11_emit ∈ BIG := sel_in (n := 43) (i := 39) (by decide +kernel)
theorem m_5_32 : Cond.code yX11_emit cX11_emit 2 none ∈ BIG := tb_in (i := 32) tb_c5 (rfl) rfl
theorem dn_X11_emit : yX11_emit.cls ≠ "java/lang/invoke/MethodHandle" ∧ yX11_emit.cls ≠ "java/lang/invoke/VarHandle" ∧ (parseMethodDescriptor yX11_emit.desc).map (fun d => d.parameters.length) = some 1 := by decide +kernel
theorem b_vb_RX11_170 : VB RX11 170 RX11 yX11_emit (.code yX11_emit cX11_emit 2 none) 1 := ⟨⟨all4 m_5_29 m_5_31 s_X11_emit m_0_12, m_5_32⟩, rfl, dn_X11_emit⟩
theorem m_5_36 : Cond.methodLink RX11 186 yX11_waits ∈ BIG := tb_in (i := 36) tb_c5 (by decide +kernel) rfl
theorem m_5_38 : Cond.instanceMethod yX11_waits ∈ BIG := tb_in (i := 38) tb_c5 (by decide +kernel) rfl
theorem s_X11_waits : Cond.selects yX11_waits.cls yX11_waits yX11_waits ∈ BIG := sel_in (n := 43) (i := 40) (by decide +kernel)
theorem m_5_39 : Cond.code yX11_waits cX11_waits 2 none ∈ BIG := tb_in (i := 39) tb_c5 (rfl) rfl
theorem dn_X11_waits : yX11_waits.cls ≠ "java/lang/invoke/MethodHandle" ∧ yX11_waits.cls ≠ "java/lang/invoke/VarHandle" ∧ (parseMethodDescriptor yX11_waits.desc).map (fun d => d.parameters.length) = some 1 := by decide +kernel
theorem b_vb_RX11_186 : VB RX11 186 RX11 yX11_waits (.code yX11_waits cX11_waits 2 none) 1 := ⟨⟨all4 m_5_36 m_5_38 s_X11_waits m_0_12, m_5_39⟩, rfl, dn_X11_waits⟩
theorem m_5_44 : Cond.methodLink RX11 191 yX11_settles ∈ BIG := tb_in (i := 44) tb_c5 (by decide +kernel) rfl
theorem m_5_46 : Cond.instanceMethod yX11_settles ∈ BIG := tb_in (i := 46) tb_c5 (by decide +kernel) rfl
theorem s_X11_settles : Cond.selects yX11_settles.cls yX11_settles yX11_settles ∈ BIG := sel_in (n := 43) (i := 42) (by decide +kernel)
theorem m_5_47 : Cond.code yX11_settles cX11_settles 2 none ∈ BIG := tb_in (i := 47) tb_c5 (rfl) rfl
theorem dn_X11_settles : yX11_settles.cls ≠ "java/lang/invoke/MethodHandle" ∧ yX11_settles.cls ≠ "java/lang/invoke/VarHandle" ∧ (parseMethodDescriptor yX11_settles.desc).map (fun d => d.parameters.length) = some 1 := by decide +kernel
theorem b_vb_RX11_191 : VB RX11 191 RX11 yX11_settles (.code yX11_settles cX11_settles 2 none) 1 := ⟨⟨all4 m_5_44 m_5_46 s_X11_settles m_0_12, m_5_47⟩, rfl, dn_X11_settles⟩
theorem m_5_48 : Cond.methodLink RX11 194 yX11_top ∈ BIG := tb_in (i := 48) tb_c5 (by decide +kernel) rfl
theorem m_5_50 : Cond.instanceMethod yX11_top ∈ BIG := tb_in (i := 50) tb_c5 (by decide +kernel) rfl
theorem s_X11_top : Cond.selects yX11_top.cls yX11_top yX11_top ∈ BIG := sel_in (n := 43) (i := 43) (by decide +kernel)
theorem m_5_51 : Cond.code yX11_top cX11_top 1 (some .int) ∈ BIG := tb_in (i := 51) tb_c5 (rfl) rfl
theorem dn_X11_top : yX11_top.cls ≠ "java/lang/invoke/MethodHandle" ∧ yX11_top.cls ≠ "java/lang/invoke/VarHandle" ∧ (parseMethodDescriptor yX11_top.desc).map (fun d => d.parameters.length) = some 0 := by decide +kernel
theorem b_vb_RX11_194 : VB RX11 194 RX11 yX11_top (.code yX11_top cX11_top 1 (some .int)) 0 := ⟨⟨all4 m_5_48 m_5_50 s_X11_top m_0_12, m_5_51⟩, rfl, dn_X11_top⟩
theorem m_5_22 : Cond.methodLink RX11 198 yX11_operand ∈ BIG := tb_in (i := 22) tb_c5 (by decide +kernel) rfl
theorem m_5_24 : Cond.instanceMethod yX11_operand ∈ BIG := tb_in (i := 24) tb_c5 (by decide +kernel) rfl
theorem s_X11_operand : Cond.selects yX11_operand.cls yX11_operand yX11_operand ∈ BIG := sel_in (n := 43) (i := 38) (by decide +kernel)
theorem m_5_25 : Cond.code yX11_operand cX11_operand 4 (some .boolean) ∈ BIG := tb_in (i := 25) tb_c5 (rfl) rfl
theorem dn_X11_operand : yX11_operand.cls ≠ "java/lang/invoke/MethodHandle" ∧ yX11_operand.cls ≠ "java/lang/invoke/VarHandle" ∧ (parseMethodDescriptor yX11_operand.desc).map (fun d => d.parameters.length) = some 0 := by decide +kernel
theorem b_vb_RX11_198 : VB RX11 198 RX11 yX11_operand (.code yX11_operand cX11_operand 4 (some .boolean)) 0 := ⟨⟨all4 m_5_22 m_5_24 s_X11_operand m_0_12, m_5_25⟩, rfl, dn_X11_operand⟩
theorem m_5_40 : Cond.methodLink RX11 202 yX11_operator ∈ BIG := tb_in (i := 40) tb_c5 (by decide +kernel) rfl
theorem m_5_42 : Cond.instanceMethod yX11_operator ∈ BIG := tb_in (i := 42) tb_c5 (by decide +kernel) rfl
theorem s_X11_operator : Cond.selects yX11_operator.cls yX11_operator yX11_operator ∈ BIG := sel_in (n := 43) (i := 41) (by decide +kernel)
theorem m_5_43 : Cond.code yX11_operator cX11_operator 2 (some .boolean) ∈ BIG := tb_in (i := 43) tb_c5 (rfl) rfl
theorem dn_X11_operator : yX11_operator.cls ≠ "java/lang/invoke/MethodHandle" ∧ yX11_operator.cls ≠ "java/lang/invoke/VarHandle" ∧ (parseMethodDescriptor yX11_operator.desc).map (fun d => d.parameters.length) = some 0 := by decide +kernel
theorem b_vb_RX11_202 : VB RX11 202 RX11 yX11_operator (.code yX11_operator cX11_operator 2 (some .boolean)) 0 := ⟨⟨all4 m_5_40 m_5_42 s_X11_operator m_0_12, m_5_43⟩, rfl, dn_X11_operator⟩
theorem m_5_68 : Cond.methodLink RX11 205 yX11_factOf ∈ BIG := tb_in (i := 68) tb_c5 (by decide +kernel) rfl
theorem m_5_70 : Cond.instanceMethod yX11_factOf ∈ BIG := tb_in (i := 70) tb_c5 (by decide +kernel) rfl
theorem s_X11_factOf : Cond.selects yX11_factOf.cls yX11_factOf yX11_factOf ∈ BIG := sel_in (n := 43) (i := 46) (by decide +kernel)
theorem m_5_71 : Cond.code yX11_factOf cX11_factOf 3 (some .int) ∈ BIG := tb_in (i := 71) tb_c5 (rfl) rfl
theorem dn_X11_factOf : yX11_factOf.cls ≠ "java/lang/invoke/MethodHandle" ∧ yX11_factOf.cls ≠ "java/lang/invoke/VarHandle" ∧ (parseMethodDescriptor yX11_factOf.desc).map (fun d => d.parameters.length) = some 2 := by decide +kernel
theorem b_vb_RX11_205 : VB RX11 205 RX11 yX11_factOf (.code yX11_factOf cX11_factOf 3 (some .int)) 2 := ⟨⟨all4 m_5_68 m_5_70 s_X11_factOf m_0_12, m_5_71⟩, rfl, dn_X11_factOf⟩
theorem m_5_64 : Cond.methodLink RX11 211 yX11_says ∈ BIG := tb_in (i := 64) tb_c5 (by decide +kernel) rfl
theorem m_5_66 : Cond.instanceMethod yX11_says ∈ BIG := tb_in (i := 66) tb_c5 (by decide +kernel) rfl
theorem s_X11_says : Cond.selects yX11_says.cls yX11_says yX11_says ∈ BIG := sel_in (n := 43) (i := 45) (by decide +kernel)
theorem m_5_67 : Cond.code yX11_says cX11_says 5 (some .int) ∈ BIG := tb_in (i := 67) tb_c5 (rfl) rfl
theorem dn_X11_says : yX11_says.cls ≠ "java/lang/invoke/MethodHandle" ∧ yX11_says.cls ≠ "java/lang/invoke/VarHandle" ∧ (parseMethodDescriptor yX11_says.desc).map (fun d => d.parameters.length) = some 1 := by decide +kernel
theorem b_vb_RX11_211 : VB RX11 211 RX11 yX11_says (.code yX11_says cX11_says 5 (some .int)) 1 := ⟨⟨all4 m_5_64 m_5_66 s_X11_says m_0_12, m_5_67⟩, rfl, dn_X11_says⟩
theorem m_5_60 : Cond.methodLink RX11 218 yX11_findShares ∈ BIG := tb_in (i := 60) tb_c5 (by decide +kernel) rfl
theorem m_5_62 : Cond.instanceMethod yX11_findShares ∈ BIG := tb_in (i := 62) tb_c5 (by decide +kernel) rfl
theorem s_X11_findShares : Cond.selects yX11_findShares.cls yX11_findShares yX11_findShares ∈ BIG := sel_in (n := 43) (i := 44) (by decide +kernel)
theorem m_5_63 : Cond.code yX11_findShares cX11_findShares 3 none ∈ BIG := tb_in (i := 63) tb_c5 (rfl) rfl
theorem dn_X11_findShares : yX11_findShares.cls ≠ "java/lang/invoke/MethodHandle" ∧ yX11_findShares.cls ≠ "java/lang/invoke/VarHandle" ∧ (parseMethodDescriptor yX11_findShares.desc).map (fun d => d.parameters.length) = some 1 := by decide +kernel
theorem b_vb_RX11_218 : VB RX11 218 RX11 yX11_findShares (.code yX11_findShares cX11_findShares 3 none) 1 := ⟨⟨all4 m_5_60 m_5_62 s_X11_findShares m_0_12, m_5_63⟩, rfl, dn_X11_findShares⟩
theorem m_5_83 : Cond.methodLink RX11 222 yX11_findPays ∈ BIG := tb_in (i := 83) tb_c5 (by decide +kernel) rfl
theorem m_5_85 : Cond.instanceMethod yX11_findPays ∈ BIG := tb_in (i := 85) tb_c5 (by decide +kernel) rfl
theorem s_X11_findPays : Cond.selects yX11_findPays.cls yX11_findPays yX11_findPays ∈ BIG := sel_in (n := 43) (i := 47) (by decide +kernel)
theorem m_5_86 : Cond.code yX11_findPays cX11_findPays 7 (some .boolean) ∈ BIG := tb_in (i := 86) tb_c5 (rfl) rfl
theorem dn_X11_findPays : yX11_findPays.cls ≠ "java/lang/invoke/MethodHandle" ∧ yX11_findPays.cls ≠ "java/lang/invoke/VarHandle" ∧ (parseMethodDescriptor yX11_findPays.desc).map (fun d => d.parameters.length) = some 1 := by decide +kernel
theorem b_vb_RX11_222 : VB RX11 222 RX11 yX11_findPays (.code yX11_findPays cX11_findPays 7 (some .boolean)) 1 := ⟨⟨all4 m_5_83 m_5_85 s_X11_findPays m_0_12, m_5_86⟩, rfl, dn_X11_findPays⟩
theorem m_5_96 : Cond.methodLink RX11 226 yX11_sumOf ∈ BIG := tb_in (i := 96) tb_c5 (by decide +kernel) rfl
theorem m_5_98 : Cond.instanceMethod yX11_sumOf ∈ BIG := tb_in (i := 98) tb_c5 (by decide +kernel) rfl
theorem s_X11_sumOf : Cond.selects yX11_sumOf.cls yX11_sumOf yX11_sumOf ∈ BIG := sel_in (n := 43) (i := 48) (by decide +kernel)
theorem m_5_99 : Cond.code yX11_sumOf cX11_sumOf 4 (some .int) ∈ BIG := tb_in (i := 99) tb_c5 (rfl) rfl
theorem dn_X11_sumOf : yX11_sumOf.cls ≠ "java/lang/invoke/MethodHandle" ∧ yX11_sumOf.cls ≠ "java/lang/invoke/VarHandle" ∧ (parseMethodDescriptor yX11_sumOf.desc).map (fun d => d.parameters.length) = some 1 := by decide +kernel
theorem b_vb_RX11_226 : VB RX11 226 RX11 yX11_sumOf (.code yX11_sumOf cX11_sumOf 4 (some .int)) 1 := ⟨⟨all4 m_5_96 m_5_98 s_X11_sumOf m_0_12, m_5_99⟩, rfl, dn_X11_sumOf⟩
theorem m_5_100 : Cond.methodLink RX11 229 yX11_offBy ∈ BIG := tb_in (i := 100) tb_c5 (by decide +kernel) rfl
theorem m_5_102 : Cond.instanceMethod yX11_offBy ∈ BIG := tb_in (i := 102) tb_c5 (by decide +kernel) rfl
theorem s_X11_offBy : Cond.selects yX11_offBy.cls yX11_offBy yX11_offBy ∈ BIG := sel_in (n := 43) (i := 49) (by decide +kernel)
theorem m_5_103 : Cond.code yX11_offBy cX11_offBy 3 (some .int) ∈ BIG := tb_in (i := 103) tb_c5 (rfl) rfl
theorem dn_X11_offBy : yX11_offBy.cls ≠ "java/lang/invoke/MethodHandle" ∧ yX11_offBy.cls ≠ "java/lang/invoke/VarHandle" ∧ (parseMethodDescriptor yX11_offBy.desc).map (fun d => d.parameters.length) = some 1 := by decide +kernel
theorem b_vb_RX11_229 : VB RX11 229 RX11 yX11_offBy (.code yX11_offBy cX11_offBy 3 (some .int)) 1 := ⟨⟨all4 m_5_100 m_5_102 s_X11_offBy m_0_12, m_5_103⟩, rfl, dn_X11_offBy⟩
theorem m_5_116 : Cond.methodLink RX11 236 yX11_goesAll ∈ BIG := tb_in (i := 116) tb_c5 (by decide +kernel) rfl
theorem m_5_118 : Cond.instanceMethod yX11_goesAll ∈ BIG := tb_in (i := 118) tb_c5 (by decide +kernel) rfl
theorem s_X11_goesAll : Cond.selects yX11_goesAll.cls yX11_goesAll yX11_goesAll ∈ BIG := sel_in (n := 43) (i := 50) (by decide +kernel)
theorem m_5_119 : Cond.code yX11_goesAll cX11_goesAll 5 (some .int) ∈ BIG := tb_in (i := 119) tb_c5 (rfl) rfl
theorem dn_X11_goesAll : yX11_goesAll.cls ≠ "java/lang/invoke/MethodHandle" ∧ yX11_goesAll.cls ≠ "java/lang/invoke/VarHandle" ∧ (parseMethodDescriptor yX11_goesAll.desc).map (fun d => d.parameters.length) = some 2 := by decide +kernel
theorem b_vb_RX11_236 : VB RX11 236 RX11 yX11_goesAll (.code yX11_goesAll cX11_goesAll 5 (some .int)) 2 := ⟨⟨all4 m_5_116 m_5_118 s_X11_goesAll m_0_12, m_5_119⟩, rfl, dn_X11_goesAll⟩
theorem m_5_120 : Cond.methodLink RX11 239 yX11_isEven ∈ BIG := tb_in (i := 120) tb_c5 (by decide +kernel) rfl
theorem m_5_122 : Cond.instanceMethod yX11_isEven ∈ BIG := tb_in (i := 122) tb_c5 (by decide +kernel) rfl
theorem s_X11_isEven : Cond.selects yX11_isEven.cls yX11_isEven yX11_isEven ∈ BIG := sel_in (n := 43) (i := 51) (by decide +kernel)
theorem m_5_123 : Cond.code yX11_isEven cX11_isEven 3 (some .boolean) ∈ BIG := tb_in (i := 123) tb_c5 (rfl) rfl
theorem dn_X11_isEven : yX11_isEven.cls ≠ "java/lang/invoke/MethodHandle" ∧ yX11_isEven.cls ≠ "java/lang/invoke/VarHandle" ∧ (parseMethodDescriptor yX11_isEven.desc).map (fun d => d.parameters.length) = some 2 := by decide +kernel
theorem b_vb_RX11_239 : VB RX11 239 RX11 yX11_isEven (.code yX11_isEven cX11_isEven 3 (some .boolean)) 2 := ⟨⟨all4 m_5_120 m_5_122 s_X11_isEven m_0_12, m_5_123⟩, rfl, dn_X11_isEven⟩
theorem m_5_136 : Cond.methodLink RX11 242 yX11_areEven ∈ BIG := tb_in (i := 136) tb_c5 (by decide +kernel) rfl
theorem m_5_138 : Cond.instanceMethod yX11_areEven ∈ BIG := tb_in (i := 138) tb_c5 (by decide +kernel) rfl
theorem s_X11_areEven : Cond.selects yX11_areEven.cls yX11_areEven yX11_areEven ∈ BIG := sel_in (n := 43) (i := 53) (by decide +kernel)
theorem m_5_139 : Cond.code yX11_areEven cX11_areEven 4 (some .boolean) ∈ BIG := tb_in (i := 139) tb_c5 (rfl) rfl
theorem dn_X11_areEven : yX11_areEven.cls ≠ "java/lang/invoke/MethodHandle" ∧ yX11_areEven.cls ≠ "java/lang/invoke/VarHandle" ∧ (parseMethodDescriptor yX11_areEven.desc).map (fun d => d.parameters.length) = some 2 := by decide +kernel
theorem b_vb_RX11_242 : VB RX11 242 RX11 yX11_areEven (.code yX11_areEven cX11_areEven 4 (some .boolean)) 2 := ⟨⟨all4 m_5_136 m_5_138 s_X11_areEven m_0_12, m_5_139⟩, rfl, dn_X11_areEven⟩
theorem m_5_140 : Cond.methodLink RX11 266 yX11_findOne ∈ BIG := tb_in (i := 140) tb_c5 (by decide +kernel) rfl
theorem m_5_142 : Cond.instanceMethod yX11_findOne ∈ BIG := tb_in (i := 142) tb_c5 (by decide +kernel) rfl
theorem s_X11_findOne : Cond.selects yX11_findOne.cls yX11_findOne yX11_findOne ∈ BIG := sel_in (n := 43) (i := 54) (by decide +kernel)
theorem m_5_143 : Cond.code yX11_findOne cX11_findOne 5 (some .boolean) ∈ BIG := tb_in (i := 143) tb_c5 (rfl) rfl
theorem dn_X11_findOne : yX11_findOne.cls ≠ "java/lang/invoke/MethodHandle" ∧ yX11_findOne.cls ≠ "java/lang/invoke/VarHandle" ∧ (parseMethodDescriptor yX11_findOne.desc).map (fun d => d.parameters.length) = some 2 := by decide +kernel
theorem b_vb_RX11_266 : VB RX11 266 RX11 yX11_findOne (.code yX11_findOne cX11_findOne 5 (some .boolean)) 2 := ⟨⟨all4 m_5_140 m_5_142 s_X11_findOne m_0_12, m_5_143⟩, rfl, dn_X11_findOne⟩
theorem m_5_144 : Cond.methodLink RX11 269 yX11_areTurned ∈ BIG := tb_in (i := 144) tb_c5 (by decide +kernel) rfl
theorem m_5_146 : Cond.instanceMethod yX11_areTurned ∈ BIG := tb_in (i := 146) tb_c5 (by decide +kernel) rfl
theorem s_X11_areTurned : Cond.selects yX11_areTurned.cls yX11_areTurned yX11_areTurned ∈ BIG := sel_in (n := 43) (i := 55) (by decide +kernel)
theorem m_5_147 : Cond.code yX11_areTurned cX11_areTurned 7 (some .boolean) ∈ BIG := tb_in (i := 147) tb_c5 (rfl) rfl
theorem dn_X11_areTurned : yX11_areTurned.cls ≠ "java/lang/invoke/MethodHandle" ∧ yX11_areTurned.cls ≠ "java/lang/invoke/VarHandle" ∧ (parseMethodDescriptor yX11_areTurned.desc).map (fun d => d.parameters.length) = some 4 := by decide +kernel
theorem b_vb_RX11_269 : VB RX11 269 RX11 yX11_areTurned (.code yX11_areTurned cX11_areTurned 7 (some .boolean)) 4 := ⟨⟨all4 m_5_144 m_5_146 s_X11_areTurned m_0_12, m_5_147⟩, rfl, dn_X11_areTurned⟩
theorem m_5_132 : Cond.methodLink RX11 273 yX11_findFew ∈ BIG := tb_in (i := 132) tb_c5 (by decide +kernel) rfl
theorem m_5_134 : Cond.instanceMethod yX11_findFew ∈ BIG := tb_in (i := 134) tb_c5 (by decide +kernel) rfl
theorem s_X11_findFew : Cond.selects yX11_findFew.cls yX11_findFew yX11_findFew ∈ BIG := sel_in (n := 43) (i := 52) (by decide +kernel)
theorem m_5_135 : Cond.code yX11_findFew cX11_findFew 5 none ∈ BIG := tb_in (i := 135) tb_c5 (rfl) rfl
theorem dn_X11_findFew : yX11_findFew.cls ≠ "java/lang/invoke/MethodHandle" ∧ yX11_findFew.cls ≠ "java/lang/invoke/VarHandle" ∧ (parseMethodDescriptor yX11_findFew.desc).map (fun d => d.parameters.length) = some 2 := by decide +kernel
theorem b_vb_RX11_273 : VB RX11 273 RX11 yX11_findFew (.code yX11_findFew cX11_findFew 5 none) 2 := ⟨⟨all4 m_5_132 m_5_134 s_X11_findFew m_0_12, m_5_135⟩, rfl, dn_X11_findFew⟩
theorem m_5_148 : Cond.methodLink RX11 277 yX11_turnsOf ∈ BIG := tb_in (i := 148) tb_c5 (by decide +kernel) rfl
theorem m_5_150 : Cond.instanceMethod yX11_turnsOf ∈ BIG := tb_in (i := 150) tb_c5 (by decide +kernel) rfl
theorem s_X11_turnsOf : Cond.selects yX11_turnsOf.cls yX11_turnsOf yX11_turnsOf ∈ BIG := sel_in (n := 43) (i := 56) (by decide +kernel)
theorem m_5_151 : Cond.code yX11_turnsOf cX11_turnsOf 4 (some .int) ∈ BIG := tb_in (i := 151) tb_c5 (rfl) rfl
theorem dn_X11_turnsOf : yX11_turnsOf.cls ≠ "java/lang/invoke/MethodHandle" ∧ yX11_turnsOf.cls ≠ "java/lang/invoke/VarHandle" ∧ (parseMethodDescriptor yX11_turnsOf.desc).map (fun d => d.parameters.length) = some 2 := by decide +kernel
theorem b_vb_RX11_277 : VB RX11 277 RX11 yX11_turnsOf (.code yX11_turnsOf cX11_turnsOf 4 (some .int)) 2 := ⟨⟨all4 m_5_148 m_5_150 s_X11_turnsOf m_0_12, m_5_151⟩, rfl, dn_X11_turnsOf⟩
theorem m_5_172 : Cond.methodLink RX11 280 yX11_about ∈ BIG := tb_in (i := 172) tb_c5 (by decide +kernel) rfl
theorem m_5_174 : Cond.instanceMethod yX11_about ∈ BIG := tb_in (i := 174) tb_c5 (by decide +kernel) rfl
theorem s_X11_about : Cond.selects yX11_about.cls yX11_about yX11_about ∈ BIG := sel_in (n := 43) (i := 58) (by decide +kernel)
theorem m_5_175 : Cond.code yX11_about cX11_about 3 (some .int) ∈ BIG := tb_in (i := 175) tb_c5 (rfl) rfl
theorem dn_X11_about : yX11_about.cls ≠ "java/lang/invoke/MethodHandle" ∧ yX11_about.cls ≠ "java/lang/invoke/VarHandle" ∧ (parseMethodDescriptor yX11_about.desc).map (fun d => d.parameters.length) = some 2 := by decide +kernel
theorem b_vb_RX11_280 : VB RX11 280 RX11 yX11_about (.code yX11_about cX11_about 3 (some .int)) 2 := ⟨⟨all4 m_5_172 m_5_174 s_X11_about m_0_12, m_5_175⟩, rfl, dn_X11_about⟩
theorem m_5_180 : Cond.methodLink RX11 286 yX11_join ∈ BIG := tb_in (i := 180) tb_c5 (by decide +kernel) rfl
theorem m_5_182 : Cond.instanceMethod yX11_join ∈ BIG := tb_in (i := 182) tb_c5 (by decide +kernel) rfl
theorem s_X11_join : Cond.selects yX11_join.cls yX11_join yX11_join ∈ BIG := sel_in (n := 43) (i := 60) (by decide +kernel)
theorem m_5_183 : Cond.code yX11_join cX11_join 6 (some .boolean) ∈ BIG := tb_in (i := 183) tb_c5 (rfl) rfl
theorem dn_X11_join : yX11_join.cls ≠ "java/lang/invoke/MethodHandle" ∧ yX11_join.cls ≠ "java/lang/invoke/VarHandle" ∧ (parseMethodDescriptor yX11_join.desc).map (fun d => d.parameters.length) = some 2 := by decide +kernel
theorem b_vb_RX11_286 : VB RX11 286 RX11 yX11_join (.code yX11_join cX11_join 6 (some .boolean)) 2 := ⟨⟨all4 m_5_180 m_5_182 s_X11_join m_0_12, m_5_183⟩, rfl, dn_X11_join⟩
theorem m_5_168 : Cond.methodLink RX11 289 yX11_isComplaint ∈ BIG := tb_in (i := 168) tb_c5 (by decide +kernel) rfl
theorem m_5_170 : Cond.instanceMethod yX11_isComplaint ∈ BIG := tb_in (i := 170) tb_c5 (by decide +kernel) rfl
theorem s_X11_isComplaint : Cond.selects yX11_isComplaint.cls yX11_isComplaint yX11_isComplaint ∈ BIG := sel_in (n := 43) (i := 57) (by decide +kernel)
theorem m_5_171 : Cond.code yX11_isComplaint cX11_isComplaint 2 (some .boolean) ∈ BIG := tb_in (i := 171) tb_c5 (rfl) rfl
theorem dn_X11_isComplaint : yX11_isComplaint.cls ≠ "java/lang/invoke/MethodHandle" ∧ yX11_isComplaint.cls ≠ "java/lang/invoke/VarHandle" ∧ (parseMethodDescriptor yX11_isComplaint.desc).map (fun d => d.parameters.length) = some 1 := by decide +kernel
theorem b_vb_RX11_289 : VB RX11 289 RX11 yX11_isComplaint (.code yX11_isComplaint cX11_isComplaint 2 (some .boolean)) 1 := ⟨⟨all4 m_5_168 m_5_170 s_X11_isComplaint m_0_12, m_5_171⟩, rfl, dn_X11_isComplaint⟩
theorem m_5_176 : Cond.methodLink RX11 292 yX11_findGroups ∈ BIG := tb_in (i := 176) tb_c5 (by decide +kernel) rfl
theorem m_5_178 : Cond.instanceMethod yX11_findGroups ∈ BIG := tb_in (i := 178) tb_c5 (by decide +kernel) rfl
theorem s_X11_findGroups : Cond.selects yX11_findGroups.cls yX11_findGroups yX11_findGroups ∈ BIG := sel_in (n := 43) (i := 59) (by decide +kernel)
theorem m_5_179 : Cond.code yX11_findGroups cX11_findGroups 5 none ∈ BIG := tb_in (i := 179) tb_c5 (rfl) rfl
theorem dn_X11_findGroups : yX11_findGroups.cls ≠ "java/lang/invoke/MethodHandle" ∧ yX11_findGroups.cls ≠ "java/lang/invoke/VarHandle" ∧ (parseMethodDescriptor yX11_findGroups.desc).map (fun d => d.parameters.length) = some 0 := by decide +kernel
theorem b_vb_RX11_292 : VB RX11 292 RX11 yX11_findGroups (.code yX11_findGroups cX11_findGroups 5 none) 0 := ⟨⟨all4 m_5_176 m_5_178 s_X11_findGroups m_0_12, m_5_179⟩, rfl, dn_X11_findGroups⟩
theorem m_5_212 : Cond.methodLink RX11 300 yX11_has ∈ BIG := tb_in (i := 212) tb_c5 (by decide +kernel) rfl
theorem m_5_214 : Cond.instanceMethod yX11_has ∈ BIG := tb_in (i := 214) tb_c5 (by decide +kernel) rfl
theorem s_X11_has : Cond.selects yX11_has.cls yX11_has yX11_has ∈ BIG := sel_in (n := 43) (i := 61) (by decide +kernel)
theorem m_5_215 : Cond.code yX11_has cX11_has 4 (some .boolean) ∈ BIG := tb_in (i := 215) tb_c5 (rfl) rfl
theorem dn_X11_has : yX11_has.cls ≠ "java/lang/invoke/MethodHandle" ∧ yX11_has.cls ≠ "java/lang/invoke/VarHandle" ∧ (parseMethodDescriptor yX11_has.desc).map (fun d => d.parameters.length) = some 3 := by decide +kernel
theorem b_vb_RX11_300 : VB RX11 300 RX11 yX11_has (.code yX11_has cX11_has 4 (some .boolean)) 3 := ⟨⟨all4 m_5_212 m_5_214 s_X11_has m_0_12, m_5_215⟩, rfl, dn_X11_has⟩
theorem m_6_2 : Cond.methodLink RX11 310 yX11_fullest ∈ BIG := tb_in (i := 2) tb_c6 (by decide +kernel) rfl
theorem m_6_4 : Cond.instanceMethod yX11_fullest ∈ BIG := tb_in (i := 4) tb_c6 (by decide +kernel) rfl
theorem s_X11_fullest : Cond.selects yX11_fullest.cls yX11_fullest yX11_fullest ∈ BIG := sel_in (n := 43) (i := 62) (by decide +kernel)
theorem m_6_5 : Cond.code yX11_fullest cX11_fullest 6 (some .int) ∈ BIG := tb_in (i := 5) tb_c6 (rfl) rfl
theorem dn_X11_fullest : yX11_fullest.cls ≠ "java/lang/invoke/MethodHandle" ∧ yX11_fullest.cls ≠ "java/lang/invoke/VarHandle" ∧ (parseMethodDescriptor yX11_fullest.desc).map (fun d => d.parameters.length) = some 0 := by decide +kernel
theorem b_vb_RX11_310 : VB RX11 310 RX11 yX11_fullest (.code yX11_fullest cX11_fullest 6 (some .int)) 0 := ⟨⟨all4 m_6_2 m_6_4 s_X11_fullest m_0_12, m_6_5⟩, rfl, dn_X11_fullest⟩
theorem m_6_6 : Cond.methodLink RX11 313 yX11_flowAll ∈ BIG := tb_in (i := 6) tb_c6 (by decide +kernel) rfl
theorem m_6_8 : Cond.instanceMethod yX11_flowAll ∈ BIG := tb_in (i := 8) tb_c6 (by decide +kernel) rfl
theorem s_X11_flowAll : Cond.selects yX11_flowAll.cls yX11_flowAll yX11_flowAll ∈ BIG := sel_in (n := 43) (i := 63) (by decide +kernel)
theorem m_6_9 : Cond.code yX11_flowAll cX11_flowAll 3 (some .int) ∈ BIG := tb_in (i := 9) tb_c6 (rfl) rfl
theorem dn_X11_flowAll : yX11_flowAll.cls ≠ "java/lang/invoke/MethodHandle" ∧ yX11_flowAll.cls ≠ "java/lang/invoke/VarHandle" ∧ (parseMethodDescriptor yX11_flowAll.desc).map (fun d => d.parameters.length) = some 0 := by decide +kernel
theorem b_vb_RX11_313 : VB RX11 313 RX11 yX11_flowAll (.code yX11_flowAll cX11_flowAll 3 (some .int)) 0 := ⟨⟨all4 m_6_6 m_6_8 s_X11_flowAll m_0_12, m_6_9⟩, rfl, dn_X11_flowAll⟩
theorem m_2_17 : Cond.methodLink RX2 72 yX4_leaks ∈ BIG := tb_in (i := 17) tb_c2 (by decide +kernel) rfl
theorem b_vb_RX2_72 : VB RX2 72 RX4 yX4_leaks (.code yX4_leaks cX4_leaks 2 (some .int)) 1 := ⟨⟨all4 m_2_17 m_1_189 m_1_190 m_0_4, m_1_191⟩, rfl, dn_X4_leaks⟩
theorem m_2_18 : Cond.methodLink RX2 78 yX0_weight ∈ BIG := tb_in (i := 18) tb_c2 (by decide +kernel) rfl
theorem b_vb_RX2_78 : VB RX2 78 RX0 yX0_weight (.code yX0_weight cX0_weight 5 (some .int)) 2 := ⟨⟨all4 m_2_18 m_1_208 m_1_209 m_0_3, m_1_210⟩, rfl, dn_X0_weight⟩
theorem m_2_19 : Cond.methodLink RX2 81 yX4_isRightAboveOrBelow ∈ BIG := tb_in (i := 19) tb_c2 (by decide +kernel) rfl
theorem b_vb_RX2_81 : VB RX2 81 RX4 yX4_isRightAboveOrBelow (.code yX4_isRightAboveOrBelow cX4_isRightAboveOrBelow 2 (some .boolean)) 1 := ⟨⟨all4 m_2_19 m_2_20 m_2_21 m_0_4, m_2_22⟩, rfl, dn_X4_isRightAboveOrBelow⟩
theorem m_2_26 : Cond.methodLink RX2 85 yX4_isBeside ∈ BIG := tb_in (i := 26) tb_c2 (by decide +kernel) rfl
theorem m_2_27 : Cond.instanceMethod yX4_isBeside ∈ BIG := tb_in (i := 27) tb_c2 (by decide +kernel) rfl
theorem m_2_28 : Cond.selects yX4_isBeside.cls yX4_isBeside yX4_isBeside ∈ BIG := tb_in (i := 28) tb_c2 (by decide +kernel) rfl
theorem m_2_29 : Cond.code yX4_isBeside cX4_isBeside 2 (some .boolean) ∈ BIG := tb_in (i := 29) tb_c2 (rfl) rfl
theorem dn_X4_isBeside : yX4_isBeside.cls ≠ "java/lang/invoke/MethodHandle" ∧ yX4_isBeside.cls ≠ "java/lang/invoke/VarHandle" ∧ (parseMethodDescriptor yX4_isBeside.desc).map (fun d => d.parameters.length) = some 1 := by decide +kernel
theorem b_vb_RX2_85 : VB RX2 85 RX4 yX4_isBeside (.code yX4_isBeside cX4_isBeside 2 (some .boolean)) 1 := ⟨⟨all4 m_2_26 m_2_27 m_2_28 m_0_4, m_2_29⟩, rfl, dn_X4_isBeside⟩
theorem m_2_30 : Cond.methodLink RX2 88 yX2_addWall ∈ BIG := tb_in (i := 30) tb_c2 (by decide +kernel) rfl
theorem m_2_32 : Cond.instanceMethod yX2_addWall ∈ BIG := tb_in (i := 32) tb_c2 (by decide +kernel) rfl
theorem s_X2_addWall : Cond.selects yX2_addWall.cls yX2_addWall yX2_addWall ∈ BIG := sel_in (n := 14) (i := 2) (by decide +kernel)
theorem m_2_33 : Cond.code yX2_addWall cX2_addWall 3 none ∈ BIG := tb_in (i := 33) tb_c2 (rfl) rfl
theorem dn_X2_addWall : yX2_addWall.cls ≠ "java/lang/invoke/MethodHandle" ∧ yX2_addWall.cls ≠ "java/lang/invoke/VarHandle" ∧ (parseMethodDescriptor yX2_addWall.desc).map (fun d => d.parameters.length) = some 2 := by decide +kernel
theorem b_vb_RX2_88 : VB RX2 88 RX2 yX2_addWall (.code yX2_addWall cX2_addWall 3 none) 2 := ⟨⟨all4 m_2_30 m_2_32 s_X2_addWall m_0_9, m_2_33⟩, rfl, dn_X2_addWall⟩
theorem m_2_34 : Cond.methodLink RX2 92 yX2_restart ∈ BIG := tb_in (i := 34) tb_c2 (by decide +kernel) rfl
theorem m_2_35 : Cond.instanceMethod yX2_restart ∈ BIG := tb_in (i := 35) tb_c2 (by decide +kernel) rfl
theorem m_2_36 : Cond.selects yX2_restart.cls yX2_restart yX2_restart ∈ BIG := tb_in (i := 36) tb_c2 (by decide +kernel) rfl
theorem m_2_37 : Cond.code yX2_restart cX2_restart 3 none ∈ BIG := tb_in (i := 37) tb_c2 (rfl) rfl
theorem dn_X2_restart : yX2_restart.cls ≠ "java/lang/invoke/MethodHandle" ∧ yX2_restart.cls ≠ "java/lang/invoke/VarHandle" ∧ (parseMethodDescriptor yX2_restart.desc).map (fun d => d.parameters.length) = some 0 := by decide +kernel
theorem b_vb_RX2_92 : VB RX2 92 RX2 yX2_restart (.code yX2_restart cX2_restart 3 none) 0 := ⟨⟨all4 m_2_34 m_2_35 m_2_36 m_0_9, m_2_37⟩, rfl, dn_X2_restart⟩
theorem m_3_57 : Cond.methodLink RX2 99 yX2_goHour ∈ BIG := tb_in (i := 57) tb_c3 (by decide +kernel) rfl
theorem b_vb_RX2_99 : VB RX2 99 RX2 yX2_goHour (.code yX2_goHour cX2_goHour 5 none) 0 := ⟨⟨all4 m_3_57 m_2_44 m_2_45 m_0_9, m_2_46⟩, rfl, dn_X2_goHour⟩
theorem m_3_70 : Cond.methodLink RX3 30 yX2_begin ∈ BIG := tb_in (i := 70) tb_c3 (by decide +kernel) rfl
theorem b_vb_RX3_30 : VB RX3 30 RX2 yX2_begin (.code yX2_begin cX2_begin 5 none) 1 := ⟨⟨all4 m_3_70 m_2_14 m_2_15 m_0_9, m_2_16⟩, rfl, dn_X2_begin⟩
theorem m_3_71 : Cond.methodLink RX3 36 yX3_isGood ∈ BIG := tb_in (i := 71) tb_c3 (by decide +kernel) rfl
theorem m_3_73 : Cond.instanceMethod yX3_isGood ∈ BIG := tb_in (i := 73) tb_c3 (by decide +kernel) rfl
theorem s_X3_isGood : Cond.selects yX3_isGood.cls yX3_isGood yX3_isGood ∈ BIG := sel_in (n := 5) (i := 16) (by decide +kernel)
theorem m_3_74 : Cond.code yX3_isGood cX3_isGood 2 (some .boolean) ∈ BIG := tb_in (i := 74) tb_c3 (rfl) rfl
theorem dn_X3_isGood : yX3_isGood.cls ≠ "java/lang/invoke/MethodHandle" ∧ yX3_isGood.cls ≠ "java/lang/invoke/VarHandle" ∧ (parseMethodDescriptor yX3_isGood.desc).map (fun d => d.parameters.length) = some 0 := by decide +kernel
theorem b_vb_RX3_36 : VB RX3 36 RX3 yX3_isGood (.code yX3_isGood cX3_isGood 2 (some .boolean)) 0 := ⟨⟨all4 m_3_71 m_3_73 s_X3_isGood m_0_10, m_3_74⟩, rfl, dn_X3_isGood⟩
theorem m_3_82 : Cond.methodLink RX3 40 yX3_seekOne ∈ BIG := tb_in (i := 82) tb_c3 (by decide +kernel) rfl
theorem m_3_84 : Cond.instanceMethod yX3_seekOne ∈ BIG := tb_in (i := 84) tb_c3 (by decide +kernel) rfl
theorem s_X3_seekOne : Cond.selects yX3_seekOne.cls yX3_seekOne yX3_seekOne ∈ BIG := sel_in (n := 5) (i := 17) (by decide +kernel)
theorem m_3_85 : Cond.code yX3_seekOne cX3_seekOne 2 (some .boolean) ∈ BIG := tb_in (i := 85) tb_c3 (rfl) rfl
theorem dn_X3_seekOne : yX3_seekOne.cls ≠ "java/lang/invoke/MethodHandle" ∧ yX3_seekOne.cls ≠ "java/lang/invoke/VarHandle" ∧ (parseMethodDescriptor yX3_seekOne.desc).map (fun d => d.parameters.length) = some 0 := by decide +kernel
theorem b_vb_RX3_40 : VB RX3 40 RX3 yX3_seekOne (.code yX3_seekOne cX3_seekOne 2 (some .boolean)) 0 := ⟨⟨all4 m_3_82 m_3_84 s_X3_seekOne m_0_10, m_3_85⟩, rfl, dn_X3_seekOne⟩
theorem m_3_91 : Cond.methodLink RX3 43 yX3_seekTwo ∈ BIG := tb_in (i := 91) tb_c3 (by decide +kernel) rfl
theorem m_3_93 : Cond.instanceMethod yX3_seekTwo ∈ BIG := tb_in (i := 93) tb_c3 (by decide +kernel) rfl
theorem s_X3_seekTwo : Cond.selects yX3_seekTwo.cls yX3_seekTwo yX3_seekTwo ∈ BIG := sel_in (n := 5) (i := 19) (by decide +kernel)
theorem m_3_94 : Cond.code yX3_seekTwo cX3_seekTwo 4 (some .boolean) ∈ BIG := tb_in (i := 94) tb_c3 (rfl) rfl
theorem dn_X3_seekTwo : yX3_seekTwo.cls ≠ "java/lang/invoke/MethodHandle" ∧ yX3_seekTwo.cls ≠ "java/lang/invoke/VarHandle" ∧ (parseMethodDescriptor yX3_seekTwo.desc).map (fun d => d.parameters.length) = some 0 := by decide +kernel
theorem b_vb_RX3_43 : VB RX3 43 RX3 yX3_seekTwo (.code yX3_seekTwo cX3_seekTwo 4 (some .boolean)) 0 := ⟨⟨all4 m_3_91 m_3_93 s_X3_seekTwo m_0_10, m_3_94⟩, rfl, dn_X3_seekTwo⟩
theorem m_3_86 : Cond.methodLink RX3 61 yX3_isOneEnough ∈ BIG := tb_in (i := 86) tb_c3 (by decide +kernel) rfl
theorem m_3_88 : Cond.instanceMethod yX3_isOneEnough ∈ BIG := tb_in (i := 88) tb_c3 (by decide +kernel) rfl
theorem s_X3_isOneEnough : Cond.selects yX3_isOneEnough.cls yX3_isOneEnough yX3_isOneEnough ∈ BIG := sel_in (n := 5) (i := 18) (by decide +kernel)
theorem m_3_89 : Cond.code yX3_isOneEnough cX3_isOneEnough 4 (some .boolean) ∈ BIG := tb_in (i := 89) tb_c3 (rfl) rfl
theorem dn_X3_isOneEnough : yX3_isOneEnough.cls ≠ "java/lang/invoke/MethodHandle" ∧ yX3_isOneEnough.cls ≠ "java/lang/invoke/VarHandle" ∧ (parseMethodDescriptor yX3_isOneEnough.desc).map (fun d => d.parameters.length) = some 1 := by decide +kernel
theorem b_vb_RX3_61 : VB RX3 61 RX3 yX3_isOneEnough (.code yX3_isOneEnough cX3_isOneEnough 4 (some .boolean)) 1 := ⟨⟨all4 m_3_86 m_3_88 s_X3_isOneEnough m_0_10, m_3_89⟩, rfl, dn_X3_isOneEnough⟩
theorem m_3_95 : Cond.methodLink RX3 65 yX3_areTwoEnough ∈ BIG := tb_in (i := 95) tb_c3 (by decide +kernel) rfl
theorem m_3_97 : Cond.instanceMethod yX3_areTwoEnough ∈ BIG := tb_in (i := 97) tb_c3 (by decide +kernel) rfl
theorem s_X3_areTwoEnough : Cond.selects yX3_areTwoEnough.cls yX3_areTwoEnough yX3_areTwoEnough ∈ BIG := sel_in (n := 5) (i := 20) (by decide +kernel)
theorem m_3_98 : Cond.code yX3_areTwoEnough cX3_areTwoEnough 5 (some .boolean) ∈ BIG := tb_in (i := 98) tb_c3 (rfl) rfl
theorem dn_X3_areTwoEnough : yX3_areTwoEnough.cls ≠ "java/lang/invoke/MethodHandle" ∧ yX3_areTwoEnough.cls ≠ "java/lang/invoke/VarHandle" ∧ (parseMethodDescriptor yX3_areTwoEnough.desc).map (fun d => d.parameters.length) = some 2 := by decide +kernel
theorem b_vb_RX3_65 : VB RX3 65 RX3 yX3_areTwoEnough (.code yX3_areTwoEnough cX3_areTwoEnough 5 (some .boolean)) 2 := ⟨⟨all4 m_3_95 m_3_97 s_X3_areTwoEnough m_0_10, m_3_98⟩, rfl, dn_X3_areTwoEnough⟩
theorem m_3_90 : Cond.methodLink RX3 75 yX0_weight ∈ BIG := tb_in (i := 90) tb_c3 (by decide +kernel) rfl
theorem b_vb_RX3_75 : VB RX3 75 RX0 yX0_weight (.code yX0_weight cX0_weight 5 (some .int)) 2 := ⟨⟨all4 m_3_90 m_1_208 m_1_209 m_0_3, m_1_210⟩, rfl, dn_X0_weight⟩
theorem m_3_75 : Cond.methodLink RX3 78 yX2_restart ∈ BIG := tb_in (i := 75) tb_c3 (by decide +kernel) rfl
theorem b_vb_RX3_78 : VB RX3 78 RX2 yX2_restart (.code yX2_restart cX2_restart 3 none) 0 := ⟨⟨all4 m_3_75 m_2_35 m_2_36 m_0_9, m_2_37⟩, rfl, dn_X2_restart⟩
theorem m_3_76 : Cond.methodLink RX3 81 yX2_goHour ∈ BIG := tb_in (i := 76) tb_c3 (by decide +kernel) rfl
theorem b_vb_RX3_81 : VB RX3 81 RX2 yX2_goHour (.code yX2_goHour cX2_goHour 5 none) 0 := ⟨⟨all4 m_3_76 m_2_44 m_2_45 m_0_9, m_2_46⟩, rfl, dn_X2_goHour⟩
theorem m_3_77 : Cond.methodLink RX3 84 yX2_isAllEven ∈ BIG := tb_in (i := 77) tb_c3 (by decide +kernel) rfl
theorem m_3_78 : Cond.instanceMethod yX2_isAllEven ∈ BIG := tb_in (i := 78) tb_c3 (by decide +kernel) rfl
theorem m_3_79 : Cond.selects yX2_isAllEven.cls yX2_isAllEven yX2_isAllEven ∈ BIG := tb_in (i := 79) tb_c3 (by decide +kernel) rfl
theorem m_3_80 : Cond.code yX2_isAllEven cX2_isAllEven 3 (some .boolean) ∈ BIG := tb_in (i := 80) tb_c3 (rfl) rfl
theorem dn_X2_isAllEven : yX2_isAllEven.cls ≠ "java/lang/invoke/MethodHandle" ∧ yX2_isAllEven.cls ≠ "java/lang/invoke/VarHandle" ∧ (parseMethodDescriptor yX2_isAllEven.desc).map (fun d => d.parameters.length) = some 1 := by decide +kernel
theorem b_vb_RX3_84 : VB RX3 84 RX2 yX2_isAllEven (.code yX2_isAllEven cX2_isAllEven 3 (some .boolean)) 1 := ⟨⟨all4 m_3_77 m_3_78 m_3_79 m_0_9, m_3_80⟩, rfl, dn_X2_isAllEven⟩
theorem m_3_208 : Cond.methodLink RX4 49 yX4_becomeNew ∈ BIG := tb_in (i := 208) tb_c3 (by decide +kernel) rfl
theorem b_vb_RX4_49 : VB RX4 49 RX4 yX4_becomeNew (.code yX4_becomeNew cX4_becomeNew 5 none) 4 := ⟨⟨all4 m_3_208 m_1_173 m_1_174 m_0_4, m_1_175⟩, rfl, dn_X4_becomeNew⟩
theorem m_1_192 : Cond.methodLink RX4 53 yX4_leaksShut ∈ BIG := tb_in (i := 192) tb_c1 (by decide +kernel) rfl
theorem m_1_194 : Cond.instanceMethod yX4_leaksShut ∈ BIG := tb_in (i := 194) tb_c1 (by decide +kernel) rfl
theorem s_X4_leaksShut : Cond.selects yX4_leaksShut.cls yX4_leaksShut yX4_leaksShut ∈ BIG := sel_in (n := 12) (i := 1) (by decide +kernel)
theorem m_1_195 : Cond.code yX4_leaksShut cX4_leaksShut 3 (some .int) ∈ BIG := tb_in (i := 195) tb_c1 (rfl) rfl
theorem dn_X4_leaksShut : yX4_leaksShut.cls ≠ "java/lang/invoke/MethodHandle" ∧ yX4_leaksShut.cls ≠ "java/lang/invoke/VarHandle" ∧ (parseMethodDescriptor yX4_leaksShut.desc).map (fun d => d.parameters.length) = some 1 := by decide +kernel
theorem b_vb_RX4_53 : VB RX4 53 RX4 yX4_leaksShut (.code yX4_leaksShut cX4_leaksShut 3 (some .int)) 1 := ⟨⟨all4 m_1_192 m_1_194 s_X4_leaksShut m_0_4, m_1_195⟩, rfl, dn_X4_leaksShut⟩
theorem m_2_99 : Cond.methodLink RX5 108 yX5_expect ∈ BIG := tb_in (i := 99) tb_c2 (by decide +kernel) rfl
theorem m_2_101 : Cond.instanceMethod yX5_expect ∈ BIG := tb_in (i := 101) tb_c2 (by decide +kernel) rfl
theorem s_X5_expect : Cond.selects yX5_expect.cls yX5_expect yX5_expect ∈ BIG := sel_in (n := 4) (i := 9) (by decide +kernel)
theorem m_2_102 : Cond.code yX5_expect cX5_expect 2 none ∈ BIG := tb_in (i := 102) tb_c2 (rfl) rfl
theorem dn_X5_expect : yX5_expect.cls ≠ "java/lang/invoke/MethodHandle" ∧ yX5_expect.cls ≠ "java/lang/invoke/VarHandle" ∧ (parseMethodDescriptor yX5_expect.desc).map (fun d => d.parameters.length) = some 1 := by decide +kernel
theorem b_vb_RX5_108 : VB RX5 108 RX5 yX5_expect (.code yX5_expect cX5_expect 2 none) 1 := ⟨⟨all4 m_2_99 m_2_101 s_X5_expect m_0_7, m_2_102⟩, rfl, dn_X5_expect⟩
theorem m_2_72 : Cond.methodLink RX5 26 yX5_readSum ∈ BIG := tb_in (i := 72) tb_c2 (by decide +kernel) rfl
theorem m_2_74 : Cond.instanceMethod yX5_readSum ∈ BIG := tb_in (i := 74) tb_c2 (by decide +kernel) rfl
theorem s_X5_readSum : Cond.selects yX5_readSum.cls yX5_readSum yX5_readSum ∈ BIG := sel_in (n := 4) (i := 3) (by decide +kernel)
theorem m_2_75 : Cond.code yX5_readSum cX5_readSum 6 (some .int) ∈ BIG := tb_in (i := 75) tb_c2 (rfl) rfl
theorem dn_X5_readSum : yX5_readSum.cls ≠ "java/lang/invoke/MethodHandle" ∧ yX5_readSum.cls ≠ "java/lang/invoke/VarHandle" ∧ (parseMethodDescriptor yX5_readSum.desc).map (fun d => d.parameters.length) = some 1 := by decide +kernel
theorem b_vb_RX5_26 : VB RX5 26 RX5 yX5_readSum (.code yX5_readSum cX5_readSum 6 (some .int)) 1 := ⟨⟨all4 m_2_72 m_2_74 s_X5_readSum m_0_7, m_2_75⟩, rfl, dn_X5_readSum⟩
theorem m_2_103 : Cond.methodLink RX5 35 yX5_fail ∈ BIG := tb_in (i := 103) tb_c2 (by decide +kernel) rfl
theorem m_2_105 : Cond.instanceMethod yX5_fail ∈ BIG := tb_in (i := 105) tb_c2 (by decide +kernel) rfl
theorem s_X5_fail : Cond.selects yX5_fail.cls yX5_fail yX5_fail ∈ BIG := sel_in (n := 4) (i := 10) (by decide +kernel)
theorem m_2_106 : Cond.code yX5_fail cX5_fail 1 none ∈ BIG := tb_in (i := 106) tb_c2 (rfl) rfl
theorem dn_X5_fail : yX5_fail.cls ≠ "java/lang/invoke/MethodHandle" ∧ yX5_fail.cls ≠ "java/lang/invoke/VarHandle" ∧ (parseMethodDescriptor yX5_fail.desc).map (fun d => d.parameters.length) = some 0 := by decide +kernel
theorem b_vb_RX5_35 : VB RX5 35 RX5 yX5_fail (.code yX5_fail cX5_fail 1 none) 0 := ⟨⟨all4 m_2_103 m_2_105 s_X5_fail m_0_7, m_2_106⟩, rfl, dn_X5_fail⟩
theorem m_2_84 : Cond.methodLink RX5 70 yX5_next ∈ BIG := tb_in (i := 84) tb_c2 (by decide +kernel) rfl
theorem m_2_86 : Cond.instanceMethod yX5_next ∈ BIG := tb_in (i := 86) tb_c2 (by decide +kernel) rfl
theorem s_X5_next : Cond.selects yX5_next.cls yX5_next yX5_next ∈ BIG := sel_in (n := 4) (i := 6) (by decide +kernel)
theorem m_2_87 : Cond.code yX5_next cX5_next 1 (some .int) ∈ BIG := tb_in (i := 87) tb_c2 (rfl) rfl
theorem dn_X5_next : yX5_next.cls ≠ "java/lang/invoke/MethodHandle" ∧ yX5_next.cls ≠ "java/lang/invoke/VarHandle" ∧ (parseMethodDescriptor yX5_next.desc).map (fun d => d.parameters.length) = some 0 := by decide +kernel
theorem b_vb_RX5_70 : VB RX5 70 RX5 yX5_next (.code yX5_next cX5_next 1 (some .int)) 0 := ⟨⟨all4 m_2_84 m_2_86 s_X5_next m_0_7, m_2_87⟩, rfl, dn_X5_next⟩
theorem m_2_76 : Cond.methodLink RX5 74 yX5_readProduct ∈ BIG := tb_in (i := 76) tb_c2 (by decide +kernel) rfl
theorem m_2_78 : Cond.instanceMethod yX5_readProduct ∈ BIG := tb_in (i := 78) tb_c2 (by decide +kernel) rfl
theorem s_X5_readProduct : Cond.selects yX5_readProduct.cls yX5_readProduct yX5_readProduct ∈ BIG := sel_in (n := 4) (i := 4) (by decide +kernel)
theorem m_2_79 : Cond.code yX5_readProduct cX5_readProduct 6 (some .int) ∈ BIG := tb_in (i := 79) tb_c2 (rfl) rfl
theorem dn_X5_readProduct : yX5_readProduct.cls ≠ "java/lang/invoke/MethodHandle" ∧ yX5_readProduct.cls ≠ "java/lang/invoke/VarHandle" ∧ (parseMethodDescriptor yX5_readProduct.desc).map (fun d => d.parameters.length) = some 1 := by decide +kernel
theorem b_vb_RX5_74 : VB RX5 74 RX5 yX5_readProduct (.code yX5_readProduct cX5_readProduct 6 (some .int)) 1 := ⟨⟨all4 m_2_76 m_2_78 s_X5_readProduct m_0_7, m_2_79⟩, rfl, dn_X5_readProduct⟩
theorem m_2_80 : Cond.methodLink RX5 77 yX5_readFactor ∈ BIG := tb_in (i := 80) tb_c2 (by decide +kernel) rfl
theorem m_2_82 : Cond.instanceMethod yX5_readFactor ∈ BIG := tb_in (i := 82) tb_c2 (by decide +kernel) rfl
theorem s_X5_readFactor : Cond.selects yX5_readFactor.cls yX5_readFactor yX5_readFactor ∈ BIG := sel_in (n := 4) (i := 5) (by decide +kernel)
theorem m_2_83 : Cond.code yX5_readFactor cX5_readFactor 4 (some .int) ∈ BIG := tb_in (i := 83) tb_c2 (rfl) rfl
theorem dn_X5_readFactor : yX5_readFactor.cls ≠ "java/lang/invoke/MethodHandle" ∧ yX5_readFactor.cls ≠ "java/lang/invoke/VarHandle" ∧ (parseMethodDescriptor yX5_readFactor.desc).map (fun d => d.parameters.length) = some 1 := by decide +kernel
theorem b_vb_RX5_77 : VB RX5 77 RX5 yX5_readFactor (.code yX5_readFactor cX5_readFactor 4 (some .int)) 1 := ⟨⟨all4 m_2_80 m_2_82 s_X5_readFactor m_0_7, m_2_83⟩, rfl, dn_X5_readFactor⟩
theorem m_2_91 : Cond.methodLink RX5 88 yX5_readNumber ∈ BIG := tb_in (i := 91) tb_c2 (by decide +kernel) rfl
theorem m_2_93 : Cond.instanceMethod yX5_readNumber ∈ BIG := tb_in (i := 93) tb_c2 (by decide +kernel) rfl
theorem s_X5_readNumber : Cond.selects yX5_readNumber.cls yX5_readNumber yX5_readNumber ∈ BIG := sel_in (n := 4) (i := 7) (by decide +kernel)
theorem m_2_94 : Cond.code yX5_readNumber cX5_readNumber 3 (some .int) ∈ BIG := tb_in (i := 94) tb_c2 (rfl) rfl
theorem dn_X5_readNumber : yX5_readNumber.cls ≠ "java/lang/invoke/MethodHandle" ∧ yX5_readNumber.cls ≠ "java/lang/invoke/VarHandle" ∧ (parseMethodDescriptor yX5_readNumber.desc).map (fun d => d.parameters.length) = some 0 := by decide +kernel
theorem b_vb_RX5_88 : VB RX5 88 RX5 yX5_readNumber (.code yX5_readNumber cX5_readNumber 3 (some .int)) 0 := ⟨⟨all4 m_2_91 m_2_93 s_X5_readNumber m_0_7, m_2_94⟩, rfl, dn_X5_readNumber⟩
theorem m_2_95 : Cond.methodLink RX5 91 yX5_readBracket ∈ BIG := tb_in (i := 95) tb_c2 (by decide +kernel) rfl
theorem m_2_97 : Cond.instanceMethod yX5_readBracket ∈ BIG := tb_in (i := 97) tb_c2 (by decide +kernel) rfl
theorem s_X5_readBracket : Cond.selects yX5_readBracket.cls yX5_readBracket yX5_readBracket ∈ BIG := sel_in (n := 4) (i := 8) (by decide +kernel)
theorem m_2_98 : Cond.code yX5_readBracket cX5_readBracket 3 (some .int) ∈ BIG := tb_in (i := 98) tb_c2 (rfl) rfl
theorem dn_X5_readBracket : yX5_readBracket.cls ≠ "java/lang/invoke/MethodHandle" ∧ yX5_readBracket.cls ≠ "java/lang/invoke/VarHandle" ∧ (parseMethodDescriptor yX5_readBracket.desc).map (fun d => d.parameters.length) = some 1 := by decide +kernel
theorem b_vb_RX5_91 : VB RX5 91 RX5 yX5_readBracket (.code yX5_readBracket cX5_readBracket 3 (some .int)) 1 := ⟨⟨all4 m_2_95 m_2_97 s_X5_readBracket m_0_7, m_2_98⟩, rfl, dn_X5_readBracket⟩
theorem m_2_107 : Cond.methodLink RX5 94 yX5_readChoice ∈ BIG := tb_in (i := 107) tb_c2 (by decide +kernel) rfl
theorem m_2_109 : Cond.instanceMethod yX5_readChoice ∈ BIG := tb_in (i := 109) tb_c2 (by decide +kernel) rfl
theorem s_X5_readChoice : Cond.selects yX5_readChoice.cls yX5_readChoice yX5_readChoice ∈ BIG := sel_in (n := 4) (i := 11) (by decide +kernel)
theorem m_2_110 : Cond.code yX5_readChoice cX5_readChoice 5 (some .int) ∈ BIG := tb_in (i := 110) tb_c2 (rfl) rfl
theorem dn_X5_readChoice : yX5_readChoice.cls ≠ "java/lang/invoke/MethodHandle" ∧ yX5_readChoice.cls ≠ "java/lang/invoke/VarHandle" ∧ (parseMethodDescriptor yX5_readChoice.desc).map (fun d => d.parameters.length) = some 1 := by decide +kernel
theorem b_vb_RX5_94 : VB RX5 94 RX5 yX5_readChoice (.code yX5_readChoice cX5_readChoice 5 (some .int)) 1 := ⟨⟨all4 m_2_107 m_2_109 s_X5_readChoice m_0_7, m_2_110⟩, rfl, dn_X5_readChoice⟩
theorem m_2_112 : Cond.methodLink RX5 99 yJ0_indexOf_0f7a4 ∈ BIG := tb_in (i := 112) tb_c2 (by decide +kernel) rfl
theorem m_2_113 : Cond.instanceMethod yJ0_indexOf_0f7a4 ∈ BIG := tb_in (i := 113) tb_c2 (by decide +kernel) rfl
theorem m_2_114 : Cond.selects yJ0_indexOf_0f7a4.cls yJ0_indexOf_0f7a4 yJ0_indexOf_0f7a4 ∈ BIG := tb_in (i := 114) tb_c2 (by decide +kernel) rfl
theorem m_2_115 : Cond.code yJ0_indexOf_0f7a4 cJ0_indexOf_0f7a4 2 (some .int) ∈ BIG := tb_in (i := 115) tb_c2 (rfl) rfl
theorem dn_J0_indexOf_0f7a4 : yJ0_indexOf_0f7a4.cls ≠ "java/lang/invoke/MethodHandle" ∧ yJ0_indexOf_0f7a4.cls ≠ "java/lang/invoke/VarHandle" ∧ (parseMethodDescriptor yJ0_indexOf_0f7a4.desc).map (fun d => d.parameters.length) = some 1 := by decide +kernel
theorem b_vb_RX5_99 : VB RX5 99 "java/lang/String" yJ0_indexOf_0f7a4 (.code yJ0_indexOf_0f7a4 cJ0_indexOf_0f7a4 2 (some .int)) 1 := ⟨⟨all4 m_2_112 m_2_113 m_2_114 m_0_14, m_2_115⟩, rfl, dn_J0_indexOf_0f7a4⟩
theorem m_3_200 : Cond.methodLink RX8 30 yX0_become ∈ BIG := tb_in (i := 200) tb_c3 (by decide +kernel) rfl
theorem m_3_201 : Cond.instanceMethod yX0_become ∈ BIG := tb_in (i := 201) tb_c3 (by decide +kernel) rfl
theorem m_3_202 : Cond.selects yX0_become.cls yX0_become yX0_become ∈ BIG := tb_in (i := 202) tb_c3 (by decide +kernel) rfl
theorem m_3_203 : Cond.code yX0_become cX0_become 3 none ∈ BIG := tb_in (i := 203) tb_c3 (rfl) rfl
theorem dn_X0_become : yX0_become.cls ≠ "java/lang/invoke/MethodHandle" ∧ yX0_become.cls ≠ "java/lang/invoke/VarHandle" ∧ (parseMethodDescriptor yX0_become.desc).map (fun d => d.parameters.length) = some 1 := by decide +kernel
theorem b_vb_RX8_30 : VB RX8 30 RX0 yX0_become (.code yX0_become cX0_become 3 none) 1 := ⟨⟨all4 m_3_200 m_3_201 m_3_202 m_0_3, m_3_203⟩, rfl, dn_X0_become⟩
theorem m_3_209 : Cond.methodLink RX8 34 yX9_become ∈ BIG := tb_in (i := 209) tb_c3 (by decide +kernel) rfl
theorem b_vb_RX8_34 : VB RX8 34 RX9 yX9_become (.code yX9_become cX9_become 3 none) 1 := ⟨⟨all4 m_3_209 m_2_199 m_2_200 m_0_5, m_2_201⟩, rfl, dn_X9_become⟩
theorem m_3_210 : Cond.methodLink RX8 37 yX1_become ∈ BIG := tb_in (i := 210) tb_c3 (by decide +kernel) rfl
theorem m_3_211 : Cond.instanceMethod yX1_become ∈ BIG := tb_in (i := 211) tb_c3 (by decide +kernel) rfl
theorem m_3_212 : Cond.selects yX1_become.cls yX1_become yX1_become ∈ BIG := tb_in (i := 212) tb_c3 (by decide +kernel) rfl
theorem m_3_213 : Cond.code yX1_become cX1_become 3 none ∈ BIG := tb_in (i := 213) tb_c3 (rfl) rfl
theorem dn_X1_become : yX1_become.cls ≠ "java/lang/invoke/MethodHandle" ∧ yX1_become.cls ≠ "java/lang/invoke/VarHandle" ∧ (parseMethodDescriptor yX1_become.desc).map (fun d => d.parameters.length) = some 1 := by decide +kernel
theorem b_vb_RX8_37 : VB RX8 37 RX1 yX1_become (.code yX1_become cX1_become 3 none) 1 := ⟨⟨all4 m_3_210 m_3_211 m_3_212 m_0_6, m_3_213⟩, rfl, dn_X1_become⟩
