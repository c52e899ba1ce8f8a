theorem dX11_goes_88 : decode cX11_goes 88 = .ok (.invokevirtual 135, 3) := by decide +kernel
theorem dX11_goes_91 : decode cX11_goes 91 = .ok (.iadd, 1) := by decide +kernel
theorem dX11_goes_92 : decode cX11_goes 92 = .ok (.aload_n 0, 1) := by decide +kernel
theorem dX11_goes_93 : decode cX11_goes 93 = .ok (.iload_n 3, 1) := by decide +kernel
theorem dX11_goes_94 : decode cX11_goes 94 = .ok (.aload_n 0, 1) := by decide +kernel
theorem dX11_goes_95 : decode cX11_goes 95 = .ok (.getfield 28, 3) := by decide +kernel
theorem dX11_goes_98 : decode cX11_goes 98 = .ok (.iload_n 3, 1) := by decide +kernel
theorem dX11_goes_99 : decode cX11_goes 99 = .ok (.iaload, 1) := by decide +kernel
theorem dX11_goes_100 : decode cX11_goes 100 = .ok (.invokevirtual 135, 3) := by decide +kernel
theorem dX11_goes_103 : decode cX11_goes 103 = .ok (.iadd, 1) := by decide +kernel
theorem dX11_goes_104 : decode cX11_goes 104 = .ok (.iastore, 1) := by decide +kernel
theorem dX11_goes_105 : decode cX11_goes 105 = .ok (.aload_n 0, 1) := by decide +kernel
theorem dX11_goes_106 : decode cX11_goes 106 = .ok (.getfield 46, 3) := by decide +kernel
theorem dX11_goes_109 : decode cX11_goes 109 = .ok (.iload_n 3, 1) := by decide +kernel
theorem dX11_goes_110 : decode cX11_goes 110 = .ok (.aload_n 0, 1) := by decide +kernel
theorem dX11_goes_111 : decode cX11_goes 111 = .ok (.getfield 43, 3) := by decide +kernel
theorem dX11_goes_114 : decode cX11_goes 114 = .ok (.iload_n 3, 1) := by decide +kernel
theorem dX11_goes_115 : decode cX11_goes 115 = .ok (.iaload, 1) := by decide +kernel
theorem dX11_goes_116 : decode cX11_goes 116 = .ok (.aload_n 0, 1) := by decide +kernel
theorem dX11_goes_117 : decode cX11_goes 117 = .ok (.getfield 49, 3) := by decide +kernel
theorem dX11_goes_120 : decode cX11_goes 120 = .ok (.iload_n 3, 1) := by decide +kernel
theorem dX11_goes_121 : decode cX11_goes 121 = .ok (.iaload, 1) := by decide +kernel
theorem dX11_goes_122 : decode cX11_goes 122 = .ok (.iadd, 1) := by decide +kernel
theorem dX11_goes_123 : decode cX11_goes 123 = .ok (.aload_n 0, 1) := by decide +kernel
theorem dX11_goes_124 : decode cX11_goes 124 = .ok (.getfield 40, 3) := by decide +kernel
theorem dX11_goes_127 : decode cX11_goes 127 = .ok (.iload_n 3, 1) := by decide +kernel
theorem dX11_goes_128 : decode cX11_goes 128 = .ok (.iaload, 1) := by decide +kernel
theorem dX11_goes_129 : decode cX11_goes 129 = .ok (.aload_n 0, 1) := by decide +kernel
theorem dX11_goes_130 : decode cX11_goes 130 = .ok (.getfield 43, 3) := by decide +kernel
theorem dX11_goes_133 : decode cX11_goes 133 = .ok (.iload_n 3, 1) := by decide +kernel
theorem dX11_goes_134 : decode cX11_goes 134 = .ok (.iaload, 1) := by decide +kernel
theorem dX11_goes_135 : decode cX11_goes 135 = .ok (.aload_n 0, 1) := by decide +kernel
theorem dX11_goes_136 : decode cX11_goes 136 = .ok (.getfield 9, 3) := by decide +kernel
theorem dX11_goes_139 : decode cX11_goes 139 = .ok (.iconst 1, 1) := by decide +kernel
theorem dX11_goes_140 : decode cX11_goes 140 = .ok (.iaload, 1) := by decide +kernel
theorem dX11_goes_141 : decode cX11_goes 141 = .ok (.isub, 1) := by decide +kernel
theorem dX11_goes_142 : decode cX11_goes 142 = .ok (.imul, 1) := by decide +kernel
theorem dX11_goes_143 : decode cX11_goes 143 = .ok (.sipush 1000, 3) := by decide +kernel
theorem dX11_goes_146 : decode cX11_goes 146 = .ok (.idiv, 1) := by decide +kernel
theorem dX11_goes_147 : decode cX11_goes 147 = .ok (.isub, 1) := by decide +kernel
theorem dX11_goes_148 : decode cX11_goes 148 = .ok (.aload_n 0, 1) := by decide +kernel
theorem dX11_goes_149 : decode cX11_goes 149 = .ok (.getfield 52, 3) := by decide +kernel
theorem dX11_goes_152 : decode cX11_goes 152 = .ok (.iload_n 3, 1) := by decide +kernel
theorem dX11_goes_153 : decode cX11_goes 153 = .ok (.iaload, 1) := by decide +kernel
theorem dX11_goes_154 : decode cX11_goes 154 = .ok (.iadd, 1) := by decide +kernel
theorem dX11_goes_155 : decode cX11_goes 155 = .ok (.iastore, 1) := by decide +kernel
theorem dX11_goes_156 : decode cX11_goes 156 = .ok (.iload_n 2, 1) := by decide +kernel
theorem dX11_goes_157 : decode cX11_goes 157 = .ok (.aload_n 0, 1) := by decide +kernel
theorem dX11_goes_158 : decode cX11_goes 158 = .ok (.getfield 49, 3) := by decide +kernel
theorem dX11_goes_161 : decode cX11_goes 161 = .ok (.iload_n 3, 1) := by decide +kernel
theorem dX11_goes_162 : decode cX11_goes 162 = .ok (.iaload, 1) := by decide +kernel
theorem dX11_goes_163 : decode cX11_goes 163 = .ok (.iadd, 1) := by decide +kernel
theorem dX11_goes_164 : decode cX11_goes 164 = .ok (.istore_n 2, 1) := by decide +kernel
theorem dX11_goes_165 : decode cX11_goes 165 = .ok (.iinc 3 1, 3) := by decide +kernel
theorem dX11_goes_168 : decode cX11_goes 168 = .ok (.goto (-164), 3) := by decide +kernel
theorem dX11_goes_171 : decode cX11_goes 171 = .ok (.iconst 0, 1) := by decide +kernel
theorem dX11_goes_172 : decode cX11_goes 172 = .ok (.istore_n 3, 1) := by decide +kernel
theorem dX11_goes_173 : decode cX11_goes 173 = .ok (.iload_n 3, 1) := by decide +kernel
theorem dX11_goes_174 : decode cX11_goes 174 = .ok (.aload_n 0, 1) := by decide +kernel
theorem dX11_goes_175 : decode cX11_goes 175 = .ok (.getfield 9, 3) := by decide +kernel
theorem dX11_goes_178 : decode cX11_goes 178 = .ok (.iconst 4, 1) := by decide +kernel
theorem dX11_goes_179 : decode cX11_goes 179 = .ok (.iaload, 1) := by decide +kernel
theorem dX11_goes_180 : decode cX11_goes 180 = .ok (.if_icmp .ge 21, 3) := by decide +kernel
theorem dX11_goes_183 : decode cX11_goes 183 = .ok (.aload_n 0, 1) := by decide +kernel
theorem dX11_goes_184 : decode cX11_goes 184 = .ok (.getfield 43, 3) := by decide +kernel
theorem dX11_goes_187 : decode cX11_goes 187 = .ok (.iload_n 3, 1) := by decide +kernel
theorem dX11_goes_188 : decode cX11_goes 188 = .ok (.aload_n 0, 1) := by decide +kernel
theorem dX11_goes_189 : decode cX11_goes 189 = .ok (.getfield 46, 3) := by decide +kernel
theorem dX11_goes_192 : decode cX11_goes 192 = .ok (.iload_n 3, 1) := by decide +kernel
theorem dX11_goes_193 : decode cX11_goes 193 = .ok (.iaload, 1) := by decide +kernel
theorem dX11_goes_194 : decode cX11_goes 194 = .ok (.iastore, 1) := by decide +kernel
theorem dX11_goes_195 : decode cX11_goes 195 = .ok (.iinc 3 1, 3) := by decide +kernel
theorem dX11_goes_198 : decode cX11_goes 198 = .ok (.goto (-25), 3) := by decide +kernel
theorem dX11_goes_201 : decode cX11_goes 201 = .ok (.iload_n 2, 1) := by decide +kernel
theorem dX11_goes_202 : decode cX11_goes 202 = .ok (.ireturn, 1) := by decide +kernel
theorem dX11_goesAll_0 : decode cX11_goesAll 0 = .ok (.iconst 0, 1) := by decide +kernel
theorem dX11_goesAll_1 : decode cX11_goesAll 1 = .ok (.istore_n 3, 1) := by decide +kernel
theorem dX11_goesAll_2 : decode cX11_goesAll 2 = .ok (.iconst 0, 1) := by decide +kernel
theorem dX11_goesAll_3 : decode cX11_goesAll 3 = .ok (.istore 4, 2) := by decide +kernel
theorem dX11_goesAll_5 : decode cX11_goesAll 5 = .ok (.iload 4, 2) := by decide +kernel
theorem dX11_goesAll_7 : decode cX11_goesAll 7 = .ok (.iload_n 2, 1) := by decide +kernel
theorem dX11_goesAll_8 : decode cX11_goesAll 8 = .ok (.if_icmp .ge 17, 3) := by decide +kernel
theorem dX11_goesAll_11 : decode cX11_goesAll 11 = .ok (.iload_n 3, 1) := by decide +kernel
theorem dX11_goesAll_12 : decode cX11_goesAll 12 = .ok (.aload_n 0, 1) := by decide +kernel
theorem dX11_goesAll_13 : decode cX11_goesAll 13 = .ok (.iload_n 1, 1) := by decide +kernel
theorem dX11_goesAll_14 : decode cX11_goesAll 14 = .ok (.invokevirtual 138, 3) := by decide +kernel
theorem dX11_goesAll_17 : decode cX11_goesAll 17 = .ok (.iadd, 1) := by decide +kernel
theorem dX11_goesAll_18 : decode cX11_goesAll 18 = .ok (.istore_n 3, 1) := by decide +kernel
theorem dX11_goesAll_19 : decode cX11_goesAll 19 = .ok (.iinc 4 1, 3) := by decide +kernel
theorem dX11_goesAll_22 : decode cX11_goesAll 22 = .ok (.goto (-17), 3) := by decide +kernel
theorem dX11_goesAll_25 : decode cX11_goesAll 25 = .ok (.iload_n 3, 1) := by decide +kernel
theorem dX11_goesAll_26 : decode cX11_goesAll 26 = .ok (.ireturn, 1) := by decide +kernel
theorem dX11_of_0 : decode cX11_of 0 = .ok (.aload_n 0, 1) := by decide +kernel
theorem dX11_of_1 : decode cX11_of 1 = .ok (.iload_n 1, 1) := by decide +kernel
theorem dX11_of_2 : decode cX11_of 2 = .ok (.invokevirtual 141, 3) := by decide +kernel
theorem dX11_of_5 : decode cX11_of 5 = .ok (.ifCond .eq 13, 3) := by decide +kernel
theorem dX11_of_8 : decode cX11_of 8 = .ok (.iload_n 2, 1) := by decide +kernel
theorem dX11_of_9 : decode cX11_of 9 = .ok (.iconst 0, 1) := by decide +kernel
theorem dX11_of_10 : decode cX11_of 10 = .ok (.bipush 14, 2) := by decide +kernel
theorem dX11_of_12 : decode cX11_of 12 = .ok (.invokestatic 97, 3) := by decide +kernel
theorem dX11_of_15 : decode cX11_of 15 = .ok (.ifCond .ne 10, 3) := by decide +kernel
theorem dX11_of_18 : decode cX11_of 18 = .ok (.aload_n 0, 1) := by decide +kernel
theorem dX11_of_19 : decode cX11_of 19 = .ok (.ldc 92, 2) := by decide +kernel
theorem dX11_of_21 : decode cX11_of 21 = .ok (.invokevirtual 109, 3) := by decide +kernel
theorem dX11_of_24 : decode cX11_of 24 = .ok (.ireturn, 1) := by decide +kernel
theorem dX11_of_25 : decode cX11_of 25 = .ok (.iload_n 2, 1) := by decide +kernel
theorem dX11_of_26 : decode cX11_of 26 = .ok (.tableswitch 106 0 10 #[58, 58, 65, 106, 106, 106, 106, 106, 71, 83, 95], 58) := by decide +kernel
theorem dX11_of_84 : decode cX11_of 84 = .ok (.aload_n 0, 1) := by decide +kernel
theorem dX11_of_85 : decode cX11_of 85 = .ok (.iload_n 1, 1) := by decide +kernel
theorem dX11_of_86 : decode cX11_of 86 = .ok (.iload_n 2, 1) := by decide +kernel
theorem dX11_of_87 : decode cX11_of 87 = .ok (.invokevirtual 101, 3) := by decide +kernel
theorem dX11_of_90 : decode cX11_of 90 = .ok (.ireturn, 1) := by decide +kernel
theorem dX11_of_91 : decode cX11_of 91 = .ok (.aload_n 0, 1) := by decide +kernel
theorem dX11_of_92 : decode cX11_of 92 = .ok (.iload_n 1, 1) := by decide +kernel
theorem dX11_of_93 : decode cX11_of 93 = .ok (.invokevirtual 114, 3) := by decide +kernel
theorem dX11_of_96 : decode cX11_of 96 = .ok (.ireturn, 1) := by decide +kernel
theorem dX11_of_97 : decode cX11_of 97 = .ok (.aload_n 0, 1) := by decide +kernel
theorem dX11_of_98 : decode cX11_of 98 = .ok (.iload_n 1, 1) := by decide +kernel
theorem dX11_of_99 : decode cX11_of 99 = .ok (.aload_n 0, 1) := by decide +kernel
theorem dX11_of_100 : decode cX11_of 100 = .ok (.iload_n 1, 1) := by decide +kernel
theorem dX11_of_101 : decode cX11_of 101 = .ok (.iconst 2, 1) := by decide +kernel
theorem dX11_of_102 : decode cX11_of 102 = .ok (.invokevirtual 101, 3) := by decide +kernel
theorem dX11_of_105 : decode cX11_of 105 = .ok (.invokevirtual 120, 3) := by decide +kernel
theorem dX11_of_108 : decode cX11_of 108 = .ok (.ireturn, 1) := by decide +kernel
theorem dX11_of_109 : decode cX11_of 109 = .ok (.aload_n 0, 1) := by decide +kernel
theorem dX11_of_110 : decode cX11_of 110 = .ok (.iload_n 1, 1) := by decide +kernel
theorem dX11_of_111 : decode cX11_of 111 = .ok (.aload_n 0, 1) := by decide +kernel
theorem dX11_of_112 : decode cX11_of 112 = .ok (.iload_n 1, 1) := by decide +kernel
theorem dX11_of_113 : decode cX11_of 113 = .ok (.iconst 3, 1) := by decide +kernel
theorem dX11_of_114 : decode cX11_of 114 = .ok (.invokevirtual 101, 3) := by decide +kernel
theorem dX11_of_117 : decode cX11_of 117 = .ok (.invokevirtual 129, 3) := by decide +kernel
theorem dX11_of_120 : decode cX11_of 120 = .ok (.ireturn, 1) := by decide +kernel
theorem dX11_of_121 : decode cX11_of 121 = .ok (.aload_n 0, 1) := by decide +kernel
theorem dX11_of_122 : decode cX11_of 122 = .ok (.invokevirtual 145, 3) := by decide +kernel
theorem dX11_of_125 : decode cX11_of 125 = .ok (.aload_n 0, 1) := by decide +kernel
theorem dX11_of_126 : decode cX11_of 126 = .ok (.getfield 37, 3) := by decide +kernel
theorem dX11_of_129 : decode cX11_of 129 = .ok (.iload_n 1, 1) := by decide +kernel
theorem dX11_of_130 : decode cX11_of 130 = .ok (.iaload, 1) := by decide +kernel
theorem dX11_of_131 : decode cX11_of 131 = .ok (.ireturn, 1) := by decide +kernel
theorem dX11_of_132 : decode cX11_of 132 = .ok (.aload_n 0, 1) := by decide +kernel
theorem dX11_of_133 : decode cX11_of 133 = .ok (.iload_n 1, 1) := by decide +kernel
theorem dX11_of_134 : decode cX11_of 134 = .ok (.iload_n 2, 1) := by decide +kernel
theorem dX11_of_135 : decode cX11_of 135 = .ok (.bipush 8, 2) := by decide +kernel
theorem dX11_of_137 : decode cX11_of 137 = .ok (.if_icmp .ge 9, 3) := by decide +kernel
theorem dX11_of_140 : decode cX11_of 140 = .ok (.iload_n 2, 1) := by decide +kernel
theorem dX11_of_141 : decode cX11_of 141 = .ok (.iconst 1, 1) := by decide +kernel
theorem dX11_of_142 : decode cX11_of 142 = .ok (.isub, 1) := by decide +kernel
theorem dX11_of_143 : decode cX11_of 143 = .ok (.goto 6, 3) := by decide +kernel
theorem dX11_of_146 : decode cX11_of 146 = .ok (.iload_n 2, 1) := by decide +kernel
theorem dX11_of_147 : decode cX11_of 147 = .ok (.iconst 4, 1) := by decide +kernel
theorem dX11_of_148 : decode cX11_of 148 = .ok (.isub, 1) := by decide +kernel
theorem dX11_of_149 : decode cX11_of 149 = .ok (.invokevirtual 101, 3) := by decide +kernel
theorem dX11_of_152 : decode cX11_of 152 = .ok (.ireturn, 1) := by decide +kernel
theorem dX11_isUnder_0 : decode cX11_isUnder 0 = .ok (.iload_n 1, 1) := by decide +kernel
theorem dX11_isUnder_1 : decode cX11_isUnder 1 = .ok (.ifCond .eq 28, 3) := by decide +kernel
theorem dX11_isUnder_4 : decode cX11_isUnder 4 = .ok (.iload_n 0, 1) := by decide +kernel
theorem dX11_isUnder_5 : decode cX11_isUnder 5 = .ok (.iload_n 1, 1) := by decide +kernel
theorem dX11_isUnder_6 : decode cX11_isUnder 6 = .ok (.if_icmp .eq 23, 3) := by decide +kernel
theorem dX11_isUnder_9 : decode cX11_isUnder 9 = .ok (.iload_n 1, 1) := by decide +kernel
theorem dX11_isUnder_10 : decode cX11_isUnder 10 = .ok (.iconst 1, 1) := by decide +kernel
theorem dX11_isUnder_11 : decode cX11_isUnder 11 = .ok (.if_icmp .ne 8, 3) := by decide +kernel
theorem dX11_isUnder_14 : decode cX11_isUnder 14 = .ok (.iload_n 0, 1) := by decide +kernel
theorem dX11_isUnder_15 : decode cX11_isUnder 15 = .ok (.iconst 4, 1) := by decide +kernel
theorem dX11_isUnder_16 : decode cX11_isUnder 16 = .ok (.if_icmp .eq 13, 3) := by decide +kernel
theorem dX11_isUnder_19 : decode cX11_isUnder 19 = .ok (.iload_n 1, 1) := by decide +kernel
theorem dX11_isUnder_20 : decode cX11_isUnder 20 = .ok (.iconst 3, 1) := by decide +kernel
theorem dX11_isUnder_21 : decode cX11_isUnder 21 = .ok (.if_icmp .ne 12, 3) := by decide +kernel
theorem dX11_isUnder_24 : decode cX11_isUnder 24 = .ok (.iload_n 0, 1) := by decide +kernel
theorem dX11_isUnder_25 : decode cX11_isUnder 25 = .ok (.iconst 5, 1) := by decide +kernel
theorem dX11_isUnder_26 : decode cX11_isUnder 26 = .ok (.if_icmp .ne 7, 3) := by decide +kernel
theorem dX11_isUnder_29 : decode cX11_isUnder 29 = .ok (.iconst 1, 1) := by decide +kernel
theorem dX11_isUnder_30 : decode cX11_isUnder 30 = .ok (.goto 4, 3) := by decide +kernel
theorem dX11_isUnder_33 : decode cX11_isUnder 33 = .ok (.iconst 0, 1) := by decide +kernel
theorem dX11_isUnder_34 : decode cX11_isUnder 34 = .ok (.ireturn, 1) := by decide +kernel
theorem dX11_as_0 : decode cX11_as 0 = .ok (.aload_n 0, 1) := by decide +kernel
theorem dX11_as_1 : decode cX11_as 1 = .ok (.iload_n 1, 1) := by decide +kernel
theorem dX11_as_2 : decode cX11_as 2 = .ok (.invokevirtual 141, 3) := by decide +kernel
theorem dX11_as_5 : decode cX11_as 5 = .ok (.ifCond .eq 12, 3) := by decide +kernel
theorem dX11_as_8 : decode cX11_as 8 = .ok (.iload_n 2, 1) := by decide +kernel
theorem dX11_as_9 : decode cX11_as 9 = .ok (.iconst 0, 1) := by decide +kernel
theorem dX11_as_10 : decode cX11_as 10 = .ok (.iconst 5, 1) := by decide +kernel
theorem dX11_as_11 : decode cX11_as 11 = .ok (.invokestatic 97, 3) := by decide +kernel
theorem dX11_as_14 : decode cX11_as 14 = .ok (.ifCond .ne 10, 3) := by decide +kernel
theorem dX11_as_17 : decode cX11_as 17 = .ok (.aload_n 0, 1) := by decide +kernel
theorem dX11_as_18 : decode cX11_as 18 = .ok (.ldc 92, 2) := by decide +kernel
theorem dX11_as_20 : decode cX11_as 20 = .ok (.invokevirtual 109, 3) := by decide +kernel
theorem dX11_as_23 : decode cX11_as 23 = .ok (.ireturn, 1) := by decide +kernel
theorem dX11_as_24 : decode cX11_as 24 = .ok (.aload_n 0, 1) := by decide +kernel
theorem dX11_as_25 : decode cX11_as 25 = .ok (.iload_n 1, 1) := by decide +kernel
theorem dX11_as_26 : decode cX11_as 26 = .ok (.iconst 0, 1) := by decide +kernel
theorem dX11_as_27 : decode cX11_as 27 = .ok (.invokevirtual 101, 3) := by decide +kernel
theorem dX11_as_30 : decode cX11_as 30 = .ok (.iload_n 2, 1) := by decide +kernel
theorem dX11_as_31 : decode cX11_as 31 = .ok (.invokestatic 148, 3) := by decide +kernel
theorem dX11_as_34 : decode cX11_as 34 = .ok (.ifCond .eq 17, 3) := by decide +kernel
theorem dX11_as_37 : decode cX11_as 37 = .ok (.aload_n 0, 1) := by decide +kernel
theorem dX11_as_38 : decode cX11_as 38 = .ok (.iload_n 1, 1) := by decide +kernel
theorem dX11_as_39 : decode cX11_as 39 = .ok (.aload_n 0, 1) := by decide +kernel
theorem dX11_as_40 : decode cX11_as 40 = .ok (.iload_n 1, 1) := by decide +kernel
theorem dX11_as_41 : decode cX11_as 41 = .ok (.iconst 2, 1) := by decide +kernel
theorem dX11_as_42 : decode cX11_as 42 = .ok (.invokevirtual 101, 3) := by decide +kernel
theorem dX11_as_45 : decode cX11_as 45 = .ok (.invokevirtual 120, 3) := by decide +kernel
theorem dX11_as_48 : decode cX11_as 48 = .ok (.goto 9, 3) := by decide +kernel
theorem dX11_as_51 : decode cX11_as 51 = .ok (.aload_n 0, 1) := by decide +kernel
theorem dX11_as_52 : decode cX11_as 52 = .ok (.ldc 152, 2) := by decide +kernel
theorem dX11_as_54 : decode cX11_as 54 = .ok (.invokevirtual 109, 3) := by decide +kernel
theorem dX11_as_57 : decode cX11_as 57 = .ok (.ireturn, 1) := by decide +kernel
theorem dX11_set_0 : decode cX11_set 0 = .ok (.iload_n 1, 1) := by decide +kernel
theorem dX11_set_1 : decode cX11_set 1 = .ok (.iconst 0, 1) := by decide +kernel
theorem dX11_set_2 : decode cX11_set 2 = .ok (.iconst 2, 1) := by decide +kernel
theorem dX11_set_3 : decode cX11_set 3 = .ok (.invokestatic 97, 3) := by decide +kernel
theorem dX11_set_6 : decode cX11_set 6 = .ok (.ifCond .eq 45, 3) := by decide +kernel
theorem dX11_set_9 : decode cX11_set 9 = .ok (.iload_n 2, 1) := by decide +kernel
theorem dX11_set_10 : decode cX11_set 10 = .ok (.iload_n 1, 1) := by decide +kernel
theorem dX11_set_11 : decode cX11_set 11 = .ok (.ifCond .ne 9, 3) := by decide +kernel
theorem dX11_set_14 : decode cX11_set 14 = .ok (.sipush (-300), 3) := by decide +kernel
theorem dX11_set_17 : decode cX11_set 17 = .ok (.goto 4, 3) := by decide +kernel
theorem dX11_set_20 : decode cX11_set 20 = .ok (.iconst 0, 1) := by decide +kernel
theorem dX11_set_21 : decode cX11_set 21 = .ok (.iload_n 1, 1) := by decide +kernel
theorem dX11_set_22 : decode cX11_set 22 = .ok (.ifCond .ne 9, 3) := by decide +kernel
theorem dX11_set_25 : decode cX11_set 25 = .ok (.sipush 400, 3) := by decide +kernel
theorem dX11_set_28 : decode cX11_set 28 = .ok (.goto 17, 3) := by decide +kernel
theorem dX11_set_31 : decode cX11_set 31 = .ok (.iload_n 1, 1) := by decide +kernel
theorem dX11_set_32 : decode cX11_set 32 = .ok (.iconst 1, 1) := by decide +kernel
theorem dX11_set_33 : decode cX11_set 33 = .ok (.if_icmp .ne 9, 3) := by decide +kernel
theorem dX11_set_36 : decode cX11_set 36 = .ok (.sipush 999, 3) := by decide +kernel
theorem dX11_set_39 : decode cX11_set 39 = .ok (.goto 6, 3) := by decide +kernel
theorem dX11_set_42 : decode cX11_set 42 = .ok (.sipush 900, 3) := by decide +kernel
theorem dX11_set_45 : decode cX11_set 45 = .ok (.invokestatic 97, 3) := by decide +kernel
theorem dX11_set_48 : decode cX11_set 48 = .ok (.ifCond .ne 10, 3) := by decide +kernel
theorem dX11_set_51 : decode cX11_set 51 = .ok (.aload_n 0, 1) := by decide +kernel
theorem dX11_set_52 : decode cX11_set 52 = .ok (.ldc 92, 2) := by decide +kernel
theorem dX11_set_54 : decode cX11_set 54 = .ok (.invokevirtual 109, 3) := by decide +kernel
theorem dX11_set_57 : decode cX11_set 57 = .ok (.ireturn, 1) := by decide +kernel
theorem dX11_set_58 : decode cX11_set 58 = .ok (.aload_n 0, 1) := by decide +kernel
theorem dX11_set_59 : decode cX11_set 59 = .ok (.getfield 9, 3) := by decide +kernel
theorem dX11_set_62 : decode cX11_set 62 = .ok (.iconst 1, 1) := by decide +kernel
theorem dX11_set_63 : decode cX11_set 63 = .ok (.iload_n 1, 1) := by decide +kernel
theorem dX11_set_64 : decode cX11_set 64 = .ok (.iadd, 1) := by decide +kernel
theorem dX11_set_65 : decode cX11_set 65 = .ok (.iaload, 1) := by decide +kernel
theorem dX11_set_66 : decode cX11_set 66 = .ok (.istore_n 3, 1) := by decide +kernel
theorem dX11_set_67 : decode cX11_set 67 = .ok (.aload_n 0, 1) := by decide +kernel
theorem dX11_set_68 : decode cX11_set 68 = .ok (.getfield 9, 3) := by decide +kernel
theorem dX11_set_71 : decode cX11_set 71 = .ok (.iconst 1, 1) := by decide +kernel
theorem dX11_set_72 : decode cX11_set 72 = .ok (.iload_n 1, 1) := by decide +kernel
theorem dX11_set_73 : decode cX11_set 73 = .ok (.iadd, 1) := by decide +kernel
theorem dX11_set_74 : decode cX11_set 74 = .ok (.iload_n 2, 1) := by decide +kernel
theorem dX11_set_75 : decode cX11_set 75 = .ok (.iastore, 1) := by decide +kernel
theorem dX11_set_76 : decode cX11_set 76 = .ok (.aload_n 0, 1) := by decide +kernel
theorem dX11_set_77 : decode cX11_set 77 = .ok (.iconst 0, 1) := by decide +kernel
theorem dX11_set_78 : decode cX11_set 78 = .ok (.putfield 105, 3) := by decide +kernel
theorem dX11_set_81 : decode cX11_set 81 = .ok (.iload_n 3, 1) := by decide +kernel
theorem dX11_set_82 : decode cX11_set 82 = .ok (.ireturn, 1) := by decide +kernel
theorem dX11_turn_0 : decode cX11_turn 0 = .ok (.aload_n 0, 1) := by decide +kernel
theorem dX11_turn_1 : decode cX11_turn 1 = .ok (.iload_n 1, 1) := by decide +kernel
theorem dX11_turn_2 : decode cX11_turn 2 = .ok (.invokevirtual 141, 3) := by decide +kernel
theorem dX11_turn_5 : decode cX11_turn 5 = .ok (.ifCond .eq 13, 3) := by decide +kernel
theorem dX11_turn_8 : decode cX11_turn 8 = .ok (.iload_n 2, 1) := by decide +kernel
theorem dX11_turn_9 : decode cX11_turn 9 = .ok (.iconst 0, 1) := by decide +kernel
theorem dX11_turn_10 : decode cX11_turn 10 = .ok (.bipush 8, 2) := by decide +kernel
theorem dX11_turn_12 : decode cX11_turn 12 = .ok (.invokestatic 97, 3) := by decide +kernel
theorem dX11_turn_15 : decode cX11_turn 15 = .ok (.ifCond .ne 10, 3) := by decide +kernel
theorem dX11_turn_18 : decode cX11_turn 18 = .ok (.aload_n 0, 1) := by decide +kernel
theorem dX11_turn_19 : decode cX11_turn 19 = .ok (.ldc 92, 2) := by decide +kernel
theorem dX11_turn_21 : decode cX11_turn 21 = .ok (.invokevirtual 109, 3) := by decide +kernel
theorem dX11_turn_24 : decode cX11_turn 24 = .ok (.ireturn, 1) := by decide +kernel
theorem dX11_turn_25 : decode cX11_turn 25 = .ok (.aload_n 0, 1) := by decide +kernel
theorem dX11_turn_26 : decode cX11_turn 26 = .ok (.iload_n 1, 1) := by decide +kernel
theorem dX11_turn_27 : decode cX11_turn 27 = .ok (.iconst 4, 1) := by decide +kernel
theorem dX11_turn_28 : decode cX11_turn 28 = .ok (.invokevirtual 101, 3) := by decide +kernel
theorem dX11_turn_31 : decode cX11_turn 31 = .ok (.iconst 1, 1) := by decide +kernel
theorem dX11_turn_32 : decode cX11_turn 32 = .ok (.if_icmp .ne 12, 3) := by decide +kernel
theorem dX11_turn_35 : decode cX11_turn 35 = .ok (.aload_n 0, 1) := by decide +kernel
theorem dX11_turn_36 : decode cX11_turn 36 = .ok (.ldc 153, 2) := by decide +kernel
theorem dX11_turn_38 : decode cX11_turn 38 = .ok (.invokevirtual 109, 3) := by decide +kernel
theorem dX11_turn_41 : decode cX11_turn 41 = .ok (.goto 10, 3) := by decide +kernel
theorem dX11_turn_44 : decode cX11_turn 44 = .ok (.aload_n 0, 1) := by decide +kernel
theorem dX11_turn_45 : decode cX11_turn 45 = .ok (.iload_n 1, 1) := by decide +kernel
theorem dX11_turn_46 : decode cX11_turn 46 = .ok (.iconst 3, 1) := by decide +kernel
theorem dX11_turn_47 : decode cX11_turn 47 = .ok (.iload_n 2, 1) := by decide +kernel
theorem dX11_turn_48 : decode cX11_turn 48 = .ok (.invokevirtual 154, 3) := by decide +kernel
theorem dX11_turn_51 : decode cX11_turn 51 = .ok (.ireturn, 1) := by decide +kernel
theorem dX11_hold_0 : decode cX11_hold 0 = .ok (.aload_n 0, 1) := by decide +kernel
theorem dX11_hold_1 : decode cX11_hold 1 = .ok (.iload_n 1, 1) := by decide +kernel
theorem dX11_hold_2 : decode cX11_hold 2 = .ok (.invokevirtual 141, 3) := by decide +kernel
theorem dX11_hold_5 : decode cX11_hold 5 = .ok (.ifCond .eq 21, 3) := by decide +kernel
theorem dX11_hold_8 : decode cX11_hold 8 = .ok (.aload_n 0, 1) := by decide +kernel
theorem dX11_hold_9 : decode cX11_hold 9 = .ok (.iload_n 1, 1) := by decide +kernel
theorem dX11_hold_10 : decode cX11_hold 10 = .ok (.iconst 4, 1) := by decide +kernel
theorem dX11_hold_11 : decode cX11_hold 11 = .ok (.iload_n 2, 1) := by decide +kernel
theorem dX11_hold_12 : decode cX11_hold 12 = .ok (.ifCond .eq 7, 3) := by decide +kernel
theorem dX11_hold_15 : decode cX11_hold 15 = .ok (.iconst 1, 1) := by decide +kernel
theorem dX11_hold_16 : decode cX11_hold 16 = .ok (.goto 4, 3) := by decide +kernel
theorem dX11_hold_19 : decode cX11_hold 19 = .ok (.iconst 0, 1) := by decide +kernel
theorem dX11_hold_20 : decode cX11_hold 20 = .ok (.invokevirtual 154, 3) := by decide +kernel
theorem dX11_hold_23 : decode cX11_hold 23 = .ok (.goto 9, 3) := by decide +kernel
theorem dX11_hold_26 : decode cX11_hold 26 = .ok (.aload_n 0, 1) := by decide +kernel
theorem dX11_hold_27 : decode cX11_hold 27 = .ok (.ldc 92, 2) := by decide +kernel
theorem dX11_hold_29 : decode cX11_hold 29 = .ok (.invokevirtual 109, 3) := by decide +kernel
theorem dX11_hold_32 : decode cX11_hold 32 = .ok (.ireturn, 1) := by decide +kernel
theorem dX11_window_0 : decode cX11_window 0 = .ok (.aload_n 0, 1) := by decide +kernel
theorem dX11_window_1 : decode cX11_window 1 = .ok (.iload_n 1, 1) := by decide +kernel
theorem dX11_window_2 : decode cX11_window 2 = .ok (.invokevirtual 141, 3) := by decide +kernel
theorem dX11_window_5 : decode cX11_window 5 = .ok (.ifCond .eq 21, 3) := by decide +kernel
theorem dX11_window_8 : decode cX11_window 8 = .ok (.aload_n 0, 1) := by decide +kernel
theorem dX11_window_9 : decode cX11_window 9 = .ok (.iload_n 1, 1) := by decide +kernel
theorem dX11_window_10 : decode cX11_window 10 = .ok (.iconst 5, 1) := by decide +kernel
theorem dX11_window_11 : decode cX11_window 11 = .ok (.iload_n 2, 1) := by decide +kernel
theorem dX11_window_12 : decode cX11_window 12 = .ok (.ifCond .eq 7, 3) := by decide +kernel
theorem dX11_window_15 : decode cX11_window 15 = .ok (.iconst 1, 1) := by decide +kernel
theorem dX11_window_16 : decode cX11_window 16 = .ok (.goto 4, 3) := by decide +kernel
theorem dX11_window_19 : decode cX11_window 19 = .ok (.iconst 0, 1) := by decide +kernel
theorem dX11_window_20 : decode cX11_window 20 = .ok (.invokevirtual 154, 3) := by decide +kernel
theorem dX11_window_23 : decode cX11_window 23 = .ok (.goto 9, 3) := by decide +kernel
theorem dX11_window_26 : decode cX11_window 26 = .ok (.aload_n 0, 1) := by decide +kernel
theorem dX11_window_27 : decode cX11_window 27 = .ok (.ldc 92, 2) := by decide +kernel
theorem dX11_window_29 : decode cX11_window 29 = .ok (.invokevirtual 109, 3) := by decide +kernel
theorem dX11_window_32 : decode cX11_window 32 = .ok (.ireturn, 1) := by decide +kernel
theorem dX11_drift_0 : decode cX11_drift 0 = .ok (.aload_n 0, 1) := by decide +kernel
theorem dX11_drift_1 : decode cX11_drift 1 = .ok (.iload_n 1, 1) := by decide +kernel
theorem dX11_drift_2 : decode cX11_drift 2 = .ok (.invokevirtual 141, 3) := by decide +kernel
theorem dX11_drift_5 : decode cX11_drift 5 = .ok (.ifCond .eq 25, 3) := by decide +kernel
theorem dX11_drift_8 : decode cX11_drift 8 = .ok (.iload_n 2, 1) := by decide +kernel
theorem dX11_drift_9 : decode cX11_drift 9 = .ok (.iconst 0, 1) := by decide +kernel
theorem dX11_drift_10 : decode cX11_drift 10 = .ok (.sipush 200, 3) := by decide +kernel
theorem dX11_drift_13 : decode cX11_drift 13 = .ok (.invokestatic 97, 3) := by decide +kernel
theorem dX11_drift_16 : decode cX11_drift 16 = .ok (.ifCond .eq 14, 3) := by decide +kernel
theorem dX11_drift_19 : decode cX11_drift 19 = .ok (.aload_n 0, 1) := by decide +kernel
theorem dX11_drift_20 : decode cX11_drift 20 = .ok (.iload_n 1, 1) := by decide +kernel
theorem dX11_drift_21 : decode cX11_drift 21 = .ok (.bipush 10, 2) := by decide +kernel
theorem dX11_drift_23 : decode cX11_drift 23 = .ok (.iload_n 2, 1) := by decide +kernel
theorem dX11_drift_24 : decode cX11_drift 24 = .ok (.invokevirtual 154, 3) := by decide +kernel
theorem dX11_drift_27 : decode cX11_drift 27 = .ok (.goto 9, 3) := by decide +kernel
theorem dX11_drift_30 : decode cX11_drift 30 = .ok (.aload_n 0, 1) := by decide +kernel
theorem dX11_drift_31 : decode cX11_drift 31 = .ok (.ldc 92, 2) := by decide +kernel
theorem dX11_drift_33 : decode cX11_drift 33 = .ok (.invokevirtual 109, 3) := by decide +kernel
theorem dX11_drift_36 : decode cX11_drift 36 = .ok (.ireturn, 1) := by decide +kernel
theorem dX11_anHour_0 : decode cX11_anHour 0 = .ok (.aload_n 0, 1) := by decide +kernel
theorem dX11_anHour_1 : decode cX11_anHour 1 = .ok (.aload_n 0, 1) := by decide +kernel
theorem dX11_anHour_2 : decode cX11_anHour 2 = .ok (.getfield 9, 3) := by decide +kernel
theorem dX11_anHour_5 : decode cX11_anHour 5 = .ok (.iconst 3, 1) := by decide +kernel
theorem dX11_anHour_6 : decode cX11_anHour 6 = .ok (.iaload, 1) := by decide +kernel
theorem dX11_anHour_7 : decode cX11_anHour 7 = .ok (.invokevirtual 138, 3) := by decide +kernel
theorem dX11_anHour_10 : decode cX11_anHour 10 = .ok (.pop, 1) := by decide +kernel
theorem dX11_anHour_11 : decode cX11_anHour 11 = .ok (.iconst 0, 1) := by decide +kernel
theorem dX11_anHour_12 : decode cX11_anHour 12 = .ok (.istore_n 1, 1) := by decide +kernel
theorem dX11_anHour_13 : decode cX11_anHour 13 = .ok (.iload_n 1, 1) := by decide +kernel
theorem dX11_anHour_14 : decode cX11_anHour 14 = .ok (.aload_n 0, 1) := by decide +kernel
theorem dX11_anHour_15 : decode cX11_anHour 15 = .ok (.getfield 9, 3) := by decide +kernel
theorem dX11_anHour_18 : decode cX11_anHour 18 = .ok (.iconst 4, 1) := by decide +kernel
theorem dX11_anHour_19 : decode cX11_anHour 19 = .ok (.iaload, 1) := by decide +kernel
theorem dX11_anHour_20 : decode cX11_anHour 20 = .ok (.if_icmp .ge 97, 3) := by decide +kernel
theorem dX11_anHour_23 : decode cX11_anHour 23 = .ok (.bipush 7, 2) := by decide +kernel
theorem dX11_anHour_25 : decode cX11_anHour 25 = .ok (.bipush 11, 2) := by decide +kernel
theorem dX11_anHour_27 : decode cX11_anHour 27 = .ok (.iload_n 1, 1) := by decide +kernel
theorem dX11_anHour_28 : decode cX11_anHour 28 = .ok (.imul, 1) := by decide +kernel
theorem dX11_anHour_29 : decode cX11_anHour 29 = .ok (.iadd, 1) := by decide +kernel
theorem dX11_anHour_30 : decode cX11_anHour 30 = .ok (.istore_n 2, 1) := by decide +kernel
theorem dX11_anHour_31 : decode cX11_anHour 31 = .ok (.aload_n 0, 1) := by decide +kernel
theorem dX11_anHour_32 : decode cX11_anHour 32 = .ok (.getfield 9, 3) := by decide +kernel
theorem dX11_anHour_35 : decode cX11_anHour 35 = .ok (.iload_n 2, 1) := by decide +kernel
theorem dX11_anHour_36 : decode cX11_anHour 36 = .ok (.bipush 6, 2) := by decide +kernel
theorem dX11_anHour_38 : decode cX11_anHour 38 = .ok (.iadd, 1) := by decide +kernel
theorem dX11_anHour_39 : decode cX11_anHour 39 = .ok (.aload_n 0, 1) := by decide +kernel
theorem dX11_anHour_40 : decode cX11_anHour 40 = .ok (.getfield 43, 3) := by decide +kernel
theorem dX11_anHour_43 : decode cX11_anHour 43 = .ok (.iload_n 1, 1) := by decide +kernel
theorem dX11_anHour_44 : decode cX11_anHour 44 = .ok (.iaload, 1) := by decide +kernel
theorem dX11_anHour_45 : decode cX11_anHour 45 = .ok (.iastore, 1) := by decide +kernel
theorem dX11_anHour_46 : decode cX11_anHour 46 = .ok (.aload_n 0, 1) := by decide +kernel
theorem dX11_anHour_47 : decode cX11_anHour 47 = .ok (.getfield 9, 3) := by decide +kernel
theorem dX11_anHour_50 : decode cX11_anHour 50 = .ok (.iload_n 2, 1) := by decide +kernel
theorem dX11_anHour_51 : decode cX11_anHour 51 = .ok (.bipush 7, 2) := by decide +kernel
theorem dX11_anHour_53 : decode cX11_anHour 53 = .ok (.iadd, 1) := by decide +kernel
theorem dX11_anHour_54 : decode cX11_anHour 54 = .ok (.dup2, 1) := by decide +kernel
theorem dX11_anHour_55 : decode cX11_anHour 55 = .ok (.iaload, 1) := by decide +kernel
theorem dX11_anHour_56 : decode cX11_anHour 56 = .ok (.aload_n 0, 1) := by decide +kernel
theorem dX11_anHour_57 : decode cX11_anHour 57 = .ok (.getfield 49, 3) := by decide +kernel
theorem dX11_anHour_60 : decode cX11_anHour 60 = .ok (.iload_n 1, 1) := by decide +kernel
theorem dX11_anHour_61 : decode cX11_anHour 61 = .ok (.iaload, 1) := by decide +kernel
theorem dX11_anHour_62 : decode cX11_anHour 62 = .ok (.aload_n 0, 1) := by decide +kernel
theorem dX11_anHour_63 : decode cX11_anHour 63 = .ok (.iload_n 1, 1) := by decide +kernel
theorem dX11_anHour_64 : decode cX11_anHour 64 = .ok (.bipush 10, 2) := by decide +kernel
theorem dX11_anHour_66 : decode cX11_anHour 66 = .ok (.invokevirtual 101, 3) := by decide +kernel
theorem dX11_anHour_69 : decode cX11_anHour 69 = .ok (.imul, 1) := by decide +kernel
theorem dX11_anHour_70 : decode cX11_anHour 70 = .ok (.bipush 100, 2) := by decide +kernel
theorem dX11_anHour_72 : decode cX11_anHour 72 = .ok (.idiv, 1) := by decide +kernel
theorem dX11_anHour_73 : decode cX11_anHour 73 = .ok (.iadd, 1) := by decide +kernel
theorem dX11_anHour_74 : decode cX11_anHour 74 = .ok (.iastore, 1) := by decide +kernel
theorem dX11_anHour_75 : decode cX11_anHour 75 = .ok (.aload_n 0, 1) := by decide +kernel
theorem dX11_anHour_76 : decode cX11_anHour 76 = .ok (.getfield 9, 3) := by decide +kernel
theorem dX11_anHour_79 : decode cX11_anHour 79 = .ok (.iload_n 2, 1) := by decide +kernel
theorem dX11_anHour_80 : decode cX11_anHour 80 = .ok (.bipush 8, 2) := by decide +kernel
theorem dX11_anHour_82 : decode cX11_anHour 82 = .ok (.iadd, 1) := by decide +kernel
theorem dX11_anHour_83 : decode cX11_anHour 83 = .ok (.dup2, 1) := by decide +kernel
theorem dX11_anHour_84 : decode cX11_anHour 84 = .ok (.iaload, 1) := by decide +kernel
theorem dX11_anHour_85 : decode cX11_anHour 85 = .ok (.aload_n 0, 1) := by decide +kernel
theorem dX11_anHour_86 : decode cX11_anHour 86 = .ok (.getfield 49, 3) := by decide +kernel
theorem dX11_anHour_89 : decode cX11_anHour 89 = .ok (.iload_n 1, 1) := by decide +kernel
theorem dX11_anHour_90 : decode cX11_anHour 90 = .ok (.iaload, 1) := by decide +kernel
theorem dX11_anHour_91 : decode cX11_anHour 91 = .ok (.iadd, 1) := by decide +kernel
theorem dX11_anHour_92 : decode cX11_anHour 92 = .ok (.iastore, 1) := by decide +kernel
theorem dX11_anHour_93 : decode cX11_anHour 93 = .ok (.aload_n 0, 1) := by decide +kernel
theorem dX11_anHour_94 : decode cX11_anHour 94 = .ok (.getfield 9, 3) := by decide +kernel
theorem dX11_anHour_97 : decode cX11_anHour 97 = .ok (.iload_n 2, 1) := by decide +kernel
theorem dX11_anHour_98 : decode cX11_anHour 98 = .ok (.bipush 9, 2) := by decide +kernel
theorem dX11_anHour_100 : decode cX11_anHour 100 = .ok (.iadd, 1) := by decide +kernel
theorem dX11_anHour_101 : decode cX11_anHour 101 = .ok (.dup2, 1) := by decide +kernel
theorem dX11_anHour_102 : decode cX11_anHour 102 = .ok (.iaload, 1) := by decide +kernel
theorem dX11_anHour_103 : decode cX11_anHour 103 = .ok (.aload_n 0, 1) := by decide +kernel
theorem dX11_anHour_104 : decode cX11_anHour 104 = .ok (.getfield 52, 3) := by decide +kernel
theorem dX11_anHour_107 : decode cX11_anHour 107 = .ok (.iload_n 1, 1) := by decide +kernel
theorem dX11_anHour_108 : decode cX11_anHour 108 = .ok (.iaload, 1) := by decide +kernel
theorem dX11_anHour_109 : decode cX11_anHour 109 = .ok (.iadd, 1) := by decide +kernel
theorem dX11_anHour_110 : decode cX11_anHour 110 = .ok (.iastore, 1) := by decide +kernel
theorem dX11_anHour_111 : decode cX11_anHour 111 = .ok (.iinc 1 1, 3) := by decide +kernel
theorem dX11_anHour_114 : decode cX11_anHour 114 = .ok (.goto (-101), 3) := by decide +kernel
theorem dX11_anHour_117 : decode cX11_anHour 117 = .ok (.aload_n 0, 1) := by decide +kernel
theorem dX11_anHour_118 : decode cX11_anHour 118 = .ok (.getfield 9, 3) := by decide +kernel
theorem dX11_anHour_121 : decode cX11_anHour 121 = .ok (.iconst 0, 1) := by decide +kernel
theorem dX11_anHour_122 : decode cX11_anHour 122 = .ok (.dup2, 1) := by decide +kernel
theorem dX11_anHour_123 : decode cX11_anHour 123 = .ok (.iaload, 1) := by decide +kernel
theorem dX11_anHour_124 : decode cX11_anHour 124 = .ok (.iconst 1, 1) := by decide +kernel
theorem dX11_anHour_125 : decode cX11_anHour 125 = .ok (.iadd, 1) := by decide +kernel
theorem dX11_anHour_126 : decode cX11_anHour 126 = .ok (.iastore, 1) := by decide +kernel
theorem dX11_anHour_127 : decode cX11_anHour 127 = .ok (.aload_n 0, 1) := by decide +kernel
theorem dX11_anHour_128 : decode cX11_anHour 128 = .ok (.iconst 0, 1) := by decide +kernel
theorem dX11_anHour_129 : decode cX11_anHour 129 = .ok (.putfield 105, 3) := by decide +kernel
theorem dX11_anHour_132 : decode cX11_anHour 132 = .ok (.return_, 1) := by decide +kernel
theorem dX11_hours_0 : decode cX11_hours 0 = .ok (.iload_n 1, 1) := by decide +kernel
theorem dX11_hours_1 : decode cX11_hours 1 = .ok (.iconst 1, 1) := by decide +kernel
theorem dX11_hours_2 : decode cX11_hours 2 = .ok (.bipush 100, 2) := by decide +kernel
theorem dX11_hours_4 : decode cX11_hours 4 = .ok (.invokestatic 97, 3) := by decide +kernel
theorem dX11_hours_7 : decode cX11_hours 7 = .ok (.ifCond .ne 10, 3) := by decide +kernel
theorem dX11_hours_10 : decode cX11_hours 10 = .ok (.aload_n 0, 1) := by decide +kernel
theorem dX11_hours_11 : decode cX11_hours 11 = .ok (.ldc 92, 2) := by decide +kernel
theorem dX11_hours_13 : decode cX11_hours 13 = .ok (.invokevirtual 109, 3) := by decide +kernel
theorem dX11_hours_16 : decode cX11_hours 16 = .ok (.ireturn, 1) := by decide +kernel
theorem dX11_hours_17 : decode cX11_hours 17 = .ok (.aload_n 0, 1) := by decide +kernel
theorem dX11_hours_18 : decode cX11_hours 18 = .ok (.getfield 9, 3) := by decide +kernel
theorem dX11_hours_21 : decode cX11_hours 21 = .ok (.iconst 0, 1) := by decide +kernel
theorem dX11_hours_22 : decode cX11_hours 22 = .ok (.iaload, 1) := by decide +kernel
theorem dX11_hours_23 : decode cX11_hours 23 = .ok (.iload_n 1, 1) := by decide +kernel
theorem dX11_hours_24 : decode cX11_hours 24 = .ok (.iadd, 1) := by decide +kernel
theorem dX11_hours_25 : decode cX11_hours 25 = .ok (.sipush 2000, 3) := by decide +kernel
theorem dX11_hours_28 : decode cX11_hours 28 = .ok (.if_icmp .le 10, 3) := by decide +kernel
theorem dX11_hours_31 : decode cX11_hours 31 = .ok (.aload_n 0, 1) := by decide +kernel
theorem dX11_hours_32 : decode cX11_hours 32 = .ok (.ldc 153, 2) := by decide +kernel
theorem dX11_hours_34 : decode cX11_hours 34 = .ok (.invokevirtual 109, 3) := by decide +kernel
theorem dX11_hours_37 : decode cX11_hours 37 = .ok (.ireturn, 1) := by decide +kernel
theorem dX11_hours_38 : decode cX11_hours 38 = .ok (.aload_n 0, 1) := by decide +kernel
theorem dX11_hours_39 : decode cX11_hours 39 = .ok (.invokevirtual 145, 3) := by decide +kernel
theorem dX11_hours_42 : decode cX11_hours 42 = .ok (.iconst 0, 1) := by decide +kernel
theorem dX11_hours_43 : decode cX11_hours 43 = .ok (.istore_n 2, 1) := by decide +kernel
theorem dX11_hours_44 : decode cX11_hours 44 = .ok (.iload_n 2, 1) := by decide +kernel
theorem dX11_hours_45 : decode cX11_hours 45 = .ok (.iload_n 1, 1) := by decide +kernel
theorem dX11_hours_46 : decode cX11_hours 46 = .ok (.if_icmp .ge 13, 3) := by decide +kernel
theorem dX11_hours_49 : decode cX11_hours 49 = .ok (.aload_n 0, 1) := by decide +kernel
theorem dX11_hours_50 : decode cX11_hours 50 = .ok (.invokevirtual 158, 3) := by decide +kernel
theorem dX11_hours_53 : decode cX11_hours 53 = .ok (.iinc 2 1, 3) := by decide +kernel
theorem dX11_hours_56 : decode cX11_hours 56 = .ok (.goto (-12), 3) := by decide +kernel
theorem dX11_hours_59 : decode cX11_hours 59 = .ok (.aload_n 0, 1) := by decide +kernel
theorem dX11_hours_60 : decode cX11_hours 60 = .ok (.getfield 9, 3) := by decide +kernel
theorem dX11_hours_63 : decode cX11_hours 63 = .ok (.iconst 0, 1) := by decide +kernel
theorem dX11_hours_64 : decode cX11_hours 64 = .ok (.iaload, 1) := by decide +kernel
theorem dX11_hours_65 : decode cX11_hours 65 = .ok (.ireturn, 1) := by decide +kernel
theorem dX11_riser_0 : decode cX11_riser 0 = .ok (.iload_n 1, 1) := by decide +kernel
theorem dX11_riser_1 : decode cX11_riser 1 = .ok (.iconst 0, 1) := by decide +kernel
theorem dX11_riser_2 : decode cX11_riser 2 = .ok (.iconst 3, 1) := by decide +kernel
theorem dX11_riser_3 : decode cX11_riser 3 = .ok (.invokestatic 97, 3) := by decide +kernel
theorem dX11_riser_6 : decode cX11_riser 6 = .ok (.ifCond .ne 10, 3) := by decide +kernel
theorem dX11_riser_9 : decode cX11_riser 9 = .ok (.aload_n 0, 1) := by decide +kernel
theorem dX11_riser_10 : decode cX11_riser 10 = .ok (.ldc 92, 2) := by decide +kernel
theorem dX11_riser_12 : decode cX11_riser 12 = .ok (.invokevirtual 109, 3) := by decide +kernel
theorem dX11_riser_15 : decode cX11_riser 15 = .ok (.ireturn, 1) := by decide +kernel
theorem dX11_riser_16 : decode cX11_riser 16 = .ok (.iconst 0, 1) := by decide +kernel
theorem dX11_riser_17 : decode cX11_riser 17 = .ok (.istore_n 2, 1) := by decide +kernel
theorem dX11_riser_18 : decode cX11_riser 18 = .ok (.iconst 0, 1) := by decide +kernel
theorem dX11_riser_19 : decode cX11_riser 19 = .ok (.istore_n 3, 1) := by decide +kernel
theorem dX11_riser_20 : decode cX11_riser 20 = .ok (.iload_n 3, 1) := by decide +kernel
theorem dX11_riser_21 : decode cX11_riser 21 = .ok (.aload_n 0, 1) := by decide +kernel
theorem dX11_riser_22 : decode cX11_riser 22 = .ok (.getfield 9, 3) := by decide +kernel
theorem dX11_riser_25 : decode cX11_riser 25 = .ok (.iconst 4, 1) := by decide +kernel
theorem dX11_riser_26 : decode cX11_riser 26 = .ok (.iaload, 1) := by decide +kernel
theorem dX11_riser_27 : decode cX11_riser 27 = .ok (.if_icmp .ge 29, 3) := by decide +kernel
theorem dX11_riser_30 : decode cX11_riser 30 = .ok (.iload_n 2, 1) := by decide +kernel
theorem dX11_riser_31 : decode cX11_riser 31 = .ok (.aload_n 0, 1) := by decide +kernel
theorem dX11_riser_32 : decode cX11_riser 32 = .ok (.iload_n 3, 1) := by decide +kernel
theorem dX11_riser_33 : decode cX11_riser 33 = .ok (.iconst 1, 1) := by decide +kernel
theorem dX11_riser_34 : decode cX11_riser 34 = .ok (.invokevirtual 101, 3) := by decide +kernel
theorem dX11_riser_37 : decode cX11_riser 37 = .ok (.iload_n 1, 1) := by decide +kernel
theorem dX11_riser_38 : decode cX11_riser 38 = .ok (.if_icmp .ne 9, 3) := by decide +kernel
theorem dX11_riser_41 : decode cX11_riser 41 = .ok (.iconst 1, 1) := by decide +kernel
theorem dX11_riser_42 : decode cX11_riser 42 = .ok (.iload_n 3, 1) := by decide +kernel
theorem dX11_riser_43 : decode cX11_riser 43 = .ok (.ishl, 1) := by decide +kernel
theorem dX11_riser_44 : decode cX11_riser 44 = .ok (.goto 4, 3) := by decide +kernel
theorem dX11_riser_47 : decode cX11_riser 47 = .ok (.iconst 0, 1) := by decide +kernel
theorem dX11_riser_48 : decode cX11_riser 48 = .ok (.ior, 1) := by decide +kernel
theorem dX11_riser_49 : decode cX11_riser 49 = .ok (.istore_n 2, 1) := by decide +kernel
theorem dX11_riser_50 : decode cX11_riser 50 = .ok (.iinc 3 1, 3) := by decide +kernel
theorem dX11_riser_53 : decode cX11_riser 53 = .ok (.goto (-33), 3) := by decide +kernel
theorem dX11_riser_56 : decode cX11_riser 56 = .ok (.iload_n 2, 1) := by decide +kernel
theorem dX11_riser_57 : decode cX11_riser 57 = .ok (.ireturn, 1) := by decide +kernel
theorem dX11_feed_0 : decode cX11_feed 0 = .ok (.iload_n 2, 1) := by decide +kernel
theorem dX11_feed_1 : decode cX11_feed 1 = .ok (.iconst 1, 1) := by decide +kernel
theorem dX11_feed_2 : decode cX11_feed 2 = .ok (.iconst 4, 1) := by decide +kernel
theorem dX11_feed_3 : decode cX11_feed 3 = .ok (.invokestatic 97, 3) := by decide +kernel
theorem dX11_feed_6 : decode cX11_feed 6 = .ok (.ifCond .ne 10, 3) := by decide +kernel
theorem dX11_feed_9 : decode cX11_feed 9 = .ok (.aload_n 0, 1) := by decide +kernel
theorem dX11_feed_10 : decode cX11_feed 10 = .ok (.ldc 92, 2) := by decide +kernel
theorem dX11_feed_12 : decode cX11_feed 12 = .ok (.invokevirtual 109, 3) := by decide +kernel
theorem dX11_feed_15 : decode cX11_feed 15 = .ok (.ireturn, 1) := by decide +kernel
theorem dX11_feed_16 : decode cX11_feed 16 = .ok (.aload_n 0, 1) := by decide +kernel
theorem dX11_feed_17 : decode cX11_feed 17 = .ok (.getfield 161, 3) := by decide +kernel
theorem dX11_feed_20 : decode cX11_feed 20 = .ok (.iload_n 2, 1) := by decide +kernel
theorem dX11_feed_21 : decode cX11_feed 21 = .ok (.iadd, 1) := by decide +kernel
theorem dX11_feed_22 : decode cX11_feed 22 = .ok (.bipush 80, 2) := by decide +kernel
theorem dX11_feed_24 : decode cX11_feed 24 = .ok (.if_icmp .le 10, 3) := by decide +kernel
theorem dX11_feed_27 : decode cX11_feed 27 = .ok (.aload_n 0, 1) := by decide +kernel
theorem dX11_feed_28 : decode cX11_feed 28 = .ok (.ldc 113, 2) := by decide +kernel
theorem dX11_feed_30 : decode cX11_feed 30 = .ok (.invokevirtual 109, 3) := by decide +kernel
theorem dX11_feed_33 : decode cX11_feed 33 = .ok (.ireturn, 1) := by decide +kernel
theorem dX11_feed_34 : decode cX11_feed 34 = .ok (.iload_n 2, 1) := by decide +kernel
theorem dX11_feed_35 : decode cX11_feed 35 = .ok (.iconst 1, 1) := by decide +kernel
theorem dX11_feed_36 : decode cX11_feed 36 = .ok (.isub, 1) := by decide +kernel
theorem dX11_feed_37 : decode cX11_feed 37 = .ok (.istore_n 3, 1) := by decide +kernel
theorem dX11_feed_38 : decode cX11_feed 38 = .ok (.iload_n 3, 1) := by decide +kernel
theorem dX11_feed_39 : decode cX11_feed 39 = .ok (.ifCond .lt 38, 3) := by decide +kernel
theorem dX11_feed_42 : decode cX11_feed 42 = .ok (.aload_n 0, 1) := by decide +kernel
theorem dX11_feed_43 : decode cX11_feed 43 = .ok (.getfield 55, 3) := by decide +kernel
theorem dX11_feed_46 : decode cX11_feed 46 = .ok (.aload_n 0, 1) := by decide +kernel
theorem dX11_feed_47 : decode cX11_feed 47 = .ok (.getfield 161, 3) := by decide +kernel
theorem dX11_feed_50 : decode cX11_feed 50 = .ok (.iload_n 1, 1) := by decide +kernel
theorem dX11_feed_51 : decode cX11_feed 51 = .ok (.bipush 8, 2) := by decide +kernel
theorem dX11_feed_53 : decode cX11_feed 53 = .ok (.iload_n 3, 1) := by decide +kernel
theorem dX11_feed_54 : decode cX11_feed 54 = .ok (.imul, 1) := by decide +kernel
theorem dX11_feed_55 : decode cX11_feed 55 = .ok (.ishr, 1) := by decide +kernel
theorem dX11_feed_56 : decode cX11_feed 56 = .ok (.sipush 255, 3) := by decide +kernel
theorem dX11_feed_59 : decode cX11_feed 59 = .ok (.iand, 1) := by decide +kernel
theorem dX11_feed_60 : decode cX11_feed 60 = .ok (.iastore, 1) := by decide +kernel
theorem dX11_feed_61 : decode cX11_feed 61 = .ok (.aload_n 0, 1) := by decide +kernel
theorem dX11_feed_62 : decode cX11_feed 62 = .ok (.dup, 1) := by decide +kernel
theorem dX11_feed_63 : decode cX11_feed 63 = .ok (.getfield 161, 3) := by decide +kernel
theorem dX11_feed_66 : decode cX11_feed 66 = .ok (.iconst 1, 1) := by decide +kernel
theorem dX11_feed_67 : decode cX11_feed 67 = .ok (.iadd, 1) := by decide +kernel
theorem dX11_feed_68 : decode cX11_feed 68 = .ok (.putfield 161, 3) := by decide +kernel
theorem dX11_feed_71 : decode cX11_feed 71 = .ok (.iinc 3 (-1), 3) := by decide +kernel
theorem dX11_feed_74 : decode cX11_feed 74 = .ok (.goto (-36), 3) := by decide +kernel
theorem dX11_feed_77 : decode cX11_feed 77 = .ok (.aload_n 0, 1) := by decide +kernel
theorem dX11_feed_78 : decode cX11_feed 78 = .ok (.getfield 161, 3) := by decide +kernel
theorem dX11_feed_81 : decode cX11_feed 81 = .ok (.ireturn, 1) := by decide +kernel
theorem dX11_wipe_0 : decode cX11_wipe 0 = .ok (.aload_n 0, 1) := by decide +kernel
theorem dX11_wipe_1 : decode cX11_wipe 1 = .ok (.getfield 161, 3) := by decide +kernel
theorem dX11_wipe_4 : decode cX11_wipe 4 = .ok (.istore_n 1, 1) := by decide +kernel
theorem dX11_wipe_5 : decode cX11_wipe 5 = .ok (.aload_n 0, 1) := by decide +kernel
theorem dX11_wipe_6 : decode cX11_wipe 6 = .ok (.iconst 0, 1) := by decide +kernel
theorem dX11_wipe_7 : decode cX11_wipe 7 = .ok (.putfield 161, 3) := by decide +kernel
theorem dX11_wipe_10 : decode cX11_wipe 10 = .ok (.iload_n 1, 1) := by decide +kernel
theorem dX11_wipe_11 : decode cX11_wipe 11 = .ok (.ireturn, 1) := by decide +kernel
theorem dX11_emit_0 : decode cX11_emit 0 = .ok (.aload_n 0, 1) := by decide +kernel
theorem dX11_emit_1 : decode cX11_emit 1 = .ok (.getfield 58, 3) := by decide +kernel
theorem dX11_emit_4 : decode cX11_emit 4 = .ok (.aload_n 0, 1) := by decide +kernel
theorem dX11_emit_5 : decode cX11_emit 5 = .ok (.getfield 164, 3) := by decide +kernel
theorem dX11_emit_8 : decode cX11_emit 8 = .ok (.iload_n 1, 1) := by decide +kernel
theorem dX11_emit_9 : decode cX11_emit 9 = .ok (.iastore, 1) := by decide +kernel
theorem dX11_emit_10 : decode cX11_emit 10 = .ok (.aload_n 0, 1) := by decide +kernel
theorem dX11_emit_11 : decode cX11_emit 11 = .ok (.dup, 1) := by decide +kernel
theorem dX11_emit_12 : decode cX11_emit 12 = .ok (.getfield 164, 3) := by decide +kernel
theorem dX11_emit_15 : decode cX11_emit 15 = .ok (.iconst 1, 1) := by decide +kernel
theorem dX11_emit_16 : decode cX11_emit 16 = .ok (.iadd, 1) := by decide +kernel
theorem dX11_emit_17 : decode cX11_emit 17 = .ok (.putfield 164, 3) := by decide +kernel
theorem dX11_emit_20 : decode cX11_emit 20 = .ok (.return_, 1) := by decide +kernel
theorem dX11_settles_0 : decode cX11_settles 0 = .ok (.aload_n 0, 1) := by decide +kernel
theorem dX11_settles_1 : decode cX11_settles 1 = .ok (.getfield 167, 3) := by decide +kernel
theorem dX11_settles_4 : decode cX11_settles 4 = .ok (.ifCond .le 68, 3) := by decide +kernel
theorem dX11_settles_7 : decode cX11_settles 7 = .ok (.aload_n 0, 1) := by decide +kernel
theorem dX11_settles_8 : decode cX11_settles 8 = .ok (.getfield 61, 3) := by decide +kernel
theorem dX11_settles_11 : decode cX11_settles 11 = .ok (.aload_n 0, 1) := by decide +kernel
theorem dX11_settles_12 : decode cX11_settles 12 = .ok (.getfield 167, 3) := by decide +kernel
theorem dX11_settles_15 : decode cX11_settles 15 = .ok (.iconst 1, 1) := by decide +kernel
theorem dX11_settles_16 : decode cX11_settles 16 = .ok (.isub, 1) := by decide +kernel
theorem dX11_settles_17 : decode cX11_settles 17 = .ok (.iaload, 1) := by decide +kernel
theorem dX11_settles_18 : decode cX11_settles 18 = .ok (.sipush 10100, 3) := by decide +kernel
theorem dX11_settles_21 : decode cX11_settles 21 = .ok (.if_icmp .lt 51, 3) := by decide +kernel
theorem dX11_settles_24 : decode cX11_settles 24 = .ok (.iload_n 1, 1) := by decide +kernel
theorem dX11_settles_25 : decode cX11_settles 25 = .ok (.iconst 1, 1) := by decide +kernel
theorem dX11_settles_26 : decode cX11_settles 26 = .ok (.if_icmp .eq 20, 3) := by decide +kernel
theorem dX11_settles_29 : decode cX11_settles 29 = .ok (.aload_n 0, 1) := by decide +kernel
theorem dX11_settles_30 : decode cX11_settles 30 = .ok (.getfield 61, 3) := by decide +kernel
theorem dX11_settles_33 : decode cX11_settles 33 = .ok (.aload_n 0, 1) := by decide +kernel
theorem dX11_settles_34 : decode cX11_settles 34 = .ok (.getfield 167, 3) := by decide +kernel
theorem dX11_settles_37 : decode cX11_settles 37 = .ok (.iconst 1, 1) := by decide +kernel
theorem dX11_settles_38 : decode cX11_settles 38 = .ok (.isub, 1) := by decide +kernel
theorem dX11_settles_39 : decode cX11_settles 39 = .ok (.iaload, 1) := by decide +kernel
theorem dX11_settles_40 : decode cX11_settles 40 = .ok (.sipush 10102, 3) := by decide +kernel
theorem dX11_settles_43 : decode cX11_settles 43 = .ok (.if_icmp .lt 29, 3) := by decide +kernel
theorem dX11_settles_46 : decode cX11_settles 46 = .ok (.aload_n 0, 1) := by decide +kernel
theorem dX11_settles_47 : decode cX11_settles 47 = .ok (.dup, 1) := by decide +kernel
theorem dX11_settles_48 : decode cX11_settles 48 = .ok (.getfield 167, 3) := by decide +kernel
theorem dX11_settles_51 : decode cX11_settles 51 = .ok (.iconst 1, 1) := by decide +kernel
theorem dX11_settles_52 : decode cX11_settles 52 = .ok (.isub, 1) := by decide +kernel
theorem dX11_settles_53 : decode cX11_settles 53 = .ok (.putfield 167, 3) := by decide +kernel
theorem dX11_settles_56 : decode cX11_settles 56 = .ok (.aload_n 0, 1) := by decide +kernel
theorem dX11_settles_57 : decode cX11_settles 57 = .ok (.aload_n 0, 1) := by decide +kernel
theorem dX11_settles_58 : decode cX11_settles 58 = .ok (.getfield 61, 3) := by decide +kernel
theorem dX11_settles_61 : decode cX11_settles 61 = .ok (.aload_n 0, 1) := by decide +kernel
theorem dX11_settles_62 : decode cX11_settles 62 = .ok (.getfield 167, 3) := by decide +kernel
theorem dX11_settles_65 : decode cX11_settles 65 = .ok (.iaload, 1) := by decide +kernel
theorem dX11_settles_66 : decode cX11_settles 66 = .ok (.invokevirtual 170, 3) := by decide +kernel
theorem dX11_settles_69 : decode cX11_settles 69 = .ok (.goto (-69), 3) := by decide +kernel
theorem dX11_settles_72 : decode cX11_settles 72 = .ok (.return_, 1) := by decide +kernel
theorem dX11_waits_0 : decode cX11_waits 0 = .ok (.aload_n 0, 1) := by decide +kernel
theorem dX11_waits_1 : decode cX11_waits 1 = .ok (.getfield 61, 3) := by decide +kernel
theorem dX11_waits_4 : decode cX11_waits 4 = .ok (.aload_n 0, 1) := by decide +kernel
theorem dX11_waits_5 : decode cX11_waits 5 = .ok (.getfield 167, 3) := by decide +kernel
theorem dX11_waits_8 : decode cX11_waits 8 = .ok (.iload_n 1, 1) := by decide +kernel
theorem dX11_waits_9 : decode cX11_waits 9 = .ok (.iastore, 1) := by decide +kernel
theorem dX11_waits_10 : decode cX11_waits 10 = .ok (.aload_n 0, 1) := by decide +kernel
theorem dX11_waits_11 : decode cX11_waits 11 = .ok (.dup, 1) := by decide +kernel
theorem dX11_waits_12 : decode cX11_waits 12 = .ok (.getfield 167, 3) := by decide +kernel
theorem dX11_waits_15 : decode cX11_waits 15 = .ok (.iconst 1, 1) := by decide +kernel
theorem dX11_waits_16 : decode cX11_waits 16 = .ok (.iadd, 1) := by decide +kernel
theorem dX11_waits_17 : decode cX11_waits 17 = .ok (.putfield 167, 3) := by decide +kernel
theorem dX11_waits_20 : decode cX11_waits 20 = .ok (.aload_n 0, 1) := by decide +kernel
theorem dX11_waits_21 : decode cX11_waits 21 = .ok (.dup, 1) := by decide +kernel
theorem dX11_waits_22 : decode cX11_waits 22 = .ok (.getfield 174, 3) := by decide +kernel
theorem dX11_waits_25 : decode cX11_waits 25 = .ok (.iconst 1, 1) := by decide +kernel
theorem dX11_waits_26 : decode cX11_waits 26 = .ok (.iadd, 1) := by decide +kernel
theorem dX11_waits_27 : decode cX11_waits 27 = .ok (.putfield 174, 3) := by decide +kernel
theorem dX11_waits_30 : decode cX11_waits 30 = .ok (.return_, 1) := by decide +kernel
theorem dX11_nameOf_0 : decode cX11_nameOf 0 = .ok (.iload_n 0, 1) := by decide +kernel
theorem dX11_nameOf_1 : decode cX11_nameOf 1 = .ok (.tableswitch 105 102 119 #[97, 91, 105, 105, 105, 95, 105, 105, 105, 105, 102, 105, 99, 105, 89, 87, 105, 93], 87) := by decide +kernel
theorem dX11_nameOf_88 : decode cX11_nameOf 88 = .ok (.iconst 0, 1) := by decide +kernel
theorem dX11_nameOf_89 : decode cX11_nameOf 89 = .ok (.ireturn, 1) := by decide +kernel
theorem dX11_nameOf_90 : decode cX11_nameOf 90 = .ok (.iconst 1, 1) := by decide +kernel
theorem dX11_nameOf_91 : decode cX11_nameOf 91 = .ok (.ireturn, 1) := by decide +kernel
theorem dX11_nameOf_92 : decode cX11_nameOf 92 = .ok (.iconst 2, 1) := by decide +kernel
theorem dX11_nameOf_93 : decode cX11_nameOf 93 = .ok (.ireturn, 1) := by decide +kernel
theorem dX11_nameOf_94 : decode cX11_nameOf 94 = .ok (.iconst 3, 1) := by decide +kernel
theorem dX11_nameOf_95 : decode cX11_nameOf 95 = .ok (.ireturn, 1) := by decide +kernel
theorem dX11_nameOf_96 : decode cX11_nameOf 96 = .ok (.iconst 4, 1) := by decide +kernel
theorem dX11_nameOf_97 : decode cX11_nameOf 97 = .ok (.ireturn, 1) := by decide +kernel
theorem dX11_nameOf_98 : decode cX11_nameOf 98 = .ok (.iconst 5, 1) := by decide +kernel
theorem dX11_nameOf_99 : decode cX11_nameOf 99 = .ok (.ireturn, 1) := by decide +kernel
theorem dX11_nameOf_100 : decode cX11_nameOf 100 = .ok (.bipush 6, 2) := by decide +kernel
theorem dX11_nameOf_102 : decode cX11_nameOf 102 = .ok (.ireturn, 1) := by decide +kernel
theorem dX11_nameOf_103 : decode cX11_nameOf 103 = .ok (.bipush 7, 2) := by decide +kernel
theorem dX11_nameOf_105 : decode cX11_nameOf 105 = .ok (.ireturn, 1) := by decide +kernel
theorem dX11_nameOf_106 : decode cX11_nameOf 106 = .ok (.iconst (-1), 1) := by decide +kernel
theorem dX11_nameOf_107 : decode cX11_nameOf 107 = .ok (.ireturn, 1) := by decide +kernel
theorem dX11_isDigit_0 : decode cX11_isDigit 0 = .ok (.iload_n 0, 1) := by decide +kernel
theorem dX11_isDigit_1 : decode cX11_isDigit 1 = .ok (.bipush 48, 2) := by decide +kernel
theorem dX11_isDigit_3 : decode cX11_isDigit 3 = .ok (.if_icmp .lt 13, 3) := by decide +kernel
theorem dX11_isDigit_6 : decode cX11_isDigit 6 = .ok (.iload_n 0, 1) := by decide +kernel
theorem dX11_isDigit_7 : decode cX11_isDigit 7 = .ok (.bipush 57, 2) := by decide +kernel
theorem dX11_isDigit_9 : decode cX11_isDigit 9 = .ok (.if_icmp .gt 7, 3) := by decide +kernel
theorem dX11_isDigit_12 : decode cX11_isDigit 12 = .ok (.iconst 1, 1) := by decide +kernel
theorem dX11_isDigit_13 : decode cX11_isDigit 13 = .ok (.goto 4, 3) := by decide +kernel
theorem dX11_isDigit_16 : decode cX11_isDigit 16 = .ok (.iconst 0, 1) := by decide +kernel
theorem dX11_isDigit_17 : decode cX11_isDigit 17 = .ok (.ireturn, 1) := by decide +kernel
theorem dX11_operand_0 : decode cX11_operand 0 = .ok (.aload_n 0, 1) := by decide +kernel
theorem dX11_operand_1 : decode cX11_operand 1 = .ok (.getfield 174, 3) := by decide +kernel
theorem dX11_operand_4 : decode cX11_operand 4 = .ok (.aload_n 0, 1) := by decide +kernel
theorem dX11_operand_5 : decode cX11_operand 5 = .ok (.getfield 161, 3) := by decide +kernel
theorem dX11_operand_8 : decode cX11_operand 8 = .ok (.if_icmp .ge 15, 3) := by decide +kernel
theorem dX11_operand_11 : decode cX11_operand 11 = .ok (.aload_n 0, 1) := by decide +kernel
theorem dX11_operand_12 : decode cX11_operand 12 = .ok (.getfield 55, 3) := by decide +kernel
theorem dX11_operand_15 : decode cX11_operand 15 = .ok (.aload_n 0, 1) := by decide +kernel
theorem dX11_operand_16 : decode cX11_operand 16 = .ok (.getfield 174, 3) := by decide +kernel
theorem dX11_operand_19 : decode cX11_operand 19 = .ok (.iaload, 1) := by decide +kernel
theorem dX11_operand_20 : decode cX11_operand 20 = .ok (.goto 4, 3) := by decide +kernel
theorem dX11_operand_23 : decode cX11_operand 23 = .ok (.iconst (-1), 1) := by decide +kernel
theorem dX11_operand_24 : decode cX11_operand 24 = .ok (.istore_n 1, 1) := by decide +kernel
theorem dX11_operand_25 : decode cX11_operand 25 = .ok (.iload_n 1, 1) := by decide +kernel
theorem dX11_operand_26 : decode cX11_operand 26 = .ok (.invokestatic 177, 3) := by decide +kernel
theorem dX11_operand_29 : decode cX11_operand 29 = .ok (.ifCond .eq 79, 3) := by decide +kernel
theorem dX11_operand_32 : decode cX11_operand 32 = .ok (.iconst 0, 1) := by decide +kernel
theorem dX11_operand_33 : decode cX11_operand 33 = .ok (.istore_n 2, 1) := by decide +kernel
theorem dX11_operand_34 : decode cX11_operand 34 = .ok (.iconst 0, 1) := by decide +kernel
theorem dX11_operand_35 : decode cX11_operand 35 = .ok (.istore_n 3, 1) := by decide +kernel
theorem dX11_operand_36 : decode cX11_operand 36 = .ok (.iload_n 3, 1) := by decide +kernel
theorem dX11_operand_37 : decode cX11_operand 37 = .ok (.iconst 4, 1) := by decide +kernel
theorem dX11_operand_38 : decode cX11_operand 38 = .ok (.if_icmp .ge 63, 3) := by decide +kernel
theorem dX11_operand_41 : decode cX11_operand 41 = .ok (.aload_n 0, 1) := by decide +kernel
theorem dX11_operand_42 : decode cX11_operand 42 = .ok (.getfield 174, 3) := by decide +kernel
theorem dX11_operand_45 : decode cX11_operand 45 = .ok (.aload_n 0, 1) := by decide +kernel
theorem dX11_operand_46 : decode cX11_operand 46 = .ok (.getfield 161, 3) := by decide +kernel
theorem dX11_operand_49 : decode cX11_operand 49 = .ok (.if_icmp .ge 52, 3) := by decide +kernel
theorem dX11_operand_52 : decode cX11_operand 52 = .ok (.aload_n 0, 1) := by decide +kernel
theorem dX11_operand_53 : decode cX11_operand 53 = .ok (.getfield 55, 3) := by decide +kernel
theorem dX11_operand_56 : decode cX11_operand 56 = .ok (.aload_n 0, 1) := by decide +kernel
theorem dX11_operand_57 : decode cX11_operand 57 = .ok (.getfield 174, 3) := by decide +kernel
theorem dX11_operand_60 : decode cX11_operand 60 = .ok (.iaload, 1) := by decide +kernel
theorem dX11_operand_61 : decode cX11_operand 61 = .ok (.invokestatic 177, 3) := by decide +kernel
theorem dX11_operand_64 : decode cX11_operand 64 = .ok (.ifCond .eq 37, 3) := by decide +kernel
theorem dX11_operand_67 : decode cX11_operand 67 = .ok (.bipush 10, 2) := by decide +kernel
theorem dX11_operand_69 : decode cX11_operand 69 = .ok (.iload_n 2, 1) := by decide +kernel
theorem dX11_operand_70 : decode cX11_operand 70 = .ok (.imul, 1) := by decide +kernel
theorem dX11_operand_71 : decode cX11_operand 71 = .ok (.aload_n 0, 1) := by decide +kernel
theorem dX11_operand_72 : decode cX11_operand 72 = .ok (.getfield 55, 3) := by decide +kernel
theorem dX11_operand_75 : decode cX11_operand 75 = .ok (.aload_n 0, 1) := by decide +kernel
theorem dX11_operand_76 : decode cX11_operand 76 = .ok (.getfield 174, 3) := by decide +kernel
theorem dX11_operand_79 : decode cX11_operand 79 = .ok (.iaload, 1) := by decide +kernel
theorem dX11_operand_80 : decode cX11_operand 80 = .ok (.iadd, 1) := by decide +kernel
theorem dX11_operand_81 : decode cX11_operand 81 = .ok (.bipush 48, 2) := by decide +kernel
theorem dX11_operand_83 : decode cX11_operand 83 = .ok (.isub, 1) := by decide +kernel
theorem dX11_operand_84 : decode cX11_operand 84 = .ok (.istore_n 2, 1) := by decide +kernel
theorem dX11_operand_85 : decode cX11_operand 85 = .ok (.aload_n 0, 1) := by decide +kernel
theorem dX11_operand_86 : decode cX11_operand 86 = .ok (.dup, 1) := by decide +kernel
theorem dX11_operand_87 : decode cX11_operand 87 = .ok (.getfield 174, 3) := by decide +kernel
theorem dX11_operand_90 : decode cX11_operand 90 = .ok (.iconst 1, 1) := by decide +kernel
theorem dX11_operand_91 : decode cX11_operand 91 = .ok (.iadd, 1) := by decide +kernel
theorem dX11_operand_92 : decode cX11_operand 92 = .ok (.putfield 174, 3) := by decide +kernel
theorem dX11_operand_95 : decode cX11_operand 95 = .ok (.iinc 3 1, 3) := by decide +kernel
theorem dX11_operand_98 : decode cX11_operand 98 = .ok (.goto (-62), 3) := by decide +kernel
theorem dX11_operand_101 : decode cX11_operand 101 = .ok (.aload_n 0, 1) := by decide +kernel
theorem dX11_operand_102 : decode cX11_operand 102 = .ok (.iload_n 2, 1) := by decide +kernel
theorem dX11_operand_103 : decode cX11_operand 103 = .ok (.invokevirtual 170, 3) := by decide +kernel
theorem dX11_operand_106 : decode cX11_operand 106 = .ok (.iconst 0, 1) := by decide +kernel
theorem dX11_operand_107 : decode cX11_operand 107 = .ok (.ireturn, 1) := by decide +kernel
theorem dX11_operand_108 : decode cX11_operand 108 = .ok (.iload_n 1, 1) := by decide +kernel
theorem dX11_operand_109 : decode cX11_operand 109 = .ok (.invokestatic 180, 3) := by decide +kernel
theorem dX11_operand_112 : decode cX11_operand 112 = .ok (.ifCond .lt 27, 3) := by decide +kernel
theorem dX11_operand_115 : decode cX11_operand 115 = .ok (.aload_n 0, 1) := by decide +kernel
theorem dX11_operand_116 : decode cX11_operand 116 = .ok (.sipush 10000, 3) := by decide +kernel
theorem dX11_operand_119 : decode cX11_operand 119 = .ok (.iload_n 1, 1) := by decide +kernel
theorem dX11_operand_120 : decode cX11_operand 120 = .ok (.invokestatic 180, 3) := by decide +kernel
theorem dX11_operand_123 : decode cX11_operand 123 = .ok (.iadd, 1) := by decide +kernel
theorem dX11_operand_124 : decode cX11_operand 124 = .ok (.invokevirtual 170, 3) := by decide +kernel
theorem dX11_operand_127 : decode cX11_operand 127 = .ok (.aload_n 0, 1) := by decide +kernel
theorem dX11_operand_128 : decode cX11_operand 128 = .ok (.dup, 1) := by decide +kernel
theorem dX11_operand_129 : decode cX11_operand 129 = .ok (.getfield 174, 3) := by decide +kernel
theorem dX11_operand_132 : decode cX11_operand 132 = .ok (.iconst 1, 1) := by decide +kernel
theorem dX11_operand_133 : decode cX11_operand 133 = .ok (.iadd, 1) := by decide +kernel
theorem dX11_operand_134 : decode cX11_operand 134 = .ok (.putfield 174, 3) := by decide +kernel
theorem dX11_operand_137 : decode cX11_operand 137 = .ok (.iconst 0, 1) := by decide +kernel
theorem dX11_operand_138 : decode cX11_operand 138 = .ok (.ireturn, 1) := by decide +kernel
theorem dX11_operand_139 : decode cX11_operand 139 = .ok (.iload_n 1, 1) := by decide +kernel
theorem dX11_operand_140 : decode cX11_operand 140 = .ok (.bipush 40, 2) := by decide +kernel
theorem dX11_operand_142 : decode cX11_operand 142 = .ok (.if_icmp .eq 9, 3) := by decide +kernel
theorem dX11_operand_145 : decode cX11_operand 145 = .ok (.iload_n 1, 1) := by decide +kernel
theorem dX11_operand_146 : decode cX11_operand 146 = .ok (.bipush 91, 2) := by decide +kernel
theorem dX11_operand_148 : decode cX11_operand 148 = .ok (.if_icmp .ne 28, 3) := by decide +kernel
theorem dX11_operand_151 : decode cX11_operand 151 = .ok (.aload_n 0, 1) := by decide +kernel
theorem dX11_operand_152 : decode cX11_operand 152 = .ok (.getfield 183, 3) := by decide +kernel
theorem dX11_operand_155 : decode cX11_operand 155 = .ok (.iconst 4, 1) := by decide +kernel
theorem dX11_operand_156 : decode cX11_operand 156 = .ok (.if_icmp .ge 20, 3) := by decide +kernel
theorem dX11_operand_159 : decode cX11_operand 159 = .ok (.aload_n 0, 1) := by decide +kernel
theorem dX11_operand_160 : decode cX11_operand 160 = .ok (.dup, 1) := by decide +kernel
theorem dX11_operand_161 : decode cX11_operand 161 = .ok (.getfield 183, 3) := by decide +kernel
theorem dX11_operand_164 : decode cX11_operand 164 = .ok (.iconst 1, 1) := by decide +kernel
theorem dX11_operand_165 : decode cX11_operand 165 = .ok (.iadd, 1) := by decide +kernel
theorem dX11_operand_166 : decode cX11_operand 166 = .ok (.putfield 183, 3) := by decide +kernel
theorem dX11_operand_169 : decode cX11_operand 169 = .ok (.aload_n 0, 1) := by decide +kernel
theorem dX11_operand_170 : decode cX11_operand 170 = .ok (.iload_n 1, 1) := by decide +kernel
theorem dX11_operand_171 : decode cX11_operand 171 = .ok (.invokevirtual 186, 3) := by decide +kernel
theorem dX11_operand_174 : decode cX11_operand 174 = .ok (.iconst 1, 1) := by decide +kernel
theorem dX11_operand_175 : decode cX11_operand 175 = .ok (.ireturn, 1) := by decide +kernel
theorem dX11_operand_176 : decode cX11_operand 176 = .ok (.aload_n 0, 1) := by decide +kernel
theorem dX11_operand_177 : decode cX11_operand 177 = .ok (.iconst 1, 1) := by decide +kernel
theorem dX11_operand_178 : decode cX11_operand 178 = .ok (.putfield 188, 3) := by decide +kernel
theorem dX11_operand_181 : decode cX11_operand 181 = .ok (.iconst 1, 1) := by decide +kernel
theorem dX11_operand_182 : decode cX11_operand 182 = .ok (.ireturn, 1) := by decide +kernel
theorem dX11_top_0 : decode cX11_top 0 = .ok (.aload_n 0, 1) := by decide +kernel
theorem dX11_top_1 : decode cX11_top 1 = .ok (.getfield 167, 3) := by decide +kernel
theorem dX11_top_4 : decode cX11_top 4 = .ok (.ifCond .ne 7, 3) := by decide +kernel
theorem dX11_top_7 : decode cX11_top 7 = .ok (.iconst (-1), 1) := by decide +kernel
theorem dX11_top_8 : decode cX11_top 8 = .ok (.goto 14, 3) := by decide +kernel
theorem dX11_top_11 : decode cX11_top 11 = .ok (.aload_n 0, 1) := by decide +kernel
theorem dX11_top_12 : decode cX11_top 12 = .ok (.getfield 61, 3) := by decide +kernel
theorem dX11_top_15 : decode cX11_top 15 = .ok (.aload_n 0, 1) := by decide +kernel
theorem dX11_top_16 : decode cX11_top 16 = .ok (.getfield 167, 3) := by decide +kernel
theorem dX11_top_19 : decode cX11_top 19 = .ok (.iconst 1, 1) := by decide +kernel
theorem dX11_top_20 : decode cX11_top 20 = .ok (.isub, 1) := by decide +kernel
theorem dX11_top_21 : decode cX11_top 21 = .ok (.iaload, 1) := by decide +kernel
theorem dX11_top_22 : decode cX11_top 22 = .ok (.ireturn, 1) := by decide +kernel
theorem dX11_operator_0 : decode cX11_operator 0 = .ok (.aload_n 0, 1) := by decide +kernel
theorem dX11_operator_1 : decode cX11_operator 1 = .ok (.getfield 55, 3) := by decide +kernel
theorem dX11_operator_4 : decode cX11_operator 4 = .ok (.aload_n 0, 1) := by decide +kernel
theorem dX11_operator_5 : decode cX11_operator 5 = .ok (.getfield 174, 3) := by decide +kernel
theorem dX11_operator_8 : decode cX11_operator 8 = .ok (.iaload, 1) := by decide +kernel
theorem dX11_operator_9 : decode cX11_operator 9 = .ok (.istore_n 1, 1) := by decide +kernel
theorem dX11_operator_10 : decode cX11_operator 10 = .ok (.iload_n 1, 1) := by decide +kernel
theorem dX11_operator_11 : decode cX11_operator 11 = .ok (.bipush 43, 2) := by decide +kernel
theorem dX11_operator_13 : decode cX11_operator 13 = .ok (.if_icmp .eq 21, 3) := by decide +kernel
theorem dX11_operator_16 : decode cX11_operator 16 = .ok (.iload_n 1, 1) := by decide +kernel
theorem dX11_operator_17 : decode cX11_operator 17 = .ok (.bipush 45, 2) := by decide +kernel
theorem dX11_operator_19 : decode cX11_operator 19 = .ok (.if_icmp .eq 15, 3) := by decide +kernel
theorem dX11_operator_22 : decode cX11_operator 22 = .ok (.iload_n 1, 1) := by decide +kernel
theorem dX11_operator_23 : decode cX11_operator 23 = .ok (.bipush 42, 2) := by decide +kernel
theorem dX11_operator_25 : decode cX11_operator 25 = .ok (.if_icmp .eq 9, 3) := by decide +kernel
theorem dX11_operator_28 : decode cX11_operator 28 = .ok (.iload_n 1, 1) := by decide +kernel
theorem dX11_operator_29 : decode cX11_operator 29 = .ok (.bipush 47, 2) := by decide +kernel
theorem dX11_operator_31 : decode cX11_operator 31 = .ok (.if_icmp .ne 69, 3) := by decide +kernel
theorem dX11_operator_34 : decode cX11_operator 34 = .ok (.aload_n 0, 1) := by decide +kernel
theorem dX11_operator_35 : decode cX11_operator 35 = .ok (.iload_n 1, 1) := by decide +kernel
theorem dX11_operator_36 : decode cX11_operator 36 = .ok (.bipush 43, 2) := by decide +kernel
theorem dX11_operator_38 : decode cX11_operator 38 = .ok (.if_icmp .eq 9, 3) := by decide +kernel
theorem dX11_operator_41 : decode cX11_operator 41 = .ok (.iload_n 1, 1) := by decide +kernel
theorem dX11_operator_42 : decode cX11_operator 42 = .ok (.bipush 45, 2) := by decide +kernel
theorem dX11_operator_44 : decode cX11_operator 44 = .ok (.if_icmp .ne 7, 3) := by decide +kernel
theorem dX11_operator_47 : decode cX11_operator 47 = .ok (.iconst 1, 1) := by decide +kernel
theorem dX11_operator_48 : decode cX11_operator 48 = .ok (.goto 4, 3) := by decide +kernel
theorem dX11_operator_51 : decode cX11_operator 51 = .ok (.iconst 2, 1) := by decide +kernel
theorem dX11_operator_52 : decode cX11_operator 52 = .ok (.invokevirtual 191, 3) := by decide +kernel
theorem dX11_operator_55 : decode cX11_operator 55 = .ok (.aload_n 0, 1) := by decide +kernel
theorem dX11_operator_56 : decode cX11_operator 56 = .ok (.iload_n 1, 1) := by decide +kernel
theorem dX11_operator_57 : decode cX11_operator 57 = .ok (.bipush 43, 2) := by decide +kernel
theorem dX11_operator_59 : decode cX11_operator 59 = .ok (.if_icmp .ne 9, 3) := by decide +kernel
theorem dX11_operator_62 : decode cX11_operator 62 = .ok (.sipush 10100, 3) := by decide +kernel
theorem dX11_operator_65 : decode cX11_operator 65 = .ok (.goto 30, 3) := by decide +kernel
theorem dX11_operator_68 : decode cX11_operator 68 = .ok (.iload_n 1, 1) := by decide +kernel
theorem dX11_operator_69 : decode cX11_operator 69 = .ok (.bipush 45, 2) := by decide +kernel
theorem dX11_operator_71 : decode cX11_operator 71 = .ok (.if_icmp .ne 9, 3) := by decide +kernel
theorem dX11_operator_74 : decode cX11_operator 74 = .ok (.sipush 10101, 3) := by decide +kernel
theorem dX11_operator_77 : decode cX11_operator 77 = .ok (.goto 18, 3) := by decide +kernel
theorem dX11_operator_80 : decode cX11_operator 80 = .ok (.iload_n 1, 1) := by decide +kernel
theorem dX11_operator_81 : decode cX11_operator 81 = .ok (.bipush 42, 2) := by decide +kernel
theorem dX11_operator_83 : decode cX11_operator 83 = .ok (.if_icmp .ne 9, 3) := by decide +kernel
theorem dX11_operator_86 : decode cX11_operator 86 = .ok (.sipush 10102, 3) := by decide +kernel
theorem dX11_operator_89 : decode cX11_operator 89 = .ok (.goto 6, 3) := by decide +kernel
theorem dX11_operator_92 : decode cX11_operator 92 = .ok (.sipush 10103, 3) := by decide +kernel
theorem dX11_operator_95 : decode cX11_operator 95 = .ok (.invokevirtual 186, 3) := by decide +kernel
theorem dX11_operator_98 : decode cX11_operator 98 = .ok (.iconst 1, 1) := by decide +kernel
theorem dX11_operator_99 : decode cX11_operator 99 = .ok (.ireturn, 1) := by decide +kernel
theorem dX11_operator_100 : decode cX11_operator 100 = .ok (.aload_n 0, 1) := by decide +kernel
theorem dX11_operator_101 : decode cX11_operator 101 = .ok (.iconst 1, 1) := by decide +kernel
theorem dX11_operator_102 : decode cX11_operator 102 = .ok (.invokevirtual 191, 3) := by decide +kernel
theorem dX11_operator_105 : decode cX11_operator 105 = .ok (.iload_n 1, 1) := by decide +kernel
theorem dX11_operator_106 : decode cX11_operator 106 = .ok (.bipush 41, 2) := by decide +kernel
theorem dX11_operator_108 : decode cX11_operator 108 = .ok (.if_icmp .ne 12, 3) := by decide +kernel
theorem dX11_operator_111 : decode cX11_operator 111 = .ok (.aload_n 0, 1) := by decide +kernel
theorem dX11_operator_112 : decode cX11_operator 112 = .ok (.invokevirtual 194, 3) := by decide +kernel
theorem dX11_operator_115 : decode cX11_operator 115 = .ok (.bipush 40, 2) := by decide +kernel
theorem dX11_operator_117 : decode cX11_operator 117 = .ok (.if_icmp .eq 18, 3) := by decide +kernel
theorem dX11_operator_120 : decode cX11_operator 120 = .ok (.iload_n 1, 1) := by decide +kernel
theorem dX11_operator_121 : decode cX11_operator 121 = .ok (.bipush 93, 2) := by decide +kernel
theorem dX11_operator_123 : decode cX11_operator 123 = .ok (.if_icmp .ne 57, 3) := by decide +kernel
theorem dX11_operator_126 : decode cX11_operator 126 = .ok (.aload_n 0, 1) := by decide +kernel
theorem dX11_operator_127 : decode cX11_operator 127 = .ok (.invokevirtual 194, 3) := by decide +kernel
theorem dX11_operator_130 : decode cX11_operator 130 = .ok (.bipush 58, 2) := by decide +kernel
theorem dX11_operator_132 : decode cX11_operator 132 = .ok (.if_icmp .ne 48, 3) := by decide +kernel
theorem dX11_operator_135 : decode cX11_operator 135 = .ok (.iload_n 1, 1) := by decide +kernel
theorem dX11_operator_136 : decode cX11_operator 136 = .ok (.bipush 93, 2) := by decide +kernel
theorem dX11_operator_138 : decode cX11_operator 138 = .ok (.if_icmp .ne 10, 3) := by decide +kernel
theorem dX11_operator_141 : decode cX11_operator 141 = .ok (.aload_n 0, 1) := by decide +kernel
theorem dX11_operator_142 : decode cX11_operator 142 = .ok (.sipush 10104, 3) := by decide +kernel
theorem dX11_operator_145 : decode cX11_operator 145 = .ok (.invokevirtual 170, 3) := by decide +kernel
theorem dX11_operator_148 : decode cX11_operator 148 = .ok (.aload_n 0, 1) := by decide +kernel
theorem dX11_operator_149 : decode cX11_operator 149 = .ok (.dup, 1) := by decide +kernel
theorem dX11_operator_150 : decode cX11_operator 150 = .ok (.getfield 167, 3) := by decide +kernel
theorem dX11_operator_153 : decode cX11_operator 153 = .ok (.iconst 1, 1) := by decide +kernel
theorem dX11_operator_154 : decode cX11_operator 154 = .ok (.isub, 1) := by decide +kernel
theorem dX11_operator_155 : decode cX11_operator 155 = .ok (.putfield 167, 3) := by decide +kernel
theorem dX11_operator_158 : decode cX11_operator 158 = .ok (.aload_n 0, 1) := by decide +kernel
theorem dX11_operator_159 : decode cX11_operator 159 = .ok (.dup, 1) := by decide +kernel
theorem dX11_operator_160 : decode cX11_operator 160 = .ok (.getfield 183, 3) := by decide +kernel
theorem dX11_operator_163 : decode cX11_operator 163 = .ok (.iconst 1, 1) := by decide +kernel
theorem dX11_operator_164 : decode cX11_operator 164 = .ok (.isub, 1) := by decide +kernel
theorem dX11_operator_165 : decode cX11_operator 165 = .ok (.putfield 183, 3) := by decide +kernel
theorem dX11_operator_168 : decode cX11_operator 168 = .ok (.aload_n 0, 1) := by decide +kernel
theorem dX11_operator_169 : decode cX11_operator 169 = .ok (.dup, 1) := by decide +kernel
theorem dX11_operator_170 : decode cX11_operator 170 = .ok (.getfield 174, 3) := by decide +kernel
theorem dX11_operator_173 : decode cX11_operator 173 = .ok (.iconst 1, 1) := by decide +kernel
theorem dX11_operator_174 : decode cX11_operator 174 = .ok (.iadd, 1) := by decide +kernel
theorem dX11_operator_175 : decode cX11_operator 175 = .ok (.putfield 174, 3) := by decide +kernel
theorem dX11_operator_178 : decode cX11_operator 178 = .ok (.iconst 0, 1) := by decide +kernel
theorem dX11_operator_179 : decode cX11_operator 179 = .ok (.ireturn, 1) := by decide +kernel
theorem dX11_operator_180 : decode cX11_operator 180 = .ok (.iload_n 1, 1) := by decide +kernel
theorem dX11_operator_181 : decode cX11_operator 181 = .ok (.bipush 63, 2) := by decide +kernel
theorem dX11_operator_183 : decode cX11_operator 183 = .ok (.if_icmp .ne 12, 3) := by decide +kernel
theorem dX11_operator_186 : decode cX11_operator 186 = .ok (.aload_n 0, 1) := by decide +kernel
theorem dX11_operator_187 : decode cX11_operator 187 = .ok (.invokevirtual 194, 3) := by decide +kernel
theorem dX11_operator_190 : decode cX11_operator 190 = .ok (.bipush 91, 2) := by decide +kernel
theorem dX11_operator_192 : decode cX11_operator 192 = .ok (.if_icmp .eq 18, 3) := by decide +kernel
theorem dX11_operator_195 : decode cX11_operator 195 = .ok (.iload_n 1, 1) := by decide +kernel
theorem dX11_operator_196 : decode cX11_operator 196 = .ok (.bipush 58, 2) := by decide +kernel
theorem dX11_operator_198 : decode cX11_operator 198 = .ok (.if_icmp .ne 36, 3) := by decide +kernel
theorem dX11_operator_201 : decode cX11_operator 201 = .ok (.aload_n 0, 1) := by decide +kernel
theorem dX11_operator_202 : decode cX11_operator 202 = .ok (.invokevirtual 194, 3) := by decide +kernel
theorem dX11_operator_205 : decode cX11_operator 205 = .ok (.bipush 63, 2) := by decide +kernel
theorem dX11_operator_207 : decode cX11_operator 207 = .ok (.if_icmp .ne 27, 3) := by decide +kernel
theorem dX11_operator_210 : decode cX11_operator 210 = .ok (.aload_n 0, 1) := by decide +kernel
theorem dX11_operator_211 : decode cX11_operator 211 = .ok (.getfield 61, 3) := by decide +kernel
theorem dX11_operator_214 : decode cX11_operator 214 = .ok (.aload_n 0, 1) := by decide +kernel
theorem dX11_operator_215 : decode cX11_operator 215 = .ok (.getfield 167, 3) := by decide +kernel
theorem dX11_operator_218 : decode cX11_operator 218 = .ok (.iconst 1, 1) := by decide +kernel
theorem dX11_operator_219 : decode cX11_operator 219 = .ok (.isub, 1) := by decide +kernel
theorem dX11_operator_220 : decode cX11_operator 220 = .ok (.iload_n 1, 1) := by decide +kernel
theorem dX11_operator_221 : decode cX11_operator 221 = .ok (.iastore, 1) := by decide +kernel
theorem dX11_operator_222 : decode cX11_operator 222 = .ok (.aload_n 0, 1) := by decide +kernel
theorem dX11_operator_223 : decode cX11_operator 223 = .ok (.dup, 1) := by decide +kernel
theorem dX11_operator_224 : decode cX11_operator 224 = .ok (.getfield 174, 3) := by decide +kernel
theorem dX11_operator_227 : decode cX11_operator 227 = .ok (.iconst 1, 1) := by decide +kernel
theorem dX11_operator_228 : decode cX11_operator 228 = .ok (.iadd, 1) := by decide +kernel
theorem dX11_operator_229 : decode cX11_operator 229 = .ok (.putfield 174, 3) := by decide +kernel
theorem dX11_operator_232 : decode cX11_operator 232 = .ok (.iconst 1, 1) := by decide +kernel
theorem dX11_operator_233 : decode cX11_operator 233 = .ok (.ireturn, 1) := by decide +kernel
theorem dX11_operator_234 : decode cX11_operator 234 = .ok (.aload_n 0, 1) := by decide +kernel
theorem dX11_operator_235 : decode cX11_operator 235 = .ok (.iconst 1, 1) := by decide +kernel
theorem dX11_operator_236 : decode cX11_operator 236 = .ok (.putfield 188, 3) := by decide +kernel
theorem dX11_operator_239 : decode cX11_operator 239 = .ok (.iconst 0, 1) := by decide +kernel
theorem dX11_operator_240 : decode cX11_operator 240 = .ok (.ireturn, 1) := by decide +kernel
theorem dX11_rule_0 : decode cX11_rule 0 = .ok (.aload_n 0, 1) := by decide +kernel
theorem dX11_rule_1 : decode cX11_rule 1 = .ok (.iconst 0, 1) := by decide +kernel
theorem dX11_rule_2 : decode cX11_rule 2 = .ok (.putfield 174, 3) := by decide +kernel
theorem dX11_rule_5 : decode cX11_rule 5 = .ok (.aload_n 0, 1) := by decide +kernel
theorem dX11_rule_6 : decode cX11_rule 6 = .ok (.iconst 0, 1) := by decide +kernel
theorem dX11_rule_7 : decode cX11_rule 7 = .ok (.putfield 167, 3) := by decide +kernel
theorem dX11_rule_10 : decode cX11_rule 10 = .ok (.aload_n 0, 1) := by decide +kernel
theorem dX11_rule_11 : decode cX11_rule 11 = .ok (.iconst 0, 1) := by decide +kernel
theorem dX11_rule_12 : decode cX11_rule 12 = .ok (.putfield 183, 3) := by decide +kernel
theorem dX11_rule_15 : decode cX11_rule 15 = .ok (.aload_n 0, 1) := by decide +kernel
theorem dX11_rule_16 : decode cX11_rule 16 = .ok (.iconst 0, 1) := by decide +kernel
theorem dX11_rule_17 : decode cX11_rule 17 = .ok (.putfield 164, 3) := by decide +kernel
theorem dX11_rule_20 : decode cX11_rule 20 = .ok (.aload_n 0, 1) := by decide +kernel
theorem dX11_rule_21 : decode cX11_rule 21 = .ok (.iconst 0, 1) := by decide +kernel
theorem dX11_rule_22 : decode cX11_rule 22 = .ok (.putfield 188, 3) := by decide +kernel
theorem dX11_rule_25 : decode cX11_rule 25 = .ok (.iconst 1, 1) := by decide +kernel
theorem dX11_rule_26 : decode cX11_rule 26 = .ok (.istore_n 1, 1) := by decide +kernel
theorem dX11_rule_27 : decode cX11_rule 27 = .ok (.aload_n 0, 1) := by decide +kernel
theorem dX11_rule_28 : decode cX11_rule 28 = .ok (.getfield 188, 3) := by decide +kernel
theorem dX11_rule_31 : decode cX11_rule 31 = .ok (.ifCond .ne 37, 3) := by decide +kernel
theorem dX11_rule_34 : decode cX11_rule 34 = .ok (.iload_n 1, 1) := by decide +kernel
theorem dX11_rule_35 : decode cX11_rule 35 = .ok (.ifCond .ne 14, 3) := by decide +kernel
theorem dX11_rule_38 : decode cX11_rule 38 = .ok (.aload_n 0, 1) := by decide +kernel
theorem dX11_rule_39 : decode cX11_rule 39 = .ok (.getfield 174, 3) := by decide +kernel
theorem dX11_rule_42 : decode cX11_rule 42 = .ok (.aload_n 0, 1) := by decide +kernel
theorem dX11_rule_43 : decode cX11_rule 43 = .ok (.getfield 161, 3) := by decide +kernel
theorem dX11_rule_46 : decode cX11_rule 46 = .ok (.if_icmp .ge 22, 3) := by decide +kernel
theorem dX11_rule_49 : decode cX11_rule 49 = .ok (.iload_n 1, 1) := by decide +kernel
theorem dX11_rule_50 : decode cX11_rule 50 = .ok (.ifCond .eq 10, 3) := by decide +kernel
theorem dX11_rule_53 : decode cX11_rule 53 = .ok (.aload_n 0, 1) := by decide +kernel
theorem dX11_rule_54 : decode cX11_rule 54 = .ok (.invokevirtual 198, 3) := by decide +kernel
theorem dX11_rule_57 : decode cX11_rule 57 = .ok (.goto 7, 3) := by decide +kernel
theorem dX11_rule_60 : decode cX11_rule 60 = .ok (.aload_n 0, 1) := by decide +kernel
theorem dX11_rule_61 : decode cX11_rule 61 = .ok (.invokevirtual 202, 3) := by decide +kernel
theorem dX11_rule_64 : decode cX11_rule 64 = .ok (.istore_n 1, 1) := by decide +kernel
theorem dX11_rule_65 : decode cX11_rule 65 = .ok (.goto (-38), 3) := by decide +kernel
theorem dX11_rule_68 : decode cX11_rule 68 = .ok (.aload_n 0, 1) := by decide +kernel
theorem dX11_rule_69 : decode cX11_rule 69 = .ok (.getfield 188, 3) := by decide +kernel
theorem dX11_rule_72 : decode cX11_rule 72 = .ok (.ifCond .ne 24, 3) := by decide +kernel
theorem dX11_rule_75 : decode cX11_rule 75 = .ok (.aload_n 0, 1) := by decide +kernel
theorem dX11_rule_76 : decode cX11_rule 76 = .ok (.iconst 1, 1) := by decide +kernel
theorem dX11_rule_77 : decode cX11_rule 77 = .ok (.invokevirtual 191, 3) := by decide +kernel
theorem dX11_rule_80 : decode cX11_rule 80 = .ok (.aload_n 0, 1) := by decide +kernel
theorem dX11_rule_81 : decode cX11_rule 81 = .ok (.aload_n 0, 1) := by decide +kernel
theorem dX11_rule_82 : decode cX11_rule 82 = .ok (.getfield 167, 3) := by decide +kernel
theorem dX11_rule_85 : decode cX11_rule 85 = .ok (.ifCond .le 7, 3) := by decide +kernel
theorem dX11_rule_88 : decode cX11_rule 88 = .ok (.iconst 1, 1) := by decide +kernel
theorem dX11_rule_89 : decode cX11_rule 89 = .ok (.goto 4, 3) := by decide +kernel
theorem dX11_rule_92 : decode cX11_rule 92 = .ok (.iconst 0, 1) := by decide +kernel
theorem dX11_rule_93 : decode cX11_rule 93 = .ok (.putfield 188, 3) := by decide +kernel
theorem dX11_rule_96 : decode cX11_rule 96 = .ok (.aload_n 0, 1) := by decide +kernel
theorem dX11_rule_97 : decode cX11_rule 97 = .ok (.getfield 188, 3) := by decide +kernel
theorem dX11_rule_100 : decode cX11_rule 100 = .ok (.ifCond .eq 10, 3) := by decide +kernel
theorem dX11_rule_103 : decode cX11_rule 103 = .ok (.iconst (-1), 1) := by decide +kernel
theorem dX11_rule_104 : decode cX11_rule 104 = .ok (.aload_n 0, 1) := by decide +kernel
theorem dX11_rule_105 : decode cX11_rule 105 = .ok (.getfield 174, 3) := by decide +kernel
theorem dX11_rule_108 : decode cX11_rule 108 = .ok (.isub, 1) := by decide +kernel
theorem dX11_rule_109 : decode cX11_rule 109 = .ok (.ireturn, 1) := by decide +kernel
theorem dX11_rule_110 : decode cX11_rule 110 = .ok (.aload_n 0, 1) := by decide +kernel
theorem dX11_rule_111 : decode cX11_rule 111 = .ok (.getfield 9, 3) := by decide +kernel
theorem dX11_rule_114 : decode cX11_rule 114 = .ok (.bipush 6, 2) := by decide +kernel
theorem dX11_rule_116 : decode cX11_rule 116 = .ok (.aload_n 0, 1) := by decide +kernel
theorem dX11_rule_117 : decode cX11_rule 117 = .ok (.getfield 164, 3) := by decide +kernel
theorem dX11_rule_120 : decode cX11_rule 120 = .ok (.iastore, 1) := by decide +kernel
theorem dX11_rule_121 : decode cX11_rule 121 = .ok (.iconst 0, 1) := by decide +kernel
theorem dX11_rule_122 : decode cX11_rule 122 = .ok (.istore_n 2, 1) := by decide +kernel
theorem dX11_rule_123 : decode cX11_rule 123 = .ok (.iload_n 2, 1) := by decide +kernel
theorem dX11_rule_124 : decode cX11_rule 124 = .ok (.aload_n 0, 1) := by decide +kernel
theorem dX11_rule_125 : decode cX11_rule 125 = .ok (.getfield 164, 3) := by decide +kernel
theorem dX11_rule_128 : decode cX11_rule 128 = .ok (.if_icmp .ge 25, 3) := by decide +kernel
theorem dX11_rule_131 : decode cX11_rule 131 = .ok (.aload_n 0, 1) := by decide +kernel
theorem dX11_rule_132 : decode cX11_rule 132 = .ok (.getfield 9, 3) := by decide +kernel
theorem dX11_rule_135 : decode cX11_rule 135 = .ok (.sipush 211, 3) := by decide +kernel
theorem dX11_rule_138 : decode cX11_rule 138 = .ok (.iload_n 2, 1) := by decide +kernel
theorem dX11_rule_139 : decode cX11_rule 139 = .ok (.iadd, 1) := by decide +kernel
theorem dX11_rule_140 : decode cX11_rule 140 = .ok (.aload_n 0, 1) := by decide +kernel
theorem dX11_rule_141 : decode cX11_rule 141 = .ok (.getfield 58, 3) := by decide +kernel
theorem dX11_rule_144 : decode cX11_rule 144 = .ok (.iload_n 2, 1) := by decide +kernel
theorem dX11_rule_145 : decode cX11_rule 145 = .ok (.iaload, 1) := by decide +kernel
theorem dX11_rule_146 : decode cX11_rule 146 = .ok (.iastore, 1) := by decide +kernel
theorem dX11_rule_147 : decode cX11_rule 147 = .ok (.iinc 2 1, 3) := by decide +kernel
theorem dX11_rule_150 : decode cX11_rule 150 = .ok (.goto (-27), 3) := by decide +kernel
theorem dX11_rule_153 : decode cX11_rule 153 = .ok (.aload_n 0, 1) := by decide +kernel
theorem dX11_rule_154 : decode cX11_rule 154 = .ok (.iconst 0, 1) := by decide +kernel
theorem dX11_rule_155 : decode cX11_rule 155 = .ok (.putfield 161, 3) := by decide +kernel
theorem dX11_rule_158 : decode cX11_rule 158 = .ok (.iconst 0, 1) := by decide +kernel
theorem dX11_rule_159 : decode cX11_rule 159 = .ok (.ireturn, 1) := by decide +kernel
theorem dX11_plain_0 : decode cX11_plain 0 = .ok (.aload_n 0, 1) := by decide +kernel
theorem dX11_plain_1 : decode cX11_plain 1 = .ok (.getfield 9, 3) := by decide +kernel
theorem dX11_plain_4 : decode cX11_plain 4 = .ok (.bipush 6, 2) := by decide +kernel
theorem dX11_plain_6 : decode cX11_plain 6 = .ok (.iaload, 1) := by decide +kernel
theorem dX11_plain_7 : decode cX11_plain 7 = .ok (.ifCond .le 7, 3) := by decide +kernel
theorem dX11_plain_10 : decode cX11_plain 10 = .ok (.iconst 1, 1) := by decide +kernel
theorem dX11_plain_11 : decode cX11_plain 11 = .ok (.goto 4, 3) := by decide +kernel
theorem dX11_plain_14 : decode cX11_plain 14 = .ok (.iconst 0, 1) := by decide +kernel
theorem dX11_plain_15 : decode cX11_plain 15 = .ok (.istore_n 1, 1) := by decide +kernel
theorem dX11_plain_16 : decode cX11_plain 16 = .ok (.aload_n 0, 1) := by decide +kernel
theorem dX11_plain_17 : decode cX11_plain 17 = .ok (.getfield 9, 3) := by decide +kernel
theorem dX11_plain_20 : decode cX11_plain 20 = .ok (.bipush 6, 2) := by decide +kernel
theorem dX11_plain_22 : decode cX11_plain 22 = .ok (.iconst 0, 1) := by decide +kernel
theorem dX11_plain_23 : decode cX11_plain 23 = .ok (.iastore, 1) := by decide +kernel
theorem dX11_plain_24 : decode cX11_plain 24 = .ok (.iload_n 1, 1) := by decide +kernel
theorem dX11_plain_25 : decode cX11_plain 25 = .ok (.ireturn, 1) := by decide +kernel
theorem dX11_factOf_0 : decode cX11_factOf 0 = .ok (.iload_n 2, 1) := by decide +kernel
theorem dX11_factOf_1 : decode cX11_factOf 1 = .ok (.tableswitch 90 0 6 #[43, 51, 59, 67, 74, 81, 83], 43) := by decide +kernel
theorem dX11_factOf_44 : decode cX11_factOf 44 = .ok (.aload_n 0, 1) := by decide +kernel
theorem dX11_factOf_45 : decode cX11_factOf 45 = .ok (.iload_n 1, 1) := by decide +kernel
theorem dX11_factOf_46 : decode cX11_factOf 46 = .ok (.bipush 7, 2) := by decide +kernel
theorem dX11_factOf_48 : decode cX11_factOf 48 = .ok (.invokevirtual 101, 3) := by decide +kernel
theorem dX11_factOf_51 : decode cX11_factOf 51 = .ok (.ireturn, 1) := by decide +kernel
theorem dX11_factOf_52 : decode cX11_factOf 52 = .ok (.aload_n 0, 1) := by decide +kernel
theorem dX11_factOf_53 : decode cX11_factOf 53 = .ok (.iload_n 1, 1) := by decide +kernel
theorem dX11_factOf_54 : decode cX11_factOf 54 = .ok (.bipush 8, 2) := by decide +kernel
theorem dX11_factOf_56 : decode cX11_factOf 56 = .ok (.invokevirtual 101, 3) := by decide +kernel
theorem dX11_factOf_59 : decode cX11_factOf 59 = .ok (.ireturn, 1) := by decide +kernel
theorem dX11_factOf_60 : decode cX11_factOf 60 = .ok (.aload_n 0, 1) := by decide +kernel
theorem dX11_factOf_61 : decode cX11_factOf 61 = .ok (.iload_n 1, 1) := by decide +kernel
theorem dX11_factOf_62 : decode cX11_factOf 62 = .ok (.bipush 9, 2) := by decide +kernel
theorem dX11_factOf_64 : decode cX11_factOf 64 = .ok (.invokevirtual 101, 3) := by decide +kernel
theorem dX11_factOf_67 : decode cX11_factOf 67 = .ok (.ireturn, 1) := by decide +kernel
theorem dX11_factOf_68 : decode cX11_factOf 68 = .ok (.aload_n 0, 1) := by decide +kernel
theorem dX11_factOf_69 : decode cX11_factOf 69 = .ok (.iload_n 1, 1) := by decide +kernel
theorem dX11_factOf_70 : decode cX11_factOf 70 = .ok (.iconst 2, 1) := by decide +kernel
theorem dX11_factOf_71 : decode cX11_factOf 71 = .ok (.invokevirtual 101, 3) := by decide +kernel
theorem dX11_factOf_74 : decode cX11_factOf 74 = .ok (.ireturn, 1) := by decide +kernel
theorem dX11_factOf_75 : decode cX11_factOf 75 = .ok (.aload_n 0, 1) := by decide +kernel
theorem dX11_factOf_76 : decode cX11_factOf 76 = .ok (.iload_n 1, 1) := by decide +kernel
theorem dX11_factOf_77 : decode cX11_factOf 77 = .ok (.iconst 0, 1) := by decide +kernel
theorem dX11_factOf_78 : decode cX11_factOf 78 = .ok (.invokevirtual 101, 3) := by decide +kernel
theorem dX11_factOf_81 : decode cX11_factOf 81 = .ok (.ireturn, 1) := by decide +kernel
theorem dX11_factOf_82 : decode cX11_factOf 82 = .ok (.iload_n 1, 1) := by decide +kernel
theorem dX11_factOf_83 : decode cX11_factOf 83 = .ok (.ireturn, 1) := by decide +kernel
theorem dX11_factOf_84 : decode cX11_factOf 84 = .ok (.aload_n 0, 1) := by decide +kernel
theorem dX11_factOf_85 : decode cX11_factOf 85 = .ok (.iload_n 1, 1) := by decide +kernel
theorem dX11_factOf_86 : decode cX11_factOf 86 = .ok (.iconst 1, 1) := by decide +kernel
theorem dX11_factOf_87 : decode cX11_factOf 87 = .ok (.invokevirtual 101, 3) := by decide +kernel
theorem dX11_factOf_90 : decode cX11_factOf 90 = .ok (.ireturn, 1) := by decide +kernel
theorem dX11_factOf_91 : decode cX11_factOf 91 = .ok (.aload_n 0, 1) := by decide +kernel
theorem dX11_factOf_92 : decode cX11_factOf 92 = .ok (.iload_n 1, 1) := by decide +kernel
theorem dX11_factOf_93 : decode cX11_factOf 93 = .ok (.invokevirtual 114, 3) := by decide +kernel
theorem dX11_factOf_96 : decode cX11_factOf 96 = .ok (.ireturn, 1) := by decide +kernel
theorem dX11_done_0 : decode cX11_done 0 = .ok (.iload_n 0, 1) := by decide +kernel
theorem dX11_done_1 : decode cX11_done 1 = .ok (.tableswitch 39 10100 10102 #[27, 31, 35], 27) := by decide +kernel
theorem dX11_done_28 : decode cX11_done 28 = .ok (.iload_n 1, 1) := by decide +kernel
theorem dX11_done_29 : decode cX11_done 29 = .ok (.iload_n 2, 1) := by decide +kernel
theorem dX11_done_30 : decode cX11_done 30 = .ok (.iadd, 1) := by decide +kernel
theorem dX11_done_31 : decode cX11_done 31 = .ok (.ireturn, 1) := by decide +kernel
theorem dX11_done_32 : decode cX11_done 32 = .ok (.iload_n 1, 1) := by decide +kernel
theorem dX11_done_33 : decode cX11_done 33 = .ok (.iload_n 2, 1) := by decide +kernel
theorem dX11_done_34 : decode cX11_done 34 = .ok (.isub, 1) := by decide +kernel
theorem dX11_done_35 : decode cX11_done 35 = .ok (.ireturn, 1) := by decide +kernel
theorem dX11_done_36 : decode cX11_done 36 = .ok (.iload_n 1, 1) := by decide +kernel
theorem dX11_done_37 : decode cX11_done 37 = .ok (.iload_n 2, 1) := by decide +kernel
theorem dX11_done_38 : decode cX11_done 38 = .ok (.imul, 1) := by decide +kernel
theorem dX11_done_39 : decode cX11_done 39 = .ok (.ireturn, 1) := by decide +kernel
theorem dX11_done_40 : decode cX11_done 40 = .ok (.iload_n 2, 1) := by decide +kernel
theorem dX11_done_41 : decode cX11_done 41 = .ok (.ifCond .ne 7, 3) := by decide +kernel
theorem dX11_done_44 : decode cX11_done 44 = .ok (.iconst 0, 1) := by decide +kernel
theorem dX11_done_45 : decode cX11_done 45 = .ok (.goto 16, 3) := by decide +kernel
theorem dX11_done_48 : decode cX11_done 48 = .ok (.iload_n 2, 1) := by decide +kernel
theorem dX11_done_49 : decode cX11_done 49 = .ok (.iconst (-1), 1) := by decide +kernel
theorem dX11_done_50 : decode cX11_done 50 = .ok (.if_icmp .ne 8, 3) := by decide +kernel
theorem dX11_done_53 : decode cX11_done 53 = .ok (.iload_n 1, 1) := by decide +kernel
theorem dX11_done_54 : decode cX11_done 54 = .ok (.ineg, 1) := by decide +kernel
theorem dX11_done_55 : decode cX11_done 55 = .ok (.goto 6, 3) := by decide +kernel
theorem dX11_done_58 : decode cX11_done 58 = .ok (.iload_n 1, 1) := by decide +kernel
theorem dX11_done_59 : decode cX11_done 59 = .ok (.iload_n 2, 1) := by decide +kernel
theorem dX11_done_60 : decode cX11_done 60 = .ok (.idiv, 1) := by decide +kernel
theorem dX11_done_61 : decode cX11_done 61 = .ok (.ireturn, 1) := by decide +kernel
theorem dX11_says_0 : decode cX11_says 0 = .ok (.iconst 0, 1) := by decide +kernel
theorem dX11_says_1 : decode cX11_says 1 = .ok (.istore_n 2, 1) := by decide +kernel
theorem dX11_says_2 : decode cX11_says 2 = .ok (.iconst 0, 1) := by decide +kernel
theorem dX11_says_3 : decode cX11_says 3 = .ok (.istore_n 3, 1) := by decide +kernel
theorem dX11_says_4 : decode cX11_says 4 = .ok (.iload_n 3, 1) := by decide +kernel
theorem dX11_says_5 : decode cX11_says 5 = .ok (.aload_n 0, 1) := by decide +kernel
theorem dX11_says_6 : decode cX11_says 6 = .ok (.getfield 9, 3) := by decide +kernel
theorem dX11_says_9 : decode cX11_says 9 = .ok (.bipush 6, 2) := by decide +kernel
theorem dX11_says_11 : decode cX11_says 11 = .ok (.iaload, 1) := by decide +kernel
theorem dX11_says_12 : decode cX11_says 12 = .ok (.if_icmp .ge 154, 3) := by decide +kernel
theorem dX11_says_15 : decode cX11_says 15 = .ok (.aload_n 0, 1) := by decide +kernel
theorem dX11_says_16 : decode cX11_says 16 = .ok (.getfield 9, 3) := by decide +kernel
theorem dX11_says_19 : decode cX11_says 19 = .ok (.sipush 211, 3) := by decide +kernel
theorem dX11_says_22 : decode cX11_says 22 = .ok (.iload_n 3, 1) := by decide +kernel
theorem dX11_says_23 : decode cX11_says 23 = .ok (.iadd, 1) := by decide +kernel
theorem dX11_says_24 : decode cX11_says 24 = .ok (.iaload, 1) := by decide +kernel
theorem dX11_says_25 : decode cX11_says 25 = .ok (.istore 4, 2) := by decide +kernel
theorem dX11_says_27 : decode cX11_says 27 = .ok (.iload 4, 2) := by decide +kernel
theorem dX11_says_29 : decode cX11_says 29 = .ok (.sipush 10000, 3) := by decide +kernel
theorem dX11_says_32 : decode cX11_says 32 = .ok (.if_icmp .ge 17, 3) := by decide +kernel
theorem dX11_says_35 : decode cX11_says 35 = .ok (.aload_n 0, 1) := by decide +kernel
theorem dX11_says_36 : decode cX11_says 36 = .ok (.getfield 64, 3) := by decide +kernel
theorem dX11_says_39 : decode cX11_says 39 = .ok (.iload_n 2, 1) := by decide +kernel
theorem dX11_says_40 : decode cX11_says 40 = .ok (.iload 4, 2) := by decide +kernel
theorem dX11_says_42 : decode cX11_says 42 = .ok (.iastore, 1) := by decide +kernel
theorem dX11_says_43 : decode cX11_says 43 = .ok (.iinc 2 1, 3) := by decide +kernel
theorem dX11_says_46 : decode cX11_says 46 = .ok (.goto 114, 3) := by decide +kernel
theorem dX11_says_49 : decode cX11_says 49 = .ok (.iload 4, 2) := by decide +kernel
theorem dX11_says_51 : decode cX11_says 51 = .ok (.sipush 10100, 3) := by decide +kernel
theorem dX11_says_54 : decode cX11_says 54 = .ok (.if_icmp .ge 26, 3) := by decide +kernel
theorem dX11_says_57 : decode cX11_says 57 = .ok (.aload_n 0, 1) := by decide +kernel
theorem dX11_says_58 : decode cX11_says 58 = .ok (.getfield 64, 3) := by decide +kernel
theorem dX11_says_61 : decode cX11_says 61 = .ok (.iload_n 2, 1) := by decide +kernel
theorem dX11_says_62 : decode cX11_says 62 = .ok (.aload_n 0, 1) := by decide +kernel
theorem dX11_says_63 : decode cX11_says 63 = .ok (.iload_n 1, 1) := by decide +kernel
theorem dX11_says_64 : decode cX11_says 64 = .ok (.iload 4, 2) := by decide +kernel
theorem dX11_says_66 : decode cX11_says 66 = .ok (.sipush 10000, 3) := by decide +kernel
theorem dX11_says_69 : decode cX11_says 69 = .ok (.isub, 1) := by decide +kernel
theorem dX11_says_70 : decode cX11_says 70 = .ok (.invokevirtual 205, 3) := by decide +kernel
theorem dX11_says_73 : decode cX11_says 73 = .ok (.iastore, 1) := by decide +kernel
theorem dX11_says_74 : decode cX11_says 74 = .ok (.iinc 2 1, 3) := by decide +kernel
theorem dX11_says_77 : decode cX11_says 77 = .ok (.goto 83, 3) := by decide +kernel
theorem dX11_says_80 : decode cX11_says 80 = .ok (.iload 4, 2) := by decide +kernel
theorem dX11_says_82 : decode cX11_says 82 = .ok (.sipush 10104, 3) := by decide +kernel
theorem dX11_says_85 : decode cX11_says 85 = .ok (.if_icmp .ne 45, 3) := by decide +kernel
theorem dX11_says_88 : decode cX11_says 88 = .ok (.iinc 2 (-2), 3) := by decide +kernel
theorem dX11_says_91 : decode cX11_says 91 = .ok (.aload_n 0, 1) := by decide +kernel
theorem dX11_says_92 : decode cX11_says 92 = .ok (.getfield 64, 3) := by decide +kernel
theorem dX11_says_95 : decode cX11_says 95 = .ok (.iload_n 2, 1) := by decide +kernel
theorem dX11_says_96 : decode cX11_says 96 = .ok (.iconst 1, 1) := by decide +kernel
theorem dX11_says_97 : decode cX11_says 97 = .ok (.isub, 1) := by decide +kernel
theorem dX11_says_98 : decode cX11_says 98 = .ok (.aload_n 0, 1) := by decide +kernel
theorem dX11_says_99 : decode cX11_says 99 = .ok (.getfield 64, 3) := by decide +kernel
theorem dX11_says_102 : decode cX11_says 102 = .ok (.iload_n 2, 1) := by decide +kernel
theorem dX11_says_103 : decode cX11_says 103 = .ok (.iconst 1, 1) := by decide +kernel
theorem dX11_says_104 : decode cX11_says 104 = .ok (.isub, 1) := by decide +kernel
theorem dX11_says_105 : decode cX11_says 105 = .ok (.iaload, 1) := by decide +kernel
theorem dX11_says_106 : decode cX11_says 106 = .ok (.ifCond .eq 12, 3) := by decide +kernel
theorem dX11_says_109 : decode cX11_says 109 = .ok (.aload_n 0, 1) := by decide +kernel
theorem dX11_says_110 : decode cX11_says 110 = .ok (.getfield 64, 3) := by decide +kernel
theorem dX11_says_113 : decode cX11_says 113 = .ok (.iload_n 2, 1) := by decide +kernel
theorem dX11_says_114 : decode cX11_says 114 = .ok (.iaload, 1) := by decide +kernel
theorem dX11_says_115 : decode cX11_says 115 = .ok (.goto 11, 3) := by decide +kernel
theorem dX11_says_118 : decode cX11_says 118 = .ok (.aload_n 0, 1) := by decide +kernel
theorem dX11_says_119 : decode cX11_says 119 = .ok (.getfield 64, 3) := by decide +kernel
theorem dX11_says_122 : decode cX11_says 122 = .ok (.iload_n 2, 1) := by decide +kernel
theorem dX11_says_123 : decode cX11_says 123 = .ok (.iconst 1, 1) := by decide +kernel
theorem dX11_says_124 : decode cX11_says 124 = .ok (.iadd, 1) := by decide +kernel
theorem dX11_says_125 : decode cX11_says 125 = .ok (.iaload, 1) := by decide +kernel
theorem dX11_says_126 : decode cX11_says 126 = .ok (.iastore, 1) := by decide +kernel
theorem dX11_says_127 : decode cX11_says 127 = .ok (.goto 33, 3) := by decide +kernel
theorem dX11_says_130 : decode cX11_says 130 = .ok (.iinc 2 (-1), 3) := by decide +kernel
theorem dX11_says_133 : decode cX11_says 133 = .ok (.aload_n 0, 1) := by decide +kernel
theorem dX11_says_134 : decode cX11_says 134 = .ok (.getfield 64, 3) := by decide +kernel
theorem dX11_says_137 : decode cX11_says 137 = .ok (.iload_n 2, 1) := by decide +kernel
theorem dX11_says_138 : decode cX11_says 138 = .ok (.iconst 1, 1) := by decide +kernel
theorem dX11_says_139 : decode cX11_says 139 = .ok (.isub, 1) := by decide +kernel
theorem dX11_says_140 : decode cX11_says 140 = .ok (.iload 4, 2) := by decide +kernel
theorem dX11_says_142 : decode cX11_says 142 = .ok (.aload_n 0, 1) := by decide +kernel
theorem dX11_says_143 : decode cX11_says 143 = .ok (.getfield 64, 3) := by decide +kernel
theorem dX11_says_146 : decode cX11_says 146 = .ok (.iload_n 2, 1) := by decide +kernel
theorem dX11_says_147 : decode cX11_says 147 = .ok (.iconst 1, 1) := by decide +kernel
theorem dX11_says_148 : decode cX11_says 148 = .ok (.isub, 1) := by decide +kernel
theorem dX11_says_149 : decode cX11_says 149 = .ok (.iaload, 1) := by decide +kernel
theorem dX11_says_150 : decode cX11_says 150 = .ok (.aload_n 0, 1) := by decide +kernel
theorem dX11_says_151 : decode cX11_says 151 = .ok (.getfield 64, 3) := by decide +kernel
theorem dX11_says_154 : decode cX11_says 154 = .ok (.iload_n 2, 1) := by decide +kernel
theorem dX11_says_155 : decode cX11_says 155 = .ok (.iaload, 1) := by decide +kernel
theorem dX11_says_156 : decode cX11_says 156 = .ok (.invokestatic 208, 3) := by decide +kernel
theorem dX11_says_159 : decode cX11_says 159 = .ok (.iastore, 1) := by decide +kernel
theorem dX11_says_160 : decode cX11_says 160 = .ok (.iinc 3 1, 3) := by decide +kernel
theorem dX11_says_163 : decode cX11_says 163 = .ok (.goto (-159), 3) := by decide +kernel
theorem dX11_says_166 : decode cX11_says 166 = .ok (.aload_n 0, 1) := by decide +kernel
theorem dX11_says_167 : decode cX11_says 167 = .ok (.getfield 64, 3) := by decide +kernel
theorem dX11_says_170 : decode cX11_says 170 = .ok (.iconst 0, 1) := by decide +kernel
theorem dX11_says_171 : decode cX11_says 171 = .ok (.iaload, 1) := by decide +kernel
theorem dX11_says_172 : decode cX11_says 172 = .ok (.ireturn, 1) := by decide +kernel
theorem dX11_findShares_0 : decode cX11_findShares 0 = .ok (.iconst 0, 1) := by decide +kernel
theorem dX11_findShares_1 : decode cX11_findShares 1 = .ok (.istore_n 2, 1) := by decide +kernel
theorem dX11_findShares_2 : decode cX11_findShares 2 = .ok (.iload_n 2, 1) := by decide +kernel
theorem dX11_findShares_3 : decode cX11_findShares 3 = .ok (.aload_n 0, 1) := by decide +kernel
theorem dX11_findShares_4 : decode cX11_findShares 4 = .ok (.getfield 9, 3) := by decide +kernel
theorem dX11_findShares_7 : decode cX11_findShares 7 = .ok (.iconst 4, 1) := by decide +kernel
theorem dX11_findShares_8 : decode cX11_findShares 8 = .ok (.iaload, 1) := by decide +kernel
theorem dX11_findShares_9 : decode cX11_findShares 9 = .ok (.if_icmp .ge 50, 3) := by decide +kernel
theorem dX11_findShares_12 : decode cX11_findShares 12 = .ok (.aload_n 0, 1) := by decide +kernel
theorem dX11_findShares_13 : decode cX11_findShares 13 = .ok (.getfield 67, 3) := by decide +kernel
theorem dX11_findShares_16 : decode cX11_findShares 16 = .ok (.iload_n 2, 1) := by decide +kernel
theorem dX11_findShares_17 : decode cX11_findShares 17 = .ok (.iload_n 1, 1) := by decide +kernel
theorem dX11_findShares_18 : decode cX11_findShares 18 = .ok (.ifCond .eq 21, 3) := by decide +kernel
theorem dX11_findShares_21 : decode cX11_findShares 21 = .ok (.aload_n 0, 1) := by decide +kernel
theorem dX11_findShares_22 : decode cX11_findShares 22 = .ok (.getfield 9, 3) := by decide +kernel
theorem dX11_findShares_25 : decode cX11_findShares 25 = .ok (.bipush 6, 2) := by decide +kernel
theorem dX11_findShares_27 : decode cX11_findShares 27 = .ok (.iaload, 1) := by decide +kernel
theorem dX11_findShares_28 : decode cX11_findShares 28 = .ok (.ifCond .le 11, 3) := by decide +kernel
theorem dX11_findShares_31 : decode cX11_findShares 31 = .ok (.aload_n 0, 1) := by decide +kernel
theorem dX11_findShares_32 : decode cX11_findShares 32 = .ok (.iload_n 2, 1) := by decide +kernel
theorem dX11_findShares_33 : decode cX11_findShares 33 = .ok (.invokevirtual 211, 3) := by decide +kernel
theorem dX11_findShares_36 : decode cX11_findShares 36 = .ok (.goto 10, 3) := by decide +kernel
theorem dX11_findShares_39 : decode cX11_findShares 39 = .ok (.aload_n 0, 1) := by decide +kernel
theorem dX11_findShares_40 : decode cX11_findShares 40 = .ok (.iload_n 2, 1) := by decide +kernel
theorem dX11_findShares_41 : decode cX11_findShares 41 = .ok (.bipush 7, 2) := by decide +kernel
theorem dX11_findShares_43 : decode cX11_findShares 43 = .ok (.invokevirtual 101, 3) := by decide +kernel
theorem dX11_findShares_46 : decode cX11_findShares 46 = .ok (.iconst 0, 1) := by decide +kernel
theorem dX11_findShares_47 : decode cX11_findShares 47 = .ok (.ldc 214, 2) := by decide +kernel
theorem dX11_findShares_49 : decode cX11_findShares 49 = .ok (.invokestatic 215, 3) := by decide +kernel
theorem dX11_findShares_52 : decode cX11_findShares 52 = .ok (.iastore, 1) := by decide +kernel
theorem dX11_findShares_53 : decode cX11_findShares 53 = .ok (.iinc 2 1, 3) := by decide +kernel
theorem dX11_findShares_56 : decode cX11_findShares 56 = .ok (.goto (-54), 3) := by decide +kernel
theorem dX11_findShares_59 : decode cX11_findShares 59 = .ok (.return_, 1) := by decide +kernel
theorem dX11_findPays_0 : decode cX11_findPays 0 = .ok (.iconst 0, 1) := by decide +kernel
theorem dX11_findPays_1 : decode cX11_findPays 1 = .ok (.istore_n 2, 1) := by decide +kernel
theorem dX11_findPays_2 : decode cX11_findPays 2 = .ok (.iconst 0, 1) := by decide +kernel
theorem dX11_findPays_3 : decode cX11_findPays 3 = .ok (.istore_n 3, 1) := by decide +kernel
theorem dX11_findPays_4 : decode cX11_findPays 4 = .ok (.iload_n 3, 1) := by decide +kernel
theorem dX11_findPays_5 : decode cX11_findPays 5 = .ok (.aload_n 0, 1) := by decide +kernel
theorem dX11_findPays_6 : decode cX11_findPays 6 = .ok (.getfield 9, 3) := by decide +kernel
theorem dX11_findPays_9 : decode cX11_findPays 9 = .ok (.iconst 4, 1) := by decide +kernel
theorem dX11_findPays_10 : decode cX11_findPays 10 = .ok (.iaload, 1) := by decide +kernel
theorem dX11_findPays_11 : decode cX11_findPays 11 = .ok (.if_icmp .ge 18, 3) := by decide +kernel
theorem dX11_findPays_14 : decode cX11_findPays 14 = .ok (.iload_n 2, 1) := by decide +kernel
theorem dX11_findPays_15 : decode cX11_findPays 15 = .ok (.aload_n 0, 1) := by decide +kernel
theorem dX11_findPays_16 : decode cX11_findPays 16 = .ok (.getfield 67, 3) := by decide +kernel
theorem dX11_findPays_19 : decode cX11_findPays 19 = .ok (.iload_n 3, 1) := by decide +kernel
theorem dX11_findPays_20 : decode cX11_findPays 20 = .ok (.iaload, 1) := by decide +kernel
theorem dX11_findPays_21 : decode cX11_findPays 21 = .ok (.iadd, 1) := by decide +kernel
theorem dX11_findPays_22 : decode cX11_findPays 22 = .ok (.istore_n 2, 1) := by decide +kernel
theorem dX11_findPays_23 : decode cX11_findPays 23 = .ok (.iinc 3 1, 3) := by decide +kernel
theorem dX11_findPays_26 : decode cX11_findPays 26 = .ok (.goto (-22), 3) := by decide +kernel
theorem dX11_findPays_29 : decode cX11_findPays 29 = .ok (.iload_n 2, 1) := by decide +kernel
theorem dX11_findPays_30 : decode cX11_findPays 30 = .ok (.ifCond .ne 5, 3) := by decide +kernel
theorem dX11_findPays_33 : decode cX11_findPays 33 = .ok (.iconst 0, 1) := by decide +kernel
theorem dX11_findPays_34 : decode cX11_findPays 34 = .ok (.ireturn, 1) := by decide +kernel
theorem dX11_findPays_35 : decode cX11_findPays 35 = .ok (.iload_n 1, 1) := by decide +kernel
theorem dX11_findPays_36 : decode cX11_findPays 36 = .ok (.istore_n 3, 1) := by decide +kernel
theorem dX11_findPays_37 : decode cX11_findPays 37 = .ok (.iconst 0, 1) := by decide +kernel
theorem dX11_findPays_38 : decode cX11_findPays 38 = .ok (.istore 4, 2) := by decide +kernel
theorem dX11_findPays_40 : decode cX11_findPays 40 = .ok (.iload 4, 2) := by decide +kernel
theorem dX11_findPays_42 : decode cX11_findPays 42 = .ok (.aload_n 0, 1) := by decide +kernel
theorem dX11_findPays_43 : decode cX11_findPays 43 = .ok (.getfield 9, 3) := by decide +kernel
theorem dX11_findPays_46 : decode cX11_findPays 46 = .ok (.iconst 4, 1) := by decide +kernel
theorem dX11_findPays_47 : decode cX11_findPays 47 = .ok (.iaload, 1) := by decide +kernel
theorem dX11_findPays_48 : decode cX11_findPays 48 = .ok (.if_icmp .ge 58, 3) := by decide +kernel
theorem dX11_findPays_51 : decode cX11_findPays 51 = .ok (.iload_n 1, 1) := by decide +kernel
theorem dX11_findPays_52 : decode cX11_findPays 52 = .ok (.i2l, 1) := by decide +kernel
theorem dX11_findPays_53 : decode cX11_findPays 53 = .ok (.aload_n 0, 1) := by decide +kernel
theorem dX11_findPays_54 : decode cX11_findPays 54 = .ok (.getfield 67, 3) := by decide +kernel
theorem dX11_findPays_57 : decode cX11_findPays 57 = .ok (.iload 4, 2) := by decide +kernel
theorem dX11_findPays_59 : decode cX11_findPays 59 = .ok (.iaload, 1) := by decide +kernel
theorem dX11_findPays_60 : decode cX11_findPays 60 = .ok (.i2l, 1) := by decide +kernel
theorem dX11_findPays_61 : decode cX11_findPays 61 = .ok (.lmul, 1) := by decide +kernel
theorem dX11_findPays_62 : decode cX11_findPays 62 = .ok (.lstore 5, 2) := by decide +kernel
theorem dX11_findPays_64 : decode cX11_findPays 64 = .ok (.aload_n 0, 1) := by decide +kernel
theorem dX11_findPays_65 : decode cX11_findPays 65 = .ok (.getfield 70, 3) := by decide +kernel
theorem dX11_findPays_68 : decode cX11_findPays 68 = .ok (.iload 4, 2) := by decide +kernel
theorem dX11_findPays_70 : decode cX11_findPays 70 = .ok (.lload 5, 2) := by decide +kernel
theorem dX11_findPays_72 : decode cX11_findPays 72 = .ok (.iload_n 2, 1) := by decide +kernel
theorem dX11_findPays_73 : decode cX11_findPays 73 = .ok (.i2l, 1) := by decide +kernel
theorem dX11_findPays_74 : decode cX11_findPays 74 = .ok (.ldiv, 1) := by decide +kernel
theorem dX11_findPays_75 : decode cX11_findPays 75 = .ok (.l2i, 1) := by decide +kernel
theorem dX11_findPays_76 : decode cX11_findPays 76 = .ok (.iastore, 1) := by decide +kernel
theorem dX11_findPays_77 : decode cX11_findPays 77 = .ok (.aload_n 0, 1) := by decide +kernel
theorem dX11_findPays_78 : decode cX11_findPays 78 = .ok (.getfield 73, 3) := by decide +kernel
theorem dX11_findPays_81 : decode cX11_findPays 81 = .ok (.iload 4, 2) := by decide +kernel
theorem dX11_findPays_83 : decode cX11_findPays 83 = .ok (.lload 5, 2) := by decide +kernel
theorem dX11_findPays_85 : decode cX11_findPays 85 = .ok (.iload_n 2, 1) := by decide +kernel
theorem dX11_findPays_86 : decode cX11_findPays 86 = .ok (.i2l, 1) := by decide +kernel
theorem dX11_findPays_87 : decode cX11_findPays 87 = .ok (.lrem, 1) := by decide +kernel
theorem dX11_findPays_88 : decode cX11_findPays 88 = .ok (.l2i, 1) := by decide +kernel
theorem dX11_findPays_89 : decode cX11_findPays 89 = .ok (.iastore, 1) := by decide +kernel
theorem dX11_findPays_90 : decode cX11_findPays 90 = .ok (.iload_n 3, 1) := by decide +kernel
theorem dX11_findPays_91 : decode cX11_findPays 91 = .ok (.aload_n 0, 1) := by decide +kernel
theorem dX11_findPays_92 : decode cX11_findPays 92 = .ok (.getfield 70, 3) := by decide +kernel
theorem dX11_findPays_95 : decode cX11_findPays 95 = .ok (.iload 4, 2) := by decide +kernel
theorem dX11_findPays_97 : decode cX11_findPays 97 = .ok (.iaload, 1) := by decide +kernel
theorem dX11_findPays_98 : decode cX11_findPays 98 = .ok (.isub, 1) := by decide +kernel
theorem dX11_findPays_99 : decode cX11_findPays 99 = .ok (.istore_n 3, 1) := by decide +kernel
theorem dX11_findPays_100 : decode cX11_findPays 100 = .ok (.iinc 4 1, 3) := by decide +kernel
theorem dX11_findPays_103 : decode cX11_findPays 103 = .ok (.goto (-63), 3) := by decide +kernel
theorem dX11_findPays_106 : decode cX11_findPays 106 = .ok (.iload_n 3, 1) := by decide +kernel
theorem dX11_findPays_107 : decode cX11_findPays 107 = .ok (.ifCond .le 77, 3) := by decide +kernel
theorem dX11_findPays_110 : decode cX11_findPays 110 = .ok (.iconst 0, 1) := by decide +kernel
theorem dX11_findPays_111 : decode cX11_findPays 111 = .ok (.istore 4, 2) := by decide +kernel
theorem dX11_findPays_113 : decode cX11_findPays 113 = .ok (.iconst 1, 1) := by decide +kernel
theorem dX11_findPays_114 : decode cX11_findPays 114 = .ok (.istore 5, 2) := by decide +kernel
theorem dX11_findPays_116 : decode cX11_findPays 116 = .ok (.iload 5, 2) := by decide +kernel
theorem dX11_findPays_118 : decode cX11_findPays 118 = .ok (.aload_n 0, 1) := by decide +kernel
theorem dX11_findPays_119 : decode cX11_findPays 119 = .ok (.getfield 9, 3) := by decide +kernel
theorem dX11_findPays_122 : decode cX11_findPays 122 = .ok (.iconst 4, 1) := by decide +kernel
theorem dX11_findPays_123 : decode cX11_findPays 123 = .ok (.iaload, 1) := by decide +kernel
theorem dX11_findPays_124 : decode cX11_findPays 124 = .ok (.if_icmp .ge 35, 3) := by decide +kernel
theorem dX11_findPays_127 : decode cX11_findPays 127 = .ok (.aload_n 0, 1) := by decide +kernel
theorem dX11_findPays_128 : decode cX11_findPays 128 = .ok (.getfield 73, 3) := by decide +kernel
theorem dX11_findPays_131 : decode cX11_findPays 131 = .ok (.iload 5, 2) := by decide +kernel
theorem dX11_findPays_133 : decode cX11_findPays 133 = .ok (.iaload, 1) := by decide +kernel
theorem dX11_findPays_134 : decode cX11_findPays 134 = .ok (.aload_n 0, 1) := by decide +kernel
theorem dX11_findPays_135 : decode cX11_findPays 135 = .ok (.getfield 73, 3) := by decide +kernel
theorem dX11_findPays_138 : decode cX11_findPays 138 = .ok (.iload 4, 2) := by decide +kernel
theorem dX11_findPays_140 : decode cX11_findPays 140 = .ok (.iaload, 1) := by decide +kernel
theorem dX11_findPays_141 : decode cX11_findPays 141 = .ok (.if_icmp .le 8, 3) := by decide +kernel
theorem dX11_findPays_144 : decode cX11_findPays 144 = .ok (.iload 5, 2) := by decide +kernel
theorem dX11_findPays_146 : decode cX11_findPays 146 = .ok (.goto 5, 3) := by decide +kernel
theorem dX11_findPays_149 : decode cX11_findPays 149 = .ok (.iload 4, 2) := by decide +kernel
theorem dX11_findPays_151 : decode cX11_findPays 151 = .ok (.istore 4, 2) := by decide +kernel
theorem dX11_findPays_153 : decode cX11_findPays 153 = .ok (.iinc 5 1, 3) := by decide +kernel
theorem dX11_findPays_156 : decode cX11_findPays 156 = .ok (.goto (-40), 3) := by decide +kernel
theorem dX11_findPays_159 : decode cX11_findPays 159 = .ok (.aload_n 0, 1) := by decide +kernel
theorem dX11_findPays_160 : decode cX11_findPays 160 = .ok (.getfield 70, 3) := by decide +kernel
theorem dX11_findPays_163 : decode cX11_findPays 163 = .ok (.iload 4, 2) := by decide +kernel
theorem dX11_findPays_165 : decode cX11_findPays 165 = .ok (.dup2, 1) := by decide +kernel
theorem dX11_findPays_166 : decode cX11_findPays 166 = .ok (.iaload, 1) := by decide +kernel
theorem dX11_findPays_167 : decode cX11_findPays 167 = .ok (.iconst 1, 1) := by decide +kernel
theorem dX11_findPays_168 : decode cX11_findPays 168 = .ok (.iadd, 1) := by decide +kernel
theorem dX11_findPays_169 : decode cX11_findPays 169 = .ok (.iastore, 1) := by decide +kernel
theorem dX11_findPays_170 : decode cX11_findPays 170 = .ok (.aload_n 0, 1) := by decide +kernel
theorem dX11_findPays_171 : decode cX11_findPays 171 = .ok (.getfield 73, 3) := by decide +kernel
theorem dX11_findPays_174 : decode cX11_findPays 174 = .ok (.iload 4, 2) := by decide +kernel
theorem dX11_findPays_176 : decode cX11_findPays 176 = .ok (.iconst (-1), 1) := by decide +kernel
theorem dX11_findPays_177 : decode cX11_findPays 177 = .ok (.iastore, 1) := by decide +kernel
theorem dX11_findPays_178 : decode cX11_findPays 178 = .ok (.iinc 3 (-1), 3) := by decide +kernel
theorem dX11_findPays_181 : decode cX11_findPays 181 = .ok (.goto (-75), 3) := by decide +kernel
theorem dX11_findPays_184 : decode cX11_findPays 184 = .ok (.iconst 1, 1) := by decide +kernel
theorem dX11_findPays_185 : decode cX11_findPays 185 = .ok (.ireturn, 1) := by decide +kernel
theorem dX11_share_0 : decode cX11_share 0 = .ok (.aload_n 0, 1) := by decide +kernel
theorem dX11_share_1 : decode cX11_share 1 = .ok (.iload_n 1, 1) := by decide +kernel
theorem dX11_share_2 : decode cX11_share 2 = .ok (.invokevirtual 141, 3) := by decide +kernel
theorem dX11_share_5 : decode cX11_share 5 = .ok (.ifCond .ne 10, 3) := by decide +kernel
theorem dX11_share_8 : decode cX11_share 8 = .ok (.aload_n 0, 1) := by decide +kernel
theorem dX11_share_9 : decode cX11_share 9 = .ok (.ldc 92, 2) := by decide +kernel
theorem dX11_share_11 : decode cX11_share 11 = .ok (.invokevirtual 109, 3) := by decide +kernel
theorem dX11_share_14 : decode cX11_share 14 = .ok (.ireturn, 1) := by decide +kernel
theorem dX11_share_15 : decode cX11_share 15 = .ok (.aload_n 0, 1) := by decide +kernel
theorem dX11_share_16 : decode cX11_share 16 = .ok (.iconst 1, 1) := by decide +kernel
theorem dX11_share_17 : decode cX11_share 17 = .ok (.invokevirtual 218, 3) := by decide +kernel
theorem dX11_share_20 : decode cX11_share 20 = .ok (.aload_n 0, 1) := by decide +kernel
theorem dX11_share_21 : decode cX11_share 21 = .ok (.getfield 67, 3) := by decide +kernel
theorem dX11_share_24 : decode cX11_share 24 = .ok (.iload_n 1, 1) := by decide +kernel
theorem dX11_share_25 : decode cX11_share 25 = .ok (.iaload, 1) := by decide +kernel
theorem dX11_share_26 : decode cX11_share 26 = .ok (.ireturn, 1) := by decide +kernel
theorem dX11_bill_0 : decode cX11_bill 0 = .ok (.iload_n 1, 1) := by decide +kernel
theorem dX11_bill_1 : decode cX11_bill 1 = .ok (.iconst 0, 1) := by decide +kernel
theorem dX11_bill_2 : decode cX11_bill 2 = .ok (.sipush 9999, 3) := by decide +kernel
theorem dX11_bill_5 : decode cX11_bill 5 = .ok (.invokestatic 97, 3) := by decide +kernel
theorem dX11_bill_8 : decode cX11_bill 8 = .ok (.ifCond .eq 11, 3) := by decide +kernel
theorem dX11_bill_11 : decode cX11_bill 11 = .ok (.aload_n 0, 1) := by decide +kernel
theorem dX11_bill_12 : decode cX11_bill 12 = .ok (.iload_n 2, 1) := by decide +kernel
theorem dX11_bill_13 : decode cX11_bill 13 = .ok (.invokevirtual 141, 3) := by decide +kernel
theorem dX11_bill_16 : decode cX11_bill 16 = .ok (.ifCond .ne 10, 3) := by decide +kernel
theorem dX11_bill_19 : decode cX11_bill 19 = .ok (.aload_n 0, 1) := by decide +kernel
theorem dX11_bill_20 : decode cX11_bill 20 = .ok (.ldc 92, 2) := by decide +kernel
theorem dX11_bill_22 : decode cX11_bill 22 = .ok (.invokevirtual 109, 3) := by decide +kernel
theorem dX11_bill_25 : decode cX11_bill 25 = .ok (.ireturn, 1) := by decide +kernel
theorem dX11_bill_26 : decode cX11_bill 26 = .ok (.aload_n 0, 1) := by decide +kernel
theorem dX11_bill_27 : decode cX11_bill 27 = .ok (.iconst 1, 1) := by decide +kernel
theorem dX11_bill_28 : decode cX11_bill 28 = .ok (.invokevirtual 218, 3) := by decide +kernel
theorem dX11_bill_31 : decode cX11_bill 31 = .ok (.aload_n 0, 1) := by decide +kernel
theorem dX11_bill_32 : decode cX11_bill 32 = .ok (.iload_n 1, 1) := by decide +kernel
theorem dX11_bill_33 : decode cX11_bill 33 = .ok (.invokevirtual 222, 3) := by decide +kernel
theorem dX11_bill_36 : decode cX11_bill 36 = .ok (.ifCond .eq 12, 3) := by decide +kernel
theorem dX11_bill_39 : decode cX11_bill 39 = .ok (.aload_n 0, 1) := by decide +kernel
theorem dX11_bill_40 : decode cX11_bill 40 = .ok (.getfield 70, 3) := by decide +kernel
theorem dX11_bill_43 : decode cX11_bill 43 = .ok (.iload_n 2, 1) := by decide +kernel
theorem dX11_bill_44 : decode cX11_bill 44 = .ok (.iaload, 1) := by decide +kernel
theorem dX11_bill_45 : decode cX11_bill 45 = .ok (.goto 9, 3) := by decide +kernel
theorem dX11_bill_48 : decode cX11_bill 48 = .ok (.aload_n 0, 1) := by decide +kernel
theorem dX11_bill_49 : decode cX11_bill 49 = .ok (.ldc 225, 2) := by decide +kernel
theorem dX11_bill_51 : decode cX11_bill 51 = .ok (.invokevirtual 109, 3) := by decide +kernel
theorem dX11_bill_54 : decode cX11_bill 54 = .ok (.ireturn, 1) := by decide +kernel
theorem dX11_other_0 : decode cX11_other 0 = .ok (.iload_n 1, 1) := by decide +kernel
theorem dX11_other_1 : decode cX11_other 1 = .ok (.iconst 0, 1) := by decide +kernel
theorem dX11_other_2 : decode cX11_other 2 = .ok (.sipush 9999, 3) := by decide +kernel
theorem dX11_other_5 : decode cX11_other 5 = .ok (.invokestatic 97, 3) := by decide +kernel
theorem dX11_other_8 : decode cX11_other 8 = .ok (.ifCond .eq 11, 3) := by decide +kernel
theorem dX11_other_11 : decode cX11_other 11 = .ok (.aload_n 0, 1) := by decide +kernel
theorem dX11_other_12 : decode cX11_other 12 = .ok (.iload_n 2, 1) := by decide +kernel
theorem dX11_other_13 : decode cX11_other 13 = .ok (.invokevirtual 141, 3) := by decide +kernel
theorem dX11_other_16 : decode cX11_other 16 = .ok (.ifCond .ne 10, 3) := by decide +kernel
theorem dX11_other_19 : decode cX11_other 19 = .ok (.aload_n 0, 1) := by decide +kernel
theorem dX11_other_20 : decode cX11_other 20 = .ok (.ldc 92, 2) := by decide +kernel
theorem dX11_other_22 : decode cX11_other 22 = .ok (.invokevirtual 109, 3) := by decide +kernel
theorem dX11_other_25 : decode cX11_other 25 = .ok (.ireturn, 1) := by decide +kernel
theorem dX11_other_26 : decode cX11_other 26 = .ok (.aload_n 0, 1) := by decide +kernel
theorem dX11_other_27 : decode cX11_other 27 = .ok (.iconst 1, 1) := by decide +kernel
theorem dX11_other_28 : decode cX11_other 28 = .ok (.invokevirtual 218, 3) := by decide +kernel
theorem dX11_other_31 : decode cX11_other 31 = .ok (.aload_n 0, 1) := by decide +kernel
theorem dX11_other_32 : decode cX11_other 32 = .ok (.iload_n 1, 1) := by decide +kernel
theorem dX11_other_33 : decode cX11_other 33 = .ok (.invokevirtual 222, 3) := by decide +kernel
theorem dX11_other_36 : decode cX11_other 36 = .ok (.istore_n 3, 1) := by decide +kernel
theorem dX11_other_37 : decode cX11_other 37 = .ok (.aload_n 0, 1) := by decide +kernel
theorem dX11_other_38 : decode cX11_other 38 = .ok (.getfield 70, 3) := by decide +kernel
theorem dX11_other_41 : decode cX11_other 41 = .ok (.iload_n 2, 1) := by decide +kernel
theorem dX11_other_42 : decode cX11_other 42 = .ok (.iaload, 1) := by decide +kernel
theorem dX11_other_43 : decode cX11_other 43 = .ok (.istore 4, 2) := by decide +kernel
theorem dX11_other_45 : decode cX11_other 45 = .ok (.aload_n 0, 1) := by decide +kernel
theorem dX11_other_46 : decode cX11_other 46 = .ok (.iconst 0, 1) := by decide +kernel
theorem dX11_other_47 : decode cX11_other 47 = .ok (.invokevirtual 218, 3) := by decide +kernel
theorem dX11_other_50 : decode cX11_other 50 = .ok (.aload_n 0, 1) := by decide +kernel
theorem dX11_other_51 : decode cX11_other 51 = .ok (.iload_n 1, 1) := by decide +kernel
theorem dX11_other_52 : decode cX11_other 52 = .ok (.invokevirtual 222, 3) := by decide +kernel
theorem dX11_other_55 : decode cX11_other 55 = .ok (.ifCond .eq 19, 3) := by decide +kernel
theorem dX11_other_58 : decode cX11_other 58 = .ok (.iload_n 3, 1) := by decide +kernel
theorem dX11_other_59 : decode cX11_other 59 = .ok (.ifCond .eq 15, 3) := by decide +kernel
theorem dX11_other_62 : decode cX11_other 62 = .ok (.aload_n 0, 1) := by decide +kernel
theorem dX11_other_63 : decode cX11_other 63 = .ok (.getfield 70, 3) := by decide +kernel
theorem dX11_other_66 : decode cX11_other 66 = .ok (.iload_n 2, 1) := by decide +kernel
theorem dX11_other_67 : decode cX11_other 67 = .ok (.iaload, 1) := by decide +kernel
theorem dX11_other_68 : decode cX11_other 68 = .ok (.iload 4, 2) := by decide +kernel
theorem dX11_other_70 : decode cX11_other 70 = .ok (.isub, 1) := by decide +kernel
theorem dX11_other_71 : decode cX11_other 71 = .ok (.goto 9, 3) := by decide +kernel
theorem dX11_other_74 : decode cX11_other 74 = .ok (.aload_n 0, 1) := by decide +kernel
theorem dX11_other_75 : decode cX11_other 75 = .ok (.ldc 225, 2) := by decide +kernel
theorem dX11_other_77 : decode cX11_other 77 = .ok (.invokevirtual 109, 3) := by decide +kernel
theorem dX11_other_80 : decode cX11_other 80 = .ok (.ireturn, 1) := by decide +kernel
theorem dX11_sumOf_0 : decode cX11_sumOf 0 = .ok (.iconst 0, 1) := by decide +kernel
theorem dX11_sumOf_1 : decode cX11_sumOf 1 = .ok (.istore_n 2, 1) := by decide +kernel
theorem dX11_sumOf_2 : decode cX11_sumOf 2 = .ok (.iconst 0, 1) := by decide +kernel
theorem dX11_sumOf_3 : decode cX11_sumOf 3 = .ok (.istore_n 3, 1) := by decide +kernel
theorem dX11_sumOf_4 : decode cX11_sumOf 4 = .ok (.iload_n 3, 1) := by decide +kernel
theorem dX11_sumOf_5 : decode cX11_sumOf 5 = .ok (.aload_n 0, 1) := by decide +kernel
theorem dX11_sumOf_6 : decode cX11_sumOf 6 = .ok (.getfield 9, 3) := by decide +kernel
theorem dX11_sumOf_9 : decode cX11_sumOf 9 = .ok (.iconst 4, 1) := by decide +kernel
theorem dX11_sumOf_10 : decode cX11_sumOf 10 = .ok (.iaload, 1) := by decide +kernel
theorem dX11_sumOf_11 : decode cX11_sumOf 11 = .ok (.if_icmp .ge 18, 3) := by decide +kernel
theorem dX11_sumOf_14 : decode cX11_sumOf 14 = .ok (.iload_n 2, 1) := by decide +kernel
theorem dX11_sumOf_15 : decode cX11_sumOf 15 = .ok (.aload_n 0, 1) := by decide +kernel
theorem dX11_sumOf_16 : decode cX11_sumOf 16 = .ok (.iload_n 3, 1) := by decide +kernel
theorem dX11_sumOf_17 : decode cX11_sumOf 17 = .ok (.iload_n 1, 1) := by decide +kernel
theorem dX11_sumOf_18 : decode cX11_sumOf 18 = .ok (.invokevirtual 101, 3) := by decide +kernel
theorem dX11_sumOf_21 : decode cX11_sumOf 21 = .ok (.iadd, 1) := by decide +kernel
theorem dX11_sumOf_22 : decode cX11_sumOf 22 = .ok (.istore_n 2, 1) := by decide +kernel
theorem dX11_sumOf_23 : decode cX11_sumOf 23 = .ok (.iinc 3 1, 3) := by decide +kernel
theorem dX11_sumOf_26 : decode cX11_sumOf 26 = .ok (.goto (-22), 3) := by decide +kernel
theorem dX11_sumOf_29 : decode cX11_sumOf 29 = .ok (.iload_n 2, 1) := by decide +kernel
theorem dX11_sumOf_30 : decode cX11_sumOf 30 = .ok (.ireturn, 1) := by decide +kernel
theorem dX11_offBy_0 : decode cX11_offBy 0 = .ok (.aload_n 0, 1) := by decide +kernel
theorem dX11_offBy_1 : decode cX11_offBy 1 = .ok (.iload_n 1, 1) := by decide +kernel
theorem dX11_offBy_2 : decode cX11_offBy 2 = .ok (.bipush 7, 2) := by decide +kernel
theorem dX11_offBy_4 : decode cX11_offBy 4 = .ok (.invokevirtual 101, 3) := by decide +kernel
theorem dX11_offBy_7 : decode cX11_offBy 7 = .ok (.aload_n 0, 1) := by decide +kernel
theorem dX11_offBy_8 : decode cX11_offBy 8 = .ok (.iload_n 1, 1) := by decide +kernel
theorem dX11_offBy_9 : decode cX11_offBy 9 = .ok (.bipush 8, 2) := by decide +kernel
theorem dX11_offBy_11 : decode cX11_offBy 11 = .ok (.invokevirtual 101, 3) := by decide +kernel
theorem dX11_offBy_14 : decode cX11_offBy 14 = .ok (.isub, 1) := by decide +kernel
theorem dX11_offBy_15 : decode cX11_offBy 15 = .ok (.istore_n 2, 1) := by decide +kernel
theorem dX11_offBy_16 : decode cX11_offBy 16 = .ok (.iload_n 2, 1) := by decide +kernel
theorem dX11_offBy_17 : decode cX11_offBy 17 = .ok (.ifCond .ge 8, 3) := by decide +kernel
theorem dX11_offBy_20 : decode cX11_offBy 20 = .ok (.iload_n 2, 1) := by decide +kernel
theorem dX11_offBy_21 : decode cX11_offBy 21 = .ok (.ineg, 1) := by decide +kernel
theorem dX11_offBy_22 : decode cX11_offBy 22 = .ok (.goto 4, 3) := by decide +kernel
theorem dX11_offBy_25 : decode cX11_offBy 25 = .ok (.iload_n 2, 1) := by decide +kernel
theorem dX11_offBy_26 : decode cX11_offBy 26 = .ok (.ireturn, 1) := by decide +kernel
theorem dX11_meters_0 : decode cX11_meters 0 = .ok (.iload_n 1, 1) := by decide +kernel
theorem dX11_meters_1 : decode cX11_meters 1 = .ok (.iconst 0, 1) := by decide +kernel
theorem dX11_meters_2 : decode cX11_meters 2 = .ok (.iconst 1, 1) := by decide +kernel
theorem dX11_meters_3 : decode cX11_meters 3 = .ok (.invokestatic 97, 3) := by decide +kernel
theorem dX11_meters_6 : decode cX11_meters 6 = .ok (.ifCond .ne 10, 3) := by decide +kernel
theorem dX11_meters_9 : decode cX11_meters 9 = .ok (.aload_n 0, 1) := by decide +kernel
theorem dX11_meters_10 : decode cX11_meters 10 = .ok (.ldc 92, 2) := by decide +kernel
theorem dX11_meters_12 : decode cX11_meters 12 = .ok (.invokevirtual 109, 3) := by decide +kernel
theorem dX11_meters_15 : decode cX11_meters 15 = .ok (.ireturn, 1) := by decide +kernel
theorem dX11_meters_16 : decode cX11_meters 16 = .ok (.iload_n 1, 1) := by decide +kernel
theorem dX11_meters_17 : decode cX11_meters 17 = .ok (.ifCond .ne 17, 3) := by decide +kernel
theorem dX11_meters_20 : decode cX11_meters 20 = .ok (.aload_n 0, 1) := by decide +kernel
theorem dX11_meters_21 : decode cX11_meters 21 = .ok (.bipush 7, 2) := by decide +kernel
theorem dX11_meters_23 : decode cX11_meters 23 = .ok (.invokevirtual 226, 3) := by decide +kernel
theorem dX11_meters_26 : decode cX11_meters 26 = .ok (.aload_n 0, 1) := by decide +kernel
theorem dX11_meters_27 : decode cX11_meters 27 = .ok (.bipush 8, 2) := by decide +kernel
theorem dX11_meters_29 : decode cX11_meters 29 = .ok (.invokevirtual 226, 3) := by decide +kernel
theorem dX11_meters_32 : decode cX11_meters 32 = .ok (.isub, 1) := by decide +kernel
theorem dX11_meters_33 : decode cX11_meters 33 = .ok (.ireturn, 1) := by decide +kernel
theorem dX11_meters_34 : decode cX11_meters 34 = .ok (.aload_n 0, 1) := by decide +kernel
theorem dX11_meters_35 : decode cX11_meters 35 = .ok (.getfield 9, 3) := by decide +kernel
theorem dX11_meters_38 : decode cX11_meters 38 = .ok (.iconst 4, 1) := by decide +kernel
theorem dX11_meters_39 : decode cX11_meters 39 = .ok (.iaload, 1) := by decide +kernel
theorem dX11_meters_40 : decode cX11_meters 40 = .ok (.ifCond .ne 10, 3) := by decide +kernel
theorem dX11_meters_43 : decode cX11_meters 43 = .ok (.aload_n 0, 1) := by decide +kernel
theorem dX11_meters_44 : decode cX11_meters 44 = .ok (.ldc 225, 2) := by decide +kernel
theorem dX11_meters_46 : decode cX11_meters 46 = .ok (.invokevirtual 109, 3) := by decide +kernel
theorem dX11_meters_49 : decode cX11_meters 49 = .ok (.ireturn, 1) := by decide +kernel
theorem dX11_meters_50 : decode cX11_meters 50 = .ok (.iconst 0, 1) := by decide +kernel
theorem dX11_meters_51 : decode cX11_meters 51 = .ok (.istore_n 2, 1) := by decide +kernel
theorem dX11_meters_52 : decode cX11_meters 52 = .ok (.iconst 1, 1) := by decide +kernel
theorem dX11_meters_53 : decode cX11_meters 53 = .ok (.istore_n 3, 1) := by decide +kernel
theorem dX11_meters_54 : decode cX11_meters 54 = .ok (.iload_n 3, 1) := by decide +kernel
theorem dX11_meters_55 : decode cX11_meters 55 = .ok (.aload_n 0, 1) := by decide +kernel
theorem dX11_meters_56 : decode cX11_meters 56 = .ok (.getfield 9, 3) := by decide +kernel
theorem dX11_meters_59 : decode cX11_meters 59 = .ok (.iconst 4, 1) := by decide +kernel
theorem dX11_meters_60 : decode cX11_meters 60 = .ok (.iaload, 1) := by decide +kernel
theorem dX11_meters_61 : decode cX11_meters 61 = .ok (.if_icmp .ge 28, 3) := by decide +kernel
theorem dX11_meters_64 : decode cX11_meters 64 = .ok (.aload_n 0, 1) := by decide +kernel
theorem dX11_meters_65 : decode cX11_meters 65 = .ok (.iload_n 3, 1) := by decide +kernel
theorem dX11_meters_66 : decode cX11_meters 66 = .ok (.invokevirtual 229, 3) := by decide +kernel
theorem dX11_meters_69 : decode cX11_meters 69 = .ok (.aload_n 0, 1) := by decide +kernel
theorem dX11_meters_70 : decode cX11_meters 70 = .ok (.iload_n 2, 1) := by decide +kernel
theorem dX11_meters_71 : decode cX11_meters 71 = .ok (.invokevirtual 229, 3) := by decide +kernel
theorem dX11_meters_74 : decode cX11_meters 74 = .ok (.if_icmp .le 7, 3) := by decide +kernel
theorem dX11_meters_77 : decode cX11_meters 77 = .ok (.iload_n 3, 1) := by decide +kernel
theorem dX11_meters_78 : decode cX11_meters 78 = .ok (.goto 4, 3) := by decide +kernel
theorem dX11_meters_81 : decode cX11_meters 81 = .ok (.iload_n 2, 1) := by decide +kernel
theorem dX11_meters_82 : decode cX11_meters 82 = .ok (.istore_n 2, 1) := by decide +kernel
theorem dX11_meters_83 : decode cX11_meters 83 = .ok (.iinc 3 1, 3) := by decide +kernel
theorem dX11_meters_86 : decode cX11_meters 86 = .ok (.goto (-32), 3) := by decide +kernel
theorem dX11_meters_89 : decode cX11_meters 89 = .ok (.iload_n 2, 1) := by decide +kernel
theorem dX11_meters_90 : decode cX11_meters 90 = .ok (.ireturn, 1) := by decide +kernel
theorem dX11_areBounds_0 : decode cX11_areBounds 0 = .ok (.iload_n 0, 1) := by decide +kernel
theorem dX11_areBounds_1 : decode cX11_areBounds 1 = .ok (.iconst 0, 1) := by decide +kernel
theorem dX11_areBounds_2 : decode cX11_areBounds 2 = .ok (.ldc 232, 2) := by decide +kernel
theorem dX11_areBounds_4 : decode cX11_areBounds 4 = .ok (.invokestatic 97, 3) := by decide +kernel
theorem dX11_areBounds_7 : decode cX11_areBounds 7 = .ok (.ireturn, 1) := by decide +kernel
theorem dX11_felt_0 : decode cX11_felt 0 = .ok (.aload_n 0, 1) := by decide +kernel
