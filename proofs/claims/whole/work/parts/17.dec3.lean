theorem dX12_init_82 : decode cX12_init 82 = .ok (.aload_n 0, 1) := by decide +kernel
theorem dX12_init_83 : decode cX12_init 83 = .ok (.bipush 40, 2) := by decide +kernel
theorem dX12_init_85 : decode cX12_init 85 = .ok (.newarray .int, 2) := by decide +kernel
theorem dX12_init_87 : decode cX12_init 87 = .ok (.putfield 42, 3) := by decide +kernel
theorem dX12_init_90 : decode cX12_init 90 = .ok (.aload_n 0, 1) := by decide +kernel
theorem dX12_init_91 : decode cX12_init 91 = .ok (.bipush 40, 2) := by decide +kernel
theorem dX12_init_93 : decode cX12_init 93 = .ok (.newarray .int, 2) := by decide +kernel
theorem dX12_init_95 : decode cX12_init 95 = .ok (.putfield 45, 3) := by decide +kernel
theorem dX12_init_98 : decode cX12_init 98 = .ok (.aload_n 0, 1) := by decide +kernel
theorem dX12_init_99 : decode cX12_init 99 = .ok (.bipush 40, 2) := by decide +kernel
theorem dX12_init_101 : decode cX12_init 101 = .ok (.newarray .int, 2) := by decide +kernel
theorem dX12_init_103 : decode cX12_init 103 = .ok (.putfield 48, 3) := by decide +kernel
theorem dX12_init_106 : decode cX12_init 106 = .ok (.aload_n 0, 1) := by decide +kernel
theorem dX12_init_107 : decode cX12_init 107 = .ok (.bipush 16, 2) := by decide +kernel
theorem dX12_init_109 : decode cX12_init 109 = .ok (.newarray .int, 2) := by decide +kernel
theorem dX12_init_111 : decode cX12_init 111 = .ok (.putfield 51, 3) := by decide +kernel
theorem dX12_init_114 : decode cX12_init 114 = .ok (.aload_n 0, 1) := by decide +kernel
theorem dX12_init_115 : decode cX12_init 115 = .ok (.sipush 2754, 3) := by decide +kernel
theorem dX12_init_118 : decode cX12_init 118 = .ok (.newarray .int, 2) := by decide +kernel
theorem dX12_init_120 : decode cX12_init 120 = .ok (.putfield 54, 3) := by decide +kernel
theorem dX12_init_123 : decode cX12_init 123 = .ok (.aload_n 0, 1) := by decide +kernel
theorem dX12_init_124 : decode cX12_init 124 = .ok (.iconst 0, 1) := by decide +kernel
theorem dX12_init_125 : decode cX12_init 125 = .ok (.iconst 0, 1) := by decide +kernel
theorem dX12_init_126 : decode cX12_init 126 = .ok (.iconst 2, 1) := by decide +kernel
theorem dX12_init_127 : decode cX12_init 127 = .ok (.invokevirtual 57, 3) := by decide +kernel
theorem dX12_init_130 : decode cX12_init 130 = .ok (.aload_n 0, 1) := by decide +kernel
theorem dX12_init_131 : decode cX12_init 131 = .ok (.iconst 1, 1) := by decide +kernel
theorem dX12_init_132 : decode cX12_init 132 = .ok (.iconst 2, 1) := by decide +kernel
theorem dX12_init_133 : decode cX12_init 133 = .ok (.iconst 2, 1) := by decide +kernel
theorem dX12_init_134 : decode cX12_init 134 = .ok (.invokevirtual 57, 3) := by decide +kernel
theorem dX12_init_137 : decode cX12_init 137 = .ok (.aload_n 0, 1) := by decide +kernel
theorem dX12_init_138 : decode cX12_init 138 = .ok (.iconst 2, 1) := by decide +kernel
theorem dX12_init_139 : decode cX12_init 139 = .ok (.iconst 4, 1) := by decide +kernel
theorem dX12_init_140 : decode cX12_init 140 = .ok (.iconst 3, 1) := by decide +kernel
theorem dX12_init_141 : decode cX12_init 141 = .ok (.invokevirtual 57, 3) := by decide +kernel
theorem dX12_init_144 : decode cX12_init 144 = .ok (.aload_n 0, 1) := by decide +kernel
theorem dX12_init_145 : decode cX12_init 145 = .ok (.iconst 3, 1) := by decide +kernel
theorem dX12_init_146 : decode cX12_init 146 = .ok (.bipush 7, 2) := by decide +kernel
theorem dX12_init_148 : decode cX12_init 148 = .ok (.iconst 3, 1) := by decide +kernel
theorem dX12_init_149 : decode cX12_init 149 = .ok (.invokevirtual 57, 3) := by decide +kernel
theorem dX12_init_152 : decode cX12_init 152 = .ok (.aload_n 0, 1) := by decide +kernel
theorem dX12_init_153 : decode cX12_init 153 = .ok (.iconst 4, 1) := by decide +kernel
theorem dX12_init_154 : decode cX12_init 154 = .ok (.bipush 10, 2) := by decide +kernel
theorem dX12_init_156 : decode cX12_init 156 = .ok (.iconst 4, 1) := by decide +kernel
theorem dX12_init_157 : decode cX12_init 157 = .ok (.invokevirtual 57, 3) := by decide +kernel
theorem dX12_init_160 : decode cX12_init 160 = .ok (.aload_n 0, 1) := by decide +kernel
theorem dX12_init_161 : decode cX12_init 161 = .ok (.iconst 5, 1) := by decide +kernel
theorem dX12_init_162 : decode cX12_init 162 = .ok (.bipush 14, 2) := by decide +kernel
theorem dX12_init_164 : decode cX12_init 164 = .ok (.iconst 1, 1) := by decide +kernel
theorem dX12_init_165 : decode cX12_init 165 = .ok (.invokevirtual 57, 3) := by decide +kernel
theorem dX12_init_168 : decode cX12_init 168 = .ok (.aload_n 0, 1) := by decide +kernel
theorem dX12_init_169 : decode cX12_init 169 = .ok (.getfield 7, 3) := by decide +kernel
theorem dX12_init_172 : decode cX12_init 172 = .ok (.bipush 12, 2) := by decide +kernel
theorem dX12_init_174 : decode cX12_init 174 = .ok (.iconst 1, 1) := by decide +kernel
theorem dX12_init_175 : decode cX12_init 175 = .ok (.iastore, 1) := by decide +kernel
theorem dX12_init_176 : decode cX12_init 176 = .ok (.aload_n 0, 1) := by decide +kernel
theorem dX12_init_177 : decode cX12_init 177 = .ok (.getfield 7, 3) := by decide +kernel
theorem dX12_init_180 : decode cX12_init 180 = .ok (.bipush 13, 2) := by decide +kernel
theorem dX12_init_182 : decode cX12_init 182 = .ok (.iconst 1, 1) := by decide +kernel
theorem dX12_init_183 : decode cX12_init 183 = .ok (.iastore, 1) := by decide +kernel
theorem dX12_init_184 : decode cX12_init 184 = .ok (.aload_n 0, 1) := by decide +kernel
theorem dX12_init_185 : decode cX12_init 185 = .ok (.getfield 7, 3) := by decide +kernel
theorem dX12_init_188 : decode cX12_init 188 = .ok (.bipush 14, 2) := by decide +kernel
theorem dX12_init_190 : decode cX12_init 190 = .ok (.sipush 999, 3) := by decide +kernel
theorem dX12_init_193 : decode cX12_init 193 = .ok (.iastore, 1) := by decide +kernel
theorem dX12_init_194 : decode cX12_init 194 = .ok (.aload_n 0, 1) := by decide +kernel
theorem dX12_init_195 : decode cX12_init 195 = .ok (.getfield 7, 3) := by decide +kernel
theorem dX12_init_198 : decode cX12_init 198 = .ok (.bipush 15, 2) := by decide +kernel
theorem dX12_init_200 : decode cX12_init 200 = .ok (.sipush 400, 3) := by decide +kernel
theorem dX12_init_203 : decode cX12_init 203 = .ok (.iastore, 1) := by decide +kernel
theorem dX12_init_204 : decode cX12_init 204 = .ok (.iconst 0, 1) := by decide +kernel
theorem dX12_init_205 : decode cX12_init 205 = .ok (.istore_n 1, 1) := by decide +kernel
theorem dX12_init_206 : decode cX12_init 206 = .ok (.iload_n 1, 1) := by decide +kernel
theorem dX12_init_207 : decode cX12_init 207 = .ok (.iconst 3, 1) := by decide +kernel
theorem dX12_init_208 : decode cX12_init 208 = .ok (.if_icmp .ge 20, 3) := by decide +kernel
theorem dX12_init_211 : decode cX12_init 211 = .ok (.aload_n 0, 1) := by decide +kernel
theorem dX12_init_212 : decode cX12_init 212 = .ok (.getfield 7, 3) := by decide +kernel
theorem dX12_init_215 : decode cX12_init 215 = .ok (.bipush 16, 2) := by decide +kernel
theorem dX12_init_217 : decode cX12_init 217 = .ok (.iload_n 1, 1) := by decide +kernel
theorem dX12_init_218 : decode cX12_init 218 = .ok (.iadd, 1) := by decide +kernel
theorem dX12_init_219 : decode cX12_init 219 = .ok (.ldc 22, 2) := by decide +kernel
theorem dX12_init_221 : decode cX12_init 221 = .ok (.iastore, 1) := by decide +kernel
theorem dX12_init_222 : decode cX12_init 222 = .ok (.iinc 1 1, 3) := by decide +kernel
theorem dX12_init_225 : decode cX12_init 225 = .ok (.goto (-19), 3) := by decide +kernel
theorem dX12_init_228 : decode cX12_init 228 = .ok (.return_, 1) := by decide +kernel
theorem dX12_isIn_0 : decode cX12_isIn 0 = .ok (.iload_n 0, 1) := by decide +kernel
theorem dX12_isIn_1 : decode cX12_isIn 1 = .ok (.iload_n 1, 1) := by decide +kernel
theorem dX12_isIn_2 : decode cX12_isIn 2 = .ok (.if_icmp .lt 12, 3) := by decide +kernel
theorem dX12_isIn_5 : decode cX12_isIn 5 = .ok (.iload_n 0, 1) := by decide +kernel
theorem dX12_isIn_6 : decode cX12_isIn 6 = .ok (.iload_n 2, 1) := by decide +kernel
theorem dX12_isIn_7 : decode cX12_isIn 7 = .ok (.if_icmp .gt 7, 3) := by decide +kernel
theorem dX12_isIn_10 : decode cX12_isIn 10 = .ok (.iconst 1, 1) := by decide +kernel
theorem dX12_isIn_11 : decode cX12_isIn 11 = .ok (.goto 4, 3) := by decide +kernel
theorem dX12_isIn_14 : decode cX12_isIn 14 = .ok (.iconst 0, 1) := by decide +kernel
theorem dX12_isIn_15 : decode cX12_isIn 15 = .ok (.ireturn, 1) := by decide +kernel
theorem dX12_layField_0 : decode cX12_layField 0 = .ok (.aload_n 0, 1) := by decide +kernel
theorem dX12_layField_1 : decode cX12_layField 1 = .ok (.getfield 7, 3) := by decide +kernel
theorem dX12_layField_4 : decode cX12_layField 4 = .ok (.iconst 0, 1) := by decide +kernel
theorem dX12_layField_5 : decode cX12_layField 5 = .ok (.iconst 2, 1) := by decide +kernel
theorem dX12_layField_6 : decode cX12_layField 6 = .ok (.iload_n 1, 1) := by decide +kernel
theorem dX12_layField_7 : decode cX12_layField 7 = .ok (.imul, 1) := by decide +kernel
theorem dX12_layField_8 : decode cX12_layField 8 = .ok (.iadd, 1) := by decide +kernel
theorem dX12_layField_9 : decode cX12_layField 9 = .ok (.iload_n 2, 1) := by decide +kernel
theorem dX12_layField_10 : decode cX12_layField 10 = .ok (.iastore, 1) := by decide +kernel
theorem dX12_layField_11 : decode cX12_layField 11 = .ok (.aload_n 0, 1) := by decide +kernel
theorem dX12_layField_12 : decode cX12_layField 12 = .ok (.getfield 7, 3) := by decide +kernel
theorem dX12_layField_15 : decode cX12_layField 15 = .ok (.iconst 0, 1) := by decide +kernel
theorem dX12_layField_16 : decode cX12_layField 16 = .ok (.iconst 2, 1) := by decide +kernel
theorem dX12_layField_17 : decode cX12_layField 17 = .ok (.iload_n 1, 1) := by decide +kernel
theorem dX12_layField_18 : decode cX12_layField 18 = .ok (.imul, 1) := by decide +kernel
theorem dX12_layField_19 : decode cX12_layField 19 = .ok (.iadd, 1) := by decide +kernel
theorem dX12_layField_20 : decode cX12_layField 20 = .ok (.iconst 1, 1) := by decide +kernel
theorem dX12_layField_21 : decode cX12_layField 21 = .ok (.iadd, 1) := by decide +kernel
theorem dX12_layField_22 : decode cX12_layField 22 = .ok (.iload_n 3, 1) := by decide +kernel
theorem dX12_layField_23 : decode cX12_layField 23 = .ok (.iastore, 1) := by decide +kernel
theorem dX12_layField_24 : decode cX12_layField 24 = .ok (.return_, 1) := by decide +kernel
theorem dX12_remember_0 : decode cX12_remember 0 = .ok (.aload_n 0, 1) := by decide +kernel
theorem dX12_remember_1 : decode cX12_remember 1 = .ok (.getfield 61, 3) := by decide +kernel
theorem dX12_remember_4 : decode cX12_remember 4 = .ok (.bipush 8, 2) := by decide +kernel
theorem dX12_remember_6 : decode cX12_remember 6 = .ok (.if_icmp .ne 44, 3) := by decide +kernel
theorem dX12_remember_9 : decode cX12_remember 9 = .ok (.iconst 0, 1) := by decide +kernel
theorem dX12_remember_10 : decode cX12_remember 10 = .ok (.istore_n 1, 1) := by decide +kernel
theorem dX12_remember_11 : decode cX12_remember 11 = .ok (.iload_n 1, 1) := by decide +kernel
theorem dX12_remember_12 : decode cX12_remember 12 = .ok (.sipush 19278, 3) := by decide +kernel
theorem dX12_remember_15 : decode cX12_remember 15 = .ok (.if_icmp .ge 25, 3) := by decide +kernel
theorem dX12_remember_18 : decode cX12_remember 18 = .ok (.aload_n 0, 1) := by decide +kernel
theorem dX12_remember_19 : decode cX12_remember 19 = .ok (.getfield 13, 3) := by decide +kernel
theorem dX12_remember_22 : decode cX12_remember 22 = .ok (.iload_n 1, 1) := by decide +kernel
theorem dX12_remember_23 : decode cX12_remember 23 = .ok (.aload_n 0, 1) := by decide +kernel
theorem dX12_remember_24 : decode cX12_remember 24 = .ok (.getfield 13, 3) := by decide +kernel
theorem dX12_remember_27 : decode cX12_remember 27 = .ok (.iload_n 1, 1) := by decide +kernel
theorem dX12_remember_28 : decode cX12_remember 28 = .ok (.sipush 2754, 3) := by decide +kernel
theorem dX12_remember_31 : decode cX12_remember 31 = .ok (.iadd, 1) := by decide +kernel
theorem dX12_remember_32 : decode cX12_remember 32 = .ok (.iaload, 1) := by decide +kernel
theorem dX12_remember_33 : decode cX12_remember 33 = .ok (.iastore, 1) := by decide +kernel
theorem dX12_remember_34 : decode cX12_remember 34 = .ok (.iinc 1 1, 3) := by decide +kernel
theorem dX12_remember_37 : decode cX12_remember 37 = .ok (.goto (-26), 3) := by decide +kernel
theorem dX12_remember_40 : decode cX12_remember 40 = .ok (.aload_n 0, 1) := by decide +kernel
theorem dX12_remember_41 : decode cX12_remember 41 = .ok (.dup, 1) := by decide +kernel
theorem dX12_remember_42 : decode cX12_remember 42 = .ok (.getfield 61, 3) := by decide +kernel
theorem dX12_remember_45 : decode cX12_remember 45 = .ok (.iconst 1, 1) := by decide +kernel
theorem dX12_remember_46 : decode cX12_remember 46 = .ok (.isub, 1) := by decide +kernel
theorem dX12_remember_47 : decode cX12_remember 47 = .ok (.putfield 61, 3) := by decide +kernel
theorem dX12_remember_50 : decode cX12_remember 50 = .ok (.iconst 0, 1) := by decide +kernel
theorem dX12_remember_51 : decode cX12_remember 51 = .ok (.istore_n 1, 1) := by decide +kernel
theorem dX12_remember_52 : decode cX12_remember 52 = .ok (.iload_n 1, 1) := by decide +kernel
theorem dX12_remember_53 : decode cX12_remember 53 = .ok (.sipush 2754, 3) := by decide +kernel
theorem dX12_remember_56 : decode cX12_remember 56 = .ok (.if_icmp .ge 30, 3) := by decide +kernel
theorem dX12_remember_59 : decode cX12_remember 59 = .ok (.aload_n 0, 1) := by decide +kernel
theorem dX12_remember_60 : decode cX12_remember 60 = .ok (.getfield 13, 3) := by decide +kernel
theorem dX12_remember_63 : decode cX12_remember 63 = .ok (.sipush 2754, 3) := by decide +kernel
theorem dX12_remember_66 : decode cX12_remember 66 = .ok (.aload_n 0, 1) := by decide +kernel
theorem dX12_remember_67 : decode cX12_remember 67 = .ok (.getfield 61, 3) := by decide +kernel
theorem dX12_remember_70 : decode cX12_remember 70 = .ok (.imul, 1) := by decide +kernel
theorem dX12_remember_71 : decode cX12_remember 71 = .ok (.iload_n 1, 1) := by decide +kernel
theorem dX12_remember_72 : decode cX12_remember 72 = .ok (.iadd, 1) := by decide +kernel
theorem dX12_remember_73 : decode cX12_remember 73 = .ok (.aload_n 0, 1) := by decide +kernel
theorem dX12_remember_74 : decode cX12_remember 74 = .ok (.getfield 7, 3) := by decide +kernel
theorem dX12_remember_77 : decode cX12_remember 77 = .ok (.iload_n 1, 1) := by decide +kernel
theorem dX12_remember_78 : decode cX12_remember 78 = .ok (.iaload, 1) := by decide +kernel
theorem dX12_remember_79 : decode cX12_remember 79 = .ok (.iastore, 1) := by decide +kernel
theorem dX12_remember_80 : decode cX12_remember 80 = .ok (.iinc 1 1, 3) := by decide +kernel
theorem dX12_remember_83 : decode cX12_remember 83 = .ok (.goto (-31), 3) := by decide +kernel
theorem dX12_remember_86 : decode cX12_remember 86 = .ok (.aload_n 0, 1) := by decide +kernel
theorem dX12_remember_87 : decode cX12_remember 87 = .ok (.dup, 1) := by decide +kernel
theorem dX12_remember_88 : decode cX12_remember 88 = .ok (.getfield 61, 3) := by decide +kernel
theorem dX12_remember_91 : decode cX12_remember 91 = .ok (.iconst 1, 1) := by decide +kernel
theorem dX12_remember_92 : decode cX12_remember 92 = .ok (.iadd, 1) := by decide +kernel
theorem dX12_remember_93 : decode cX12_remember 93 = .ok (.putfield 61, 3) := by decide +kernel
theorem dX12_remember_96 : decode cX12_remember 96 = .ok (.return_, 1) := by decide +kernel
theorem dX12_isCard_0 : decode cX12_isCard 0 = .ok (.iload_n 1, 1) := by decide +kernel
theorem dX12_isCard_1 : decode cX12_isCard 1 = .ok (.iconst 0, 1) := by decide +kernel
theorem dX12_isCard_2 : decode cX12_isCard 2 = .ok (.aload_n 0, 1) := by decide +kernel
theorem dX12_isCard_3 : decode cX12_isCard 3 = .ok (.getfield 7, 3) := by decide +kernel
theorem dX12_isCard_6 : decode cX12_isCard 6 = .ok (.bipush 19, 2) := by decide +kernel
theorem dX12_isCard_8 : decode cX12_isCard 8 = .ok (.iaload, 1) := by decide +kernel
theorem dX12_isCard_9 : decode cX12_isCard 9 = .ok (.iconst 1, 1) := by decide +kernel
theorem dX12_isCard_10 : decode cX12_isCard 10 = .ok (.isub, 1) := by decide +kernel
theorem dX12_isCard_11 : decode cX12_isCard 11 = .ok (.invokestatic 64, 3) := by decide +kernel
theorem dX12_isCard_14 : decode cX12_isCard 14 = .ok (.ireturn, 1) := by decide +kernel
theorem dX12_isField_0 : decode cX12_isField 0 = .ok (.iload_n 0, 1) := by decide +kernel
theorem dX12_isField_1 : decode cX12_isField 1 = .ok (.iconst 0, 1) := by decide +kernel
theorem dX12_isField_2 : decode cX12_isField 2 = .ok (.iconst 5, 1) := by decide +kernel
theorem dX12_isField_3 : decode cX12_isField 3 = .ok (.invokestatic 64, 3) := by decide +kernel
theorem dX12_isField_6 : decode cX12_isField 6 = .ok (.ireturn, 1) := by decide +kernel
theorem dX12_isColumn_0 : decode cX12_isColumn 0 = .ok (.iload_n 0, 1) := by decide +kernel
theorem dX12_isColumn_1 : decode cX12_isColumn 1 = .ok (.iconst 0, 1) := by decide +kernel
theorem dX12_isColumn_2 : decode cX12_isColumn 2 = .ok (.bipush 23, 2) := by decide +kernel
theorem dX12_isColumn_4 : decode cX12_isColumn 4 = .ok (.invokestatic 64, 3) := by decide +kernel
theorem dX12_isColumn_7 : decode cX12_isColumn 7 = .ok (.ireturn, 1) := by decide +kernel
theorem dX12_of_0 : decode cX12_of 0 = .ok (.aload_n 0, 1) := by decide +kernel
theorem dX12_of_1 : decode cX12_of 1 = .ok (.getfield 7, 3) := by decide +kernel
theorem dX12_of_4 : decode cX12_of 4 = .ok (.bipush 20, 2) := by decide +kernel
theorem dX12_of_6 : decode cX12_of 6 = .ok (.bipush 26, 2) := by decide +kernel
theorem dX12_of_8 : decode cX12_of 8 = .ok (.iload_n 1, 1) := by decide +kernel
theorem dX12_of_9 : decode cX12_of 9 = .ok (.imul, 1) := by decide +kernel
theorem dX12_of_10 : decode cX12_of 10 = .ok (.iadd, 1) := by decide +kernel
theorem dX12_of_11 : decode cX12_of 11 = .ok (.iload_n 2, 1) := by decide +kernel
theorem dX12_of_12 : decode cX12_of 12 = .ok (.iadd, 1) := by decide +kernel
theorem dX12_of_13 : decode cX12_of 13 = .ok (.iaload, 1) := by decide +kernel
theorem dX12_of_14 : decode cX12_of 14 = .ok (.ireturn, 1) := by decide +kernel
theorem dX12_first_0 : decode cX12_first 0 = .ok (.aload_n 0, 1) := by decide +kernel
theorem dX12_first_1 : decode cX12_first 1 = .ok (.getfield 7, 3) := by decide +kernel
theorem dX12_first_4 : decode cX12_first 4 = .ok (.iconst 0, 1) := by decide +kernel
theorem dX12_first_5 : decode cX12_first 5 = .ok (.iconst 2, 1) := by decide +kernel
theorem dX12_first_6 : decode cX12_first 6 = .ok (.iload_n 1, 1) := by decide +kernel
theorem dX12_first_7 : decode cX12_first 7 = .ok (.imul, 1) := by decide +kernel
theorem dX12_first_8 : decode cX12_first 8 = .ok (.iadd, 1) := by decide +kernel
theorem dX12_first_9 : decode cX12_first 9 = .ok (.iaload, 1) := by decide +kernel
theorem dX12_first_10 : decode cX12_first 10 = .ok (.ireturn, 1) := by decide +kernel
theorem dX12_width_0 : decode cX12_width 0 = .ok (.aload_n 0, 1) := by decide +kernel
theorem dX12_width_1 : decode cX12_width 1 = .ok (.getfield 7, 3) := by decide +kernel
theorem dX12_width_4 : decode cX12_width 4 = .ok (.iconst 0, 1) := by decide +kernel
theorem dX12_width_5 : decode cX12_width 5 = .ok (.iconst 2, 1) := by decide +kernel
theorem dX12_width_6 : decode cX12_width 6 = .ok (.iload_n 1, 1) := by decide +kernel
theorem dX12_width_7 : decode cX12_width 7 = .ok (.imul, 1) := by decide +kernel
theorem dX12_width_8 : decode cX12_width 8 = .ok (.iadd, 1) := by decide +kernel
theorem dX12_width_9 : decode cX12_width 9 = .ok (.iconst 1, 1) := by decide +kernel
theorem dX12_width_10 : decode cX12_width 10 = .ok (.iadd, 1) := by decide +kernel
theorem dX12_width_11 : decode cX12_width 11 = .ok (.iaload, 1) := by decide +kernel
theorem dX12_width_12 : decode cX12_width 12 = .ok (.ireturn, 1) := by decide +kernel
theorem dX12_look_0 : decode cX12_look 0 = .ok (.iconst 0, 1) := by decide +kernel
theorem dX12_look_1 : decode cX12_look 1 = .ok (.istore_n 2, 1) := by decide +kernel
theorem dX12_look_2 : decode cX12_look 2 = .ok (.iload_n 2, 1) := by decide +kernel
theorem dX12_look_3 : decode cX12_look 3 = .ok (.bipush 24, 2) := by decide +kernel
theorem dX12_look_5 : decode cX12_look 5 = .ok (.if_icmp .ge 21, 3) := by decide +kernel
theorem dX12_look_8 : decode cX12_look 8 = .ok (.aload_n 0, 1) := by decide +kernel
theorem dX12_look_9 : decode cX12_look 9 = .ok (.getfield 30, 3) := by decide +kernel
theorem dX12_look_12 : decode cX12_look 12 = .ok (.iload_n 2, 1) := by decide +kernel
theorem dX12_look_13 : decode cX12_look 13 = .ok (.aload_n 0, 1) := by decide +kernel
theorem dX12_look_14 : decode cX12_look 14 = .ok (.iload_n 1, 1) := by decide +kernel
theorem dX12_look_15 : decode cX12_look 15 = .ok (.iload_n 2, 1) := by decide +kernel
theorem dX12_look_16 : decode cX12_look 16 = .ok (.invokevirtual 68, 3) := by decide +kernel
theorem dX12_look_19 : decode cX12_look 19 = .ok (.iastore, 1) := by decide +kernel
theorem dX12_look_20 : decode cX12_look 20 = .ok (.iinc 2 1, 3) := by decide +kernel
theorem dX12_look_23 : decode cX12_look 23 = .ok (.goto (-21), 3) := by decide +kernel
theorem dX12_look_26 : decode cX12_look 26 = .ok (.return_, 1) := by decide +kernel
theorem dX12_read_0 : decode cX12_read 0 = .ok (.aload_n 0, 1) := by decide +kernel
theorem dX12_read_1 : decode cX12_read 1 = .ok (.iload_n 1, 1) := by decide +kernel
theorem dX12_read_2 : decode cX12_read 2 = .ok (.invokevirtual 72, 3) := by decide +kernel
theorem dX12_read_5 : decode cX12_read 5 = .ok (.aload_n 0, 1) := by decide +kernel
theorem dX12_read_6 : decode cX12_read 6 = .ok (.iload_n 1, 1) := by decide +kernel
theorem dX12_read_7 : decode cX12_read 7 = .ok (.bipush 24, 2) := by decide +kernel
theorem dX12_read_9 : decode cX12_read 9 = .ok (.invokevirtual 68, 3) := by decide +kernel
theorem dX12_read_12 : decode cX12_read 12 = .ok (.iconst 2, 1) := by decide +kernel
theorem dX12_read_13 : decode cX12_read 13 = .ok (.if_icmp .ne 44, 3) := by decide +kernel
theorem dX12_read_16 : decode cX12_read 16 = .ok (.iconst 0, 1) := by decide +kernel
theorem dX12_read_17 : decode cX12_read 17 = .ok (.istore_n 2, 1) := by decide +kernel
theorem dX12_read_18 : decode cX12_read 18 = .ok (.iload_n 2, 1) := by decide +kernel
theorem dX12_read_19 : decode cX12_read 19 = .ok (.bipush 24, 2) := by decide +kernel
theorem dX12_read_21 : decode cX12_read 21 = .ok (.if_icmp .ge 36, 3) := by decide +kernel
theorem dX12_read_24 : decode cX12_read 24 = .ok (.aload_n 0, 1) := by decide +kernel
theorem dX12_read_25 : decode cX12_read 25 = .ok (.getfield 30, 3) := by decide +kernel
theorem dX12_read_28 : decode cX12_read 28 = .ok (.iload_n 2, 1) := by decide +kernel
theorem dX12_read_29 : decode cX12_read 29 = .ok (.iload_n 2, 1) := by decide +kernel
theorem dX12_read_30 : decode cX12_read 30 = .ok (.iconst 1, 1) := by decide +kernel
theorem dX12_read_31 : decode cX12_read 31 = .ok (.iadd, 1) := by decide +kernel
theorem dX12_read_32 : decode cX12_read 32 = .ok (.bipush 24, 2) := by decide +kernel
theorem dX12_read_34 : decode cX12_read 34 = .ok (.if_icmp .ge 14, 3) := by decide +kernel
theorem dX12_read_37 : decode cX12_read 37 = .ok (.aload_n 0, 1) := by decide +kernel
theorem dX12_read_38 : decode cX12_read 38 = .ok (.iload_n 1, 1) := by decide +kernel
theorem dX12_read_39 : decode cX12_read 39 = .ok (.iload_n 2, 1) := by decide +kernel
theorem dX12_read_40 : decode cX12_read 40 = .ok (.iconst 1, 1) := by decide +kernel
theorem dX12_read_41 : decode cX12_read 41 = .ok (.iadd, 1) := by decide +kernel
theorem dX12_read_42 : decode cX12_read 42 = .ok (.invokevirtual 68, 3) := by decide +kernel
theorem dX12_read_45 : decode cX12_read 45 = .ok (.goto 5, 3) := by decide +kernel
theorem dX12_read_48 : decode cX12_read 48 = .ok (.ldc 22, 2) := by decide +kernel
theorem dX12_read_50 : decode cX12_read 50 = .ok (.iastore, 1) := by decide +kernel
theorem dX12_read_51 : decode cX12_read 51 = .ok (.iinc 2 1, 3) := by decide +kernel
theorem dX12_read_54 : decode cX12_read 54 = .ok (.goto (-36), 3) := by decide +kernel
theorem dX12_read_57 : decode cX12_read 57 = .ok (.aload_n 0, 1) := by decide +kernel
theorem dX12_read_58 : decode cX12_read 58 = .ok (.iload_n 1, 1) := by decide +kernel
theorem dX12_read_59 : decode cX12_read 59 = .ok (.bipush 24, 2) := by decide +kernel
theorem dX12_read_61 : decode cX12_read 61 = .ok (.invokevirtual 68, 3) := by decide +kernel
theorem dX12_read_64 : decode cX12_read 64 = .ok (.iconst 3, 1) := by decide +kernel
theorem dX12_read_65 : decode cX12_read 65 = .ok (.if_icmp .ne 17, 3) := by decide +kernel
theorem dX12_read_68 : decode cX12_read 68 = .ok (.aload_n 0, 1) := by decide +kernel
theorem dX12_read_69 : decode cX12_read 69 = .ok (.getfield 30, 3) := by decide +kernel
theorem dX12_read_72 : decode cX12_read 72 = .ok (.aload_n 0, 1) := by decide +kernel
theorem dX12_read_73 : decode cX12_read 73 = .ok (.iload_n 1, 1) := by decide +kernel
theorem dX12_read_74 : decode cX12_read 74 = .ok (.bipush 25, 2) := by decide +kernel
theorem dX12_read_76 : decode cX12_read 76 = .ok (.invokevirtual 68, 3) := by decide +kernel
theorem dX12_read_79 : decode cX12_read 79 = .ok (.ldc 22, 2) := by decide +kernel
theorem dX12_read_81 : decode cX12_read 81 = .ok (.iastore, 1) := by decide +kernel
theorem dX12_read_82 : decode cX12_read 82 = .ok (.return_, 1) := by decide +kernel
theorem dX12_valueOf_0 : decode cX12_valueOf 0 = .ok (.iconst 0, 1) := by decide +kernel
theorem dX12_valueOf_1 : decode cX12_valueOf 1 = .ok (.istore_n 2, 1) := by decide +kernel
theorem dX12_valueOf_2 : decode cX12_valueOf 2 = .ok (.iconst 0, 1) := by decide +kernel
theorem dX12_valueOf_3 : decode cX12_valueOf 3 = .ok (.istore_n 3, 1) := by decide +kernel
theorem dX12_valueOf_4 : decode cX12_valueOf 4 = .ok (.iload_n 3, 1) := by decide +kernel
theorem dX12_valueOf_5 : decode cX12_valueOf 5 = .ok (.aload_n 0, 1) := by decide +kernel
theorem dX12_valueOf_6 : decode cX12_valueOf 6 = .ok (.iload_n 1, 1) := by decide +kernel
theorem dX12_valueOf_7 : decode cX12_valueOf 7 = .ok (.invokevirtual 76, 3) := by decide +kernel
theorem dX12_valueOf_10 : decode cX12_valueOf 10 = .ok (.if_icmp .ge 41, 3) := by decide +kernel
theorem dX12_valueOf_13 : decode cX12_valueOf 13 = .ok (.aload_n 0, 1) := by decide +kernel
theorem dX12_valueOf_14 : decode cX12_valueOf 14 = .ok (.getfield 30, 3) := by decide +kernel
theorem dX12_valueOf_17 : decode cX12_valueOf 17 = .ok (.aload_n 0, 1) := by decide +kernel
theorem dX12_valueOf_18 : decode cX12_valueOf 18 = .ok (.iload_n 1, 1) := by decide +kernel
theorem dX12_valueOf_19 : decode cX12_valueOf 19 = .ok (.invokevirtual 80, 3) := by decide +kernel
theorem dX12_valueOf_22 : decode cX12_valueOf 22 = .ok (.iload_n 3, 1) := by decide +kernel
theorem dX12_valueOf_23 : decode cX12_valueOf 23 = .ok (.iadd, 1) := by decide +kernel
theorem dX12_valueOf_24 : decode cX12_valueOf 24 = .ok (.iaload, 1) := by decide +kernel
theorem dX12_valueOf_25 : decode cX12_valueOf 25 = .ok (.istore 4, 2) := by decide +kernel
theorem dX12_valueOf_27 : decode cX12_valueOf 27 = .ok (.iload 4, 2) := by decide +kernel
theorem dX12_valueOf_29 : decode cX12_valueOf 29 = .ok (.ldc 22, 2) := by decide +kernel
theorem dX12_valueOf_31 : decode cX12_valueOf 31 = .ok (.if_icmp .ne 6, 3) := by decide +kernel
theorem dX12_valueOf_34 : decode cX12_valueOf 34 = .ok (.ldc 22, 2) := by decide +kernel
theorem dX12_valueOf_36 : decode cX12_valueOf 36 = .ok (.ireturn, 1) := by decide +kernel
theorem dX12_valueOf_37 : decode cX12_valueOf 37 = .ok (.bipush 10, 2) := by decide +kernel
theorem dX12_valueOf_39 : decode cX12_valueOf 39 = .ok (.iload_n 2, 1) := by decide +kernel
theorem dX12_valueOf_40 : decode cX12_valueOf 40 = .ok (.imul, 1) := by decide +kernel
theorem dX12_valueOf_41 : decode cX12_valueOf 41 = .ok (.iload 4, 2) := by decide +kernel
theorem dX12_valueOf_43 : decode cX12_valueOf 43 = .ok (.iadd, 1) := by decide +kernel
theorem dX12_valueOf_44 : decode cX12_valueOf 44 = .ok (.istore_n 2, 1) := by decide +kernel
theorem dX12_valueOf_45 : decode cX12_valueOf 45 = .ok (.iinc 3 1, 3) := by decide +kernel
theorem dX12_valueOf_48 : decode cX12_valueOf 48 = .ok (.goto (-44), 3) := by decide +kernel
theorem dX12_valueOf_51 : decode cX12_valueOf 51 = .ok (.iload_n 2, 1) := by decide +kernel
theorem dX12_valueOf_52 : decode cX12_valueOf 52 = .ok (.ireturn, 1) := by decide +kernel
theorem dX12_due_0 : decode cX12_due 0 = .ok (.iconst 0, 1) := by decide +kernel
theorem dX12_due_1 : decode cX12_due 1 = .ok (.istore_n 1, 1) := by decide +kernel
theorem dX12_due_2 : decode cX12_due 2 = .ok (.iconst 0, 1) := by decide +kernel
theorem dX12_due_3 : decode cX12_due 3 = .ok (.istore_n 2, 1) := by decide +kernel
theorem dX12_due_4 : decode cX12_due 4 = .ok (.iload_n 2, 1) := by decide +kernel
theorem dX12_due_5 : decode cX12_due 5 = .ok (.iconst 5, 1) := by decide +kernel
theorem dX12_due_6 : decode cX12_due 6 = .ok (.if_icmp .ge 69, 3) := by decide +kernel
theorem dX12_due_9 : decode cX12_due 9 = .ok (.iconst 0, 1) := by decide +kernel
theorem dX12_due_10 : decode cX12_due 10 = .ok (.istore_n 3, 1) := by decide +kernel
theorem dX12_due_11 : decode cX12_due 11 = .ok (.iload_n 3, 1) := by decide +kernel
theorem dX12_due_12 : decode cX12_due 12 = .ok (.aload_n 0, 1) := by decide +kernel
theorem dX12_due_13 : decode cX12_due 13 = .ok (.iload_n 2, 1) := by decide +kernel
theorem dX12_due_14 : decode cX12_due 14 = .ok (.invokevirtual 76, 3) := by decide +kernel
theorem dX12_due_17 : decode cX12_due 17 = .ok (.if_icmp .ge 52, 3) := by decide +kernel
theorem dX12_due_20 : decode cX12_due 20 = .ok (.aload_n 0, 1) := by decide +kernel
theorem dX12_due_21 : decode cX12_due 21 = .ok (.getfield 30, 3) := by decide +kernel
theorem dX12_due_24 : decode cX12_due 24 = .ok (.aload_n 0, 1) := by decide +kernel
theorem dX12_due_25 : decode cX12_due 25 = .ok (.iload_n 2, 1) := by decide +kernel
theorem dX12_due_26 : decode cX12_due 26 = .ok (.invokevirtual 80, 3) := by decide +kernel
theorem dX12_due_29 : decode cX12_due 29 = .ok (.iload_n 3, 1) := by decide +kernel
theorem dX12_due_30 : decode cX12_due 30 = .ok (.iadd, 1) := by decide +kernel
theorem dX12_due_31 : decode cX12_due 31 = .ok (.iaload, 1) := by decide +kernel
theorem dX12_due_32 : decode cX12_due 32 = .ok (.istore 4, 2) := by decide +kernel
theorem dX12_due_34 : decode cX12_due 34 = .ok (.iload_n 1, 1) := by decide +kernel
theorem dX12_due_35 : decode cX12_due 35 = .ok (.iload 4, 2) := by decide +kernel
theorem dX12_due_37 : decode cX12_due 37 = .ok (.ldc 22, 2) := by decide +kernel
theorem dX12_due_39 : decode cX12_due 39 = .ok (.if_icmp .ne 7, 3) := by decide +kernel
theorem dX12_due_42 : decode cX12_due 42 = .ok (.iconst 0, 1) := by decide +kernel
theorem dX12_due_43 : decode cX12_due 43 = .ok (.goto 18, 3) := by decide +kernel
theorem dX12_due_46 : decode cX12_due 46 = .ok (.iload_n 3, 1) := by decide +kernel
theorem dX12_due_47 : decode cX12_due 47 = .ok (.iconst 2, 1) := by decide +kernel
theorem dX12_due_48 : decode cX12_due 48 = .ok (.irem, 1) := by decide +kernel
theorem dX12_due_49 : decode cX12_due 49 = .ok (.ifCond .ne 10, 3) := by decide +kernel
theorem dX12_due_52 : decode cX12_due 52 = .ok (.iconst 3, 1) := by decide +kernel
theorem dX12_due_53 : decode cX12_due 53 = .ok (.iload 4, 2) := by decide +kernel
theorem dX12_due_55 : decode cX12_due 55 = .ok (.imul, 1) := by decide +kernel
theorem dX12_due_56 : decode cX12_due 56 = .ok (.goto 5, 3) := by decide +kernel
theorem dX12_due_59 : decode cX12_due 59 = .ok (.iload 4, 2) := by decide +kernel
theorem dX12_due_61 : decode cX12_due 61 = .ok (.iadd, 1) := by decide +kernel
theorem dX12_due_62 : decode cX12_due 62 = .ok (.istore_n 1, 1) := by decide +kernel
theorem dX12_due_63 : decode cX12_due 63 = .ok (.iinc 3 1, 3) := by decide +kernel
theorem dX12_due_66 : decode cX12_due 66 = .ok (.goto (-55), 3) := by decide +kernel
theorem dX12_due_69 : decode cX12_due 69 = .ok (.iinc 2 1, 3) := by decide +kernel
theorem dX12_due_72 : decode cX12_due 72 = .ok (.goto (-68), 3) := by decide +kernel
theorem dX12_due_75 : decode cX12_due 75 = .ok (.iload_n 1, 1) := by decide +kernel
theorem dX12_due_76 : decode cX12_due 76 = .ok (.bipush 10, 2) := by decide +kernel
theorem dX12_due_78 : decode cX12_due 78 = .ok (.irem, 1) := by decide +kernel
theorem dX12_due_79 : decode cX12_due 79 = .ok (.ireturn, 1) := by decide +kernel
theorem dX12_ownReason_0 : decode cX12_ownReason 0 = .ok (.aload_n 0, 1) := by decide +kernel
theorem dX12_ownReason_1 : decode cX12_ownReason 1 = .ok (.iload_n 1, 1) := by decide +kernel
theorem dX12_ownReason_2 : decode cX12_ownReason 2 = .ok (.bipush 24, 2) := by decide +kernel
theorem dX12_ownReason_4 : decode cX12_ownReason 4 = .ok (.invokevirtual 68, 3) := by decide +kernel
theorem dX12_ownReason_7 : decode cX12_ownReason 7 = .ok (.iconst 1, 1) := by decide +kernel
theorem dX12_ownReason_8 : decode cX12_ownReason 8 = .ok (.if_icmp .ne 5, 3) := by decide +kernel
theorem dX12_ownReason_11 : decode cX12_ownReason 11 = .ok (.iconst 1, 1) := by decide +kernel
theorem dX12_ownReason_12 : decode cX12_ownReason 12 = .ok (.ireturn, 1) := by decide +kernel
theorem dX12_ownReason_13 : decode cX12_ownReason 13 = .ok (.aload_n 0, 1) := by decide +kernel
theorem dX12_ownReason_14 : decode cX12_ownReason 14 = .ok (.iload_n 1, 1) := by decide +kernel
theorem dX12_ownReason_15 : decode cX12_ownReason 15 = .ok (.invokevirtual 83, 3) := by decide +kernel
theorem dX12_ownReason_18 : decode cX12_ownReason 18 = .ok (.iconst 0, 1) := by decide +kernel
theorem dX12_ownReason_19 : decode cX12_ownReason 19 = .ok (.istore_n 2, 1) := by decide +kernel
theorem dX12_ownReason_20 : decode cX12_ownReason 20 = .ok (.iload_n 2, 1) := by decide +kernel
theorem dX12_ownReason_21 : decode cX12_ownReason 21 = .ok (.iconst 5, 1) := by decide +kernel
theorem dX12_ownReason_22 : decode cX12_ownReason 22 = .ok (.if_icmp .ge 21, 3) := by decide +kernel
theorem dX12_ownReason_25 : decode cX12_ownReason 25 = .ok (.aload_n 0, 1) := by decide +kernel
theorem dX12_ownReason_26 : decode cX12_ownReason 26 = .ok (.iload_n 2, 1) := by decide +kernel
theorem dX12_ownReason_27 : decode cX12_ownReason 27 = .ok (.invokevirtual 86, 3) := by decide +kernel
theorem dX12_ownReason_30 : decode cX12_ownReason 30 = .ok (.ldc 22, 2) := by decide +kernel
theorem dX12_ownReason_32 : decode cX12_ownReason 32 = .ok (.if_icmp .ne 5, 3) := by decide +kernel
theorem dX12_ownReason_35 : decode cX12_ownReason 35 = .ok (.iconst 2, 1) := by decide +kernel
theorem dX12_ownReason_36 : decode cX12_ownReason 36 = .ok (.ireturn, 1) := by decide +kernel
theorem dX12_ownReason_37 : decode cX12_ownReason 37 = .ok (.iinc 2 1, 3) := by decide +kernel
theorem dX12_ownReason_40 : decode cX12_ownReason 40 = .ok (.goto (-20), 3) := by decide +kernel
theorem dX12_ownReason_43 : decode cX12_ownReason 43 = .ok (.aload_n 0, 1) := by decide +kernel
theorem dX12_ownReason_44 : decode cX12_ownReason 44 = .ok (.getfield 7, 3) := by decide +kernel
theorem dX12_ownReason_47 : decode cX12_ownReason 47 = .ok (.bipush 13, 2) := by decide +kernel
theorem dX12_ownReason_49 : decode cX12_ownReason 49 = .ok (.iaload, 1) := by decide +kernel
theorem dX12_ownReason_50 : decode cX12_ownReason 50 = .ok (.iconst 1, 1) := by decide +kernel
theorem dX12_ownReason_51 : decode cX12_ownReason 51 = .ok (.if_icmp .ne 17, 3) := by decide +kernel
theorem dX12_ownReason_54 : decode cX12_ownReason 54 = .ok (.aload_n 0, 1) := by decide +kernel
theorem dX12_ownReason_55 : decode cX12_ownReason 55 = .ok (.iconst 5, 1) := by decide +kernel
theorem dX12_ownReason_56 : decode cX12_ownReason 56 = .ok (.invokevirtual 86, 3) := by decide +kernel
theorem dX12_ownReason_59 : decode cX12_ownReason 59 = .ok (.aload_n 0, 1) := by decide +kernel
theorem dX12_ownReason_60 : decode cX12_ownReason 60 = .ok (.invokevirtual 89, 3) := by decide +kernel
theorem dX12_ownReason_63 : decode cX12_ownReason 63 = .ok (.if_icmp .eq 5, 3) := by decide +kernel
theorem dX12_ownReason_66 : decode cX12_ownReason 66 = .ok (.iconst 3, 1) := by decide +kernel
theorem dX12_ownReason_67 : decode cX12_ownReason 67 = .ok (.ireturn, 1) := by decide +kernel
theorem dX12_ownReason_68 : decode cX12_ownReason 68 = .ok (.aload_n 0, 1) := by decide +kernel
theorem dX12_ownReason_69 : decode cX12_ownReason 69 = .ok (.iconst 3, 1) := by decide +kernel
theorem dX12_ownReason_70 : decode cX12_ownReason 70 = .ok (.invokevirtual 86, 3) := by decide +kernel
theorem dX12_ownReason_73 : decode cX12_ownReason 73 = .ok (.aload_n 0, 1) := by decide +kernel
theorem dX12_ownReason_74 : decode cX12_ownReason 74 = .ok (.getfield 7, 3) := by decide +kernel
theorem dX12_ownReason_77 : decode cX12_ownReason 77 = .ok (.bipush 14, 2) := by decide +kernel
theorem dX12_ownReason_79 : decode cX12_ownReason 79 = .ok (.iaload, 1) := by decide +kernel
theorem dX12_ownReason_80 : decode cX12_ownReason 80 = .ok (.if_icmp .le 7, 3) := by decide +kernel
theorem dX12_ownReason_83 : decode cX12_ownReason 83 = .ok (.iconst 4, 1) := by decide +kernel
theorem dX12_ownReason_84 : decode cX12_ownReason 84 = .ok (.goto 4, 3) := by decide +kernel
theorem dX12_ownReason_87 : decode cX12_ownReason 87 = .ok (.iconst 0, 1) := by decide +kernel
theorem dX12_ownReason_88 : decode cX12_ownReason 88 = .ok (.ireturn, 1) := by decide +kernel
theorem dX12_key_0 : decode cX12_key 0 = .ok (.ldc2_w 93, 3) := by decide +kernel
theorem dX12_key_3 : decode cX12_key 3 = .ok (.iload_n 0, 1) := by decide +kernel
theorem dX12_key_4 : decode cX12_key 4 = .ok (.i2l, 1) := by decide +kernel
theorem dX12_key_5 : decode cX12_key 5 = .ok (.lmul, 1) := by decide +kernel
theorem dX12_key_6 : decode cX12_key 6 = .ok (.ldc2_w 95, 3) := by decide +kernel
theorem dX12_key_9 : decode cX12_key 9 = .ok (.iload_n 1, 1) := by decide +kernel
theorem dX12_key_10 : decode cX12_key 10 = .ok (.i2l, 1) := by decide +kernel
theorem dX12_key_11 : decode cX12_key 11 = .ok (.lmul, 1) := by decide +kernel
theorem dX12_key_12 : decode cX12_key 12 = .ok (.ladd, 1) := by decide +kernel
theorem dX12_key_13 : decode cX12_key 13 = .ok (.iload_n 2, 1) := by decide +kernel
theorem dX12_key_14 : decode cX12_key 14 = .ok (.i2l, 1) := by decide +kernel
theorem dX12_key_15 : decode cX12_key 15 = .ok (.ladd, 1) := by decide +kernel
theorem dX12_key_16 : decode cX12_key 16 = .ok (.lreturn, 1) := by decide +kernel
theorem dX12_fails_0 : decode cX12_fails 0 = .ok (.aload_n 0, 1) := by decide +kernel
theorem dX12_fails_1 : decode cX12_fails 1 = .ok (.iload_n 1, 1) := by decide +kernel
theorem dX12_fails_2 : decode cX12_fails 2 = .ok (.putfield 97, 3) := by decide +kernel
theorem dX12_fails_5 : decode cX12_fails 5 = .ok (.aload_n 0, 1) := by decide +kernel
theorem dX12_fails_6 : decode cX12_fails 6 = .ok (.iload_n 2, 1) := by decide +kernel
theorem dX12_fails_7 : decode cX12_fails 7 = .ok (.putfield 100, 3) := by decide +kernel
theorem dX12_fails_10 : decode cX12_fails 10 = .ok (.return_, 1) := by decide +kernel
theorem dX12_fieldOf_0 : decode cX12_fieldOf 0 = .ok (.iload_n 0, 1) := by decide +kernel
theorem dX12_fieldOf_1 : decode cX12_fieldOf 1 = .ok (.bipush 100, 2) := by decide +kernel
theorem dX12_fieldOf_3 : decode cX12_fieldOf 3 = .ok (.if_icmp .ne 7, 3) := by decide +kernel
theorem dX12_fieldOf_6 : decode cX12_fieldOf 6 = .ok (.iconst 0, 1) := by decide +kernel
theorem dX12_fieldOf_7 : decode cX12_fieldOf 7 = .ok (.goto 45, 3) := by decide +kernel
theorem dX12_fieldOf_10 : decode cX12_fieldOf 10 = .ok (.iload_n 0, 1) := by decide +kernel
theorem dX12_fieldOf_11 : decode cX12_fieldOf 11 = .ok (.bipush 103, 2) := by decide +kernel
theorem dX12_fieldOf_13 : decode cX12_fieldOf 13 = .ok (.if_icmp .ne 7, 3) := by decide +kernel
theorem dX12_fieldOf_16 : decode cX12_fieldOf 16 = .ok (.iconst 1, 1) := by decide +kernel
theorem dX12_fieldOf_17 : decode cX12_fieldOf 17 = .ok (.goto 35, 3) := by decide +kernel
theorem dX12_fieldOf_20 : decode cX12_fieldOf 20 = .ok (.iload_n 0, 1) := by decide +kernel
theorem dX12_fieldOf_21 : decode cX12_fieldOf 21 = .ok (.bipush 119, 2) := by decide +kernel
theorem dX12_fieldOf_23 : decode cX12_fieldOf 23 = .ok (.if_icmp .ne 7, 3) := by decide +kernel
theorem dX12_fieldOf_26 : decode cX12_fieldOf 26 = .ok (.iconst 2, 1) := by decide +kernel
theorem dX12_fieldOf_27 : decode cX12_fieldOf 27 = .ok (.goto 25, 3) := by decide +kernel
theorem dX12_fieldOf_30 : decode cX12_fieldOf 30 = .ok (.iload_n 0, 1) := by decide +kernel
theorem dX12_fieldOf_31 : decode cX12_fieldOf 31 = .ok (.bipush 104, 2) := by decide +kernel
theorem dX12_fieldOf_33 : decode cX12_fieldOf 33 = .ok (.if_icmp .ne 7, 3) := by decide +kernel
theorem dX12_fieldOf_36 : decode cX12_fieldOf 36 = .ok (.iconst 3, 1) := by decide +kernel
theorem dX12_fieldOf_37 : decode cX12_fieldOf 37 = .ok (.goto 15, 3) := by decide +kernel
theorem dX12_fieldOf_40 : decode cX12_fieldOf 40 = .ok (.iload_n 0, 1) := by decide +kernel
theorem dX12_fieldOf_41 : decode cX12_fieldOf 41 = .ok (.bipush 114, 2) := by decide +kernel
theorem dX12_fieldOf_43 : decode cX12_fieldOf 43 = .ok (.if_icmp .ne 7, 3) := by decide +kernel
theorem dX12_fieldOf_46 : decode cX12_fieldOf 46 = .ok (.iconst 4, 1) := by decide +kernel
theorem dX12_fieldOf_47 : decode cX12_fieldOf 47 = .ok (.goto 5, 3) := by decide +kernel
theorem dX12_fieldOf_50 : decode cX12_fieldOf 50 = .ok (.ldc 22, 2) := by decide +kernel
theorem dX12_fieldOf_52 : decode cX12_fieldOf 52 = .ok (.ireturn, 1) := by decide +kernel
theorem dX12_readText_0 : decode cX12_readText 0 = .ok (.aload_n 0, 1) := by decide +kernel
theorem dX12_readText_1 : decode cX12_readText 1 = .ok (.ldc 22, 2) := by decide +kernel
theorem dX12_readText_3 : decode cX12_readText 3 = .ok (.ldc 22, 2) := by decide +kernel
theorem dX12_readText_5 : decode cX12_readText 5 = .ok (.invokevirtual 103, 3) := by decide +kernel
theorem dX12_readText_8 : decode cX12_readText 8 = .ok (.iconst 0, 1) := by decide +kernel
theorem dX12_readText_9 : decode cX12_readText 9 = .ok (.istore_n 1, 1) := by decide +kernel
theorem dX12_readText_10 : decode cX12_readText 10 = .ok (.iload_n 1, 1) := by decide +kernel
theorem dX12_readText_11 : decode cX12_readText 11 = .ok (.iconst 5, 1) := by decide +kernel
theorem dX12_readText_12 : decode cX12_readText 12 = .ok (.if_icmp .ge 17, 3) := by decide +kernel
theorem dX12_readText_15 : decode cX12_readText 15 = .ok (.aload_n 0, 1) := by decide +kernel
theorem dX12_readText_16 : decode cX12_readText 16 = .ok (.getfield 33, 3) := by decide +kernel
theorem dX12_readText_19 : decode cX12_readText 19 = .ok (.iload_n 1, 1) := by decide +kernel
theorem dX12_readText_20 : decode cX12_readText 20 = .ok (.ldc 22, 2) := by decide +kernel
theorem dX12_readText_22 : decode cX12_readText 22 = .ok (.iastore, 1) := by decide +kernel
theorem dX12_readText_23 : decode cX12_readText 23 = .ok (.iinc 1 1, 3) := by decide +kernel
theorem dX12_readText_26 : decode cX12_readText 26 = .ok (.goto (-16), 3) := by decide +kernel
theorem dX12_readText_29 : decode cX12_readText 29 = .ok (.ldc 22, 2) := by decide +kernel
theorem dX12_readText_31 : decode cX12_readText 31 = .ok (.istore_n 1, 1) := by decide +kernel
theorem dX12_readText_32 : decode cX12_readText 32 = .ok (.iconst 0, 1) := by decide +kernel
theorem dX12_readText_33 : decode cX12_readText 33 = .ok (.istore_n 2, 1) := by decide +kernel
theorem dX12_readText_34 : decode cX12_readText 34 = .ok (.iconst 0, 1) := by decide +kernel
theorem dX12_readText_35 : decode cX12_readText 35 = .ok (.istore_n 3, 1) := by decide +kernel
theorem dX12_readText_36 : decode cX12_readText 36 = .ok (.iload_n 3, 1) := by decide +kernel
theorem dX12_readText_37 : decode cX12_readText 37 = .ok (.aload_n 0, 1) := by decide +kernel
theorem dX12_readText_38 : decode cX12_readText 38 = .ok (.getfield 107, 3) := by decide +kernel
theorem dX12_readText_41 : decode cX12_readText 41 = .ok (.if_icmp .ge 218, 3) := by decide +kernel
theorem dX12_readText_44 : decode cX12_readText 44 = .ok (.aload_n 0, 1) := by decide +kernel
theorem dX12_readText_45 : decode cX12_readText 45 = .ok (.getfield 97, 3) := by decide +kernel
theorem dX12_readText_48 : decode cX12_readText 48 = .ok (.ldc 22, 2) := by decide +kernel
theorem dX12_readText_50 : decode cX12_readText 50 = .ok (.if_icmp .ne 209, 3) := by decide +kernel
theorem dX12_readText_53 : decode cX12_readText 53 = .ok (.aload_n 0, 1) := by decide +kernel
theorem dX12_readText_54 : decode cX12_readText 54 = .ok (.getfield 19, 3) := by decide +kernel
theorem dX12_readText_57 : decode cX12_readText 57 = .ok (.iload_n 3, 1) := by decide +kernel
theorem dX12_readText_58 : decode cX12_readText 58 = .ok (.iaload, 1) := by decide +kernel
theorem dX12_readText_59 : decode cX12_readText 59 = .ok (.istore 4, 2) := by decide +kernel
theorem dX12_readText_61 : decode cX12_readText 61 = .ok (.iload_n 1, 1) := by decide +kernel
theorem dX12_readText_62 : decode cX12_readText 62 = .ok (.ldc 22, 2) := by decide +kernel
theorem dX12_readText_64 : decode cX12_readText 64 = .ok (.if_icmp .ne 95, 3) := by decide +kernel
theorem dX12_readText_67 : decode cX12_readText 67 = .ok (.iload 4, 2) := by decide +kernel
theorem dX12_readText_69 : decode cX12_readText 69 = .ok (.bipush 32, 2) := by decide +kernel
theorem dX12_readText_71 : decode cX12_readText 71 = .ok (.if_icmp .ne 8, 3) := by decide +kernel
theorem dX12_readText_74 : decode cX12_readText 74 = .ok (.ldc 22, 2) := by decide +kernel
theorem dX12_readText_76 : decode cX12_readText 76 = .ok (.goto 8, 3) := by decide +kernel
theorem dX12_readText_79 : decode cX12_readText 79 = .ok (.iload 4, 2) := by decide +kernel
theorem dX12_readText_81 : decode cX12_readText 81 = .ok (.invokestatic 110, 3) := by decide +kernel
theorem dX12_readText_84 : decode cX12_readText 84 = .ok (.istore_n 1, 1) := by decide +kernel
theorem dX12_readText_85 : decode cX12_readText 85 = .ok (.iload 4, 2) := by decide +kernel
theorem dX12_readText_87 : decode cX12_readText 87 = .ok (.bipush 32, 2) := by decide +kernel
theorem dX12_readText_89 : decode cX12_readText 89 = .ok (.if_icmp .eq 18, 3) := by decide +kernel
theorem dX12_readText_92 : decode cX12_readText 92 = .ok (.iload_n 1, 1) := by decide +kernel
theorem dX12_readText_93 : decode cX12_readText 93 = .ok (.ldc 22, 2) := by decide +kernel
theorem dX12_readText_95 : decode cX12_readText 95 = .ok (.if_icmp .ne 12, 3) := by decide +kernel
theorem dX12_readText_98 : decode cX12_readText 98 = .ok (.aload_n 0, 1) := by decide +kernel
theorem dX12_readText_99 : decode cX12_readText 99 = .ok (.iconst 1, 1) := by decide +kernel
theorem dX12_readText_100 : decode cX12_readText 100 = .ok (.iload_n 3, 1) := by decide +kernel
theorem dX12_readText_101 : decode cX12_readText 101 = .ok (.invokevirtual 103, 3) := by decide +kernel
theorem dX12_readText_104 : decode cX12_readText 104 = .ok (.goto 149, 3) := by decide +kernel
theorem dX12_readText_107 : decode cX12_readText 107 = .ok (.iload_n 1, 1) := by decide +kernel
theorem dX12_readText_108 : decode cX12_readText 108 = .ok (.ldc 22, 2) := by decide +kernel
theorem dX12_readText_110 : decode cX12_readText 110 = .ok (.if_icmp .eq 23, 3) := by decide +kernel
theorem dX12_readText_113 : decode cX12_readText 113 = .ok (.aload_n 0, 1) := by decide +kernel
theorem dX12_readText_114 : decode cX12_readText 114 = .ok (.getfield 33, 3) := by decide +kernel
theorem dX12_readText_117 : decode cX12_readText 117 = .ok (.iload_n 1, 1) := by decide +kernel
theorem dX12_readText_118 : decode cX12_readText 118 = .ok (.iaload, 1) := by decide +kernel
theorem dX12_readText_119 : decode cX12_readText 119 = .ok (.ldc 22, 2) := by decide +kernel
theorem dX12_readText_121 : decode cX12_readText 121 = .ok (.if_icmp .eq 12, 3) := by decide +kernel
theorem dX12_readText_124 : decode cX12_readText 124 = .ok (.aload_n 0, 1) := by decide +kernel
theorem dX12_readText_125 : decode cX12_readText 125 = .ok (.iconst 2, 1) := by decide +kernel
theorem dX12_readText_126 : decode cX12_readText 126 = .ok (.iload_n 3, 1) := by decide +kernel
theorem dX12_readText_127 : decode cX12_readText 127 = .ok (.invokevirtual 103, 3) := by decide +kernel
theorem dX12_readText_130 : decode cX12_readText 130 = .ok (.goto 123, 3) := by decide +kernel
theorem dX12_readText_133 : decode cX12_readText 133 = .ok (.iload_n 1, 1) := by decide +kernel
theorem dX12_readText_134 : decode cX12_readText 134 = .ok (.ldc 22, 2) := by decide +kernel
theorem dX12_readText_136 : decode cX12_readText 136 = .ok (.if_icmp .eq 117, 3) := by decide +kernel
theorem dX12_readText_139 : decode cX12_readText 139 = .ok (.aload_n 0, 1) := by decide +kernel
theorem dX12_readText_140 : decode cX12_readText 140 = .ok (.getfield 33, 3) := by decide +kernel
theorem dX12_readText_143 : decode cX12_readText 143 = .ok (.iload_n 1, 1) := by decide +kernel
theorem dX12_readText_144 : decode cX12_readText 144 = .ok (.iconst 0, 1) := by decide +kernel
theorem dX12_readText_145 : decode cX12_readText 145 = .ok (.iastore, 1) := by decide +kernel
theorem dX12_readText_146 : decode cX12_readText 146 = .ok (.aload_n 0, 1) := by decide +kernel
theorem dX12_readText_147 : decode cX12_readText 147 = .ok (.getfield 36, 3) := by decide +kernel
theorem dX12_readText_150 : decode cX12_readText 150 = .ok (.iload_n 1, 1) := by decide +kernel
theorem dX12_readText_151 : decode cX12_readText 151 = .ok (.iconst 0, 1) := by decide +kernel
theorem dX12_readText_152 : decode cX12_readText 152 = .ok (.iastore, 1) := by decide +kernel
theorem dX12_readText_153 : decode cX12_readText 153 = .ok (.iinc 2 1, 3) := by decide +kernel
theorem dX12_readText_156 : decode cX12_readText 156 = .ok (.goto 97, 3) := by decide +kernel
theorem dX12_readText_159 : decode cX12_readText 159 = .ok (.iload 4, 2) := by decide +kernel
theorem dX12_readText_161 : decode cX12_readText 161 = .ok (.bipush 48, 2) := by decide +kernel
theorem dX12_readText_163 : decode cX12_readText 163 = .ok (.bipush 57, 2) := by decide +kernel
theorem dX12_readText_165 : decode cX12_readText 165 = .ok (.invokestatic 64, 3) := by decide +kernel
theorem dX12_readText_168 : decode cX12_readText 168 = .ok (.ifCond .eq 57, 3) := by decide +kernel
theorem dX12_readText_171 : decode cX12_readText 171 = .ok (.aload_n 0, 1) := by decide +kernel
theorem dX12_readText_172 : decode cX12_readText 172 = .ok (.getfield 36, 3) := by decide +kernel
theorem dX12_readText_175 : decode cX12_readText 175 = .ok (.iload_n 1, 1) := by decide +kernel
theorem dX12_readText_176 : decode cX12_readText 176 = .ok (.iaload, 1) := by decide +kernel
theorem dX12_readText_177 : decode cX12_readText 177 = .ok (.aload_n 0, 1) := by decide +kernel
theorem dX12_readText_178 : decode cX12_readText 178 = .ok (.iload_n 1, 1) := by decide +kernel
theorem dX12_readText_179 : decode cX12_readText 179 = .ok (.invokevirtual 76, 3) := by decide +kernel
theorem dX12_readText_182 : decode cX12_readText 182 = .ok (.if_icmp .ne 9, 3) := by decide +kernel
theorem dX12_readText_185 : decode cX12_readText 185 = .ok (.aload_n 0, 1) := by decide +kernel
theorem dX12_readText_186 : decode cX12_readText 186 = .ok (.iconst 3, 1) := by decide +kernel
theorem dX12_readText_187 : decode cX12_readText 187 = .ok (.iload_n 3, 1) := by decide +kernel
theorem dX12_readText_188 : decode cX12_readText 188 = .ok (.invokevirtual 103, 3) := by decide +kernel
theorem dX12_readText_191 : decode cX12_readText 191 = .ok (.aload_n 0, 1) := by decide +kernel
theorem dX12_readText_192 : decode cX12_readText 192 = .ok (.getfield 33, 3) := by decide +kernel
theorem dX12_readText_195 : decode cX12_readText 195 = .ok (.iload_n 1, 1) := by decide +kernel
theorem dX12_readText_196 : decode cX12_readText 196 = .ok (.bipush 10, 2) := by decide +kernel
theorem dX12_readText_198 : decode cX12_readText 198 = .ok (.aload_n 0, 1) := by decide +kernel
theorem dX12_readText_199 : decode cX12_readText 199 = .ok (.getfield 33, 3) := by decide +kernel
theorem dX12_readText_202 : decode cX12_readText 202 = .ok (.iload_n 1, 1) := by decide +kernel
theorem dX12_readText_203 : decode cX12_readText 203 = .ok (.iaload, 1) := by decide +kernel
theorem dX12_readText_204 : decode cX12_readText 204 = .ok (.imul, 1) := by decide +kernel
theorem dX12_readText_205 : decode cX12_readText 205 = .ok (.iload 4, 2) := by decide +kernel
theorem dX12_readText_207 : decode cX12_readText 207 = .ok (.iadd, 1) := by decide +kernel
theorem dX12_readText_208 : decode cX12_readText 208 = .ok (.bipush 48, 2) := by decide +kernel
theorem dX12_readText_210 : decode cX12_readText 210 = .ok (.isub, 1) := by decide +kernel
theorem dX12_readText_211 : decode cX12_readText 211 = .ok (.iastore, 1) := by decide +kernel
theorem dX12_readText_212 : decode cX12_readText 212 = .ok (.aload_n 0, 1) := by decide +kernel
theorem dX12_readText_213 : decode cX12_readText 213 = .ok (.getfield 36, 3) := by decide +kernel
theorem dX12_readText_216 : decode cX12_readText 216 = .ok (.iload_n 1, 1) := by decide +kernel
theorem dX12_readText_217 : decode cX12_readText 217 = .ok (.dup2, 1) := by decide +kernel
theorem dX12_readText_218 : decode cX12_readText 218 = .ok (.iaload, 1) := by decide +kernel
theorem dX12_readText_219 : decode cX12_readText 219 = .ok (.iconst 1, 1) := by decide +kernel
theorem dX12_readText_220 : decode cX12_readText 220 = .ok (.iadd, 1) := by decide +kernel
theorem dX12_readText_221 : decode cX12_readText 221 = .ok (.iastore, 1) := by decide +kernel
theorem dX12_readText_222 : decode cX12_readText 222 = .ok (.goto 31, 3) := by decide +kernel
theorem dX12_readText_225 : decode cX12_readText 225 = .ok (.iload 4, 2) := by decide +kernel
theorem dX12_readText_227 : decode cX12_readText 227 = .ok (.bipush 32, 2) := by decide +kernel
theorem dX12_readText_229 : decode cX12_readText 229 = .ok (.if_icmp .ne 18, 3) := by decide +kernel
theorem dX12_readText_232 : decode cX12_readText 232 = .ok (.aload_n 0, 1) := by decide +kernel
theorem dX12_readText_233 : decode cX12_readText 233 = .ok (.getfield 36, 3) := by decide +kernel
theorem dX12_readText_236 : decode cX12_readText 236 = .ok (.iload_n 1, 1) := by decide +kernel
theorem dX12_readText_237 : decode cX12_readText 237 = .ok (.iaload, 1) := by decide +kernel
theorem dX12_readText_238 : decode cX12_readText 238 = .ok (.ifCond .le 9, 3) := by decide +kernel
theorem dX12_readText_241 : decode cX12_readText 241 = .ok (.ldc 22, 2) := by decide +kernel
theorem dX12_readText_243 : decode cX12_readText 243 = .ok (.istore_n 1, 1) := by decide +kernel
theorem dX12_readText_244 : decode cX12_readText 244 = .ok (.goto 9, 3) := by decide +kernel
theorem dX12_readText_247 : decode cX12_readText 247 = .ok (.aload_n 0, 1) := by decide +kernel
theorem dX12_readText_248 : decode cX12_readText 248 = .ok (.iconst 1, 1) := by decide +kernel
theorem dX12_readText_249 : decode cX12_readText 249 = .ok (.iload_n 3, 1) := by decide +kernel
theorem dX12_readText_250 : decode cX12_readText 250 = .ok (.invokevirtual 103, 3) := by decide +kernel
theorem dX12_readText_253 : decode cX12_readText 253 = .ok (.iinc 3 1, 3) := by decide +kernel
theorem dX12_readText_256 : decode cX12_readText 256 = .ok (.goto (-220), 3) := by decide +kernel
theorem dX12_readText_259 : decode cX12_readText 259 = .ok (.aload_n 0, 1) := by decide +kernel
theorem dX12_readText_260 : decode cX12_readText 260 = .ok (.getfield 97, 3) := by decide +kernel
theorem dX12_readText_263 : decode cX12_readText 263 = .ok (.ldc 22, 2) := by decide +kernel
theorem dX12_readText_265 : decode cX12_readText 265 = .ok (.if_icmp .ne 31, 3) := by decide +kernel
theorem dX12_readText_268 : decode cX12_readText 268 = .ok (.iload_n 2, 1) := by decide +kernel
theorem dX12_readText_269 : decode cX12_readText 269 = .ok (.ifCond .eq 18, 3) := by decide +kernel
theorem dX12_readText_272 : decode cX12_readText 272 = .ok (.iload_n 1, 1) := by decide +kernel
theorem dX12_readText_273 : decode cX12_readText 273 = .ok (.ldc 22, 2) := by decide +kernel
theorem dX12_readText_275 : decode cX12_readText 275 = .ok (.if_icmp .eq 21, 3) := by decide +kernel
theorem dX12_readText_278 : decode cX12_readText 278 = .ok (.aload_n 0, 1) := by decide +kernel
theorem dX12_readText_279 : decode cX12_readText 279 = .ok (.getfield 36, 3) := by decide +kernel
theorem dX12_readText_282 : decode cX12_readText 282 = .ok (.iload_n 1, 1) := by decide +kernel
theorem dX12_readText_283 : decode cX12_readText 283 = .ok (.iaload, 1) := by decide +kernel
theorem dX12_readText_284 : decode cX12_readText 284 = .ok (.ifCond .ne 12, 3) := by decide +kernel
theorem dX12_readText_287 : decode cX12_readText 287 = .ok (.aload_n 0, 1) := by decide +kernel
theorem dX12_readText_288 : decode cX12_readText 288 = .ok (.iconst 4, 1) := by decide +kernel
theorem dX12_readText_289 : decode cX12_readText 289 = .ok (.aload_n 0, 1) := by decide +kernel
theorem dX12_readText_290 : decode cX12_readText 290 = .ok (.getfield 107, 3) := by decide +kernel
theorem dX12_readText_293 : decode cX12_readText 293 = .ok (.invokevirtual 103, 3) := by decide +kernel
theorem dX12_readText_296 : decode cX12_readText 296 = .ok (.return_, 1) := by decide +kernel
theorem dX12_punchSeen_0 : decode cX12_punchSeen 0 = .ok (.iconst 0, 1) := by decide +kernel
theorem dX12_punchSeen_1 : decode cX12_punchSeen 1 = .ok (.istore_n 1, 1) := by decide +kernel
theorem dX12_punchSeen_2 : decode cX12_punchSeen 2 = .ok (.iload_n 1, 1) := by decide +kernel
theorem dX12_punchSeen_3 : decode cX12_punchSeen 3 = .ok (.bipush 24, 2) := by decide +kernel
theorem dX12_punchSeen_5 : decode cX12_punchSeen 5 = .ok (.if_icmp .ge 17, 3) := by decide +kernel
theorem dX12_punchSeen_8 : decode cX12_punchSeen 8 = .ok (.aload_n 0, 1) := by decide +kernel
theorem dX12_punchSeen_9 : decode cX12_punchSeen 9 = .ok (.getfield 30, 3) := by decide +kernel
theorem dX12_punchSeen_12 : decode cX12_punchSeen 12 = .ok (.iload_n 1, 1) := by decide +kernel
theorem dX12_punchSeen_13 : decode cX12_punchSeen 13 = .ok (.ldc 22, 2) := by decide +kernel
theorem dX12_punchSeen_15 : decode cX12_punchSeen 15 = .ok (.iastore, 1) := by decide +kernel
theorem dX12_punchSeen_16 : decode cX12_punchSeen 16 = .ok (.iinc 1 1, 3) := by decide +kernel
theorem dX12_punchSeen_19 : decode cX12_punchSeen 19 = .ok (.goto (-17), 3) := by decide +kernel
theorem dX12_punchSeen_22 : decode cX12_punchSeen 22 = .ok (.iconst 0, 1) := by decide +kernel
theorem dX12_punchSeen_23 : decode cX12_punchSeen 23 = .ok (.istore_n 1, 1) := by decide +kernel
theorem dX12_punchSeen_24 : decode cX12_punchSeen 24 = .ok (.iload_n 1, 1) := by decide +kernel
theorem dX12_punchSeen_25 : decode cX12_punchSeen 25 = .ok (.iconst 5, 1) := by decide +kernel
theorem dX12_punchSeen_26 : decode cX12_punchSeen 26 = .ok (.if_icmp .ge 66, 3) := by decide +kernel
theorem dX12_punchSeen_29 : decode cX12_punchSeen 29 = .ok (.aload_n 0, 1) := by decide +kernel
theorem dX12_punchSeen_30 : decode cX12_punchSeen 30 = .ok (.getfield 33, 3) := by decide +kernel
theorem dX12_punchSeen_33 : decode cX12_punchSeen 33 = .ok (.iload_n 1, 1) := by decide +kernel
theorem dX12_punchSeen_34 : decode cX12_punchSeen 34 = .ok (.iaload, 1) := by decide +kernel
theorem dX12_punchSeen_35 : decode cX12_punchSeen 35 = .ok (.istore_n 2, 1) := by decide +kernel
theorem dX12_punchSeen_36 : decode cX12_punchSeen 36 = .ok (.aload_n 0, 1) := by decide +kernel
theorem dX12_punchSeen_37 : decode cX12_punchSeen 37 = .ok (.iload_n 1, 1) := by decide +kernel
theorem dX12_punchSeen_38 : decode cX12_punchSeen 38 = .ok (.invokevirtual 76, 3) := by decide +kernel
theorem dX12_punchSeen_41 : decode cX12_punchSeen 41 = .ok (.iconst 1, 1) := by decide +kernel
theorem dX12_punchSeen_42 : decode cX12_punchSeen 42 = .ok (.isub, 1) := by decide +kernel
theorem dX12_punchSeen_43 : decode cX12_punchSeen 43 = .ok (.istore_n 3, 1) := by decide +kernel
theorem dX12_punchSeen_44 : decode cX12_punchSeen 44 = .ok (.iload_n 3, 1) := by decide +kernel
theorem dX12_punchSeen_45 : decode cX12_punchSeen 45 = .ok (.ifCond .lt 41, 3) := by decide +kernel
theorem dX12_punchSeen_48 : decode cX12_punchSeen 48 = .ok (.aload_n 0, 1) := by decide +kernel
theorem dX12_punchSeen_49 : decode cX12_punchSeen 49 = .ok (.getfield 33, 3) := by decide +kernel
theorem dX12_punchSeen_52 : decode cX12_punchSeen 52 = .ok (.iload_n 1, 1) := by decide +kernel
theorem dX12_punchSeen_53 : decode cX12_punchSeen 53 = .ok (.iaload, 1) := by decide +kernel
theorem dX12_punchSeen_54 : decode cX12_punchSeen 54 = .ok (.ldc 22, 2) := by decide +kernel
theorem dX12_punchSeen_56 : decode cX12_punchSeen 56 = .ok (.if_icmp .eq 30, 3) := by decide +kernel
theorem dX12_punchSeen_59 : decode cX12_punchSeen 59 = .ok (.aload_n 0, 1) := by decide +kernel
theorem dX12_punchSeen_60 : decode cX12_punchSeen 60 = .ok (.getfield 30, 3) := by decide +kernel
theorem dX12_punchSeen_63 : decode cX12_punchSeen 63 = .ok (.aload_n 0, 1) := by decide +kernel
theorem dX12_punchSeen_64 : decode cX12_punchSeen 64 = .ok (.iload_n 1, 1) := by decide +kernel
theorem dX12_punchSeen_65 : decode cX12_punchSeen 65 = .ok (.invokevirtual 80, 3) := by decide +kernel
theorem dX12_punchSeen_68 : decode cX12_punchSeen 68 = .ok (.iload_n 3, 1) := by decide +kernel
theorem dX12_punchSeen_69 : decode cX12_punchSeen 69 = .ok (.iadd, 1) := by decide +kernel
theorem dX12_punchSeen_70 : decode cX12_punchSeen 70 = .ok (.iload_n 2, 1) := by decide +kernel
theorem dX12_punchSeen_71 : decode cX12_punchSeen 71 = .ok (.bipush 10, 2) := by decide +kernel
theorem dX12_punchSeen_73 : decode cX12_punchSeen 73 = .ok (.irem, 1) := by decide +kernel
theorem dX12_punchSeen_74 : decode cX12_punchSeen 74 = .ok (.iastore, 1) := by decide +kernel
theorem dX12_punchSeen_75 : decode cX12_punchSeen 75 = .ok (.iload_n 2, 1) := by decide +kernel
theorem dX12_punchSeen_76 : decode cX12_punchSeen 76 = .ok (.bipush 10, 2) := by decide +kernel
theorem dX12_punchSeen_78 : decode cX12_punchSeen 78 = .ok (.idiv, 1) := by decide +kernel
theorem dX12_punchSeen_79 : decode cX12_punchSeen 79 = .ok (.istore_n 2, 1) := by decide +kernel
theorem dX12_punchSeen_80 : decode cX12_punchSeen 80 = .ok (.iinc 3 (-1), 3) := by decide +kernel
theorem dX12_punchSeen_83 : decode cX12_punchSeen 83 = .ok (.goto (-39), 3) := by decide +kernel
theorem dX12_punchSeen_86 : decode cX12_punchSeen 86 = .ok (.iinc 1 1, 3) := by decide +kernel
theorem dX12_punchSeen_89 : decode cX12_punchSeen 89 = .ok (.goto (-65), 3) := by decide +kernel
theorem dX12_punchSeen_92 : decode cX12_punchSeen 92 = .ok (.aload_n 0, 1) := by decide +kernel
theorem dX12_punchSeen_93 : decode cX12_punchSeen 93 = .ok (.getfield 30, 3) := by decide +kernel
theorem dX12_punchSeen_96 : decode cX12_punchSeen 96 = .ok (.aload_n 0, 1) := by decide +kernel
theorem dX12_punchSeen_97 : decode cX12_punchSeen 97 = .ok (.iconst 5, 1) := by decide +kernel
theorem dX12_punchSeen_98 : decode cX12_punchSeen 98 = .ok (.invokevirtual 80, 3) := by decide +kernel
theorem dX12_punchSeen_101 : decode cX12_punchSeen 101 = .ok (.aload_n 0, 1) := by decide +kernel
theorem dX12_punchSeen_102 : decode cX12_punchSeen 102 = .ok (.invokevirtual 89, 3) := by decide +kernel
theorem dX12_punchSeen_105 : decode cX12_punchSeen 105 = .ok (.iastore, 1) := by decide +kernel
theorem dX12_punchSeen_106 : decode cX12_punchSeen 106 = .ok (.return_, 1) := by decide +kernel
theorem dX12_lay_0 : decode cX12_lay 0 = .ok (.iload_n 1, 1) := by decide +kernel
theorem dX12_lay_1 : decode cX12_lay 1 = .ok (.invokestatic 113, 3) := by decide +kernel
theorem dX12_lay_4 : decode cX12_lay 4 = .ok (.ifCond .eq 33, 3) := by decide +kernel
theorem dX12_lay_7 : decode cX12_lay 7 = .ok (.iload_n 3, 1) := by decide +kernel
theorem dX12_lay_8 : decode cX12_lay 8 = .ok (.iconst 1, 1) := by decide +kernel
theorem dX12_lay_9 : decode cX12_lay 9 = .ok (.iload_n 1, 1) := by decide +kernel
theorem dX12_lay_10 : decode cX12_lay 10 = .ok (.iconst 5, 1) := by decide +kernel
theorem dX12_lay_11 : decode cX12_lay 11 = .ok (.if_icmp .ne 7, 3) := by decide +kernel
theorem dX12_lay_14 : decode cX12_lay 14 = .ok (.iconst 1, 1) := by decide +kernel
theorem dX12_lay_15 : decode cX12_lay 15 = .ok (.goto 4, 3) := by decide +kernel
theorem dX12_lay_18 : decode cX12_lay 18 = .ok (.iconst 4, 1) := by decide +kernel
theorem dX12_lay_19 : decode cX12_lay 19 = .ok (.invokestatic 64, 3) := by decide +kernel
theorem dX12_lay_22 : decode cX12_lay 22 = .ok (.ifCond .eq 15, 3) := by decide +kernel
theorem dX12_lay_25 : decode cX12_lay 25 = .ok (.iload_n 2, 1) := by decide +kernel
theorem dX12_lay_26 : decode cX12_lay 26 = .ok (.iconst 0, 1) := by decide +kernel
theorem dX12_lay_27 : decode cX12_lay 27 = .ok (.bipush 24, 2) := by decide +kernel
theorem dX12_lay_29 : decode cX12_lay 29 = .ok (.iload_n 3, 1) := by decide +kernel
theorem dX12_lay_30 : decode cX12_lay 30 = .ok (.isub, 1) := by decide +kernel
theorem dX12_lay_31 : decode cX12_lay 31 = .ok (.invokestatic 64, 3) := by decide +kernel
theorem dX12_lay_34 : decode cX12_lay 34 = .ok (.ifCond .ne 6, 3) := by decide +kernel
theorem dX12_lay_37 : decode cX12_lay 37 = .ok (.ldc 117, 2) := by decide +kernel
theorem dX12_lay_39 : decode cX12_lay 39 = .ok (.ireturn, 1) := by decide +kernel
theorem dX12_lay_40 : decode cX12_lay 40 = .ok (.aload_n 0, 1) := by decide +kernel
theorem dX12_lay_41 : decode cX12_lay 41 = .ok (.invokevirtual 118, 3) := by decide +kernel
theorem dX12_lay_44 : decode cX12_lay 44 = .ok (.aload_n 0, 1) := by decide +kernel
theorem dX12_lay_45 : decode cX12_lay 45 = .ok (.iload_n 1, 1) := by decide +kernel
theorem dX12_lay_46 : decode cX12_lay 46 = .ok (.invokevirtual 80, 3) := by decide +kernel
theorem dX12_lay_49 : decode cX12_lay 49 = .ok (.istore 4, 2) := by decide +kernel
theorem dX12_lay_51 : decode cX12_lay 51 = .ok (.aload_n 0, 1) := by decide +kernel
theorem dX12_lay_52 : decode cX12_lay 52 = .ok (.iload_n 1, 1) := by decide +kernel
theorem dX12_lay_53 : decode cX12_lay 53 = .ok (.iload_n 2, 1) := by decide +kernel
theorem dX12_lay_54 : decode cX12_lay 54 = .ok (.iload_n 3, 1) := by decide +kernel
theorem dX12_lay_55 : decode cX12_lay 55 = .ok (.invokevirtual 57, 3) := by decide +kernel
theorem dX12_lay_58 : decode cX12_lay 58 = .ok (.iload 4, 2) := by decide +kernel
theorem dX12_lay_60 : decode cX12_lay 60 = .ok (.ireturn, 1) := by decide +kernel
theorem dX12_isOf_0 : decode cX12_isOf 0 = .ok (.iload_n 0, 1) := by decide +kernel
theorem dX12_isOf_1 : decode cX12_isOf 1 = .ok (.ifCond .ne 12, 3) := by decide +kernel
theorem dX12_isOf_4 : decode cX12_isOf 4 = .ok (.iload_n 1, 1) := by decide +kernel
theorem dX12_isOf_5 : decode cX12_isOf 5 = .ok (.iconst 0, 1) := by decide +kernel
theorem dX12_isOf_6 : decode cX12_isOf 6 = .ok (.iconst 2, 1) := by decide +kernel
theorem dX12_isOf_7 : decode cX12_isOf 7 = .ok (.invokestatic 64, 3) := by decide +kernel
theorem dX12_isOf_10 : decode cX12_isOf 10 = .ok (.goto 42, 3) := by decide +kernel
theorem dX12_isOf_13 : decode cX12_isOf 13 = .ok (.iload_n 0, 1) := by decide +kernel
theorem dX12_isOf_14 : decode cX12_isOf 14 = .ok (.iconst 1, 1) := by decide +kernel
theorem dX12_isOf_15 : decode cX12_isOf 15 = .ok (.if_icmp .ne 12, 3) := by decide +kernel
theorem dX12_isOf_18 : decode cX12_isOf 18 = .ok (.iload_n 1, 1) := by decide +kernel
theorem dX12_isOf_19 : decode cX12_isOf 19 = .ok (.iconst 0, 1) := by decide +kernel
theorem dX12_isOf_20 : decode cX12_isOf 20 = .ok (.iconst 1, 1) := by decide +kernel
theorem dX12_isOf_21 : decode cX12_isOf 21 = .ok (.invokestatic 64, 3) := by decide +kernel
theorem dX12_isOf_24 : decode cX12_isOf 24 = .ok (.goto 28, 3) := by decide +kernel
theorem dX12_isOf_27 : decode cX12_isOf 27 = .ok (.iload_n 0, 1) := by decide +kernel
theorem dX12_isOf_28 : decode cX12_isOf 28 = .ok (.iconst 2, 1) := by decide +kernel
theorem dX12_isOf_29 : decode cX12_isOf 29 = .ok (.iconst 3, 1) := by decide +kernel
theorem dX12_isOf_30 : decode cX12_isOf 30 = .ok (.invokestatic 64, 3) := by decide +kernel
theorem dX12_isOf_33 : decode cX12_isOf 33 = .ok (.ifCond .eq 18, 3) := by decide +kernel
theorem dX12_isOf_36 : decode cX12_isOf 36 = .ok (.iload_n 1, 1) := by decide +kernel
theorem dX12_isOf_37 : decode cX12_isOf 37 = .ok (.iconst 0, 1) := by decide +kernel
theorem dX12_isOf_38 : decode cX12_isOf 38 = .ok (.sipush 9999, 3) := by decide +kernel
theorem dX12_isOf_41 : decode cX12_isOf 41 = .ok (.invokestatic 64, 3) := by decide +kernel
theorem dX12_isOf_44 : decode cX12_isOf 44 = .ok (.ifCond .eq 7, 3) := by decide +kernel
theorem dX12_isOf_47 : decode cX12_isOf 47 = .ok (.iconst 1, 1) := by decide +kernel
theorem dX12_isOf_48 : decode cX12_isOf 48 = .ok (.goto 4, 3) := by decide +kernel
theorem dX12_isOf_51 : decode cX12_isOf 51 = .ok (.iconst 0, 1) := by decide +kernel
theorem dX12_isOf_52 : decode cX12_isOf 52 = .ok (.ireturn, 1) := by decide +kernel
theorem dX12_put_0 : decode cX12_put 0 = .ok (.aload_n 0, 1) := by decide +kernel
theorem dX12_put_1 : decode cX12_put 1 = .ok (.invokevirtual 118, 3) := by decide +kernel
theorem dX12_put_4 : decode cX12_put 4 = .ok (.aload_n 0, 1) := by decide +kernel
theorem dX12_put_5 : decode cX12_put 5 = .ok (.getfield 7, 3) := by decide +kernel
theorem dX12_put_8 : decode cX12_put 8 = .ok (.iload_n 1, 1) := by decide +kernel
theorem dX12_put_9 : decode cX12_put 9 = .ok (.iaload, 1) := by decide +kernel
theorem dX12_put_10 : decode cX12_put 10 = .ok (.istore_n 3, 1) := by decide +kernel
theorem dX12_put_11 : decode cX12_put 11 = .ok (.aload_n 0, 1) := by decide +kernel
theorem dX12_put_12 : decode cX12_put 12 = .ok (.getfield 7, 3) := by decide +kernel
theorem dX12_put_15 : decode cX12_put 15 = .ok (.iload_n 1, 1) := by decide +kernel
theorem dX12_put_16 : decode cX12_put 16 = .ok (.iload_n 2, 1) := by decide +kernel
theorem dX12_put_17 : decode cX12_put 17 = .ok (.iastore, 1) := by decide +kernel
theorem dX12_put_18 : decode cX12_put 18 = .ok (.iload_n 3, 1) := by decide +kernel
theorem dX12_put_19 : decode cX12_put 19 = .ok (.ireturn, 1) := by decide +kernel
theorem dX12_set_0 : decode cX12_set 0 = .ok (.iload_n 1, 1) := by decide +kernel
theorem dX12_set_1 : decode cX12_set 1 = .ok (.iload_n 2, 1) := by decide +kernel
theorem dX12_set_2 : decode cX12_set 2 = .ok (.invokestatic 121, 3) := by decide +kernel
theorem dX12_set_5 : decode cX12_set 5 = .ok (.ifCond .eq 15, 3) := by decide +kernel
theorem dX12_set_8 : decode cX12_set 8 = .ok (.aload_n 0, 1) := by decide +kernel
theorem dX12_set_9 : decode cX12_set 9 = .ok (.bipush 12, 2) := by decide +kernel
theorem dX12_set_11 : decode cX12_set 11 = .ok (.iload_n 1, 1) := by decide +kernel
theorem dX12_set_12 : decode cX12_set 12 = .ok (.iadd, 1) := by decide +kernel
theorem dX12_set_13 : decode cX12_set 13 = .ok (.iload_n 2, 1) := by decide +kernel
theorem dX12_set_14 : decode cX12_set 14 = .ok (.invokevirtual 125, 3) := by decide +kernel
theorem dX12_set_17 : decode cX12_set 17 = .ok (.goto 5, 3) := by decide +kernel
theorem dX12_set_20 : decode cX12_set 20 = .ok (.ldc 117, 2) := by decide +kernel
theorem dX12_set_22 : decode cX12_set 22 = .ok (.ireturn, 1) := by decide +kernel
theorem dX12_control_0 : decode cX12_control 0 = .ok (.iload_n 1, 1) := by decide +kernel
theorem dX12_control_1 : decode cX12_control 1 = .ok (.iconst 0, 1) := by decide +kernel
theorem dX12_control_2 : decode cX12_control 2 = .ok (.iconst 2, 1) := by decide +kernel
theorem dX12_control_3 : decode cX12_control 3 = .ok (.invokestatic 64, 3) := by decide +kernel
theorem dX12_control_6 : decode cX12_control 6 = .ok (.ifCond .eq 31, 3) := by decide +kernel
theorem dX12_control_9 : decode cX12_control 9 = .ok (.iload_n 2, 1) := by decide +kernel
theorem dX12_control_10 : decode cX12_control 10 = .ok (.ldc 22, 2) := by decide +kernel
theorem dX12_control_12 : decode cX12_control 12 = .ok (.if_icmp .eq 13, 3) := by decide +kernel
theorem dX12_control_15 : decode cX12_control 15 = .ok (.iload_n 2, 1) := by decide +kernel
theorem dX12_control_16 : decode cX12_control 16 = .ok (.iconst 0, 1) := by decide +kernel
theorem dX12_control_17 : decode cX12_control 17 = .ok (.ldc 128, 2) := by decide +kernel
theorem dX12_control_19 : decode cX12_control 19 = .ok (.invokestatic 64, 3) := by decide +kernel
theorem dX12_control_22 : decode cX12_control 22 = .ok (.ifCond .eq 15, 3) := by decide +kernel
theorem dX12_control_25 : decode cX12_control 25 = .ok (.aload_n 0, 1) := by decide +kernel
theorem dX12_control_26 : decode cX12_control 26 = .ok (.bipush 16, 2) := by decide +kernel
theorem dX12_control_28 : decode cX12_control 28 = .ok (.iload_n 1, 1) := by decide +kernel
theorem dX12_control_29 : decode cX12_control 29 = .ok (.iadd, 1) := by decide +kernel
theorem dX12_control_30 : decode cX12_control 30 = .ok (.iload_n 2, 1) := by decide +kernel
theorem dX12_control_31 : decode cX12_control 31 = .ok (.invokevirtual 125, 3) := by decide +kernel
theorem dX12_control_34 : decode cX12_control 34 = .ok (.goto 5, 3) := by decide +kernel
theorem dX12_control_37 : decode cX12_control 37 = .ok (.ldc 117, 2) := by decide +kernel
theorem dX12_control_39 : decode cX12_control 39 = .ok (.ireturn, 1) := by decide +kernel
theorem dX12_copyCard_0 : decode cX12_copyCard 0 = .ok (.iconst 0, 1) := by decide +kernel
theorem dX12_copyCard_1 : decode cX12_copyCard 1 = .ok (.istore_n 3, 1) := by decide +kernel
theorem dX12_copyCard_2 : decode cX12_copyCard 2 = .ok (.iload_n 3, 1) := by decide +kernel
theorem dX12_copyCard_3 : decode cX12_copyCard 3 = .ok (.bipush 26, 2) := by decide +kernel
theorem dX12_copyCard_5 : decode cX12_copyCard 5 = .ok (.if_icmp .ge 37, 3) := by decide +kernel
theorem dX12_copyCard_8 : decode cX12_copyCard 8 = .ok (.aload_n 0, 1) := by decide +kernel
theorem dX12_copyCard_9 : decode cX12_copyCard 9 = .ok (.getfield 7, 3) := by decide +kernel
theorem dX12_copyCard_12 : decode cX12_copyCard 12 = .ok (.bipush 20, 2) := by decide +kernel
theorem dX12_copyCard_14 : decode cX12_copyCard 14 = .ok (.bipush 26, 2) := by decide +kernel
theorem dX12_copyCard_16 : decode cX12_copyCard 16 = .ok (.iload_n 2, 1) := by decide +kernel
theorem dX12_copyCard_17 : decode cX12_copyCard 17 = .ok (.imul, 1) := by decide +kernel
theorem dX12_copyCard_18 : decode cX12_copyCard 18 = .ok (.iadd, 1) := by decide +kernel
theorem dX12_copyCard_19 : decode cX12_copyCard 19 = .ok (.iload_n 3, 1) := by decide +kernel
theorem dX12_copyCard_20 : decode cX12_copyCard 20 = .ok (.iadd, 1) := by decide +kernel
theorem dX12_copyCard_21 : decode cX12_copyCard 21 = .ok (.aload_n 0, 1) := by decide +kernel
theorem dX12_copyCard_22 : decode cX12_copyCard 22 = .ok (.getfield 7, 3) := by decide +kernel
theorem dX12_copyCard_25 : decode cX12_copyCard 25 = .ok (.bipush 20, 2) := by decide +kernel
theorem dX12_copyCard_27 : decode cX12_copyCard 27 = .ok (.bipush 26, 2) := by decide +kernel
theorem dX12_copyCard_29 : decode cX12_copyCard 29 = .ok (.iload_n 1, 1) := by decide +kernel
theorem dX12_copyCard_30 : decode cX12_copyCard 30 = .ok (.imul, 1) := by decide +kernel
theorem dX12_copyCard_31 : decode cX12_copyCard 31 = .ok (.iadd, 1) := by decide +kernel
theorem dX12_copyCard_32 : decode cX12_copyCard 32 = .ok (.iload_n 3, 1) := by decide +kernel
theorem dX12_copyCard_33 : decode cX12_copyCard 33 = .ok (.iadd, 1) := by decide +kernel
theorem dX12_copyCard_34 : decode cX12_copyCard 34 = .ok (.iaload, 1) := by decide +kernel
theorem dX12_copyCard_35 : decode cX12_copyCard 35 = .ok (.iastore, 1) := by decide +kernel
theorem dX12_copyCard_36 : decode cX12_copyCard 36 = .ok (.iinc 3 1, 3) := by decide +kernel
theorem dX12_copyCard_39 : decode cX12_copyCard 39 = .ok (.goto (-37), 3) := by decide +kernel
theorem dX12_copyCard_42 : decode cX12_copyCard 42 = .ok (.return_, 1) := by decide +kernel
theorem dX12_punch_0 : decode cX12_punch 0 = .ok (.iload_n 1, 1) := by decide +kernel
theorem dX12_punch_1 : decode cX12_punch 1 = .ok (.iconst 0, 1) := by decide +kernel
theorem dX12_punch_2 : decode cX12_punch 2 = .ok (.aload_n 0, 1) := by decide +kernel
theorem dX12_punch_3 : decode cX12_punch 3 = .ok (.getfield 7, 3) := by decide +kernel
theorem dX12_punch_6 : decode cX12_punch 6 = .ok (.bipush 19, 2) := by decide +kernel
theorem dX12_punch_8 : decode cX12_punch 8 = .ok (.iaload, 1) := by decide +kernel
theorem dX12_punch_9 : decode cX12_punch 9 = .ok (.invokestatic 64, 3) := by decide +kernel
theorem dX12_punch_12 : decode cX12_punch 12 = .ok (.ifCond .ne 6, 3) := by decide +kernel
theorem dX12_punch_15 : decode cX12_punch 15 = .ok (.ldc 117, 2) := by decide +kernel
theorem dX12_punch_17 : decode cX12_punch 17 = .ok (.ireturn, 1) := by decide +kernel
theorem dX12_punch_18 : decode cX12_punch 18 = .ok (.aload_n 0, 1) := by decide +kernel
theorem dX12_punch_19 : decode cX12_punch 19 = .ok (.invokevirtual 129, 3) := by decide +kernel
theorem dX12_punch_22 : decode cX12_punch 22 = .ok (.aload_n 0, 1) := by decide +kernel
theorem dX12_punch_23 : decode cX12_punch 23 = .ok (.getfield 97, 3) := by decide +kernel
theorem dX12_punch_26 : decode cX12_punch 26 = .ok (.ldc 22, 2) := by decide +kernel
theorem dX12_punch_28 : decode cX12_punch 28 = .ok (.if_icmp .eq 22, 3) := by decide +kernel
theorem dX12_punch_31 : decode cX12_punch 31 = .ok (.aload_n 0, 1) := by decide +kernel
theorem dX12_punch_32 : decode cX12_punch 32 = .ok (.aload_n 0, 1) := by decide +kernel
theorem dX12_punch_33 : decode cX12_punch 33 = .ok (.getfield 97, 3) := by decide +kernel
theorem dX12_punch_36 : decode cX12_punch 36 = .ok (.putfield 23, 3) := by decide +kernel
theorem dX12_punch_39 : decode cX12_punch 39 = .ok (.aload_n 0, 1) := by decide +kernel
theorem dX12_punch_40 : decode cX12_punch 40 = .ok (.aload_n 0, 1) := by decide +kernel
theorem dX12_punch_41 : decode cX12_punch 41 = .ok (.getfield 100, 3) := by decide +kernel
theorem dX12_punch_44 : decode cX12_punch 44 = .ok (.putfield 27, 3) := by decide +kernel
theorem dX12_punch_47 : decode cX12_punch 47 = .ok (.ldc 132, 2) := by decide +kernel
theorem dX12_punch_49 : decode cX12_punch 49 = .ok (.ireturn, 1) := by decide +kernel
theorem dX12_punch_50 : decode cX12_punch 50 = .ok (.aload_n 0, 1) := by decide +kernel
theorem dX12_punch_51 : decode cX12_punch 51 = .ok (.getfield 7, 3) := by decide +kernel
theorem dX12_punch_54 : decode cX12_punch 54 = .ok (.bipush 19, 2) := by decide +kernel
theorem dX12_punch_56 : decode cX12_punch 56 = .ok (.iaload, 1) := by decide +kernel
theorem dX12_punch_57 : decode cX12_punch 57 = .ok (.bipush 40, 2) := by decide +kernel
theorem dX12_punch_59 : decode cX12_punch 59 = .ok (.if_icmp .ne 6, 3) := by decide +kernel
theorem dX12_punch_62 : decode cX12_punch 62 = .ok (.ldc 133, 2) := by decide +kernel
theorem dX12_punch_64 : decode cX12_punch 64 = .ok (.ireturn, 1) := by decide +kernel
theorem dX12_punch_65 : decode cX12_punch 65 = .ok (.aload_n 0, 1) := by decide +kernel
theorem dX12_punch_66 : decode cX12_punch 66 = .ok (.invokevirtual 118, 3) := by decide +kernel
theorem dX12_punch_69 : decode cX12_punch 69 = .ok (.aload_n 0, 1) := by decide +kernel
theorem dX12_punch_70 : decode cX12_punch 70 = .ok (.getfield 7, 3) := by decide +kernel
theorem dX12_punch_73 : decode cX12_punch 73 = .ok (.bipush 19, 2) := by decide +kernel
theorem dX12_punch_75 : decode cX12_punch 75 = .ok (.iaload, 1) := by decide +kernel
theorem dX12_punch_76 : decode cX12_punch 76 = .ok (.istore_n 2, 1) := by decide +kernel
theorem dX12_punch_77 : decode cX12_punch 77 = .ok (.iload_n 2, 1) := by decide +kernel
theorem dX12_punch_78 : decode cX12_punch 78 = .ok (.iload_n 1, 1) := by decide +kernel
theorem dX12_punch_79 : decode cX12_punch 79 = .ok (.if_icmp .le 17, 3) := by decide +kernel
theorem dX12_punch_82 : decode cX12_punch 82 = .ok (.aload_n 0, 1) := by decide +kernel
theorem dX12_punch_83 : decode cX12_punch 83 = .ok (.iload_n 2, 1) := by decide +kernel
theorem dX12_punch_84 : decode cX12_punch 84 = .ok (.iconst 1, 1) := by decide +kernel
theorem dX12_punch_85 : decode cX12_punch 85 = .ok (.isub, 1) := by decide +kernel
theorem dX12_punch_86 : decode cX12_punch 86 = .ok (.iload_n 2, 1) := by decide +kernel
theorem dX12_punch_87 : decode cX12_punch 87 = .ok (.invokevirtual 134, 3) := by decide +kernel
theorem dX12_punch_90 : decode cX12_punch 90 = .ok (.iinc 2 (-1), 3) := by decide +kernel
theorem dX12_punch_93 : decode cX12_punch 93 = .ok (.goto (-16), 3) := by decide +kernel
theorem dX12_punch_96 : decode cX12_punch 96 = .ok (.aload_n 0, 1) := by decide +kernel
theorem dX12_punch_97 : decode cX12_punch 97 = .ok (.getfield 7, 3) := by decide +kernel
theorem dX12_punch_100 : decode cX12_punch 100 = .ok (.bipush 19, 2) := by decide +kernel
theorem dX12_punch_102 : decode cX12_punch 102 = .ok (.dup2, 1) := by decide +kernel
theorem dX12_punch_103 : decode cX12_punch 103 = .ok (.iaload, 1) := by decide +kernel
theorem dX12_punch_104 : decode cX12_punch 104 = .ok (.iconst 1, 1) := by decide +kernel
theorem dX12_punch_105 : decode cX12_punch 105 = .ok (.iadd, 1) := by decide +kernel
theorem dX12_punch_106 : decode cX12_punch 106 = .ok (.iastore, 1) := by decide +kernel
theorem dX12_punch_107 : decode cX12_punch 107 = .ok (.aload_n 0, 1) := by decide +kernel
theorem dX12_punch_108 : decode cX12_punch 108 = .ok (.invokevirtual 137, 3) := by decide +kernel
theorem dX12_punch_111 : decode cX12_punch 111 = .ok (.bipush 20, 2) := by decide +kernel
theorem dX12_punch_113 : decode cX12_punch 113 = .ok (.bipush 26, 2) := by decide +kernel
theorem dX12_punch_115 : decode cX12_punch 115 = .ok (.iload_n 1, 1) := by decide +kernel
theorem dX12_punch_116 : decode cX12_punch 116 = .ok (.imul, 1) := by decide +kernel
theorem dX12_punch_117 : decode cX12_punch 117 = .ok (.iadd, 1) := by decide +kernel
theorem dX12_punch_118 : decode cX12_punch 118 = .ok (.istore_n 2, 1) := by decide +kernel
theorem dX12_punch_119 : decode cX12_punch 119 = .ok (.iconst 0, 1) := by decide +kernel
theorem dX12_punch_120 : decode cX12_punch 120 = .ok (.istore_n 3, 1) := by decide +kernel
theorem dX12_punch_121 : decode cX12_punch 121 = .ok (.iload_n 3, 1) := by decide +kernel
theorem dX12_punch_122 : decode cX12_punch 122 = .ok (.bipush 24, 2) := by decide +kernel
theorem dX12_punch_124 : decode cX12_punch 124 = .ok (.if_icmp .ge 23, 3) := by decide +kernel
theorem dX12_punch_127 : decode cX12_punch 127 = .ok (.aload_n 0, 1) := by decide +kernel
theorem dX12_punch_128 : decode cX12_punch 128 = .ok (.getfield 7, 3) := by decide +kernel
theorem dX12_punch_131 : decode cX12_punch 131 = .ok (.iload_n 2, 1) := by decide +kernel
theorem dX12_punch_132 : decode cX12_punch 132 = .ok (.iload_n 3, 1) := by decide +kernel
theorem dX12_punch_133 : decode cX12_punch 133 = .ok (.iadd, 1) := by decide +kernel
theorem dX12_punch_134 : decode cX12_punch 134 = .ok (.aload_n 0, 1) := by decide +kernel
theorem dX12_punch_135 : decode cX12_punch 135 = .ok (.getfield 30, 3) := by decide +kernel
theorem dX12_punch_138 : decode cX12_punch 138 = .ok (.iload_n 3, 1) := by decide +kernel
theorem dX12_punch_139 : decode cX12_punch 139 = .ok (.iaload, 1) := by decide +kernel
theorem dX12_punch_140 : decode cX12_punch 140 = .ok (.iastore, 1) := by decide +kernel
theorem dX12_punch_141 : decode cX12_punch 141 = .ok (.iinc 3 1, 3) := by decide +kernel
theorem dX12_punch_144 : decode cX12_punch 144 = .ok (.goto (-23), 3) := by decide +kernel
theorem dX12_punch_147 : decode cX12_punch 147 = .ok (.aload_n 0, 1) := by decide +kernel
theorem dX12_punch_148 : decode cX12_punch 148 = .ok (.getfield 7, 3) := by decide +kernel
theorem dX12_punch_151 : decode cX12_punch 151 = .ok (.iload_n 2, 1) := by decide +kernel
theorem dX12_punch_152 : decode cX12_punch 152 = .ok (.bipush 24, 2) := by decide +kernel
theorem dX12_punch_154 : decode cX12_punch 154 = .ok (.iadd, 1) := by decide +kernel
theorem dX12_punch_155 : decode cX12_punch 155 = .ok (.iconst 0, 1) := by decide +kernel
theorem dX12_punch_156 : decode cX12_punch 156 = .ok (.iastore, 1) := by decide +kernel
theorem dX12_punch_157 : decode cX12_punch 157 = .ok (.aload_n 0, 1) := by decide +kernel
theorem dX12_punch_158 : decode cX12_punch 158 = .ok (.getfield 7, 3) := by decide +kernel
theorem dX12_punch_161 : decode cX12_punch 161 = .ok (.iload_n 2, 1) := by decide +kernel
theorem dX12_punch_162 : decode cX12_punch 162 = .ok (.bipush 25, 2) := by decide +kernel
theorem dX12_punch_164 : decode cX12_punch 164 = .ok (.iadd, 1) := by decide +kernel
theorem dX12_punch_165 : decode cX12_punch 165 = .ok (.iconst 0, 1) := by decide +kernel
theorem dX12_punch_166 : decode cX12_punch 166 = .ok (.iastore, 1) := by decide +kernel
theorem dX12_punch_167 : decode cX12_punch 167 = .ok (.aload_n 0, 1) := by decide +kernel
theorem dX12_punch_168 : decode cX12_punch 168 = .ok (.getfield 7, 3) := by decide +kernel
theorem dX12_punch_171 : decode cX12_punch 171 = .ok (.bipush 19, 2) := by decide +kernel
theorem dX12_punch_173 : decode cX12_punch 173 = .ok (.iaload, 1) := by decide +kernel
theorem dX12_punch_174 : decode cX12_punch 174 = .ok (.ireturn, 1) := by decide +kernel
theorem dX12_take_0 : decode cX12_take 0 = .ok (.aload_n 0, 1) := by decide +kernel
theorem dX12_take_1 : decode cX12_take 1 = .ok (.iload_n 1, 1) := by decide +kernel
theorem dX12_take_2 : decode cX12_take 2 = .ok (.invokevirtual 140, 3) := by decide +kernel
theorem dX12_take_5 : decode cX12_take 5 = .ok (.ifCond .ne 6, 3) := by decide +kernel
theorem dX12_take_8 : decode cX12_take 8 = .ok (.ldc 117, 2) := by decide +kernel
theorem dX12_take_10 : decode cX12_take 10 = .ok (.ireturn, 1) := by decide +kernel
theorem dX12_take_11 : decode cX12_take 11 = .ok (.aload_n 0, 1) := by decide +kernel
theorem dX12_take_12 : decode cX12_take 12 = .ok (.invokevirtual 118, 3) := by decide +kernel
theorem dX12_take_15 : decode cX12_take 15 = .ok (.iload_n 1, 1) := by decide +kernel
theorem dX12_take_16 : decode cX12_take 16 = .ok (.istore_n 2, 1) := by decide +kernel
theorem dX12_take_17 : decode cX12_take 17 = .ok (.iload_n 2, 1) := by decide +kernel
theorem dX12_take_18 : decode cX12_take 18 = .ok (.iconst 1, 1) := by decide +kernel
theorem dX12_take_19 : decode cX12_take 19 = .ok (.iadd, 1) := by decide +kernel
theorem dX12_take_20 : decode cX12_take 20 = .ok (.aload_n 0, 1) := by decide +kernel
theorem dX12_take_21 : decode cX12_take 21 = .ok (.getfield 7, 3) := by decide +kernel
theorem dX12_take_24 : decode cX12_take 24 = .ok (.bipush 19, 2) := by decide +kernel
theorem dX12_take_26 : decode cX12_take 26 = .ok (.iaload, 1) := by decide +kernel
theorem dX12_take_27 : decode cX12_take 27 = .ok (.if_icmp .ge 17, 3) := by decide +kernel
theorem dX12_take_30 : decode cX12_take 30 = .ok (.aload_n 0, 1) := by decide +kernel
theorem dX12_take_31 : decode cX12_take 31 = .ok (.iload_n 2, 1) := by decide +kernel
theorem dX12_take_32 : decode cX12_take 32 = .ok (.iconst 1, 1) := by decide +kernel
theorem dX12_take_33 : decode cX12_take 33 = .ok (.iadd, 1) := by decide +kernel
theorem dX12_take_34 : decode cX12_take 34 = .ok (.iload_n 2, 1) := by decide +kernel
theorem dX12_take_35 : decode cX12_take 35 = .ok (.invokevirtual 134, 3) := by decide +kernel
theorem dX12_take_38 : decode cX12_take 38 = .ok (.iinc 2 1, 3) := by decide +kernel
theorem dX12_take_41 : decode cX12_take 41 = .ok (.goto (-24), 3) := by decide +kernel
theorem dX12_take_44 : decode cX12_take 44 = .ok (.aload_n 0, 1) := by decide +kernel
theorem dX12_take_45 : decode cX12_take 45 = .ok (.getfield 7, 3) := by decide +kernel
theorem dX12_take_48 : decode cX12_take 48 = .ok (.bipush 19, 2) := by decide +kernel
theorem dX12_take_50 : decode cX12_take 50 = .ok (.dup2, 1) := by decide +kernel
theorem dX12_take_51 : decode cX12_take 51 = .ok (.iaload, 1) := by decide +kernel
theorem dX12_take_52 : decode cX12_take 52 = .ok (.iconst 1, 1) := by decide +kernel
theorem dX12_take_53 : decode cX12_take 53 = .ok (.isub, 1) := by decide +kernel
theorem dX12_take_54 : decode cX12_take 54 = .ok (.iastore, 1) := by decide +kernel
theorem dX12_take_55 : decode cX12_take 55 = .ok (.aload_n 0, 1) := by decide +kernel
theorem dX12_take_56 : decode cX12_take 56 = .ok (.getfield 7, 3) := by decide +kernel
theorem dX12_take_59 : decode cX12_take 59 = .ok (.bipush 19, 2) := by decide +kernel
theorem dX12_take_61 : decode cX12_take 61 = .ok (.iaload, 1) := by decide +kernel
theorem dX12_take_62 : decode cX12_take 62 = .ok (.ireturn, 1) := by decide +kernel
theorem dX12_holdDeck_0 : decode cX12_holdDeck 0 = .ok (.iconst 0, 1) := by decide +kernel
theorem dX12_holdDeck_1 : decode cX12_holdDeck 1 = .ok (.istore_n 1, 1) := by decide +kernel
theorem dX12_holdDeck_2 : decode cX12_holdDeck 2 = .ok (.iload_n 1, 1) := by decide +kernel
theorem dX12_holdDeck_3 : decode cX12_holdDeck 3 = .ok (.sipush 1040, 3) := by decide +kernel
theorem dX12_holdDeck_6 : decode cX12_holdDeck 6 = .ok (.if_icmp .ge 24, 3) := by decide +kernel
theorem dX12_holdDeck_9 : decode cX12_holdDeck 9 = .ok (.aload_n 0, 1) := by decide +kernel
theorem dX12_holdDeck_10 : decode cX12_holdDeck 10 = .ok (.getfield 39, 3) := by decide +kernel
theorem dX12_holdDeck_13 : decode cX12_holdDeck 13 = .ok (.iload_n 1, 1) := by decide +kernel
theorem dX12_holdDeck_14 : decode cX12_holdDeck 14 = .ok (.aload_n 0, 1) := by decide +kernel
theorem dX12_holdDeck_15 : decode cX12_holdDeck 15 = .ok (.getfield 7, 3) := by decide +kernel
theorem dX12_holdDeck_18 : decode cX12_holdDeck 18 = .ok (.bipush 20, 2) := by decide +kernel
theorem dX12_holdDeck_20 : decode cX12_holdDeck 20 = .ok (.iload_n 1, 1) := by decide +kernel
theorem dX12_holdDeck_21 : decode cX12_holdDeck 21 = .ok (.iadd, 1) := by decide +kernel
theorem dX12_holdDeck_22 : decode cX12_holdDeck 22 = .ok (.iaload, 1) := by decide +kernel
theorem dX12_holdDeck_23 : decode cX12_holdDeck 23 = .ok (.iastore, 1) := by decide +kernel
theorem dX12_holdDeck_24 : decode cX12_holdDeck 24 = .ok (.iinc 1 1, 3) := by decide +kernel
theorem dX12_holdDeck_27 : decode cX12_holdDeck 27 = .ok (.goto (-25), 3) := by decide +kernel
theorem dX12_holdDeck_30 : decode cX12_holdDeck 30 = .ok (.return_, 1) := by decide +kernel
theorem dX12_fromHeld_0 : decode cX12_fromHeld 0 = .ok (.iconst 0, 1) := by decide +kernel
theorem dX12_fromHeld_1 : decode cX12_fromHeld 1 = .ok (.istore_n 3, 1) := by decide +kernel
theorem dX12_fromHeld_2 : decode cX12_fromHeld 2 = .ok (.iload_n 3, 1) := by decide +kernel
theorem dX12_fromHeld_3 : decode cX12_fromHeld 3 = .ok (.bipush 26, 2) := by decide +kernel
theorem dX12_fromHeld_5 : decode cX12_fromHeld 5 = .ok (.if_icmp .ge 34, 3) := by decide +kernel
theorem dX12_fromHeld_8 : decode cX12_fromHeld 8 = .ok (.aload_n 0, 1) := by decide +kernel
theorem dX12_fromHeld_9 : decode cX12_fromHeld 9 = .ok (.getfield 7, 3) := by decide +kernel
theorem dX12_fromHeld_12 : decode cX12_fromHeld 12 = .ok (.bipush 20, 2) := by decide +kernel
theorem dX12_fromHeld_14 : decode cX12_fromHeld 14 = .ok (.bipush 26, 2) := by decide +kernel
theorem dX12_fromHeld_16 : decode cX12_fromHeld 16 = .ok (.iload_n 2, 1) := by decide +kernel
theorem dX12_fromHeld_17 : decode cX12_fromHeld 17 = .ok (.imul, 1) := by decide +kernel
theorem dX12_fromHeld_18 : decode cX12_fromHeld 18 = .ok (.iadd, 1) := by decide +kernel
theorem dX12_fromHeld_19 : decode cX12_fromHeld 19 = .ok (.iload_n 3, 1) := by decide +kernel
theorem dX12_fromHeld_20 : decode cX12_fromHeld 20 = .ok (.iadd, 1) := by decide +kernel
theorem dX12_fromHeld_21 : decode cX12_fromHeld 21 = .ok (.aload_n 0, 1) := by decide +kernel
theorem dX12_fromHeld_22 : decode cX12_fromHeld 22 = .ok (.getfield 39, 3) := by decide +kernel
theorem dX12_fromHeld_25 : decode cX12_fromHeld 25 = .ok (.bipush 26, 2) := by decide +kernel
theorem dX12_fromHeld_27 : decode cX12_fromHeld 27 = .ok (.iload_n 1, 1) := by decide +kernel
theorem dX12_fromHeld_28 : decode cX12_fromHeld 28 = .ok (.imul, 1) := by decide +kernel
theorem dX12_fromHeld_29 : decode cX12_fromHeld 29 = .ok (.iload_n 3, 1) := by decide +kernel
theorem dX12_fromHeld_30 : decode cX12_fromHeld 30 = .ok (.iadd, 1) := by decide +kernel
theorem dX12_fromHeld_31 : decode cX12_fromHeld 31 = .ok (.iaload, 1) := by decide +kernel
theorem dX12_fromHeld_32 : decode cX12_fromHeld 32 = .ok (.iastore, 1) := by decide +kernel
theorem dX12_fromHeld_33 : decode cX12_fromHeld 33 = .ok (.iinc 3 1, 3) := by decide +kernel
theorem dX12_fromHeld_36 : decode cX12_fromHeld 36 = .ok (.goto (-34), 3) := by decide +kernel
theorem dX12_fromHeld_39 : decode cX12_fromHeld 39 = .ok (.return_, 1) := by decide +kernel
theorem dX12_move_0 : decode cX12_move 0 = .ok (.aload_n 0, 1) := by decide +kernel
theorem dX12_move_1 : decode cX12_move 1 = .ok (.iload_n 1, 1) := by decide +kernel
theorem dX12_move_2 : decode cX12_move 2 = .ok (.invokevirtual 140, 3) := by decide +kernel
theorem dX12_move_5 : decode cX12_move 5 = .ok (.ifCond .eq 11, 3) := by decide +kernel
theorem dX12_move_8 : decode cX12_move 8 = .ok (.aload_n 0, 1) := by decide +kernel
theorem dX12_move_9 : decode cX12_move 9 = .ok (.iload_n 2, 1) := by decide +kernel
theorem dX12_move_10 : decode cX12_move 10 = .ok (.invokevirtual 140, 3) := by decide +kernel
theorem dX12_move_13 : decode cX12_move 13 = .ok (.ifCond .ne 6, 3) := by decide +kernel
theorem dX12_move_16 : decode cX12_move 16 = .ok (.ldc 117, 2) := by decide +kernel
theorem dX12_move_18 : decode cX12_move 18 = .ok (.ireturn, 1) := by decide +kernel
theorem dX12_move_19 : decode cX12_move 19 = .ok (.aload_n 0, 1) := by decide +kernel
theorem dX12_move_20 : decode cX12_move 20 = .ok (.invokevirtual 118, 3) := by decide +kernel
theorem dX12_move_23 : decode cX12_move 23 = .ok (.aload_n 0, 1) := by decide +kernel
theorem dX12_move_24 : decode cX12_move 24 = .ok (.invokevirtual 143, 3) := by decide +kernel
theorem dX12_move_27 : decode cX12_move 27 = .ok (.iload_n 1, 1) := by decide +kernel
theorem dX12_move_28 : decode cX12_move 28 = .ok (.istore_n 3, 1) := by decide +kernel
theorem dX12_move_29 : decode cX12_move 29 = .ok (.iload_n 3, 1) := by decide +kernel
theorem dX12_move_30 : decode cX12_move 30 = .ok (.iload_n 2, 1) := by decide +kernel
theorem dX12_move_31 : decode cX12_move 31 = .ok (.if_icmp .ge 17, 3) := by decide +kernel
theorem dX12_move_34 : decode cX12_move 34 = .ok (.aload_n 0, 1) := by decide +kernel
theorem dX12_move_35 : decode cX12_move 35 = .ok (.iload_n 3, 1) := by decide +kernel
theorem dX12_move_36 : decode cX12_move 36 = .ok (.iconst 1, 1) := by decide +kernel
theorem dX12_move_37 : decode cX12_move 37 = .ok (.iadd, 1) := by decide +kernel
theorem dX12_move_38 : decode cX12_move 38 = .ok (.iload_n 3, 1) := by decide +kernel
theorem dX12_move_39 : decode cX12_move 39 = .ok (.invokevirtual 146, 3) := by decide +kernel
theorem dX12_move_42 : decode cX12_move 42 = .ok (.iinc 3 1, 3) := by decide +kernel
theorem dX12_move_45 : decode cX12_move 45 = .ok (.goto (-16), 3) := by decide +kernel
theorem dX12_move_48 : decode cX12_move 48 = .ok (.iload_n 1, 1) := by decide +kernel
theorem dX12_move_49 : decode cX12_move 49 = .ok (.istore_n 3, 1) := by decide +kernel
theorem dX12_move_50 : decode cX12_move 50 = .ok (.iload_n 3, 1) := by decide +kernel
theorem dX12_move_51 : decode cX12_move 51 = .ok (.iload_n 2, 1) := by decide +kernel
theorem dX12_move_52 : decode cX12_move 52 = .ok (.if_icmp .le 17, 3) := by decide +kernel
theorem dX12_move_55 : decode cX12_move 55 = .ok (.aload_n 0, 1) := by decide +kernel
theorem dX12_move_56 : decode cX12_move 56 = .ok (.iload_n 3, 1) := by decide +kernel
theorem dX12_move_57 : decode cX12_move 57 = .ok (.iconst 1, 1) := by decide +kernel
theorem dX12_move_58 : decode cX12_move 58 = .ok (.isub, 1) := by decide +kernel
theorem dX12_move_59 : decode cX12_move 59 = .ok (.iload_n 3, 1) := by decide +kernel
theorem dX12_move_60 : decode cX12_move 60 = .ok (.invokevirtual 146, 3) := by decide +kernel
theorem dX12_move_63 : decode cX12_move 63 = .ok (.iinc 3 (-1), 3) := by decide +kernel
theorem dX12_move_66 : decode cX12_move 66 = .ok (.goto (-16), 3) := by decide +kernel
theorem dX12_move_69 : decode cX12_move 69 = .ok (.aload_n 0, 1) := by decide +kernel
theorem dX12_move_70 : decode cX12_move 70 = .ok (.iload_n 1, 1) := by decide +kernel
theorem dX12_move_71 : decode cX12_move 71 = .ok (.iload_n 2, 1) := by decide +kernel
theorem dX12_move_72 : decode cX12_move 72 = .ok (.invokevirtual 146, 3) := by decide +kernel
theorem dX12_move_75 : decode cX12_move 75 = .ok (.iload_n 1, 1) := by decide +kernel
theorem dX12_move_76 : decode cX12_move 76 = .ok (.iload_n 2, 1) := by decide +kernel
theorem dX12_move_77 : decode cX12_move 77 = .ok (.if_icmp .ne 7, 3) := by decide +kernel
theorem dX12_move_80 : decode cX12_move 80 = .ok (.iconst 0, 1) := by decide +kernel
theorem dX12_move_81 : decode cX12_move 81 = .ok (.goto 21, 3) := by decide +kernel
theorem dX12_move_84 : decode cX12_move 84 = .ok (.iload_n 1, 1) := by decide +kernel
theorem dX12_move_85 : decode cX12_move 85 = .ok (.iload_n 2, 1) := by decide +kernel
theorem dX12_move_86 : decode cX12_move 86 = .ok (.if_icmp .ge 11, 3) := by decide +kernel
theorem dX12_move_89 : decode cX12_move 89 = .ok (.iload_n 2, 1) := by decide +kernel
theorem dX12_move_90 : decode cX12_move 90 = .ok (.iload_n 1, 1) := by decide +kernel
theorem dX12_move_91 : decode cX12_move 91 = .ok (.isub, 1) := by decide +kernel
theorem dX12_move_92 : decode cX12_move 92 = .ok (.iconst 1, 1) := by decide +kernel
theorem dX12_move_93 : decode cX12_move 93 = .ok (.iadd, 1) := by decide +kernel
theorem dX12_move_94 : decode cX12_move 94 = .ok (.goto 8, 3) := by decide +kernel
theorem dX12_move_97 : decode cX12_move 97 = .ok (.iload_n 1, 1) := by decide +kernel
theorem dX12_move_98 : decode cX12_move 98 = .ok (.iload_n 2, 1) := by decide +kernel
theorem dX12_move_99 : decode cX12_move 99 = .ok (.isub, 1) := by decide +kernel
theorem dX12_move_100 : decode cX12_move 100 = .ok (.iconst 1, 1) := by decide +kernel
theorem dX12_move_101 : decode cX12_move 101 = .ok (.iadd, 1) := by decide +kernel
theorem dX12_move_102 : decode cX12_move 102 = .ok (.ireturn, 1) := by decide +kernel
theorem dX12_repunch_0 : decode cX12_repunch 0 = .ok (.aload_n 0, 1) := by decide +kernel
theorem dX12_repunch_1 : decode cX12_repunch 1 = .ok (.iload_n 1, 1) := by decide +kernel
theorem dX12_repunch_2 : decode cX12_repunch 2 = .ok (.invokevirtual 140, 3) := by decide +kernel
theorem dX12_repunch_5 : decode cX12_repunch 5 = .ok (.ifCond .eq 30, 3) := by decide +kernel
theorem dX12_repunch_8 : decode cX12_repunch 8 = .ok (.iload_n 2, 1) := by decide +kernel
theorem dX12_repunch_9 : decode cX12_repunch 9 = .ok (.invokestatic 149, 3) := by decide +kernel
theorem dX12_repunch_12 : decode cX12_repunch 12 = .ok (.ifCond .eq 23, 3) := by decide +kernel
theorem dX12_repunch_15 : decode cX12_repunch 15 = .ok (.iload_n 3, 1) := by decide +kernel
theorem dX12_repunch_16 : decode cX12_repunch 16 = .ok (.ldc 22, 2) := by decide +kernel
theorem dX12_repunch_18 : decode cX12_repunch 18 = .ok (.if_icmp .eq 13, 3) := by decide +kernel
theorem dX12_repunch_21 : decode cX12_repunch 21 = .ok (.iload_n 3, 1) := by decide +kernel
theorem dX12_repunch_22 : decode cX12_repunch 22 = .ok (.iconst 0, 1) := by decide +kernel
theorem dX12_repunch_23 : decode cX12_repunch 23 = .ok (.bipush 9, 2) := by decide +kernel
theorem dX12_repunch_25 : decode cX12_repunch 25 = .ok (.invokestatic 64, 3) := by decide +kernel
theorem dX12_repunch_28 : decode cX12_repunch 28 = .ok (.ifCond .eq 7, 3) := by decide +kernel
theorem dX12_repunch_31 : decode cX12_repunch 31 = .ok (.iconst 1, 1) := by decide +kernel
theorem dX12_repunch_32 : decode cX12_repunch 32 = .ok (.goto 4, 3) := by decide +kernel
theorem dX12_repunch_35 : decode cX12_repunch 35 = .ok (.iconst 0, 1) := by decide +kernel
theorem dX12_repunch_36 : decode cX12_repunch 36 = .ok (.istore 4, 2) := by decide +kernel
theorem dX12_repunch_38 : decode cX12_repunch 38 = .ok (.iload 4, 2) := by decide +kernel
theorem dX12_repunch_40 : decode cX12_repunch 40 = .ok (.ifCond .eq 20, 3) := by decide +kernel
theorem dX12_repunch_43 : decode cX12_repunch 43 = .ok (.aload_n 0, 1) := by decide +kernel
theorem dX12_repunch_44 : decode cX12_repunch 44 = .ok (.bipush 20, 2) := by decide +kernel
theorem dX12_repunch_46 : decode cX12_repunch 46 = .ok (.bipush 26, 2) := by decide +kernel
theorem dX12_repunch_48 : decode cX12_repunch 48 = .ok (.iload_n 1, 1) := by decide +kernel
theorem dX12_repunch_49 : decode cX12_repunch 49 = .ok (.imul, 1) := by decide +kernel
theorem dX12_repunch_50 : decode cX12_repunch 50 = .ok (.iadd, 1) := by decide +kernel
theorem dX12_repunch_51 : decode cX12_repunch 51 = .ok (.iload_n 2, 1) := by decide +kernel
theorem dX12_repunch_52 : decode cX12_repunch 52 = .ok (.iadd, 1) := by decide +kernel
theorem dX12_repunch_53 : decode cX12_repunch 53 = .ok (.iload_n 3, 1) := by decide +kernel
theorem dX12_repunch_54 : decode cX12_repunch 54 = .ok (.invokevirtual 125, 3) := by decide +kernel
theorem dX12_repunch_57 : decode cX12_repunch 57 = .ok (.goto 5, 3) := by decide +kernel
theorem dX12_repunch_60 : decode cX12_repunch 60 = .ok (.ldc 117, 2) := by decide +kernel
theorem dX12_repunch_62 : decode cX12_repunch 62 = .ok (.ireturn, 1) := by decide +kernel
theorem dX12_mark_0 : decode cX12_mark 0 = .ok (.aload_n 0, 1) := by decide +kernel
theorem dX12_mark_1 : decode cX12_mark 1 = .ok (.iload_n 1, 1) := by decide +kernel
theorem dX12_mark_2 : decode cX12_mark 2 = .ok (.invokevirtual 140, 3) := by decide +kernel
theorem dX12_mark_5 : decode cX12_mark 5 = .ok (.ifCond .eq 19, 3) := by decide +kernel
theorem dX12_mark_8 : decode cX12_mark 8 = .ok (.iload_n 2, 1) := by decide +kernel
theorem dX12_mark_9 : decode cX12_mark 9 = .ok (.iconst 0, 1) := by decide +kernel
theorem dX12_mark_10 : decode cX12_mark 10 = .ok (.iconst 3, 1) := by decide +kernel
theorem dX12_mark_11 : decode cX12_mark 11 = .ok (.invokestatic 64, 3) := by decide +kernel
theorem dX12_mark_14 : decode cX12_mark 14 = .ok (.ifCond .eq 10, 3) := by decide +kernel
theorem dX12_mark_17 : decode cX12_mark 17 = .ok (.iload_n 3, 1) := by decide +kernel
theorem dX12_mark_18 : decode cX12_mark 18 = .ok (.invokestatic 149, 3) := by decide +kernel
theorem dX12_mark_21 : decode cX12_mark 21 = .ok (.ifCond .ne 6, 3) := by decide +kernel
theorem dX12_mark_24 : decode cX12_mark 24 = .ok (.ldc 117, 2) := by decide +kernel
theorem dX12_mark_26 : decode cX12_mark 26 = .ok (.ireturn, 1) := by decide +kernel
theorem dX12_mark_27 : decode cX12_mark 27 = .ok (.aload_n 0, 1) := by decide +kernel
theorem dX12_mark_28 : decode cX12_mark 28 = .ok (.bipush 20, 2) := by decide +kernel
theorem dX12_mark_30 : decode cX12_mark 30 = .ok (.bipush 26, 2) := by decide +kernel
theorem dX12_mark_32 : decode cX12_mark 32 = .ok (.iload_n 1, 1) := by decide +kernel
theorem dX12_mark_33 : decode cX12_mark 33 = .ok (.imul, 1) := by decide +kernel
theorem dX12_mark_34 : decode cX12_mark 34 = .ok (.iadd, 1) := by decide +kernel
theorem dX12_mark_35 : decode cX12_mark 35 = .ok (.bipush 24, 2) := by decide +kernel
theorem dX12_mark_37 : decode cX12_mark 37 = .ok (.iadd, 1) := by decide +kernel
theorem dX12_mark_38 : decode cX12_mark 38 = .ok (.iload_n 2, 1) := by decide +kernel
theorem dX12_mark_39 : decode cX12_mark 39 = .ok (.invokevirtual 125, 3) := by decide +kernel
theorem dX12_mark_42 : decode cX12_mark 42 = .ok (.istore 4, 2) := by decide +kernel
theorem dX12_mark_44 : decode cX12_mark 44 = .ok (.aload_n 0, 1) := by decide +kernel
theorem dX12_mark_45 : decode cX12_mark 45 = .ok (.getfield 7, 3) := by decide +kernel
theorem dX12_mark_48 : decode cX12_mark 48 = .ok (.bipush 20, 2) := by decide +kernel
theorem dX12_mark_50 : decode cX12_mark 50 = .ok (.bipush 26, 2) := by decide +kernel
theorem dX12_mark_52 : decode cX12_mark 52 = .ok (.iload_n 1, 1) := by decide +kernel
theorem dX12_mark_53 : decode cX12_mark 53 = .ok (.imul, 1) := by decide +kernel
theorem dX12_mark_54 : decode cX12_mark 54 = .ok (.iadd, 1) := by decide +kernel
theorem dX12_mark_55 : decode cX12_mark 55 = .ok (.bipush 25, 2) := by decide +kernel
theorem dX12_mark_57 : decode cX12_mark 57 = .ok (.iadd, 1) := by decide +kernel
theorem dX12_mark_58 : decode cX12_mark 58 = .ok (.iload_n 3, 1) := by decide +kernel
theorem dX12_mark_59 : decode cX12_mark 59 = .ok (.iastore, 1) := by decide +kernel
theorem dX12_mark_60 : decode cX12_mark 60 = .ok (.iload 4, 2) := by decide +kernel
theorem dX12_mark_62 : decode cX12_mark 62 = .ok (.ireturn, 1) := by decide +kernel
theorem dX12_beginPasses_0 : decode cX12_beginPasses 0 = .ok (.iconst 0, 1) := by decide +kernel
theorem dX12_beginPasses_1 : decode cX12_beginPasses 1 = .ok (.istore_n 1, 1) := by decide +kernel
theorem dX12_beginPasses_2 : decode cX12_beginPasses 2 = .ok (.iload_n 1, 1) := by decide +kernel
theorem dX12_beginPasses_3 : decode cX12_beginPasses 3 = .ok (.bipush 40, 2) := by decide +kernel
theorem dX12_beginPasses_5 : decode cX12_beginPasses 5 = .ok (.if_icmp .ge 16, 3) := by decide +kernel
theorem dX12_beginPasses_8 : decode cX12_beginPasses 8 = .ok (.aload_n 0, 1) := by decide +kernel
theorem dX12_beginPasses_9 : decode cX12_beginPasses 9 = .ok (.getfield 42, 3) := by decide +kernel
theorem dX12_beginPasses_12 : decode cX12_beginPasses 12 = .ok (.iload_n 1, 1) := by decide +kernel
theorem dX12_beginPasses_13 : decode cX12_beginPasses 13 = .ok (.iload_n 1, 1) := by decide +kernel
theorem dX12_beginPasses_14 : decode cX12_beginPasses 14 = .ok (.iastore, 1) := by decide +kernel
theorem dX12_beginPasses_15 : decode cX12_beginPasses 15 = .ok (.iinc 1 1, 3) := by decide +kernel
theorem dX12_beginPasses_18 : decode cX12_beginPasses 18 = .ok (.goto (-16), 3) := by decide +kernel
theorem dX12_beginPasses_21 : decode cX12_beginPasses 21 = .ok (.return_, 1) := by decide +kernel
theorem dX12_passBy_0 : decode cX12_passBy 0 = .ok (.aload_n 0, 1) := by decide +kernel
theorem dX12_passBy_1 : decode cX12_passBy 1 = .ok (.invokevirtual 143, 3) := by decide +kernel
theorem dX12_passBy_4 : decode cX12_passBy 4 = .ok (.iconst 0, 1) := by decide +kernel
theorem dX12_passBy_5 : decode cX12_passBy 5 = .ok (.istore_n 2, 1) := by decide +kernel
theorem dX12_passBy_6 : decode cX12_passBy 6 = .ok (.iload_n 2, 1) := by decide +kernel
theorem dX12_passBy_7 : decode cX12_passBy 7 = .ok (.aload_n 0, 1) := by decide +kernel
theorem dX12_passBy_8 : decode cX12_passBy 8 = .ok (.getfield 7, 3) := by decide +kernel
theorem dX12_passBy_11 : decode cX12_passBy 11 = .ok (.bipush 19, 2) := by decide +kernel
theorem dX12_passBy_13 : decode cX12_passBy 13 = .ok (.iaload, 1) := by decide +kernel
theorem dX12_passBy_14 : decode cX12_passBy 14 = .ok (.if_icmp .ge 21, 3) := by decide +kernel
theorem dX12_passBy_17 : decode cX12_passBy 17 = .ok (.aload_n 0, 1) := by decide +kernel
theorem dX12_passBy_18 : decode cX12_passBy 18 = .ok (.getfield 45, 3) := by decide +kernel
theorem dX12_passBy_21 : decode cX12_passBy 21 = .ok (.iload_n 2, 1) := by decide +kernel
theorem dX12_passBy_22 : decode cX12_passBy 22 = .ok (.aload_n 0, 1) := by decide +kernel
theorem dX12_passBy_23 : decode cX12_passBy 23 = .ok (.getfield 42, 3) := by decide +kernel
theorem dX12_passBy_26 : decode cX12_passBy 26 = .ok (.iload_n 2, 1) := by decide +kernel
theorem dX12_passBy_27 : decode cX12_passBy 27 = .ok (.iaload, 1) := by decide +kernel
theorem dX12_passBy_28 : decode cX12_passBy 28 = .ok (.iastore, 1) := by decide +kernel
theorem dX12_passBy_29 : decode cX12_passBy 29 = .ok (.iinc 2 1, 3) := by decide +kernel
theorem dX12_passBy_32 : decode cX12_passBy 32 = .ok (.goto (-26), 3) := by decide +kernel
theorem dX12_passBy_35 : decode cX12_passBy 35 = .ok (.iconst 0, 1) := by decide +kernel
theorem dX12_passBy_36 : decode cX12_passBy 36 = .ok (.istore_n 2, 1) := by decide +kernel
theorem dX12_passBy_37 : decode cX12_passBy 37 = .ok (.iconst (-1), 1) := by decide +kernel
theorem dX12_passBy_38 : decode cX12_passBy 38 = .ok (.istore_n 3, 1) := by decide +kernel
theorem dX12_passBy_39 : decode cX12_passBy 39 = .ok (.iload_n 3, 1) := by decide +kernel
theorem dX12_passBy_40 : decode cX12_passBy 40 = .ok (.bipush 10, 2) := by decide +kernel
theorem dX12_passBy_42 : decode cX12_passBy 42 = .ok (.if_icmp .ge 82, 3) := by decide +kernel
theorem dX12_passBy_45 : decode cX12_passBy 45 = .ok (.iconst 0, 1) := by decide +kernel
theorem dX12_passBy_46 : decode cX12_passBy 46 = .ok (.istore 4, 2) := by decide +kernel
theorem dX12_passBy_48 : decode cX12_passBy 48 = .ok (.iload 4, 2) := by decide +kernel
theorem dX12_passBy_50 : decode cX12_passBy 50 = .ok (.aload_n 0, 1) := by decide +kernel
theorem dX12_passBy_51 : decode cX12_passBy 51 = .ok (.getfield 7, 3) := by decide +kernel
theorem dX12_passBy_54 : decode cX12_passBy 54 = .ok (.bipush 19, 2) := by decide +kernel
theorem dX12_passBy_56 : decode cX12_passBy 56 = .ok (.iaload, 1) := by decide +kernel
theorem dX12_passBy_57 : decode cX12_passBy 57 = .ok (.if_icmp .ge 61, 3) := by decide +kernel
theorem dX12_passBy_60 : decode cX12_passBy 60 = .ok (.aload_n 0, 1) := by decide +kernel
theorem dX12_passBy_61 : decode cX12_passBy 61 = .ok (.getfield 39, 3) := by decide +kernel
theorem dX12_passBy_64 : decode cX12_passBy 64 = .ok (.bipush 26, 2) := by decide +kernel
theorem dX12_passBy_66 : decode cX12_passBy 66 = .ok (.iload 4, 2) := by decide +kernel
theorem dX12_passBy_68 : decode cX12_passBy 68 = .ok (.imul, 1) := by decide +kernel
theorem dX12_passBy_69 : decode cX12_passBy 69 = .ok (.iload_n 1, 1) := by decide +kernel
theorem dX12_passBy_70 : decode cX12_passBy 70 = .ok (.iadd, 1) := by decide +kernel
theorem dX12_passBy_71 : decode cX12_passBy 71 = .ok (.iaload, 1) := by decide +kernel
theorem dX12_passBy_72 : decode cX12_passBy 72 = .ok (.istore 5, 2) := by decide +kernel
theorem dX12_passBy_74 : decode cX12_passBy 74 = .ok (.iload 5, 2) := by decide +kernel
theorem dX12_passBy_76 : decode cX12_passBy 76 = .ok (.iload_n 3, 1) := by decide +kernel
theorem dX12_passBy_77 : decode cX12_passBy 77 = .ok (.ifCond .ge 8, 3) := by decide +kernel
theorem dX12_passBy_80 : decode cX12_passBy 80 = .ok (.ldc 22, 2) := by decide +kernel
theorem dX12_passBy_82 : decode cX12_passBy 82 = .ok (.goto 4, 3) := by decide +kernel
theorem dX12_passBy_85 : decode cX12_passBy 85 = .ok (.iload_n 3, 1) := by decide +kernel
theorem dX12_passBy_86 : decode cX12_passBy 86 = .ok (.if_icmp .ne 26, 3) := by decide +kernel
theorem dX12_passBy_89 : decode cX12_passBy 89 = .ok (.aload_n 0, 1) := by decide +kernel
theorem dX12_passBy_90 : decode cX12_passBy 90 = .ok (.iload 4, 2) := by decide +kernel
theorem dX12_passBy_92 : decode cX12_passBy 92 = .ok (.iload_n 2, 1) := by decide +kernel
theorem dX12_passBy_93 : decode cX12_passBy 93 = .ok (.invokevirtual 146, 3) := by decide +kernel
theorem dX12_passBy_96 : decode cX12_passBy 96 = .ok (.aload_n 0, 1) := by decide +kernel
theorem dX12_passBy_97 : decode cX12_passBy 97 = .ok (.getfield 42, 3) := by decide +kernel
theorem dX12_passBy_100 : decode cX12_passBy 100 = .ok (.iload_n 2, 1) := by decide +kernel
theorem dX12_passBy_101 : decode cX12_passBy 101 = .ok (.aload_n 0, 1) := by decide +kernel
theorem dX12_passBy_102 : decode cX12_passBy 102 = .ok (.getfield 45, 3) := by decide +kernel
theorem dX12_passBy_105 : decode cX12_passBy 105 = .ok (.iload 4, 2) := by decide +kernel
theorem dX12_passBy_107 : decode cX12_passBy 107 = .ok (.iaload, 1) := by decide +kernel
theorem dX12_passBy_108 : decode cX12_passBy 108 = .ok (.iastore, 1) := by decide +kernel
theorem dX12_passBy_109 : decode cX12_passBy 109 = .ok (.iinc 2 1, 3) := by decide +kernel
theorem dX12_passBy_112 : decode cX12_passBy 112 = .ok (.iinc 4 1, 3) := by decide +kernel
theorem dX12_passBy_115 : decode cX12_passBy 115 = .ok (.goto (-67), 3) := by decide +kernel
theorem dX12_passBy_118 : decode cX12_passBy 118 = .ok (.iinc 3 1, 3) := by decide +kernel
theorem dX12_passBy_121 : decode cX12_passBy 121 = .ok (.goto (-82), 3) := by decide +kernel
theorem dX12_passBy_124 : decode cX12_passBy 124 = .ok (.return_, 1) := by decide +kernel
theorem dX12_movedCards_0 : decode cX12_movedCards 0 = .ok (.iconst 0, 1) := by decide +kernel
theorem dX12_movedCards_1 : decode cX12_movedCards 1 = .ok (.istore_n 1, 1) := by decide +kernel
theorem dX12_movedCards_2 : decode cX12_movedCards 2 = .ok (.iconst 0, 1) := by decide +kernel
theorem dX12_movedCards_3 : decode cX12_movedCards 3 = .ok (.istore_n 2, 1) := by decide +kernel
theorem dX12_movedCards_4 : decode cX12_movedCards 4 = .ok (.iload_n 2, 1) := by decide +kernel
theorem dX12_movedCards_5 : decode cX12_movedCards 5 = .ok (.aload_n 0, 1) := by decide +kernel
theorem dX12_movedCards_6 : decode cX12_movedCards 6 = .ok (.getfield 7, 3) := by decide +kernel
theorem dX12_movedCards_9 : decode cX12_movedCards 9 = .ok (.bipush 19, 2) := by decide +kernel
theorem dX12_movedCards_11 : decode cX12_movedCards 11 = .ok (.iaload, 1) := by decide +kernel
theorem dX12_movedCards_12 : decode cX12_movedCards 12 = .ok (.if_icmp .ge 27, 3) := by decide +kernel
theorem dX12_movedCards_15 : decode cX12_movedCards 15 = .ok (.iload_n 1, 1) := by decide +kernel
theorem dX12_movedCards_16 : decode cX12_movedCards 16 = .ok (.aload_n 0, 1) := by decide +kernel
theorem dX12_movedCards_17 : decode cX12_movedCards 17 = .ok (.getfield 42, 3) := by decide +kernel
theorem dX12_movedCards_20 : decode cX12_movedCards 20 = .ok (.iload_n 2, 1) := by decide +kernel
theorem dX12_movedCards_21 : decode cX12_movedCards 21 = .ok (.iaload, 1) := by decide +kernel
theorem dX12_movedCards_22 : decode cX12_movedCards 22 = .ok (.iload_n 2, 1) := by decide +kernel
theorem dX12_movedCards_23 : decode cX12_movedCards 23 = .ok (.if_icmp .ne 7, 3) := by decide +kernel
theorem dX12_movedCards_26 : decode cX12_movedCards 26 = .ok (.iconst 0, 1) := by decide +kernel
theorem dX12_movedCards_27 : decode cX12_movedCards 27 = .ok (.goto 4, 3) := by decide +kernel
theorem dX12_movedCards_30 : decode cX12_movedCards 30 = .ok (.iconst 1, 1) := by decide +kernel
theorem dX12_movedCards_31 : decode cX12_movedCards 31 = .ok (.iadd, 1) := by decide +kernel
theorem dX12_movedCards_32 : decode cX12_movedCards 32 = .ok (.istore_n 1, 1) := by decide +kernel
theorem dX12_movedCards_33 : decode cX12_movedCards 33 = .ok (.iinc 2 1, 3) := by decide +kernel
theorem dX12_movedCards_36 : decode cX12_movedCards 36 = .ok (.goto (-32), 3) := by decide +kernel
theorem dX12_movedCards_39 : decode cX12_movedCards 39 = .ok (.iload_n 1, 1) := by decide +kernel
theorem dX12_movedCards_40 : decode cX12_movedCards 40 = .ok (.ireturn, 1) := by decide +kernel
theorem dX12_pass_0 : decode cX12_pass 0 = .ok (.iload_n 1, 1) := by decide +kernel
theorem dX12_pass_1 : decode cX12_pass 1 = .ok (.invokestatic 149, 3) := by decide +kernel
theorem dX12_pass_4 : decode cX12_pass 4 = .ok (.ifCond .ne 6, 3) := by decide +kernel
theorem dX12_pass_7 : decode cX12_pass 7 = .ok (.ldc 117, 2) := by decide +kernel
theorem dX12_pass_9 : decode cX12_pass 9 = .ok (.ireturn, 1) := by decide +kernel
theorem dX12_pass_10 : decode cX12_pass 10 = .ok (.aload_n 0, 1) := by decide +kernel
theorem dX12_pass_11 : decode cX12_pass 11 = .ok (.invokevirtual 118, 3) := by decide +kernel
theorem dX12_pass_14 : decode cX12_pass 14 = .ok (.aload_n 0, 1) := by decide +kernel
theorem dX12_pass_15 : decode cX12_pass 15 = .ok (.invokevirtual 152, 3) := by decide +kernel
theorem dX12_pass_18 : decode cX12_pass 18 = .ok (.aload_n 0, 1) := by decide +kernel
theorem dX12_pass_19 : decode cX12_pass 19 = .ok (.iload_n 1, 1) := by decide +kernel
theorem dX12_pass_20 : decode cX12_pass 20 = .ok (.invokevirtual 155, 3) := by decide +kernel
theorem dX12_pass_23 : decode cX12_pass 23 = .ok (.aload_n 0, 1) := by decide +kernel
theorem dX12_pass_24 : decode cX12_pass 24 = .ok (.invokevirtual 158, 3) := by decide +kernel
theorem dX12_pass_27 : decode cX12_pass 27 = .ok (.ireturn, 1) := by decide +kernel
theorem dX12_sort_0 : decode cX12_sort 0 = .ok (.iload_n 1, 1) := by decide +kernel
theorem dX12_sort_1 : decode cX12_sort 1 = .ok (.invokestatic 113, 3) := by decide +kernel
theorem dX12_sort_4 : decode cX12_sort 4 = .ok (.ifCond .ne 6, 3) := by decide +kernel
theorem dX12_sort_7 : decode cX12_sort 7 = .ok (.ldc 117, 2) := by decide +kernel
theorem dX12_sort_9 : decode cX12_sort 9 = .ok (.ireturn, 1) := by decide +kernel
theorem dX12_sort_10 : decode cX12_sort 10 = .ok (.aload_n 0, 1) := by decide +kernel
theorem dX12_sort_11 : decode cX12_sort 11 = .ok (.invokevirtual 118, 3) := by decide +kernel
theorem dX12_sort_14 : decode cX12_sort 14 = .ok (.aload_n 0, 1) := by decide +kernel
theorem dX12_sort_15 : decode cX12_sort 15 = .ok (.invokevirtual 152, 3) := by decide +kernel
theorem dX12_sort_18 : decode cX12_sort 18 = .ok (.aload_n 0, 1) := by decide +kernel
theorem dX12_sort_19 : decode cX12_sort 19 = .ok (.iload_n 1, 1) := by decide +kernel
theorem dX12_sort_20 : decode cX12_sort 20 = .ok (.invokevirtual 76, 3) := by decide +kernel
theorem dX12_sort_23 : decode cX12_sort 23 = .ok (.iconst 1, 1) := by decide +kernel
theorem dX12_sort_24 : decode cX12_sort 24 = .ok (.isub, 1) := by decide +kernel
theorem dX12_sort_25 : decode cX12_sort 25 = .ok (.istore_n 2, 1) := by decide +kernel
theorem dX12_sort_26 : decode cX12_sort 26 = .ok (.iload_n 2, 1) := by decide +kernel
theorem dX12_sort_27 : decode cX12_sort 27 = .ok (.ifCond .lt 20, 3) := by decide +kernel
theorem dX12_sort_30 : decode cX12_sort 30 = .ok (.aload_n 0, 1) := by decide +kernel
theorem dX12_sort_31 : decode cX12_sort 31 = .ok (.aload_n 0, 1) := by decide +kernel
theorem dX12_sort_32 : decode cX12_sort 32 = .ok (.iload_n 1, 1) := by decide +kernel
theorem dX12_sort_33 : decode cX12_sort 33 = .ok (.invokevirtual 80, 3) := by decide +kernel
theorem dX12_sort_36 : decode cX12_sort 36 = .ok (.iload_n 2, 1) := by decide +kernel
theorem dX12_sort_37 : decode cX12_sort 37 = .ok (.iadd, 1) := by decide +kernel
theorem dX12_sort_38 : decode cX12_sort 38 = .ok (.invokevirtual 155, 3) := by decide +kernel
theorem dX12_sort_41 : decode cX12_sort 41 = .ok (.iinc 2 (-1), 3) := by decide +kernel
theorem dX12_sort_44 : decode cX12_sort 44 = .ok (.goto (-18), 3) := by decide +kernel
theorem dX12_sort_47 : decode cX12_sort 47 = .ok (.aload_n 0, 1) := by decide +kernel
theorem dX12_sort_48 : decode cX12_sort 48 = .ok (.invokevirtual 158, 3) := by decide +kernel
theorem dX12_sort_51 : decode cX12_sort 51 = .ok (.ireturn, 1) := by decide +kernel
theorem dX12_runCards_0 : decode cX12_runCards 0 = .ok (.ldc2_w 161, 3) := by decide +kernel
theorem dX12_runCards_3 : decode cX12_runCards 3 = .ok (.lstore_n 1, 1) := by decide +kernel
theorem dX12_runCards_4 : decode cX12_runCards 4 = .ok (.iconst 0, 1) := by decide +kernel
theorem dX12_runCards_5 : decode cX12_runCards 5 = .ok (.istore_n 3, 1) := by decide +kernel
theorem dX12_runCards_6 : decode cX12_runCards 6 = .ok (.aload_n 0, 1) := by decide +kernel
theorem dX12_runCards_7 : decode cX12_runCards 7 = .ok (.getfield 7, 3) := by decide +kernel
theorem dX12_runCards_10 : decode cX12_runCards 10 = .ok (.sipush 1062, 3) := by decide +kernel
theorem dX12_runCards_13 : decode cX12_runCards 13 = .ok (.aload_n 0, 1) := by decide +kernel
theorem dX12_runCards_14 : decode cX12_runCards 14 = .ok (.getfield 7, 3) := by decide +kernel
theorem dX12_runCards_17 : decode cX12_runCards 17 = .ok (.bipush 19, 2) := by decide +kernel
theorem dX12_runCards_19 : decode cX12_runCards 19 = .ok (.iaload, 1) := by decide +kernel
theorem dX12_runCards_20 : decode cX12_runCards 20 = .ok (.iastore, 1) := by decide +kernel
theorem dX12_runCards_21 : decode cX12_runCards 21 = .ok (.aload_n 0, 1) := by decide +kernel
theorem dX12_runCards_22 : decode cX12_runCards 22 = .ok (.getfield 7, 3) := by decide +kernel
theorem dX12_runCards_25 : decode cX12_runCards 25 = .ok (.sipush 1103, 3) := by decide +kernel
theorem dX12_runCards_28 : decode cX12_runCards 28 = .ok (.iconst 0, 1) := by decide +kernel
theorem dX12_runCards_29 : decode cX12_runCards 29 = .ok (.iastore, 1) := by decide +kernel
theorem dX12_runCards_30 : decode cX12_runCards 30 = .ok (.iconst 0, 1) := by decide +kernel
theorem dX12_runCards_31 : decode cX12_runCards 31 = .ok (.istore 4, 2) := by decide +kernel
theorem dX12_runCards_33 : decode cX12_runCards 33 = .ok (.iload 4, 2) := by decide +kernel
theorem dX12_runCards_35 : decode cX12_runCards 35 = .ok (.aload_n 0, 1) := by decide +kernel
theorem dX12_runCards_36 : decode cX12_runCards 36 = .ok (.getfield 7, 3) := by decide +kernel
theorem dX12_runCards_39 : decode cX12_runCards 39 = .ok (.bipush 19, 2) := by decide +kernel
theorem dX12_runCards_41 : decode cX12_runCards 41 = .ok (.iaload, 1) := by decide +kernel
theorem dX12_runCards_42 : decode cX12_runCards 42 = .ok (.if_icmp .ge 210, 3) := by decide +kernel
theorem dX12_runCards_45 : decode cX12_runCards 45 = .ok (.iload_n 3, 1) := by decide +kernel
theorem dX12_runCards_46 : decode cX12_runCards 46 = .ok (.ifCond .eq 8, 3) := by decide +kernel
theorem dX12_runCards_49 : decode cX12_runCards 49 = .ok (.bipush 6, 2) := by decide +kernel
theorem dX12_runCards_51 : decode cX12_runCards 51 = .ok (.goto 9, 3) := by decide +kernel
theorem dX12_runCards_54 : decode cX12_runCards 54 = .ok (.aload_n 0, 1) := by decide +kernel
theorem dX12_runCards_55 : decode cX12_runCards 55 = .ok (.iload 4, 2) := by decide +kernel
theorem dX12_runCards_57 : decode cX12_runCards 57 = .ok (.invokevirtual 163, 3) := by decide +kernel
theorem dX12_runCards_60 : decode cX12_runCards 60 = .ok (.istore 5, 2) := by decide +kernel
theorem dX12_runCards_62 : decode cX12_runCards 62 = .ok (.iload 5, 2) := by decide +kernel
theorem dX12_runCards_64 : decode cX12_runCards 64 = .ok (.ifCond .ne 24, 3) := by decide +kernel
theorem dX12_runCards_67 : decode cX12_runCards 67 = .ok (.aload_n 0, 1) := by decide +kernel
theorem dX12_runCards_68 : decode cX12_runCards 68 = .ok (.iconst 0, 1) := by decide +kernel
theorem dX12_runCards_69 : decode cX12_runCards 69 = .ok (.invokevirtual 86, 3) := by decide +kernel
theorem dX12_runCards_72 : decode cX12_runCards 72 = .ok (.aload_n 0, 1) := by decide +kernel
theorem dX12_runCards_73 : decode cX12_runCards 73 = .ok (.iconst 1, 1) := by decide +kernel
theorem dX12_runCards_74 : decode cX12_runCards 74 = .ok (.invokevirtual 86, 3) := by decide +kernel
theorem dX12_runCards_77 : decode cX12_runCards 77 = .ok (.aload_n 0, 1) := by decide +kernel
theorem dX12_runCards_78 : decode cX12_runCards 78 = .ok (.iconst 2, 1) := by decide +kernel
theorem dX12_runCards_79 : decode cX12_runCards 79 = .ok (.invokevirtual 86, 3) := by decide +kernel
theorem dX12_runCards_82 : decode cX12_runCards 82 = .ok (.invokestatic 166, 3) := by decide +kernel
theorem dX12_runCards_85 : decode cX12_runCards 85 = .ok (.goto 6, 3) := by decide +kernel
theorem dX12_runCards_88 : decode cX12_runCards 88 = .ok (.ldc2_w 161, 3) := by decide +kernel
theorem dX12_runCards_91 : decode cX12_runCards 91 = .ok (.lstore 6, 2) := by decide +kernel
theorem dX12_runCards_93 : decode cX12_runCards 93 = .ok (.iload 5, 2) := by decide +kernel
theorem dX12_runCards_95 : decode cX12_runCards 95 = .ok (.ifCond .ne 56, 3) := by decide +kernel
theorem dX12_runCards_98 : decode cX12_runCards 98 = .ok (.aload_n 0, 1) := by decide +kernel
theorem dX12_runCards_99 : decode cX12_runCards 99 = .ok (.getfield 7, 3) := by decide +kernel
theorem dX12_runCards_102 : decode cX12_runCards 102 = .ok (.bipush 12, 2) := by decide +kernel
theorem dX12_runCards_104 : decode cX12_runCards 104 = .ok (.iaload, 1) := by decide +kernel
theorem dX12_runCards_105 : decode cX12_runCards 105 = .ok (.ifCond .eq 46, 3) := by decide +kernel
theorem dX12_runCards_108 : decode cX12_runCards 108 = .ok (.lload 6, 2) := by decide +kernel
theorem dX12_runCards_110 : decode cX12_runCards 110 = .ok (.lload_n 1, 1) := by decide +kernel
theorem dX12_runCards_111 : decode cX12_runCards 111 = .ok (.lcmp, 1) := by decide +kernel
theorem dX12_runCards_112 : decode cX12_runCards 112 = .ok (.ifCond .ge 39, 3) := by decide +kernel
theorem dX12_runCards_115 : decode cX12_runCards 115 = .ok (.aload_n 0, 1) := by decide +kernel
theorem dX12_runCards_116 : decode cX12_runCards 116 = .ok (.getfield 7, 3) := by decide +kernel
theorem dX12_runCards_119 : decode cX12_runCards 119 = .ok (.bipush 12, 2) := by decide +kernel
theorem dX12_runCards_121 : decode cX12_runCards 121 = .ok (.iaload, 1) := by decide +kernel
theorem dX12_runCards_122 : decode cX12_runCards 122 = .ok (.iconst 2, 1) := by decide +kernel
theorem dX12_runCards_123 : decode cX12_runCards 123 = .ok (.if_icmp .ne 8, 3) := by decide +kernel
theorem dX12_runCards_126 : decode cX12_runCards 126 = .ok (.bipush 6, 2) := by decide +kernel
theorem dX12_runCards_128 : decode cX12_runCards 128 = .ok (.goto 4, 3) := by decide +kernel
theorem dX12_runCards_131 : decode cX12_runCards 131 = .ok (.iconst 5, 1) := by decide +kernel
theorem dX12_runCards_132 : decode cX12_runCards 132 = .ok (.istore 5, 2) := by decide +kernel
theorem dX12_runCards_134 : decode cX12_runCards 134 = .ok (.aload_n 0, 1) := by decide +kernel
theorem dX12_runCards_135 : decode cX12_runCards 135 = .ok (.getfield 7, 3) := by decide +kernel
theorem dX12_runCards_138 : decode cX12_runCards 138 = .ok (.bipush 12, 2) := by decide +kernel
theorem dX12_runCards_140 : decode cX12_runCards 140 = .ok (.iaload, 1) := by decide +kernel
theorem dX12_runCards_141 : decode cX12_runCards 141 = .ok (.iconst 2, 1) := by decide +kernel
theorem dX12_runCards_142 : decode cX12_runCards 142 = .ok (.if_icmp .ne 7, 3) := by decide +kernel
theorem dX12_runCards_145 : decode cX12_runCards 145 = .ok (.iconst 1, 1) := by decide +kernel
theorem dX12_runCards_146 : decode cX12_runCards 146 = .ok (.goto 4, 3) := by decide +kernel
theorem dX12_runCards_149 : decode cX12_runCards 149 = .ok (.iconst 0, 1) := by decide +kernel
theorem dX12_runCards_150 : decode cX12_runCards 150 = .ok (.istore_n 3, 1) := by decide +kernel
theorem dX12_runCards_151 : decode cX12_runCards 151 = .ok (.iload 5, 2) := by decide +kernel
theorem dX12_runCards_153 : decode cX12_runCards 153 = .ok (.ifCond .ne 80, 3) := by decide +kernel
theorem dX12_runCards_156 : decode cX12_runCards 156 = .ok (.lload 6, 2) := by decide +kernel
theorem dX12_runCards_158 : decode cX12_runCards 158 = .ok (.lstore_n 1, 1) := by decide +kernel
theorem dX12_runCards_159 : decode cX12_runCards 159 = .ok (.sipush 1104, 3) := by decide +kernel
theorem dX12_runCards_162 : decode cX12_runCards 162 = .ok (.iconst 5, 1) := by decide +kernel
theorem dX12_runCards_163 : decode cX12_runCards 163 = .ok (.aload_n 0, 1) := by decide +kernel
theorem dX12_runCards_164 : decode cX12_runCards 164 = .ok (.getfield 7, 3) := by decide +kernel
theorem dX12_runCards_167 : decode cX12_runCards 167 = .ok (.sipush 1103, 3) := by decide +kernel
theorem dX12_runCards_170 : decode cX12_runCards 170 = .ok (.iaload, 1) := by decide +kernel
theorem dX12_runCards_171 : decode cX12_runCards 171 = .ok (.imul, 1) := by decide +kernel
theorem dX12_runCards_172 : decode cX12_runCards 172 = .ok (.iadd, 1) := by decide +kernel
theorem dX12_runCards_173 : decode cX12_runCards 173 = .ok (.istore 8, 2) := by decide +kernel
theorem dX12_runCards_175 : decode cX12_runCards 175 = .ok (.iconst 0, 1) := by decide +kernel
theorem dX12_runCards_176 : decode cX12_runCards 176 = .ok (.istore 9, 2) := by decide +kernel
theorem dX12_runCards_178 : decode cX12_runCards 178 = .ok (.iload 9, 2) := by decide +kernel
theorem dX12_runCards_180 : decode cX12_runCards 180 = .ok (.iconst 5, 1) := by decide +kernel
theorem dX12_runCards_181 : decode cX12_runCards 181 = .ok (.if_icmp .ge 25, 3) := by decide +kernel
theorem dX12_runCards_184 : decode cX12_runCards 184 = .ok (.aload_n 0, 1) := by decide +kernel
theorem dX12_runCards_185 : decode cX12_runCards 185 = .ok (.getfield 7, 3) := by decide +kernel
theorem dX12_runCards_188 : decode cX12_runCards 188 = .ok (.iload 8, 2) := by decide +kernel
theorem dX12_runCards_190 : decode cX12_runCards 190 = .ok (.iload 9, 2) := by decide +kernel
theorem dX12_runCards_192 : decode cX12_runCards 192 = .ok (.iadd, 1) := by decide +kernel
theorem dX12_runCards_193 : decode cX12_runCards 193 = .ok (.aload_n 0, 1) := by decide +kernel
theorem dX12_runCards_194 : decode cX12_runCards 194 = .ok (.iload 9, 2) := by decide +kernel
theorem dX12_runCards_196 : decode cX12_runCards 196 = .ok (.invokevirtual 86, 3) := by decide +kernel
theorem dX12_runCards_199 : decode cX12_runCards 199 = .ok (.iastore, 1) := by decide +kernel
theorem dX12_runCards_200 : decode cX12_runCards 200 = .ok (.iinc 9 1, 3) := by decide +kernel
theorem dX12_runCards_203 : decode cX12_runCards 203 = .ok (.goto (-25), 3) := by decide +kernel
theorem dX12_runCards_206 : decode cX12_runCards 206 = .ok (.aload_n 0, 1) := by decide +kernel
theorem dX12_runCards_207 : decode cX12_runCards 207 = .ok (.getfield 48, 3) := by decide +kernel
theorem dX12_runCards_210 : decode cX12_runCards 210 = .ok (.aload_n 0, 1) := by decide +kernel
theorem dX12_runCards_211 : decode cX12_runCards 211 = .ok (.getfield 7, 3) := by decide +kernel
theorem dX12_runCards_214 : decode cX12_runCards 214 = .ok (.sipush 1103, 3) := by decide +kernel
theorem dX12_runCards_217 : decode cX12_runCards 217 = .ok (.iaload, 1) := by decide +kernel
theorem dX12_runCards_218 : decode cX12_runCards 218 = .ok (.iload 4, 2) := by decide +kernel
theorem dX12_runCards_220 : decode cX12_runCards 220 = .ok (.iastore, 1) := by decide +kernel
theorem dX12_runCards_221 : decode cX12_runCards 221 = .ok (.aload_n 0, 1) := by decide +kernel
theorem dX12_runCards_222 : decode cX12_runCards 222 = .ok (.getfield 7, 3) := by decide +kernel
theorem dX12_runCards_225 : decode cX12_runCards 225 = .ok (.sipush 1103, 3) := by decide +kernel
theorem dX12_runCards_228 : decode cX12_runCards 228 = .ok (.dup2, 1) := by decide +kernel
theorem dX12_runCards_229 : decode cX12_runCards 229 = .ok (.iaload, 1) := by decide +kernel
theorem dX12_runCards_230 : decode cX12_runCards 230 = .ok (.iconst 1, 1) := by decide +kernel
theorem dX12_runCards_231 : decode cX12_runCards 231 = .ok (.iadd, 1) := by decide +kernel
theorem dX12_runCards_232 : decode cX12_runCards 232 = .ok (.iastore, 1) := by decide +kernel
theorem dX12_runCards_233 : decode cX12_runCards 233 = .ok (.aload_n 0, 1) := by decide +kernel
theorem dX12_runCards_234 : decode cX12_runCards 234 = .ok (.getfield 7, 3) := by decide +kernel
theorem dX12_runCards_237 : decode cX12_runCards 237 = .ok (.sipush 1063, 3) := by decide +kernel
theorem dX12_runCards_240 : decode cX12_runCards 240 = .ok (.iload 4, 2) := by decide +kernel
theorem dX12_runCards_242 : decode cX12_runCards 242 = .ok (.iadd, 1) := by decide +kernel
theorem dX12_runCards_243 : decode cX12_runCards 243 = .ok (.iload 5, 2) := by decide +kernel
theorem dX12_runCards_245 : decode cX12_runCards 245 = .ok (.iastore, 1) := by decide +kernel
theorem dX12_runCards_246 : decode cX12_runCards 246 = .ok (.iinc 4 1, 3) := by decide +kernel
theorem dX12_runCards_249 : decode cX12_runCards 249 = .ok (.goto (-216), 3) := by decide +kernel
theorem dX12_runCards_252 : decode cX12_runCards 252 = .ok (.return_, 1) := by decide +kernel
theorem dX12_accepted_0 : decode cX12_accepted 0 = .ok (.aload_n 0, 1) := by decide +kernel
theorem dX12_accepted_1 : decode cX12_accepted 1 = .ok (.getfield 7, 3) := by decide +kernel
theorem dX12_accepted_4 : decode cX12_accepted 4 = .ok (.sipush 1104, 3) := by decide +kernel
theorem dX12_accepted_7 : decode cX12_accepted 7 = .ok (.iconst 5, 1) := by decide +kernel
theorem dX12_accepted_8 : decode cX12_accepted 8 = .ok (.iload_n 1, 1) := by decide +kernel
theorem dX12_accepted_9 : decode cX12_accepted 9 = .ok (.imul, 1) := by decide +kernel
theorem dX12_accepted_10 : decode cX12_accepted 10 = .ok (.iadd, 1) := by decide +kernel
theorem dX12_accepted_11 : decode cX12_accepted 11 = .ok (.iload_n 2, 1) := by decide +kernel
theorem dX12_accepted_12 : decode cX12_accepted 12 = .ok (.iadd, 1) := by decide +kernel
theorem dX12_accepted_13 : decode cX12_accepted 13 = .ok (.iaload, 1) := by decide +kernel
theorem dX12_accepted_14 : decode cX12_accepted 14 = .ok (.ireturn, 1) := by decide +kernel
theorem dX12_wageOf_0 : decode cX12_wageOf 0 = .ok (.aload_n 0, 1) := by decide +kernel
theorem dX12_wageOf_1 : decode cX12_wageOf 1 = .ok (.iload_n 1, 1) := by decide +kernel
theorem dX12_wageOf_2 : decode cX12_wageOf 2 = .ok (.iconst 3, 1) := by decide +kernel
theorem dX12_wageOf_3 : decode cX12_wageOf 3 = .ok (.invokevirtual 170, 3) := by decide +kernel
theorem dX12_wageOf_6 : decode cX12_wageOf 6 = .ok (.aload_n 0, 1) := by decide +kernel
theorem dX12_wageOf_7 : decode cX12_wageOf 7 = .ok (.iload_n 1, 1) := by decide +kernel
theorem dX12_wageOf_8 : decode cX12_wageOf 8 = .ok (.iconst 4, 1) := by decide +kernel
theorem dX12_wageOf_9 : decode cX12_wageOf 9 = .ok (.invokevirtual 170, 3) := by decide +kernel
theorem dX12_wageOf_12 : decode cX12_wageOf 12 = .ok (.imul, 1) := by decide +kernel
theorem dX12_wageOf_13 : decode cX12_wageOf 13 = .ok (.bipush 10, 2) := by decide +kernel
theorem dX12_wageOf_15 : decode cX12_wageOf 15 = .ok (.idiv, 1) := by decide +kernel
theorem dX12_wageOf_16 : decode cX12_wageOf 16 = .ok (.ireturn, 1) := by decide +kernel
theorem dX12_printLine_0 : decode cX12_printLine 0 = .ok (.sipush 1305, 3) := by decide +kernel
theorem dX12_printLine_3 : decode cX12_printLine 3 = .ok (.bipush 9, 2) := by decide +kernel
theorem dX12_printLine_5 : decode cX12_printLine 5 = .ok (.aload_n 0, 1) := by decide +kernel
theorem dX12_printLine_6 : decode cX12_printLine 6 = .ok (.getfield 7, 3) := by decide +kernel
theorem dX12_printLine_9 : decode cX12_printLine 9 = .ok (.sipush 1304, 3) := by decide +kernel
theorem dX12_printLine_12 : decode cX12_printLine 12 = .ok (.iaload, 1) := by decide +kernel
theorem dX12_printLine_13 : decode cX12_printLine 13 = .ok (.imul, 1) := by decide +kernel
theorem dX12_printLine_14 : decode cX12_printLine 14 = .ok (.iadd, 1) := by decide +kernel
theorem dX12_printLine_15 : decode cX12_printLine 15 = .ok (.istore_n 3, 1) := by decide +kernel
theorem dX12_printLine_16 : decode cX12_printLine 16 = .ok (.aload_n 0, 1) := by decide +kernel
theorem dX12_printLine_17 : decode cX12_printLine 17 = .ok (.getfield 7, 3) := by decide +kernel
theorem dX12_printLine_20 : decode cX12_printLine 20 = .ok (.iload_n 3, 1) := by decide +kernel
theorem dX12_printLine_21 : decode cX12_printLine 21 = .ok (.iload_n 1, 1) := by decide +kernel
theorem dX12_printLine_22 : decode cX12_printLine 22 = .ok (.iastore, 1) := by decide +kernel
theorem dX12_printLine_23 : decode cX12_printLine 23 = .ok (.iconst 0, 1) := by decide +kernel
theorem dX12_printLine_24 : decode cX12_printLine 24 = .ok (.istore 4, 2) := by decide +kernel
theorem dX12_printLine_26 : decode cX12_printLine 26 = .ok (.iload 4, 2) := by decide +kernel
theorem dX12_printLine_28 : decode cX12_printLine 28 = .ok (.iconst 3, 1) := by decide +kernel
theorem dX12_printLine_29 : decode cX12_printLine 29 = .ok (.if_icmp .ge 58, 3) := by decide +kernel
theorem dX12_printLine_32 : decode cX12_printLine 32 = .ok (.aload_n 0, 1) := by decide +kernel
theorem dX12_printLine_33 : decode cX12_printLine 33 = .ok (.getfield 7, 3) := by decide +kernel
theorem dX12_printLine_36 : decode cX12_printLine 36 = .ok (.iload_n 3, 1) := by decide +kernel
theorem dX12_printLine_37 : decode cX12_printLine 37 = .ok (.iconst 1, 1) := by decide +kernel
theorem dX12_printLine_38 : decode cX12_printLine 38 = .ok (.iadd, 1) := by decide +kernel
theorem dX12_printLine_39 : decode cX12_printLine 39 = .ok (.iload 4, 2) := by decide +kernel
theorem dX12_printLine_41 : decode cX12_printLine 41 = .ok (.iadd, 1) := by decide +kernel
theorem dX12_printLine_42 : decode cX12_printLine 42 = .ok (.iload_n 1, 1) := by decide +kernel
theorem dX12_printLine_43 : decode cX12_printLine 43 = .ok (.iconst 4, 1) := by decide +kernel
theorem dX12_printLine_44 : decode cX12_printLine 44 = .ok (.if_icmp .eq 24, 3) := by decide +kernel
theorem dX12_printLine_47 : decode cX12_printLine 47 = .ok (.iload 4, 2) := by decide +kernel
theorem dX12_printLine_49 : decode cX12_printLine 49 = .ok (.ifCond .le 8, 3) := by decide +kernel
theorem dX12_printLine_52 : decode cX12_printLine 52 = .ok (.iload_n 1, 1) := by decide +kernel
theorem dX12_printLine_53 : decode cX12_printLine 53 = .ok (.iconst 3, 1) := by decide +kernel
theorem dX12_printLine_54 : decode cX12_printLine 54 = .ok (.if_icmp .eq 14, 3) := by decide +kernel
theorem dX12_printLine_57 : decode cX12_printLine 57 = .ok (.iload 4, 2) := by decide +kernel
theorem dX12_printLine_59 : decode cX12_printLine 59 = .ok (.iconst 1, 1) := by decide +kernel
theorem dX12_printLine_60 : decode cX12_printLine 60 = .ok (.if_icmp .le 13, 3) := by decide +kernel
theorem dX12_printLine_63 : decode cX12_printLine 63 = .ok (.iload_n 1, 1) := by decide +kernel
theorem dX12_printLine_64 : decode cX12_printLine 64 = .ok (.iconst 2, 1) := by decide +kernel
theorem dX12_printLine_65 : decode cX12_printLine 65 = .ok (.if_icmp .ne 8, 3) := by decide +kernel
theorem dX12_printLine_68 : decode cX12_printLine 68 = .ok (.ldc 22, 2) := by decide +kernel
theorem dX12_printLine_70 : decode cX12_printLine 70 = .ok (.goto 10, 3) := by decide +kernel
theorem dX12_printLine_73 : decode cX12_printLine 73 = .ok (.aload_n 0, 1) := by decide +kernel
theorem dX12_printLine_74 : decode cX12_printLine 74 = .ok (.iload_n 2, 1) := by decide +kernel
theorem dX12_printLine_75 : decode cX12_printLine 75 = .ok (.iload 4, 2) := by decide +kernel
theorem dX12_printLine_77 : decode cX12_printLine 77 = .ok (.invokevirtual 170, 3) := by decide +kernel
theorem dX12_printLine_80 : decode cX12_printLine 80 = .ok (.iastore, 1) := by decide +kernel
theorem dX12_printLine_81 : decode cX12_printLine 81 = .ok (.iinc 4 1, 3) := by decide +kernel
theorem dX12_printLine_84 : decode cX12_printLine 84 = .ok (.goto (-58), 3) := by decide +kernel
theorem dX12_printLine_87 : decode cX12_printLine 87 = .ok (.aload_n 0, 1) := by decide +kernel
theorem dX12_printLine_88 : decode cX12_printLine 88 = .ok (.getfield 7, 3) := by decide +kernel
theorem dX12_printLine_91 : decode cX12_printLine 91 = .ok (.sipush 1304, 3) := by decide +kernel
theorem dX12_printLine_94 : decode cX12_printLine 94 = .ok (.dup2, 1) := by decide +kernel
theorem dX12_printLine_95 : decode cX12_printLine 95 = .ok (.iaload, 1) := by decide +kernel
theorem dX12_printLine_96 : decode cX12_printLine 96 = .ok (.iconst 1, 1) := by decide +kernel
theorem dX12_printLine_97 : decode cX12_printLine 97 = .ok (.iadd, 1) := by decide +kernel
theorem dX12_printLine_98 : decode cX12_printLine 98 = .ok (.iastore, 1) := by decide +kernel
theorem dX12_printLine_99 : decode cX12_printLine 99 = .ok (.return_, 1) := by decide +kernel
theorem dX12_fill_0 : decode cX12_fill 0 = .ok (.sipush 1305, 3) := by decide +kernel
theorem dX12_fill_3 : decode cX12_fill 3 = .ok (.bipush 9, 2) := by decide +kernel
theorem dX12_fill_5 : decode cX12_fill 5 = .ok (.aload_n 0, 1) := by decide +kernel
theorem dX12_fill_6 : decode cX12_fill 6 = .ok (.getfield 7, 3) := by decide +kernel
theorem dX12_fill_9 : decode cX12_fill 9 = .ok (.sipush 1304, 3) := by decide +kernel
theorem dX12_fill_12 : decode cX12_fill 12 = .ok (.iaload, 1) := by decide +kernel
theorem dX12_fill_13 : decode cX12_fill 13 = .ok (.iconst 1, 1) := by decide +kernel
theorem dX12_fill_14 : decode cX12_fill 14 = .ok (.isub, 1) := by decide +kernel
theorem dX12_fill_15 : decode cX12_fill 15 = .ok (.imul, 1) := by decide +kernel
theorem dX12_fill_16 : decode cX12_fill 16 = .ok (.iadd, 1) := by decide +kernel
theorem dX12_fill_17 : decode cX12_fill 17 = .ok (.istore 6, 2) := by decide +kernel
theorem dX12_fill_19 : decode cX12_fill 19 = .ok (.aload_n 0, 1) := by decide +kernel
theorem dX12_fill_20 : decode cX12_fill 20 = .ok (.getfield 7, 3) := by decide +kernel
theorem dX12_fill_23 : decode cX12_fill 23 = .ok (.iload 6, 2) := by decide +kernel
theorem dX12_fill_25 : decode cX12_fill 25 = .ok (.iconst 4, 1) := by decide +kernel
theorem dX12_fill_26 : decode cX12_fill 26 = .ok (.iadd, 1) := by decide +kernel
theorem dX12_fill_27 : decode cX12_fill 27 = .ok (.iload_n 1, 1) := by decide +kernel
theorem dX12_fill_28 : decode cX12_fill 28 = .ok (.iastore, 1) := by decide +kernel
theorem dX12_fill_29 : decode cX12_fill 29 = .ok (.aload_n 0, 1) := by decide +kernel
theorem dX12_fill_30 : decode cX12_fill 30 = .ok (.getfield 7, 3) := by decide +kernel
theorem dX12_fill_33 : decode cX12_fill 33 = .ok (.iload 6, 2) := by decide +kernel
theorem dX12_fill_35 : decode cX12_fill 35 = .ok (.iconst 5, 1) := by decide +kernel
theorem dX12_fill_36 : decode cX12_fill 36 = .ok (.iadd, 1) := by decide +kernel
theorem dX12_fill_37 : decode cX12_fill 37 = .ok (.iload_n 2, 1) := by decide +kernel
theorem dX12_fill_38 : decode cX12_fill 38 = .ok (.iastore, 1) := by decide +kernel
theorem dX12_fill_39 : decode cX12_fill 39 = .ok (.aload_n 0, 1) := by decide +kernel
theorem dX12_fill_40 : decode cX12_fill 40 = .ok (.getfield 7, 3) := by decide +kernel
theorem dX12_fill_43 : decode cX12_fill 43 = .ok (.iload 6, 2) := by decide +kernel
theorem dX12_fill_45 : decode cX12_fill 45 = .ok (.bipush 6, 2) := by decide +kernel
theorem dX12_fill_47 : decode cX12_fill 47 = .ok (.iadd, 1) := by decide +kernel
theorem dX12_fill_48 : decode cX12_fill 48 = .ok (.iload_n 3, 1) := by decide +kernel
theorem dX12_fill_49 : decode cX12_fill 49 = .ok (.iastore, 1) := by decide +kernel
theorem dX12_fill_50 : decode cX12_fill 50 = .ok (.aload_n 0, 1) := by decide +kernel
theorem dX12_fill_51 : decode cX12_fill 51 = .ok (.getfield 7, 3) := by decide +kernel
theorem dX12_fill_54 : decode cX12_fill 54 = .ok (.iload 6, 2) := by decide +kernel
theorem dX12_fill_56 : decode cX12_fill 56 = .ok (.bipush 7, 2) := by decide +kernel
theorem dX12_fill_58 : decode cX12_fill 58 = .ok (.iadd, 1) := by decide +kernel
theorem dX12_fill_59 : decode cX12_fill 59 = .ok (.iload 4, 2) := by decide +kernel
theorem dX12_fill_61 : decode cX12_fill 61 = .ok (.iastore, 1) := by decide +kernel
theorem dX12_fill_62 : decode cX12_fill 62 = .ok (.aload_n 0, 1) := by decide +kernel
theorem dX12_fill_63 : decode cX12_fill 63 = .ok (.getfield 7, 3) := by decide +kernel
theorem dX12_fill_66 : decode cX12_fill 66 = .ok (.iload 6, 2) := by decide +kernel
theorem dX12_fill_68 : decode cX12_fill 68 = .ok (.bipush 8, 2) := by decide +kernel
theorem dX12_fill_70 : decode cX12_fill 70 = .ok (.iadd, 1) := by decide +kernel
theorem dX12_fill_71 : decode cX12_fill 71 = .ok (.iload 5, 2) := by decide +kernel
theorem dX12_fill_73 : decode cX12_fill 73 = .ok (.iastore, 1) := by decide +kernel
theorem dX12_fill_74 : decode cX12_fill 74 = .ok (.return_, 1) := by decide +kernel
theorem dX12_overtime_0 : decode cX12_overtime 0 = .ok (.iload_n 0, 1) := by decide +kernel
theorem dX12_overtime_1 : decode cX12_overtime 1 = .ok (.iload_n 1, 1) := by decide +kernel
theorem dX12_overtime_2 : decode cX12_overtime 2 = .ok (.if_icmp .le 18, 3) := by decide +kernel
theorem dX12_overtime_5 : decode cX12_overtime 5 = .ok (.iload_n 0, 1) := by decide +kernel
theorem dX12_overtime_6 : decode cX12_overtime 6 = .ok (.iload_n 1, 1) := by decide +kernel
theorem dX12_overtime_7 : decode cX12_overtime 7 = .ok (.isub, 1) := by decide +kernel
theorem dX12_overtime_8 : decode cX12_overtime 8 = .ok (.i2l, 1) := by decide +kernel
theorem dX12_overtime_9 : decode cX12_overtime 9 = .ok (.iload_n 2, 1) := by decide +kernel
theorem dX12_overtime_10 : decode cX12_overtime 10 = .ok (.i2l, 1) := by decide +kernel
theorem dX12_overtime_11 : decode cX12_overtime 11 = .ok (.lmul, 1) := by decide +kernel
theorem dX12_overtime_12 : decode cX12_overtime 12 = .ok (.ldc2_w 173, 3) := by decide +kernel
theorem dX12_overtime_15 : decode cX12_overtime 15 = .ok (.ldiv, 1) := by decide +kernel
theorem dX12_overtime_16 : decode cX12_overtime 16 = .ok (.l2i, 1) := by decide +kernel
theorem dX12_overtime_17 : decode cX12_overtime 17 = .ok (.goto 4, 3) := by decide +kernel
theorem dX12_overtime_20 : decode cX12_overtime 20 = .ok (.iconst 0, 1) := by decide +kernel
theorem dX12_overtime_21 : decode cX12_overtime 21 = .ok (.ireturn, 1) := by decide +kernel
theorem dX12_breakLevel_0 : decode cX12_breakLevel 0 = .ok (.iload_n 1, 1) := by decide +kernel
theorem dX12_breakLevel_1 : decode cX12_breakLevel 1 = .ok (.ifCond .ne 72, 3) := by decide +kernel
theorem dX12_breakLevel_4 : decode cX12_breakLevel 4 = .ok (.aload_n 0, 1) := by decide +kernel
theorem dX12_breakLevel_5 : decode cX12_breakLevel 5 = .ok (.getfield 51, 3) := by decide +kernel
theorem dX12_breakLevel_8 : decode cX12_breakLevel 8 = .ok (.iconst 1, 1) := by decide +kernel
theorem dX12_breakLevel_9 : decode cX12_breakLevel 9 = .ok (.iaload, 1) := by decide +kernel
theorem dX12_breakLevel_10 : decode cX12_breakLevel 10 = .ok (.aload_n 0, 1) := by decide +kernel
theorem dX12_breakLevel_11 : decode cX12_breakLevel 11 = .ok (.getfield 7, 3) := by decide +kernel
theorem dX12_breakLevel_14 : decode cX12_breakLevel 14 = .ok (.sipush 1061, 3) := by decide +kernel
theorem dX12_breakLevel_17 : decode cX12_breakLevel 17 = .ok (.iaload, 1) := by decide +kernel
theorem dX12_breakLevel_18 : decode cX12_breakLevel 18 = .ok (.aload_n 0, 1) := by decide +kernel
theorem dX12_breakLevel_19 : decode cX12_breakLevel 19 = .ok (.iload_n 2, 1) := by decide +kernel
theorem dX12_breakLevel_20 : decode cX12_breakLevel 20 = .ok (.iconst 4, 1) := by decide +kernel
theorem dX12_breakLevel_21 : decode cX12_breakLevel 21 = .ok (.invokevirtual 170, 3) := by decide +kernel
theorem dX12_breakLevel_24 : decode cX12_breakLevel 24 = .ok (.invokestatic 175, 3) := by decide +kernel
theorem dX12_breakLevel_27 : decode cX12_breakLevel 27 = .ok (.istore_n 3, 1) := by decide +kernel
theorem dX12_breakLevel_28 : decode cX12_breakLevel 28 = .ok (.iconst 0, 1) := by decide +kernel
theorem dX12_breakLevel_29 : decode cX12_breakLevel 29 = .ok (.istore 4, 2) := by decide +kernel
theorem dX12_breakLevel_31 : decode cX12_breakLevel 31 = .ok (.iload 4, 2) := by decide +kernel
theorem dX12_breakLevel_33 : decode cX12_breakLevel 33 = .ok (.iconst 4, 1) := by decide +kernel
theorem dX12_breakLevel_34 : decode cX12_breakLevel 34 = .ok (.if_icmp .ge 39, 3) := by decide +kernel
theorem dX12_breakLevel_37 : decode cX12_breakLevel 37 = .ok (.aload_n 0, 1) := by decide +kernel
theorem dX12_breakLevel_38 : decode cX12_breakLevel 38 = .ok (.getfield 51, 3) := by decide +kernel
theorem dX12_breakLevel_41 : decode cX12_breakLevel 41 = .ok (.iconst 4, 1) := by decide +kernel
theorem dX12_breakLevel_42 : decode cX12_breakLevel 42 = .ok (.iload 4, 2) := by decide +kernel
theorem dX12_breakLevel_44 : decode cX12_breakLevel 44 = .ok (.imul, 1) := by decide +kernel
theorem dX12_breakLevel_45 : decode cX12_breakLevel 45 = .ok (.iconst 2, 1) := by decide +kernel
theorem dX12_breakLevel_46 : decode cX12_breakLevel 46 = .ok (.iadd, 1) := by decide +kernel
theorem dX12_breakLevel_47 : decode cX12_breakLevel 47 = .ok (.dup2, 1) := by decide +kernel
theorem dX12_breakLevel_48 : decode cX12_breakLevel 48 = .ok (.iaload, 1) := by decide +kernel
theorem dX12_breakLevel_49 : decode cX12_breakLevel 49 = .ok (.iload_n 3, 1) := by decide +kernel
theorem dX12_breakLevel_50 : decode cX12_breakLevel 50 = .ok (.iadd, 1) := by decide +kernel
theorem dX12_breakLevel_51 : decode cX12_breakLevel 51 = .ok (.iastore, 1) := by decide +kernel
theorem dX12_breakLevel_52 : decode cX12_breakLevel 52 = .ok (.aload_n 0, 1) := by decide +kernel
theorem dX12_breakLevel_53 : decode cX12_breakLevel 53 = .ok (.getfield 51, 3) := by decide +kernel
theorem dX12_breakLevel_56 : decode cX12_breakLevel 56 = .ok (.iconst 4, 1) := by decide +kernel
theorem dX12_breakLevel_57 : decode cX12_breakLevel 57 = .ok (.iload 4, 2) := by decide +kernel
theorem dX12_breakLevel_59 : decode cX12_breakLevel 59 = .ok (.imul, 1) := by decide +kernel
theorem dX12_breakLevel_60 : decode cX12_breakLevel 60 = .ok (.iconst 3, 1) := by decide +kernel
theorem dX12_breakLevel_61 : decode cX12_breakLevel 61 = .ok (.iadd, 1) := by decide +kernel
theorem dX12_breakLevel_62 : decode cX12_breakLevel 62 = .ok (.dup2, 1) := by decide +kernel
theorem dX12_breakLevel_63 : decode cX12_breakLevel 63 = .ok (.iaload, 1) := by decide +kernel
theorem dX12_breakLevel_64 : decode cX12_breakLevel 64 = .ok (.iload_n 3, 1) := by decide +kernel
theorem dX12_breakLevel_65 : decode cX12_breakLevel 65 = .ok (.iadd, 1) := by decide +kernel
theorem dX12_breakLevel_66 : decode cX12_breakLevel 66 = .ok (.iastore, 1) := by decide +kernel
theorem dX12_breakLevel_67 : decode cX12_breakLevel 67 = .ok (.iinc 4 1, 3) := by decide +kernel
theorem dX12_breakLevel_70 : decode cX12_breakLevel 70 = .ok (.goto (-39), 3) := by decide +kernel
theorem dX12_breakLevel_73 : decode cX12_breakLevel 73 = .ok (.aload_n 0, 1) := by decide +kernel
theorem dX12_breakLevel_74 : decode cX12_breakLevel 74 = .ok (.iload_n 1, 1) := by decide +kernel
theorem dX12_breakLevel_75 : decode cX12_breakLevel 75 = .ok (.iconst 1, 1) := by decide +kernel
theorem dX12_breakLevel_76 : decode cX12_breakLevel 76 = .ok (.iadd, 1) := by decide +kernel
theorem dX12_breakLevel_77 : decode cX12_breakLevel 77 = .ok (.iload_n 2, 1) := by decide +kernel
theorem dX12_breakLevel_78 : decode cX12_breakLevel 78 = .ok (.invokevirtual 179, 3) := by decide +kernel
theorem dX12_breakLevel_81 : decode cX12_breakLevel 81 = .ok (.aload_n 0, 1) := by decide +kernel
theorem dX12_breakLevel_82 : decode cX12_breakLevel 82 = .ok (.aload_n 0, 1) := by decide +kernel
theorem dX12_breakLevel_83 : decode cX12_breakLevel 83 = .ok (.getfield 51, 3) := by decide +kernel
theorem dX12_breakLevel_86 : decode cX12_breakLevel 86 = .ok (.iconst 4, 1) := by decide +kernel
theorem dX12_breakLevel_87 : decode cX12_breakLevel 87 = .ok (.iload_n 1, 1) := by decide +kernel
theorem dX12_breakLevel_88 : decode cX12_breakLevel 88 = .ok (.imul, 1) := by decide +kernel
theorem dX12_breakLevel_89 : decode cX12_breakLevel 89 = .ok (.iaload, 1) := by decide +kernel
theorem dX12_breakLevel_90 : decode cX12_breakLevel 90 = .ok (.aload_n 0, 1) := by decide +kernel
theorem dX12_breakLevel_91 : decode cX12_breakLevel 91 = .ok (.getfield 51, 3) := by decide +kernel
theorem dX12_breakLevel_94 : decode cX12_breakLevel 94 = .ok (.iconst 4, 1) := by decide +kernel
theorem dX12_breakLevel_95 : decode cX12_breakLevel 95 = .ok (.iload_n 1, 1) := by decide +kernel
theorem dX12_breakLevel_96 : decode cX12_breakLevel 96 = .ok (.imul, 1) := by decide +kernel
theorem dX12_breakLevel_97 : decode cX12_breakLevel 97 = .ok (.iconst 1, 1) := by decide +kernel
theorem dX12_breakLevel_98 : decode cX12_breakLevel 98 = .ok (.iadd, 1) := by decide +kernel
theorem dX12_breakLevel_99 : decode cX12_breakLevel 99 = .ok (.iaload, 1) := by decide +kernel
theorem dX12_breakLevel_100 : decode cX12_breakLevel 100 = .ok (.aload_n 0, 1) := by decide +kernel
theorem dX12_breakLevel_101 : decode cX12_breakLevel 101 = .ok (.getfield 51, 3) := by decide +kernel
theorem dX12_breakLevel_104 : decode cX12_breakLevel 104 = .ok (.iconst 4, 1) := by decide +kernel
theorem dX12_breakLevel_105 : decode cX12_breakLevel 105 = .ok (.iload_n 1, 1) := by decide +kernel
theorem dX12_breakLevel_106 : decode cX12_breakLevel 106 = .ok (.imul, 1) := by decide +kernel
theorem dX12_breakLevel_107 : decode cX12_breakLevel 107 = .ok (.iconst 2, 1) := by decide +kernel
theorem dX12_breakLevel_108 : decode cX12_breakLevel 108 = .ok (.iadd, 1) := by decide +kernel
theorem dX12_breakLevel_109 : decode cX12_breakLevel 109 = .ok (.iaload, 1) := by decide +kernel
theorem dX12_breakLevel_110 : decode cX12_breakLevel 110 = .ok (.aload_n 0, 1) := by decide +kernel
theorem dX12_breakLevel_111 : decode cX12_breakLevel 111 = .ok (.getfield 51, 3) := by decide +kernel
theorem dX12_breakLevel_114 : decode cX12_breakLevel 114 = .ok (.iconst 4, 1) := by decide +kernel
theorem dX12_breakLevel_115 : decode cX12_breakLevel 115 = .ok (.iload_n 1, 1) := by decide +kernel
theorem dX12_breakLevel_116 : decode cX12_breakLevel 116 = .ok (.imul, 1) := by decide +kernel
theorem dX12_breakLevel_117 : decode cX12_breakLevel 117 = .ok (.iconst 3, 1) := by decide +kernel
theorem dX12_breakLevel_118 : decode cX12_breakLevel 118 = .ok (.iadd, 1) := by decide +kernel
theorem dX12_breakLevel_119 : decode cX12_breakLevel 119 = .ok (.iaload, 1) := by decide +kernel
theorem dX12_breakLevel_120 : decode cX12_breakLevel 120 = .ok (.ldc 22, 2) := by decide +kernel
theorem dX12_breakLevel_122 : decode cX12_breakLevel 122 = .ok (.invokevirtual 182, 3) := by decide +kernel
theorem dX12_breakLevel_125 : decode cX12_breakLevel 125 = .ok (.iconst 0, 1) := by decide +kernel
theorem dX12_breakLevel_126 : decode cX12_breakLevel 126 = .ok (.istore_n 3, 1) := by decide +kernel
theorem dX12_breakLevel_127 : decode cX12_breakLevel 127 = .ok (.iload_n 3, 1) := by decide +kernel
theorem dX12_breakLevel_128 : decode cX12_breakLevel 128 = .ok (.iconst 4, 1) := by decide +kernel
theorem dX12_breakLevel_129 : decode cX12_breakLevel 129 = .ok (.if_icmp .ge 20, 3) := by decide +kernel
theorem dX12_breakLevel_132 : decode cX12_breakLevel 132 = .ok (.aload_n 0, 1) := by decide +kernel
theorem dX12_breakLevel_133 : decode cX12_breakLevel 133 = .ok (.getfield 51, 3) := by decide +kernel
theorem dX12_breakLevel_136 : decode cX12_breakLevel 136 = .ok (.iconst 4, 1) := by decide +kernel
theorem dX12_breakLevel_137 : decode cX12_breakLevel 137 = .ok (.iload_n 1, 1) := by decide +kernel
theorem dX12_breakLevel_138 : decode cX12_breakLevel 138 = .ok (.imul, 1) := by decide +kernel
theorem dX12_breakLevel_139 : decode cX12_breakLevel 139 = .ok (.iload_n 3, 1) := by decide +kernel
theorem dX12_breakLevel_140 : decode cX12_breakLevel 140 = .ok (.iadd, 1) := by decide +kernel
theorem dX12_breakLevel_141 : decode cX12_breakLevel 141 = .ok (.iconst 0, 1) := by decide +kernel
theorem dX12_breakLevel_142 : decode cX12_breakLevel 142 = .ok (.iastore, 1) := by decide +kernel
theorem dX12_breakLevel_143 : decode cX12_breakLevel 143 = .ok (.iinc 3 1, 3) := by decide +kernel
theorem dX12_breakLevel_146 : decode cX12_breakLevel 146 = .ok (.goto (-19), 3) := by decide +kernel
theorem dX12_breakLevel_149 : decode cX12_breakLevel 149 = .ok (.return_, 1) := by decide +kernel
theorem dX12_breaks_0 : decode cX12_breaks 0 = .ok (.iconst 0, 1) := by decide +kernel
theorem dX12_breaks_1 : decode cX12_breaks 1 = .ok (.istore_n 3, 1) := by decide +kernel
theorem dX12_breaks_2 : decode cX12_breaks 2 = .ok (.iload_n 3, 1) := by decide +kernel
theorem dX12_breaks_3 : decode cX12_breaks 3 = .ok (.iload_n 1, 1) := by decide +kernel
theorem dX12_breaks_4 : decode cX12_breaks 4 = .ok (.if_icmp .gt 15, 3) := by decide +kernel
theorem dX12_breaks_7 : decode cX12_breaks 7 = .ok (.aload_n 0, 1) := by decide +kernel
theorem dX12_breaks_8 : decode cX12_breaks 8 = .ok (.iload_n 3, 1) := by decide +kernel
theorem dX12_breaks_9 : decode cX12_breaks 9 = .ok (.iload_n 2, 1) := by decide +kernel
theorem dX12_breaks_10 : decode cX12_breaks 10 = .ok (.invokevirtual 186, 3) := by decide +kernel
theorem dX12_breaks_13 : decode cX12_breaks 13 = .ok (.iinc 3 1, 3) := by decide +kernel
theorem dX12_breaks_16 : decode cX12_breaks 16 = .ok (.goto (-14), 3) := by decide +kernel
theorem dX12_breaks_19 : decode cX12_breaks 19 = .ok (.return_, 1) := by decide +kernel
theorem dX12_printReport_0 : decode cX12_printReport 0 = .ok (.aload_n 0, 1) := by decide +kernel
theorem dX12_printReport_1 : decode cX12_printReport 1 = .ok (.getfield 7, 3) := by decide +kernel
theorem dX12_printReport_4 : decode cX12_printReport 4 = .ok (.sipush 1304, 3) := by decide +kernel
theorem dX12_printReport_7 : decode cX12_printReport 7 = .ok (.iconst 0, 1) := by decide +kernel
theorem dX12_printReport_8 : decode cX12_printReport 8 = .ok (.iastore, 1) := by decide +kernel
theorem dX12_printReport_9 : decode cX12_printReport 9 = .ok (.iconst 0, 1) := by decide +kernel
theorem dX12_printReport_10 : decode cX12_printReport 10 = .ok (.istore_n 1, 1) := by decide +kernel
theorem dX12_printReport_11 : decode cX12_printReport 11 = .ok (.iload_n 1, 1) := by decide +kernel
theorem dX12_printReport_12 : decode cX12_printReport 12 = .ok (.bipush 16, 2) := by decide +kernel
theorem dX12_printReport_14 : decode cX12_printReport 14 = .ok (.if_icmp .ge 16, 3) := by decide +kernel
theorem dX12_printReport_17 : decode cX12_printReport 17 = .ok (.aload_n 0, 1) := by decide +kernel
theorem dX12_printReport_18 : decode cX12_printReport 18 = .ok (.getfield 51, 3) := by decide +kernel
theorem dX12_printReport_21 : decode cX12_printReport 21 = .ok (.iload_n 1, 1) := by decide +kernel
theorem dX12_printReport_22 : decode cX12_printReport 22 = .ok (.iconst 0, 1) := by decide +kernel
theorem dX12_printReport_23 : decode cX12_printReport 23 = .ok (.iastore, 1) := by decide +kernel
theorem dX12_printReport_24 : decode cX12_printReport 24 = .ok (.iinc 1 1, 3) := by decide +kernel
theorem dX12_printReport_27 : decode cX12_printReport 27 = .ok (.goto (-16), 3) := by decide +kernel
theorem dX12_printReport_30 : decode cX12_printReport 30 = .ok (.iconst 0, 1) := by decide +kernel
theorem dX12_printReport_31 : decode cX12_printReport 31 = .ok (.istore_n 1, 1) := by decide +kernel
theorem dX12_printReport_32 : decode cX12_printReport 32 = .ok (.iload_n 1, 1) := by decide +kernel
theorem dX12_printReport_33 : decode cX12_printReport 33 = .ok (.aload_n 0, 1) := by decide +kernel
theorem dX12_printReport_34 : decode cX12_printReport 34 = .ok (.getfield 7, 3) := by decide +kernel
theorem dX12_printReport_37 : decode cX12_printReport 37 = .ok (.sipush 1103, 3) := by decide +kernel
theorem dX12_printReport_40 : decode cX12_printReport 40 = .ok (.iaload, 1) := by decide +kernel
theorem dX12_printReport_41 : decode cX12_printReport 41 = .ok (.if_icmp .ge 207, 3) := by decide +kernel
theorem dX12_printReport_44 : decode cX12_printReport 44 = .ok (.iload_n 1, 1) := by decide +kernel
theorem dX12_printReport_45 : decode cX12_printReport 45 = .ok (.ifCond .le 106, 3) := by decide +kernel
theorem dX12_printReport_48 : decode cX12_printReport 48 = .ok (.aload_n 0, 1) := by decide +kernel
theorem dX12_printReport_49 : decode cX12_printReport 49 = .ok (.iload_n 1, 1) := by decide +kernel
theorem dX12_printReport_50 : decode cX12_printReport 50 = .ok (.iconst 0, 1) := by decide +kernel
theorem dX12_printReport_51 : decode cX12_printReport 51 = .ok (.invokevirtual 170, 3) := by decide +kernel
theorem dX12_printReport_54 : decode cX12_printReport 54 = .ok (.aload_n 0, 1) := by decide +kernel
theorem dX12_printReport_55 : decode cX12_printReport 55 = .ok (.iload_n 1, 1) := by decide +kernel
theorem dX12_printReport_56 : decode cX12_printReport 56 = .ok (.iconst 1, 1) := by decide +kernel
theorem dX12_printReport_57 : decode cX12_printReport 57 = .ok (.isub, 1) := by decide +kernel
theorem dX12_printReport_58 : decode cX12_printReport 58 = .ok (.iconst 0, 1) := by decide +kernel
theorem dX12_printReport_59 : decode cX12_printReport 59 = .ok (.invokevirtual 170, 3) := by decide +kernel
theorem dX12_printReport_62 : decode cX12_printReport 62 = .ok (.if_icmp .eq 7, 3) := by decide +kernel
theorem dX12_printReport_65 : decode cX12_printReport 65 = .ok (.iconst 1, 1) := by decide +kernel
theorem dX12_printReport_66 : decode cX12_printReport 66 = .ok (.goto 4, 3) := by decide +kernel
theorem dX12_printReport_69 : decode cX12_printReport 69 = .ok (.iconst 0, 1) := by decide +kernel
theorem dX12_printReport_70 : decode cX12_printReport 70 = .ok (.istore_n 2, 1) := by decide +kernel
theorem dX12_printReport_71 : decode cX12_printReport 71 = .ok (.aload_n 0, 1) := by decide +kernel
theorem dX12_printReport_72 : decode cX12_printReport 72 = .ok (.iload_n 1, 1) := by decide +kernel
theorem dX12_printReport_73 : decode cX12_printReport 73 = .ok (.iconst 1, 1) := by decide +kernel
theorem dX12_printReport_74 : decode cX12_printReport 74 = .ok (.invokevirtual 170, 3) := by decide +kernel
theorem dX12_printReport_77 : decode cX12_printReport 77 = .ok (.aload_n 0, 1) := by decide +kernel
theorem dX12_printReport_78 : decode cX12_printReport 78 = .ok (.iload_n 1, 1) := by decide +kernel
theorem dX12_printReport_79 : decode cX12_printReport 79 = .ok (.iconst 1, 1) := by decide +kernel
theorem dX12_printReport_80 : decode cX12_printReport 80 = .ok (.isub, 1) := by decide +kernel
theorem dX12_printReport_81 : decode cX12_printReport 81 = .ok (.iconst 1, 1) := by decide +kernel
theorem dX12_printReport_82 : decode cX12_printReport 82 = .ok (.invokevirtual 170, 3) := by decide +kernel
theorem dX12_printReport_85 : decode cX12_printReport 85 = .ok (.if_icmp .eq 7, 3) := by decide +kernel
theorem dX12_printReport_88 : decode cX12_printReport 88 = .ok (.iconst 1, 1) := by decide +kernel
theorem dX12_printReport_89 : decode cX12_printReport 89 = .ok (.goto 4, 3) := by decide +kernel
theorem dX12_printReport_92 : decode cX12_printReport 92 = .ok (.iconst 0, 1) := by decide +kernel
theorem dX12_printReport_93 : decode cX12_printReport 93 = .ok (.istore_n 3, 1) := by decide +kernel
theorem dX12_printReport_94 : decode cX12_printReport 94 = .ok (.aload_n 0, 1) := by decide +kernel
theorem dX12_printReport_95 : decode cX12_printReport 95 = .ok (.iload_n 1, 1) := by decide +kernel
theorem dX12_printReport_96 : decode cX12_printReport 96 = .ok (.iconst 2, 1) := by decide +kernel
theorem dX12_printReport_97 : decode cX12_printReport 97 = .ok (.invokevirtual 170, 3) := by decide +kernel
theorem dX12_printReport_100 : decode cX12_printReport 100 = .ok (.aload_n 0, 1) := by decide +kernel
theorem dX12_printReport_101 : decode cX12_printReport 101 = .ok (.iload_n 1, 1) := by decide +kernel
theorem dX12_printReport_102 : decode cX12_printReport 102 = .ok (.iconst 1, 1) := by decide +kernel
theorem dX12_printReport_103 : decode cX12_printReport 103 = .ok (.isub, 1) := by decide +kernel
theorem dX12_printReport_104 : decode cX12_printReport 104 = .ok (.iconst 2, 1) := by decide +kernel
theorem dX12_printReport_105 : decode cX12_printReport 105 = .ok (.invokevirtual 170, 3) := by decide +kernel
theorem dX12_printReport_108 : decode cX12_printReport 108 = .ok (.if_icmp .eq 7, 3) := by decide +kernel
theorem dX12_printReport_111 : decode cX12_printReport 111 = .ok (.iconst 1, 1) := by decide +kernel
theorem dX12_printReport_112 : decode cX12_printReport 112 = .ok (.goto 4, 3) := by decide +kernel
theorem dX12_printReport_115 : decode cX12_printReport 115 = .ok (.iconst 0, 1) := by decide +kernel
theorem dX12_printReport_116 : decode cX12_printReport 116 = .ok (.istore 4, 2) := by decide +kernel
theorem dX12_printReport_118 : decode cX12_printReport 118 = .ok (.aload_n 0, 1) := by decide +kernel
theorem dX12_printReport_119 : decode cX12_printReport 119 = .ok (.iload_n 2, 1) := by decide +kernel
theorem dX12_printReport_120 : decode cX12_printReport 120 = .ok (.ifCond .eq 7, 3) := by decide +kernel
theorem dX12_printReport_123 : decode cX12_printReport 123 = .ok (.iconst 2, 1) := by decide +kernel
theorem dX12_printReport_124 : decode cX12_printReport 124 = .ok (.goto 21, 3) := by decide +kernel
theorem dX12_printReport_127 : decode cX12_printReport 127 = .ok (.iload_n 3, 1) := by decide +kernel
theorem dX12_printReport_128 : decode cX12_printReport 128 = .ok (.ifCond .eq 7, 3) := by decide +kernel
theorem dX12_printReport_131 : decode cX12_printReport 131 = .ok (.iconst 1, 1) := by decide +kernel
theorem dX12_printReport_132 : decode cX12_printReport 132 = .ok (.goto 13, 3) := by decide +kernel
theorem dX12_printReport_135 : decode cX12_printReport 135 = .ok (.iload 4, 2) := by decide +kernel
