theorem dX12_printReport_137 : decode cX12_printReport 137 = .ok (.ifCond .eq 7, 3) := by decide +kernel
theorem dX12_printReport_140 : decode cX12_printReport 140 = .ok (.iconst 0, 1) := by decide +kernel
theorem dX12_printReport_141 : decode cX12_printReport 141 = .ok (.goto 4, 3) := by decide +kernel
theorem dX12_printReport_144 : decode cX12_printReport 144 = .ok (.iconst (-1), 1) := by decide +kernel
theorem dX12_printReport_145 : decode cX12_printReport 145 = .ok (.iload_n 1, 1) := by decide +kernel
theorem dX12_printReport_146 : decode cX12_printReport 146 = .ok (.iconst 1, 1) := by decide +kernel
theorem dX12_printReport_147 : decode cX12_printReport 147 = .ok (.isub, 1) := by decide +kernel
theorem dX12_printReport_148 : decode cX12_printReport 148 = .ok (.invokevirtual 189, 3) := by decide +kernel
theorem dX12_printReport_151 : decode cX12_printReport 151 = .ok (.aload_n 0, 1) := by decide +kernel
theorem dX12_printReport_152 : decode cX12_printReport 152 = .ok (.iconst 0, 1) := by decide +kernel
theorem dX12_printReport_153 : decode cX12_printReport 153 = .ok (.iload_n 1, 1) := by decide +kernel
theorem dX12_printReport_154 : decode cX12_printReport 154 = .ok (.invokevirtual 179, 3) := by decide +kernel
theorem dX12_printReport_157 : decode cX12_printReport 157 = .ok (.aload_n 0, 1) := by decide +kernel
theorem dX12_printReport_158 : decode cX12_printReport 158 = .ok (.iconst 1, 1) := by decide +kernel
theorem dX12_printReport_159 : decode cX12_printReport 159 = .ok (.aload_n 0, 1) := by decide +kernel
theorem dX12_printReport_160 : decode cX12_printReport 160 = .ok (.iload_n 1, 1) := by decide +kernel
theorem dX12_printReport_161 : decode cX12_printReport 161 = .ok (.iconst 3, 1) := by decide +kernel
theorem dX12_printReport_162 : decode cX12_printReport 162 = .ok (.invokevirtual 170, 3) := by decide +kernel
theorem dX12_printReport_165 : decode cX12_printReport 165 = .ok (.aload_n 0, 1) := by decide +kernel
theorem dX12_printReport_166 : decode cX12_printReport 166 = .ok (.iload_n 1, 1) := by decide +kernel
theorem dX12_printReport_167 : decode cX12_printReport 167 = .ok (.invokevirtual 192, 3) := by decide +kernel
theorem dX12_printReport_170 : decode cX12_printReport 170 = .ok (.iconst 0, 1) := by decide +kernel
theorem dX12_printReport_171 : decode cX12_printReport 171 = .ok (.aload_n 0, 1) := by decide +kernel
theorem dX12_printReport_172 : decode cX12_printReport 172 = .ok (.getfield 48, 3) := by decide +kernel
theorem dX12_printReport_175 : decode cX12_printReport 175 = .ok (.iload_n 1, 1) := by decide +kernel
theorem dX12_printReport_176 : decode cX12_printReport 176 = .ok (.iaload, 1) := by decide +kernel
theorem dX12_printReport_177 : decode cX12_printReport 177 = .ok (.invokevirtual 182, 3) := by decide +kernel
theorem dX12_printReport_180 : decode cX12_printReport 180 = .ok (.iconst 0, 1) := by decide +kernel
theorem dX12_printReport_181 : decode cX12_printReport 181 = .ok (.istore_n 2, 1) := by decide +kernel
theorem dX12_printReport_182 : decode cX12_printReport 182 = .ok (.iload_n 2, 1) := by decide +kernel
theorem dX12_printReport_183 : decode cX12_printReport 183 = .ok (.iconst 4, 1) := by decide +kernel
theorem dX12_printReport_184 : decode cX12_printReport 184 = .ok (.if_icmp .ge 58, 3) := by decide +kernel
theorem dX12_printReport_187 : decode cX12_printReport 187 = .ok (.aload_n 0, 1) := by decide +kernel
theorem dX12_printReport_188 : decode cX12_printReport 188 = .ok (.getfield 51, 3) := by decide +kernel
theorem dX12_printReport_191 : decode cX12_printReport 191 = .ok (.iconst 4, 1) := by decide +kernel
theorem dX12_printReport_192 : decode cX12_printReport 192 = .ok (.iload_n 2, 1) := by decide +kernel
theorem dX12_printReport_193 : decode cX12_printReport 193 = .ok (.imul, 1) := by decide +kernel
theorem dX12_printReport_194 : decode cX12_printReport 194 = .ok (.dup2, 1) := by decide +kernel
theorem dX12_printReport_195 : decode cX12_printReport 195 = .ok (.iaload, 1) := by decide +kernel
theorem dX12_printReport_196 : decode cX12_printReport 196 = .ok (.iconst 1, 1) := by decide +kernel
theorem dX12_printReport_197 : decode cX12_printReport 197 = .ok (.iadd, 1) := by decide +kernel
theorem dX12_printReport_198 : decode cX12_printReport 198 = .ok (.iastore, 1) := by decide +kernel
theorem dX12_printReport_199 : decode cX12_printReport 199 = .ok (.aload_n 0, 1) := by decide +kernel
theorem dX12_printReport_200 : decode cX12_printReport 200 = .ok (.getfield 51, 3) := by decide +kernel
theorem dX12_printReport_203 : decode cX12_printReport 203 = .ok (.iconst 4, 1) := by decide +kernel
theorem dX12_printReport_204 : decode cX12_printReport 204 = .ok (.iload_n 2, 1) := by decide +kernel
theorem dX12_printReport_205 : decode cX12_printReport 205 = .ok (.imul, 1) := by decide +kernel
theorem dX12_printReport_206 : decode cX12_printReport 206 = .ok (.iconst 1, 1) := by decide +kernel
theorem dX12_printReport_207 : decode cX12_printReport 207 = .ok (.iadd, 1) := by decide +kernel
theorem dX12_printReport_208 : decode cX12_printReport 208 = .ok (.dup2, 1) := by decide +kernel
theorem dX12_printReport_209 : decode cX12_printReport 209 = .ok (.iaload, 1) := by decide +kernel
theorem dX12_printReport_210 : decode cX12_printReport 210 = .ok (.aload_n 0, 1) := by decide +kernel
theorem dX12_printReport_211 : decode cX12_printReport 211 = .ok (.iload_n 1, 1) := by decide +kernel
theorem dX12_printReport_212 : decode cX12_printReport 212 = .ok (.iconst 3, 1) := by decide +kernel
theorem dX12_printReport_213 : decode cX12_printReport 213 = .ok (.invokevirtual 170, 3) := by decide +kernel
theorem dX12_printReport_216 : decode cX12_printReport 216 = .ok (.iadd, 1) := by decide +kernel
theorem dX12_printReport_217 : decode cX12_printReport 217 = .ok (.iastore, 1) := by decide +kernel
theorem dX12_printReport_218 : decode cX12_printReport 218 = .ok (.aload_n 0, 1) := by decide +kernel
theorem dX12_printReport_219 : decode cX12_printReport 219 = .ok (.getfield 51, 3) := by decide +kernel
theorem dX12_printReport_222 : decode cX12_printReport 222 = .ok (.iconst 4, 1) := by decide +kernel
theorem dX12_printReport_223 : decode cX12_printReport 223 = .ok (.iload_n 2, 1) := by decide +kernel
theorem dX12_printReport_224 : decode cX12_printReport 224 = .ok (.imul, 1) := by decide +kernel
theorem dX12_printReport_225 : decode cX12_printReport 225 = .ok (.iconst 2, 1) := by decide +kernel
theorem dX12_printReport_226 : decode cX12_printReport 226 = .ok (.iadd, 1) := by decide +kernel
theorem dX12_printReport_227 : decode cX12_printReport 227 = .ok (.dup2, 1) := by decide +kernel
theorem dX12_printReport_228 : decode cX12_printReport 228 = .ok (.iaload, 1) := by decide +kernel
theorem dX12_printReport_229 : decode cX12_printReport 229 = .ok (.aload_n 0, 1) := by decide +kernel
theorem dX12_printReport_230 : decode cX12_printReport 230 = .ok (.iload_n 1, 1) := by decide +kernel
theorem dX12_printReport_231 : decode cX12_printReport 231 = .ok (.invokevirtual 192, 3) := by decide +kernel
theorem dX12_printReport_234 : decode cX12_printReport 234 = .ok (.iadd, 1) := by decide +kernel
theorem dX12_printReport_235 : decode cX12_printReport 235 = .ok (.iastore, 1) := by decide +kernel
theorem dX12_printReport_236 : decode cX12_printReport 236 = .ok (.iinc 2 1, 3) := by decide +kernel
theorem dX12_printReport_239 : decode cX12_printReport 239 = .ok (.goto (-57), 3) := by decide +kernel
theorem dX12_printReport_242 : decode cX12_printReport 242 = .ok (.iinc 1 1, 3) := by decide +kernel
theorem dX12_printReport_245 : decode cX12_printReport 245 = .ok (.goto (-213), 3) := by decide +kernel
theorem dX12_printReport_248 : decode cX12_printReport 248 = .ok (.aload_n 0, 1) := by decide +kernel
theorem dX12_printReport_249 : decode cX12_printReport 249 = .ok (.getfield 7, 3) := by decide +kernel
theorem dX12_printReport_252 : decode cX12_printReport 252 = .ok (.sipush 1103, 3) := by decide +kernel
theorem dX12_printReport_255 : decode cX12_printReport 255 = .ok (.iaload, 1) := by decide +kernel
theorem dX12_printReport_256 : decode cX12_printReport 256 = .ok (.ifCond .le 18, 3) := by decide +kernel
theorem dX12_printReport_259 : decode cX12_printReport 259 = .ok (.aload_n 0, 1) := by decide +kernel
theorem dX12_printReport_260 : decode cX12_printReport 260 = .ok (.iconst 2, 1) := by decide +kernel
theorem dX12_printReport_261 : decode cX12_printReport 261 = .ok (.aload_n 0, 1) := by decide +kernel
theorem dX12_printReport_262 : decode cX12_printReport 262 = .ok (.getfield 7, 3) := by decide +kernel
theorem dX12_printReport_265 : decode cX12_printReport 265 = .ok (.sipush 1103, 3) := by decide +kernel
theorem dX12_printReport_268 : decode cX12_printReport 268 = .ok (.iaload, 1) := by decide +kernel
theorem dX12_printReport_269 : decode cX12_printReport 269 = .ok (.iconst 1, 1) := by decide +kernel
theorem dX12_printReport_270 : decode cX12_printReport 270 = .ok (.isub, 1) := by decide +kernel
theorem dX12_printReport_271 : decode cX12_printReport 271 = .ok (.invokevirtual 189, 3) := by decide +kernel
theorem dX12_printReport_274 : decode cX12_printReport 274 = .ok (.aload_n 0, 1) := by decide +kernel
theorem dX12_printReport_275 : decode cX12_printReport 275 = .ok (.iconst 3, 1) := by decide +kernel
theorem dX12_printReport_276 : decode cX12_printReport 276 = .ok (.iconst 0, 1) := by decide +kernel
theorem dX12_printReport_277 : decode cX12_printReport 277 = .ok (.invokevirtual 186, 3) := by decide +kernel
theorem dX12_printReport_280 : decode cX12_printReport 280 = .ok (.return_, 1) := by decide +kernel
theorem dX12_run_0 : decode cX12_run 0 = .ok (.aload_n 0, 1) := by decide +kernel
theorem dX12_run_1 : decode cX12_run 1 = .ok (.invokevirtual 118, 3) := by decide +kernel
theorem dX12_run_4 : decode cX12_run 4 = .ok (.aload_n 0, 1) := by decide +kernel
theorem dX12_run_5 : decode cX12_run 5 = .ok (.getfield 7, 3) := by decide +kernel
theorem dX12_run_8 : decode cX12_run 8 = .ok (.sipush 1060, 3) := by decide +kernel
theorem dX12_run_11 : decode cX12_run 11 = .ok (.iconst 1, 1) := by decide +kernel
theorem dX12_run_12 : decode cX12_run 12 = .ok (.iastore, 1) := by decide +kernel
theorem dX12_run_13 : decode cX12_run 13 = .ok (.aload_n 0, 1) := by decide +kernel
theorem dX12_run_14 : decode cX12_run 14 = .ok (.getfield 7, 3) := by decide +kernel
theorem dX12_run_17 : decode cX12_run 17 = .ok (.sipush 1061, 3) := by decide +kernel
theorem dX12_run_20 : decode cX12_run 20 = .ok (.aload_n 0, 1) := by decide +kernel
theorem dX12_run_21 : decode cX12_run 21 = .ok (.getfield 7, 3) := by decide +kernel
theorem dX12_run_24 : decode cX12_run 24 = .ok (.bipush 15, 2) := by decide +kernel
theorem dX12_run_26 : decode cX12_run 26 = .ok (.iaload, 1) := by decide +kernel
theorem dX12_run_27 : decode cX12_run 27 = .ok (.iastore, 1) := by decide +kernel
theorem dX12_run_28 : decode cX12_run 28 = .ok (.aload_n 0, 1) := by decide +kernel
theorem dX12_run_29 : decode cX12_run 29 = .ok (.invokevirtual 195, 3) := by decide +kernel
theorem dX12_run_32 : decode cX12_run 32 = .ok (.aload_n 0, 1) := by decide +kernel
theorem dX12_run_33 : decode cX12_run 33 = .ok (.invokevirtual 198, 3) := by decide +kernel
theorem dX12_run_36 : decode cX12_run 36 = .ok (.aload_n 0, 1) := by decide +kernel
theorem dX12_run_37 : decode cX12_run 37 = .ok (.getfield 7, 3) := by decide +kernel
theorem dX12_run_40 : decode cX12_run 40 = .ok (.sipush 1103, 3) := by decide +kernel
theorem dX12_run_43 : decode cX12_run 43 = .ok (.iaload, 1) := by decide +kernel
theorem dX12_run_44 : decode cX12_run 44 = .ok (.ireturn, 1) := by decide +kernel
theorem dX12_undo_0 : decode cX12_undo 0 = .ok (.aload_n 0, 1) := by decide +kernel
theorem dX12_undo_1 : decode cX12_undo 1 = .ok (.getfield 61, 3) := by decide +kernel
theorem dX12_undo_4 : decode cX12_undo 4 = .ok (.ifCond .ne 6, 3) := by decide +kernel
theorem dX12_undo_7 : decode cX12_undo 7 = .ok (.ldc 132, 2) := by decide +kernel
theorem dX12_undo_9 : decode cX12_undo 9 = .ok (.ireturn, 1) := by decide +kernel
theorem dX12_undo_10 : decode cX12_undo 10 = .ok (.aload_n 0, 1) := by decide +kernel
theorem dX12_undo_11 : decode cX12_undo 11 = .ok (.dup, 1) := by decide +kernel
theorem dX12_undo_12 : decode cX12_undo 12 = .ok (.getfield 61, 3) := by decide +kernel
theorem dX12_undo_15 : decode cX12_undo 15 = .ok (.iconst 1, 1) := by decide +kernel
theorem dX12_undo_16 : decode cX12_undo 16 = .ok (.isub, 1) := by decide +kernel
theorem dX12_undo_17 : decode cX12_undo 17 = .ok (.putfield 61, 3) := by decide +kernel
theorem dX12_undo_20 : decode cX12_undo 20 = .ok (.iconst 0, 1) := by decide +kernel
theorem dX12_undo_21 : decode cX12_undo 21 = .ok (.istore_n 1, 1) := by decide +kernel
theorem dX12_undo_22 : decode cX12_undo 22 = .ok (.iload_n 1, 1) := by decide +kernel
theorem dX12_undo_23 : decode cX12_undo 23 = .ok (.sipush 2754, 3) := by decide +kernel
theorem dX12_undo_26 : decode cX12_undo 26 = .ok (.if_icmp .ge 30, 3) := by decide +kernel
theorem dX12_undo_29 : decode cX12_undo 29 = .ok (.aload_n 0, 1) := by decide +kernel
theorem dX12_undo_30 : decode cX12_undo 30 = .ok (.getfield 7, 3) := by decide +kernel
theorem dX12_undo_33 : decode cX12_undo 33 = .ok (.iload_n 1, 1) := by decide +kernel
theorem dX12_undo_34 : decode cX12_undo 34 = .ok (.aload_n 0, 1) := by decide +kernel
theorem dX12_undo_35 : decode cX12_undo 35 = .ok (.getfield 13, 3) := by decide +kernel
theorem dX12_undo_38 : decode cX12_undo 38 = .ok (.sipush 2754, 3) := by decide +kernel
theorem dX12_undo_41 : decode cX12_undo 41 = .ok (.aload_n 0, 1) := by decide +kernel
theorem dX12_undo_42 : decode cX12_undo 42 = .ok (.getfield 61, 3) := by decide +kernel
theorem dX12_undo_45 : decode cX12_undo 45 = .ok (.imul, 1) := by decide +kernel
theorem dX12_undo_46 : decode cX12_undo 46 = .ok (.iload_n 1, 1) := by decide +kernel
theorem dX12_undo_47 : decode cX12_undo 47 = .ok (.iadd, 1) := by decide +kernel
theorem dX12_undo_48 : decode cX12_undo 48 = .ok (.iaload, 1) := by decide +kernel
theorem dX12_undo_49 : decode cX12_undo 49 = .ok (.iastore, 1) := by decide +kernel
theorem dX12_undo_50 : decode cX12_undo 50 = .ok (.iinc 1 1, 3) := by decide +kernel
theorem dX12_undo_53 : decode cX12_undo 53 = .ok (.goto (-31), 3) := by decide +kernel
theorem dX12_undo_56 : decode cX12_undo 56 = .ok (.aload_n 0, 1) := by decide +kernel
theorem dX12_undo_57 : decode cX12_undo 57 = .ok (.getfield 61, 3) := by decide +kernel
theorem dX12_undo_60 : decode cX12_undo 60 = .ok (.ireturn, 1) := by decide +kernel
theorem dX12_write_0 : decode cX12_write 0 = .ok (.iload_n 1, 1) := by decide +kernel
theorem dX12_write_1 : decode cX12_write 1 = .ok (.bipush 32, 2) := by decide +kernel
theorem dX12_write_3 : decode cX12_write 3 = .ok (.bipush 126, 2) := by decide +kernel
theorem dX12_write_5 : decode cX12_write 5 = .ok (.invokestatic 64, 3) := by decide +kernel
theorem dX12_write_8 : decode cX12_write 8 = .ok (.ifCond .ne 6, 3) := by decide +kernel
theorem dX12_write_11 : decode cX12_write 11 = .ok (.ldc 117, 2) := by decide +kernel
theorem dX12_write_13 : decode cX12_write 13 = .ok (.ireturn, 1) := by decide +kernel
theorem dX12_write_14 : decode cX12_write 14 = .ok (.aload_n 0, 1) := by decide +kernel
theorem dX12_write_15 : decode cX12_write 15 = .ok (.getfield 107, 3) := by decide +kernel
theorem dX12_write_18 : decode cX12_write 18 = .ok (.bipush 50, 2) := by decide +kernel
theorem dX12_write_20 : decode cX12_write 20 = .ok (.if_icmp .ne 6, 3) := by decide +kernel
theorem dX12_write_23 : decode cX12_write 23 = .ok (.ldc 133, 2) := by decide +kernel
theorem dX12_write_25 : decode cX12_write 25 = .ok (.ireturn, 1) := by decide +kernel
theorem dX12_write_26 : decode cX12_write 26 = .ok (.aload_n 0, 1) := by decide +kernel
theorem dX12_write_27 : decode cX12_write 27 = .ok (.getfield 19, 3) := by decide +kernel
theorem dX12_write_30 : decode cX12_write 30 = .ok (.aload_n 0, 1) := by decide +kernel
theorem dX12_write_31 : decode cX12_write 31 = .ok (.getfield 107, 3) := by decide +kernel
theorem dX12_write_34 : decode cX12_write 34 = .ok (.iload_n 1, 1) := by decide +kernel
theorem dX12_write_35 : decode cX12_write 35 = .ok (.iastore, 1) := by decide +kernel
theorem dX12_write_36 : decode cX12_write 36 = .ok (.aload_n 0, 1) := by decide +kernel
theorem dX12_write_37 : decode cX12_write 37 = .ok (.dup, 1) := by decide +kernel
theorem dX12_write_38 : decode cX12_write 38 = .ok (.getfield 107, 3) := by decide +kernel
theorem dX12_write_41 : decode cX12_write 41 = .ok (.iconst 1, 1) := by decide +kernel
theorem dX12_write_42 : decode cX12_write 42 = .ok (.iadd, 1) := by decide +kernel
theorem dX12_write_43 : decode cX12_write 43 = .ok (.putfield 107, 3) := by decide +kernel
theorem dX12_write_46 : decode cX12_write 46 = .ok (.aload_n 0, 1) := by decide +kernel
theorem dX12_write_47 : decode cX12_write 47 = .ok (.getfield 107, 3) := by decide +kernel
theorem dX12_write_50 : decode cX12_write 50 = .ok (.ireturn, 1) := by decide +kernel
theorem dX12_wipe_0 : decode cX12_wipe 0 = .ok (.aload_n 0, 1) := by decide +kernel
theorem dX12_wipe_1 : decode cX12_wipe 1 = .ok (.getfield 107, 3) := by decide +kernel
theorem dX12_wipe_4 : decode cX12_wipe 4 = .ok (.istore_n 1, 1) := by decide +kernel
theorem dX12_wipe_5 : decode cX12_wipe 5 = .ok (.aload_n 0, 1) := by decide +kernel
theorem dX12_wipe_6 : decode cX12_wipe 6 = .ok (.iconst 0, 1) := by decide +kernel
theorem dX12_wipe_7 : decode cX12_wipe 7 = .ok (.putfield 107, 3) := by decide +kernel
theorem dX12_wipe_10 : decode cX12_wipe 10 = .ok (.iload_n 1, 1) := by decide +kernel
theorem dX12_wipe_11 : decode cX12_wipe 11 = .ok (.ireturn, 1) := by decide +kernel
theorem dX12_fault_0 : decode cX12_fault 0 = .ok (.iload_n 1, 1) := by decide +kernel
theorem dX12_fault_1 : decode cX12_fault 1 = .ok (.ifCond .ne 10, 3) := by decide +kernel
theorem dX12_fault_4 : decode cX12_fault 4 = .ok (.aload_n 0, 1) := by decide +kernel
theorem dX12_fault_5 : decode cX12_fault 5 = .ok (.getfield 23, 3) := by decide +kernel
theorem dX12_fault_8 : decode cX12_fault 8 = .ok (.goto 17, 3) := by decide +kernel
theorem dX12_fault_11 : decode cX12_fault 11 = .ok (.iload_n 1, 1) := by decide +kernel
theorem dX12_fault_12 : decode cX12_fault 12 = .ok (.iconst 1, 1) := by decide +kernel
theorem dX12_fault_13 : decode cX12_fault 13 = .ok (.if_icmp .ne 10, 3) := by decide +kernel
theorem dX12_fault_16 : decode cX12_fault 16 = .ok (.aload_n 0, 1) := by decide +kernel
theorem dX12_fault_17 : decode cX12_fault 17 = .ok (.getfield 27, 3) := by decide +kernel
theorem dX12_fault_20 : decode cX12_fault 20 = .ok (.goto 5, 3) := by decide +kernel
theorem dX12_fault_23 : decode cX12_fault 23 = .ok (.ldc 117, 2) := by decide +kernel
theorem dX12_fault_25 : decode cX12_fault 25 = .ok (.ireturn, 1) := by decide +kernel
theorem dX12_isOrdered_0 : decode cX12_isOrdered 0 = .ok (.ldc2_w 161, 3) := by decide +kernel
theorem dX12_isOrdered_3 : decode cX12_isOrdered 3 = .ok (.lstore_n 1, 1) := by decide +kernel
theorem dX12_isOrdered_4 : decode cX12_isOrdered 4 = .ok (.iconst 0, 1) := by decide +kernel
theorem dX12_isOrdered_5 : decode cX12_isOrdered 5 = .ok (.istore_n 3, 1) := by decide +kernel
theorem dX12_isOrdered_6 : decode cX12_isOrdered 6 = .ok (.iload_n 3, 1) := by decide +kernel
theorem dX12_isOrdered_7 : decode cX12_isOrdered 7 = .ok (.aload_n 0, 1) := by decide +kernel
theorem dX12_isOrdered_8 : decode cX12_isOrdered 8 = .ok (.getfield 7, 3) := by decide +kernel
theorem dX12_isOrdered_11 : decode cX12_isOrdered 11 = .ok (.bipush 19, 2) := by decide +kernel
theorem dX12_isOrdered_13 : decode cX12_isOrdered 13 = .ok (.iaload, 1) := by decide +kernel
theorem dX12_isOrdered_14 : decode cX12_isOrdered 14 = .ok (.if_icmp .ge 76, 3) := by decide +kernel
theorem dX12_isOrdered_17 : decode cX12_isOrdered 17 = .ok (.aload_n 0, 1) := by decide +kernel
theorem dX12_isOrdered_18 : decode cX12_isOrdered 18 = .ok (.iload_n 3, 1) := by decide +kernel
theorem dX12_isOrdered_19 : decode cX12_isOrdered 19 = .ok (.invokevirtual 72, 3) := by decide +kernel
theorem dX12_isOrdered_22 : decode cX12_isOrdered 22 = .ok (.aload_n 0, 1) := by decide +kernel
theorem dX12_isOrdered_23 : decode cX12_isOrdered 23 = .ok (.iconst 0, 1) := by decide +kernel
theorem dX12_isOrdered_24 : decode cX12_isOrdered 24 = .ok (.invokevirtual 86, 3) := by decide +kernel
theorem dX12_isOrdered_27 : decode cX12_isOrdered 27 = .ok (.ldc 22, 2) := by decide +kernel
theorem dX12_isOrdered_29 : decode cX12_isOrdered 29 = .ok (.if_icmp .eq 55, 3) := by decide +kernel
theorem dX12_isOrdered_32 : decode cX12_isOrdered 32 = .ok (.aload_n 0, 1) := by decide +kernel
theorem dX12_isOrdered_33 : decode cX12_isOrdered 33 = .ok (.iconst 1, 1) := by decide +kernel
theorem dX12_isOrdered_34 : decode cX12_isOrdered 34 = .ok (.invokevirtual 86, 3) := by decide +kernel
theorem dX12_isOrdered_37 : decode cX12_isOrdered 37 = .ok (.ldc 22, 2) := by decide +kernel
theorem dX12_isOrdered_39 : decode cX12_isOrdered 39 = .ok (.if_icmp .eq 45, 3) := by decide +kernel
theorem dX12_isOrdered_42 : decode cX12_isOrdered 42 = .ok (.aload_n 0, 1) := by decide +kernel
theorem dX12_isOrdered_43 : decode cX12_isOrdered 43 = .ok (.iconst 2, 1) := by decide +kernel
theorem dX12_isOrdered_44 : decode cX12_isOrdered 44 = .ok (.invokevirtual 86, 3) := by decide +kernel
theorem dX12_isOrdered_47 : decode cX12_isOrdered 47 = .ok (.ldc 22, 2) := by decide +kernel
theorem dX12_isOrdered_49 : decode cX12_isOrdered 49 = .ok (.if_icmp .eq 35, 3) := by decide +kernel
theorem dX12_isOrdered_52 : decode cX12_isOrdered 52 = .ok (.aload_n 0, 1) := by decide +kernel
theorem dX12_isOrdered_53 : decode cX12_isOrdered 53 = .ok (.iconst 0, 1) := by decide +kernel
theorem dX12_isOrdered_54 : decode cX12_isOrdered 54 = .ok (.invokevirtual 86, 3) := by decide +kernel
theorem dX12_isOrdered_57 : decode cX12_isOrdered 57 = .ok (.aload_n 0, 1) := by decide +kernel
theorem dX12_isOrdered_58 : decode cX12_isOrdered 58 = .ok (.iconst 1, 1) := by decide +kernel
theorem dX12_isOrdered_59 : decode cX12_isOrdered 59 = .ok (.invokevirtual 86, 3) := by decide +kernel
theorem dX12_isOrdered_62 : decode cX12_isOrdered 62 = .ok (.aload_n 0, 1) := by decide +kernel
theorem dX12_isOrdered_63 : decode cX12_isOrdered 63 = .ok (.iconst 2, 1) := by decide +kernel
theorem dX12_isOrdered_64 : decode cX12_isOrdered 64 = .ok (.invokevirtual 86, 3) := by decide +kernel
theorem dX12_isOrdered_67 : decode cX12_isOrdered 67 = .ok (.invokestatic 166, 3) := by decide +kernel
theorem dX12_isOrdered_70 : decode cX12_isOrdered 70 = .ok (.lstore 4, 2) := by decide +kernel
theorem dX12_isOrdered_72 : decode cX12_isOrdered 72 = .ok (.lload 4, 2) := by decide +kernel
theorem dX12_isOrdered_74 : decode cX12_isOrdered 74 = .ok (.lload_n 1, 1) := by decide +kernel
theorem dX12_isOrdered_75 : decode cX12_isOrdered 75 = .ok (.lcmp, 1) := by decide +kernel
theorem dX12_isOrdered_76 : decode cX12_isOrdered 76 = .ok (.ifCond .ge 5, 3) := by decide +kernel
theorem dX12_isOrdered_79 : decode cX12_isOrdered 79 = .ok (.iconst 0, 1) := by decide +kernel
theorem dX12_isOrdered_80 : decode cX12_isOrdered 80 = .ok (.ireturn, 1) := by decide +kernel
theorem dX12_isOrdered_81 : decode cX12_isOrdered 81 = .ok (.lload 4, 2) := by decide +kernel
theorem dX12_isOrdered_83 : decode cX12_isOrdered 83 = .ok (.lstore_n 1, 1) := by decide +kernel
theorem dX12_isOrdered_84 : decode cX12_isOrdered 84 = .ok (.iinc 3 1, 3) := by decide +kernel
theorem dX12_isOrdered_87 : decode cX12_isOrdered 87 = .ok (.goto (-81), 3) := by decide +kernel
theorem dX12_isOrdered_90 : decode cX12_isOrdered 90 = .ok (.iconst 1, 1) := by decide +kernel
theorem dX12_isOrdered_91 : decode cX12_isOrdered 91 = .ok (.ireturn, 1) := by decide +kernel
theorem dX12_refused_0 : decode cX12_refused 0 = .ok (.iconst 0, 1) := by decide +kernel
theorem dX12_refused_1 : decode cX12_refused 1 = .ok (.istore_n 1, 1) := by decide +kernel
theorem dX12_refused_2 : decode cX12_refused 2 = .ok (.iconst 0, 1) := by decide +kernel
theorem dX12_refused_3 : decode cX12_refused 3 = .ok (.istore_n 2, 1) := by decide +kernel
theorem dX12_refused_4 : decode cX12_refused 4 = .ok (.iload_n 2, 1) := by decide +kernel
theorem dX12_refused_5 : decode cX12_refused 5 = .ok (.aload_n 0, 1) := by decide +kernel
theorem dX12_refused_6 : decode cX12_refused 6 = .ok (.getfield 7, 3) := by decide +kernel
theorem dX12_refused_9 : decode cX12_refused 9 = .ok (.sipush 1062, 3) := by decide +kernel
theorem dX12_refused_12 : decode cX12_refused 12 = .ok (.iaload, 1) := by decide +kernel
theorem dX12_refused_13 : decode cX12_refused 13 = .ok (.if_icmp .ge 35, 3) := by decide +kernel
theorem dX12_refused_16 : decode cX12_refused 16 = .ok (.iload_n 1, 1) := by decide +kernel
theorem dX12_refused_17 : decode cX12_refused 17 = .ok (.aload_n 0, 1) := by decide +kernel
theorem dX12_refused_18 : decode cX12_refused 18 = .ok (.getfield 7, 3) := by decide +kernel
theorem dX12_refused_21 : decode cX12_refused 21 = .ok (.sipush 1063, 3) := by decide +kernel
theorem dX12_refused_24 : decode cX12_refused 24 = .ok (.iload_n 2, 1) := by decide +kernel
theorem dX12_refused_25 : decode cX12_refused 25 = .ok (.iadd, 1) := by decide +kernel
theorem dX12_refused_26 : decode cX12_refused 26 = .ok (.iaload, 1) := by decide +kernel
theorem dX12_refused_27 : decode cX12_refused 27 = .ok (.iconst 1, 1) := by decide +kernel
theorem dX12_refused_28 : decode cX12_refused 28 = .ok (.iconst 5, 1) := by decide +kernel
theorem dX12_refused_29 : decode cX12_refused 29 = .ok (.invokestatic 64, 3) := by decide +kernel
theorem dX12_refused_32 : decode cX12_refused 32 = .ok (.ifCond .eq 7, 3) := by decide +kernel
theorem dX12_refused_35 : decode cX12_refused 35 = .ok (.iconst 1, 1) := by decide +kernel
theorem dX12_refused_36 : decode cX12_refused 36 = .ok (.goto 4, 3) := by decide +kernel
theorem dX12_refused_39 : decode cX12_refused 39 = .ok (.iconst 0, 1) := by decide +kernel
theorem dX12_refused_40 : decode cX12_refused 40 = .ok (.iadd, 1) := by decide +kernel
theorem dX12_refused_41 : decode cX12_refused 41 = .ok (.istore_n 1, 1) := by decide +kernel
theorem dX12_refused_42 : decode cX12_refused 42 = .ok (.iinc 2 1, 3) := by decide +kernel
theorem dX12_refused_45 : decode cX12_refused 45 = .ok (.goto (-41), 3) := by decide +kernel
theorem dX12_refused_48 : decode cX12_refused 48 = .ok (.iload_n 1, 1) := by decide +kernel
theorem dX12_refused_49 : decode cX12_refused 49 = .ok (.ireturn, 1) := by decide +kernel
theorem dX12_told_0 : decode cX12_told 0 = .ok (.iload_n 1, 1) := by decide +kernel
theorem dX12_told_1 : decode cX12_told 1 = .ok (.tableswitch 113 0 6 #[43, 51, 60, 85, 90, 103, 108], 43) := by decide +kernel
theorem dX12_told_44 : decode cX12_told 44 = .ok (.aload_n 0, 1) := by decide +kernel
theorem dX12_told_45 : decode cX12_told 45 = .ok (.getfield 7, 3) := by decide +kernel
theorem dX12_told_48 : decode cX12_told 48 = .ok (.bipush 19, 2) := by decide +kernel
theorem dX12_told_50 : decode cX12_told 50 = .ok (.iaload, 1) := by decide +kernel
theorem dX12_told_51 : decode cX12_told 51 = .ok (.ireturn, 1) := by decide +kernel
theorem dX12_told_52 : decode cX12_told 52 = .ok (.aload_n 0, 1) := by decide +kernel
theorem dX12_told_53 : decode cX12_told 53 = .ok (.getfield 7, 3) := by decide +kernel
theorem dX12_told_56 : decode cX12_told 56 = .ok (.sipush 1304, 3) := by decide +kernel
theorem dX12_told_59 : decode cX12_told 59 = .ok (.iaload, 1) := by decide +kernel
theorem dX12_told_60 : decode cX12_told 60 = .ok (.ireturn, 1) := by decide +kernel
theorem dX12_told_61 : decode cX12_told 61 = .ok (.aload_n 0, 1) := by decide +kernel
theorem dX12_told_62 : decode cX12_told 62 = .ok (.getfield 7, 3) := by decide +kernel
theorem dX12_told_65 : decode cX12_told 65 = .ok (.sipush 1060, 3) := by decide +kernel
theorem dX12_told_68 : decode cX12_told 68 = .ok (.iaload, 1) := by decide +kernel
theorem dX12_told_69 : decode cX12_told 69 = .ok (.ifCond .ne 8, 3) := by decide +kernel
theorem dX12_told_72 : decode cX12_told 72 = .ok (.ldc 22, 2) := by decide +kernel
theorem dX12_told_74 : decode cX12_told 74 = .ok (.goto 11, 3) := by decide +kernel
theorem dX12_told_77 : decode cX12_told 77 = .ok (.aload_n 0, 1) := by decide +kernel
theorem dX12_told_78 : decode cX12_told 78 = .ok (.getfield 7, 3) := by decide +kernel
theorem dX12_told_81 : decode cX12_told 81 = .ok (.sipush 1103, 3) := by decide +kernel
theorem dX12_told_84 : decode cX12_told 84 = .ok (.iaload, 1) := by decide +kernel
theorem dX12_told_85 : decode cX12_told 85 = .ok (.ireturn, 1) := by decide +kernel
theorem dX12_told_86 : decode cX12_told 86 = .ok (.aload_n 0, 1) := by decide +kernel
theorem dX12_told_87 : decode cX12_told 87 = .ok (.invokevirtual 201, 3) := by decide +kernel
theorem dX12_told_90 : decode cX12_told 90 = .ok (.ireturn, 1) := by decide +kernel
theorem dX12_told_91 : decode cX12_told 91 = .ok (.aload_n 0, 1) := by decide +kernel
theorem dX12_told_92 : decode cX12_told 92 = .ok (.invokevirtual 204, 3) := by decide +kernel
theorem dX12_told_95 : decode cX12_told 95 = .ok (.ifCond .eq 7, 3) := by decide +kernel
theorem dX12_told_98 : decode cX12_told 98 = .ok (.iconst 1, 1) := by decide +kernel
theorem dX12_told_99 : decode cX12_told 99 = .ok (.goto 4, 3) := by decide +kernel
theorem dX12_told_102 : decode cX12_told 102 = .ok (.iconst 0, 1) := by decide +kernel
theorem dX12_told_103 : decode cX12_told 103 = .ok (.ireturn, 1) := by decide +kernel
theorem dX12_told_104 : decode cX12_told 104 = .ok (.aload_n 0, 1) := by decide +kernel
theorem dX12_told_105 : decode cX12_told 105 = .ok (.getfield 107, 3) := by decide +kernel
theorem dX12_told_108 : decode cX12_told 108 = .ok (.ireturn, 1) := by decide +kernel
theorem dX12_told_109 : decode cX12_told 109 = .ok (.aload_n 0, 1) := by decide +kernel
theorem dX12_told_110 : decode cX12_told 110 = .ok (.getfield 61, 3) := by decide +kernel
theorem dX12_told_113 : decode cX12_told 113 = .ok (.ireturn, 1) := by decide +kernel
theorem dX12_told_114 : decode cX12_told 114 = .ok (.ldc 117, 2) := by decide +kernel
theorem dX12_told_116 : decode cX12_told 116 = .ok (.ireturn, 1) := by decide +kernel
theorem dX12_setting_0 : decode cX12_setting 0 = .ok (.iload_n 1, 1) := by decide +kernel
theorem dX12_setting_1 : decode cX12_setting 1 = .ok (.iconst 0, 1) := by decide +kernel
theorem dX12_setting_2 : decode cX12_setting 2 = .ok (.iconst 3, 1) := by decide +kernel
theorem dX12_setting_3 : decode cX12_setting 3 = .ok (.invokestatic 64, 3) := by decide +kernel
theorem dX12_setting_6 : decode cX12_setting 6 = .ok (.ifCond .eq 15, 3) := by decide +kernel
theorem dX12_setting_9 : decode cX12_setting 9 = .ok (.aload_n 0, 1) := by decide +kernel
theorem dX12_setting_10 : decode cX12_setting 10 = .ok (.getfield 7, 3) := by decide +kernel
theorem dX12_setting_13 : decode cX12_setting 13 = .ok (.bipush 12, 2) := by decide +kernel
theorem dX12_setting_15 : decode cX12_setting 15 = .ok (.iload_n 1, 1) := by decide +kernel
theorem dX12_setting_16 : decode cX12_setting 16 = .ok (.iadd, 1) := by decide +kernel
theorem dX12_setting_17 : decode cX12_setting 17 = .ok (.iaload, 1) := by decide +kernel
theorem dX12_setting_18 : decode cX12_setting 18 = .ok (.goto 5, 3) := by decide +kernel
theorem dX12_setting_21 : decode cX12_setting 21 = .ok (.ldc 117, 2) := by decide +kernel
theorem dX12_setting_23 : decode cX12_setting 23 = .ok (.ireturn, 1) := by decide +kernel
theorem dX12_field_0 : decode cX12_field 0 = .ok (.iload_n 1, 1) := by decide +kernel
theorem dX12_field_1 : decode cX12_field 1 = .ok (.invokestatic 113, 3) := by decide +kernel
theorem dX12_field_4 : decode cX12_field 4 = .ok (.ifCond .eq 27, 3) := by decide +kernel
theorem dX12_field_7 : decode cX12_field 7 = .ok (.iload_n 2, 1) := by decide +kernel
theorem dX12_field_8 : decode cX12_field 8 = .ok (.iconst 0, 1) := by decide +kernel
theorem dX12_field_9 : decode cX12_field 9 = .ok (.iconst 1, 1) := by decide +kernel
theorem dX12_field_10 : decode cX12_field 10 = .ok (.invokestatic 64, 3) := by decide +kernel
theorem dX12_field_13 : decode cX12_field 13 = .ok (.ifCond .eq 18, 3) := by decide +kernel
theorem dX12_field_16 : decode cX12_field 16 = .ok (.aload_n 0, 1) := by decide +kernel
theorem dX12_field_17 : decode cX12_field 17 = .ok (.getfield 7, 3) := by decide +kernel
theorem dX12_field_20 : decode cX12_field 20 = .ok (.iconst 0, 1) := by decide +kernel
theorem dX12_field_21 : decode cX12_field 21 = .ok (.iconst 2, 1) := by decide +kernel
theorem dX12_field_22 : decode cX12_field 22 = .ok (.iload_n 1, 1) := by decide +kernel
theorem dX12_field_23 : decode cX12_field 23 = .ok (.imul, 1) := by decide +kernel
theorem dX12_field_24 : decode cX12_field 24 = .ok (.iadd, 1) := by decide +kernel
theorem dX12_field_25 : decode cX12_field 25 = .ok (.iload_n 2, 1) := by decide +kernel
theorem dX12_field_26 : decode cX12_field 26 = .ok (.iadd, 1) := by decide +kernel
theorem dX12_field_27 : decode cX12_field 27 = .ok (.iaload, 1) := by decide +kernel
theorem dX12_field_28 : decode cX12_field 28 = .ok (.goto 5, 3) := by decide +kernel
theorem dX12_field_31 : decode cX12_field 31 = .ok (.ldc 117, 2) := by decide +kernel
theorem dX12_field_33 : decode cX12_field 33 = .ok (.ireturn, 1) := by decide +kernel
theorem dX12_column_0 : decode cX12_column 0 = .ok (.aload_n 0, 1) := by decide +kernel
theorem dX12_column_1 : decode cX12_column 1 = .ok (.iload_n 1, 1) := by decide +kernel
theorem dX12_column_2 : decode cX12_column 2 = .ok (.invokevirtual 140, 3) := by decide +kernel
theorem dX12_column_5 : decode cX12_column 5 = .ok (.ifCond .eq 19, 3) := by decide +kernel
theorem dX12_column_8 : decode cX12_column 8 = .ok (.iload_n 2, 1) := by decide +kernel
theorem dX12_column_9 : decode cX12_column 9 = .ok (.invokestatic 149, 3) := by decide +kernel
theorem dX12_column_12 : decode cX12_column 12 = .ok (.ifCond .eq 12, 3) := by decide +kernel
theorem dX12_column_15 : decode cX12_column 15 = .ok (.aload_n 0, 1) := by decide +kernel
theorem dX12_column_16 : decode cX12_column 16 = .ok (.iload_n 1, 1) := by decide +kernel
theorem dX12_column_17 : decode cX12_column 17 = .ok (.iload_n 2, 1) := by decide +kernel
theorem dX12_column_18 : decode cX12_column 18 = .ok (.invokevirtual 68, 3) := by decide +kernel
theorem dX12_column_21 : decode cX12_column 21 = .ok (.goto 5, 3) := by decide +kernel
theorem dX12_column_24 : decode cX12_column 24 = .ok (.ldc 117, 2) := by decide +kernel
theorem dX12_column_26 : decode cX12_column 26 = .ok (.ireturn, 1) := by decide +kernel
theorem dX12_card_0 : decode cX12_card 0 = .ok (.aload_n 0, 1) := by decide +kernel
theorem dX12_card_1 : decode cX12_card 1 = .ok (.iload_n 1, 1) := by decide +kernel
theorem dX12_card_2 : decode cX12_card 2 = .ok (.invokevirtual 140, 3) := by decide +kernel
theorem dX12_card_5 : decode cX12_card 5 = .ok (.ifCond .eq 13, 3) := by decide +kernel
theorem dX12_card_8 : decode cX12_card 8 = .ok (.iload_n 2, 1) := by decide +kernel
theorem dX12_card_9 : decode cX12_card 9 = .ok (.iconst 0, 1) := by decide +kernel
theorem dX12_card_10 : decode cX12_card 10 = .ok (.bipush 9, 2) := by decide +kernel
theorem dX12_card_12 : decode cX12_card 12 = .ok (.invokestatic 64, 3) := by decide +kernel
theorem dX12_card_15 : decode cX12_card 15 = .ok (.ifCond .ne 6, 3) := by decide +kernel
theorem dX12_card_18 : decode cX12_card 18 = .ok (.ldc 117, 2) := by decide +kernel
theorem dX12_card_20 : decode cX12_card 20 = .ok (.ireturn, 1) := by decide +kernel
theorem dX12_card_21 : decode cX12_card 21 = .ok (.aload_n 0, 1) := by decide +kernel
theorem dX12_card_22 : decode cX12_card 22 = .ok (.iload_n 1, 1) := by decide +kernel
theorem dX12_card_23 : decode cX12_card 23 = .ok (.invokevirtual 72, 3) := by decide +kernel
theorem dX12_card_26 : decode cX12_card 26 = .ok (.iload_n 2, 1) := by decide +kernel
theorem dX12_card_27 : decode cX12_card 27 = .ok (.tableswitch 56 6 9 #[29, 34, 42, 50], 29) := by decide +kernel
theorem dX12_card_56 : decode cX12_card 56 = .ok (.aload_n 0, 1) := by decide +kernel
theorem dX12_card_57 : decode cX12_card 57 = .ok (.invokevirtual 89, 3) := by decide +kernel
theorem dX12_card_60 : decode cX12_card 60 = .ok (.ireturn, 1) := by decide +kernel
theorem dX12_card_61 : decode cX12_card 61 = .ok (.aload_n 0, 1) := by decide +kernel
theorem dX12_card_62 : decode cX12_card 62 = .ok (.iload_n 1, 1) := by decide +kernel
theorem dX12_card_63 : decode cX12_card 63 = .ok (.bipush 24, 2) := by decide +kernel
theorem dX12_card_65 : decode cX12_card 65 = .ok (.invokevirtual 68, 3) := by decide +kernel
theorem dX12_card_68 : decode cX12_card 68 = .ok (.ireturn, 1) := by decide +kernel
theorem dX12_card_69 : decode cX12_card 69 = .ok (.aload_n 0, 1) := by decide +kernel
theorem dX12_card_70 : decode cX12_card 70 = .ok (.iload_n 1, 1) := by decide +kernel
theorem dX12_card_71 : decode cX12_card 71 = .ok (.bipush 25, 2) := by decide +kernel
theorem dX12_card_73 : decode cX12_card 73 = .ok (.invokevirtual 68, 3) := by decide +kernel
theorem dX12_card_76 : decode cX12_card 76 = .ok (.ireturn, 1) := by decide +kernel
theorem dX12_card_77 : decode cX12_card 77 = .ok (.aload_n 0, 1) := by decide +kernel
theorem dX12_card_78 : decode cX12_card 78 = .ok (.iload_n 1, 1) := by decide +kernel
theorem dX12_card_79 : decode cX12_card 79 = .ok (.invokevirtual 163, 3) := by decide +kernel
theorem dX12_card_82 : decode cX12_card 82 = .ok (.ireturn, 1) := by decide +kernel
theorem dX12_card_83 : decode cX12_card 83 = .ok (.aload_n 0, 1) := by decide +kernel
theorem dX12_card_84 : decode cX12_card 84 = .ok (.iload_n 2, 1) := by decide +kernel
theorem dX12_card_85 : decode cX12_card 85 = .ok (.invokevirtual 86, 3) := by decide +kernel
theorem dX12_card_88 : decode cX12_card 88 = .ok (.ireturn, 1) := by decide +kernel
theorem dX12_line_0 : decode cX12_line 0 = .ok (.iload_n 1, 1) := by decide +kernel
theorem dX12_line_1 : decode cX12_line 1 = .ok (.iconst 0, 1) := by decide +kernel
theorem dX12_line_2 : decode cX12_line 2 = .ok (.aload_n 0, 1) := by decide +kernel
theorem dX12_line_3 : decode cX12_line 3 = .ok (.getfield 7, 3) := by decide +kernel
theorem dX12_line_6 : decode cX12_line 6 = .ok (.sipush 1304, 3) := by decide +kernel
theorem dX12_line_9 : decode cX12_line 9 = .ok (.iaload, 1) := by decide +kernel
theorem dX12_line_10 : decode cX12_line 10 = .ok (.iconst 1, 1) := by decide +kernel
theorem dX12_line_11 : decode cX12_line 11 = .ok (.isub, 1) := by decide +kernel
theorem dX12_line_12 : decode cX12_line 12 = .ok (.invokestatic 64, 3) := by decide +kernel
theorem dX12_line_15 : decode cX12_line 15 = .ok (.ifCond .eq 31, 3) := by decide +kernel
theorem dX12_line_18 : decode cX12_line 18 = .ok (.iload_n 2, 1) := by decide +kernel
theorem dX12_line_19 : decode cX12_line 19 = .ok (.iconst 0, 1) := by decide +kernel
theorem dX12_line_20 : decode cX12_line 20 = .ok (.bipush 8, 2) := by decide +kernel
theorem dX12_line_22 : decode cX12_line 22 = .ok (.invokestatic 64, 3) := by decide +kernel
theorem dX12_line_25 : decode cX12_line 25 = .ok (.ifCond .eq 21, 3) := by decide +kernel
theorem dX12_line_28 : decode cX12_line 28 = .ok (.aload_n 0, 1) := by decide +kernel
theorem dX12_line_29 : decode cX12_line 29 = .ok (.getfield 7, 3) := by decide +kernel
theorem dX12_line_32 : decode cX12_line 32 = .ok (.sipush 1305, 3) := by decide +kernel
theorem dX12_line_35 : decode cX12_line 35 = .ok (.bipush 9, 2) := by decide +kernel
theorem dX12_line_37 : decode cX12_line 37 = .ok (.iload_n 1, 1) := by decide +kernel
theorem dX12_line_38 : decode cX12_line 38 = .ok (.imul, 1) := by decide +kernel
theorem dX12_line_39 : decode cX12_line 39 = .ok (.iadd, 1) := by decide +kernel
theorem dX12_line_40 : decode cX12_line 40 = .ok (.iload_n 2, 1) := by decide +kernel
theorem dX12_line_41 : decode cX12_line 41 = .ok (.iadd, 1) := by decide +kernel
theorem dX12_line_42 : decode cX12_line 42 = .ok (.iaload, 1) := by decide +kernel
theorem dX12_line_43 : decode cX12_line 43 = .ok (.goto 5, 3) := by decide +kernel
theorem dX12_line_46 : decode cX12_line 46 = .ok (.ldc 117, 2) := by decide +kernel
theorem dX12_line_48 : decode cX12_line 48 = .ok (.ireturn, 1) := by decide +kernel
theorem dX12_reason_0 : decode cX12_reason 0 = .ok (.iload_n 1, 1) := by decide +kernel
theorem dX12_reason_1 : decode cX12_reason 1 = .ok (.iconst 0, 1) := by decide +kernel
theorem dX12_reason_2 : decode cX12_reason 2 = .ok (.aload_n 0, 1) := by decide +kernel
theorem dX12_reason_3 : decode cX12_reason 3 = .ok (.getfield 7, 3) := by decide +kernel
theorem dX12_reason_6 : decode cX12_reason 6 = .ok (.sipush 1062, 3) := by decide +kernel
theorem dX12_reason_9 : decode cX12_reason 9 = .ok (.iaload, 1) := by decide +kernel
theorem dX12_reason_10 : decode cX12_reason 10 = .ok (.iconst 1, 1) := by decide +kernel
theorem dX12_reason_11 : decode cX12_reason 11 = .ok (.isub, 1) := by decide +kernel
theorem dX12_reason_12 : decode cX12_reason 12 = .ok (.invokestatic 64, 3) := by decide +kernel
theorem dX12_reason_15 : decode cX12_reason 15 = .ok (.ifCond .eq 16, 3) := by decide +kernel
theorem dX12_reason_18 : decode cX12_reason 18 = .ok (.aload_n 0, 1) := by decide +kernel
theorem dX12_reason_19 : decode cX12_reason 19 = .ok (.getfield 7, 3) := by decide +kernel
theorem dX12_reason_22 : decode cX12_reason 22 = .ok (.sipush 1063, 3) := by decide +kernel
theorem dX12_reason_25 : decode cX12_reason 25 = .ok (.iload_n 1, 1) := by decide +kernel
theorem dX12_reason_26 : decode cX12_reason 26 = .ok (.iadd, 1) := by decide +kernel
theorem dX12_reason_27 : decode cX12_reason 27 = .ok (.iaload, 1) := by decide +kernel
theorem dX12_reason_28 : decode cX12_reason 28 = .ok (.goto 5, 3) := by decide +kernel
theorem dX12_reason_31 : decode cX12_reason 31 = .ok (.ldc 117, 2) := by decide +kernel
theorem dX12_reason_33 : decode cX12_reason 33 = .ok (.ireturn, 1) := by decide +kernel
theorem dX12_differs_0 : decode cX12_differs 0 = .ok (.iload_n 1, 1) := by decide +kernel
theorem dX12_differs_1 : decode cX12_differs 1 = .ok (.iconst 0, 1) := by decide +kernel
theorem dX12_differs_2 : decode cX12_differs 2 = .ok (.iconst 2, 1) := by decide +kernel
theorem dX12_differs_3 : decode cX12_differs 3 = .ok (.invokestatic 64, 3) := by decide +kernel
theorem dX12_differs_6 : decode cX12_differs 6 = .ok (.ifCond .ne 6, 3) := by decide +kernel
theorem dX12_differs_9 : decode cX12_differs 9 = .ok (.ldc 117, 2) := by decide +kernel
theorem dX12_differs_11 : decode cX12_differs 11 = .ok (.ireturn, 1) := by decide +kernel
theorem dX12_differs_12 : decode cX12_differs 12 = .ok (.aload_n 0, 1) := by decide +kernel
theorem dX12_differs_13 : decode cX12_differs 13 = .ok (.getfield 7, 3) := by decide +kernel
theorem dX12_differs_16 : decode cX12_differs 16 = .ok (.bipush 16, 2) := by decide +kernel
theorem dX12_differs_18 : decode cX12_differs 18 = .ok (.iload_n 1, 1) := by decide +kernel
theorem dX12_differs_19 : decode cX12_differs 19 = .ok (.iadd, 1) := by decide +kernel
theorem dX12_differs_20 : decode cX12_differs 20 = .ok (.iaload, 1) := by decide +kernel
theorem dX12_differs_21 : decode cX12_differs 21 = .ok (.ldc 22, 2) := by decide +kernel
theorem dX12_differs_23 : decode cX12_differs 23 = .ok (.if_icmp .eq 14, 3) := by decide +kernel
theorem dX12_differs_26 : decode cX12_differs 26 = .ok (.aload_n 0, 1) := by decide +kernel
theorem dX12_differs_27 : decode cX12_differs 27 = .ok (.getfield 7, 3) := by decide +kernel
theorem dX12_differs_30 : decode cX12_differs 30 = .ok (.sipush 1060, 3) := by decide +kernel
theorem dX12_differs_33 : decode cX12_differs 33 = .ok (.iaload, 1) := by decide +kernel
theorem dX12_differs_34 : decode cX12_differs 34 = .ok (.ifCond .ne 6, 3) := by decide +kernel
theorem dX12_differs_37 : decode cX12_differs 37 = .ok (.ldc 22, 2) := by decide +kernel
theorem dX12_differs_39 : decode cX12_differs 39 = .ok (.ireturn, 1) := by decide +kernel
theorem dX12_differs_40 : decode cX12_differs 40 = .ok (.iconst 0, 1) := by decide +kernel
theorem dX12_differs_41 : decode cX12_differs 41 = .ok (.istore_n 2, 1) := by decide +kernel
theorem dX12_differs_42 : decode cX12_differs 42 = .ok (.iconst 0, 1) := by decide +kernel
theorem dX12_differs_43 : decode cX12_differs 43 = .ok (.istore_n 3, 1) := by decide +kernel
theorem dX12_differs_44 : decode cX12_differs 44 = .ok (.iload_n 3, 1) := by decide +kernel
theorem dX12_differs_45 : decode cX12_differs 45 = .ok (.aload_n 0, 1) := by decide +kernel
theorem dX12_differs_46 : decode cX12_differs 46 = .ok (.getfield 7, 3) := by decide +kernel
theorem dX12_differs_49 : decode cX12_differs 49 = .ok (.sipush 1103, 3) := by decide +kernel
theorem dX12_differs_52 : decode cX12_differs 52 = .ok (.iaload, 1) := by decide +kernel
theorem dX12_differs_53 : decode cX12_differs 53 = .ok (.if_icmp .ge 35, 3) := by decide +kernel
theorem dX12_differs_56 : decode cX12_differs 56 = .ok (.iload_n 2, 1) := by decide +kernel
theorem dX12_differs_57 : decode cX12_differs 57 = .ok (.iload_n 1, 1) := by decide +kernel
theorem dX12_differs_58 : decode cX12_differs 58 = .ok (.ifCond .ne 7, 3) := by decide +kernel
theorem dX12_differs_61 : decode cX12_differs 61 = .ok (.iconst 1, 1) := by decide +kernel
theorem dX12_differs_62 : decode cX12_differs 62 = .ok (.goto 18, 3) := by decide +kernel
theorem dX12_differs_65 : decode cX12_differs 65 = .ok (.aload_n 0, 1) := by decide +kernel
theorem dX12_differs_66 : decode cX12_differs 66 = .ok (.iload_n 3, 1) := by decide +kernel
theorem dX12_differs_67 : decode cX12_differs 67 = .ok (.iload_n 1, 1) := by decide +kernel
theorem dX12_differs_68 : decode cX12_differs 68 = .ok (.iconst 1, 1) := by decide +kernel
theorem dX12_differs_69 : decode cX12_differs 69 = .ok (.if_icmp .ne 7, 3) := by decide +kernel
theorem dX12_differs_72 : decode cX12_differs 72 = .ok (.iconst 3, 1) := by decide +kernel
theorem dX12_differs_73 : decode cX12_differs 73 = .ok (.goto 4, 3) := by decide +kernel
theorem dX12_differs_76 : decode cX12_differs 76 = .ok (.iconst 2, 1) := by decide +kernel
theorem dX12_differs_77 : decode cX12_differs 77 = .ok (.invokevirtual 170, 3) := by decide +kernel
theorem dX12_differs_80 : decode cX12_differs 80 = .ok (.iadd, 1) := by decide +kernel
theorem dX12_differs_81 : decode cX12_differs 81 = .ok (.istore_n 2, 1) := by decide +kernel
theorem dX12_differs_82 : decode cX12_differs 82 = .ok (.iinc 3 1, 3) := by decide +kernel
theorem dX12_differs_85 : decode cX12_differs 85 = .ok (.goto (-41), 3) := by decide +kernel
theorem dX12_differs_88 : decode cX12_differs 88 = .ok (.iload_n 2, 1) := by decide +kernel
theorem dX12_differs_89 : decode cX12_differs 89 = .ok (.aload_n 0, 1) := by decide +kernel
theorem dX12_differs_90 : decode cX12_differs 90 = .ok (.getfield 7, 3) := by decide +kernel
theorem dX12_differs_93 : decode cX12_differs 93 = .ok (.bipush 16, 2) := by decide +kernel
theorem dX12_differs_95 : decode cX12_differs 95 = .ok (.iload_n 1, 1) := by decide +kernel
theorem dX12_differs_96 : decode cX12_differs 96 = .ok (.iadd, 1) := by decide +kernel
theorem dX12_differs_97 : decode cX12_differs 97 = .ok (.iaload, 1) := by decide +kernel
theorem dX12_differs_98 : decode cX12_differs 98 = .ok (.isub, 1) := by decide +kernel
theorem dX12_differs_99 : decode cX12_differs 99 = .ok (.ireturn, 1) := by decide +kernel
theorem dX12_isAlike_0 : decode cX12_isAlike 0 = .ok (.aload_n 0, 1) := by decide +kernel
theorem dX12_isAlike_1 : decode cX12_isAlike 1 = .ok (.iload_n 1, 1) := by decide +kernel
theorem dX12_isAlike_2 : decode cX12_isAlike 2 = .ok (.iconst 0, 1) := by decide +kernel
theorem dX12_isAlike_3 : decode cX12_isAlike 3 = .ok (.invokevirtual 170, 3) := by decide +kernel
theorem dX12_isAlike_6 : decode cX12_isAlike 6 = .ok (.aload_n 0, 1) := by decide +kernel
theorem dX12_isAlike_7 : decode cX12_isAlike 7 = .ok (.iload_n 2, 1) := by decide +kernel
theorem dX12_isAlike_8 : decode cX12_isAlike 8 = .ok (.iconst 0, 1) := by decide +kernel
theorem dX12_isAlike_9 : decode cX12_isAlike 9 = .ok (.invokevirtual 170, 3) := by decide +kernel
theorem dX12_isAlike_12 : decode cX12_isAlike 12 = .ok (.if_icmp .ne 37, 3) := by decide +kernel
theorem dX12_isAlike_15 : decode cX12_isAlike 15 = .ok (.aload_n 0, 1) := by decide +kernel
theorem dX12_isAlike_16 : decode cX12_isAlike 16 = .ok (.iload_n 1, 1) := by decide +kernel
theorem dX12_isAlike_17 : decode cX12_isAlike 17 = .ok (.iconst 1, 1) := by decide +kernel
theorem dX12_isAlike_18 : decode cX12_isAlike 18 = .ok (.invokevirtual 170, 3) := by decide +kernel
theorem dX12_isAlike_21 : decode cX12_isAlike 21 = .ok (.aload_n 0, 1) := by decide +kernel
theorem dX12_isAlike_22 : decode cX12_isAlike 22 = .ok (.iload_n 2, 1) := by decide +kernel
theorem dX12_isAlike_23 : decode cX12_isAlike 23 = .ok (.iconst 1, 1) := by decide +kernel
theorem dX12_isAlike_24 : decode cX12_isAlike 24 = .ok (.invokevirtual 170, 3) := by decide +kernel
theorem dX12_isAlike_27 : decode cX12_isAlike 27 = .ok (.if_icmp .ne 22, 3) := by decide +kernel
theorem dX12_isAlike_30 : decode cX12_isAlike 30 = .ok (.aload_n 0, 1) := by decide +kernel
theorem dX12_isAlike_31 : decode cX12_isAlike 31 = .ok (.iload_n 1, 1) := by decide +kernel
theorem dX12_isAlike_32 : decode cX12_isAlike 32 = .ok (.iconst 2, 1) := by decide +kernel
theorem dX12_isAlike_33 : decode cX12_isAlike 33 = .ok (.invokevirtual 170, 3) := by decide +kernel
theorem dX12_isAlike_36 : decode cX12_isAlike 36 = .ok (.aload_n 0, 1) := by decide +kernel
theorem dX12_isAlike_37 : decode cX12_isAlike 37 = .ok (.iload_n 2, 1) := by decide +kernel
theorem dX12_isAlike_38 : decode cX12_isAlike 38 = .ok (.iconst 2, 1) := by decide +kernel
theorem dX12_isAlike_39 : decode cX12_isAlike 39 = .ok (.invokevirtual 170, 3) := by decide +kernel
theorem dX12_isAlike_42 : decode cX12_isAlike 42 = .ok (.if_icmp .ne 7, 3) := by decide +kernel
theorem dX12_isAlike_45 : decode cX12_isAlike 45 = .ok (.iconst 1, 1) := by decide +kernel
theorem dX12_isAlike_46 : decode cX12_isAlike 46 = .ok (.goto 4, 3) := by decide +kernel
theorem dX12_isAlike_49 : decode cX12_isAlike 49 = .ok (.iconst 0, 1) := by decide +kernel
theorem dX12_isAlike_50 : decode cX12_isAlike 50 = .ok (.ireturn, 1) := by decide +kernel
theorem dX12_isLast_0 : decode cX12_isLast 0 = .ok (.iload_n 1, 1) := by decide +kernel
theorem dX12_isLast_1 : decode cX12_isLast 1 = .ok (.iconst 1, 1) := by decide +kernel
theorem dX12_isLast_2 : decode cX12_isLast 2 = .ok (.iadd, 1) := by decide +kernel
theorem dX12_isLast_3 : decode cX12_isLast 3 = .ok (.istore_n 2, 1) := by decide +kernel
theorem dX12_isLast_4 : decode cX12_isLast 4 = .ok (.iload_n 2, 1) := by decide +kernel
theorem dX12_isLast_5 : decode cX12_isLast 5 = .ok (.aload_n 0, 1) := by decide +kernel
theorem dX12_isLast_6 : decode cX12_isLast 6 = .ok (.getfield 7, 3) := by decide +kernel
theorem dX12_isLast_9 : decode cX12_isLast 9 = .ok (.sipush 1103, 3) := by decide +kernel
theorem dX12_isLast_12 : decode cX12_isLast 12 = .ok (.iaload, 1) := by decide +kernel
theorem dX12_isLast_13 : decode cX12_isLast 13 = .ok (.if_icmp .ge 20, 3) := by decide +kernel
theorem dX12_isLast_16 : decode cX12_isLast 16 = .ok (.aload_n 0, 1) := by decide +kernel
theorem dX12_isLast_17 : decode cX12_isLast 17 = .ok (.iload_n 1, 1) := by decide +kernel
theorem dX12_isLast_18 : decode cX12_isLast 18 = .ok (.iload_n 2, 1) := by decide +kernel
theorem dX12_isLast_19 : decode cX12_isLast 19 = .ok (.invokevirtual 208, 3) := by decide +kernel
theorem dX12_isLast_22 : decode cX12_isLast 22 = .ok (.ifCond .eq 5, 3) := by decide +kernel
theorem dX12_isLast_25 : decode cX12_isLast 25 = .ok (.iconst 0, 1) := by decide +kernel
theorem dX12_isLast_26 : decode cX12_isLast 26 = .ok (.ireturn, 1) := by decide +kernel
theorem dX12_isLast_27 : decode cX12_isLast 27 = .ok (.iinc 2 1, 3) := by decide +kernel
theorem dX12_isLast_30 : decode cX12_isLast 30 = .ok (.goto (-26), 3) := by decide +kernel
theorem dX12_isLast_33 : decode cX12_isLast 33 = .ok (.iconst 1, 1) := by decide +kernel
theorem dX12_isLast_34 : decode cX12_isLast 34 = .ok (.ireturn, 1) := by decide +kernel
theorem dX12_ofKey_0 : decode cX12_ofKey 0 = .ok (.iconst 0, 1) := by decide +kernel
theorem dX12_ofKey_1 : decode cX12_ofKey 1 = .ok (.istore_n 3, 1) := by decide +kernel
theorem dX12_ofKey_2 : decode cX12_ofKey 2 = .ok (.iconst 0, 1) := by decide +kernel
theorem dX12_ofKey_3 : decode cX12_ofKey 3 = .ok (.istore 4, 2) := by decide +kernel
theorem dX12_ofKey_5 : decode cX12_ofKey 5 = .ok (.iconst 0, 1) := by decide +kernel
theorem dX12_ofKey_6 : decode cX12_ofKey 6 = .ok (.istore 5, 2) := by decide +kernel
theorem dX12_ofKey_8 : decode cX12_ofKey 8 = .ok (.iconst 0, 1) := by decide +kernel
theorem dX12_ofKey_9 : decode cX12_ofKey 9 = .ok (.istore 6, 2) := by decide +kernel
theorem dX12_ofKey_11 : decode cX12_ofKey 11 = .ok (.iload 6, 2) := by decide +kernel
theorem dX12_ofKey_13 : decode cX12_ofKey 13 = .ok (.iload_n 1, 1) := by decide +kernel
theorem dX12_ofKey_14 : decode cX12_ofKey 14 = .ok (.if_icmp .gt 45, 3) := by decide +kernel
theorem dX12_ofKey_17 : decode cX12_ofKey 17 = .ok (.aload_n 0, 1) := by decide +kernel
theorem dX12_ofKey_18 : decode cX12_ofKey 18 = .ok (.iload 6, 2) := by decide +kernel
theorem dX12_ofKey_20 : decode cX12_ofKey 20 = .ok (.iload_n 1, 1) := by decide +kernel
theorem dX12_ofKey_21 : decode cX12_ofKey 21 = .ok (.invokevirtual 208, 3) := by decide +kernel
theorem dX12_ofKey_24 : decode cX12_ofKey 24 = .ok (.ifCond .eq 29, 3) := by decide +kernel
theorem dX12_ofKey_27 : decode cX12_ofKey 27 = .ok (.iinc 3 1, 3) := by decide +kernel
theorem dX12_ofKey_30 : decode cX12_ofKey 30 = .ok (.iload 4, 2) := by decide +kernel
theorem dX12_ofKey_32 : decode cX12_ofKey 32 = .ok (.aload_n 0, 1) := by decide +kernel
theorem dX12_ofKey_33 : decode cX12_ofKey 33 = .ok (.iload 6, 2) := by decide +kernel
theorem dX12_ofKey_35 : decode cX12_ofKey 35 = .ok (.iconst 3, 1) := by decide +kernel
theorem dX12_ofKey_36 : decode cX12_ofKey 36 = .ok (.invokevirtual 170, 3) := by decide +kernel
theorem dX12_ofKey_39 : decode cX12_ofKey 39 = .ok (.iadd, 1) := by decide +kernel
theorem dX12_ofKey_40 : decode cX12_ofKey 40 = .ok (.istore 4, 2) := by decide +kernel
theorem dX12_ofKey_42 : decode cX12_ofKey 42 = .ok (.iload 5, 2) := by decide +kernel
theorem dX12_ofKey_44 : decode cX12_ofKey 44 = .ok (.aload_n 0, 1) := by decide +kernel
theorem dX12_ofKey_45 : decode cX12_ofKey 45 = .ok (.iload 6, 2) := by decide +kernel
theorem dX12_ofKey_47 : decode cX12_ofKey 47 = .ok (.invokevirtual 192, 3) := by decide +kernel
theorem dX12_ofKey_50 : decode cX12_ofKey 50 = .ok (.iadd, 1) := by decide +kernel
theorem dX12_ofKey_51 : decode cX12_ofKey 51 = .ok (.istore 5, 2) := by decide +kernel
theorem dX12_ofKey_53 : decode cX12_ofKey 53 = .ok (.iinc 6 1, 3) := by decide +kernel
theorem dX12_ofKey_56 : decode cX12_ofKey 56 = .ok (.goto (-45), 3) := by decide +kernel
theorem dX12_ofKey_59 : decode cX12_ofKey 59 = .ok (.iload 4, 2) := by decide +kernel
theorem dX12_ofKey_61 : decode cX12_ofKey 61 = .ok (.aload_n 0, 1) := by decide +kernel
theorem dX12_ofKey_62 : decode cX12_ofKey 62 = .ok (.getfield 7, 3) := by decide +kernel
theorem dX12_ofKey_65 : decode cX12_ofKey 65 = .ok (.sipush 1061, 3) := by decide +kernel
theorem dX12_ofKey_68 : decode cX12_ofKey 68 = .ok (.iaload, 1) := by decide +kernel
theorem dX12_ofKey_69 : decode cX12_ofKey 69 = .ok (.aload_n 0, 1) := by decide +kernel
theorem dX12_ofKey_70 : decode cX12_ofKey 70 = .ok (.iload_n 1, 1) := by decide +kernel
theorem dX12_ofKey_71 : decode cX12_ofKey 71 = .ok (.iconst 4, 1) := by decide +kernel
theorem dX12_ofKey_72 : decode cX12_ofKey 72 = .ok (.invokevirtual 170, 3) := by decide +kernel
theorem dX12_ofKey_75 : decode cX12_ofKey 75 = .ok (.invokestatic 175, 3) := by decide +kernel
theorem dX12_ofKey_78 : decode cX12_ofKey 78 = .ok (.istore 6, 2) := by decide +kernel
theorem dX12_ofKey_80 : decode cX12_ofKey 80 = .ok (.iload_n 2, 1) := by decide +kernel
theorem dX12_ofKey_81 : decode cX12_ofKey 81 = .ok (.ifCond .ne 7, 3) := by decide +kernel
theorem dX12_ofKey_84 : decode cX12_ofKey 84 = .ok (.iload_n 3, 1) := by decide +kernel
theorem dX12_ofKey_85 : decode cX12_ofKey 85 = .ok (.goto 28, 3) := by decide +kernel
theorem dX12_ofKey_88 : decode cX12_ofKey 88 = .ok (.iload_n 2, 1) := by decide +kernel
theorem dX12_ofKey_89 : decode cX12_ofKey 89 = .ok (.iconst 1, 1) := by decide +kernel
theorem dX12_ofKey_90 : decode cX12_ofKey 90 = .ok (.if_icmp .ne 8, 3) := by decide +kernel
theorem dX12_ofKey_93 : decode cX12_ofKey 93 = .ok (.iload 4, 2) := by decide +kernel
theorem dX12_ofKey_95 : decode cX12_ofKey 95 = .ok (.goto 18, 3) := by decide +kernel
theorem dX12_ofKey_98 : decode cX12_ofKey 98 = .ok (.iload_n 2, 1) := by decide +kernel
theorem dX12_ofKey_99 : decode cX12_ofKey 99 = .ok (.iconst 2, 1) := by decide +kernel
theorem dX12_ofKey_100 : decode cX12_ofKey 100 = .ok (.if_icmp .ne 11, 3) := by decide +kernel
theorem dX12_ofKey_103 : decode cX12_ofKey 103 = .ok (.iload 5, 2) := by decide +kernel
theorem dX12_ofKey_105 : decode cX12_ofKey 105 = .ok (.iload 6, 2) := by decide +kernel
theorem dX12_ofKey_107 : decode cX12_ofKey 107 = .ok (.iadd, 1) := by decide +kernel
theorem dX12_ofKey_108 : decode cX12_ofKey 108 = .ok (.goto 5, 3) := by decide +kernel
theorem dX12_ofKey_111 : decode cX12_ofKey 111 = .ok (.iload 6, 2) := by decide +kernel
theorem dX12_ofKey_113 : decode cX12_ofKey 113 = .ok (.ireturn, 1) := by decide +kernel
theorem dX12_inSecondWay_0 : decode cX12_inSecondWay 0 = .ok (.iconst 0, 1) := by decide +kernel
theorem dX12_inSecondWay_1 : decode cX12_inSecondWay 1 = .ok (.istore_n 3, 1) := by decide +kernel
theorem dX12_inSecondWay_2 : decode cX12_inSecondWay 2 = .ok (.iconst 0, 1) := by decide +kernel
theorem dX12_inSecondWay_3 : decode cX12_inSecondWay 3 = .ok (.istore 4, 2) := by decide +kernel
theorem dX12_inSecondWay_5 : decode cX12_inSecondWay 5 = .ok (.iload 4, 2) := by decide +kernel
theorem dX12_inSecondWay_7 : decode cX12_inSecondWay 7 = .ok (.aload_n 0, 1) := by decide +kernel
theorem dX12_inSecondWay_8 : decode cX12_inSecondWay 8 = .ok (.getfield 7, 3) := by decide +kernel
theorem dX12_inSecondWay_11 : decode cX12_inSecondWay 11 = .ok (.sipush 1103, 3) := by decide +kernel
theorem dX12_inSecondWay_14 : decode cX12_inSecondWay 14 = .ok (.iaload, 1) := by decide +kernel
theorem dX12_inSecondWay_15 : decode cX12_inSecondWay 15 = .ok (.if_icmp .ge 53, 3) := by decide +kernel
theorem dX12_inSecondWay_18 : decode cX12_inSecondWay 18 = .ok (.aload_n 0, 1) := by decide +kernel
theorem dX12_inSecondWay_19 : decode cX12_inSecondWay 19 = .ok (.iload 4, 2) := by decide +kernel
theorem dX12_inSecondWay_21 : decode cX12_inSecondWay 21 = .ok (.invokevirtual 211, 3) := by decide +kernel
theorem dX12_inSecondWay_24 : decode cX12_inSecondWay 24 = .ok (.ifCond .eq 38, 3) := by decide +kernel
theorem dX12_inSecondWay_27 : decode cX12_inSecondWay 27 = .ok (.iload_n 1, 1) := by decide +kernel
theorem dX12_inSecondWay_28 : decode cX12_inSecondWay 28 = .ok (.iconst (-1), 1) := by decide +kernel
theorem dX12_inSecondWay_29 : decode cX12_inSecondWay 29 = .ok (.if_icmp .eq 14, 3) := by decide +kernel
theorem dX12_inSecondWay_32 : decode cX12_inSecondWay 32 = .ok (.aload_n 0, 1) := by decide +kernel
theorem dX12_inSecondWay_33 : decode cX12_inSecondWay 33 = .ok (.iload 4, 2) := by decide +kernel
theorem dX12_inSecondWay_35 : decode cX12_inSecondWay 35 = .ok (.iconst 0, 1) := by decide +kernel
theorem dX12_inSecondWay_36 : decode cX12_inSecondWay 36 = .ok (.invokevirtual 170, 3) := by decide +kernel
theorem dX12_inSecondWay_39 : decode cX12_inSecondWay 39 = .ok (.iload_n 1, 1) := by decide +kernel
theorem dX12_inSecondWay_40 : decode cX12_inSecondWay 40 = .ok (.if_icmp .ne 22, 3) := by decide +kernel
theorem dX12_inSecondWay_43 : decode cX12_inSecondWay 43 = .ok (.iload_n 3, 1) := by decide +kernel
theorem dX12_inSecondWay_44 : decode cX12_inSecondWay 44 = .ok (.iload_n 2, 1) := by decide +kernel
theorem dX12_inSecondWay_45 : decode cX12_inSecondWay 45 = .ok (.iconst 4, 1) := by decide +kernel
theorem dX12_inSecondWay_46 : decode cX12_inSecondWay 46 = .ok (.if_icmp .ne 7, 3) := by decide +kernel
theorem dX12_inSecondWay_49 : decode cX12_inSecondWay 49 = .ok (.iconst 1, 1) := by decide +kernel
theorem dX12_inSecondWay_50 : decode cX12_inSecondWay 50 = .ok (.goto 10, 3) := by decide +kernel
theorem dX12_inSecondWay_53 : decode cX12_inSecondWay 53 = .ok (.aload_n 0, 1) := by decide +kernel
theorem dX12_inSecondWay_54 : decode cX12_inSecondWay 54 = .ok (.iload 4, 2) := by decide +kernel
theorem dX12_inSecondWay_56 : decode cX12_inSecondWay 56 = .ok (.iload_n 2, 1) := by decide +kernel
theorem dX12_inSecondWay_57 : decode cX12_inSecondWay 57 = .ok (.invokevirtual 214, 3) := by decide +kernel
theorem dX12_inSecondWay_60 : decode cX12_inSecondWay 60 = .ok (.iadd, 1) := by decide +kernel
theorem dX12_inSecondWay_61 : decode cX12_inSecondWay 61 = .ok (.istore_n 3, 1) := by decide +kernel
theorem dX12_inSecondWay_62 : decode cX12_inSecondWay 62 = .ok (.iinc 4 1, 3) := by decide +kernel
theorem dX12_inSecondWay_65 : decode cX12_inSecondWay 65 = .ok (.goto (-60), 3) := by decide +kernel
theorem dX12_inSecondWay_68 : decode cX12_inSecondWay 68 = .ok (.iload_n 3, 1) := by decide +kernel
theorem dX12_inSecondWay_69 : decode cX12_inSecondWay 69 = .ok (.ireturn, 1) := by decide +kernel
theorem dX12_again_0 : decode cX12_again 0 = .ok (.iload_n 1, 1) := by decide +kernel
theorem dX12_again_1 : decode cX12_again 1 = .ok (.iconst (-1), 1) := by decide +kernel
theorem dX12_again_2 : decode cX12_again 2 = .ok (.if_icmp .lt 12, 3) := by decide +kernel
theorem dX12_again_5 : decode cX12_again 5 = .ok (.iload_n 2, 1) := by decide +kernel
theorem dX12_again_6 : decode cX12_again 6 = .ok (.iconst 0, 1) := by decide +kernel
theorem dX12_again_7 : decode cX12_again 7 = .ok (.iconst 4, 1) := by decide +kernel
theorem dX12_again_8 : decode cX12_again 8 = .ok (.invokestatic 64, 3) := by decide +kernel
theorem dX12_again_11 : decode cX12_again 11 = .ok (.ifCond .ne 8, 3) := by decide +kernel
theorem dX12_again_14 : decode cX12_again 14 = .ok (.ldc 117, 2) := by decide +kernel
theorem dX12_again_16 : decode cX12_again 16 = .ok (.goto 9, 3) := by decide +kernel
theorem dX12_again_19 : decode cX12_again 19 = .ok (.aload_n 0, 1) := by decide +kernel
theorem dX12_again_20 : decode cX12_again 20 = .ok (.iload_n 1, 1) := by decide +kernel
theorem dX12_again_21 : decode cX12_again 21 = .ok (.iload_n 2, 1) := by decide +kernel
theorem dX12_again_22 : decode cX12_again 22 = .ok (.invokevirtual 217, 3) := by decide +kernel
theorem dX12_again_25 : decode cX12_again 25 = .ok (.ireturn, 1) := by decide +kernel
theorem dX12_ofAll_0 : decode cX12_ofAll 0 = .ok (.aload_n 0, 1) := by decide +kernel
theorem dX12_ofAll_1 : decode cX12_ofAll 1 = .ok (.getfield 7, 3) := by decide +kernel
theorem dX12_ofAll_4 : decode cX12_ofAll 4 = .ok (.sipush 1305, 3) := by decide +kernel
theorem dX12_ofAll_7 : decode cX12_ofAll 7 = .ok (.bipush 9, 2) := by decide +kernel
theorem dX12_ofAll_9 : decode cX12_ofAll 9 = .ok (.aload_n 0, 1) := by decide +kernel
theorem dX12_ofAll_10 : decode cX12_ofAll 10 = .ok (.getfield 7, 3) := by decide +kernel
theorem dX12_ofAll_13 : decode cX12_ofAll 13 = .ok (.sipush 1304, 3) := by decide +kernel
theorem dX12_ofAll_16 : decode cX12_ofAll 16 = .ok (.iaload, 1) := by decide +kernel
theorem dX12_ofAll_17 : decode cX12_ofAll 17 = .ok (.iconst 1, 1) := by decide +kernel
theorem dX12_ofAll_18 : decode cX12_ofAll 18 = .ok (.isub, 1) := by decide +kernel
theorem dX12_ofAll_19 : decode cX12_ofAll 19 = .ok (.imul, 1) := by decide +kernel
theorem dX12_ofAll_20 : decode cX12_ofAll 20 = .ok (.iadd, 1) := by decide +kernel
theorem dX12_ofAll_21 : decode cX12_ofAll 21 = .ok (.iconst 4, 1) := by decide +kernel
theorem dX12_ofAll_22 : decode cX12_ofAll 22 = .ok (.iadd, 1) := by decide +kernel
theorem dX12_ofAll_23 : decode cX12_ofAll 23 = .ok (.iload_n 1, 1) := by decide +kernel
theorem dX12_ofAll_24 : decode cX12_ofAll 24 = .ok (.iadd, 1) := by decide +kernel
theorem dX12_ofAll_25 : decode cX12_ofAll 25 = .ok (.iaload, 1) := by decide +kernel
theorem dX12_ofAll_26 : decode cX12_ofAll 26 = .ok (.ireturn, 1) := by decide +kernel
theorem dX12_agrees_0 : decode cX12_agrees 0 = .ok (.iconst 1, 1) := by decide +kernel
theorem dX12_agrees_1 : decode cX12_agrees 1 = .ok (.istore_n 1, 1) := by decide +kernel
theorem dX12_agrees_2 : decode cX12_agrees 2 = .ok (.iconst 0, 1) := by decide +kernel
theorem dX12_agrees_3 : decode cX12_agrees 3 = .ok (.istore_n 2, 1) := by decide +kernel
theorem dX12_agrees_4 : decode cX12_agrees 4 = .ok (.iload_n 2, 1) := by decide +kernel
theorem dX12_agrees_5 : decode cX12_agrees 5 = .ok (.iconst 4, 1) := by decide +kernel
theorem dX12_agrees_6 : decode cX12_agrees 6 = .ok (.if_icmp .ge 42, 3) := by decide +kernel
theorem dX12_agrees_9 : decode cX12_agrees 9 = .ok (.aload_n 0, 1) := by decide +kernel
theorem dX12_agrees_10 : decode cX12_agrees 10 = .ok (.getfield 7, 3) := by decide +kernel
theorem dX12_agrees_13 : decode cX12_agrees 13 = .ok (.sipush 1304, 3) := by decide +kernel
theorem dX12_agrees_16 : decode cX12_agrees 16 = .ok (.iaload, 1) := by decide +kernel
theorem dX12_agrees_17 : decode cX12_agrees 17 = .ok (.ifCond .le 31, 3) := by decide +kernel
theorem dX12_agrees_20 : decode cX12_agrees 20 = .ok (.iload_n 1, 1) := by decide +kernel
theorem dX12_agrees_21 : decode cX12_agrees 21 = .ok (.aload_n 0, 1) := by decide +kernel
theorem dX12_agrees_22 : decode cX12_agrees 22 = .ok (.iload_n 2, 1) := by decide +kernel
theorem dX12_agrees_23 : decode cX12_agrees 23 = .ok (.invokevirtual 220, 3) := by decide +kernel
theorem dX12_agrees_26 : decode cX12_agrees 26 = .ok (.aload_n 0, 1) := by decide +kernel
theorem dX12_agrees_27 : decode cX12_agrees 27 = .ok (.iconst (-1), 1) := by decide +kernel
theorem dX12_agrees_28 : decode cX12_agrees 28 = .ok (.iload_n 2, 1) := by decide +kernel
theorem dX12_agrees_29 : decode cX12_agrees 29 = .ok (.invokevirtual 217, 3) := by decide +kernel
theorem dX12_agrees_32 : decode cX12_agrees 32 = .ok (.if_icmp .ne 7, 3) := by decide +kernel
theorem dX12_agrees_35 : decode cX12_agrees 35 = .ok (.iconst 1, 1) := by decide +kernel
theorem dX12_agrees_36 : decode cX12_agrees 36 = .ok (.goto 4, 3) := by decide +kernel
theorem dX12_agrees_39 : decode cX12_agrees 39 = .ok (.iconst 0, 1) := by decide +kernel
theorem dX12_agrees_40 : decode cX12_agrees 40 = .ok (.iand, 1) := by decide +kernel
theorem dX12_agrees_41 : decode cX12_agrees 41 = .ok (.istore_n 1, 1) := by decide +kernel
theorem dX12_agrees_42 : decode cX12_agrees 42 = .ok (.iinc 2 1, 3) := by decide +kernel
theorem dX12_agrees_45 : decode cX12_agrees 45 = .ok (.goto (-41), 3) := by decide +kernel
theorem dX12_agrees_48 : decode cX12_agrees 48 = .ok (.iload_n 1, 1) := by decide +kernel
theorem dX12_agrees_49 : decode cX12_agrees 49 = .ok (.ifCond .eq 7, 3) := by decide +kernel
theorem dX12_agrees_52 : decode cX12_agrees 52 = .ok (.iconst 1, 1) := by decide +kernel
theorem dX12_agrees_53 : decode cX12_agrees 53 = .ok (.goto 4, 3) := by decide +kernel
theorem dX12_agrees_56 : decode cX12_agrees 56 = .ok (.iconst 0, 1) := by decide +kernel
theorem dX12_agrees_57 : decode cX12_agrees 57 = .ok (.ireturn, 1) := by decide +kernel
theorem dX12_keyOf_0 : decode cX12_keyOf 0 = .ok (.aload_n 0, 1) := by decide +kernel
theorem dX12_keyOf_1 : decode cX12_keyOf 1 = .ok (.iload_n 1, 1) := by decide +kernel
theorem dX12_keyOf_2 : decode cX12_keyOf 2 = .ok (.iconst 0, 1) := by decide +kernel
theorem dX12_keyOf_3 : decode cX12_keyOf 3 = .ok (.invokevirtual 170, 3) := by decide +kernel
theorem dX12_keyOf_6 : decode cX12_keyOf 6 = .ok (.aload_n 0, 1) := by decide +kernel
theorem dX12_keyOf_7 : decode cX12_keyOf 7 = .ok (.iload_n 1, 1) := by decide +kernel
theorem dX12_keyOf_8 : decode cX12_keyOf 8 = .ok (.iconst 1, 1) := by decide +kernel
theorem dX12_keyOf_9 : decode cX12_keyOf 9 = .ok (.invokevirtual 170, 3) := by decide +kernel
theorem dX12_keyOf_12 : decode cX12_keyOf 12 = .ok (.aload_n 0, 1) := by decide +kernel
theorem dX12_keyOf_13 : decode cX12_keyOf 13 = .ok (.iload_n 1, 1) := by decide +kernel
theorem dX12_keyOf_14 : decode cX12_keyOf 14 = .ok (.iconst 2, 1) := by decide +kernel
theorem dX12_keyOf_15 : decode cX12_keyOf 15 = .ok (.invokevirtual 170, 3) := by decide +kernel
theorem dX12_keyOf_18 : decode cX12_keyOf 18 = .ok (.invokestatic 166, 3) := by decide +kernel
theorem dX12_keyOf_21 : decode cX12_keyOf 21 = .ok (.lreturn, 1) := by decide +kernel
theorem dX12_rank_0 : decode cX12_rank 0 = .ok (.iconst 0, 1) := by decide +kernel
theorem dX12_rank_1 : decode cX12_rank 1 = .ok (.istore_n 2, 1) := by decide +kernel
theorem dX12_rank_2 : decode cX12_rank 2 = .ok (.iconst 0, 1) := by decide +kernel
theorem dX12_rank_3 : decode cX12_rank 3 = .ok (.istore_n 3, 1) := by decide +kernel
theorem dX12_rank_4 : decode cX12_rank 4 = .ok (.iload_n 3, 1) := by decide +kernel
theorem dX12_rank_5 : decode cX12_rank 5 = .ok (.aload_n 0, 1) := by decide +kernel
theorem dX12_rank_6 : decode cX12_rank 6 = .ok (.getfield 7, 3) := by decide +kernel
theorem dX12_rank_9 : decode cX12_rank 9 = .ok (.sipush 1103, 3) := by decide +kernel
theorem dX12_rank_12 : decode cX12_rank 12 = .ok (.iaload, 1) := by decide +kernel
theorem dX12_rank_13 : decode cX12_rank 13 = .ok (.if_icmp .ge 81, 3) := by decide +kernel
theorem dX12_rank_16 : decode cX12_rank 16 = .ok (.aload_n 0, 1) := by decide +kernel
theorem dX12_rank_17 : decode cX12_rank 17 = .ok (.iload_n 3, 1) := by decide +kernel
theorem dX12_rank_18 : decode cX12_rank 18 = .ok (.iconst 2, 1) := by decide +kernel
theorem dX12_rank_19 : decode cX12_rank 19 = .ok (.invokevirtual 214, 3) := by decide +kernel
theorem dX12_rank_22 : decode cX12_rank 22 = .ok (.aload_n 0, 1) := by decide +kernel
theorem dX12_rank_23 : decode cX12_rank 23 = .ok (.iload_n 1, 1) := by decide +kernel
theorem dX12_rank_24 : decode cX12_rank 24 = .ok (.iconst 2, 1) := by decide +kernel
theorem dX12_rank_25 : decode cX12_rank 25 = .ok (.invokevirtual 214, 3) := by decide +kernel
theorem dX12_rank_28 : decode cX12_rank 28 = .ok (.if_icmp .gt 32, 3) := by decide +kernel
theorem dX12_rank_31 : decode cX12_rank 31 = .ok (.aload_n 0, 1) := by decide +kernel
theorem dX12_rank_32 : decode cX12_rank 32 = .ok (.iload_n 3, 1) := by decide +kernel
theorem dX12_rank_33 : decode cX12_rank 33 = .ok (.iconst 2, 1) := by decide +kernel
theorem dX12_rank_34 : decode cX12_rank 34 = .ok (.invokevirtual 214, 3) := by decide +kernel
theorem dX12_rank_37 : decode cX12_rank 37 = .ok (.aload_n 0, 1) := by decide +kernel
theorem dX12_rank_38 : decode cX12_rank 38 = .ok (.iload_n 1, 1) := by decide +kernel
theorem dX12_rank_39 : decode cX12_rank 39 = .ok (.iconst 2, 1) := by decide +kernel
theorem dX12_rank_40 : decode cX12_rank 40 = .ok (.invokevirtual 214, 3) := by decide +kernel
theorem dX12_rank_43 : decode cX12_rank 43 = .ok (.if_icmp .ne 21, 3) := by decide +kernel
theorem dX12_rank_46 : decode cX12_rank 46 = .ok (.aload_n 0, 1) := by decide +kernel
theorem dX12_rank_47 : decode cX12_rank 47 = .ok (.iload_n 3, 1) := by decide +kernel
theorem dX12_rank_48 : decode cX12_rank 48 = .ok (.invokevirtual 223, 3) := by decide +kernel
theorem dX12_rank_51 : decode cX12_rank 51 = .ok (.aload_n 0, 1) := by decide +kernel
theorem dX12_rank_52 : decode cX12_rank 52 = .ok (.iload_n 1, 1) := by decide +kernel
theorem dX12_rank_53 : decode cX12_rank 53 = .ok (.invokevirtual 223, 3) := by decide +kernel
theorem dX12_rank_56 : decode cX12_rank 56 = .ok (.lcmp, 1) := by decide +kernel
theorem dX12_rank_57 : decode cX12_rank 57 = .ok (.ifCond .ge 7, 3) := by decide +kernel
theorem dX12_rank_60 : decode cX12_rank 60 = .ok (.iconst 1, 1) := by decide +kernel
theorem dX12_rank_61 : decode cX12_rank 61 = .ok (.goto 4, 3) := by decide +kernel
theorem dX12_rank_64 : decode cX12_rank 64 = .ok (.iconst 0, 1) := by decide +kernel
theorem dX12_rank_65 : decode cX12_rank 65 = .ok (.istore 4, 2) := by decide +kernel
theorem dX12_rank_67 : decode cX12_rank 67 = .ok (.iload_n 2, 1) := by decide +kernel
theorem dX12_rank_68 : decode cX12_rank 68 = .ok (.aload_n 0, 1) := by decide +kernel
theorem dX12_rank_69 : decode cX12_rank 69 = .ok (.iload_n 3, 1) := by decide +kernel
theorem dX12_rank_70 : decode cX12_rank 70 = .ok (.invokevirtual 211, 3) := by decide +kernel
theorem dX12_rank_73 : decode cX12_rank 73 = .ok (.ifCond .eq 12, 3) := by decide +kernel
theorem dX12_rank_76 : decode cX12_rank 76 = .ok (.iload 4, 2) := by decide +kernel
theorem dX12_rank_78 : decode cX12_rank 78 = .ok (.ifCond .eq 7, 3) := by decide +kernel
theorem dX12_rank_81 : decode cX12_rank 81 = .ok (.iconst 1, 1) := by decide +kernel
theorem dX12_rank_82 : decode cX12_rank 82 = .ok (.goto 4, 3) := by decide +kernel
theorem dX12_rank_85 : decode cX12_rank 85 = .ok (.iconst 0, 1) := by decide +kernel
theorem dX12_rank_86 : decode cX12_rank 86 = .ok (.iadd, 1) := by decide +kernel
theorem dX12_rank_87 : decode cX12_rank 87 = .ok (.istore_n 2, 1) := by decide +kernel
theorem dX12_rank_88 : decode cX12_rank 88 = .ok (.iinc 3 1, 3) := by decide +kernel
theorem dX12_rank_91 : decode cX12_rank 91 = .ok (.goto (-87), 3) := by decide +kernel
theorem dX12_rank_94 : decode cX12_rank 94 = .ok (.iload_n 2, 1) := by decide +kernel
theorem dX12_rank_95 : decode cX12_rank 95 = .ok (.ireturn, 1) := by decide +kernel
theorem dX12_ranked_0 : decode cX12_ranked 0 = .ok (.iload_n 1, 1) := by decide +kernel
theorem dX12_ranked_1 : decode cX12_ranked 1 = .ok (.ifCond .lt 12, 3) := by decide +kernel
theorem dX12_ranked_4 : decode cX12_ranked 4 = .ok (.iload_n 2, 1) := by decide +kernel
theorem dX12_ranked_5 : decode cX12_ranked 5 = .ok (.iconst 0, 1) := by decide +kernel
theorem dX12_ranked_6 : decode cX12_ranked 6 = .ok (.iconst 3, 1) := by decide +kernel
theorem dX12_ranked_7 : decode cX12_ranked 7 = .ok (.invokestatic 64, 3) := by decide +kernel
theorem dX12_ranked_10 : decode cX12_ranked 10 = .ok (.ifCond .ne 6, 3) := by decide +kernel
theorem dX12_ranked_13 : decode cX12_ranked 13 = .ok (.ldc 117, 2) := by decide +kernel
theorem dX12_ranked_15 : decode cX12_ranked 15 = .ok (.ireturn, 1) := by decide +kernel
theorem dX12_ranked_16 : decode cX12_ranked 16 = .ok (.iconst 0, 1) := by decide +kernel
theorem dX12_ranked_17 : decode cX12_ranked 17 = .ok (.istore_n 3, 1) := by decide +kernel
theorem dX12_ranked_18 : decode cX12_ranked 18 = .ok (.iload_n 3, 1) := by decide +kernel
theorem dX12_ranked_19 : decode cX12_ranked 19 = .ok (.aload_n 0, 1) := by decide +kernel
theorem dX12_ranked_20 : decode cX12_ranked 20 = .ok (.getfield 7, 3) := by decide +kernel
theorem dX12_ranked_23 : decode cX12_ranked 23 = .ok (.sipush 1103, 3) := by decide +kernel
theorem dX12_ranked_26 : decode cX12_ranked 26 = .ok (.iaload, 1) := by decide +kernel
theorem dX12_ranked_27 : decode cX12_ranked 27 = .ok (.if_icmp .ge 47, 3) := by decide +kernel
theorem dX12_ranked_30 : decode cX12_ranked 30 = .ok (.aload_n 0, 1) := by decide +kernel
theorem dX12_ranked_31 : decode cX12_ranked 31 = .ok (.iload_n 3, 1) := by decide +kernel
theorem dX12_ranked_32 : decode cX12_ranked 32 = .ok (.invokevirtual 211, 3) := by decide +kernel
theorem dX12_ranked_35 : decode cX12_ranked 35 = .ok (.ifCond .eq 33, 3) := by decide +kernel
theorem dX12_ranked_38 : decode cX12_ranked 38 = .ok (.aload_n 0, 1) := by decide +kernel
theorem dX12_ranked_39 : decode cX12_ranked 39 = .ok (.iload_n 3, 1) := by decide +kernel
theorem dX12_ranked_40 : decode cX12_ranked 40 = .ok (.invokevirtual 227, 3) := by decide +kernel
theorem dX12_ranked_43 : decode cX12_ranked 43 = .ok (.iload_n 1, 1) := by decide +kernel
theorem dX12_ranked_44 : decode cX12_ranked 44 = .ok (.if_icmp .ne 24, 3) := by decide +kernel
theorem dX12_ranked_47 : decode cX12_ranked 47 = .ok (.iload_n 2, 1) := by decide +kernel
theorem dX12_ranked_48 : decode cX12_ranked 48 = .ok (.iconst 3, 1) := by decide +kernel
theorem dX12_ranked_49 : decode cX12_ranked 49 = .ok (.if_icmp .ge 12, 3) := by decide +kernel
theorem dX12_ranked_52 : decode cX12_ranked 52 = .ok (.aload_n 0, 1) := by decide +kernel
theorem dX12_ranked_53 : decode cX12_ranked 53 = .ok (.iload_n 3, 1) := by decide +kernel
theorem dX12_ranked_54 : decode cX12_ranked 54 = .ok (.iload_n 2, 1) := by decide +kernel
theorem dX12_ranked_55 : decode cX12_ranked 55 = .ok (.invokevirtual 170, 3) := by decide +kernel
theorem dX12_ranked_58 : decode cX12_ranked 58 = .ok (.goto 9, 3) := by decide +kernel
theorem dX12_ranked_61 : decode cX12_ranked 61 = .ok (.aload_n 0, 1) := by decide +kernel
theorem dX12_ranked_62 : decode cX12_ranked 62 = .ok (.iload_n 3, 1) := by decide +kernel
theorem dX12_ranked_63 : decode cX12_ranked 63 = .ok (.iconst 2, 1) := by decide +kernel
theorem dX12_ranked_64 : decode cX12_ranked 64 = .ok (.invokevirtual 214, 3) := by decide +kernel
theorem dX12_ranked_67 : decode cX12_ranked 67 = .ok (.ireturn, 1) := by decide +kernel
theorem dX12_ranked_68 : decode cX12_ranked 68 = .ok (.iinc 3 1, 3) := by decide +kernel
theorem dX12_ranked_71 : decode cX12_ranked 71 = .ok (.goto (-53), 3) := by decide +kernel
theorem dX12_ranked_74 : decode cX12_ranked 74 = .ok (.ldc 22, 2) := by decide +kernel
theorem dX12_ranked_76 : decode cX12_ranked 76 = .ok (.ireturn, 1) := by decide +kernel
theorem dX12_mean_0 : decode cX12_mean 0 = .ok (.aload_n 0, 1) := by decide +kernel
theorem dX12_mean_1 : decode cX12_mean 1 = .ok (.getfield 7, 3) := by decide +kernel
theorem dX12_mean_4 : decode cX12_mean 4 = .ok (.sipush 1304, 3) := by decide +kernel
theorem dX12_mean_7 : decode cX12_mean 7 = .ok (.iaload, 1) := by decide +kernel
theorem dX12_mean_8 : decode cX12_mean 8 = .ok (.ifCond .eq 11, 3) := by decide +kernel
theorem dX12_mean_11 : decode cX12_mean 11 = .ok (.aload_n 0, 1) := by decide +kernel
theorem dX12_mean_12 : decode cX12_mean 12 = .ok (.iconst 1, 1) := by decide +kernel
theorem dX12_mean_13 : decode cX12_mean 13 = .ok (.invokevirtual 220, 3) := by decide +kernel
theorem dX12_mean_16 : decode cX12_mean 16 = .ok (.ifCond .ne 7, 3) := by decide +kernel
theorem dX12_mean_19 : decode cX12_mean 19 = .ok (.fconst 0, 1) := by decide +kernel
theorem dX12_mean_20 : decode cX12_mean 20 = .ok (.goto 21, 3) := by decide +kernel
theorem dX12_mean_23 : decode cX12_mean 23 = .ok (.ldc2_w 230, 3) := by decide +kernel
theorem dX12_mean_26 : decode cX12_mean 26 = .ok (.aload_n 0, 1) := by decide +kernel
theorem dX12_mean_27 : decode cX12_mean 27 = .ok (.iconst 2, 1) := by decide +kernel
theorem dX12_mean_28 : decode cX12_mean 28 = .ok (.invokevirtual 220, 3) := by decide +kernel
theorem dX12_mean_31 : decode cX12_mean 31 = .ok (.i2l, 1) := by decide +kernel
theorem dX12_mean_32 : decode cX12_mean 32 = .ok (.lmul, 1) := by decide +kernel
theorem dX12_mean_33 : decode cX12_mean 33 = .ok (.l2f, 1) := by decide +kernel
theorem dX12_mean_34 : decode cX12_mean 34 = .ok (.aload_n 0, 1) := by decide +kernel
theorem dX12_mean_35 : decode cX12_mean 35 = .ok (.iconst 1, 1) := by decide +kernel
theorem dX12_mean_36 : decode cX12_mean 36 = .ok (.invokevirtual 220, 3) := by decide +kernel
theorem dX12_mean_39 : decode cX12_mean 39 = .ok (.i2f, 1) := by decide +kernel
theorem dX12_mean_40 : decode cX12_mean 40 = .ok (.fdiv, 1) := by decide +kernel
theorem dX12_mean_41 : decode cX12_mean 41 = .ok (.freturn, 1) := by decide +kernel
theorem dX12_putAside_0 : decode cX12_putAside 0 = .ok (.iconst 0, 1) := by decide +kernel
theorem dX12_putAside_1 : decode cX12_putAside 1 = .ok (.istore_n 1, 1) := by decide +kernel
theorem dX12_putAside_2 : decode cX12_putAside 2 = .ok (.iload_n 1, 1) := by decide +kernel
theorem dX12_putAside_3 : decode cX12_putAside 3 = .ok (.sipush 2754, 3) := by decide +kernel
theorem dX12_putAside_6 : decode cX12_putAside 6 = .ok (.if_icmp .ge 21, 3) := by decide +kernel
theorem dX12_putAside_9 : decode cX12_putAside 9 = .ok (.aload_n 0, 1) := by decide +kernel
theorem dX12_putAside_10 : decode cX12_putAside 10 = .ok (.getfield 54, 3) := by decide +kernel
theorem dX12_putAside_13 : decode cX12_putAside 13 = .ok (.iload_n 1, 1) := by decide +kernel
theorem dX12_putAside_14 : decode cX12_putAside 14 = .ok (.aload_n 0, 1) := by decide +kernel
theorem dX12_putAside_15 : decode cX12_putAside 15 = .ok (.getfield 7, 3) := by decide +kernel
theorem dX12_putAside_18 : decode cX12_putAside 18 = .ok (.iload_n 1, 1) := by decide +kernel
theorem dX12_putAside_19 : decode cX12_putAside 19 = .ok (.iaload, 1) := by decide +kernel
theorem dX12_putAside_20 : decode cX12_putAside 20 = .ok (.iastore, 1) := by decide +kernel
theorem dX12_putAside_21 : decode cX12_putAside 21 = .ok (.iinc 1 1, 3) := by decide +kernel
theorem dX12_putAside_24 : decode cX12_putAside 24 = .ok (.goto (-22), 3) := by decide +kernel
theorem dX12_putAside_27 : decode cX12_putAside 27 = .ok (.return_, 1) := by decide +kernel
theorem dX12_putBack_0 : decode cX12_putBack 0 = .ok (.iconst 0, 1) := by decide +kernel
theorem dX12_putBack_1 : decode cX12_putBack 1 = .ok (.istore_n 1, 1) := by decide +kernel
theorem dX12_putBack_2 : decode cX12_putBack 2 = .ok (.iload_n 1, 1) := by decide +kernel
theorem dX12_putBack_3 : decode cX12_putBack 3 = .ok (.sipush 2754, 3) := by decide +kernel
theorem dX12_putBack_6 : decode cX12_putBack 6 = .ok (.if_icmp .ge 21, 3) := by decide +kernel
theorem dX12_putBack_9 : decode cX12_putBack 9 = .ok (.aload_n 0, 1) := by decide +kernel
theorem dX12_putBack_10 : decode cX12_putBack 10 = .ok (.getfield 7, 3) := by decide +kernel
theorem dX12_putBack_13 : decode cX12_putBack 13 = .ok (.iload_n 1, 1) := by decide +kernel
theorem dX12_putBack_14 : decode cX12_putBack 14 = .ok (.aload_n 0, 1) := by decide +kernel
theorem dX12_putBack_15 : decode cX12_putBack 15 = .ok (.getfield 54, 3) := by decide +kernel
theorem dX12_putBack_18 : decode cX12_putBack 18 = .ok (.iload_n 1, 1) := by decide +kernel
theorem dX12_putBack_19 : decode cX12_putBack 19 = .ok (.iaload, 1) := by decide +kernel
theorem dX12_putBack_20 : decode cX12_putBack 20 = .ok (.iastore, 1) := by decide +kernel
theorem dX12_putBack_21 : decode cX12_putBack 21 = .ok (.iinc 1 1, 3) := by decide +kernel
theorem dX12_putBack_24 : decode cX12_putBack 24 = .ok (.goto (-22), 3) := by decide +kernel
theorem dX12_putBack_27 : decode cX12_putBack 27 = .ok (.return_, 1) := by decide +kernel
theorem dX12_makePasses_0 : decode cX12_makePasses 0 = .ok (.aload_n 0, 1) := by decide +kernel
theorem dX12_makePasses_1 : decode cX12_makePasses 1 = .ok (.iconst 0, 1) := by decide +kernel
theorem dX12_makePasses_2 : decode cX12_makePasses 2 = .ok (.invokevirtual 76, 3) := by decide +kernel
theorem dX12_makePasses_5 : decode cX12_makePasses 5 = .ok (.aload_n 0, 1) := by decide +kernel
theorem dX12_makePasses_6 : decode cX12_makePasses 6 = .ok (.iconst 1, 1) := by decide +kernel
theorem dX12_makePasses_7 : decode cX12_makePasses 7 = .ok (.invokevirtual 76, 3) := by decide +kernel
theorem dX12_makePasses_10 : decode cX12_makePasses 10 = .ok (.iadd, 1) := by decide +kernel
theorem dX12_makePasses_11 : decode cX12_makePasses 11 = .ok (.aload_n 0, 1) := by decide +kernel
theorem dX12_makePasses_12 : decode cX12_makePasses 12 = .ok (.iconst 2, 1) := by decide +kernel
theorem dX12_makePasses_13 : decode cX12_makePasses 13 = .ok (.invokevirtual 76, 3) := by decide +kernel
theorem dX12_makePasses_16 : decode cX12_makePasses 16 = .ok (.iadd, 1) := by decide +kernel
theorem dX12_makePasses_17 : decode cX12_makePasses 17 = .ok (.istore_n 2, 1) := by decide +kernel
theorem dX12_makePasses_18 : decode cX12_makePasses 18 = .ok (.iconst 0, 1) := by decide +kernel
theorem dX12_makePasses_19 : decode cX12_makePasses 19 = .ok (.istore_n 3, 1) := by decide +kernel
theorem dX12_makePasses_20 : decode cX12_makePasses 20 = .ok (.iconst 2, 1) := by decide +kernel
theorem dX12_makePasses_21 : decode cX12_makePasses 21 = .ok (.istore 4, 2) := by decide +kernel
theorem dX12_makePasses_23 : decode cX12_makePasses 23 = .ok (.iload 4, 2) := by decide +kernel
theorem dX12_makePasses_25 : decode cX12_makePasses 25 = .ok (.ifCond .lt 53, 3) := by decide +kernel
theorem dX12_makePasses_28 : decode cX12_makePasses 28 = .ok (.aload_n 0, 1) := by decide +kernel
theorem dX12_makePasses_29 : decode cX12_makePasses 29 = .ok (.iload 4, 2) := by decide +kernel
theorem dX12_makePasses_31 : decode cX12_makePasses 31 = .ok (.invokevirtual 76, 3) := by decide +kernel
theorem dX12_makePasses_34 : decode cX12_makePasses 34 = .ok (.iconst 1, 1) := by decide +kernel
theorem dX12_makePasses_35 : decode cX12_makePasses 35 = .ok (.isub, 1) := by decide +kernel
theorem dX12_makePasses_36 : decode cX12_makePasses 36 = .ok (.istore 5, 2) := by decide +kernel
theorem dX12_makePasses_38 : decode cX12_makePasses 38 = .ok (.iload 5, 2) := by decide +kernel
theorem dX12_makePasses_40 : decode cX12_makePasses 40 = .ok (.ifCond .lt 32, 3) := by decide +kernel
theorem dX12_makePasses_43 : decode cX12_makePasses 43 = .ok (.iload_n 3, 1) := by decide +kernel
theorem dX12_makePasses_44 : decode cX12_makePasses 44 = .ok (.iload_n 2, 1) := by decide +kernel
theorem dX12_makePasses_45 : decode cX12_makePasses 45 = .ok (.iload_n 1, 1) := by decide +kernel
theorem dX12_makePasses_46 : decode cX12_makePasses 46 = .ok (.isub, 1) := by decide +kernel
theorem dX12_makePasses_47 : decode cX12_makePasses 47 = .ok (.if_icmp .lt 16, 3) := by decide +kernel
theorem dX12_makePasses_50 : decode cX12_makePasses 50 = .ok (.aload_n 0, 1) := by decide +kernel
theorem dX12_makePasses_51 : decode cX12_makePasses 51 = .ok (.aload_n 0, 1) := by decide +kernel
theorem dX12_makePasses_52 : decode cX12_makePasses 52 = .ok (.iload 4, 2) := by decide +kernel
theorem dX12_makePasses_54 : decode cX12_makePasses 54 = .ok (.invokevirtual 80, 3) := by decide +kernel
theorem dX12_makePasses_57 : decode cX12_makePasses 57 = .ok (.iload 5, 2) := by decide +kernel
theorem dX12_makePasses_59 : decode cX12_makePasses 59 = .ok (.iadd, 1) := by decide +kernel
theorem dX12_makePasses_60 : decode cX12_makePasses 60 = .ok (.invokevirtual 155, 3) := by decide +kernel
theorem dX12_makePasses_63 : decode cX12_makePasses 63 = .ok (.iinc 3 1, 3) := by decide +kernel
theorem dX12_makePasses_66 : decode cX12_makePasses 66 = .ok (.iinc 5 (-1), 3) := by decide +kernel
theorem dX12_makePasses_69 : decode cX12_makePasses 69 = .ok (.goto (-31), 3) := by decide +kernel
theorem dX12_makePasses_72 : decode cX12_makePasses 72 = .ok (.iinc 4 (-1), 3) := by decide +kernel
theorem dX12_makePasses_75 : decode cX12_makePasses 75 = .ok (.goto (-52), 3) := by decide +kernel
theorem dX12_makePasses_78 : decode cX12_makePasses 78 = .ok (.return_, 1) := by decide +kernel
theorem dX12_passes_0 : decode cX12_passes 0 = .ok (.aload_n 0, 1) := by decide +kernel
theorem dX12_passes_1 : decode cX12_passes 1 = .ok (.iconst 0, 1) := by decide +kernel
theorem dX12_passes_2 : decode cX12_passes 2 = .ok (.invokevirtual 76, 3) := by decide +kernel
theorem dX12_passes_5 : decode cX12_passes 5 = .ok (.aload_n 0, 1) := by decide +kernel
theorem dX12_passes_6 : decode cX12_passes 6 = .ok (.iconst 1, 1) := by decide +kernel
theorem dX12_passes_7 : decode cX12_passes 7 = .ok (.invokevirtual 76, 3) := by decide +kernel
theorem dX12_passes_10 : decode cX12_passes 10 = .ok (.iadd, 1) := by decide +kernel
theorem dX12_passes_11 : decode cX12_passes 11 = .ok (.aload_n 0, 1) := by decide +kernel
theorem dX12_passes_12 : decode cX12_passes 12 = .ok (.iconst 2, 1) := by decide +kernel
theorem dX12_passes_13 : decode cX12_passes 13 = .ok (.invokevirtual 76, 3) := by decide +kernel
theorem dX12_passes_16 : decode cX12_passes 16 = .ok (.iadd, 1) := by decide +kernel
theorem dX12_passes_17 : decode cX12_passes 17 = .ok (.istore_n 1, 1) := by decide +kernel
theorem dX12_passes_18 : decode cX12_passes 18 = .ok (.iconst 0, 1) := by decide +kernel
theorem dX12_passes_19 : decode cX12_passes 19 = .ok (.istore_n 2, 1) := by decide +kernel
theorem dX12_passes_20 : decode cX12_passes 20 = .ok (.iload_n 2, 1) := by decide +kernel
theorem dX12_passes_21 : decode cX12_passes 21 = .ok (.iload_n 1, 1) := by decide +kernel
theorem dX12_passes_22 : decode cX12_passes 22 = .ok (.if_icmp .gt 33, 3) := by decide +kernel
theorem dX12_passes_25 : decode cX12_passes 25 = .ok (.aload_n 0, 1) := by decide +kernel
theorem dX12_passes_26 : decode cX12_passes 26 = .ok (.invokevirtual 232, 3) := by decide +kernel
theorem dX12_passes_29 : decode cX12_passes 29 = .ok (.aload_n 0, 1) := by decide +kernel
theorem dX12_passes_30 : decode cX12_passes 30 = .ok (.iload_n 2, 1) := by decide +kernel
theorem dX12_passes_31 : decode cX12_passes 31 = .ok (.invokevirtual 235, 3) := by decide +kernel
theorem dX12_passes_34 : decode cX12_passes 34 = .ok (.aload_n 0, 1) := by decide +kernel
theorem dX12_passes_35 : decode cX12_passes 35 = .ok (.invokevirtual 204, 3) := by decide +kernel
theorem dX12_passes_38 : decode cX12_passes 38 = .ok (.istore_n 3, 1) := by decide +kernel
theorem dX12_passes_39 : decode cX12_passes 39 = .ok (.aload_n 0, 1) := by decide +kernel
theorem dX12_passes_40 : decode cX12_passes 40 = .ok (.invokevirtual 238, 3) := by decide +kernel
theorem dX12_passes_43 : decode cX12_passes 43 = .ok (.iload_n 3, 1) := by decide +kernel
theorem dX12_passes_44 : decode cX12_passes 44 = .ok (.ifCond .eq 5, 3) := by decide +kernel
theorem dX12_passes_47 : decode cX12_passes 47 = .ok (.iload_n 2, 1) := by decide +kernel
theorem dX12_passes_48 : decode cX12_passes 48 = .ok (.ireturn, 1) := by decide +kernel
theorem dX12_passes_49 : decode cX12_passes 49 = .ok (.iinc 2 1, 3) := by decide +kernel
theorem dX12_passes_52 : decode cX12_passes 52 = .ok (.goto (-32), 3) := by decide +kernel
theorem dX12_passes_55 : decode cX12_passes 55 = .ok (.ldc 22, 2) := by decide +kernel
theorem dX12_passes_57 : decode cX12_passes 57 = .ok (.ireturn, 1) := by decide +kernel
theorem dX12_accepts_0 : decode cX12_accepts 0 = .ok (.iload_n 1, 1) := by decide +kernel
theorem dX12_accepts_1 : decode cX12_accepts 1 = .ok (.iconst 0, 1) := by decide +kernel
theorem dX12_accepts_2 : decode cX12_accepts 2 = .ok (.iconst 2, 1) := by decide +kernel
theorem dX12_accepts_3 : decode cX12_accepts 3 = .ok (.invokestatic 64, 3) := by decide +kernel
theorem dX12_accepts_6 : decode cX12_accepts 6 = .ok (.ifCond .ne 6, 3) := by decide +kernel
theorem dX12_accepts_9 : decode cX12_accepts 9 = .ok (.ldc 117, 2) := by decide +kernel
theorem dX12_accepts_11 : decode cX12_accepts 11 = .ok (.ireturn, 1) := by decide +kernel
theorem dX12_accepts_12 : decode cX12_accepts 12 = .ok (.aload_n 0, 1) := by decide +kernel
theorem dX12_accepts_13 : decode cX12_accepts 13 = .ok (.invokevirtual 232, 3) := by decide +kernel
theorem dX12_accepts_16 : decode cX12_accepts 16 = .ok (.aload_n 0, 1) := by decide +kernel
theorem dX12_accepts_17 : decode cX12_accepts 17 = .ok (.getfield 7, 3) := by decide +kernel
theorem dX12_accepts_20 : decode cX12_accepts 20 = .ok (.bipush 12, 2) := by decide +kernel
theorem dX12_accepts_22 : decode cX12_accepts 22 = .ok (.iload_n 1, 1) := by decide +kernel
theorem dX12_accepts_23 : decode cX12_accepts 23 = .ok (.iastore, 1) := by decide +kernel
theorem dX12_accepts_24 : decode cX12_accepts 24 = .ok (.aload_n 0, 1) := by decide +kernel
theorem dX12_accepts_25 : decode cX12_accepts 25 = .ok (.invokevirtual 195, 3) := by decide +kernel
theorem dX12_accepts_28 : decode cX12_accepts 28 = .ok (.aload_n 0, 1) := by decide +kernel
theorem dX12_accepts_29 : decode cX12_accepts 29 = .ok (.getfield 7, 3) := by decide +kernel
theorem dX12_accepts_32 : decode cX12_accepts 32 = .ok (.sipush 1103, 3) := by decide +kernel
theorem dX12_accepts_35 : decode cX12_accepts 35 = .ok (.iaload, 1) := by decide +kernel
theorem dX12_accepts_36 : decode cX12_accepts 36 = .ok (.istore_n 2, 1) := by decide +kernel
theorem dX12_accepts_37 : decode cX12_accepts 37 = .ok (.aload_n 0, 1) := by decide +kernel
theorem dX12_accepts_38 : decode cX12_accepts 38 = .ok (.invokevirtual 238, 3) := by decide +kernel
theorem dX12_accepts_41 : decode cX12_accepts 41 = .ok (.iload_n 2, 1) := by decide +kernel
theorem dX12_accepts_42 : decode cX12_accepts 42 = .ok (.ireturn, 1) := by decide +kernel
theorem dX12_isImage_0 : decode cX12_isImage 0 = .ok (.iload_n 0, 1) := by decide +kernel
theorem dX12_isImage_1 : decode cX12_isImage 1 = .ok (.iconst 0, 1) := by decide +kernel
theorem dX12_isImage_2 : decode cX12_isImage 2 = .ok (.iconst 1, 1) := by decide +kernel
theorem dX12_isImage_3 : decode cX12_isImage 3 = .ok (.invokestatic 64, 3) := by decide +kernel
theorem dX12_isImage_6 : decode cX12_isImage 6 = .ok (.ireturn, 1) := by decide +kernel
theorem dX12_keep_0 : decode cX12_keep 0 = .ok (.iload_n 1, 1) := by decide +kernel
theorem dX12_keep_1 : decode cX12_keep 1 = .ok (.invokestatic 241, 3) := by decide +kernel
theorem dX12_keep_4 : decode cX12_keep 4 = .ok (.ifCond .ne 6, 3) := by decide +kernel
theorem dX12_keep_7 : decode cX12_keep 7 = .ok (.ldc 117, 2) := by decide +kernel
theorem dX12_keep_9 : decode cX12_keep 9 = .ok (.ireturn, 1) := by decide +kernel
theorem dX12_keep_10 : decode cX12_keep 10 = .ok (.iconst 0, 1) := by decide +kernel
theorem dX12_keep_11 : decode cX12_keep 11 = .ok (.istore_n 2, 1) := by decide +kernel
theorem dX12_keep_12 : decode cX12_keep 12 = .ok (.iload_n 2, 1) := by decide +kernel
theorem dX12_keep_13 : decode cX12_keep 13 = .ok (.sipush 2754, 3) := by decide +kernel
theorem dX12_keep_16 : decode cX12_keep 16 = .ok (.if_icmp .ge 27, 3) := by decide +kernel
theorem dX12_keep_19 : decode cX12_keep 19 = .ok (.aload_n 0, 1) := by decide +kernel
theorem dX12_keep_20 : decode cX12_keep 20 = .ok (.getfield 16, 3) := by decide +kernel
theorem dX12_keep_23 : decode cX12_keep 23 = .ok (.sipush 2754, 3) := by decide +kernel
theorem dX12_keep_26 : decode cX12_keep 26 = .ok (.iload_n 1, 1) := by decide +kernel
theorem dX12_keep_27 : decode cX12_keep 27 = .ok (.imul, 1) := by decide +kernel
theorem dX12_keep_28 : decode cX12_keep 28 = .ok (.iload_n 2, 1) := by decide +kernel
theorem dX12_keep_29 : decode cX12_keep 29 = .ok (.iadd, 1) := by decide +kernel
theorem dX12_keep_30 : decode cX12_keep 30 = .ok (.aload_n 0, 1) := by decide +kernel
theorem dX12_keep_31 : decode cX12_keep 31 = .ok (.getfield 7, 3) := by decide +kernel
theorem dX12_keep_34 : decode cX12_keep 34 = .ok (.iload_n 2, 1) := by decide +kernel
theorem dX12_keep_35 : decode cX12_keep 35 = .ok (.iaload, 1) := by decide +kernel
theorem dX12_keep_36 : decode cX12_keep 36 = .ok (.iastore, 1) := by decide +kernel
theorem dX12_keep_37 : decode cX12_keep 37 = .ok (.iinc 2 1, 3) := by decide +kernel
theorem dX12_keep_40 : decode cX12_keep 40 = .ok (.goto (-28), 3) := by decide +kernel
theorem dX12_keep_43 : decode cX12_keep 43 = .ok (.aload_n 0, 1) := by decide +kernel
theorem dX12_keep_44 : decode cX12_keep 44 = .ok (.dup, 1) := by decide +kernel
theorem dX12_keep_45 : decode cX12_keep 45 = .ok (.getfield 244, 3) := by decide +kernel
theorem dX12_keep_48 : decode cX12_keep 48 = .ok (.iconst 1, 1) := by decide +kernel
theorem dX12_keep_49 : decode cX12_keep 49 = .ok (.iload_n 1, 1) := by decide +kernel
theorem dX12_keep_50 : decode cX12_keep 50 = .ok (.ishl, 1) := by decide +kernel
theorem dX12_keep_51 : decode cX12_keep 51 = .ok (.ior, 1) := by decide +kernel
theorem dX12_keep_52 : decode cX12_keep 52 = .ok (.putfield 244, 3) := by decide +kernel
theorem dX12_keep_55 : decode cX12_keep 55 = .ok (.aload_n 0, 1) := by decide +kernel
theorem dX12_keep_56 : decode cX12_keep 56 = .ok (.getfield 7, 3) := by decide +kernel
theorem dX12_keep_59 : decode cX12_keep 59 = .ok (.bipush 19, 2) := by decide +kernel
theorem dX12_keep_61 : decode cX12_keep 61 = .ok (.iaload, 1) := by decide +kernel
theorem dX12_keep_62 : decode cX12_keep 62 = .ok (.ireturn, 1) := by decide +kernel
theorem dX12_back_0 : decode cX12_back 0 = .ok (.iload_n 1, 1) := by decide +kernel
theorem dX12_back_1 : decode cX12_back 1 = .ok (.invokestatic 241, 3) := by decide +kernel
theorem dX12_back_4 : decode cX12_back 4 = .ok (.ifCond .ne 6, 3) := by decide +kernel
theorem dX12_back_7 : decode cX12_back 7 = .ok (.ldc 117, 2) := by decide +kernel
theorem dX12_back_9 : decode cX12_back 9 = .ok (.ireturn, 1) := by decide +kernel
theorem dX12_back_10 : decode cX12_back 10 = .ok (.aload_n 0, 1) := by decide +kernel
theorem dX12_back_11 : decode cX12_back 11 = .ok (.getfield 244, 3) := by decide +kernel
theorem dX12_back_14 : decode cX12_back 14 = .ok (.iload_n 1, 1) := by decide +kernel
theorem dX12_back_15 : decode cX12_back 15 = .ok (.ishr, 1) := by decide +kernel
theorem dX12_back_16 : decode cX12_back 16 = .ok (.iconst 1, 1) := by decide +kernel
theorem dX12_back_17 : decode cX12_back 17 = .ok (.iand, 1) := by decide +kernel
theorem dX12_back_18 : decode cX12_back 18 = .ok (.ifCond .ne 6, 3) := by decide +kernel
theorem dX12_back_21 : decode cX12_back 21 = .ok (.ldc 132, 2) := by decide +kernel
theorem dX12_back_23 : decode cX12_back 23 = .ok (.ireturn, 1) := by decide +kernel
theorem dX12_back_24 : decode cX12_back 24 = .ok (.aload_n 0, 1) := by decide +kernel
theorem dX12_back_25 : decode cX12_back 25 = .ok (.invokevirtual 118, 3) := by decide +kernel
theorem dX12_back_28 : decode cX12_back 28 = .ok (.iconst 0, 1) := by decide +kernel
theorem dX12_back_29 : decode cX12_back 29 = .ok (.istore_n 2, 1) := by decide +kernel
theorem dX12_back_30 : decode cX12_back 30 = .ok (.iload_n 2, 1) := by decide +kernel
theorem dX12_back_31 : decode cX12_back 31 = .ok (.sipush 2754, 3) := by decide +kernel
theorem dX12_back_34 : decode cX12_back 34 = .ok (.if_icmp .ge 27, 3) := by decide +kernel
theorem dX12_back_37 : decode cX12_back 37 = .ok (.aload_n 0, 1) := by decide +kernel
theorem dX12_back_38 : decode cX12_back 38 = .ok (.getfield 7, 3) := by decide +kernel
theorem dX12_back_41 : decode cX12_back 41 = .ok (.iload_n 2, 1) := by decide +kernel
theorem dX12_back_42 : decode cX12_back 42 = .ok (.aload_n 0, 1) := by decide +kernel
theorem dX12_back_43 : decode cX12_back 43 = .ok (.getfield 16, 3) := by decide +kernel
theorem dX12_back_46 : decode cX12_back 46 = .ok (.sipush 2754, 3) := by decide +kernel
theorem dX12_back_49 : decode cX12_back 49 = .ok (.iload_n 1, 1) := by decide +kernel
theorem dX12_back_50 : decode cX12_back 50 = .ok (.imul, 1) := by decide +kernel
theorem dX12_back_51 : decode cX12_back 51 = .ok (.iload_n 2, 1) := by decide +kernel
theorem dX12_back_52 : decode cX12_back 52 = .ok (.iadd, 1) := by decide +kernel
theorem dX12_back_53 : decode cX12_back 53 = .ok (.iaload, 1) := by decide +kernel
theorem dX12_back_54 : decode cX12_back 54 = .ok (.iastore, 1) := by decide +kernel
theorem dX12_back_55 : decode cX12_back 55 = .ok (.iinc 2 1, 3) := by decide +kernel
theorem dX12_back_58 : decode cX12_back 58 = .ok (.goto (-28), 3) := by decide +kernel
theorem dX12_back_61 : decode cX12_back 61 = .ok (.aload_n 0, 1) := by decide +kernel
theorem dX12_back_62 : decode cX12_back 62 = .ok (.getfield 7, 3) := by decide +kernel
theorem dX12_back_65 : decode cX12_back 65 = .ok (.bipush 19, 2) := by decide +kernel
theorem dX12_back_67 : decode cX12_back 67 = .ok (.iaload, 1) := by decide +kernel
theorem dX12_back_68 : decode cX12_back 68 = .ok (.ireturn, 1) := by decide +kernel
theorem dJ9_floorMod_7cf53_0 : decode cJ9_floorMod_7cf53 0 = .ok (.iload_n 0, 1) := by decide +kernel
theorem dJ9_floorMod_7cf53_1 : decode cJ9_floorMod_7cf53 1 = .ok (.iload_n 1, 1) := by decide +kernel
theorem dJ9_floorMod_7cf53_2 : decode cJ9_floorMod_7cf53 2 = .ok (.irem, 1) := by decide +kernel
theorem dJ9_floorMod_7cf53_3 : decode cJ9_floorMod_7cf53 3 = .ok (.istore_n 2, 1) := by decide +kernel
theorem dJ9_floorMod_7cf53_4 : decode cJ9_floorMod_7cf53 4 = .ok (.iload_n 0, 1) := by decide +kernel
theorem dJ9_floorMod_7cf53_5 : decode cJ9_floorMod_7cf53 5 = .ok (.iload_n 1, 1) := by decide +kernel
theorem dJ9_floorMod_7cf53_6 : decode cJ9_floorMod_7cf53 6 = .ok (.ixor, 1) := by decide +kernel
theorem dJ9_floorMod_7cf53_7 : decode cJ9_floorMod_7cf53 7 = .ok (.ifCond .ge 11, 3) := by decide +kernel
theorem dJ9_floorMod_7cf53_10 : decode cJ9_floorMod_7cf53 10 = .ok (.iload_n 2, 1) := by decide +kernel
theorem dJ9_floorMod_7cf53_11 : decode cJ9_floorMod_7cf53 11 = .ok (.ifCond .eq 7, 3) := by decide +kernel
theorem dJ9_floorMod_7cf53_14 : decode cJ9_floorMod_7cf53 14 = .ok (.iload_n 2, 1) := by decide +kernel
theorem dJ9_floorMod_7cf53_15 : decode cJ9_floorMod_7cf53 15 = .ok (.iload_n 1, 1) := by decide +kernel
theorem dJ9_floorMod_7cf53_16 : decode cJ9_floorMod_7cf53 16 = .ok (.iadd, 1) := by decide +kernel
theorem dJ9_floorMod_7cf53_17 : decode cJ9_floorMod_7cf53 17 = .ok (.ireturn, 1) := by decide +kernel
theorem dJ9_floorMod_7cf53_18 : decode cJ9_floorMod_7cf53 18 = .ok (.iload_n 2, 1) := by decide +kernel
theorem dJ9_floorMod_7cf53_19 : decode cJ9_floorMod_7cf53 19 = .ok (.ireturn, 1) := by decide +kernel
theorem dJ9_abs_0f7a4_0 : decode cJ9_abs_0f7a4 0 = .ok (.iload_n 0, 1) := by decide +kernel
theorem dJ9_abs_0f7a4_1 : decode cJ9_abs_0f7a4 1 = .ok (.ifCond .ge 8, 3) := by decide +kernel
theorem dJ9_abs_0f7a4_4 : decode cJ9_abs_0f7a4 4 = .ok (.iload_n 0, 1) := by decide +kernel
theorem dJ9_abs_0f7a4_5 : decode cJ9_abs_0f7a4 5 = .ok (.ineg, 1) := by decide +kernel
theorem dJ9_abs_0f7a4_6 : decode cJ9_abs_0f7a4 6 = .ok (.goto 4, 3) := by decide +kernel
theorem dJ9_abs_0f7a4_9 : decode cJ9_abs_0f7a4 9 = .ok (.iload_n 0, 1) := by decide +kernel
theorem dJ9_abs_0f7a4_10 : decode cJ9_abs_0f7a4 10 = .ok (.ireturn, 1) := by decide +kernel
theorem dJ9_min_7cf53_0 : decode cJ9_min_7cf53 0 = .ok (.iload_n 0, 1) := by decide +kernel
theorem dJ9_min_7cf53_1 : decode cJ9_min_7cf53 1 = .ok (.iload_n 1, 1) := by decide +kernel
theorem dJ9_min_7cf53_2 : decode cJ9_min_7cf53 2 = .ok (.if_icmp .gt 7, 3) := by decide +kernel
theorem dJ9_min_7cf53_5 : decode cJ9_min_7cf53 5 = .ok (.iload_n 0, 1) := by decide +kernel
theorem dJ9_min_7cf53_6 : decode cJ9_min_7cf53 6 = .ok (.goto 4, 3) := by decide +kernel
theorem dJ9_min_7cf53_9 : decode cJ9_min_7cf53 9 = .ok (.iload_n 1, 1) := by decide +kernel
theorem dJ9_min_7cf53_10 : decode cJ9_min_7cf53 10 = .ok (.ireturn, 1) := by decide +kernel
theorem dL_law_0 : decode cL_law 0 = .ok (.new 7, 3) := by decide +kernel
theorem dL_law_3 : decode cL_law 3 = .ok (.dup, 1) := by decide +kernel
theorem dL_law_4 : decode cL_law 4 = .ok (.invokespecial 9, 3) := by decide +kernel
theorem dL_law_7 : decode cL_law 7 = .ok (.astore_n 1, 1) := by decide +kernel
theorem dL_law_8 : decode cL_law 8 = .ok (.new 10, 3) := by decide +kernel
theorem dL_law_11 : decode cL_law 11 = .ok (.dup, 1) := by decide +kernel
theorem dL_law_12 : decode cL_law 12 = .ok (.invokespecial 12, 3) := by decide +kernel
theorem dL_law_15 : decode cL_law 15 = .ok (.astore_n 2, 1) := by decide +kernel
theorem dL_law_16 : decode cL_law 16 = .ok (.iconst 0, 1) := by decide +kernel
theorem dL_law_17 : decode cL_law 17 = .ok (.istore_n 3, 1) := by decide +kernel
theorem dL_law_18 : decode cL_law 18 = .ok (.iload_n 3, 1) := by decide +kernel
theorem dL_law_19 : decode cL_law 19 = .ok (.aload_n 0, 1) := by decide +kernel
theorem dL_law_20 : decode cL_law 20 = .ok (.arraylength, 1) := by decide +kernel
theorem dL_law_21 : decode cL_law 21 = .ok (.iconst 4, 1) := by decide +kernel
theorem dL_law_22 : decode cL_law 22 = .ok (.isub, 1) := by decide +kernel
theorem dL_law_23 : decode cL_law 23 = .ok (.if_icmp .gt 988, 3) := by decide +kernel
theorem dL_law_26 : decode cL_law 26 = .ok (.aload_n 0, 1) := by decide +kernel
theorem dL_law_27 : decode cL_law 27 = .ok (.iload_n 3, 1) := by decide +kernel
theorem dL_law_28 : decode cL_law 28 = .ok (.iaload, 1) := by decide +kernel
theorem dL_law_29 : decode cL_law 29 = .ok (.bipush 31, 2) := by decide +kernel
theorem dL_law_31 : decode cL_law 31 = .ok (.iand, 1) := by decide +kernel
theorem dL_law_32 : decode cL_law 32 = .ok (.tableswitch 973 0 30 #[140, 183, 216, 249, 272, 295, 328, 371, 414, 437, 460, 473, 486, 509, 522, 545, 568, 591, 624, 657, 690, 723, 746, 769, 802, 815, 848, 891, 904, 927, 950], 140) := by decide +kernel
theorem dL_law_172 : decode cL_law 172 = .ok (.aload_n 1, 1) := by decide +kernel
theorem dL_law_173 : decode cL_law 173 = .ok (.aload_n 0, 1) := by decide +kernel
theorem dL_law_174 : decode cL_law 174 = .ok (.iload_n 3, 1) := by decide +kernel
theorem dL_law_175 : decode cL_law 175 = .ok (.iconst 1, 1) := by decide +kernel
theorem dL_law_176 : decode cL_law 176 = .ok (.iadd, 1) := by decide +kernel
theorem dL_law_177 : decode cL_law 177 = .ok (.iaload, 1) := by decide +kernel
theorem dL_law_178 : decode cL_law 178 = .ok (.aload_n 0, 1) := by decide +kernel
theorem dL_law_179 : decode cL_law 179 = .ok (.iload_n 3, 1) := by decide +kernel
theorem dL_law_180 : decode cL_law 180 = .ok (.iconst 2, 1) := by decide +kernel
theorem dL_law_181 : decode cL_law 181 = .ok (.iadd, 1) := by decide +kernel
theorem dL_law_182 : decode cL_law 182 = .ok (.iaload, 1) := by decide +kernel
theorem dL_law_183 : decode cL_law 183 = .ok (.aload_n 0, 1) := by decide +kernel
theorem dL_law_184 : decode cL_law 184 = .ok (.iload_n 3, 1) := by decide +kernel
theorem dL_law_185 : decode cL_law 185 = .ok (.iconst 3, 1) := by decide +kernel
theorem dL_law_186 : decode cL_law 186 = .ok (.iadd, 1) := by decide +kernel
theorem dL_law_187 : decode cL_law 187 = .ok (.iaload, 1) := by decide +kernel
theorem dL_law_188 : decode cL_law 188 = .ok (.invokevirtual 13, 3) := by decide +kernel
theorem dL_law_191 : decode cL_law 191 = .ok (.aload_n 2, 1) := by decide +kernel
theorem dL_law_192 : decode cL_law 192 = .ok (.aload_n 0, 1) := by decide +kernel
theorem dL_law_193 : decode cL_law 193 = .ok (.iload_n 3, 1) := by decide +kernel
theorem dL_law_194 : decode cL_law 194 = .ok (.iconst 1, 1) := by decide +kernel
theorem dL_law_195 : decode cL_law 195 = .ok (.iadd, 1) := by decide +kernel
theorem dL_law_196 : decode cL_law 196 = .ok (.iaload, 1) := by decide +kernel
theorem dL_law_197 : decode cL_law 197 = .ok (.aload_n 0, 1) := by decide +kernel
theorem dL_law_198 : decode cL_law 198 = .ok (.iload_n 3, 1) := by decide +kernel
theorem dL_law_199 : decode cL_law 199 = .ok (.iconst 2, 1) := by decide +kernel
theorem dL_law_200 : decode cL_law 200 = .ok (.iadd, 1) := by decide +kernel
theorem dL_law_201 : decode cL_law 201 = .ok (.iaload, 1) := by decide +kernel
theorem dL_law_202 : decode cL_law 202 = .ok (.aload_n 0, 1) := by decide +kernel
theorem dL_law_203 : decode cL_law 203 = .ok (.iload_n 3, 1) := by decide +kernel
theorem dL_law_204 : decode cL_law 204 = .ok (.iconst 3, 1) := by decide +kernel
theorem dL_law_205 : decode cL_law 205 = .ok (.iadd, 1) := by decide +kernel
theorem dL_law_206 : decode cL_law 206 = .ok (.iaload, 1) := by decide +kernel
theorem dL_law_207 : decode cL_law 207 = .ok (.invokevirtual 17, 3) := by decide +kernel
theorem dL_law_210 : decode cL_law 210 = .ok (.if_icmp .eq 795, 3) := by decide +kernel
theorem dL_law_213 : decode cL_law 213 = .ok (.iconst 0, 1) := by decide +kernel
theorem dL_law_214 : decode cL_law 214 = .ok (.ireturn, 1) := by decide +kernel
theorem dL_law_215 : decode cL_law 215 = .ok (.aload_n 1, 1) := by decide +kernel
theorem dL_law_216 : decode cL_law 216 = .ok (.aload_n 0, 1) := by decide +kernel
theorem dL_law_217 : decode cL_law 217 = .ok (.iload_n 3, 1) := by decide +kernel
theorem dL_law_218 : decode cL_law 218 = .ok (.iconst 1, 1) := by decide +kernel
theorem dL_law_219 : decode cL_law 219 = .ok (.iadd, 1) := by decide +kernel
theorem dL_law_220 : decode cL_law 220 = .ok (.iaload, 1) := by decide +kernel
theorem dL_law_221 : decode cL_law 221 = .ok (.aload_n 0, 1) := by decide +kernel
theorem dL_law_222 : decode cL_law 222 = .ok (.iload_n 3, 1) := by decide +kernel
theorem dL_law_223 : decode cL_law 223 = .ok (.iconst 2, 1) := by decide +kernel
theorem dL_law_224 : decode cL_law 224 = .ok (.iadd, 1) := by decide +kernel
theorem dL_law_225 : decode cL_law 225 = .ok (.iaload, 1) := by decide +kernel
theorem dL_law_226 : decode cL_law 226 = .ok (.invokevirtual 18, 3) := by decide +kernel
theorem dL_law_229 : decode cL_law 229 = .ok (.aload_n 2, 1) := by decide +kernel
theorem dL_law_230 : decode cL_law 230 = .ok (.aload_n 0, 1) := by decide +kernel
theorem dL_law_231 : decode cL_law 231 = .ok (.iload_n 3, 1) := by decide +kernel
theorem dL_law_232 : decode cL_law 232 = .ok (.iconst 1, 1) := by decide +kernel
theorem dL_law_233 : decode cL_law 233 = .ok (.iadd, 1) := by decide +kernel
theorem dL_law_234 : decode cL_law 234 = .ok (.iaload, 1) := by decide +kernel
theorem dL_law_235 : decode cL_law 235 = .ok (.aload_n 0, 1) := by decide +kernel
theorem dL_law_236 : decode cL_law 236 = .ok (.iload_n 3, 1) := by decide +kernel
theorem dL_law_237 : decode cL_law 237 = .ok (.iconst 2, 1) := by decide +kernel
theorem dL_law_238 : decode cL_law 238 = .ok (.iadd, 1) := by decide +kernel
theorem dL_law_239 : decode cL_law 239 = .ok (.iaload, 1) := by decide +kernel
theorem dL_law_240 : decode cL_law 240 = .ok (.invokevirtual 22, 3) := by decide +kernel
theorem dL_law_243 : decode cL_law 243 = .ok (.if_icmp .eq 762, 3) := by decide +kernel
theorem dL_law_246 : decode cL_law 246 = .ok (.iconst 0, 1) := by decide +kernel
theorem dL_law_247 : decode cL_law 247 = .ok (.ireturn, 1) := by decide +kernel
theorem dL_law_248 : decode cL_law 248 = .ok (.aload_n 1, 1) := by decide +kernel
theorem dL_law_249 : decode cL_law 249 = .ok (.aload_n 0, 1) := by decide +kernel
theorem dL_law_250 : decode cL_law 250 = .ok (.iload_n 3, 1) := by decide +kernel
theorem dL_law_251 : decode cL_law 251 = .ok (.iconst 1, 1) := by decide +kernel
theorem dL_law_252 : decode cL_law 252 = .ok (.iadd, 1) := by decide +kernel
theorem dL_law_253 : decode cL_law 253 = .ok (.iaload, 1) := by decide +kernel
theorem dL_law_254 : decode cL_law 254 = .ok (.aload_n 0, 1) := by decide +kernel
theorem dL_law_255 : decode cL_law 255 = .ok (.iload_n 3, 1) := by decide +kernel
theorem dL_law_256 : decode cL_law 256 = .ok (.iconst 2, 1) := by decide +kernel
theorem dL_law_257 : decode cL_law 257 = .ok (.iadd, 1) := by decide +kernel
theorem dL_law_258 : decode cL_law 258 = .ok (.iaload, 1) := by decide +kernel
theorem dL_law_259 : decode cL_law 259 = .ok (.invokevirtual 23, 3) := by decide +kernel
theorem dL_law_262 : decode cL_law 262 = .ok (.aload_n 2, 1) := by decide +kernel
theorem dL_law_263 : decode cL_law 263 = .ok (.aload_n 0, 1) := by decide +kernel
theorem dL_law_264 : decode cL_law 264 = .ok (.iload_n 3, 1) := by decide +kernel
theorem dL_law_265 : decode cL_law 265 = .ok (.iconst 1, 1) := by decide +kernel
theorem dL_law_266 : decode cL_law 266 = .ok (.iadd, 1) := by decide +kernel
theorem dL_law_267 : decode cL_law 267 = .ok (.iaload, 1) := by decide +kernel
theorem dL_law_268 : decode cL_law 268 = .ok (.aload_n 0, 1) := by decide +kernel
theorem dL_law_269 : decode cL_law 269 = .ok (.iload_n 3, 1) := by decide +kernel
theorem dL_law_270 : decode cL_law 270 = .ok (.iconst 2, 1) := by decide +kernel
theorem dL_law_271 : decode cL_law 271 = .ok (.iadd, 1) := by decide +kernel
theorem dL_law_272 : decode cL_law 272 = .ok (.iaload, 1) := by decide +kernel
theorem dL_law_273 : decode cL_law 273 = .ok (.invokevirtual 26, 3) := by decide +kernel
theorem dL_law_276 : decode cL_law 276 = .ok (.if_icmp .eq 729, 3) := by decide +kernel
theorem dL_law_279 : decode cL_law 279 = .ok (.iconst 0, 1) := by decide +kernel
theorem dL_law_280 : decode cL_law 280 = .ok (.ireturn, 1) := by decide +kernel
theorem dL_law_281 : decode cL_law 281 = .ok (.aload_n 1, 1) := by decide +kernel
theorem dL_law_282 : decode cL_law 282 = .ok (.aload_n 0, 1) := by decide +kernel
theorem dL_law_283 : decode cL_law 283 = .ok (.iload_n 3, 1) := by decide +kernel
theorem dL_law_284 : decode cL_law 284 = .ok (.iconst 1, 1) := by decide +kernel
theorem dL_law_285 : decode cL_law 285 = .ok (.iadd, 1) := by decide +kernel
theorem dL_law_286 : decode cL_law 286 = .ok (.iaload, 1) := by decide +kernel
theorem dL_law_287 : decode cL_law 287 = .ok (.invokevirtual 27, 3) := by decide +kernel
theorem dL_law_290 : decode cL_law 290 = .ok (.aload_n 2, 1) := by decide +kernel
theorem dL_law_291 : decode cL_law 291 = .ok (.aload_n 0, 1) := by decide +kernel
theorem dL_law_292 : decode cL_law 292 = .ok (.iload_n 3, 1) := by decide +kernel
theorem dL_law_293 : decode cL_law 293 = .ok (.iconst 1, 1) := by decide +kernel
theorem dL_law_294 : decode cL_law 294 = .ok (.iadd, 1) := by decide +kernel
theorem dL_law_295 : decode cL_law 295 = .ok (.iaload, 1) := by decide +kernel
theorem dL_law_296 : decode cL_law 296 = .ok (.invokevirtual 31, 3) := by decide +kernel
theorem dL_law_299 : decode cL_law 299 = .ok (.if_icmp .eq 706, 3) := by decide +kernel
theorem dL_law_302 : decode cL_law 302 = .ok (.iconst 0, 1) := by decide +kernel
theorem dL_law_303 : decode cL_law 303 = .ok (.ireturn, 1) := by decide +kernel
theorem dL_law_304 : decode cL_law 304 = .ok (.aload_n 1, 1) := by decide +kernel
theorem dL_law_305 : decode cL_law 305 = .ok (.aload_n 0, 1) := by decide +kernel
theorem dL_law_306 : decode cL_law 306 = .ok (.iload_n 3, 1) := by decide +kernel
theorem dL_law_307 : decode cL_law 307 = .ok (.iconst 1, 1) := by decide +kernel
theorem dL_law_308 : decode cL_law 308 = .ok (.iadd, 1) := by decide +kernel
theorem dL_law_309 : decode cL_law 309 = .ok (.iaload, 1) := by decide +kernel
theorem dL_law_310 : decode cL_law 310 = .ok (.invokevirtual 32, 3) := by decide +kernel
theorem dL_law_313 : decode cL_law 313 = .ok (.aload_n 2, 1) := by decide +kernel
theorem dL_law_314 : decode cL_law 314 = .ok (.aload_n 0, 1) := by decide +kernel
theorem dL_law_315 : decode cL_law 315 = .ok (.iload_n 3, 1) := by decide +kernel
theorem dL_law_316 : decode cL_law 316 = .ok (.iconst 1, 1) := by decide +kernel
theorem dL_law_317 : decode cL_law 317 = .ok (.iadd, 1) := by decide +kernel
theorem dL_law_318 : decode cL_law 318 = .ok (.iaload, 1) := by decide +kernel
theorem dL_law_319 : decode cL_law 319 = .ok (.invokevirtual 35, 3) := by decide +kernel
theorem dL_law_322 : decode cL_law 322 = .ok (.if_icmp .eq 683, 3) := by decide +kernel
theorem dL_law_325 : decode cL_law 325 = .ok (.iconst 0, 1) := by decide +kernel
theorem dL_law_326 : decode cL_law 326 = .ok (.ireturn, 1) := by decide +kernel
theorem dL_law_327 : decode cL_law 327 = .ok (.aload_n 1, 1) := by decide +kernel
theorem dL_law_328 : decode cL_law 328 = .ok (.aload_n 0, 1) := by decide +kernel
theorem dL_law_329 : decode cL_law 329 = .ok (.iload_n 3, 1) := by decide +kernel
theorem dL_law_330 : decode cL_law 330 = .ok (.iconst 1, 1) := by decide +kernel
theorem dL_law_331 : decode cL_law 331 = .ok (.iadd, 1) := by decide +kernel
theorem dL_law_332 : decode cL_law 332 = .ok (.iaload, 1) := by decide +kernel
theorem dL_law_333 : decode cL_law 333 = .ok (.aload_n 0, 1) := by decide +kernel
theorem dL_law_334 : decode cL_law 334 = .ok (.iload_n 3, 1) := by decide +kernel
theorem dL_law_335 : decode cL_law 335 = .ok (.iconst 2, 1) := by decide +kernel
theorem dL_law_336 : decode cL_law 336 = .ok (.iadd, 1) := by decide +kernel
theorem dL_law_337 : decode cL_law 337 = .ok (.iaload, 1) := by decide +kernel
theorem dL_law_338 : decode cL_law 338 = .ok (.invokevirtual 36, 3) := by decide +kernel
theorem dL_law_341 : decode cL_law 341 = .ok (.aload_n 2, 1) := by decide +kernel
theorem dL_law_342 : decode cL_law 342 = .ok (.aload_n 0, 1) := by decide +kernel
theorem dL_law_343 : decode cL_law 343 = .ok (.iload_n 3, 1) := by decide +kernel
theorem dL_law_344 : decode cL_law 344 = .ok (.iconst 1, 1) := by decide +kernel
theorem dL_law_345 : decode cL_law 345 = .ok (.iadd, 1) := by decide +kernel
theorem dL_law_346 : decode cL_law 346 = .ok (.iaload, 1) := by decide +kernel
theorem dL_law_347 : decode cL_law 347 = .ok (.aload_n 0, 1) := by decide +kernel
theorem dL_law_348 : decode cL_law 348 = .ok (.iload_n 3, 1) := by decide +kernel
theorem dL_law_349 : decode cL_law 349 = .ok (.iconst 2, 1) := by decide +kernel
theorem dL_law_350 : decode cL_law 350 = .ok (.iadd, 1) := by decide +kernel
theorem dL_law_351 : decode cL_law 351 = .ok (.iaload, 1) := by decide +kernel
theorem dL_law_352 : decode cL_law 352 = .ok (.invokevirtual 39, 3) := by decide +kernel
theorem dL_law_355 : decode cL_law 355 = .ok (.if_icmp .eq 650, 3) := by decide +kernel
theorem dL_law_358 : decode cL_law 358 = .ok (.iconst 0, 1) := by decide +kernel
theorem dL_law_359 : decode cL_law 359 = .ok (.ireturn, 1) := by decide +kernel
theorem dL_law_360 : decode cL_law 360 = .ok (.aload_n 1, 1) := by decide +kernel
theorem dL_law_361 : decode cL_law 361 = .ok (.aload_n 0, 1) := by decide +kernel
theorem dL_law_362 : decode cL_law 362 = .ok (.iload_n 3, 1) := by decide +kernel
theorem dL_law_363 : decode cL_law 363 = .ok (.iconst 1, 1) := by decide +kernel
theorem dL_law_364 : decode cL_law 364 = .ok (.iadd, 1) := by decide +kernel
theorem dL_law_365 : decode cL_law 365 = .ok (.iaload, 1) := by decide +kernel
theorem dL_law_366 : decode cL_law 366 = .ok (.aload_n 0, 1) := by decide +kernel
theorem dL_law_367 : decode cL_law 367 = .ok (.iload_n 3, 1) := by decide +kernel
theorem dL_law_368 : decode cL_law 368 = .ok (.iconst 2, 1) := by decide +kernel
theorem dL_law_369 : decode cL_law 369 = .ok (.iadd, 1) := by decide +kernel
theorem dL_law_370 : decode cL_law 370 = .ok (.iaload, 1) := by decide +kernel
theorem dL_law_371 : decode cL_law 371 = .ok (.aload_n 0, 1) := by decide +kernel
theorem dL_law_372 : decode cL_law 372 = .ok (.iload_n 3, 1) := by decide +kernel
theorem dL_law_373 : decode cL_law 373 = .ok (.iconst 3, 1) := by decide +kernel
theorem dL_law_374 : decode cL_law 374 = .ok (.iadd, 1) := by decide +kernel
theorem dL_law_375 : decode cL_law 375 = .ok (.iaload, 1) := by decide +kernel
theorem dL_law_376 : decode cL_law 376 = .ok (.invokevirtual 40, 3) := by decide +kernel
theorem dL_law_379 : decode cL_law 379 = .ok (.aload_n 2, 1) := by decide +kernel
theorem dL_law_380 : decode cL_law 380 = .ok (.aload_n 0, 1) := by decide +kernel
theorem dL_law_381 : decode cL_law 381 = .ok (.iload_n 3, 1) := by decide +kernel
theorem dL_law_382 : decode cL_law 382 = .ok (.iconst 1, 1) := by decide +kernel
theorem dL_law_383 : decode cL_law 383 = .ok (.iadd, 1) := by decide +kernel
theorem dL_law_384 : decode cL_law 384 = .ok (.iaload, 1) := by decide +kernel
theorem dL_law_385 : decode cL_law 385 = .ok (.aload_n 0, 1) := by decide +kernel
theorem dL_law_386 : decode cL_law 386 = .ok (.iload_n 3, 1) := by decide +kernel
theorem dL_law_387 : decode cL_law 387 = .ok (.iconst 2, 1) := by decide +kernel
theorem dL_law_388 : decode cL_law 388 = .ok (.iadd, 1) := by decide +kernel
theorem dL_law_389 : decode cL_law 389 = .ok (.iaload, 1) := by decide +kernel
theorem dL_law_390 : decode cL_law 390 = .ok (.aload_n 0, 1) := by decide +kernel
theorem dL_law_391 : decode cL_law 391 = .ok (.iload_n 3, 1) := by decide +kernel
theorem dL_law_392 : decode cL_law 392 = .ok (.iconst 3, 1) := by decide +kernel
theorem dL_law_393 : decode cL_law 393 = .ok (.iadd, 1) := by decide +kernel
theorem dL_law_394 : decode cL_law 394 = .ok (.iaload, 1) := by decide +kernel
theorem dL_law_395 : decode cL_law 395 = .ok (.invokevirtual 43, 3) := by decide +kernel
theorem dL_law_398 : decode cL_law 398 = .ok (.if_icmp .eq 607, 3) := by decide +kernel
theorem dL_law_401 : decode cL_law 401 = .ok (.iconst 0, 1) := by decide +kernel
theorem dL_law_402 : decode cL_law 402 = .ok (.ireturn, 1) := by decide +kernel
theorem dL_law_403 : decode cL_law 403 = .ok (.aload_n 1, 1) := by decide +kernel
theorem dL_law_404 : decode cL_law 404 = .ok (.aload_n 0, 1) := by decide +kernel
theorem dL_law_405 : decode cL_law 405 = .ok (.iload_n 3, 1) := by decide +kernel
theorem dL_law_406 : decode cL_law 406 = .ok (.iconst 1, 1) := by decide +kernel
theorem dL_law_407 : decode cL_law 407 = .ok (.iadd, 1) := by decide +kernel
theorem dL_law_408 : decode cL_law 408 = .ok (.iaload, 1) := by decide +kernel
theorem dL_law_409 : decode cL_law 409 = .ok (.aload_n 0, 1) := by decide +kernel
theorem dL_law_410 : decode cL_law 410 = .ok (.iload_n 3, 1) := by decide +kernel
theorem dL_law_411 : decode cL_law 411 = .ok (.iconst 2, 1) := by decide +kernel
theorem dL_law_412 : decode cL_law 412 = .ok (.iadd, 1) := by decide +kernel
theorem dL_law_413 : decode cL_law 413 = .ok (.iaload, 1) := by decide +kernel
theorem dL_law_414 : decode cL_law 414 = .ok (.aload_n 0, 1) := by decide +kernel
theorem dL_law_415 : decode cL_law 415 = .ok (.iload_n 3, 1) := by decide +kernel
theorem dL_law_416 : decode cL_law 416 = .ok (.iconst 3, 1) := by decide +kernel
theorem dL_law_417 : decode cL_law 417 = .ok (.iadd, 1) := by decide +kernel
theorem dL_law_418 : decode cL_law 418 = .ok (.iaload, 1) := by decide +kernel
theorem dL_law_419 : decode cL_law 419 = .ok (.invokevirtual 44, 3) := by decide +kernel
theorem dL_law_422 : decode cL_law 422 = .ok (.aload_n 2, 1) := by decide +kernel
theorem dL_law_423 : decode cL_law 423 = .ok (.aload_n 0, 1) := by decide +kernel
theorem dL_law_424 : decode cL_law 424 = .ok (.iload_n 3, 1) := by decide +kernel
theorem dL_law_425 : decode cL_law 425 = .ok (.iconst 1, 1) := by decide +kernel
theorem dL_law_426 : decode cL_law 426 = .ok (.iadd, 1) := by decide +kernel
theorem dL_law_427 : decode cL_law 427 = .ok (.iaload, 1) := by decide +kernel
theorem dL_law_428 : decode cL_law 428 = .ok (.aload_n 0, 1) := by decide +kernel
theorem dL_law_429 : decode cL_law 429 = .ok (.iload_n 3, 1) := by decide +kernel
theorem dL_law_430 : decode cL_law 430 = .ok (.iconst 2, 1) := by decide +kernel
theorem dL_law_431 : decode cL_law 431 = .ok (.iadd, 1) := by decide +kernel
theorem dL_law_432 : decode cL_law 432 = .ok (.iaload, 1) := by decide +kernel
theorem dL_law_433 : decode cL_law 433 = .ok (.aload_n 0, 1) := by decide +kernel
theorem dL_law_434 : decode cL_law 434 = .ok (.iload_n 3, 1) := by decide +kernel
theorem dL_law_435 : decode cL_law 435 = .ok (.iconst 3, 1) := by decide +kernel
theorem dL_law_436 : decode cL_law 436 = .ok (.iadd, 1) := by decide +kernel
theorem dL_law_437 : decode cL_law 437 = .ok (.iaload, 1) := by decide +kernel
theorem dL_law_438 : decode cL_law 438 = .ok (.invokevirtual 47, 3) := by decide +kernel
theorem dL_law_441 : decode cL_law 441 = .ok (.if_icmp .eq 564, 3) := by decide +kernel
theorem dL_law_444 : decode cL_law 444 = .ok (.iconst 0, 1) := by decide +kernel
theorem dL_law_445 : decode cL_law 445 = .ok (.ireturn, 1) := by decide +kernel
theorem dL_law_446 : decode cL_law 446 = .ok (.aload_n 1, 1) := by decide +kernel
theorem dL_law_447 : decode cL_law 447 = .ok (.aload_n 0, 1) := by decide +kernel
theorem dL_law_448 : decode cL_law 448 = .ok (.iload_n 3, 1) := by decide +kernel
theorem dL_law_449 : decode cL_law 449 = .ok (.iconst 1, 1) := by decide +kernel
theorem dL_law_450 : decode cL_law 450 = .ok (.iadd, 1) := by decide +kernel
theorem dL_law_451 : decode cL_law 451 = .ok (.iaload, 1) := by decide +kernel
theorem dL_law_452 : decode cL_law 452 = .ok (.invokevirtual 48, 3) := by decide +kernel
theorem dL_law_455 : decode cL_law 455 = .ok (.aload_n 2, 1) := by decide +kernel
theorem dL_law_456 : decode cL_law 456 = .ok (.aload_n 0, 1) := by decide +kernel
theorem dL_law_457 : decode cL_law 457 = .ok (.iload_n 3, 1) := by decide +kernel
theorem dL_law_458 : decode cL_law 458 = .ok (.iconst 1, 1) := by decide +kernel
theorem dL_law_459 : decode cL_law 459 = .ok (.iadd, 1) := by decide +kernel
theorem dL_law_460 : decode cL_law 460 = .ok (.iaload, 1) := by decide +kernel
theorem dL_law_461 : decode cL_law 461 = .ok (.invokevirtual 51, 3) := by decide +kernel
theorem dL_law_464 : decode cL_law 464 = .ok (.if_icmp .eq 541, 3) := by decide +kernel
theorem dL_law_467 : decode cL_law 467 = .ok (.iconst 0, 1) := by decide +kernel
theorem dL_law_468 : decode cL_law 468 = .ok (.ireturn, 1) := by decide +kernel
theorem dL_law_469 : decode cL_law 469 = .ok (.aload_n 1, 1) := by decide +kernel
theorem dL_law_470 : decode cL_law 470 = .ok (.aload_n 0, 1) := by decide +kernel
theorem dL_law_471 : decode cL_law 471 = .ok (.iload_n 3, 1) := by decide +kernel
theorem dL_law_472 : decode cL_law 472 = .ok (.iconst 1, 1) := by decide +kernel
theorem dL_law_473 : decode cL_law 473 = .ok (.iadd, 1) := by decide +kernel
theorem dL_law_474 : decode cL_law 474 = .ok (.iaload, 1) := by decide +kernel
theorem dL_law_475 : decode cL_law 475 = .ok (.invokevirtual 52, 3) := by decide +kernel
theorem dL_law_478 : decode cL_law 478 = .ok (.aload_n 2, 1) := by decide +kernel
theorem dL_law_479 : decode cL_law 479 = .ok (.aload_n 0, 1) := by decide +kernel
theorem dL_law_480 : decode cL_law 480 = .ok (.iload_n 3, 1) := by decide +kernel
theorem dL_law_481 : decode cL_law 481 = .ok (.iconst 1, 1) := by decide +kernel
theorem dL_law_482 : decode cL_law 482 = .ok (.iadd, 1) := by decide +kernel
theorem dL_law_483 : decode cL_law 483 = .ok (.iaload, 1) := by decide +kernel
theorem dL_law_484 : decode cL_law 484 = .ok (.invokevirtual 55, 3) := by decide +kernel
theorem dL_law_487 : decode cL_law 487 = .ok (.if_icmp .eq 518, 3) := by decide +kernel
theorem dL_law_490 : decode cL_law 490 = .ok (.iconst 0, 1) := by decide +kernel
theorem dL_law_491 : decode cL_law 491 = .ok (.ireturn, 1) := by decide +kernel
theorem dL_law_492 : decode cL_law 492 = .ok (.aload_n 1, 1) := by decide +kernel
theorem dL_law_493 : decode cL_law 493 = .ok (.invokevirtual 56, 3) := by decide +kernel
theorem dL_law_496 : decode cL_law 496 = .ok (.aload_n 2, 1) := by decide +kernel
theorem dL_law_497 : decode cL_law 497 = .ok (.invokevirtual 60, 3) := by decide +kernel
theorem dL_law_500 : decode cL_law 500 = .ok (.if_icmp .eq 505, 3) := by decide +kernel
theorem dL_law_503 : decode cL_law 503 = .ok (.iconst 0, 1) := by decide +kernel
theorem dL_law_504 : decode cL_law 504 = .ok (.ireturn, 1) := by decide +kernel
theorem dL_law_505 : decode cL_law 505 = .ok (.aload_n 1, 1) := by decide +kernel
theorem dL_law_506 : decode cL_law 506 = .ok (.invokevirtual 61, 3) := by decide +kernel
theorem dL_law_509 : decode cL_law 509 = .ok (.aload_n 2, 1) := by decide +kernel
theorem dL_law_510 : decode cL_law 510 = .ok (.invokevirtual 64, 3) := by decide +kernel
theorem dL_law_513 : decode cL_law 513 = .ok (.if_icmp .eq 492, 3) := by decide +kernel
theorem dL_law_516 : decode cL_law 516 = .ok (.iconst 0, 1) := by decide +kernel
theorem dL_law_517 : decode cL_law 517 = .ok (.ireturn, 1) := by decide +kernel
theorem dL_law_518 : decode cL_law 518 = .ok (.aload_n 1, 1) := by decide +kernel
theorem dL_law_519 : decode cL_law 519 = .ok (.aload_n 0, 1) := by decide +kernel
theorem dL_law_520 : decode cL_law 520 = .ok (.iload_n 3, 1) := by decide +kernel
theorem dL_law_521 : decode cL_law 521 = .ok (.iconst 1, 1) := by decide +kernel
theorem dL_law_522 : decode cL_law 522 = .ok (.iadd, 1) := by decide +kernel
theorem dL_law_523 : decode cL_law 523 = .ok (.iaload, 1) := by decide +kernel
theorem dL_law_524 : decode cL_law 524 = .ok (.invokevirtual 65, 3) := by decide +kernel
theorem dL_law_527 : decode cL_law 527 = .ok (.aload_n 2, 1) := by decide +kernel
theorem dL_law_528 : decode cL_law 528 = .ok (.aload_n 0, 1) := by decide +kernel
theorem dL_law_529 : decode cL_law 529 = .ok (.iload_n 3, 1) := by decide +kernel
theorem dL_law_530 : decode cL_law 530 = .ok (.iconst 1, 1) := by decide +kernel
theorem dL_law_531 : decode cL_law 531 = .ok (.iadd, 1) := by decide +kernel
theorem dL_law_532 : decode cL_law 532 = .ok (.iaload, 1) := by decide +kernel
theorem dL_law_533 : decode cL_law 533 = .ok (.invokevirtual 68, 3) := by decide +kernel
theorem dL_law_536 : decode cL_law 536 = .ok (.if_icmp .eq 469, 3) := by decide +kernel
theorem dL_law_539 : decode cL_law 539 = .ok (.iconst 0, 1) := by decide +kernel
theorem dL_law_540 : decode cL_law 540 = .ok (.ireturn, 1) := by decide +kernel
theorem dL_law_541 : decode cL_law 541 = .ok (.aload_n 1, 1) := by decide +kernel
theorem dL_law_542 : decode cL_law 542 = .ok (.invokevirtual 69, 3) := by decide +kernel
theorem dL_law_545 : decode cL_law 545 = .ok (.aload_n 2, 1) := by decide +kernel
theorem dL_law_546 : decode cL_law 546 = .ok (.invokevirtual 72, 3) := by decide +kernel
theorem dL_law_549 : decode cL_law 549 = .ok (.if_icmp .eq 456, 3) := by decide +kernel
theorem dL_law_552 : decode cL_law 552 = .ok (.iconst 0, 1) := by decide +kernel
theorem dL_law_553 : decode cL_law 553 = .ok (.ireturn, 1) := by decide +kernel
theorem dL_law_554 : decode cL_law 554 = .ok (.aload_n 1, 1) := by decide +kernel
theorem dL_law_555 : decode cL_law 555 = .ok (.aload_n 0, 1) := by decide +kernel
theorem dL_law_556 : decode cL_law 556 = .ok (.iload_n 3, 1) := by decide +kernel
theorem dL_law_557 : decode cL_law 557 = .ok (.iconst 1, 1) := by decide +kernel
theorem dL_law_558 : decode cL_law 558 = .ok (.iadd, 1) := by decide +kernel
theorem dL_law_559 : decode cL_law 559 = .ok (.iaload, 1) := by decide +kernel
theorem dL_law_560 : decode cL_law 560 = .ok (.invokevirtual 73, 3) := by decide +kernel
theorem dL_law_563 : decode cL_law 563 = .ok (.aload_n 2, 1) := by decide +kernel
theorem dL_law_564 : decode cL_law 564 = .ok (.aload_n 0, 1) := by decide +kernel
theorem dL_law_565 : decode cL_law 565 = .ok (.iload_n 3, 1) := by decide +kernel
theorem dL_law_566 : decode cL_law 566 = .ok (.iconst 1, 1) := by decide +kernel
theorem dL_law_567 : decode cL_law 567 = .ok (.iadd, 1) := by decide +kernel
theorem dL_law_568 : decode cL_law 568 = .ok (.iaload, 1) := by decide +kernel
theorem dL_law_569 : decode cL_law 569 = .ok (.invokevirtual 76, 3) := by decide +kernel
theorem dL_law_572 : decode cL_law 572 = .ok (.if_icmp .eq 433, 3) := by decide +kernel
theorem dL_law_575 : decode cL_law 575 = .ok (.iconst 0, 1) := by decide +kernel
theorem dL_law_576 : decode cL_law 576 = .ok (.ireturn, 1) := by decide +kernel
theorem dL_law_577 : decode cL_law 577 = .ok (.aload_n 1, 1) := by decide +kernel
theorem dL_law_578 : decode cL_law 578 = .ok (.aload_n 0, 1) := by decide +kernel
theorem dL_law_579 : decode cL_law 579 = .ok (.iload_n 3, 1) := by decide +kernel
theorem dL_law_580 : decode cL_law 580 = .ok (.iconst 1, 1) := by decide +kernel
theorem dL_law_581 : decode cL_law 581 = .ok (.iadd, 1) := by decide +kernel
theorem dL_law_582 : decode cL_law 582 = .ok (.iaload, 1) := by decide +kernel
theorem dL_law_583 : decode cL_law 583 = .ok (.invokevirtual 77, 3) := by decide +kernel
theorem dL_law_586 : decode cL_law 586 = .ok (.aload_n 2, 1) := by decide +kernel
theorem dL_law_587 : decode cL_law 587 = .ok (.aload_n 0, 1) := by decide +kernel
theorem dL_law_588 : decode cL_law 588 = .ok (.iload_n 3, 1) := by decide +kernel
theorem dL_law_589 : decode cL_law 589 = .ok (.iconst 1, 1) := by decide +kernel
theorem dL_law_590 : decode cL_law 590 = .ok (.iadd, 1) := by decide +kernel
theorem dL_law_591 : decode cL_law 591 = .ok (.iaload, 1) := by decide +kernel
theorem dL_law_592 : decode cL_law 592 = .ok (.invokevirtual 80, 3) := by decide +kernel
theorem dL_law_595 : decode cL_law 595 = .ok (.if_icmp .eq 410, 3) := by decide +kernel
theorem dL_law_598 : decode cL_law 598 = .ok (.iconst 0, 1) := by decide +kernel
theorem dL_law_599 : decode cL_law 599 = .ok (.ireturn, 1) := by decide +kernel
theorem dL_law_600 : decode cL_law 600 = .ok (.aload_n 1, 1) := by decide +kernel
theorem dL_law_601 : decode cL_law 601 = .ok (.aload_n 0, 1) := by decide +kernel
theorem dL_law_602 : decode cL_law 602 = .ok (.iload_n 3, 1) := by decide +kernel
theorem dL_law_603 : decode cL_law 603 = .ok (.iconst 1, 1) := by decide +kernel
theorem dL_law_604 : decode cL_law 604 = .ok (.iadd, 1) := by decide +kernel
theorem dL_law_605 : decode cL_law 605 = .ok (.iaload, 1) := by decide +kernel
theorem dL_law_606 : decode cL_law 606 = .ok (.invokevirtual 81, 3) := by decide +kernel
theorem dL_law_609 : decode cL_law 609 = .ok (.aload_n 2, 1) := by decide +kernel
theorem dL_law_610 : decode cL_law 610 = .ok (.aload_n 0, 1) := by decide +kernel
theorem dL_law_611 : decode cL_law 611 = .ok (.iload_n 3, 1) := by decide +kernel
theorem dL_law_612 : decode cL_law 612 = .ok (.iconst 1, 1) := by decide +kernel
theorem dL_law_613 : decode cL_law 613 = .ok (.iadd, 1) := by decide +kernel
theorem dL_law_614 : decode cL_law 614 = .ok (.iaload, 1) := by decide +kernel
theorem dL_law_615 : decode cL_law 615 = .ok (.invokevirtual 84, 3) := by decide +kernel
theorem dL_law_618 : decode cL_law 618 = .ok (.if_icmp .eq 387, 3) := by decide +kernel
theorem dL_law_621 : decode cL_law 621 = .ok (.iconst 0, 1) := by decide +kernel
theorem dL_law_622 : decode cL_law 622 = .ok (.ireturn, 1) := by decide +kernel
theorem dL_law_623 : decode cL_law 623 = .ok (.aload_n 1, 1) := by decide +kernel
theorem dL_law_624 : decode cL_law 624 = .ok (.aload_n 0, 1) := by decide +kernel
theorem dL_law_625 : decode cL_law 625 = .ok (.iload_n 3, 1) := by decide +kernel
theorem dL_law_626 : decode cL_law 626 = .ok (.iconst 1, 1) := by decide +kernel
theorem dL_law_627 : decode cL_law 627 = .ok (.iadd, 1) := by decide +kernel
theorem dL_law_628 : decode cL_law 628 = .ok (.iaload, 1) := by decide +kernel
theorem dL_law_629 : decode cL_law 629 = .ok (.aload_n 0, 1) := by decide +kernel
theorem dL_law_630 : decode cL_law 630 = .ok (.iload_n 3, 1) := by decide +kernel
theorem dL_law_631 : decode cL_law 631 = .ok (.iconst 2, 1) := by decide +kernel
theorem dL_law_632 : decode cL_law 632 = .ok (.iadd, 1) := by decide +kernel
theorem dL_law_633 : decode cL_law 633 = .ok (.iaload, 1) := by decide +kernel
theorem dL_law_634 : decode cL_law 634 = .ok (.invokevirtual 85, 3) := by decide +kernel
theorem dL_law_637 : decode cL_law 637 = .ok (.aload_n 2, 1) := by decide +kernel
theorem dL_law_638 : decode cL_law 638 = .ok (.aload_n 0, 1) := by decide +kernel
theorem dL_law_639 : decode cL_law 639 = .ok (.iload_n 3, 1) := by decide +kernel
theorem dL_law_640 : decode cL_law 640 = .ok (.iconst 1, 1) := by decide +kernel
theorem dL_law_641 : decode cL_law 641 = .ok (.iadd, 1) := by decide +kernel
theorem dL_law_642 : decode cL_law 642 = .ok (.iaload, 1) := by decide +kernel
theorem dL_law_643 : decode cL_law 643 = .ok (.aload_n 0, 1) := by decide +kernel
theorem dL_law_644 : decode cL_law 644 = .ok (.iload_n 3, 1) := by decide +kernel
theorem dL_law_645 : decode cL_law 645 = .ok (.iconst 2, 1) := by decide +kernel
theorem dL_law_646 : decode cL_law 646 = .ok (.iadd, 1) := by decide +kernel
theorem dL_law_647 : decode cL_law 647 = .ok (.iaload, 1) := by decide +kernel
theorem dL_law_648 : decode cL_law 648 = .ok (.invokevirtual 88, 3) := by decide +kernel
theorem dL_law_651 : decode cL_law 651 = .ok (.if_icmp .eq 354, 3) := by decide +kernel
theorem dL_law_654 : decode cL_law 654 = .ok (.iconst 0, 1) := by decide +kernel
theorem dL_law_655 : decode cL_law 655 = .ok (.ireturn, 1) := by decide +kernel
theorem dL_law_656 : decode cL_law 656 = .ok (.aload_n 1, 1) := by decide +kernel
theorem dL_law_657 : decode cL_law 657 = .ok (.aload_n 0, 1) := by decide +kernel
theorem dL_law_658 : decode cL_law 658 = .ok (.iload_n 3, 1) := by decide +kernel
theorem dL_law_659 : decode cL_law 659 = .ok (.iconst 1, 1) := by decide +kernel
theorem dL_law_660 : decode cL_law 660 = .ok (.iadd, 1) := by decide +kernel
theorem dL_law_661 : decode cL_law 661 = .ok (.iaload, 1) := by decide +kernel
theorem dL_law_662 : decode cL_law 662 = .ok (.aload_n 0, 1) := by decide +kernel
theorem dL_law_663 : decode cL_law 663 = .ok (.iload_n 3, 1) := by decide +kernel
theorem dL_law_664 : decode cL_law 664 = .ok (.iconst 2, 1) := by decide +kernel
theorem dL_law_665 : decode cL_law 665 = .ok (.iadd, 1) := by decide +kernel
theorem dL_law_666 : decode cL_law 666 = .ok (.iaload, 1) := by decide +kernel
theorem dL_law_667 : decode cL_law 667 = .ok (.invokevirtual 89, 3) := by decide +kernel
theorem dL_law_670 : decode cL_law 670 = .ok (.aload_n 2, 1) := by decide +kernel
theorem dL_law_671 : decode cL_law 671 = .ok (.aload_n 0, 1) := by decide +kernel
theorem dL_law_672 : decode cL_law 672 = .ok (.iload_n 3, 1) := by decide +kernel
theorem dL_law_673 : decode cL_law 673 = .ok (.iconst 1, 1) := by decide +kernel
theorem dL_law_674 : decode cL_law 674 = .ok (.iadd, 1) := by decide +kernel
theorem dL_law_675 : decode cL_law 675 = .ok (.iaload, 1) := by decide +kernel
theorem dL_law_676 : decode cL_law 676 = .ok (.aload_n 0, 1) := by decide +kernel
theorem dL_law_677 : decode cL_law 677 = .ok (.iload_n 3, 1) := by decide +kernel
theorem dL_law_678 : decode cL_law 678 = .ok (.iconst 2, 1) := by decide +kernel
theorem dL_law_679 : decode cL_law 679 = .ok (.iadd, 1) := by decide +kernel
theorem dL_law_680 : decode cL_law 680 = .ok (.iaload, 1) := by decide +kernel
theorem dL_law_681 : decode cL_law 681 = .ok (.invokevirtual 92, 3) := by decide +kernel
theorem dL_law_684 : decode cL_law 684 = .ok (.if_icmp .eq 321, 3) := by decide +kernel
theorem dL_law_687 : decode cL_law 687 = .ok (.iconst 0, 1) := by decide +kernel
theorem dL_law_688 : decode cL_law 688 = .ok (.ireturn, 1) := by decide +kernel
theorem dL_law_689 : decode cL_law 689 = .ok (.aload_n 1, 1) := by decide +kernel
theorem dL_law_690 : decode cL_law 690 = .ok (.aload_n 0, 1) := by decide +kernel
theorem dL_law_691 : decode cL_law 691 = .ok (.iload_n 3, 1) := by decide +kernel
theorem dL_law_692 : decode cL_law 692 = .ok (.iconst 1, 1) := by decide +kernel
theorem dL_law_693 : decode cL_law 693 = .ok (.iadd, 1) := by decide +kernel
theorem dL_law_694 : decode cL_law 694 = .ok (.iaload, 1) := by decide +kernel
theorem dL_law_695 : decode cL_law 695 = .ok (.aload_n 0, 1) := by decide +kernel
theorem dL_law_696 : decode cL_law 696 = .ok (.iload_n 3, 1) := by decide +kernel
theorem dL_law_697 : decode cL_law 697 = .ok (.iconst 2, 1) := by decide +kernel
theorem dL_law_698 : decode cL_law 698 = .ok (.iadd, 1) := by decide +kernel
theorem dL_law_699 : decode cL_law 699 = .ok (.iaload, 1) := by decide +kernel
theorem dL_law_700 : decode cL_law 700 = .ok (.invokevirtual 93, 3) := by decide +kernel
theorem dL_law_703 : decode cL_law 703 = .ok (.aload_n 2, 1) := by decide +kernel
theorem dL_law_704 : decode cL_law 704 = .ok (.aload_n 0, 1) := by decide +kernel
theorem dL_law_705 : decode cL_law 705 = .ok (.iload_n 3, 1) := by decide +kernel
theorem dL_law_706 : decode cL_law 706 = .ok (.iconst 1, 1) := by decide +kernel
theorem dL_law_707 : decode cL_law 707 = .ok (.iadd, 1) := by decide +kernel
theorem dL_law_708 : decode cL_law 708 = .ok (.iaload, 1) := by decide +kernel
theorem dL_law_709 : decode cL_law 709 = .ok (.aload_n 0, 1) := by decide +kernel
theorem dL_law_710 : decode cL_law 710 = .ok (.iload_n 3, 1) := by decide +kernel
theorem dL_law_711 : decode cL_law 711 = .ok (.iconst 2, 1) := by decide +kernel
theorem dL_law_712 : decode cL_law 712 = .ok (.iadd, 1) := by decide +kernel
theorem dL_law_713 : decode cL_law 713 = .ok (.iaload, 1) := by decide +kernel
theorem dL_law_714 : decode cL_law 714 = .ok (.invokevirtual 96, 3) := by decide +kernel
theorem dL_law_717 : decode cL_law 717 = .ok (.if_icmp .eq 288, 3) := by decide +kernel
theorem dL_law_720 : decode cL_law 720 = .ok (.iconst 0, 1) := by decide +kernel
theorem dL_law_721 : decode cL_law 721 = .ok (.ireturn, 1) := by decide +kernel
theorem dL_law_722 : decode cL_law 722 = .ok (.aload_n 1, 1) := by decide +kernel
theorem dL_law_723 : decode cL_law 723 = .ok (.aload_n 0, 1) := by decide +kernel
theorem dL_law_724 : decode cL_law 724 = .ok (.iload_n 3, 1) := by decide +kernel
theorem dL_law_725 : decode cL_law 725 = .ok (.iconst 1, 1) := by decide +kernel
theorem dL_law_726 : decode cL_law 726 = .ok (.iadd, 1) := by decide +kernel
theorem dL_law_727 : decode cL_law 727 = .ok (.iaload, 1) := by decide +kernel
theorem dL_law_728 : decode cL_law 728 = .ok (.aload_n 0, 1) := by decide +kernel
theorem dL_law_729 : decode cL_law 729 = .ok (.iload_n 3, 1) := by decide +kernel
theorem dL_law_730 : decode cL_law 730 = .ok (.iconst 2, 1) := by decide +kernel
theorem dL_law_731 : decode cL_law 731 = .ok (.iadd, 1) := by decide +kernel
theorem dL_law_732 : decode cL_law 732 = .ok (.iaload, 1) := by decide +kernel
theorem dL_law_733 : decode cL_law 733 = .ok (.invokevirtual 97, 3) := by decide +kernel
theorem dL_law_736 : decode cL_law 736 = .ok (.aload_n 2, 1) := by decide +kernel
theorem dL_law_737 : decode cL_law 737 = .ok (.aload_n 0, 1) := by decide +kernel
theorem dL_law_738 : decode cL_law 738 = .ok (.iload_n 3, 1) := by decide +kernel
theorem dL_law_739 : decode cL_law 739 = .ok (.iconst 1, 1) := by decide +kernel
theorem dL_law_740 : decode cL_law 740 = .ok (.iadd, 1) := by decide +kernel
theorem dL_law_741 : decode cL_law 741 = .ok (.iaload, 1) := by decide +kernel
theorem dL_law_742 : decode cL_law 742 = .ok (.aload_n 0, 1) := by decide +kernel
theorem dL_law_743 : decode cL_law 743 = .ok (.iload_n 3, 1) := by decide +kernel
theorem dL_law_744 : decode cL_law 744 = .ok (.iconst 2, 1) := by decide +kernel
theorem dL_law_745 : decode cL_law 745 = .ok (.iadd, 1) := by decide +kernel
theorem dL_law_746 : decode cL_law 746 = .ok (.iaload, 1) := by decide +kernel
theorem dL_law_747 : decode cL_law 747 = .ok (.invokevirtual 100, 3) := by decide +kernel
theorem dL_law_750 : decode cL_law 750 = .ok (.if_icmp .eq 255, 3) := by decide +kernel
theorem dL_law_753 : decode cL_law 753 = .ok (.iconst 0, 1) := by decide +kernel
theorem dL_law_754 : decode cL_law 754 = .ok (.ireturn, 1) := by decide +kernel
theorem dL_law_755 : decode cL_law 755 = .ok (.aload_n 1, 1) := by decide +kernel
theorem dL_law_756 : decode cL_law 756 = .ok (.aload_n 0, 1) := by decide +kernel
theorem dL_law_757 : decode cL_law 757 = .ok (.iload_n 3, 1) := by decide +kernel
theorem dL_law_758 : decode cL_law 758 = .ok (.iconst 1, 1) := by decide +kernel
theorem dL_law_759 : decode cL_law 759 = .ok (.iadd, 1) := by decide +kernel
theorem dL_law_760 : decode cL_law 760 = .ok (.iaload, 1) := by decide +kernel
theorem dL_law_761 : decode cL_law 761 = .ok (.invokevirtual 101, 3) := by decide +kernel
theorem dL_law_764 : decode cL_law 764 = .ok (.aload_n 2, 1) := by decide +kernel
theorem dL_law_765 : decode cL_law 765 = .ok (.aload_n 0, 1) := by decide +kernel
theorem dL_law_766 : decode cL_law 766 = .ok (.iload_n 3, 1) := by decide +kernel
theorem dL_law_767 : decode cL_law 767 = .ok (.iconst 1, 1) := by decide +kernel
theorem dL_law_768 : decode cL_law 768 = .ok (.iadd, 1) := by decide +kernel
theorem dL_law_769 : decode cL_law 769 = .ok (.iaload, 1) := by decide +kernel
theorem dL_law_770 : decode cL_law 770 = .ok (.invokevirtual 104, 3) := by decide +kernel
theorem dL_law_773 : decode cL_law 773 = .ok (.if_icmp .eq 232, 3) := by decide +kernel
theorem dL_law_776 : decode cL_law 776 = .ok (.iconst 0, 1) := by decide +kernel
theorem dL_law_777 : decode cL_law 777 = .ok (.ireturn, 1) := by decide +kernel
theorem dL_law_778 : decode cL_law 778 = .ok (.aload_n 1, 1) := by decide +kernel
theorem dL_law_779 : decode cL_law 779 = .ok (.aload_n 0, 1) := by decide +kernel
theorem dL_law_780 : decode cL_law 780 = .ok (.iload_n 3, 1) := by decide +kernel
theorem dL_law_781 : decode cL_law 781 = .ok (.iconst 1, 1) := by decide +kernel
theorem dL_law_782 : decode cL_law 782 = .ok (.iadd, 1) := by decide +kernel
theorem dL_law_783 : decode cL_law 783 = .ok (.iaload, 1) := by decide +kernel
theorem dL_law_784 : decode cL_law 784 = .ok (.invokevirtual 105, 3) := by decide +kernel
theorem dL_law_787 : decode cL_law 787 = .ok (.aload_n 2, 1) := by decide +kernel
theorem dL_law_788 : decode cL_law 788 = .ok (.aload_n 0, 1) := by decide +kernel
theorem dL_law_789 : decode cL_law 789 = .ok (.iload_n 3, 1) := by decide +kernel
theorem dL_law_790 : decode cL_law 790 = .ok (.iconst 1, 1) := by decide +kernel
theorem dL_law_791 : decode cL_law 791 = .ok (.iadd, 1) := by decide +kernel
theorem dL_law_792 : decode cL_law 792 = .ok (.iaload, 1) := by decide +kernel
theorem dL_law_793 : decode cL_law 793 = .ok (.invokevirtual 108, 3) := by decide +kernel
theorem dL_law_796 : decode cL_law 796 = .ok (.if_icmp .eq 209, 3) := by decide +kernel
theorem dL_law_799 : decode cL_law 799 = .ok (.iconst 0, 1) := by decide +kernel
theorem dL_law_800 : decode cL_law 800 = .ok (.ireturn, 1) := by decide +kernel
theorem dL_law_801 : decode cL_law 801 = .ok (.aload_n 1, 1) := by decide +kernel
theorem dL_law_802 : decode cL_law 802 = .ok (.aload_n 0, 1) := by decide +kernel
theorem dL_law_803 : decode cL_law 803 = .ok (.iload_n 3, 1) := by decide +kernel
theorem dL_law_804 : decode cL_law 804 = .ok (.iconst 1, 1) := by decide +kernel
theorem dL_law_805 : decode cL_law 805 = .ok (.iadd, 1) := by decide +kernel
theorem dL_law_806 : decode cL_law 806 = .ok (.iaload, 1) := by decide +kernel
theorem dL_law_807 : decode cL_law 807 = .ok (.aload_n 0, 1) := by decide +kernel
theorem dL_law_808 : decode cL_law 808 = .ok (.iload_n 3, 1) := by decide +kernel
theorem dL_law_809 : decode cL_law 809 = .ok (.iconst 2, 1) := by decide +kernel
theorem dL_law_810 : decode cL_law 810 = .ok (.iadd, 1) := by decide +kernel
theorem dL_law_811 : decode cL_law 811 = .ok (.iaload, 1) := by decide +kernel
theorem dL_law_812 : decode cL_law 812 = .ok (.invokevirtual 109, 3) := by decide +kernel
theorem dL_law_815 : decode cL_law 815 = .ok (.aload_n 2, 1) := by decide +kernel
theorem dL_law_816 : decode cL_law 816 = .ok (.aload_n 0, 1) := by decide +kernel
theorem dL_law_817 : decode cL_law 817 = .ok (.iload_n 3, 1) := by decide +kernel
theorem dL_law_818 : decode cL_law 818 = .ok (.iconst 1, 1) := by decide +kernel
theorem dL_law_819 : decode cL_law 819 = .ok (.iadd, 1) := by decide +kernel
theorem dL_law_820 : decode cL_law 820 = .ok (.iaload, 1) := by decide +kernel
theorem dL_law_821 : decode cL_law 821 = .ok (.aload_n 0, 1) := by decide +kernel
theorem dL_law_822 : decode cL_law 822 = .ok (.iload_n 3, 1) := by decide +kernel
theorem dL_law_823 : decode cL_law 823 = .ok (.iconst 2, 1) := by decide +kernel
theorem dL_law_824 : decode cL_law 824 = .ok (.iadd, 1) := by decide +kernel
theorem dL_law_825 : decode cL_law 825 = .ok (.iaload, 1) := by decide +kernel
theorem dL_law_826 : decode cL_law 826 = .ok (.invokevirtual 112, 3) := by decide +kernel
theorem dL_law_829 : decode cL_law 829 = .ok (.if_icmp .eq 176, 3) := by decide +kernel
theorem dL_law_832 : decode cL_law 832 = .ok (.iconst 0, 1) := by decide +kernel
theorem dL_law_833 : decode cL_law 833 = .ok (.ireturn, 1) := by decide +kernel
theorem dL_law_834 : decode cL_law 834 = .ok (.aload_n 1, 1) := by decide +kernel
theorem dL_law_835 : decode cL_law 835 = .ok (.invokevirtual 113, 3) := by decide +kernel
theorem dL_law_838 : decode cL_law 838 = .ok (.aload_n 2, 1) := by decide +kernel
theorem dL_law_839 : decode cL_law 839 = .ok (.invokevirtual 116, 3) := by decide +kernel
theorem dL_law_842 : decode cL_law 842 = .ok (.if_icmp .eq 163, 3) := by decide +kernel
theorem dL_law_845 : decode cL_law 845 = .ok (.iconst 0, 1) := by decide +kernel
theorem dL_law_846 : decode cL_law 846 = .ok (.ireturn, 1) := by decide +kernel
theorem dL_law_847 : decode cL_law 847 = .ok (.aload_n 1, 1) := by decide +kernel
theorem dL_law_848 : decode cL_law 848 = .ok (.aload_n 0, 1) := by decide +kernel
theorem dL_law_849 : decode cL_law 849 = .ok (.iload_n 3, 1) := by decide +kernel
theorem dL_law_850 : decode cL_law 850 = .ok (.iconst 1, 1) := by decide +kernel
theorem dL_law_851 : decode cL_law 851 = .ok (.iadd, 1) := by decide +kernel
theorem dL_law_852 : decode cL_law 852 = .ok (.iaload, 1) := by decide +kernel
theorem dL_law_853 : decode cL_law 853 = .ok (.aload_n 0, 1) := by decide +kernel
theorem dL_law_854 : decode cL_law 854 = .ok (.iload_n 3, 1) := by decide +kernel
theorem dL_law_855 : decode cL_law 855 = .ok (.iconst 2, 1) := by decide +kernel
theorem dL_law_856 : decode cL_law 856 = .ok (.iadd, 1) := by decide +kernel
theorem dL_law_857 : decode cL_law 857 = .ok (.iaload, 1) := by decide +kernel
theorem dL_law_858 : decode cL_law 858 = .ok (.invokevirtual 117, 3) := by decide +kernel
theorem dL_law_861 : decode cL_law 861 = .ok (.aload_n 2, 1) := by decide +kernel
theorem dL_law_862 : decode cL_law 862 = .ok (.aload_n 0, 1) := by decide +kernel
theorem dL_law_863 : decode cL_law 863 = .ok (.iload_n 3, 1) := by decide +kernel
theorem dL_law_864 : decode cL_law 864 = .ok (.iconst 1, 1) := by decide +kernel
theorem dL_law_865 : decode cL_law 865 = .ok (.iadd, 1) := by decide +kernel
theorem dL_law_866 : decode cL_law 866 = .ok (.iaload, 1) := by decide +kernel
theorem dL_law_867 : decode cL_law 867 = .ok (.aload_n 0, 1) := by decide +kernel
theorem dL_law_868 : decode cL_law 868 = .ok (.iload_n 3, 1) := by decide +kernel
theorem dL_law_869 : decode cL_law 869 = .ok (.iconst 2, 1) := by decide +kernel
theorem dL_law_870 : decode cL_law 870 = .ok (.iadd, 1) := by decide +kernel
theorem dL_law_871 : decode cL_law 871 = .ok (.iaload, 1) := by decide +kernel
theorem dL_law_872 : decode cL_law 872 = .ok (.invokevirtual 120, 3) := by decide +kernel
theorem dL_law_875 : decode cL_law 875 = .ok (.if_icmp .eq 130, 3) := by decide +kernel
theorem dL_law_878 : decode cL_law 878 = .ok (.iconst 0, 1) := by decide +kernel
theorem dL_law_879 : decode cL_law 879 = .ok (.ireturn, 1) := by decide +kernel
theorem dL_law_880 : decode cL_law 880 = .ok (.aload_n 1, 1) := by decide +kernel
theorem dL_law_881 : decode cL_law 881 = .ok (.invokevirtual 121, 3) := by decide +kernel
theorem dL_law_884 : decode cL_law 884 = .ok (.f2d, 1) := by decide +kernel
theorem dL_law_885 : decode cL_law 885 = .ok (.dstore 4, 2) := by decide +kernel
theorem dL_law_887 : decode cL_law 887 = .ok (.aload_n 2, 1) := by decide +kernel
theorem dL_law_888 : decode cL_law 888 = .ok (.invokevirtual 125, 3) := by decide +kernel
theorem dL_law_891 : decode cL_law 891 = .ok (.f2d, 1) := by decide +kernel
theorem dL_law_892 : decode cL_law 892 = .ok (.dstore 6, 2) := by decide +kernel
theorem dL_law_894 : decode cL_law 894 = .ok (.dload 4, 2) := by decide +kernel
theorem dL_law_896 : decode cL_law 896 = .ok (.dload 6, 2) := by decide +kernel
theorem dL_law_898 : decode cL_law 898 = .ok (.dcmp .l, 1) := by decide +kernel
theorem dL_law_899 : decode cL_law 899 = .ok (.ifCond .eq 21, 3) := by decide +kernel
theorem dL_law_902 : decode cL_law 902 = .ok (.dload 4, 2) := by decide +kernel
theorem dL_law_904 : decode cL_law 904 = .ok (.dload 4, 2) := by decide +kernel
theorem dL_law_906 : decode cL_law 906 = .ok (.dcmp .l, 1) := by decide +kernel
theorem dL_law_907 : decode cL_law 907 = .ok (.ifCond .eq 11, 3) := by decide +kernel
theorem dL_law_910 : decode cL_law 910 = .ok (.dload 6, 2) := by decide +kernel
theorem dL_law_912 : decode cL_law 912 = .ok (.dload 6, 2) := by decide +kernel
theorem dL_law_914 : decode cL_law 914 = .ok (.dcmp .l, 1) := by decide +kernel
theorem dL_law_915 : decode cL_law 915 = .ok (.ifCond .ne 5, 3) := by decide +kernel
theorem dL_law_918 : decode cL_law 918 = .ok (.iconst 0, 1) := by decide +kernel
theorem dL_law_919 : decode cL_law 919 = .ok (.ireturn, 1) := by decide +kernel
theorem dL_law_920 : decode cL_law 920 = .ok (.goto 85, 3) := by decide +kernel
theorem dL_law_923 : decode cL_law 923 = .ok (.aload_n 1, 1) := by decide +kernel
theorem dL_law_924 : decode cL_law 924 = .ok (.invokevirtual 126, 3) := by decide +kernel
theorem dL_law_927 : decode cL_law 927 = .ok (.aload_n 2, 1) := by decide +kernel
theorem dL_law_928 : decode cL_law 928 = .ok (.invokevirtual 129, 3) := by decide +kernel
theorem dL_law_931 : decode cL_law 931 = .ok (.if_icmp .eq 74, 3) := by decide +kernel
theorem dL_law_934 : decode cL_law 934 = .ok (.iconst 0, 1) := by decide +kernel
theorem dL_law_935 : decode cL_law 935 = .ok (.ireturn, 1) := by decide +kernel
theorem dL_law_936 : decode cL_law 936 = .ok (.aload_n 1, 1) := by decide +kernel
theorem dL_law_937 : decode cL_law 937 = .ok (.aload_n 0, 1) := by decide +kernel
theorem dL_law_938 : decode cL_law 938 = .ok (.iload_n 3, 1) := by decide +kernel
theorem dL_law_939 : decode cL_law 939 = .ok (.iconst 1, 1) := by decide +kernel
theorem dL_law_940 : decode cL_law 940 = .ok (.iadd, 1) := by decide +kernel
theorem dL_law_941 : decode cL_law 941 = .ok (.iaload, 1) := by decide +kernel
theorem dL_law_942 : decode cL_law 942 = .ok (.invokevirtual 130, 3) := by decide +kernel
theorem dL_law_945 : decode cL_law 945 = .ok (.aload_n 2, 1) := by decide +kernel
theorem dL_law_946 : decode cL_law 946 = .ok (.aload_n 0, 1) := by decide +kernel
theorem dL_law_947 : decode cL_law 947 = .ok (.iload_n 3, 1) := by decide +kernel
theorem dL_law_948 : decode cL_law 948 = .ok (.iconst 1, 1) := by decide +kernel
theorem dL_law_949 : decode cL_law 949 = .ok (.iadd, 1) := by decide +kernel
theorem dL_law_950 : decode cL_law 950 = .ok (.iaload, 1) := by decide +kernel
theorem dL_law_951 : decode cL_law 951 = .ok (.invokevirtual 133, 3) := by decide +kernel
theorem dL_law_954 : decode cL_law 954 = .ok (.if_icmp .eq 51, 3) := by decide +kernel
theorem dL_law_957 : decode cL_law 957 = .ok (.iconst 0, 1) := by decide +kernel
theorem dL_law_958 : decode cL_law 958 = .ok (.ireturn, 1) := by decide +kernel
theorem dL_law_959 : decode cL_law 959 = .ok (.aload_n 1, 1) := by decide +kernel
theorem dL_law_960 : decode cL_law 960 = .ok (.aload_n 0, 1) := by decide +kernel
theorem dL_law_961 : decode cL_law 961 = .ok (.iload_n 3, 1) := by decide +kernel
theorem dL_law_962 : decode cL_law 962 = .ok (.iconst 1, 1) := by decide +kernel
theorem dL_law_963 : decode cL_law 963 = .ok (.iadd, 1) := by decide +kernel
theorem dL_law_964 : decode cL_law 964 = .ok (.iaload, 1) := by decide +kernel
theorem dL_law_965 : decode cL_law 965 = .ok (.invokevirtual 134, 3) := by decide +kernel
theorem dL_law_968 : decode cL_law 968 = .ok (.aload_n 2, 1) := by decide +kernel
theorem dL_law_969 : decode cL_law 969 = .ok (.aload_n 0, 1) := by decide +kernel
theorem dL_law_970 : decode cL_law 970 = .ok (.iload_n 3, 1) := by decide +kernel
theorem dL_law_971 : decode cL_law 971 = .ok (.iconst 1, 1) := by decide +kernel
theorem dL_law_972 : decode cL_law 972 = .ok (.iadd, 1) := by decide +kernel
theorem dL_law_973 : decode cL_law 973 = .ok (.iaload, 1) := by decide +kernel
theorem dL_law_974 : decode cL_law 974 = .ok (.invokevirtual 137, 3) := by decide +kernel
theorem dL_law_977 : decode cL_law 977 = .ok (.if_icmp .eq 28, 3) := by decide +kernel
theorem dL_law_980 : decode cL_law 980 = .ok (.iconst 0, 1) := by decide +kernel
theorem dL_law_981 : decode cL_law 981 = .ok (.ireturn, 1) := by decide +kernel
theorem dL_law_982 : decode cL_law 982 = .ok (.aload_n 1, 1) := by decide +kernel
theorem dL_law_983 : decode cL_law 983 = .ok (.aload_n 0, 1) := by decide +kernel
theorem dL_law_984 : decode cL_law 984 = .ok (.iload_n 3, 1) := by decide +kernel
theorem dL_law_985 : decode cL_law 985 = .ok (.iconst 1, 1) := by decide +kernel
theorem dL_law_986 : decode cL_law 986 = .ok (.iadd, 1) := by decide +kernel
theorem dL_law_987 : decode cL_law 987 = .ok (.iaload, 1) := by decide +kernel
theorem dL_law_988 : decode cL_law 988 = .ok (.invokevirtual 138, 3) := by decide +kernel
theorem dL_law_991 : decode cL_law 991 = .ok (.aload_n 2, 1) := by decide +kernel
theorem dL_law_992 : decode cL_law 992 = .ok (.aload_n 0, 1) := by decide +kernel
theorem dL_law_993 : decode cL_law 993 = .ok (.iload_n 3, 1) := by decide +kernel
theorem dL_law_994 : decode cL_law 994 = .ok (.iconst 1, 1) := by decide +kernel
theorem dL_law_995 : decode cL_law 995 = .ok (.iadd, 1) := by decide +kernel
theorem dL_law_996 : decode cL_law 996 = .ok (.iaload, 1) := by decide +kernel
theorem dL_law_997 : decode cL_law 997 = .ok (.invokevirtual 141, 3) := by decide +kernel
theorem dL_law_1000 : decode cL_law 1000 = .ok (.if_icmp .eq 5, 3) := by decide +kernel
theorem dL_law_1003 : decode cL_law 1003 = .ok (.iconst 0, 1) := by decide +kernel
theorem dL_law_1004 : decode cL_law 1004 = .ok (.ireturn, 1) := by decide +kernel
theorem dL_law_1005 : decode cL_law 1005 = .ok (.iinc 3 4, 3) := by decide +kernel
theorem dL_law_1008 : decode cL_law 1008 = .ok (.goto (-990), 3) := by decide +kernel
theorem dL_law_1011 : decode cL_law 1011 = .ok (.iconst 1, 1) := by decide +kernel
theorem dL_law_1012 : decode cL_law 1012 = .ok (.ireturn, 1) := by decide +kernel
