/-! decode rows -/
theorem d_Mod_write_195 : decode prog_9_method_41_code 195 = .ok (.iload 7, 2) := by decide +kernel
theorem d_Mod_write_197 : decode prog_9_method_41_code 197 = .ok (.iload 8, 2) := by decide +kernel
theorem d_Mod_write_199 : decode prog_9_method_41_code 199 = .ok (.iadd, 1) := by decide +kernel
theorem d_Mod_write_200 : decode prog_9_method_41_code 200 = .ok (.invokevirtual 150, 3) := by decide +kernel
theorem d_Mod_write_203 : decode prog_9_method_41_code 203 = .ok (.istore 6, 2) := by decide +kernel
theorem d_Mod_write_205 : decode prog_9_method_41_code 205 = .ok (.iinc 8 1, 3) := by decide +kernel
theorem d_Mod_write_208 : decode prog_9_method_41_code 208 = .ok (.goto (-29), 3) := by decide +kernel
theorem d_Mod_write_211 : decode prog_9_method_41_code 211 = .ok (.aload_n 0, 1) := by decide +kernel
theorem d_Mod_write_212 : decode prog_9_method_41_code 212 = .ok (.bipush 6, 2) := by decide +kernel
theorem d_Mod_write_214 : decode prog_9_method_41_code 214 = .ok (.bipush 99, 2) := by decide +kernel
theorem d_Mod_write_216 : decode prog_9_method_41_code 216 = .ok (.iconst 0, 1) := by decide +kernel
theorem d_Mod_write_217 : decode prog_9_method_41_code 217 = .ok (.invokevirtual 63, 3) := by decide +kernel
theorem d_Mod_write_220 : decode prog_9_method_41_code 220 = .ok (.pop, 1) := by decide +kernel
theorem d_Mod_write_221 : decode prog_9_method_41_code 221 = .ok (.aload_n 0, 1) := by decide +kernel
theorem d_Mod_write_222 : decode prog_9_method_41_code 222 = .ok (.iload_n 1, 1) := by decide +kernel
theorem d_Mod_write_223 : decode prog_9_method_41_code 223 = .ok (.iload 7, 2) := by decide +kernel
theorem d_Mod_write_225 : decode prog_9_method_41_code 225 = .ok (.invokevirtual 156, 3) := by decide +kernel
theorem d_Mod_write_228 : decode prog_9_method_41_code 228 = .ok (.aload_n 0, 1) := by decide +kernel
theorem d_Mod_write_229 : decode prog_9_method_41_code 229 = .ok (.iload 4, 2) := by decide +kernel
theorem d_Mod_write_231 : decode prog_9_method_41_code 231 = .ok (.iconst 1, 1) := by decide +kernel
theorem d_Mod_write_232 : decode prog_9_method_41_code 232 = .ok (.iadd, 1) := by decide +kernel
theorem d_Mod_write_233 : decode prog_9_method_41_code 233 = .ok (.invokevirtual 153, 3) := by decide +kernel
theorem d_Mod_write_236 : decode prog_9_method_41_code 236 = .ok (.aload_n 0, 1) := by decide +kernel
theorem d_Mod_write_237 : decode prog_9_method_41_code 237 = .ok (.iload_n 3, 1) := by decide +kernel
theorem d_Mod_write_238 : decode prog_9_method_41_code 238 = .ok (.invokevirtual 126, 3) := by decide +kernel
theorem d_Mod_write_241 : decode prog_9_method_41_code 241 = .ok (.iconst 0, 1) := by decide +kernel
theorem d_Mod_write_242 : decode prog_9_method_41_code 242 = .ok (.istore 8, 2) := by decide +kernel
theorem d_Mod_write_244 : decode prog_9_method_41_code 244 = .ok (.iload 8, 2) := by decide +kernel
theorem d_Mod_write_246 : decode prog_9_method_41_code 246 = .ok (.iload 4, 2) := by decide +kernel
theorem d_Mod_write_248 : decode prog_9_method_41_code 248 = .ok (.if_icmp .gt 18, 3) := by decide +kernel
theorem d_Mod_write_251 : decode prog_9_method_41_code 251 = .ok (.aload_n 0, 1) := by decide +kernel
theorem d_Mod_write_252 : decode prog_9_method_41_code 252 = .ok (.iload 7, 2) := by decide +kernel
theorem d_Mod_write_254 : decode prog_9_method_41_code 254 = .ok (.iload 8, 2) := by decide +kernel
theorem d_Mod_write_256 : decode prog_9_method_41_code 256 = .ok (.iadd, 1) := by decide +kernel
theorem d_Mod_write_257 : decode prog_9_method_41_code 257 = .ok (.invokevirtual 126, 3) := by decide +kernel
theorem d_Mod_write_260 : decode prog_9_method_41_code 260 = .ok (.iinc 8 1, 3) := by decide +kernel
theorem d_Mod_write_263 : decode prog_9_method_41_code 263 = .ok (.goto (-19), 3) := by decide +kernel
theorem d_Mod_write_266 : decode prog_9_method_41_code 266 = .ok (.return_, 1) := by decide +kernel
theorem d_Mod_part2_0 : decode prog_9_method_42_code 0 = .ok (.aload_n 0, 1) := by decide +kernel
theorem d_Mod_part2_1 : decode prog_9_method_42_code 1 = .ok (.getfield 34, 3) := by decide +kernel
theorem d_Mod_part2_4 : decode prog_9_method_42_code 4 = .ok (.iload_n 1, 1) := by decide +kernel
theorem d_Mod_part2_5 : decode prog_9_method_42_code 5 = .ok (.iaload, 1) := by decide +kernel
theorem d_Mod_part2_6 : decode prog_9_method_42_code 6 = .ok (.istore_n 3, 1) := by decide +kernel
theorem d_Mod_part2_7 : decode prog_9_method_42_code 7 = .ok (.aload_n 0, 1) := by decide +kernel
theorem d_Mod_part2_8 : decode prog_9_method_42_code 8 = .ok (.getfield 37, 3) := by decide +kernel
theorem d_Mod_part2_11 : decode prog_9_method_42_code 11 = .ok (.iload_n 3, 1) := by decide +kernel
theorem d_Mod_part2_12 : decode prog_9_method_42_code 12 = .ok (.iaload, 1) := by decide +kernel
theorem d_Mod_part2_13 : decode prog_9_method_42_code 13 = .ok (.istore 4, 2) := by decide +kernel
theorem d_Mod_part2_15 : decode prog_9_method_42_code 15 = .ok (.aload_n 0, 1) := by decide +kernel
theorem d_Mod_part2_16 : decode prog_9_method_42_code 16 = .ok (.getfield 40, 3) := by decide +kernel
theorem d_Mod_part2_19 : decode prog_9_method_42_code 19 = .ok (.iload_n 1, 1) := by decide +kernel
theorem d_Mod_part2_20 : decode prog_9_method_42_code 20 = .ok (.iaload, 1) := by decide +kernel
theorem d_Mod_part2_21 : decode prog_9_method_42_code 21 = .ok (.istore 5, 2) := by decide +kernel
theorem d_Mod_part2_23 : decode prog_9_method_42_code 23 = .ok (.aload_n 0, 1) := by decide +kernel
theorem d_Mod_part2_24 : decode prog_9_method_42_code 24 = .ok (.aload_n 0, 1) := by decide +kernel
theorem d_Mod_part2_25 : decode prog_9_method_42_code 25 = .ok (.getfield 31, 3) := by decide +kernel
theorem d_Mod_part2_28 : decode prog_9_method_42_code 28 = .ok (.iload_n 1, 1) := by decide +kernel
theorem d_Mod_part2_29 : decode prog_9_method_42_code 29 = .ok (.iaload, 1) := by decide +kernel
theorem d_Mod_part2_30 : decode prog_9_method_42_code 30 = .ok (.iload 4, 2) := by decide +kernel
theorem d_Mod_part2_32 : decode prog_9_method_42_code 32 = .ok (.invokevirtual 107, 3) := by decide +kernel
theorem d_Mod_part2_35 : decode prog_9_method_42_code 35 = .ok (.istore 6, 2) := by decide +kernel
theorem d_Mod_part2_37 : decode prog_9_method_42_code 37 = .ok (.iconst 0, 1) := by decide +kernel
theorem d_Mod_part2_38 : decode prog_9_method_42_code 38 = .ok (.istore 7, 2) := by decide +kernel
theorem d_Mod_part2_40 : decode prog_9_method_42_code 40 = .ok (.iload 7, 2) := by decide +kernel
theorem d_Mod_part2_42 : decode prog_9_method_42_code 42 = .ok (.iload 4, 2) := by decide +kernel
theorem d_Mod_part2_44 : decode prog_9_method_42_code 44 = .ok (.if_icmp .ge 17, 3) := by decide +kernel
theorem d_Mod_part2_47 : decode prog_9_method_42_code 47 = .ok (.aload_n 0, 1) := by decide +kernel
theorem d_Mod_part2_48 : decode prog_9_method_42_code 48 = .ok (.iload 7, 2) := by decide +kernel
theorem d_Mod_part2_50 : decode prog_9_method_42_code 50 = .ok (.iload 7, 2) := by decide +kernel
theorem d_Mod_part2_52 : decode prog_9_method_42_code 52 = .ok (.invokevirtual 133, 3) := by decide +kernel
theorem d_Mod_part2_55 : decode prog_9_method_42_code 55 = .ok (.iinc 7 1, 3) := by decide +kernel
theorem d_Mod_part2_58 : decode prog_9_method_42_code 58 = .ok (.goto (-18), 3) := by decide +kernel
theorem d_Mod_part2_61 : decode prog_9_method_42_code 61 = .ok (.iconst 0, 1) := by decide +kernel
theorem d_Mod_part2_62 : decode prog_9_method_42_code 62 = .ok (.istore 7, 2) := by decide +kernel
theorem d_Mod_part2_64 : decode prog_9_method_42_code 64 = .ok (.iload 7, 2) := by decide +kernel
theorem d_Mod_part2_66 : decode prog_9_method_42_code 66 = .ok (.iload 5, 2) := by decide +kernel
theorem d_Mod_part2_68 : decode prog_9_method_42_code 68 = .ok (.if_icmp .ge 28, 3) := by decide +kernel
theorem d_Mod_part2_71 : decode prog_9_method_42_code 71 = .ok (.aload_n 0, 1) := by decide +kernel
theorem d_Mod_part2_72 : decode prog_9_method_42_code 72 = .ok (.bipush 6, 2) := by decide +kernel
theorem d_Mod_part2_74 : decode prog_9_method_42_code 74 = .ok (.iload 6, 2) := by decide +kernel
theorem d_Mod_part2_76 : decode prog_9_method_42_code 76 = .ok (.iload 4, 2) := by decide +kernel
theorem d_Mod_part2_78 : decode prog_9_method_42_code 78 = .ok (.iload 7, 2) := by decide +kernel
theorem d_Mod_part2_80 : decode prog_9_method_42_code 80 = .ok (.iadd, 1) := by decide +kernel
theorem d_Mod_part2_81 : decode prog_9_method_42_code 81 = .ok (.iload_n 2, 1) := by decide +kernel
theorem d_Mod_part2_82 : decode prog_9_method_42_code 82 = .ok (.iload 7, 2) := by decide +kernel
theorem d_Mod_part2_84 : decode prog_9_method_42_code 84 = .ok (.iadd, 1) := by decide +kernel
theorem d_Mod_part2_85 : decode prog_9_method_42_code 85 = .ok (.invokevirtual 150, 3) := by decide +kernel
theorem d_Mod_part2_88 : decode prog_9_method_42_code 88 = .ok (.istore 6, 2) := by decide +kernel
theorem d_Mod_part2_90 : decode prog_9_method_42_code 90 = .ok (.iinc 7 1, 3) := by decide +kernel
theorem d_Mod_part2_93 : decode prog_9_method_42_code 93 = .ok (.goto (-29), 3) := by decide +kernel
theorem d_Mod_part2_96 : decode prog_9_method_42_code 96 = .ok (.iload_n 2, 1) := by decide +kernel
theorem d_Mod_part2_97 : decode prog_9_method_42_code 97 = .ok (.iload 5, 2) := by decide +kernel
theorem d_Mod_part2_99 : decode prog_9_method_42_code 99 = .ok (.iadd, 1) := by decide +kernel
theorem d_Mod_part2_100 : decode prog_9_method_42_code 100 = .ok (.istore 7, 2) := by decide +kernel
theorem d_Mod_part2_102 : decode prog_9_method_42_code 102 = .ok (.iconst 0, 1) := by decide +kernel
theorem d_Mod_part2_103 : decode prog_9_method_42_code 103 = .ok (.istore 8, 2) := by decide +kernel
theorem d_Mod_part2_105 : decode prog_9_method_42_code 105 = .ok (.iload 8, 2) := by decide +kernel
theorem d_Mod_part2_107 : decode prog_9_method_42_code 107 = .ok (.iload 5, 2) := by decide +kernel
theorem d_Mod_part2_109 : decode prog_9_method_42_code 109 = .ok (.if_icmp .ge 77, 3) := by decide +kernel
theorem d_Mod_part2_112 : decode prog_9_method_42_code 112 = .ok (.aload_n 0, 1) := by decide +kernel
theorem d_Mod_part2_113 : decode prog_9_method_42_code 113 = .ok (.iload_n 1, 1) := by decide +kernel
theorem d_Mod_part2_114 : decode prog_9_method_42_code 114 = .ok (.iload 8, 2) := by decide +kernel
theorem d_Mod_part2_116 : decode prog_9_method_42_code 116 = .ok (.invokevirtual 140, 3) := by decide +kernel
theorem d_Mod_part2_119 : decode prog_9_method_42_code 119 = .ok (.ifCond .eq 61, 3) := by decide +kernel
theorem d_Mod_part2_122 : decode prog_9_method_42_code 122 = .ok (.aload_n 0, 1) := by decide +kernel
theorem d_Mod_part2_123 : decode prog_9_method_42_code 123 = .ok (.bipush 6, 2) := by decide +kernel
theorem d_Mod_part2_125 : decode prog_9_method_42_code 125 = .ok (.iconst (-1), 1) := by decide +kernel
theorem d_Mod_part2_126 : decode prog_9_method_42_code 126 = .ok (.iconst 0, 1) := by decide +kernel
theorem d_Mod_part2_127 : decode prog_9_method_42_code 127 = .ok (.invokevirtual 63, 3) := by decide +kernel
theorem d_Mod_part2_130 : decode prog_9_method_42_code 130 = .ok (.pop, 1) := by decide +kernel
theorem d_Mod_part2_131 : decode prog_9_method_42_code 131 = .ok (.aload_n 0, 1) := by decide +kernel
theorem d_Mod_part2_132 : decode prog_9_method_42_code 132 = .ok (.iload_n 1, 1) := by decide +kernel
theorem d_Mod_part2_133 : decode prog_9_method_42_code 133 = .ok (.iload 8, 2) := by decide +kernel
theorem d_Mod_part2_135 : decode prog_9_method_42_code 135 = .ok (.bipush 6, 2) := by decide +kernel
theorem d_Mod_part2_137 : decode prog_9_method_42_code 137 = .ok (.iload 7, 2) := by decide +kernel
theorem d_Mod_part2_139 : decode prog_9_method_42_code 139 = .ok (.iload_n 2, 1) := by decide +kernel
theorem d_Mod_part2_140 : decode prog_9_method_42_code 140 = .ok (.iload 8, 2) := by decide +kernel
theorem d_Mod_part2_142 : decode prog_9_method_42_code 142 = .ok (.iadd, 1) := by decide +kernel
theorem d_Mod_part2_143 : decode prog_9_method_42_code 143 = .ok (.iload 4, 2) := by decide +kernel
theorem d_Mod_part2_145 : decode prog_9_method_42_code 145 = .ok (.invokevirtual 143, 3) := by decide +kernel
theorem d_Mod_part2_148 : decode prog_9_method_42_code 148 = .ok (.iinc 7 1, 3) := by decide +kernel
theorem d_Mod_part2_151 : decode prog_9_method_42_code 151 = .ok (.iconst 0, 1) := by decide +kernel
theorem d_Mod_part2_152 : decode prog_9_method_42_code 152 = .ok (.istore 9, 2) := by decide +kernel
theorem d_Mod_part2_154 : decode prog_9_method_42_code 154 = .ok (.iload 9, 2) := by decide +kernel
theorem d_Mod_part2_156 : decode prog_9_method_42_code 156 = .ok (.iload 5, 2) := by decide +kernel
theorem d_Mod_part2_158 : decode prog_9_method_42_code 158 = .ok (.if_icmp .ge 22, 3) := by decide +kernel
theorem d_Mod_part2_161 : decode prog_9_method_42_code 161 = .ok (.aload_n 0, 1) := by decide +kernel
theorem d_Mod_part2_162 : decode prog_9_method_42_code 162 = .ok (.iload 4, 2) := by decide +kernel
theorem d_Mod_part2_164 : decode prog_9_method_42_code 164 = .ok (.iload 9, 2) := by decide +kernel
theorem d_Mod_part2_166 : decode prog_9_method_42_code 166 = .ok (.iadd, 1) := by decide +kernel
theorem d_Mod_part2_167 : decode prog_9_method_42_code 167 = .ok (.iload_n 2, 1) := by decide +kernel
theorem d_Mod_part2_168 : decode prog_9_method_42_code 168 = .ok (.iload 9, 2) := by decide +kernel
theorem d_Mod_part2_170 : decode prog_9_method_42_code 170 = .ok (.iadd, 1) := by decide +kernel
theorem d_Mod_part2_171 : decode prog_9_method_42_code 171 = .ok (.invokevirtual 133, 3) := by decide +kernel
theorem d_Mod_part2_174 : decode prog_9_method_42_code 174 = .ok (.iinc 9 1, 3) := by decide +kernel
theorem d_Mod_part2_177 : decode prog_9_method_42_code 177 = .ok (.goto (-23), 3) := by decide +kernel
theorem d_Mod_part2_180 : decode prog_9_method_42_code 180 = .ok (.iinc 8 1, 3) := by decide +kernel
theorem d_Mod_part2_183 : decode prog_9_method_42_code 183 = .ok (.goto (-78), 3) := by decide +kernel
theorem d_Mod_part2_186 : decode prog_9_method_42_code 186 = .ok (.aload_n 0, 1) := by decide +kernel
theorem d_Mod_part2_187 : decode prog_9_method_42_code 187 = .ok (.aload_n 0, 1) := by decide +kernel
theorem d_Mod_part2_188 : decode prog_9_method_42_code 188 = .ok (.getfield 40, 3) := by decide +kernel
theorem d_Mod_part2_191 : decode prog_9_method_42_code 191 = .ok (.iload_n 3, 1) := by decide +kernel
theorem d_Mod_part2_192 : decode prog_9_method_42_code 192 = .ok (.iaload, 1) := by decide +kernel
theorem d_Mod_part2_193 : decode prog_9_method_42_code 193 = .ok (.iconst 1, 1) := by decide +kernel
theorem d_Mod_part2_194 : decode prog_9_method_42_code 194 = .ok (.iadd, 1) := by decide +kernel
theorem d_Mod_part2_195 : decode prog_9_method_42_code 195 = .ok (.invokevirtual 153, 3) := by decide +kernel
theorem d_Mod_part2_198 : decode prog_9_method_42_code 198 = .ok (.aload_n 0, 1) := by decide +kernel
theorem d_Mod_part2_199 : decode prog_9_method_42_code 199 = .ok (.iload 4, 2) := by decide +kernel
theorem d_Mod_part2_201 : decode prog_9_method_42_code 201 = .ok (.invokevirtual 126, 3) := by decide +kernel
theorem d_Mod_part2_204 : decode prog_9_method_42_code 204 = .ok (.iconst 0, 1) := by decide +kernel
theorem d_Mod_part2_205 : decode prog_9_method_42_code 205 = .ok (.istore 8, 2) := by decide +kernel
theorem d_Mod_part2_207 : decode prog_9_method_42_code 207 = .ok (.iload 8, 2) := by decide +kernel
theorem d_Mod_part2_209 : decode prog_9_method_42_code 209 = .ok (.aload_n 0, 1) := by decide +kernel
theorem d_Mod_part2_210 : decode prog_9_method_42_code 210 = .ok (.getfield 40, 3) := by decide +kernel
theorem d_Mod_part2_213 : decode prog_9_method_42_code 213 = .ok (.iload_n 3, 1) := by decide +kernel
theorem d_Mod_part2_214 : decode prog_9_method_42_code 214 = .ok (.iaload, 1) := by decide +kernel
theorem d_Mod_part2_215 : decode prog_9_method_42_code 215 = .ok (.if_icmp .ge 27, 3) := by decide +kernel
theorem d_Mod_part2_218 : decode prog_9_method_42_code 218 = .ok (.aload_n 0, 1) := by decide +kernel
theorem d_Mod_part2_219 : decode prog_9_method_42_code 219 = .ok (.aload_n 0, 1) := by decide +kernel
theorem d_Mod_part2_220 : decode prog_9_method_42_code 220 = .ok (.iload 6, 2) := by decide +kernel
theorem d_Mod_part2_222 : decode prog_9_method_42_code 222 = .ok (.iload_n 3, 1) := by decide +kernel
theorem d_Mod_part2_223 : decode prog_9_method_42_code 223 = .ok (.iload 8, 2) := by decide +kernel
theorem d_Mod_part2_225 : decode prog_9_method_42_code 225 = .ok (.invokevirtual 119, 3) := by decide +kernel
theorem d_Mod_part2_228 : decode prog_9_method_42_code 228 = .ok (.iload 4, 2) := by decide +kernel
theorem d_Mod_part2_230 : decode prog_9_method_42_code 230 = .ok (.iload 5, 2) := by decide +kernel
theorem d_Mod_part2_232 : decode prog_9_method_42_code 232 = .ok (.iadd, 1) := by decide +kernel
theorem d_Mod_part2_233 : decode prog_9_method_42_code 233 = .ok (.invokevirtual 129, 3) := by decide +kernel
theorem d_Mod_part2_236 : decode prog_9_method_42_code 236 = .ok (.iinc 8 1, 3) := by decide +kernel
theorem d_Mod_part2_239 : decode prog_9_method_42_code 239 = .ok (.goto (-32), 3) := by decide +kernel
theorem d_Mod_part2_242 : decode prog_9_method_42_code 242 = .ok (.aload_n 0, 1) := by decide +kernel
theorem d_Mod_part2_243 : decode prog_9_method_42_code 243 = .ok (.iload 4, 2) := by decide +kernel
theorem d_Mod_part2_245 : decode prog_9_method_42_code 245 = .ok (.iload 5, 2) := by decide +kernel
theorem d_Mod_part2_247 : decode prog_9_method_42_code 247 = .ok (.iadd, 1) := by decide +kernel
theorem d_Mod_part2_248 : decode prog_9_method_42_code 248 = .ok (.invokevirtual 153, 3) := by decide +kernel
theorem d_Mod_part2_251 : decode prog_9_method_42_code 251 = .ok (.aload_n 0, 1) := by decide +kernel
theorem d_Mod_part2_252 : decode prog_9_method_42_code 252 = .ok (.iconst 1, 1) := by decide +kernel
theorem d_Mod_part2_253 : decode prog_9_method_42_code 253 = .ok (.iload_n 1, 1) := by decide +kernel
theorem d_Mod_part2_254 : decode prog_9_method_42_code 254 = .ok (.iconst 0, 1) := by decide +kernel
theorem d_Mod_part2_255 : decode prog_9_method_42_code 255 = .ok (.invokevirtual 63, 3) := by decide +kernel
theorem d_Mod_part2_258 : decode prog_9_method_42_code 258 = .ok (.pop, 1) := by decide +kernel
theorem d_Mod_part2_259 : decode prog_9_method_42_code 259 = .ok (.iconst 0, 1) := by decide +kernel
theorem d_Mod_part2_260 : decode prog_9_method_42_code 260 = .ok (.istore 8, 2) := by decide +kernel
theorem d_Mod_part2_262 : decode prog_9_method_42_code 262 = .ok (.iload 8, 2) := by decide +kernel
theorem d_Mod_part2_264 : decode prog_9_method_42_code 264 = .ok (.iload 4, 2) := by decide +kernel
theorem d_Mod_part2_266 : decode prog_9_method_42_code 266 = .ok (.if_icmp .ge 15, 3) := by decide +kernel
theorem d_Mod_part2_269 : decode prog_9_method_42_code 269 = .ok (.aload_n 0, 1) := by decide +kernel
theorem d_Mod_part2_270 : decode prog_9_method_42_code 270 = .ok (.iload 8, 2) := by decide +kernel
theorem d_Mod_part2_272 : decode prog_9_method_42_code 272 = .ok (.invokevirtual 126, 3) := by decide +kernel
theorem d_Mod_part2_275 : decode prog_9_method_42_code 275 = .ok (.iinc 8 1, 3) := by decide +kernel
theorem d_Mod_part2_278 : decode prog_9_method_42_code 278 = .ok (.goto (-16), 3) := by decide +kernel
theorem d_Mod_part2_281 : decode prog_9_method_42_code 281 = .ok (.iconst 0, 1) := by decide +kernel
theorem d_Mod_part2_282 : decode prog_9_method_42_code 282 = .ok (.istore 8, 2) := by decide +kernel
theorem d_Mod_part2_284 : decode prog_9_method_42_code 284 = .ok (.iload 8, 2) := by decide +kernel
theorem d_Mod_part2_286 : decode prog_9_method_42_code 286 = .ok (.iload 5, 2) := by decide +kernel
theorem d_Mod_part2_288 : decode prog_9_method_42_code 288 = .ok (.if_icmp .ge 17, 3) := by decide +kernel
theorem d_Mod_part2_291 : decode prog_9_method_42_code 291 = .ok (.aload_n 0, 1) := by decide +kernel
theorem d_Mod_part2_292 : decode prog_9_method_42_code 292 = .ok (.iload_n 2, 1) := by decide +kernel
theorem d_Mod_part2_293 : decode prog_9_method_42_code 293 = .ok (.iload 8, 2) := by decide +kernel
theorem d_Mod_part2_295 : decode prog_9_method_42_code 295 = .ok (.iadd, 1) := by decide +kernel
theorem d_Mod_part2_296 : decode prog_9_method_42_code 296 = .ok (.invokevirtual 126, 3) := by decide +kernel
theorem d_Mod_part2_299 : decode prog_9_method_42_code 299 = .ok (.iinc 8 1, 3) := by decide +kernel
theorem d_Mod_part2_302 : decode prog_9_method_42_code 302 = .ok (.goto (-18), 3) := by decide +kernel
theorem d_Mod_part2_305 : decode prog_9_method_42_code 305 = .ok (.return_, 1) := by decide +kernel
theorem d_Mod_size_0 : decode prog_9_method_43_code 0 = .ok (.aload_n 0, 1) := by decide +kernel
theorem d_Mod_size_1 : decode prog_9_method_43_code 1 = .ok (.iload_n 1, 1) := by decide +kernel
theorem d_Mod_size_2 : decode prog_9_method_43_code 2 = .ok (.invokevirtual 162, 3) := by decide +kernel
theorem d_Mod_size_5 : decode prog_9_method_43_code 5 = .ok (.ifCond .ne 5, 3) := by decide +kernel
theorem d_Mod_size_8 : decode prog_9_method_43_code 8 = .ok (.iconst (-1), 1) := by decide +kernel
theorem d_Mod_size_9 : decode prog_9_method_43_code 9 = .ok (.ireturn, 1) := by decide +kernel
theorem d_Mod_size_10 : decode prog_9_method_43_code 10 = .ok (.aload_n 0, 1) := by decide +kernel
theorem d_Mod_size_11 : decode prog_9_method_43_code 11 = .ok (.getfield 55, 3) := by decide +kernel
theorem d_Mod_size_14 : decode prog_9_method_43_code 14 = .ok (.istore_n 2, 1) := by decide +kernel
theorem d_Mod_size_15 : decode prog_9_method_43_code 15 = .ok (.aload_n 0, 1) := by decide +kernel
theorem d_Mod_size_16 : decode prog_9_method_43_code 16 = .ok (.iload_n 1, 1) := by decide +kernel
theorem d_Mod_size_17 : decode prog_9_method_43_code 17 = .ok (.iconst 0, 1) := by decide +kernel
theorem d_Mod_size_18 : decode prog_9_method_43_code 18 = .ok (.invokevirtual 165, 3) := by decide +kernel
theorem d_Mod_size_21 : decode prog_9_method_43_code 21 = .ok (.aload_n 0, 1) := by decide +kernel
theorem d_Mod_size_22 : decode prog_9_method_43_code 22 = .ok (.getfield 55, 3) := by decide +kernel
theorem d_Mod_size_25 : decode prog_9_method_43_code 25 = .ok (.iload_n 2, 1) := by decide +kernel
theorem d_Mod_size_26 : decode prog_9_method_43_code 26 = .ok (.isub, 1) := by decide +kernel
theorem d_Mod_size_27 : decode prog_9_method_43_code 27 = .ok (.istore_n 3, 1) := by decide +kernel
theorem d_Mod_size_28 : decode prog_9_method_43_code 28 = .ok (.aload_n 0, 1) := by decide +kernel
theorem d_Mod_size_29 : decode prog_9_method_43_code 29 = .ok (.iload_n 2, 1) := by decide +kernel
theorem d_Mod_size_30 : decode prog_9_method_43_code 30 = .ok (.putfield 55, 3) := by decide +kernel
theorem d_Mod_size_33 : decode prog_9_method_43_code 33 = .ok (.iload_n 3, 1) := by decide +kernel
theorem d_Mod_size_34 : decode prog_9_method_43_code 34 = .ok (.ireturn, 1) := by decide +kernel
theorem d_Mod_type_0 : decode prog_9_method_44_code 0 = .ok (.aload_n 0, 1) := by decide +kernel
theorem d_Mod_type_1 : decode prog_9_method_44_code 1 = .ok (.iload_n 1, 1) := by decide +kernel
theorem d_Mod_type_2 : decode prog_9_method_44_code 2 = .ok (.invokevirtual 162, 3) := by decide +kernel
theorem d_Mod_type_5 : decode prog_9_method_44_code 5 = .ok (.ifCond .eq 13, 3) := by decide +kernel
theorem d_Mod_type_8 : decode prog_9_method_44_code 8 = .ok (.iload_n 2, 1) := by decide +kernel
theorem d_Mod_type_9 : decode prog_9_method_44_code 9 = .ok (.ifCond .lt 9, 3) := by decide +kernel
theorem d_Mod_type_12 : decode prog_9_method_44_code 12 = .ok (.iload_n 2, 1) := by decide +kernel
theorem d_Mod_type_13 : decode prog_9_method_44_code 13 = .ok (.bipush 100, 2) := by decide +kernel
theorem d_Mod_type_15 : decode prog_9_method_44_code 15 = .ok (.if_icmp .le 5, 3) := by decide +kernel
theorem d_Mod_type_18 : decode prog_9_method_44_code 18 = .ok (.iconst (-1), 1) := by decide +kernel
theorem d_Mod_type_19 : decode prog_9_method_44_code 19 = .ok (.ireturn, 1) := by decide +kernel
theorem d_Mod_type_20 : decode prog_9_method_44_code 20 = .ok (.aload_n 0, 1) := by decide +kernel
theorem d_Mod_type_21 : decode prog_9_method_44_code 21 = .ok (.getfield 55, 3) := by decide +kernel
theorem d_Mod_type_24 : decode prog_9_method_44_code 24 = .ok (.istore_n 3, 1) := by decide +kernel
theorem d_Mod_type_25 : decode prog_9_method_44_code 25 = .ok (.aload_n 0, 1) := by decide +kernel
theorem d_Mod_type_26 : decode prog_9_method_44_code 26 = .ok (.iload_n 1, 1) := by decide +kernel
theorem d_Mod_type_27 : decode prog_9_method_44_code 27 = .ok (.iload_n 2, 1) := by decide +kernel
theorem d_Mod_type_28 : decode prog_9_method_44_code 28 = .ok (.invokevirtual 165, 3) := by decide +kernel
theorem d_Mod_type_31 : decode prog_9_method_44_code 31 = .ok (.aload_n 0, 1) := by decide +kernel
theorem d_Mod_type_32 : decode prog_9_method_44_code 32 = .ok (.iload_n 3, 1) := by decide +kernel
theorem d_Mod_type_33 : decode prog_9_method_44_code 33 = .ok (.invokevirtual 147, 3) := by decide +kernel
theorem d_Mod_type_36 : decode prog_9_method_44_code 36 = .ok (.aload_n 0, 1) := by decide +kernel
theorem d_Mod_type_37 : decode prog_9_method_44_code 37 = .ok (.iload_n 3, 1) := by decide +kernel
theorem d_Mod_type_38 : decode prog_9_method_44_code 38 = .ok (.invokevirtual 84, 3) := by decide +kernel
theorem d_Mod_type_41 : decode prog_9_method_44_code 41 = .ok (.ireturn, 1) := by decide +kernel
theorem d_Global_init_0 : decode prog_2_method_1_code 0 = .ok (.aload_n 0, 1) := by decide +kernel
theorem d_Global_init_1 : decode prog_2_method_1_code 1 = .ok (.invokespecial 3, 3) := by decide +kernel
theorem d_Global_init_4 : decode prog_2_method_1_code 4 = .ok (.aload_n 0, 1) := by decide +kernel
theorem d_Global_init_5 : decode prog_2_method_1_code 5 = .ok (.iconst (-1), 1) := by decide +kernel
theorem d_Global_init_6 : decode prog_2_method_1_code 6 = .ok (.putfield 9, 3) := by decide +kernel
theorem d_Global_init_9 : decode prog_2_method_1_code 9 = .ok (.aload_n 0, 1) := by decide +kernel
theorem d_Global_init_10 : decode prog_2_method_1_code 10 = .ok (.iload_n 1, 1) := by decide +kernel
theorem d_Global_init_11 : decode prog_2_method_1_code 11 = .ok (.putfield 15, 3) := by decide +kernel
theorem d_Global_init_14 : decode prog_2_method_1_code 14 = .ok (.aload_n 0, 1) := by decide +kernel
theorem d_Global_init_15 : decode prog_2_method_1_code 15 = .ok (.iload_n 2, 1) := by decide +kernel
theorem d_Global_init_16 : decode prog_2_method_1_code 16 = .ok (.putfield 18, 3) := by decide +kernel
theorem d_Global_init_19 : decode prog_2_method_1_code 19 = .ok (.aload_n 0, 1) := by decide +kernel
theorem d_Global_init_20 : decode prog_2_method_1_code 20 = .ok (.iload_n 3, 1) := by decide +kernel
theorem d_Global_init_21 : decode prog_2_method_1_code 21 = .ok (.putfield 21, 3) := by decide +kernel
theorem d_Global_init_24 : decode prog_2_method_1_code 24 = .ok (.aload_n 0, 1) := by decide +kernel
theorem d_Global_init_25 : decode prog_2_method_1_code 25 = .ok (.iload 4, 2) := by decide +kernel
theorem d_Global_init_27 : decode prog_2_method_1_code 27 = .ok (.putfield 24, 3) := by decide +kernel
theorem d_Global_init_30 : decode prog_2_method_1_code 30 = .ok (.aload_n 0, 1) := by decide +kernel
theorem d_Global_init_31 : decode prog_2_method_1_code 31 = .ok (.iload 5, 2) := by decide +kernel
theorem d_Global_init_33 : decode prog_2_method_1_code 33 = .ok (.putfield 27, 3) := by decide +kernel
theorem d_Global_init_36 : decode prog_2_method_1_code 36 = .ok (.return_, 1) := by decide +kernel
theorem d_Global_constructorAt_0 : decode prog_2_method_2_code 0 = .ok (.aload_n 0, 1) := by decide +kernel
theorem d_Global_constructorAt_1 : decode prog_2_method_2_code 1 = .ok (.getfield 30, 3) := by decide +kernel
theorem d_Global_constructorAt_4 : decode prog_2_method_2_code 4 = .ok (.ifnull 25, 3) := by decide +kernel
theorem d_Global_constructorAt_7 : decode prog_2_method_2_code 7 = .ok (.iload_n 1, 1) := by decide +kernel
theorem d_Global_constructorAt_8 : decode prog_2_method_2_code 8 = .ok (.ifCond .lt 21, 3) := by decide +kernel
theorem d_Global_constructorAt_11 : decode prog_2_method_2_code 11 = .ok (.iload_n 1, 1) := by decide +kernel
theorem d_Global_constructorAt_12 : decode prog_2_method_2_code 12 = .ok (.aload_n 0, 1) := by decide +kernel
theorem d_Global_constructorAt_13 : decode prog_2_method_2_code 13 = .ok (.getfield 30, 3) := by decide +kernel
theorem d_Global_constructorAt_16 : decode prog_2_method_2_code 16 = .ok (.arraylength, 1) := by decide +kernel
theorem d_Global_constructorAt_17 : decode prog_2_method_2_code 17 = .ok (.if_icmp .ge 12, 3) := by decide +kernel
theorem d_Global_constructorAt_20 : decode prog_2_method_2_code 20 = .ok (.aload_n 0, 1) := by decide +kernel
theorem d_Global_constructorAt_21 : decode prog_2_method_2_code 21 = .ok (.getfield 30, 3) := by decide +kernel
theorem d_Global_constructorAt_24 : decode prog_2_method_2_code 24 = .ok (.iload_n 1, 1) := by decide +kernel
theorem d_Global_constructorAt_25 : decode prog_2_method_2_code 25 = .ok (.aaload, 1) := by decide +kernel
theorem d_Global_constructorAt_26 : decode prog_2_method_2_code 26 = .ok (.goto 4, 3) := by decide +kernel
theorem d_Global_constructorAt_29 : decode prog_2_method_2_code 29 = .ok (.aconst_null, 1) := by decide +kernel
theorem d_Global_constructorAt_30 : decode prog_2_method_2_code 30 = .ok (.areturn, 1) := by decide +kernel
theorem d_Global_isWholeTold_0 : decode prog_2_method_3_code 0 = .ok (.iconst 0, 1) := by decide +kernel
theorem d_Global_isWholeTold_1 : decode prog_2_method_3_code 1 = .ok (.istore_n 1, 1) := by decide +kernel
theorem d_Global_isWholeTold_2 : decode prog_2_method_3_code 2 = .ok (.iload_n 1, 1) := by decide +kernel
theorem d_Global_isWholeTold_3 : decode prog_2_method_3_code 3 = .ok (.aload_n 0, 1) := by decide +kernel
theorem d_Global_isWholeTold_4 : decode prog_2_method_3_code 4 = .ok (.getfield 27, 3) := by decide +kernel
theorem d_Global_isWholeTold_7 : decode prog_2_method_3_code 7 = .ok (.if_icmp .ge 28, 3) := by decide +kernel
theorem d_Global_isWholeTold_10 : decode prog_2_method_3_code 10 = .ok (.aload_n 0, 1) := by decide +kernel
theorem d_Global_isWholeTold_11 : decode prog_2_method_3_code 11 = .ok (.iload_n 1, 1) := by decide +kernel
theorem d_Global_isWholeTold_12 : decode prog_2_method_3_code 12 = .ok (.invokevirtual 34, 3) := by decide +kernel
theorem d_Global_isWholeTold_15 : decode prog_2_method_3_code 15 = .ok (.astore_n 2, 1) := by decide +kernel
theorem d_Global_isWholeTold_16 : decode prog_2_method_3_code 16 = .ok (.aload_n 2, 1) := by decide +kernel
theorem d_Global_isWholeTold_17 : decode prog_2_method_3_code 17 = .ok (.ifnull 10, 3) := by decide +kernel
theorem d_Global_isWholeTold_20 : decode prog_2_method_3_code 20 = .ok (.aload_n 2, 1) := by decide +kernel
theorem d_Global_isWholeTold_21 : decode prog_2_method_3_code 21 = .ok (.getfield 38, 3) := by decide +kernel
theorem d_Global_isWholeTold_24 : decode prog_2_method_3_code 24 = .ok (.ifnonnull 5, 3) := by decide +kernel
theorem d_Global_isWholeTold_27 : decode prog_2_method_3_code 27 = .ok (.iconst 0, 1) := by decide +kernel
theorem d_Global_isWholeTold_28 : decode prog_2_method_3_code 28 = .ok (.ireturn, 1) := by decide +kernel
theorem d_Global_isWholeTold_29 : decode prog_2_method_3_code 29 = .ok (.iinc 1 1, 3) := by decide +kernel
theorem d_Global_isWholeTold_32 : decode prog_2_method_3_code 32 = .ok (.goto (-30), 3) := by decide +kernel
theorem d_Global_isWholeTold_35 : decode prog_2_method_3_code 35 = .ok (.iconst 1, 1) := by decide +kernel
theorem d_Global_isWholeTold_36 : decode prog_2_method_3_code 36 = .ok (.ireturn, 1) := by decide +kernel
theorem d_Maker_init_0 : decode prog_3_method_1_code 0 = .ok (.aload_n 0, 1) := by decide +kernel
theorem d_Maker_init_1 : decode prog_3_method_1_code 1 = .ok (.invokespecial 3, 3) := by decide +kernel
theorem d_Maker_init_4 : decode prog_3_method_1_code 4 = .ok (.aload_n 0, 1) := by decide +kernel
theorem d_Maker_init_5 : decode prog_3_method_1_code 5 = .ok (.aload_n 1, 1) := by decide +kernel
theorem d_Maker_init_6 : decode prog_3_method_1_code 6 = .ok (.putfield 9, 3) := by decide +kernel
theorem d_Maker_init_9 : decode prog_3_method_1_code 9 = .ok (.return_, 1) := by decide +kernel
theorem d_Maker_begin_0 : decode prog_3_method_2_code 0 = .ok (.aload_n 0, 1) := by decide +kernel
theorem d_Maker_begin_1 : decode prog_3_method_2_code 1 = .ok (.aload_n 1, 1) := by decide +kernel
theorem d_Maker_begin_2 : decode prog_3_method_2_code 2 = .ok (.putfield 15, 3) := by decide +kernel
theorem d_Maker_begin_5 : decode prog_3_method_2_code 5 = .ok (.aload_n 0, 1) := by decide +kernel
theorem d_Maker_begin_6 : decode prog_3_method_2_code 6 = .ok (.iconst 0, 1) := by decide +kernel
theorem d_Maker_begin_7 : decode prog_3_method_2_code 7 = .ok (.putfield 19, 3) := by decide +kernel
theorem d_Maker_begin_10 : decode prog_3_method_2_code 10 = .ok (.return_, 1) := by decide +kernel
theorem d_Maker_writeBrings_0 : decode prog_3_method_3_code 0 = .ok (.aload_n 1, 1) := by decide +kernel
theorem d_Maker_writeBrings_1 : decode prog_3_method_3_code 1 = .ok (.getfield 23, 3) := by decide +kernel
theorem d_Maker_writeBrings_4 : decode prog_3_method_3_code 4 = .ok (.astore_n 3, 1) := by decide +kernel
theorem d_Maker_writeBrings_5 : decode prog_3_method_3_code 5 = .ok (.aload_n 0, 1) := by decide +kernel
theorem d_Maker_writeBrings_6 : decode prog_3_method_3_code 6 = .ok (.aload_n 1, 1) := by decide +kernel
theorem d_Maker_writeBrings_7 : decode prog_3_method_3_code 7 = .ok (.invokevirtual 29, 3) := by decide +kernel
theorem d_Maker_writeBrings_10 : decode prog_3_method_3_code 10 = .ok (.ifCond .eq 7, 3) := by decide +kernel
theorem d_Maker_writeBrings_13 : decode prog_3_method_3_code 13 = .ok (.aload_n 3, 1) := by decide +kernel
theorem d_Maker_writeBrings_14 : decode prog_3_method_3_code 14 = .ok (.ifnonnull 4, 3) := by decide +kernel
theorem d_Maker_writeBrings_17 : decode prog_3_method_3_code 17 = .ok (.return_, 1) := by decide +kernel
theorem d_Maker_writeBrings_18 : decode prog_3_method_3_code 18 = .ok (.aload_n 0, 1) := by decide +kernel
theorem d_Maker_writeBrings_19 : decode prog_3_method_3_code 19 = .ok (.getfield 33, 3) := by decide +kernel
theorem d_Maker_writeBrings_22 : decode prog_3_method_3_code 22 = .ok (.aload_n 0, 1) := by decide +kernel
theorem d_Maker_writeBrings_23 : decode prog_3_method_3_code 23 = .ok (.getfield 36, 3) := by decide +kernel
theorem d_Maker_writeBrings_26 : decode prog_3_method_3_code 26 = .ok (.invokevirtual 39, 3) := by decide +kernel
theorem d_Maker_writeBrings_29 : decode prog_3_method_3_code 29 = .ok (.istore 4, 2) := by decide +kernel
theorem d_Maker_writeBrings_31 : decode prog_3_method_3_code 31 = .ok (.iconst 0, 1) := by decide +kernel
theorem d_Maker_writeBrings_32 : decode prog_3_method_3_code 32 = .ok (.istore 5, 2) := by decide +kernel
theorem d_Maker_writeBrings_34 : decode prog_3_method_3_code 34 = .ok (.iconst 0, 1) := by decide +kernel
theorem d_Maker_writeBrings_35 : decode prog_3_method_3_code 35 = .ok (.istore 6, 2) := by decide +kernel
theorem d_Maker_writeBrings_37 : decode prog_3_method_3_code 37 = .ok (.iload 6, 2) := by decide +kernel
theorem d_Maker_writeBrings_39 : decode prog_3_method_3_code 39 = .ok (.aload_n 1, 1) := by decide +kernel
theorem d_Maker_writeBrings_40 : decode prog_3_method_3_code 40 = .ok (.getfield 45, 3) := by decide +kernel
theorem d_Maker_writeBrings_43 : decode prog_3_method_3_code 43 = .ok (.if_icmp .ge 96, 3) := by decide +kernel
theorem d_Maker_writeBrings_46 : decode prog_3_method_3_code 46 = .ok (.aload_n 0, 1) := by decide +kernel
theorem d_Maker_writeBrings_47 : decode prog_3_method_3_code 47 = .ok (.getfield 9, 3) := by decide +kernel
theorem d_Maker_writeBrings_50 : decode prog_3_method_3_code 50 = .ok (.aload_n 0, 1) := by decide +kernel
theorem d_Maker_writeBrings_51 : decode prog_3_method_3_code 51 = .ok (.getfield 33, 3) := by decide +kernel
theorem d_Maker_writeBrings_54 : decode prog_3_method_3_code 54 = .ok (.iload 4, 2) := by decide +kernel
theorem d_Maker_writeBrings_56 : decode prog_3_method_3_code 56 = .ok (.iconst 1, 1) := by decide +kernel
theorem d_Maker_writeBrings_57 : decode prog_3_method_3_code 57 = .ok (.iadd, 1) := by decide +kernel
theorem d_Maker_writeBrings_58 : decode prog_3_method_3_code 58 = .ok (.invokevirtual 48, 3) := by decide +kernel
theorem d_Maker_writeBrings_61 : decode prog_3_method_3_code 61 = .ok (.aload_n 0, 1) := by decide +kernel
theorem d_Maker_writeBrings_62 : decode prog_3_method_3_code 62 = .ok (.getfield 9, 3) := by decide +kernel
theorem d_Maker_writeBrings_65 : decode prog_3_method_3_code 65 = .ok (.aload_n 3, 1) := by decide +kernel
theorem d_Maker_writeBrings_66 : decode prog_3_method_3_code 66 = .ok (.aload_n 0, 1) := by decide +kernel
theorem d_Maker_writeBrings_67 : decode prog_3_method_3_code 67 = .ok (.getfield 36, 3) := by decide +kernel
theorem d_Maker_writeBrings_70 : decode prog_3_method_3_code 70 = .ok (.iload 6, 2) := by decide +kernel
theorem d_Maker_writeBrings_72 : decode prog_3_method_3_code 72 = .ok (.iadd, 1) := by decide +kernel
theorem d_Maker_writeBrings_73 : decode prog_3_method_3_code 73 = .ok (.invokevirtual 54, 3) := by decide +kernel
theorem d_Maker_writeBrings_76 : decode prog_3_method_3_code 76 = .ok (.ifCond .eq 46, 3) := by decide +kernel
theorem d_Maker_writeBrings_79 : decode prog_3_method_3_code 79 = .ok (.iload 5, 2) := by decide +kernel
theorem d_Maker_writeBrings_81 : decode prog_3_method_3_code 81 = .ok (.iload_n 2, 1) := by decide +kernel
theorem d_Maker_writeBrings_82 : decode prog_3_method_3_code 82 = .ok (.if_icmp .ne 37, 3) := by decide +kernel
theorem d_Maker_writeBrings_85 : decode prog_3_method_3_code 85 = .ok (.aload_n 0, 1) := by decide +kernel
theorem d_Maker_writeBrings_86 : decode prog_3_method_3_code 86 = .ok (.aload_n 0, 1) := by decide +kernel
theorem d_Maker_writeBrings_87 : decode prog_3_method_3_code 87 = .ok (.getfield 36, 3) := by decide +kernel
theorem d_Maker_writeBrings_90 : decode prog_3_method_3_code 90 = .ok (.iload 6, 2) := by decide +kernel
theorem d_Maker_writeBrings_92 : decode prog_3_method_3_code 92 = .ok (.iadd, 1) := by decide +kernel
theorem d_Maker_writeBrings_93 : decode prog_3_method_3_code 93 = .ok (.iconst 1, 1) := by decide +kernel
theorem d_Maker_writeBrings_94 : decode prog_3_method_3_code 94 = .ok (.iconst 1, 1) := by decide +kernel
theorem d_Maker_writeBrings_95 : decode prog_3_method_3_code 95 = .ok (.invokevirtual 58, 3) := by decide +kernel
theorem d_Maker_writeBrings_98 : decode prog_3_method_3_code 98 = .ok (.aload_n 0, 1) := by decide +kernel
theorem d_Maker_writeBrings_99 : decode prog_3_method_3_code 99 = .ok (.aload_n 3, 1) := by decide +kernel
theorem d_Maker_writeBrings_100 : decode prog_3_method_3_code 100 = .ok (.iconst 5, 1) := by decide +kernel
theorem d_Maker_writeBrings_101 : decode prog_3_method_3_code 101 = .ok (.iload 4, 2) := by decide +kernel
theorem d_Maker_writeBrings_103 : decode prog_3_method_3_code 103 = .ok (.iconst 1, 1) := by decide +kernel
theorem d_Maker_writeBrings_104 : decode prog_3_method_3_code 104 = .ok (.iadd, 1) := by decide +kernel
theorem d_Maker_writeBrings_105 : decode prog_3_method_3_code 105 = .ok (.aload_n 0, 1) := by decide +kernel
theorem d_Maker_writeBrings_106 : decode prog_3_method_3_code 106 = .ok (.getfield 36, 3) := by decide +kernel
theorem d_Maker_writeBrings_109 : decode prog_3_method_3_code 109 = .ok (.iload 6, 2) := by decide +kernel
theorem d_Maker_writeBrings_111 : decode prog_3_method_3_code 111 = .ok (.iadd, 1) := by decide +kernel
theorem d_Maker_writeBrings_112 : decode prog_3_method_3_code 112 = .ok (.iconst 1, 1) := by decide +kernel
theorem d_Maker_writeBrings_113 : decode prog_3_method_3_code 113 = .ok (.iadd, 1) := by decide +kernel
theorem d_Maker_writeBrings_114 : decode prog_3_method_3_code 114 = .ok (.iconst 0, 1) := by decide +kernel
theorem d_Maker_writeBrings_115 : decode prog_3_method_3_code 115 = .ok (.invokevirtual 62, 3) := by decide +kernel
theorem d_Maker_writeBrings_118 : decode prog_3_method_3_code 118 = .ok (.return_, 1) := by decide +kernel
theorem d_Maker_writeBrings_119 : decode prog_3_method_3_code 119 = .ok (.iinc 5 1, 3) := by decide +kernel
theorem d_Maker_writeBrings_122 : decode prog_3_method_3_code 122 = .ok (.aload_n 0, 1) := by decide +kernel
theorem d_Maker_writeBrings_123 : decode prog_3_method_3_code 123 = .ok (.getfield 33, 3) := by decide +kernel
theorem d_Maker_writeBrings_126 : decode prog_3_method_3_code 126 = .ok (.iload 4, 2) := by decide +kernel
theorem d_Maker_writeBrings_128 : decode prog_3_method_3_code 128 = .ok (.invokevirtual 66, 3) := by decide +kernel
theorem d_Maker_writeBrings_131 : decode prog_3_method_3_code 131 = .ok (.istore 4, 2) := by decide +kernel
theorem d_Maker_writeBrings_133 : decode prog_3_method_3_code 133 = .ok (.iinc 6 1, 3) := by decide +kernel
theorem d_Maker_writeBrings_136 : decode prog_3_method_3_code 136 = .ok (.goto (-99), 3) := by decide +kernel
theorem d_Maker_writeBrings_139 : decode prog_3_method_3_code 139 = .ok (.return_, 1) := by decide +kernel
theorem d_Maker_writeRecType_0 : decode prog_3_method_4_code 0 = .ok (.aload_n 0, 1) := by decide +kernel
theorem d_Maker_writeRecType_1 : decode prog_3_method_4_code 1 = .ok (.aload_n 1, 1) := by decide +kernel
theorem d_Maker_writeRecType_2 : decode prog_3_method_4_code 2 = .ok (.invokevirtual 29, 3) := by decide +kernel
theorem d_Maker_writeRecType_5 : decode prog_3_method_4_code 5 = .ok (.ifCond .ne 4, 3) := by decide +kernel
theorem d_Maker_writeRecType_8 : decode prog_3_method_4_code 8 = .ok (.return_, 1) := by decide +kernel
theorem d_Maker_writeRecType_9 : decode prog_3_method_4_code 9 = .ok (.aload_n 1, 1) := by decide +kernel
theorem d_Maker_writeRecType_10 : decode prog_3_method_4_code 10 = .ok (.getfield 69, 3) := by decide +kernel
theorem d_Maker_writeRecType_13 : decode prog_3_method_4_code 13 = .ok (.istore_n 3, 1) := by decide +kernel
theorem d_Maker_writeRecType_14 : decode prog_3_method_4_code 14 = .ok (.aload_n 1, 1) := by decide +kernel
theorem d_Maker_writeRecType_15 : decode prog_3_method_4_code 15 = .ok (.getfield 72, 3) := by decide +kernel
theorem d_Maker_writeRecType_18 : decode prog_3_method_4_code 18 = .ok (.istore 4, 2) := by decide +kernel
theorem d_Maker_writeRecType_20 : decode prog_3_method_4_code 20 = .ok (.aload_n 0, 1) := by decide +kernel
theorem d_Maker_writeRecType_21 : decode prog_3_method_4_code 21 = .ok (.getfield 33, 3) := by decide +kernel
theorem d_Maker_writeRecType_24 : decode prog_3_method_4_code 24 = .ok (.aload_n 0, 1) := by decide +kernel
theorem d_Maker_writeRecType_25 : decode prog_3_method_4_code 25 = .ok (.getfield 36, 3) := by decide +kernel
theorem d_Maker_writeRecType_28 : decode prog_3_method_4_code 28 = .ok (.invokevirtual 39, 3) := by decide +kernel
theorem d_Maker_writeRecType_31 : decode prog_3_method_4_code 31 = .ok (.istore 5, 2) := by decide +kernel
theorem d_Maker_writeRecType_33 : decode prog_3_method_4_code 33 = .ok (.aload_n 0, 1) := by decide +kernel
theorem d_Maker_writeRecType_34 : decode prog_3_method_4_code 34 = .ok (.iconst 0, 1) := by decide +kernel
theorem d_Maker_writeRecType_35 : decode prog_3_method_4_code 35 = .ok (.aload_n 0, 1) := by decide +kernel
theorem d_Maker_writeRecType_36 : decode prog_3_method_4_code 36 = .ok (.getfield 36, 3) := by decide +kernel
theorem d_Maker_writeRecType_39 : decode prog_3_method_4_code 39 = .ok (.iconst 0, 1) := by decide +kernel
theorem d_Maker_writeRecType_40 : decode prog_3_method_4_code 40 = .ok (.invokevirtual 75, 3) := by decide +kernel
theorem d_Maker_writeRecType_43 : decode prog_3_method_4_code 43 = .ok (.aload_n 0, 1) := by decide +kernel
theorem d_Maker_writeRecType_44 : decode prog_3_method_4_code 44 = .ok (.bipush 6, 2) := by decide +kernel
theorem d_Maker_writeRecType_46 : decode prog_3_method_4_code 46 = .ok (.bipush 98, 2) := by decide +kernel
theorem d_Maker_writeRecType_48 : decode prog_3_method_4_code 48 = .ok (.iconst 0, 1) := by decide +kernel
theorem d_Maker_writeRecType_49 : decode prog_3_method_4_code 49 = .ok (.invokevirtual 78, 3) := by decide +kernel
theorem d_Maker_writeRecType_52 : decode prog_3_method_4_code 52 = .ok (.aload_n 0, 1) := by decide +kernel
theorem d_Maker_writeRecType_53 : decode prog_3_method_4_code 53 = .ok (.iload 5, 2) := by decide +kernel
theorem d_Maker_writeRecType_55 : decode prog_3_method_4_code 55 = .ok (.iload_n 3, 1) := by decide +kernel
theorem d_Maker_writeRecType_56 : decode prog_3_method_4_code 56 = .ok (.iconst 0, 1) := by decide +kernel
theorem d_Maker_writeRecType_57 : decode prog_3_method_4_code 57 = .ok (.invokevirtual 75, 3) := by decide +kernel
theorem d_Maker_writeRecType_60 : decode prog_3_method_4_code 60 = .ok (.aload_n 0, 1) := by decide +kernel
theorem d_Maker_writeRecType_61 : decode prog_3_method_4_code 61 = .ok (.bipush 6, 2) := by decide +kernel
theorem d_Maker_writeRecType_63 : decode prog_3_method_4_code 63 = .ok (.iconst (-1), 1) := by decide +kernel
theorem d_Maker_writeRecType_64 : decode prog_3_method_4_code 64 = .ok (.iconst 0, 1) := by decide +kernel
theorem d_Maker_writeRecType_65 : decode prog_3_method_4_code 65 = .ok (.invokevirtual 78, 3) := by decide +kernel
theorem d_Maker_writeRecType_68 : decode prog_3_method_4_code 68 = .ok (.aload_n 0, 1) := by decide +kernel
theorem d_Maker_writeRecType_69 : decode prog_3_method_4_code 69 = .ok (.aload_n 1, 1) := by decide +kernel
theorem d_Maker_writeRecType_70 : decode prog_3_method_4_code 70 = .ok (.iload_n 3, 1) := by decide +kernel
theorem d_Maker_writeRecType_71 : decode prog_3_method_4_code 71 = .ok (.iconst 0, 1) := by decide +kernel
theorem d_Maker_writeRecType_72 : decode prog_3_method_4_code 72 = .ok (.iconst 0, 1) := by decide +kernel
theorem d_Maker_writeRecType_73 : decode prog_3_method_4_code 73 = .ok (.invokevirtual 81, 3) := by decide +kernel
theorem d_Maker_writeRecType_76 : decode prog_3_method_4_code 76 = .ok (.aload_n 0, 1) := by decide +kernel
theorem d_Maker_writeRecType_77 : decode prog_3_method_4_code 77 = .ok (.iconst 2, 1) := by decide +kernel
theorem d_Maker_writeRecType_78 : decode prog_3_method_4_code 78 = .ok (.iload_n 2, 1) := by decide +kernel
theorem d_Maker_writeRecType_79 : decode prog_3_method_4_code 79 = .ok (.iconst 0, 1) := by decide +kernel
theorem d_Maker_writeRecType_80 : decode prog_3_method_4_code 80 = .ok (.invokevirtual 78, 3) := by decide +kernel
theorem d_Maker_writeRecType_83 : decode prog_3_method_4_code 83 = .ok (.iconst 0, 1) := by decide +kernel
theorem d_Maker_writeRecType_84 : decode prog_3_method_4_code 84 = .ok (.istore 6, 2) := by decide +kernel
theorem d_Maker_writeRecType_86 : decode prog_3_method_4_code 86 = .ok (.iload 6, 2) := by decide +kernel
theorem d_Maker_writeRecType_88 : decode prog_3_method_4_code 88 = .ok (.iload 4, 2) := by decide +kernel
theorem d_Maker_writeRecType_90 : decode prog_3_method_4_code 90 = .ok (.if_icmp .ge 28, 3) := by decide +kernel
theorem d_Maker_writeRecType_93 : decode prog_3_method_4_code 93 = .ok (.aload_n 0, 1) := by decide +kernel
theorem d_Maker_writeRecType_94 : decode prog_3_method_4_code 94 = .ok (.bipush 6, 2) := by decide +kernel
theorem d_Maker_writeRecType_96 : decode prog_3_method_4_code 96 = .ok (.iconst (-1), 1) := by decide +kernel
theorem d_Maker_writeRecType_97 : decode prog_3_method_4_code 97 = .ok (.iconst 0, 1) := by decide +kernel
theorem d_Maker_writeRecType_98 : decode prog_3_method_4_code 98 = .ok (.invokevirtual 78, 3) := by decide +kernel
theorem d_Maker_writeRecType_101 : decode prog_3_method_4_code 101 = .ok (.aload_n 0, 1) := by decide +kernel
theorem d_Maker_writeRecType_102 : decode prog_3_method_4_code 102 = .ok (.aload_n 1, 1) := by decide +kernel
theorem d_Maker_writeRecType_103 : decode prog_3_method_4_code 103 = .ok (.aload_n 1, 1) := by decide +kernel
theorem d_Maker_writeRecType_104 : decode prog_3_method_4_code 104 = .ok (.iload 6, 2) := by decide +kernel
theorem d_Maker_writeRecType_106 : decode prog_3_method_4_code 106 = .ok (.invokevirtual 85, 3) := by decide +kernel
theorem d_Maker_writeRecType_109 : decode prog_3_method_4_code 109 = .ok (.invokevirtual 89, 3) := by decide +kernel
theorem d_Maker_writeRecType_112 : decode prog_3_method_4_code 112 = .ok (.iinc 6 1, 3) := by decide +kernel
theorem d_Maker_writeRecType_115 : decode prog_3_method_4_code 115 = .ok (.goto (-29), 3) := by decide +kernel
theorem d_Maker_writeRecType_118 : decode prog_3_method_4_code 118 = .ok (.aload_n 0, 1) := by decide +kernel
theorem d_Maker_writeRecType_119 : decode prog_3_method_4_code 119 = .ok (.aload_n 1, 1) := by decide +kernel
theorem d_Maker_writeRecType_120 : decode prog_3_method_4_code 120 = .ok (.invokevirtual 29, 3) := by decide +kernel
theorem d_Maker_writeRecType_123 : decode prog_3_method_4_code 123 = .ok (.pop, 1) := by decide +kernel
theorem d_Maker_writeRecType_124 : decode prog_3_method_4_code 124 = .ok (.aload_n 0, 1) := by decide +kernel
theorem d_Maker_writeRecType_125 : decode prog_3_method_4_code 125 = .ok (.iload 5, 2) := by decide +kernel
theorem d_Maker_writeRecType_127 : decode prog_3_method_4_code 127 = .ok (.iload_n 3, 1) := by decide +kernel
theorem d_Maker_writeRecType_128 : decode prog_3_method_4_code 128 = .ok (.iconst 1, 1) := by decide +kernel
theorem d_Maker_writeRecType_129 : decode prog_3_method_4_code 129 = .ok (.iload 4, 2) := by decide +kernel
theorem d_Maker_writeRecType_131 : decode prog_3_method_4_code 131 = .ok (.iadd, 1) := by decide +kernel
theorem d_Maker_writeRecType_132 : decode prog_3_method_4_code 132 = .ok (.invokevirtual 75, 3) := by decide +kernel
theorem d_Maker_writeRecType_135 : decode prog_3_method_4_code 135 = .ok (.aload_n 0, 1) := by decide +kernel
theorem d_Maker_writeRecType_136 : decode prog_3_method_4_code 136 = .ok (.bipush 6, 2) := by decide +kernel
theorem d_Maker_writeRecType_138 : decode prog_3_method_4_code 138 = .ok (.bipush 99, 2) := by decide +kernel
theorem d_Maker_writeRecType_140 : decode prog_3_method_4_code 140 = .ok (.iconst 0, 1) := by decide +kernel
theorem d_Maker_writeRecType_141 : decode prog_3_method_4_code 141 = .ok (.invokevirtual 78, 3) := by decide +kernel
theorem d_Maker_writeRecType_144 : decode prog_3_method_4_code 144 = .ok (.aload_n 0, 1) := by decide +kernel
theorem d_Maker_writeRecType_145 : decode prog_3_method_4_code 145 = .ok (.aload_n 1, 1) := by decide +kernel
theorem d_Maker_writeRecType_146 : decode prog_3_method_4_code 146 = .ok (.iload_n 3, 1) := by decide +kernel
theorem d_Maker_writeRecType_147 : decode prog_3_method_4_code 147 = .ok (.iconst 1, 1) := by decide +kernel
theorem d_Maker_writeRecType_148 : decode prog_3_method_4_code 148 = .ok (.iload 4, 2) := by decide +kernel
theorem d_Maker_writeRecType_150 : decode prog_3_method_4_code 150 = .ok (.iadd, 1) := by decide +kernel
theorem d_Maker_writeRecType_151 : decode prog_3_method_4_code 151 = .ok (.iconst 0, 1) := by decide +kernel
theorem d_Maker_writeRecType_152 : decode prog_3_method_4_code 152 = .ok (.invokevirtual 81, 3) := by decide +kernel
theorem d_Maker_writeRecType_155 : decode prog_3_method_4_code 155 = .ok (.aload_n 0, 1) := by decide +kernel
theorem d_Maker_writeRecType_156 : decode prog_3_method_4_code 156 = .ok (.iload_n 3, 1) := by decide +kernel
theorem d_Maker_writeRecType_157 : decode prog_3_method_4_code 157 = .ok (.iconst 1, 1) := by decide +kernel
theorem d_Maker_writeRecType_158 : decode prog_3_method_4_code 158 = .ok (.iadd, 1) := by decide +kernel
theorem d_Maker_writeRecType_159 : decode prog_3_method_4_code 159 = .ok (.invokevirtual 93, 3) := by decide +kernel
theorem d_Maker_writeRecType_162 : decode prog_3_method_4_code 162 = .ok (.aload_n 0, 1) := by decide +kernel
theorem d_Maker_writeRecType_163 : decode prog_3_method_4_code 163 = .ok (.iconst 0, 1) := by decide +kernel
theorem d_Maker_writeRecType_164 : decode prog_3_method_4_code 164 = .ok (.iload 4, 2) := by decide +kernel
theorem d_Maker_writeRecType_166 : decode prog_3_method_4_code 166 = .ok (.iload_n 3, 1) := by decide +kernel
theorem d_Maker_writeRecType_167 : decode prog_3_method_4_code 167 = .ok (.iadd, 1) := by decide +kernel
theorem d_Maker_writeRecType_168 : decode prog_3_method_4_code 168 = .ok (.iconst 1, 1) := by decide +kernel
theorem d_Maker_writeRecType_169 : decode prog_3_method_4_code 169 = .ok (.iadd, 1) := by decide +kernel
theorem d_Maker_writeRecType_170 : decode prog_3_method_4_code 170 = .ok (.iconst 0, 1) := by decide +kernel
theorem d_Maker_writeRecType_171 : decode prog_3_method_4_code 171 = .ok (.invokevirtual 78, 3) := by decide +kernel
theorem d_Maker_writeRecType_174 : decode prog_3_method_4_code 174 = .ok (.aload_n 0, 1) := by decide +kernel
theorem d_Maker_writeRecType_175 : decode prog_3_method_4_code 175 = .ok (.iload_n 3, 1) := by decide +kernel
theorem d_Maker_writeRecType_176 : decode prog_3_method_4_code 176 = .ok (.iload_n 3, 1) := by decide +kernel
theorem d_Maker_writeRecType_177 : decode prog_3_method_4_code 177 = .ok (.invokevirtual 97, 3) := by decide +kernel
theorem d_Maker_writeRecType_180 : decode prog_3_method_4_code 180 = .ok (.aload_n 0, 1) := by decide +kernel
theorem d_Maker_writeRecType_181 : decode prog_3_method_4_code 181 = .ok (.iconst 0, 1) := by decide +kernel
theorem d_Maker_writeRecType_182 : decode prog_3_method_4_code 182 = .ok (.iconst 0, 1) := by decide +kernel
theorem d_Maker_writeRecType_183 : decode prog_3_method_4_code 183 = .ok (.iconst 0, 1) := by decide +kernel
theorem d_Maker_writeRecType_184 : decode prog_3_method_4_code 184 = .ok (.invokevirtual 78, 3) := by decide +kernel
theorem d_Maker_writeRecType_187 : decode prog_3_method_4_code 187 = .ok (.return_, 1) := by decide +kernel
theorem d_Maker_writeCase_0 : decode prog_3_method_5_code 0 = .ok (.aload_n 2, 1) := by decide +kernel
theorem d_Maker_writeCase_1 : decode prog_3_method_5_code 1 = .ok (.ifnull 11, 3) := by decide +kernel
theorem d_Maker_writeCase_4 : decode prog_3_method_5_code 4 = .ok (.aload_n 0, 1) := by decide +kernel
theorem d_Maker_writeCase_5 : decode prog_3_method_5_code 5 = .ok (.aload_n 2, 1) := by decide +kernel
theorem d_Maker_writeCase_6 : decode prog_3_method_5_code 6 = .ok (.invokevirtual 29, 3) := by decide +kernel
theorem d_Maker_writeCase_9 : decode prog_3_method_5_code 9 = .ok (.ifCond .ne 4, 3) := by decide +kernel
theorem d_Maker_writeCase_12 : decode prog_3_method_5_code 12 = .ok (.return_, 1) := by decide +kernel
theorem d_Maker_writeCase_13 : decode prog_3_method_5_code 13 = .ok (.aload_n 2, 1) := by decide +kernel
theorem d_Maker_writeCase_14 : decode prog_3_method_5_code 14 = .ok (.getfield 72, 3) := by decide +kernel
theorem d_Maker_writeCase_17 : decode prog_3_method_5_code 17 = .ok (.istore_n 3, 1) := by decide +kernel
theorem d_Maker_writeCase_18 : decode prog_3_method_5_code 18 = .ok (.aload_n 2, 1) := by decide +kernel
theorem d_Maker_writeCase_19 : decode prog_3_method_5_code 19 = .ok (.getfield 45, 3) := by decide +kernel
theorem d_Maker_writeCase_22 : decode prog_3_method_5_code 22 = .ok (.istore 4, 2) := by decide +kernel
theorem d_Maker_writeCase_24 : decode prog_3_method_5_code 24 = .ok (.aload_n 0, 1) := by decide +kernel
theorem d_Maker_writeCase_25 : decode prog_3_method_5_code 25 = .ok (.getfield 33, 3) := by decide +kernel
theorem d_Maker_writeCase_28 : decode prog_3_method_5_code 28 = .ok (.aload_n 0, 1) := by decide +kernel
theorem d_Maker_writeCase_29 : decode prog_3_method_5_code 29 = .ok (.getfield 36, 3) := by decide +kernel
theorem d_Maker_writeCase_32 : decode prog_3_method_5_code 32 = .ok (.invokevirtual 39, 3) := by decide +kernel
theorem d_Maker_writeCase_35 : decode prog_3_method_5_code 35 = .ok (.istore 5, 2) := by decide +kernel
theorem d_Maker_writeCase_37 : decode prog_3_method_5_code 37 = .ok (.aload_n 0, 1) := by decide +kernel
theorem d_Maker_writeCase_38 : decode prog_3_method_5_code 38 = .ok (.iload 5, 2) := by decide +kernel
theorem d_Maker_writeCase_40 : decode prog_3_method_5_code 40 = .ok (.iload 4, 2) := by decide +kernel
theorem d_Maker_writeCase_42 : decode prog_3_method_5_code 42 = .ok (.iconst 1, 1) := by decide +kernel
theorem d_Maker_writeCase_43 : decode prog_3_method_5_code 43 = .ok (.iload_n 3, 1) := by decide +kernel
theorem d_Maker_writeCase_44 : decode prog_3_method_5_code 44 = .ok (.iadd, 1) := by decide +kernel
theorem d_Maker_writeCase_45 : decode prog_3_method_5_code 45 = .ok (.invokevirtual 75, 3) := by decide +kernel
theorem d_Maker_writeCase_48 : decode prog_3_method_5_code 48 = .ok (.iconst 0, 1) := by decide +kernel
theorem d_Maker_writeCase_49 : decode prog_3_method_5_code 49 = .ok (.istore 6, 2) := by decide +kernel
theorem d_Maker_writeCase_51 : decode prog_3_method_5_code 51 = .ok (.iconst 0, 1) := by decide +kernel
theorem d_Maker_writeCase_52 : decode prog_3_method_5_code 52 = .ok (.istore 7, 2) := by decide +kernel
theorem d_Maker_writeCase_54 : decode prog_3_method_5_code 54 = .ok (.iload 7, 2) := by decide +kernel
theorem d_Maker_writeCase_56 : decode prog_3_method_5_code 56 = .ok (.iload 4, 2) := by decide +kernel
theorem d_Maker_writeCase_58 : decode prog_3_method_5_code 58 = .ok (.if_icmp .ge 115, 3) := by decide +kernel
theorem d_Maker_writeCase_61 : decode prog_3_method_5_code 61 = .ok (.aload_n 0, 1) := by decide +kernel
theorem d_Maker_writeCase_62 : decode prog_3_method_5_code 62 = .ok (.getfield 9, 3) := by decide +kernel
theorem d_Maker_writeCase_65 : decode prog_3_method_5_code 65 = .ok (.aload_n 0, 1) := by decide +kernel
theorem d_Maker_writeCase_66 : decode prog_3_method_5_code 66 = .ok (.getfield 33, 3) := by decide +kernel
theorem d_Maker_writeCase_69 : decode prog_3_method_5_code 69 = .ok (.iload 5, 2) := by decide +kernel
theorem d_Maker_writeCase_71 : decode prog_3_method_5_code 71 = .ok (.iconst 1, 1) := by decide +kernel
theorem d_Maker_writeCase_72 : decode prog_3_method_5_code 72 = .ok (.iadd, 1) := by decide +kernel
theorem d_Maker_writeCase_73 : decode prog_3_method_5_code 73 = .ok (.invokevirtual 48, 3) := by decide +kernel
theorem d_Maker_writeCase_76 : decode prog_3_method_5_code 76 = .ok (.aload_n 0, 1) := by decide +kernel
theorem d_Maker_writeCase_77 : decode prog_3_method_5_code 77 = .ok (.getfield 9, 3) := by decide +kernel
theorem d_Maker_writeCase_80 : decode prog_3_method_5_code 80 = .ok (.aload_n 1, 1) := by decide +kernel
theorem d_Maker_writeCase_81 : decode prog_3_method_5_code 81 = .ok (.aload_n 0, 1) := by decide +kernel
theorem d_Maker_writeCase_82 : decode prog_3_method_5_code 82 = .ok (.getfield 36, 3) := by decide +kernel
theorem d_Maker_writeCase_85 : decode prog_3_method_5_code 85 = .ok (.iload 7, 2) := by decide +kernel
theorem d_Maker_writeCase_87 : decode prog_3_method_5_code 87 = .ok (.iadd, 1) := by decide +kernel
theorem d_Maker_writeCase_88 : decode prog_3_method_5_code 88 = .ok (.invokevirtual 54, 3) := by decide +kernel
theorem d_Maker_writeCase_91 : decode prog_3_method_5_code 91 = .ok (.ifCond .eq 65, 3) := by decide +kernel
theorem d_Maker_writeCase_94 : decode prog_3_method_5_code 94 = .ok (.iload 4, 2) := by decide +kernel
theorem d_Maker_writeCase_96 : decode prog_3_method_5_code 96 = .ok (.iload 7, 2) := by decide +kernel
theorem d_Maker_writeCase_98 : decode prog_3_method_5_code 98 = .ok (.isub, 1) := by decide +kernel
theorem d_Maker_writeCase_99 : decode prog_3_method_5_code 99 = .ok (.iload 6, 2) := by decide +kernel
theorem d_Maker_writeCase_101 : decode prog_3_method_5_code 101 = .ok (.iadd, 1) := by decide +kernel
theorem d_Maker_writeCase_102 : decode prog_3_method_5_code 102 = .ok (.istore 8, 2) := by decide +kernel
theorem d_Maker_writeCase_104 : decode prog_3_method_5_code 104 = .ok (.aload_n 0, 1) := by decide +kernel
theorem d_Maker_writeCase_105 : decode prog_3_method_5_code 105 = .ok (.aload_n 0, 1) := by decide +kernel
theorem d_Maker_writeCase_106 : decode prog_3_method_5_code 106 = .ok (.getfield 36, 3) := by decide +kernel
theorem d_Maker_writeCase_109 : decode prog_3_method_5_code 109 = .ok (.iload 7, 2) := by decide +kernel
theorem d_Maker_writeCase_111 : decode prog_3_method_5_code 111 = .ok (.iadd, 1) := by decide +kernel
theorem d_Maker_writeCase_112 : decode prog_3_method_5_code 112 = .ok (.iload 8, 2) := by decide +kernel
theorem d_Maker_writeCase_114 : decode prog_3_method_5_code 114 = .ok (.iload 8, 2) := by decide +kernel
theorem d_Maker_writeCase_116 : decode prog_3_method_5_code 116 = .ok (.iconst 1, 1) := by decide +kernel
theorem d_Maker_writeCase_117 : decode prog_3_method_5_code 117 = .ok (.iadd, 1) := by decide +kernel
theorem d_Maker_writeCase_118 : decode prog_3_method_5_code 118 = .ok (.iload_n 3, 1) := by decide +kernel
theorem d_Maker_writeCase_119 : decode prog_3_method_5_code 119 = .ok (.iadd, 1) := by decide +kernel
theorem d_Maker_writeCase_120 : decode prog_3_method_5_code 120 = .ok (.invokevirtual 58, 3) := by decide +kernel
theorem d_Maker_writeCase_123 : decode prog_3_method_5_code 123 = .ok (.aload_n 0, 1) := by decide +kernel
theorem d_Maker_writeCase_124 : decode prog_3_method_5_code 124 = .ok (.bipush 6, 2) := by decide +kernel
theorem d_Maker_writeCase_126 : decode prog_3_method_5_code 126 = .ok (.iconst (-1), 1) := by decide +kernel
theorem d_Maker_writeCase_127 : decode prog_3_method_5_code 127 = .ok (.iconst 0, 1) := by decide +kernel
theorem d_Maker_writeCase_128 : decode prog_3_method_5_code 128 = .ok (.invokevirtual 78, 3) := by decide +kernel
theorem d_Maker_writeCase_131 : decode prog_3_method_5_code 131 = .ok (.aload_n 0, 1) := by decide +kernel
theorem d_Maker_writeCase_132 : decode prog_3_method_5_code 132 = .ok (.aload_n 1, 1) := by decide +kernel
theorem d_Maker_writeCase_133 : decode prog_3_method_5_code 133 = .ok (.bipush 6, 2) := by decide +kernel
theorem d_Maker_writeCase_135 : decode prog_3_method_5_code 135 = .ok (.iload 5, 2) := by decide +kernel
theorem d_Maker_writeCase_137 : decode prog_3_method_5_code 137 = .ok (.iconst 1, 1) := by decide +kernel
theorem d_Maker_writeCase_138 : decode prog_3_method_5_code 138 = .ok (.iadd, 1) := by decide +kernel
theorem d_Maker_writeCase_139 : decode prog_3_method_5_code 139 = .ok (.iload_n 3, 1) := by decide +kernel
theorem d_Maker_writeCase_140 : decode prog_3_method_5_code 140 = .ok (.iload 4, 2) := by decide +kernel
theorem d_Maker_writeCase_142 : decode prog_3_method_5_code 142 = .ok (.iadd, 1) := by decide +kernel
theorem d_Maker_writeCase_143 : decode prog_3_method_5_code 143 = .ok (.iload 6, 2) := by decide +kernel
theorem d_Maker_writeCase_145 : decode prog_3_method_5_code 145 = .ok (.iadd, 1) := by decide +kernel
theorem d_Maker_writeCase_146 : decode prog_3_method_5_code 146 = .ok (.iload 8, 2) := by decide +kernel
theorem d_Maker_writeCase_148 : decode prog_3_method_5_code 148 = .ok (.iconst 1, 1) := by decide +kernel
