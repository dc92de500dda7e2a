/-! decode rows -/
theorem d_Maker_writeCase_149 : decode prog_3_method_5_code 149 = .ok (.isub, 1) := by decide +kernel
theorem d_Maker_writeCase_150 : decode prog_3_method_5_code 150 = .ok (.invokevirtual 62, 3) := by decide +kernel
theorem d_Maker_writeCase_153 : decode prog_3_method_5_code 153 = .ok (.iinc 6 1, 3) := by decide +kernel
theorem d_Maker_writeCase_156 : decode prog_3_method_5_code 156 = .ok (.aload_n 0, 1) := by decide +kernel
theorem d_Maker_writeCase_157 : decode prog_3_method_5_code 157 = .ok (.getfield 33, 3) := by decide +kernel
theorem d_Maker_writeCase_160 : decode prog_3_method_5_code 160 = .ok (.iload 5, 2) := by decide +kernel
theorem d_Maker_writeCase_162 : decode prog_3_method_5_code 162 = .ok (.invokevirtual 66, 3) := by decide +kernel
theorem d_Maker_writeCase_165 : decode prog_3_method_5_code 165 = .ok (.istore 5, 2) := by decide +kernel
theorem d_Maker_writeCase_167 : decode prog_3_method_5_code 167 = .ok (.iinc 7 1, 3) := by decide +kernel
theorem d_Maker_writeCase_170 : decode prog_3_method_5_code 170 = .ok (.goto (-116), 3) := by decide +kernel
theorem d_Maker_writeCase_173 : decode prog_3_method_5_code 173 = .ok (.aload_n 0, 1) := by decide +kernel
theorem d_Maker_writeCase_174 : decode prog_3_method_5_code 174 = .ok (.getfield 9, 3) := by decide +kernel
theorem d_Maker_writeCase_177 : decode prog_3_method_5_code 177 = .ok (.aload_n 0, 1) := by decide +kernel
theorem d_Maker_writeCase_178 : decode prog_3_method_5_code 178 = .ok (.getfield 33, 3) := by decide +kernel
theorem d_Maker_writeCase_181 : decode prog_3_method_5_code 181 = .ok (.iconst 0, 1) := by decide +kernel
theorem d_Maker_writeCase_182 : decode prog_3_method_5_code 182 = .ok (.invokevirtual 48, 3) := by decide +kernel
theorem d_Maker_writeCase_185 : decode prog_3_method_5_code 185 = .ok (.aload_n 0, 1) := by decide +kernel
theorem d_Maker_writeCase_186 : decode prog_3_method_5_code 186 = .ok (.aload_n 0, 1) := by decide +kernel
theorem d_Maker_writeCase_187 : decode prog_3_method_5_code 187 = .ok (.getfield 36, 3) := by decide +kernel
theorem d_Maker_writeCase_190 : decode prog_3_method_5_code 190 = .ok (.iload 4, 2) := by decide +kernel
theorem d_Maker_writeCase_192 : decode prog_3_method_5_code 192 = .ok (.iadd, 1) := by decide +kernel
theorem d_Maker_writeCase_193 : decode prog_3_method_5_code 193 = .ok (.iload 6, 2) := by decide +kernel
theorem d_Maker_writeCase_195 : decode prog_3_method_5_code 195 = .ok (.iload 6, 2) := by decide +kernel
theorem d_Maker_writeCase_197 : decode prog_3_method_5_code 197 = .ok (.iconst 1, 1) := by decide +kernel
theorem d_Maker_writeCase_198 : decode prog_3_method_5_code 198 = .ok (.iadd, 1) := by decide +kernel
theorem d_Maker_writeCase_199 : decode prog_3_method_5_code 199 = .ok (.iload_n 3, 1) := by decide +kernel
theorem d_Maker_writeCase_200 : decode prog_3_method_5_code 200 = .ok (.iadd, 1) := by decide +kernel
theorem d_Maker_writeCase_201 : decode prog_3_method_5_code 201 = .ok (.invokevirtual 58, 3) := by decide +kernel
theorem d_Maker_writeCase_204 : decode prog_3_method_5_code 204 = .ok (.aload_n 0, 1) := by decide +kernel
theorem d_Maker_writeCase_205 : decode prog_3_method_5_code 205 = .ok (.aload_n 1, 1) := by decide +kernel
theorem d_Maker_writeCase_206 : decode prog_3_method_5_code 206 = .ok (.getfield 69, 3) := by decide +kernel
theorem d_Maker_writeCase_209 : decode prog_3_method_5_code 209 = .ok (.iconst 1, 1) := by decide +kernel
theorem d_Maker_writeCase_210 : decode prog_3_method_5_code 210 = .ok (.iadd, 1) := by decide +kernel
theorem d_Maker_writeCase_211 : decode prog_3_method_5_code 211 = .ok (.invokevirtual 93, 3) := by decide +kernel
theorem d_Maker_writeCase_214 : decode prog_3_method_5_code 214 = .ok (.aload_n 0, 1) := by decide +kernel
theorem d_Maker_writeCase_215 : decode prog_3_method_5_code 215 = .ok (.iconst 0, 1) := by decide +kernel
theorem d_Maker_writeCase_216 : decode prog_3_method_5_code 216 = .ok (.iload_n 3, 1) := by decide +kernel
theorem d_Maker_writeCase_217 : decode prog_3_method_5_code 217 = .ok (.iload 4, 2) := by decide +kernel
theorem d_Maker_writeCase_219 : decode prog_3_method_5_code 219 = .ok (.iadd, 1) := by decide +kernel
theorem d_Maker_writeCase_220 : decode prog_3_method_5_code 220 = .ok (.iload 6, 2) := by decide +kernel
theorem d_Maker_writeCase_222 : decode prog_3_method_5_code 222 = .ok (.iadd, 1) := by decide +kernel
theorem d_Maker_writeCase_223 : decode prog_3_method_5_code 223 = .ok (.iconst 0, 1) := by decide +kernel
theorem d_Maker_writeCase_224 : decode prog_3_method_5_code 224 = .ok (.invokevirtual 78, 3) := by decide +kernel
theorem d_Maker_writeCase_227 : decode prog_3_method_5_code 227 = .ok (.aload_n 0, 1) := by decide +kernel
theorem d_Maker_writeCase_228 : decode prog_3_method_5_code 228 = .ok (.aload_n 0, 1) := by decide +kernel
theorem d_Maker_writeCase_229 : decode prog_3_method_5_code 229 = .ok (.getfield 9, 3) := by decide +kernel
theorem d_Maker_writeCase_232 : decode prog_3_method_5_code 232 = .ok (.aload_n 1, 1) := by decide +kernel
theorem d_Maker_writeCase_233 : decode prog_3_method_5_code 233 = .ok (.invokevirtual 101, 3) := by decide +kernel
theorem d_Maker_writeCase_236 : decode prog_3_method_5_code 236 = .ok (.aload_n 0, 1) := by decide +kernel
theorem d_Maker_writeCase_237 : decode prog_3_method_5_code 237 = .ok (.getfield 9, 3) := by decide +kernel
theorem d_Maker_writeCase_240 : decode prog_3_method_5_code 240 = .ok (.invokevirtual 105, 3) := by decide +kernel
theorem d_Maker_writeCase_243 : decode prog_3_method_5_code 243 = .ok (.invokevirtual 109, 3) := by decide +kernel
theorem d_Maker_writeCase_246 : decode prog_3_method_5_code 246 = .ok (.aload_n 0, 1) := by decide +kernel
theorem d_Maker_writeCase_247 : decode prog_3_method_5_code 247 = .ok (.aload_n 2, 1) := by decide +kernel
theorem d_Maker_writeCase_248 : decode prog_3_method_5_code 248 = .ok (.iload 4, 2) := by decide +kernel
theorem d_Maker_writeCase_250 : decode prog_3_method_5_code 250 = .ok (.iconst 1, 1) := by decide +kernel
theorem d_Maker_writeCase_251 : decode prog_3_method_5_code 251 = .ok (.iload_n 3, 1) := by decide +kernel
theorem d_Maker_writeCase_252 : decode prog_3_method_5_code 252 = .ok (.iadd, 1) := by decide +kernel
theorem d_Maker_writeCase_253 : decode prog_3_method_5_code 253 = .ok (.iload 6, 2) := by decide +kernel
theorem d_Maker_writeCase_255 : decode prog_3_method_5_code 255 = .ok (.invokevirtual 81, 3) := by decide +kernel
theorem d_Maker_writeCase_258 : decode prog_3_method_5_code 258 = .ok (.return_, 1) := by decide +kernel
theorem d_Maker_writeBrought_0 : decode prog_3_method_6_code 0 = .ok (.aload_n 0, 1) := by decide +kernel
theorem d_Maker_writeBrought_1 : decode prog_3_method_6_code 1 = .ok (.getfield 9, 3) := by decide +kernel
theorem d_Maker_writeBrought_4 : decode prog_3_method_6_code 4 = .ok (.getfield 112, 3) := by decide +kernel
theorem d_Maker_writeBrought_7 : decode prog_3_method_6_code 7 = .ok (.istore 6, 2) := by decide +kernel
theorem d_Maker_writeBrought_9 : decode prog_3_method_6_code 9 = .ok (.iload_n 3, 1) := by decide +kernel
theorem d_Maker_writeBrought_10 : decode prog_3_method_6_code 10 = .ok (.istore 7, 2) := by decide +kernel
theorem d_Maker_writeBrought_12 : decode prog_3_method_6_code 12 = .ok (.iconst 0, 1) := by decide +kernel
theorem d_Maker_writeBrought_13 : decode prog_3_method_6_code 13 = .ok (.istore 8, 2) := by decide +kernel
theorem d_Maker_writeBrought_15 : decode prog_3_method_6_code 15 = .ok (.iload 8, 2) := by decide +kernel
theorem d_Maker_writeBrought_17 : decode prog_3_method_6_code 17 = .ok (.iload 6, 2) := by decide +kernel
theorem d_Maker_writeBrought_19 : decode prog_3_method_6_code 19 = .ok (.if_icmp .ge 49, 3) := by decide +kernel
theorem d_Maker_writeBrought_22 : decode prog_3_method_6_code 22 = .ok (.aload_n 0, 1) := by decide +kernel
theorem d_Maker_writeBrought_23 : decode prog_3_method_6_code 23 = .ok (.iload_n 2, 1) := by decide +kernel
theorem d_Maker_writeBrought_24 : decode prog_3_method_6_code 24 = .ok (.aload_n 0, 1) := by decide +kernel
theorem d_Maker_writeBrought_25 : decode prog_3_method_6_code 25 = .ok (.getfield 33, 3) := by decide +kernel
theorem d_Maker_writeBrought_28 : decode prog_3_method_6_code 28 = .ok (.iload 7, 2) := by decide +kernel
theorem d_Maker_writeBrought_30 : decode prog_3_method_6_code 30 = .ok (.invokevirtual 115, 3) := by decide +kernel
theorem d_Maker_writeBrought_33 : decode prog_3_method_6_code 33 = .ok (.iconst 0, 1) := by decide +kernel
theorem d_Maker_writeBrought_34 : decode prog_3_method_6_code 34 = .ok (.invokevirtual 78, 3) := by decide +kernel
theorem d_Maker_writeBrought_37 : decode prog_3_method_6_code 37 = .ok (.aload_n 0, 1) := by decide +kernel
theorem d_Maker_writeBrought_38 : decode prog_3_method_6_code 38 = .ok (.getfield 33, 3) := by decide +kernel
theorem d_Maker_writeBrought_41 : decode prog_3_method_6_code 41 = .ok (.iload 7, 2) := by decide +kernel
theorem d_Maker_writeBrought_43 : decode prog_3_method_6_code 43 = .ok (.invokevirtual 66, 3) := by decide +kernel
theorem d_Maker_writeBrought_46 : decode prog_3_method_6_code 46 = .ok (.istore 9, 2) := by decide +kernel
theorem d_Maker_writeBrought_48 : decode prog_3_method_6_code 48 = .ok (.aload_n 0, 1) := by decide +kernel
theorem d_Maker_writeBrought_49 : decode prog_3_method_6_code 49 = .ok (.iload 7, 2) := by decide +kernel
theorem d_Maker_writeBrought_51 : decode prog_3_method_6_code 51 = .ok (.iconst 1, 1) := by decide +kernel
theorem d_Maker_writeBrought_52 : decode prog_3_method_6_code 52 = .ok (.iadd, 1) := by decide +kernel
theorem d_Maker_writeBrought_53 : decode prog_3_method_6_code 53 = .ok (.iload 9, 2) := by decide +kernel
theorem d_Maker_writeBrought_55 : decode prog_3_method_6_code 55 = .ok (.invokevirtual 109, 3) := by decide +kernel
theorem d_Maker_writeBrought_58 : decode prog_3_method_6_code 58 = .ok (.iload 9, 2) := by decide +kernel
theorem d_Maker_writeBrought_60 : decode prog_3_method_6_code 60 = .ok (.istore 7, 2) := by decide +kernel
theorem d_Maker_writeBrought_62 : decode prog_3_method_6_code 62 = .ok (.iinc 8 1, 3) := by decide +kernel
theorem d_Maker_writeBrought_65 : decode prog_3_method_6_code 65 = .ok (.goto (-50), 3) := by decide +kernel
theorem d_Maker_writeBrought_68 : decode prog_3_method_6_code 68 = .ok (.aload_n 0, 1) := by decide +kernel
theorem d_Maker_writeBrought_69 : decode prog_3_method_6_code 69 = .ok (.aload_n 1, 1) := by decide +kernel
theorem d_Maker_writeBrought_70 : decode prog_3_method_6_code 70 = .ok (.getfield 69, 3) := by decide +kernel
theorem d_Maker_writeBrought_73 : decode prog_3_method_6_code 73 = .ok (.iconst 1, 1) := by decide +kernel
theorem d_Maker_writeBrought_74 : decode prog_3_method_6_code 74 = .ok (.iadd, 1) := by decide +kernel
theorem d_Maker_writeBrought_75 : decode prog_3_method_6_code 75 = .ok (.invokevirtual 93, 3) := by decide +kernel
theorem d_Maker_writeBrought_78 : decode prog_3_method_6_code 78 = .ok (.aload_n 0, 1) := by decide +kernel
theorem d_Maker_writeBrought_79 : decode prog_3_method_6_code 79 = .ok (.iconst 0, 1) := by decide +kernel
theorem d_Maker_writeBrought_80 : decode prog_3_method_6_code 80 = .ok (.iload 4, 2) := by decide +kernel
theorem d_Maker_writeBrought_82 : decode prog_3_method_6_code 82 = .ok (.iload 6, 2) := by decide +kernel
theorem d_Maker_writeBrought_84 : decode prog_3_method_6_code 84 = .ok (.iadd, 1) := by decide +kernel
theorem d_Maker_writeBrought_85 : decode prog_3_method_6_code 85 = .ok (.iconst 0, 1) := by decide +kernel
theorem d_Maker_writeBrought_86 : decode prog_3_method_6_code 86 = .ok (.invokevirtual 78, 3) := by decide +kernel
theorem d_Maker_writeBrought_89 : decode prog_3_method_6_code 89 = .ok (.aload_n 0, 1) := by decide +kernel
theorem d_Maker_writeBrought_90 : decode prog_3_method_6_code 90 = .ok (.aload_n 0, 1) := by decide +kernel
theorem d_Maker_writeBrought_91 : decode prog_3_method_6_code 91 = .ok (.getfield 9, 3) := by decide +kernel
theorem d_Maker_writeBrought_94 : decode prog_3_method_6_code 94 = .ok (.aload_n 1, 1) := by decide +kernel
theorem d_Maker_writeBrought_95 : decode prog_3_method_6_code 95 = .ok (.invokevirtual 101, 3) := by decide +kernel
theorem d_Maker_writeBrought_98 : decode prog_3_method_6_code 98 = .ok (.aload_n 0, 1) := by decide +kernel
theorem d_Maker_writeBrought_99 : decode prog_3_method_6_code 99 = .ok (.getfield 9, 3) := by decide +kernel
theorem d_Maker_writeBrought_102 : decode prog_3_method_6_code 102 = .ok (.invokevirtual 105, 3) := by decide +kernel
theorem d_Maker_writeBrought_105 : decode prog_3_method_6_code 105 = .ok (.invokevirtual 109, 3) := by decide +kernel
theorem d_Maker_writeBrought_108 : decode prog_3_method_6_code 108 = .ok (.aload_n 0, 1) := by decide +kernel
theorem d_Maker_writeBrought_109 : decode prog_3_method_6_code 109 = .ok (.iload 6, 2) := by decide +kernel
theorem d_Maker_writeBrought_111 : decode prog_3_method_6_code 111 = .ok (.invokevirtual 93, 3) := by decide +kernel
theorem d_Maker_writeBrought_114 : decode prog_3_method_6_code 114 = .ok (.aload_n 0, 1) := by decide +kernel
theorem d_Maker_writeBrought_115 : decode prog_3_method_6_code 115 = .ok (.iconst 0, 1) := by decide +kernel
theorem d_Maker_writeBrought_116 : decode prog_3_method_6_code 116 = .ok (.iload 5, 2) := by decide +kernel
theorem d_Maker_writeBrought_118 : decode prog_3_method_6_code 118 = .ok (.iload 6, 2) := by decide +kernel
theorem d_Maker_writeBrought_120 : decode prog_3_method_6_code 120 = .ok (.iadd, 1) := by decide +kernel
theorem d_Maker_writeBrought_121 : decode prog_3_method_6_code 121 = .ok (.iconst 0, 1) := by decide +kernel
theorem d_Maker_writeBrought_122 : decode prog_3_method_6_code 122 = .ok (.invokevirtual 78, 3) := by decide +kernel
theorem d_Maker_writeBrought_125 : decode prog_3_method_6_code 125 = .ok (.aload_n 0, 1) := by decide +kernel
theorem d_Maker_writeBrought_126 : decode prog_3_method_6_code 126 = .ok (.iload 6, 2) := by decide +kernel
theorem d_Maker_writeBrought_128 : decode prog_3_method_6_code 128 = .ok (.iconst 1, 1) := by decide +kernel
theorem d_Maker_writeBrought_129 : decode prog_3_method_6_code 129 = .ok (.isub, 1) := by decide +kernel
theorem d_Maker_writeBrought_130 : decode prog_3_method_6_code 130 = .ok (.iload 6, 2) := by decide +kernel
theorem d_Maker_writeBrought_132 : decode prog_3_method_6_code 132 = .ok (.invokevirtual 97, 3) := by decide +kernel
theorem d_Maker_writeBrought_135 : decode prog_3_method_6_code 135 = .ok (.return_, 1) := by decide +kernel
theorem d_Maker_writeAlls_0 : decode prog_3_method_7_code 0 = .ok (.iload_n 1, 1) := by decide +kernel
theorem d_Maker_writeAlls_1 : decode prog_3_method_7_code 1 = .ok (.istore 4, 2) := by decide +kernel
theorem d_Maker_writeAlls_3 : decode prog_3_method_7_code 3 = .ok (.iconst 0, 1) := by decide +kernel
theorem d_Maker_writeAlls_4 : decode prog_3_method_7_code 4 = .ok (.istore 5, 2) := by decide +kernel
theorem d_Maker_writeAlls_6 : decode prog_3_method_7_code 6 = .ok (.iload 5, 2) := by decide +kernel
theorem d_Maker_writeAlls_8 : decode prog_3_method_7_code 8 = .ok (.iload_n 2, 1) := by decide +kernel
theorem d_Maker_writeAlls_9 : decode prog_3_method_7_code 9 = .ok (.if_icmp .ge 63, 3) := by decide +kernel
theorem d_Maker_writeAlls_12 : decode prog_3_method_7_code 12 = .ok (.aload_n 0, 1) := by decide +kernel
theorem d_Maker_writeAlls_13 : decode prog_3_method_7_code 13 = .ok (.bipush 6, 2) := by decide +kernel
theorem d_Maker_writeAlls_15 : decode prog_3_method_7_code 15 = .ok (.aload_n 0, 1) := by decide +kernel
theorem d_Maker_writeAlls_16 : decode prog_3_method_7_code 16 = .ok (.getfield 33, 3) := by decide +kernel
theorem d_Maker_writeAlls_19 : decode prog_3_method_7_code 19 = .ok (.iload 4, 2) := by decide +kernel
theorem d_Maker_writeAlls_21 : decode prog_3_method_7_code 21 = .ok (.invokevirtual 115, 3) := by decide +kernel
theorem d_Maker_writeAlls_24 : decode prog_3_method_7_code 24 = .ok (.iconst 0, 1) := by decide +kernel
theorem d_Maker_writeAlls_25 : decode prog_3_method_7_code 25 = .ok (.invokevirtual 78, 3) := by decide +kernel
theorem d_Maker_writeAlls_28 : decode prog_3_method_7_code 28 = .ok (.aload_n 0, 1) := by decide +kernel
theorem d_Maker_writeAlls_29 : decode prog_3_method_7_code 29 = .ok (.getfield 33, 3) := by decide +kernel
theorem d_Maker_writeAlls_32 : decode prog_3_method_7_code 32 = .ok (.iload 4, 2) := by decide +kernel
theorem d_Maker_writeAlls_34 : decode prog_3_method_7_code 34 = .ok (.invokevirtual 66, 3) := by decide +kernel
theorem d_Maker_writeAlls_37 : decode prog_3_method_7_code 37 = .ok (.istore 6, 2) := by decide +kernel
theorem d_Maker_writeAlls_39 : decode prog_3_method_7_code 39 = .ok (.aload_n 0, 1) := by decide +kernel
theorem d_Maker_writeAlls_40 : decode prog_3_method_7_code 40 = .ok (.aload_n 0, 1) := by decide +kernel
theorem d_Maker_writeAlls_41 : decode prog_3_method_7_code 41 = .ok (.getfield 36, 3) := by decide +kernel
theorem d_Maker_writeAlls_44 : decode prog_3_method_7_code 44 = .ok (.iload 5, 2) := by decide +kernel
theorem d_Maker_writeAlls_46 : decode prog_3_method_7_code 46 = .ok (.iadd, 1) := by decide +kernel
theorem d_Maker_writeAlls_47 : decode prog_3_method_7_code 47 = .ok (.iconst 0, 1) := by decide +kernel
theorem d_Maker_writeAlls_48 : decode prog_3_method_7_code 48 = .ok (.iload_n 3, 1) := by decide +kernel
theorem d_Maker_writeAlls_49 : decode prog_3_method_7_code 49 = .ok (.invokevirtual 58, 3) := by decide +kernel
theorem d_Maker_writeAlls_52 : decode prog_3_method_7_code 52 = .ok (.aload_n 0, 1) := by decide +kernel
theorem d_Maker_writeAlls_53 : decode prog_3_method_7_code 53 = .ok (.iload 4, 2) := by decide +kernel
theorem d_Maker_writeAlls_55 : decode prog_3_method_7_code 55 = .ok (.iconst 1, 1) := by decide +kernel
theorem d_Maker_writeAlls_56 : decode prog_3_method_7_code 56 = .ok (.iadd, 1) := by decide +kernel
theorem d_Maker_writeAlls_57 : decode prog_3_method_7_code 57 = .ok (.iload 6, 2) := by decide +kernel
theorem d_Maker_writeAlls_59 : decode prog_3_method_7_code 59 = .ok (.invokevirtual 109, 3) := by decide +kernel
theorem d_Maker_writeAlls_62 : decode prog_3_method_7_code 62 = .ok (.iload 6, 2) := by decide +kernel
theorem d_Maker_writeAlls_64 : decode prog_3_method_7_code 64 = .ok (.istore 4, 2) := by decide +kernel
theorem d_Maker_writeAlls_66 : decode prog_3_method_7_code 66 = .ok (.iinc 5 1, 3) := by decide +kernel
theorem d_Maker_writeAlls_69 : decode prog_3_method_7_code 69 = .ok (.goto (-63), 3) := by decide +kernel
theorem d_Maker_writeAlls_72 : decode prog_3_method_7_code 72 = .ok (.return_, 1) := by decide +kernel
theorem d_Maker_writeGlobal_0 : decode prog_3_method_8_code 0 = .ok (.aload_n 0, 1) := by decide +kernel
theorem d_Maker_writeGlobal_1 : decode prog_3_method_8_code 1 = .ok (.aload_n 0, 1) := by decide +kernel
theorem d_Maker_writeGlobal_2 : decode prog_3_method_8_code 2 = .ok (.getfield 36, 3) := by decide +kernel
theorem d_Maker_writeGlobal_5 : decode prog_3_method_8_code 5 = .ok (.iload_n 2, 1) := by decide +kernel
theorem d_Maker_writeGlobal_6 : decode prog_3_method_8_code 6 = .ok (.iadd, 1) := by decide +kernel
theorem d_Maker_writeGlobal_7 : decode prog_3_method_8_code 7 = .ok (.invokevirtual 93, 3) := by decide +kernel
theorem d_Maker_writeGlobal_10 : decode prog_3_method_8_code 10 = .ok (.aload_n 0, 1) := by decide +kernel
theorem d_Maker_writeGlobal_11 : decode prog_3_method_8_code 11 = .ok (.iconst 1, 1) := by decide +kernel
theorem d_Maker_writeGlobal_12 : decode prog_3_method_8_code 12 = .ok (.aload_n 1, 1) := by decide +kernel
theorem d_Maker_writeGlobal_13 : decode prog_3_method_8_code 13 = .ok (.getfield 118, 3) := by decide +kernel
theorem d_Maker_writeGlobal_16 : decode prog_3_method_8_code 16 = .ok (.iconst 0, 1) := by decide +kernel
theorem d_Maker_writeGlobal_17 : decode prog_3_method_8_code 17 = .ok (.invokevirtual 78, 3) := by decide +kernel
theorem d_Maker_writeGlobal_20 : decode prog_3_method_8_code 20 = .ok (.aload_n 0, 1) := by decide +kernel
theorem d_Maker_writeGlobal_21 : decode prog_3_method_8_code 21 = .ok (.aload_n 0, 1) := by decide +kernel
theorem d_Maker_writeGlobal_22 : decode prog_3_method_8_code 22 = .ok (.getfield 36, 3) := by decide +kernel
theorem d_Maker_writeGlobal_25 : decode prog_3_method_8_code 25 = .ok (.iload_n 3, 1) := by decide +kernel
theorem d_Maker_writeGlobal_26 : decode prog_3_method_8_code 26 = .ok (.iadd, 1) := by decide +kernel
theorem d_Maker_writeGlobal_27 : decode prog_3_method_8_code 27 = .ok (.iload_n 2, 1) := by decide +kernel
theorem d_Maker_writeGlobal_28 : decode prog_3_method_8_code 28 = .ok (.iadd, 1) := by decide +kernel
theorem d_Maker_writeGlobal_29 : decode prog_3_method_8_code 29 = .ok (.iload 4, 2) := by decide +kernel
theorem d_Maker_writeGlobal_31 : decode prog_3_method_8_code 31 = .ok (.iadd, 1) := by decide +kernel
theorem d_Maker_writeGlobal_32 : decode prog_3_method_8_code 32 = .ok (.iconst 1, 1) := by decide +kernel
theorem d_Maker_writeGlobal_33 : decode prog_3_method_8_code 33 = .ok (.isub, 1) := by decide +kernel
theorem d_Maker_writeGlobal_34 : decode prog_3_method_8_code 34 = .ok (.aload_n 0, 1) := by decide +kernel
theorem d_Maker_writeGlobal_35 : decode prog_3_method_8_code 35 = .ok (.getfield 36, 3) := by decide +kernel
theorem d_Maker_writeGlobal_38 : decode prog_3_method_8_code 38 = .ok (.invokevirtual 97, 3) := by decide +kernel
theorem d_Maker_writeGlobal_41 : decode prog_3_method_8_code 41 = .ok (.aload_n 0, 1) := by decide +kernel
theorem d_Maker_writeGlobal_42 : decode prog_3_method_8_code 42 = .ok (.iload_n 2, 1) := by decide +kernel
theorem d_Maker_writeGlobal_43 : decode prog_3_method_8_code 43 = .ok (.iload 4, 2) := by decide +kernel
theorem d_Maker_writeGlobal_45 : decode prog_3_method_8_code 45 = .ok (.iadd, 1) := by decide +kernel
theorem d_Maker_writeGlobal_46 : decode prog_3_method_8_code 46 = .ok (.iconst 1, 1) := by decide +kernel
theorem d_Maker_writeGlobal_47 : decode prog_3_method_8_code 47 = .ok (.isub, 1) := by decide +kernel
theorem d_Maker_writeGlobal_48 : decode prog_3_method_8_code 48 = .ok (.iload_n 2, 1) := by decide +kernel
theorem d_Maker_writeGlobal_49 : decode prog_3_method_8_code 49 = .ok (.invokevirtual 97, 3) := by decide +kernel
theorem d_Maker_writeGlobal_52 : decode prog_3_method_8_code 52 = .ok (.return_, 1) := by decide +kernel
theorem d_Maker_open_0 : decode prog_3_method_9_code 0 = .ok (.aload_n 1, 1) := by decide +kernel
theorem d_Maker_open_1 : decode prog_3_method_9_code 1 = .ok (.getfield 121, 3) := by decide +kernel
theorem d_Maker_open_4 : decode prog_3_method_9_code 4 = .ok (.ifnonnull 5, 3) := by decide +kernel
theorem d_Maker_open_7 : decode prog_3_method_9_code 7 = .ok (.iconst 0, 1) := by decide +kernel
theorem d_Maker_open_8 : decode prog_3_method_9_code 8 = .ok (.ireturn, 1) := by decide +kernel
theorem d_Maker_open_9 : decode prog_3_method_9_code 9 = .ok (.aload_n 0, 1) := by decide +kernel
theorem d_Maker_open_10 : decode prog_3_method_9_code 10 = .ok (.aload_n 1, 1) := by decide +kernel
theorem d_Maker_open_11 : decode prog_3_method_9_code 11 = .ok (.getfield 121, 3) := by decide +kernel
theorem d_Maker_open_14 : decode prog_3_method_9_code 14 = .ok (.putfield 33, 3) := by decide +kernel
theorem d_Maker_open_17 : decode prog_3_method_9_code 17 = .ok (.aload_n 0, 1) := by decide +kernel
theorem d_Maker_open_18 : decode prog_3_method_9_code 18 = .ok (.aload_n 1, 1) := by decide +kernel
theorem d_Maker_open_19 : decode prog_3_method_9_code 19 = .ok (.getfield 124, 3) := by decide +kernel
theorem d_Maker_open_22 : decode prog_3_method_9_code 22 = .ok (.putfield 36, 3) := by decide +kernel
theorem d_Maker_open_25 : decode prog_3_method_9_code 25 = .ok (.aload_n 0, 1) := by decide +kernel
theorem d_Maker_open_26 : decode prog_3_method_9_code 26 = .ok (.getfield 15, 3) := by decide +kernel
theorem d_Maker_open_29 : decode prog_3_method_9_code 29 = .ok (.ifnull 14, 3) := by decide +kernel
theorem d_Maker_open_32 : decode prog_3_method_9_code 32 = .ok (.aload_n 0, 1) := by decide +kernel
theorem d_Maker_open_33 : decode prog_3_method_9_code 33 = .ok (.getfield 9, 3) := by decide +kernel
theorem d_Maker_open_36 : decode prog_3_method_9_code 36 = .ok (.aload_n 0, 1) := by decide +kernel
theorem d_Maker_open_37 : decode prog_3_method_9_code 37 = .ok (.getfield 33, 3) := by decide +kernel
theorem d_Maker_open_40 : decode prog_3_method_9_code 40 = .ok (.invokevirtual 125, 3) := by decide +kernel
theorem d_Maker_open_43 : decode prog_3_method_9_code 43 = .ok (.iconst 1, 1) := by decide +kernel
theorem d_Maker_open_44 : decode prog_3_method_9_code 44 = .ok (.ireturn, 1) := by decide +kernel
theorem d_Maker_lift_0 : decode prog_3_method_10_code 0 = .ok (.aload_n 0, 1) := by decide +kernel
theorem d_Maker_lift_1 : decode prog_3_method_10_code 1 = .ok (.iload_n 1, 1) := by decide +kernel
theorem d_Maker_lift_2 : decode prog_3_method_10_code 2 = .ok (.putfield 129, 3) := by decide +kernel
theorem d_Maker_lift_5 : decode prog_3_method_10_code 5 = .ok (.aload_n 0, 1) := by decide +kernel
theorem d_Maker_lift_6 : decode prog_3_method_10_code 6 = .ok (.iload_n 2, 1) := by decide +kernel
theorem d_Maker_lift_7 : decode prog_3_method_10_code 7 = .ok (.putfield 132, 3) := by decide +kernel
theorem d_Maker_lift_10 : decode prog_3_method_10_code 10 = .ok (.aload_n 0, 1) := by decide +kernel
theorem d_Maker_lift_11 : decode prog_3_method_10_code 11 = .ok (.iload_n 3, 1) := by decide +kernel
theorem d_Maker_lift_12 : decode prog_3_method_10_code 12 = .ok (.putfield 135, 3) := by decide +kernel
theorem d_Maker_lift_15 : decode prog_3_method_10_code 15 = .ok (.return_, 1) := by decide +kernel
theorem d_Maker_copy_0 : decode prog_3_method_11_code 0 = .ok (.aload_n 0, 1) := by decide +kernel
theorem d_Maker_copy_1 : decode prog_3_method_11_code 1 = .ok (.getfield 15, 3) := by decide +kernel
theorem d_Maker_copy_4 : decode prog_3_method_11_code 4 = .ok (.ifnonnull 16, 3) := by decide +kernel
theorem d_Maker_copy_7 : decode prog_3_method_11_code 7 = .ok (.aload_n 0, 1) := by decide +kernel
theorem d_Maker_copy_8 : decode prog_3_method_11_code 8 = .ok (.dup, 1) := by decide +kernel
theorem d_Maker_copy_9 : decode prog_3_method_11_code 9 = .ok (.getfield 19, 3) := by decide +kernel
theorem d_Maker_copy_12 : decode prog_3_method_11_code 12 = .ok (.iload_n 2, 1) := by decide +kernel
theorem d_Maker_copy_13 : decode prog_3_method_11_code 13 = .ok (.iload_n 1, 1) := by decide +kernel
theorem d_Maker_copy_14 : decode prog_3_method_11_code 14 = .ok (.isub, 1) := by decide +kernel
theorem d_Maker_copy_15 : decode prog_3_method_11_code 15 = .ok (.iadd, 1) := by decide +kernel
theorem d_Maker_copy_16 : decode prog_3_method_11_code 16 = .ok (.putfield 19, 3) := by decide +kernel
theorem d_Maker_copy_19 : decode prog_3_method_11_code 19 = .ok (.return_, 1) := by decide +kernel
theorem d_Maker_copy_20 : decode prog_3_method_11_code 20 = .ok (.iload_n 1, 1) := by decide +kernel
theorem d_Maker_copy_21 : decode prog_3_method_11_code 21 = .ok (.istore_n 3, 1) := by decide +kernel
theorem d_Maker_copy_22 : decode prog_3_method_11_code 22 = .ok (.iload_n 3, 1) := by decide +kernel
theorem d_Maker_copy_23 : decode prog_3_method_11_code 23 = .ok (.iload_n 2, 1) := by decide +kernel
theorem d_Maker_copy_24 : decode prog_3_method_11_code 24 = .ok (.if_icmp .ge 34, 3) := by decide +kernel
theorem d_Maker_copy_27 : decode prog_3_method_11_code 27 = .ok (.aload_n 0, 1) := by decide +kernel
theorem d_Maker_copy_28 : decode prog_3_method_11_code 28 = .ok (.aload_n 0, 1) := by decide +kernel
theorem d_Maker_copy_29 : decode prog_3_method_11_code 29 = .ok (.getfield 33, 3) := by decide +kernel
theorem d_Maker_copy_32 : decode prog_3_method_11_code 32 = .ok (.iload_n 3, 1) := by decide +kernel
theorem d_Maker_copy_33 : decode prog_3_method_11_code 33 = .ok (.invokevirtual 138, 3) := by decide +kernel
theorem d_Maker_copy_36 : decode prog_3_method_11_code 36 = .ok (.aload_n 0, 1) := by decide +kernel
theorem d_Maker_copy_37 : decode prog_3_method_11_code 37 = .ok (.iload_n 3, 1) := by decide +kernel
theorem d_Maker_copy_38 : decode prog_3_method_11_code 38 = .ok (.invokevirtual 141, 3) := by decide +kernel
theorem d_Maker_copy_41 : decode prog_3_method_11_code 41 = .ok (.aload_n 0, 1) := by decide +kernel
theorem d_Maker_copy_42 : decode prog_3_method_11_code 42 = .ok (.getfield 33, 3) := by decide +kernel
theorem d_Maker_copy_45 : decode prog_3_method_11_code 45 = .ok (.iload_n 3, 1) := by decide +kernel
theorem d_Maker_copy_46 : decode prog_3_method_11_code 46 = .ok (.invokevirtual 144, 3) := by decide +kernel
theorem d_Maker_copy_49 : decode prog_3_method_11_code 49 = .ok (.invokevirtual 78, 3) := by decide +kernel
theorem d_Maker_copy_52 : decode prog_3_method_11_code 52 = .ok (.iinc 3 1, 3) := by decide +kernel
theorem d_Maker_copy_55 : decode prog_3_method_11_code 55 = .ok (.goto (-33), 3) := by decide +kernel
theorem d_Maker_copy_58 : decode prog_3_method_11_code 58 = .ok (.return_, 1) := by decide +kernel
theorem d_Maker_liftedNumber_0 : decode prog_3_method_12_code 0 = .ok (.aload_n 0, 1) := by decide +kernel
theorem d_Maker_liftedNumber_1 : decode prog_3_method_12_code 1 = .ok (.getfield 33, 3) := by decide +kernel
theorem d_Maker_liftedNumber_4 : decode prog_3_method_12_code 4 = .ok (.iload_n 1, 1) := by decide +kernel
theorem d_Maker_liftedNumber_5 : decode prog_3_method_12_code 5 = .ok (.invokevirtual 115, 3) := by decide +kernel
theorem d_Maker_liftedNumber_8 : decode prog_3_method_12_code 8 = .ok (.istore_n 2, 1) := by decide +kernel
theorem d_Maker_liftedNumber_9 : decode prog_3_method_12_code 9 = .ok (.aload_n 0, 1) := by decide +kernel
theorem d_Maker_liftedNumber_10 : decode prog_3_method_12_code 10 = .ok (.getfield 33, 3) := by decide +kernel
theorem d_Maker_liftedNumber_13 : decode prog_3_method_12_code 13 = .ok (.iload_n 1, 1) := by decide +kernel
theorem d_Maker_liftedNumber_14 : decode prog_3_method_12_code 14 = .ok (.invokevirtual 138, 3) := by decide +kernel
theorem d_Maker_liftedNumber_17 : decode prog_3_method_12_code 17 = .ok (.ifCond .eq 5, 3) := by decide +kernel
theorem d_Maker_liftedNumber_20 : decode prog_3_method_12_code 20 = .ok (.iload_n 2, 1) := by decide +kernel
theorem d_Maker_liftedNumber_21 : decode prog_3_method_12_code 21 = .ok (.ireturn, 1) := by decide +kernel
theorem d_Maker_liftedNumber_22 : decode prog_3_method_12_code 22 = .ok (.aload_n 0, 1) := by decide +kernel
theorem d_Maker_liftedNumber_23 : decode prog_3_method_12_code 23 = .ok (.getfield 9, 3) := by decide +kernel
theorem d_Maker_liftedNumber_26 : decode prog_3_method_12_code 26 = .ok (.iload_n 1, 1) := by decide +kernel
theorem d_Maker_liftedNumber_27 : decode prog_3_method_12_code 27 = .ok (.invokevirtual 147, 3) := by decide +kernel
theorem d_Maker_liftedNumber_30 : decode prog_3_method_12_code 30 = .ok (.iconst 1, 1) := by decide +kernel
theorem d_Maker_liftedNumber_31 : decode prog_3_method_12_code 31 = .ok (.isub, 1) := by decide +kernel
theorem d_Maker_liftedNumber_32 : decode prog_3_method_12_code 32 = .ok (.iload_n 2, 1) := by decide +kernel
theorem d_Maker_liftedNumber_33 : decode prog_3_method_12_code 33 = .ok (.isub, 1) := by decide +kernel
theorem d_Maker_liftedNumber_34 : decode prog_3_method_12_code 34 = .ok (.istore_n 3, 1) := by decide +kernel
theorem d_Maker_liftedNumber_35 : decode prog_3_method_12_code 35 = .ok (.iload_n 3, 1) := by decide +kernel
theorem d_Maker_liftedNumber_36 : decode prog_3_method_12_code 36 = .ok (.aload_n 0, 1) := by decide +kernel
theorem d_Maker_liftedNumber_37 : decode prog_3_method_12_code 37 = .ok (.getfield 129, 3) := by decide +kernel
theorem d_Maker_liftedNumber_40 : decode prog_3_method_12_code 40 = .ok (.if_icmp .lt 5, 3) := by decide +kernel
theorem d_Maker_liftedNumber_43 : decode prog_3_method_12_code 43 = .ok (.iload_n 2, 1) := by decide +kernel
theorem d_Maker_liftedNumber_44 : decode prog_3_method_12_code 44 = .ok (.ireturn, 1) := by decide +kernel
theorem d_Maker_liftedNumber_45 : decode prog_3_method_12_code 45 = .ok (.iload_n 2, 1) := by decide +kernel
theorem d_Maker_liftedNumber_46 : decode prog_3_method_12_code 46 = .ok (.iload_n 3, 1) := by decide +kernel
theorem d_Maker_liftedNumber_47 : decode prog_3_method_12_code 47 = .ok (.aload_n 0, 1) := by decide +kernel
theorem d_Maker_liftedNumber_48 : decode prog_3_method_12_code 48 = .ok (.getfield 36, 3) := by decide +kernel
theorem d_Maker_liftedNumber_51 : decode prog_3_method_12_code 51 = .ok (.if_icmp .lt 10, 3) := by decide +kernel
theorem d_Maker_liftedNumber_54 : decode prog_3_method_12_code 54 = .ok (.aload_n 0, 1) := by decide +kernel
theorem d_Maker_liftedNumber_55 : decode prog_3_method_12_code 55 = .ok (.getfield 132, 3) := by decide +kernel
theorem d_Maker_liftedNumber_58 : decode prog_3_method_12_code 58 = .ok (.goto 7, 3) := by decide +kernel
theorem d_Maker_liftedNumber_61 : decode prog_3_method_12_code 61 = .ok (.aload_n 0, 1) := by decide +kernel
theorem d_Maker_liftedNumber_62 : decode prog_3_method_12_code 62 = .ok (.getfield 135, 3) := by decide +kernel
theorem d_Maker_liftedNumber_65 : decode prog_3_method_12_code 65 = .ok (.iadd, 1) := by decide +kernel
theorem d_Maker_liftedNumber_66 : decode prog_3_method_12_code 66 = .ok (.ireturn, 1) := by decide +kernel
theorem d_Maker_put_0 : decode prog_3_method_13_code 0 = .ok (.aload_n 0, 1) := by decide +kernel
theorem d_Maker_put_1 : decode prog_3_method_13_code 1 = .ok (.getfield 15, 3) := by decide +kernel
theorem d_Maker_put_4 : decode prog_3_method_13_code 4 = .ok (.ifnull 17, 3) := by decide +kernel
theorem d_Maker_put_7 : decode prog_3_method_13_code 7 = .ok (.aload_n 0, 1) := by decide +kernel
theorem d_Maker_put_8 : decode prog_3_method_13_code 8 = .ok (.getfield 15, 3) := by decide +kernel
theorem d_Maker_put_11 : decode prog_3_method_13_code 11 = .ok (.aload_n 0, 1) := by decide +kernel
theorem d_Maker_put_12 : decode prog_3_method_13_code 12 = .ok (.getfield 19, 3) := by decide +kernel
theorem d_Maker_put_15 : decode prog_3_method_13_code 15 = .ok (.iload_n 1, 1) := by decide +kernel
theorem d_Maker_put_16 : decode prog_3_method_13_code 16 = .ok (.iload_n 2, 1) := by decide +kernel
theorem d_Maker_put_17 : decode prog_3_method_13_code 17 = .ok (.iload_n 3, 1) := by decide +kernel
theorem d_Maker_put_18 : decode prog_3_method_13_code 18 = .ok (.invokevirtual 150, 3) := by decide +kernel
theorem d_Maker_put_21 : decode prog_3_method_13_code 21 = .ok (.aload_n 0, 1) := by decide +kernel
theorem d_Maker_put_22 : decode prog_3_method_13_code 22 = .ok (.dup, 1) := by decide +kernel
theorem d_Maker_put_23 : decode prog_3_method_13_code 23 = .ok (.getfield 19, 3) := by decide +kernel
theorem d_Maker_put_26 : decode prog_3_method_13_code 26 = .ok (.iconst 1, 1) := by decide +kernel
theorem d_Maker_put_27 : decode prog_3_method_13_code 27 = .ok (.iadd, 1) := by decide +kernel
theorem d_Maker_put_28 : decode prog_3_method_13_code 28 = .ok (.putfield 19, 3) := by decide +kernel
theorem d_Maker_put_31 : decode prog_3_method_13_code 31 = .ok (.return_, 1) := by decide +kernel
theorem d_Maker_putApplications_0 : decode prog_3_method_14_code 0 = .ok (.iconst 0, 1) := by decide +kernel
theorem d_Maker_putApplications_1 : decode prog_3_method_14_code 1 = .ok (.istore_n 2, 1) := by decide +kernel
theorem d_Maker_putApplications_2 : decode prog_3_method_14_code 2 = .ok (.iload_n 2, 1) := by decide +kernel
theorem d_Maker_putApplications_3 : decode prog_3_method_14_code 3 = .ok (.iload_n 1, 1) := by decide +kernel
theorem d_Maker_putApplications_4 : decode prog_3_method_14_code 4 = .ok (.if_icmp .ge 16, 3) := by decide +kernel
theorem d_Maker_putApplications_7 : decode prog_3_method_14_code 7 = .ok (.aload_n 0, 1) := by decide +kernel
theorem d_Maker_putApplications_8 : decode prog_3_method_14_code 8 = .ok (.iconst 4, 1) := by decide +kernel
theorem d_Maker_putApplications_9 : decode prog_3_method_14_code 9 = .ok (.iconst 0, 1) := by decide +kernel
theorem d_Maker_putApplications_10 : decode prog_3_method_14_code 10 = .ok (.iconst 0, 1) := by decide +kernel
theorem d_Maker_putApplications_11 : decode prog_3_method_14_code 11 = .ok (.invokevirtual 78, 3) := by decide +kernel
theorem d_Maker_putApplications_14 : decode prog_3_method_14_code 14 = .ok (.iinc 2 1, 3) := by decide +kernel
theorem d_Maker_putApplications_17 : decode prog_3_method_14_code 17 = .ok (.goto (-15), 3) := by decide +kernel
theorem d_Maker_putApplications_20 : decode prog_3_method_14_code 20 = .ok (.return_, 1) := by decide +kernel
theorem d_Maker_putVariables_0 : decode prog_3_method_15_code 0 = .ok (.iconst 0, 1) := by decide +kernel
theorem d_Maker_putVariables_1 : decode prog_3_method_15_code 1 = .ok (.istore_n 3, 1) := by decide +kernel
theorem d_Maker_putVariables_2 : decode prog_3_method_15_code 2 = .ok (.iload_n 3, 1) := by decide +kernel
theorem d_Maker_putVariables_3 : decode prog_3_method_15_code 3 = .ok (.iload_n 2, 1) := by decide +kernel
theorem d_Maker_putVariables_4 : decode prog_3_method_15_code 4 = .ok (.if_icmp .ge 18, 3) := by decide +kernel
theorem d_Maker_putVariables_7 : decode prog_3_method_15_code 7 = .ok (.aload_n 0, 1) := by decide +kernel
theorem d_Maker_putVariables_8 : decode prog_3_method_15_code 8 = .ok (.iconst 0, 1) := by decide +kernel
theorem d_Maker_putVariables_9 : decode prog_3_method_15_code 9 = .ok (.iload_n 1, 1) := by decide +kernel
theorem d_Maker_putVariables_10 : decode prog_3_method_15_code 10 = .ok (.iload_n 3, 1) := by decide +kernel
theorem d_Maker_putVariables_11 : decode prog_3_method_15_code 11 = .ok (.isub, 1) := by decide +kernel
theorem d_Maker_putVariables_12 : decode prog_3_method_15_code 12 = .ok (.iconst 0, 1) := by decide +kernel
theorem d_Maker_putVariables_13 : decode prog_3_method_15_code 13 = .ok (.invokevirtual 78, 3) := by decide +kernel
theorem d_Maker_putVariables_16 : decode prog_3_method_15_code 16 = .ok (.iinc 3 1, 3) := by decide +kernel
theorem d_Maker_putVariables_19 : decode prog_3_method_15_code 19 = .ok (.goto (-17), 3) := by decide +kernel
theorem d_Maker_putVariables_22 : decode prog_3_method_15_code 22 = .ok (.return_, 1) := by decide +kernel
theorem d_Reader_init_0 : decode prog_4_method_1_code 0 = .ok (.aload_n 0, 1) := by decide +kernel
theorem d_Reader_init_1 : decode prog_4_method_1_code 1 = .ok (.invokespecial 3, 3) := by decide +kernel
theorem d_Reader_init_4 : decode prog_4_method_1_code 4 = .ok (.aload_n 0, 1) := by decide +kernel
theorem d_Reader_init_5 : decode prog_4_method_1_code 5 = .ok (.sipush 1000, 3) := by decide +kernel
theorem d_Reader_init_8 : decode prog_4_method_1_code 8 = .ok (.newarray .int, 2) := by decide +kernel
theorem d_Reader_init_10 : decode prog_4_method_1_code 10 = .ok (.putfield 9, 3) := by decide +kernel
theorem d_Reader_init_13 : decode prog_4_method_1_code 13 = .ok (.return_, 1) := by decide +kernel
theorem d_Reader_readShape_0 : decode prog_4_method_2_code 0 = .ok (.aload_n 0, 1) := by decide +kernel
theorem d_Reader_readShape_1 : decode prog_4_method_2_code 1 = .ok (.aload_n 1, 1) := by decide +kernel
theorem d_Reader_readShape_2 : decode prog_4_method_2_code 2 = .ok (.putfield 15, 3) := by decide +kernel
theorem d_Reader_readShape_5 : decode prog_4_method_2_code 5 = .ok (.aload_n 0, 1) := by decide +kernel
theorem d_Reader_readShape_6 : decode prog_4_method_2_code 6 = .ok (.iconst 0, 1) := by decide +kernel
theorem d_Reader_readShape_7 : decode prog_4_method_2_code 7 = .ok (.putfield 19, 3) := by decide +kernel
theorem d_Reader_readShape_10 : decode prog_4_method_2_code 10 = .ok (.aload_n 0, 1) := by decide +kernel
theorem d_Reader_readShape_11 : decode prog_4_method_2_code 11 = .ok (.iload_n 2, 1) := by decide +kernel
theorem d_Reader_readShape_12 : decode prog_4_method_2_code 12 = .ok (.putfield 23, 3) := by decide +kernel
theorem d_Reader_readShape_15 : decode prog_4_method_2_code 15 = .ok (.aload_n 0, 1) := by decide +kernel
theorem d_Reader_readShape_16 : decode prog_4_method_2_code 16 = .ok (.getfield 19, 3) := by decide +kernel
theorem d_Reader_readShape_19 : decode prog_4_method_2_code 19 = .ok (.sipush 1000, 3) := by decide +kernel
theorem d_Reader_readShape_22 : decode prog_4_method_2_code 22 = .ok (.if_icmp .ge 41, 3) := by decide +kernel
theorem d_Reader_readShape_25 : decode prog_4_method_2_code 25 = .ok (.aload_n 1, 1) := by decide +kernel
theorem d_Reader_readShape_26 : decode prog_4_method_2_code 26 = .ok (.aload_n 0, 1) := by decide +kernel
theorem d_Reader_readShape_27 : decode prog_4_method_2_code 27 = .ok (.getfield 23, 3) := by decide +kernel
theorem d_Reader_readShape_30 : decode prog_4_method_2_code 30 = .ok (.invokevirtual 26, 3) := by decide +kernel
theorem d_Reader_readShape_33 : decode prog_4_method_2_code 33 = .ok (.bipush 6, 2) := by decide +kernel
theorem d_Reader_readShape_35 : decode prog_4_method_2_code 35 = .ok (.if_icmp .ne 28, 3) := by decide +kernel
theorem d_Reader_readShape_38 : decode prog_4_method_2_code 38 = .ok (.aload_n 0, 1) := by decide +kernel
theorem d_Reader_readShape_39 : decode prog_4_method_2_code 39 = .ok (.aload_n 1, 1) := by decide +kernel
theorem d_Reader_readShape_40 : decode prog_4_method_2_code 40 = .ok (.aload_n 0, 1) := by decide +kernel
theorem d_Reader_readShape_41 : decode prog_4_method_2_code 41 = .ok (.getfield 23, 3) := by decide +kernel
theorem d_Reader_readShape_44 : decode prog_4_method_2_code 44 = .ok (.invokevirtual 32, 3) := by decide +kernel
theorem d_Reader_readShape_47 : decode prog_4_method_2_code 47 = .ok (.putfield 23, 3) := by decide +kernel
theorem d_Reader_readShape_50 : decode prog_4_method_2_code 50 = .ok (.aload_n 0, 1) := by decide +kernel
theorem d_Reader_readShape_51 : decode prog_4_method_2_code 51 = .ok (.dup, 1) := by decide +kernel
theorem d_Reader_readShape_52 : decode prog_4_method_2_code 52 = .ok (.getfield 19, 3) := by decide +kernel
theorem d_Reader_readShape_55 : decode prog_4_method_2_code 55 = .ok (.iconst 1, 1) := by decide +kernel
theorem d_Reader_readShape_56 : decode prog_4_method_2_code 56 = .ok (.iadd, 1) := by decide +kernel
theorem d_Reader_readShape_57 : decode prog_4_method_2_code 57 = .ok (.putfield 19, 3) := by decide +kernel
theorem d_Reader_readShape_60 : decode prog_4_method_2_code 60 = .ok (.goto (-45), 3) := by decide +kernel
theorem d_Reader_readShape_63 : decode prog_4_method_2_code 63 = .ok (.aload_n 0, 1) := by decide +kernel
theorem d_Reader_readShape_64 : decode prog_4_method_2_code 64 = .ok (.iconst 0, 1) := by decide +kernel
theorem d_Reader_readShape_65 : decode prog_4_method_2_code 65 = .ok (.putfield 35, 3) := by decide +kernel
theorem d_Reader_readShape_68 : decode prog_4_method_2_code 68 = .ok (.aload_n 0, 1) := by decide +kernel
theorem d_Reader_readShape_69 : decode prog_4_method_2_code 69 = .ok (.getfield 35, 3) := by decide +kernel
theorem d_Reader_readShape_72 : decode prog_4_method_2_code 72 = .ok (.sipush 1000, 3) := by decide +kernel
theorem d_Reader_readShape_75 : decode prog_4_method_2_code 75 = .ok (.if_icmp .ge 33, 3) := by decide +kernel
theorem d_Reader_readShape_78 : decode prog_4_method_2_code 78 = .ok (.aload_n 1, 1) := by decide +kernel
theorem d_Reader_readShape_79 : decode prog_4_method_2_code 79 = .ok (.aload_n 0, 1) := by decide +kernel
theorem d_Reader_readShape_80 : decode prog_4_method_2_code 80 = .ok (.getfield 23, 3) := by decide +kernel
theorem d_Reader_readShape_83 : decode prog_4_method_2_code 83 = .ok (.aload_n 0, 1) := by decide +kernel
theorem d_Reader_readShape_84 : decode prog_4_method_2_code 84 = .ok (.getfield 35, 3) := by decide +kernel
theorem d_Reader_readShape_87 : decode prog_4_method_2_code 87 = .ok (.iadd, 1) := by decide +kernel
theorem d_Reader_readShape_88 : decode prog_4_method_2_code 88 = .ok (.invokevirtual 26, 3) := by decide +kernel
theorem d_Reader_readShape_91 : decode prog_4_method_2_code 91 = .ok (.iconst 4, 1) := by decide +kernel
theorem d_Reader_readShape_92 : decode prog_4_method_2_code 92 = .ok (.if_icmp .ne 16, 3) := by decide +kernel
theorem d_Reader_readShape_95 : decode prog_4_method_2_code 95 = .ok (.aload_n 0, 1) := by decide +kernel
theorem d_Reader_readShape_96 : decode prog_4_method_2_code 96 = .ok (.dup, 1) := by decide +kernel
theorem d_Reader_readShape_97 : decode prog_4_method_2_code 97 = .ok (.getfield 35, 3) := by decide +kernel
theorem d_Reader_readShape_100 : decode prog_4_method_2_code 100 = .ok (.iconst 1, 1) := by decide +kernel
theorem d_Reader_readShape_101 : decode prog_4_method_2_code 101 = .ok (.iadd, 1) := by decide +kernel
theorem d_Reader_readShape_102 : decode prog_4_method_2_code 102 = .ok (.putfield 35, 3) := by decide +kernel
theorem d_Reader_readShape_105 : decode prog_4_method_2_code 105 = .ok (.goto (-37), 3) := by decide +kernel
theorem d_Reader_readShape_108 : decode prog_4_method_2_code 108 = .ok (.return_, 1) := by decide +kernel
theorem d_Reader_isPut_0 : decode prog_4_method_3_code 0 = .ok (.aload_n 0, 1) := by decide +kernel
theorem d_Reader_isPut_1 : decode prog_4_method_3_code 1 = .ok (.getfield 23, 3) := by decide +kernel
theorem d_Reader_isPut_4 : decode prog_4_method_3_code 4 = .ok (.aload_n 0, 1) := by decide +kernel
theorem d_Reader_isPut_5 : decode prog_4_method_3_code 5 = .ok (.getfield 35, 3) := by decide +kernel
theorem d_Reader_isPut_8 : decode prog_4_method_3_code 8 = .ok (.iadd, 1) := by decide +kernel
theorem d_Reader_isPut_9 : decode prog_4_method_3_code 9 = .ok (.istore_n 3, 1) := by decide +kernel
theorem d_Reader_isPut_10 : decode prog_4_method_3_code 10 = .ok (.aload_n 0, 1) := by decide +kernel
theorem d_Reader_isPut_11 : decode prog_4_method_3_code 11 = .ok (.getfield 15, 3) := by decide +kernel
theorem d_Reader_isPut_14 : decode prog_4_method_3_code 14 = .ok (.ifnull 46, 3) := by decide +kernel
theorem d_Reader_isPut_17 : decode prog_4_method_3_code 17 = .ok (.aload_n 0, 1) := by decide +kernel
theorem d_Reader_isPut_18 : decode prog_4_method_3_code 18 = .ok (.getfield 35, 3) := by decide +kernel
theorem d_Reader_isPut_21 : decode prog_4_method_3_code 21 = .ok (.aload_n 1, 1) := by decide +kernel
theorem d_Reader_isPut_22 : decode prog_4_method_3_code 22 = .ok (.getfield 38, 3) := by decide +kernel
theorem d_Reader_isPut_25 : decode prog_4_method_3_code 25 = .ok (.aload_n 1, 1) := by decide +kernel
theorem d_Reader_isPut_26 : decode prog_4_method_3_code 26 = .ok (.getfield 43, 3) := by decide +kernel
theorem d_Reader_isPut_29 : decode prog_4_method_3_code 29 = .ok (.iadd, 1) := by decide +kernel
theorem d_Reader_isPut_30 : decode prog_4_method_3_code 30 = .ok (.if_icmp .ne 30, 3) := by decide +kernel
theorem d_Reader_isPut_33 : decode prog_4_method_3_code 33 = .ok (.aload_n 0, 1) := by decide +kernel
theorem d_Reader_isPut_34 : decode prog_4_method_3_code 34 = .ok (.getfield 15, 3) := by decide +kernel
theorem d_Reader_isPut_37 : decode prog_4_method_3_code 37 = .ok (.iload_n 3, 1) := by decide +kernel
theorem d_Reader_isPut_38 : decode prog_4_method_3_code 38 = .ok (.invokevirtual 26, 3) := by decide +kernel
theorem d_Reader_isPut_41 : decode prog_4_method_3_code 41 = .ok (.iconst 1, 1) := by decide +kernel
theorem d_Reader_isPut_42 : decode prog_4_method_3_code 42 = .ok (.if_icmp .ne 18, 3) := by decide +kernel
theorem d_Reader_isPut_45 : decode prog_4_method_3_code 45 = .ok (.aload_n 0, 1) := by decide +kernel
theorem d_Reader_isPut_46 : decode prog_4_method_3_code 46 = .ok (.getfield 15, 3) := by decide +kernel
theorem d_Reader_isPut_49 : decode prog_4_method_3_code 49 = .ok (.iload_n 3, 1) := by decide +kernel
theorem d_Reader_isPut_50 : decode prog_4_method_3_code 50 = .ok (.invokevirtual 46, 3) := by decide +kernel
theorem d_Reader_isPut_53 : decode prog_4_method_3_code 53 = .ok (.aload_n 1, 1) := by decide +kernel
theorem d_Reader_isPut_54 : decode prog_4_method_3_code 54 = .ok (.getfield 49, 3) := by decide +kernel
theorem d_Reader_isPut_57 : decode prog_4_method_3_code 57 = .ok (.if_icmp .eq 5, 3) := by decide +kernel
theorem d_Reader_isPut_60 : decode prog_4_method_3_code 60 = .ok (.iconst 0, 1) := by decide +kernel
theorem d_Reader_isPut_61 : decode prog_4_method_3_code 61 = .ok (.ireturn, 1) := by decide +kernel
theorem d_Reader_isPut_62 : decode prog_4_method_3_code 62 = .ok (.iconst 0, 1) := by decide +kernel
theorem d_Reader_isPut_63 : decode prog_4_method_3_code 63 = .ok (.istore 4, 2) := by decide +kernel
theorem d_Reader_isPut_65 : decode prog_4_method_3_code 65 = .ok (.iload 4, 2) := by decide +kernel
theorem d_Reader_isPut_67 : decode prog_4_method_3_code 67 = .ok (.aload_n 1, 1) := by decide +kernel
theorem d_Reader_isPut_68 : decode prog_4_method_3_code 68 = .ok (.getfield 38, 3) := by decide +kernel
theorem d_Reader_isPut_71 : decode prog_4_method_3_code 71 = .ok (.if_icmp .ge 54, 3) := by decide +kernel
theorem d_Reader_isPut_74 : decode prog_4_method_3_code 74 = .ok (.iload_n 3, 1) := by decide +kernel
theorem d_Reader_isPut_75 : decode prog_4_method_3_code 75 = .ok (.iconst 1, 1) := by decide +kernel
theorem d_Reader_isPut_76 : decode prog_4_method_3_code 76 = .ok (.iadd, 1) := by decide +kernel
theorem d_Reader_isPut_77 : decode prog_4_method_3_code 77 = .ok (.iload 4, 2) := by decide +kernel
theorem d_Reader_isPut_79 : decode prog_4_method_3_code 79 = .ok (.iadd, 1) := by decide +kernel
theorem d_Reader_isPut_80 : decode prog_4_method_3_code 80 = .ok (.istore 5, 2) := by decide +kernel
theorem d_Reader_isPut_82 : decode prog_4_method_3_code 82 = .ok (.aload_n 0, 1) := by decide +kernel
theorem d_Reader_isPut_83 : decode prog_4_method_3_code 83 = .ok (.getfield 15, 3) := by decide +kernel
theorem d_Reader_isPut_86 : decode prog_4_method_3_code 86 = .ok (.iload 5, 2) := by decide +kernel
theorem d_Reader_isPut_88 : decode prog_4_method_3_code 88 = .ok (.invokevirtual 26, 3) := by decide +kernel
theorem d_Reader_isPut_91 : decode prog_4_method_3_code 91 = .ok (.ifCond .ne 26, 3) := by decide +kernel
theorem d_Reader_isPut_94 : decode prog_4_method_3_code 94 = .ok (.aload_n 0, 1) := by decide +kernel
theorem d_Reader_isPut_95 : decode prog_4_method_3_code 95 = .ok (.getfield 15, 3) := by decide +kernel
theorem d_Reader_isPut_98 : decode prog_4_method_3_code 98 = .ok (.iload 5, 2) := by decide +kernel
theorem d_Reader_isPut_100 : decode prog_4_method_3_code 100 = .ok (.invokevirtual 46, 3) := by decide +kernel
theorem d_Reader_isPut_103 : decode prog_4_method_3_code 103 = .ok (.iload_n 2, 1) := by decide +kernel
theorem d_Reader_isPut_104 : decode prog_4_method_3_code 104 = .ok (.aload_n 0, 1) := by decide +kernel
theorem d_Reader_isPut_105 : decode prog_4_method_3_code 105 = .ok (.getfield 19, 3) := by decide +kernel
theorem d_Reader_isPut_108 : decode prog_4_method_3_code 108 = .ok (.iadd, 1) := by decide +kernel
theorem d_Reader_isPut_109 : decode prog_4_method_3_code 109 = .ok (.iconst 1, 1) := by decide +kernel
theorem d_Reader_isPut_110 : decode prog_4_method_3_code 110 = .ok (.isub, 1) := by decide +kernel
theorem d_Reader_isPut_111 : decode prog_4_method_3_code 111 = .ok (.iload 4, 2) := by decide +kernel
theorem d_Reader_isPut_113 : decode prog_4_method_3_code 113 = .ok (.isub, 1) := by decide +kernel
theorem d_Reader_isPut_114 : decode prog_4_method_3_code 114 = .ok (.if_icmp .eq 5, 3) := by decide +kernel
theorem d_Reader_isPut_117 : decode prog_4_method_3_code 117 = .ok (.iconst 0, 1) := by decide +kernel
theorem d_Reader_isPut_118 : decode prog_4_method_3_code 118 = .ok (.ireturn, 1) := by decide +kernel
theorem d_Reader_isPut_119 : decode prog_4_method_3_code 119 = .ok (.iinc 4 1, 3) := by decide +kernel
theorem d_Reader_isPut_122 : decode prog_4_method_3_code 122 = .ok (.goto (-57), 3) := by decide +kernel
theorem d_Reader_isPut_125 : decode prog_4_method_3_code 125 = .ok (.iconst 1, 1) := by decide +kernel
theorem d_Reader_isPut_126 : decode prog_4_method_3_code 126 = .ok (.ireturn, 1) := by decide +kernel
theorem d_Reader_lastTerms_0 : decode prog_4_method_4_code 0 = .ok (.aload_n 0, 1) := by decide +kernel
theorem d_Reader_lastTerms_1 : decode prog_4_method_4_code 1 = .ok (.getfield 23, 3) := by decide +kernel
theorem d_Reader_lastTerms_4 : decode prog_4_method_4_code 4 = .ok (.aload_n 0, 1) := by decide +kernel
theorem d_Reader_lastTerms_5 : decode prog_4_method_4_code 5 = .ok (.getfield 35, 3) := by decide +kernel
theorem d_Reader_lastTerms_8 : decode prog_4_method_4_code 8 = .ok (.iadd, 1) := by decide +kernel
theorem d_Reader_lastTerms_9 : decode prog_4_method_4_code 9 = .ok (.iconst 1, 1) := by decide +kernel
theorem d_Reader_lastTerms_10 : decode prog_4_method_4_code 10 = .ok (.iadd, 1) := by decide +kernel
theorem d_Reader_lastTerms_11 : decode prog_4_method_4_code 11 = .ok (.aload_n 1, 1) := by decide +kernel
theorem d_Reader_lastTerms_12 : decode prog_4_method_4_code 12 = .ok (.getfield 38, 3) := by decide +kernel
theorem d_Reader_lastTerms_15 : decode prog_4_method_4_code 15 = .ok (.iadd, 1) := by decide +kernel
theorem d_Reader_lastTerms_16 : decode prog_4_method_4_code 16 = .ok (.ireturn, 1) := by decide +kernel
theorem d_Reader_end_0 : decode prog_4_method_5_code 0 = .ok (.aload_n 0, 1) := by decide +kernel
theorem d_Reader_end_1 : decode prog_4_method_5_code 1 = .ok (.getfield 15, 3) := by decide +kernel
theorem d_Reader_end_4 : decode prog_4_method_5_code 4 = .ok (.ifnonnull 10, 3) := by decide +kernel
theorem d_Reader_end_7 : decode prog_4_method_5_code 7 = .ok (.aload_n 0, 1) := by decide +kernel
theorem d_Reader_end_8 : decode prog_4_method_5_code 8 = .ok (.getfield 23, 3) := by decide +kernel
theorem d_Reader_end_11 : decode prog_4_method_5_code 11 = .ok (.goto 19, 3) := by decide +kernel
theorem d_Reader_end_14 : decode prog_4_method_5_code 14 = .ok (.aload_n 0, 1) := by decide +kernel
theorem d_Reader_end_15 : decode prog_4_method_5_code 15 = .ok (.getfield 23, 3) := by decide +kernel
theorem d_Reader_end_18 : decode prog_4_method_5_code 18 = .ok (.aload_n 0, 1) := by decide +kernel
theorem d_Reader_end_19 : decode prog_4_method_5_code 19 = .ok (.getfield 15, 3) := by decide +kernel
theorem d_Reader_end_22 : decode prog_4_method_5_code 22 = .ok (.aload_n 0, 1) := by decide +kernel
theorem d_Reader_end_23 : decode prog_4_method_5_code 23 = .ok (.getfield 23, 3) := by decide +kernel
theorem d_Reader_end_26 : decode prog_4_method_5_code 26 = .ok (.invokevirtual 52, 3) := by decide +kernel
theorem d_Reader_end_29 : decode prog_4_method_5_code 29 = .ok (.iadd, 1) := by decide +kernel
theorem d_Reader_end_30 : decode prog_4_method_5_code 30 = .ok (.ireturn, 1) := by decide +kernel
theorem d_Reader_standing_0 : decode prog_4_method_6_code 0 = .ok (.aload_n 2, 1) := by decide +kernel
theorem d_Reader_standing_1 : decode prog_4_method_6_code 1 = .ok (.aload_n 1, 1) := by decide +kernel
theorem d_Reader_standing_2 : decode prog_4_method_6_code 2 = .ok (.getfield 49, 3) := by decide +kernel
theorem d_Reader_standing_5 : decode prog_4_method_6_code 5 = .ok (.iload_n 3, 1) := by decide +kernel
theorem d_Reader_standing_6 : decode prog_4_method_6_code 6 = .ok (.iload_n 3, 1) := by decide +kernel
theorem d_Reader_standing_7 : decode prog_4_method_6_code 7 = .ok (.aload_n 2, 1) := by decide +kernel
theorem d_Reader_standing_8 : decode prog_4_method_6_code 8 = .ok (.iload_n 3, 1) := by decide +kernel
theorem d_Reader_standing_9 : decode prog_4_method_6_code 9 = .ok (.invokevirtual 52, 3) := by decide +kernel
theorem d_Reader_standing_12 : decode prog_4_method_6_code 12 = .ok (.iadd, 1) := by decide +kernel
theorem d_Reader_standing_13 : decode prog_4_method_6_code 13 = .ok (.invokevirtual 55, 3) := by decide +kernel
theorem d_Reader_standing_16 : decode prog_4_method_6_code 16 = .ok (.istore 5, 2) := by decide +kernel
theorem d_Reader_standing_18 : decode prog_4_method_6_code 18 = .ok (.iload 5, 2) := by decide +kernel
theorem d_Reader_standing_20 : decode prog_4_method_6_code 20 = .ok (.ifCond .ne 5, 3) := by decide +kernel
theorem d_Reader_standing_23 : decode prog_4_method_6_code 23 = .ok (.iconst 1, 1) := by decide +kernel
theorem d_Reader_standing_24 : decode prog_4_method_6_code 24 = .ok (.ireturn, 1) := by decide +kernel
theorem d_Reader_standing_25 : decode prog_4_method_6_code 25 = .ok (.aload_n 0, 1) := by decide +kernel
theorem d_Reader_standing_26 : decode prog_4_method_6_code 26 = .ok (.aload_n 2, 1) := by decide +kernel
theorem d_Reader_standing_27 : decode prog_4_method_6_code 27 = .ok (.iload_n 3, 1) := by decide +kernel
theorem d_Reader_standing_28 : decode prog_4_method_6_code 28 = .ok (.invokevirtual 59, 3) := by decide +kernel
theorem d_Reader_standing_31 : decode prog_4_method_6_code 31 = .ok (.iload 5, 2) := by decide +kernel
theorem d_Reader_standing_33 : decode prog_4_method_6_code 33 = .ok (.iconst 1, 1) := by decide +kernel
theorem d_Reader_standing_34 : decode prog_4_method_6_code 34 = .ok (.if_icmp .ne 17, 3) := by decide +kernel
theorem d_Reader_standing_37 : decode prog_4_method_6_code 37 = .ok (.aload_n 0, 1) := by decide +kernel
theorem d_Reader_standing_38 : decode prog_4_method_6_code 38 = .ok (.aload_n 1, 1) := by decide +kernel
theorem d_Reader_standing_39 : decode prog_4_method_6_code 39 = .ok (.iload 4, 2) := by decide +kernel
theorem d_Reader_standing_41 : decode prog_4_method_6_code 41 = .ok (.invokevirtual 63, 3) := by decide +kernel
theorem d_Reader_standing_44 : decode prog_4_method_6_code 44 = .ok (.ifCond .eq 7, 3) := by decide +kernel
theorem d_Reader_standing_47 : decode prog_4_method_6_code 47 = .ok (.iconst 2, 1) := by decide +kernel
theorem d_Reader_standing_48 : decode prog_4_method_6_code 48 = .ok (.goto 4, 3) := by decide +kernel
theorem d_Reader_standing_51 : decode prog_4_method_6_code 51 = .ok (.iconst 0, 1) := by decide +kernel
theorem d_Reader_standing_52 : decode prog_4_method_6_code 52 = .ok (.ireturn, 1) := by decide +kernel
theorem d_Reader_readDepths_0 : decode prog_4_method_7_code 0 = .ok (.aload_n 0, 1) := by decide +kernel
theorem d_Reader_readDepths_1 : decode prog_4_method_7_code 1 = .ok (.iconst 0, 1) := by decide +kernel
theorem d_Reader_readDepths_2 : decode prog_4_method_7_code 2 = .ok (.iconst 0, 1) := by decide +kernel
theorem d_Reader_readDepths_3 : decode prog_4_method_7_code 3 = .ok (.invokevirtual 67, 3) := by decide +kernel
theorem d_Reader_readDepths_6 : decode prog_4_method_7_code 6 = .ok (.iconst 0, 1) := by decide +kernel
theorem d_Reader_readDepths_7 : decode prog_4_method_7_code 7 = .ok (.istore_n 2, 1) := by decide +kernel
theorem d_Reader_readDepths_8 : decode prog_4_method_7_code 8 = .ok (.iload_n 2, 1) := by decide +kernel
theorem d_Reader_readDepths_9 : decode prog_4_method_7_code 9 = .ok (.aload_n 1, 1) := by decide +kernel
theorem d_Reader_readDepths_10 : decode prog_4_method_7_code 10 = .ok (.invokevirtual 71, 3) := by decide +kernel
theorem d_Reader_readDepths_13 : decode prog_4_method_7_code 13 = .ok (.if_icmp .ge 59, 3) := by decide +kernel
theorem d_Reader_readDepths_16 : decode prog_4_method_7_code 16 = .ok (.aload_n 1, 1) := by decide +kernel
theorem d_Reader_readDepths_17 : decode prog_4_method_7_code 17 = .ok (.iload_n 2, 1) := by decide +kernel
theorem d_Reader_readDepths_18 : decode prog_4_method_7_code 18 = .ok (.invokevirtual 26, 3) := by decide +kernel
theorem d_Reader_readDepths_21 : decode prog_4_method_7_code 21 = .ok (.istore_n 3, 1) := by decide +kernel
theorem d_Reader_readDepths_22 : decode prog_4_method_7_code 22 = .ok (.iload_n 3, 1) := by decide +kernel
theorem d_Reader_readDepths_23 : decode prog_4_method_7_code 23 = .ok (.iconst 4, 1) := by decide +kernel
theorem d_Reader_readDepths_24 : decode prog_4_method_7_code 24 = .ok (.if_icmp .lt 42, 3) := by decide +kernel
theorem d_Reader_readDepths_27 : decode prog_4_method_7_code 27 = .ok (.aload_n 0, 1) := by decide +kernel
theorem d_Reader_readDepths_28 : decode prog_4_method_7_code 28 = .ok (.iload_n 2, 1) := by decide +kernel
theorem d_Reader_readDepths_29 : decode prog_4_method_7_code 29 = .ok (.invokevirtual 75, 3) := by decide +kernel
theorem d_Reader_readDepths_32 : decode prog_4_method_7_code 32 = .ok (.istore 4, 2) := by decide +kernel
theorem d_Reader_readDepths_34 : decode prog_4_method_7_code 34 = .ok (.aload_n 0, 1) := by decide +kernel
theorem d_Reader_readDepths_35 : decode prog_4_method_7_code 35 = .ok (.iload_n 2, 1) := by decide +kernel
theorem d_Reader_readDepths_36 : decode prog_4_method_7_code 36 = .ok (.iconst 1, 1) := by decide +kernel
theorem d_Reader_readDepths_37 : decode prog_4_method_7_code 37 = .ok (.iadd, 1) := by decide +kernel
theorem d_Reader_readDepths_38 : decode prog_4_method_7_code 38 = .ok (.iload 4, 2) := by decide +kernel
theorem d_Reader_readDepths_40 : decode prog_4_method_7_code 40 = .ok (.invokevirtual 67, 3) := by decide +kernel
theorem d_Reader_readDepths_43 : decode prog_4_method_7_code 43 = .ok (.aload_n 0, 1) := by decide +kernel
theorem d_Reader_readDepths_44 : decode prog_4_method_7_code 44 = .ok (.aload_n 1, 1) := by decide +kernel
theorem d_Reader_readDepths_45 : decode prog_4_method_7_code 45 = .ok (.iload_n 2, 1) := by decide +kernel
theorem d_Reader_readDepths_46 : decode prog_4_method_7_code 46 = .ok (.invokevirtual 32, 3) := by decide +kernel
theorem d_Reader_readDepths_49 : decode prog_4_method_7_code 49 = .ok (.iload_n 3, 1) := by decide +kernel
theorem d_Reader_readDepths_50 : decode prog_4_method_7_code 50 = .ok (.iconst 4, 1) := by decide +kernel
theorem d_Reader_readDepths_51 : decode prog_4_method_7_code 51 = .ok (.if_icmp .ne 8, 3) := by decide +kernel
theorem d_Reader_readDepths_54 : decode prog_4_method_7_code 54 = .ok (.iload 4, 2) := by decide +kernel
theorem d_Reader_readDepths_56 : decode prog_4_method_7_code 56 = .ok (.goto 7, 3) := by decide +kernel
theorem d_Reader_readDepths_59 : decode prog_4_method_7_code 59 = .ok (.iload 4, 2) := by decide +kernel
theorem d_Reader_readDepths_61 : decode prog_4_method_7_code 61 = .ok (.iconst 1, 1) := by decide +kernel
theorem d_Reader_readDepths_62 : decode prog_4_method_7_code 62 = .ok (.iadd, 1) := by decide +kernel
theorem d_Reader_readDepths_63 : decode prog_4_method_7_code 63 = .ok (.invokevirtual 67, 3) := by decide +kernel
theorem d_Reader_readDepths_66 : decode prog_4_method_7_code 66 = .ok (.iinc 2 1, 3) := by decide +kernel
theorem d_Reader_readDepths_69 : decode prog_4_method_7_code 69 = .ok (.goto (-61), 3) := by decide +kernel
theorem d_Reader_readDepths_72 : decode prog_4_method_7_code 72 = .ok (.return_, 1) := by decide +kernel
theorem d_Reader_depthAt_0 : decode prog_4_method_8_code 0 = .ok (.iload_n 1, 1) := by decide +kernel
theorem d_Reader_depthAt_1 : decode prog_4_method_8_code 1 = .ok (.ifCond .lt 21, 3) := by decide +kernel
theorem d_Reader_depthAt_4 : decode prog_4_method_8_code 4 = .ok (.iload_n 1, 1) := by decide +kernel
theorem d_Reader_depthAt_5 : decode prog_4_method_8_code 5 = .ok (.aload_n 0, 1) := by decide +kernel
theorem d_Reader_depthAt_6 : decode prog_4_method_8_code 6 = .ok (.getfield 9, 3) := by decide +kernel
theorem d_Reader_depthAt_9 : decode prog_4_method_8_code 9 = .ok (.arraylength, 1) := by decide +kernel
theorem d_Reader_depthAt_10 : decode prog_4_method_8_code 10 = .ok (.if_icmp .ge 12, 3) := by decide +kernel
theorem d_Reader_depthAt_13 : decode prog_4_method_8_code 13 = .ok (.aload_n 0, 1) := by decide +kernel
theorem d_Reader_depthAt_14 : decode prog_4_method_8_code 14 = .ok (.getfield 9, 3) := by decide +kernel
theorem d_Reader_depthAt_17 : decode prog_4_method_8_code 17 = .ok (.iload_n 1, 1) := by decide +kernel
