theorem dX1_aimByWord_12 : decode cX1_aimByWord 12 = .ok (.aload_n 0, 1) := by decide +kernel
theorem dX1_aimByWord_13 : decode cX1_aimByWord 13 = .ok (.getfield 12, 3) := by decide +kernel
theorem dX1_aimByWord_16 : decode cX1_aimByWord 16 = .ok (.aload_n 0, 1) := by decide +kernel
theorem dX1_aimByWord_17 : decode cX1_aimByWord 17 = .ok (.getfield 12, 3) := by decide +kernel
theorem dX1_aimByWord_20 : decode cX1_aimByWord 20 = .ok (.getfield 85, 3) := by decide +kernel
theorem dX1_aimByWord_23 : decode cX1_aimByWord 23 = .ok (.invokevirtual 206, 3) := by decide +kernel
theorem dX1_aimByWord_26 : decode cX1_aimByWord 26 = .ok (.istore_n 1, 1) := by decide +kernel
theorem dX1_aimByWord_27 : decode cX1_aimByWord 27 = .ok (.aload_n 0, 1) := by decide +kernel
theorem dX1_aimByWord_28 : decode cX1_aimByWord 28 = .ok (.aload_n 0, 1) := by decide +kernel
theorem dX1_aimByWord_29 : decode cX1_aimByWord 29 = .ok (.getfield 12, 3) := by decide +kernel
theorem dX1_aimByWord_32 : decode cX1_aimByWord 32 = .ok (.aload_n 0, 1) := by decide +kernel
theorem dX1_aimByWord_33 : decode cX1_aimByWord 33 = .ok (.getfield 12, 3) := by decide +kernel
theorem dX1_aimByWord_36 : decode cX1_aimByWord 36 = .ok (.getfield 85, 3) := by decide +kernel
theorem dX1_aimByWord_39 : decode cX1_aimByWord 39 = .ok (.iload_n 1, 1) := by decide +kernel
theorem dX1_aimByWord_40 : decode cX1_aimByWord 40 = .ok (.invokevirtual 209, 3) := by decide +kernel
theorem dX1_aimByWord_43 : decode cX1_aimByWord 43 = .ok (.putfield 178, 3) := by decide +kernel
theorem dX1_aimByWord_46 : decode cX1_aimByWord 46 = .ok (.aload_n 0, 1) := by decide +kernel
theorem dX1_aimByWord_47 : decode cX1_aimByWord 47 = .ok (.aload_n 0, 1) := by decide +kernel
theorem dX1_aimByWord_48 : decode cX1_aimByWord 48 = .ok (.getfield 12, 3) := by decide +kernel
theorem dX1_aimByWord_51 : decode cX1_aimByWord 51 = .ok (.aload_n 0, 1) := by decide +kernel
theorem dX1_aimByWord_52 : decode cX1_aimByWord 52 = .ok (.getfield 12, 3) := by decide +kernel
theorem dX1_aimByWord_55 : decode cX1_aimByWord 55 = .ok (.getfield 85, 3) := by decide +kernel
theorem dX1_aimByWord_58 : decode cX1_aimByWord 58 = .ok (.iload_n 1, 1) := by decide +kernel
theorem dX1_aimByWord_59 : decode cX1_aimByWord 59 = .ok (.invokevirtual 212, 3) := by decide +kernel
theorem dX1_aimByWord_62 : decode cX1_aimByWord 62 = .ok (.putfield 181, 3) := by decide +kernel
theorem dX1_aimByWord_65 : decode cX1_aimByWord 65 = .ok (.aload_n 0, 1) := by decide +kernel
theorem dX1_aimByWord_66 : decode cX1_aimByWord 66 = .ok (.getfield 31, 3) := by decide +kernel
theorem dX1_aimByWord_69 : decode cX1_aimByWord 69 = .ok (.getfield 215, 3) := by decide +kernel
theorem dX1_aimByWord_72 : decode cX1_aimByWord 72 = .ok (.ifCond .eq 19, 3) := by decide +kernel
theorem dX1_aimByWord_75 : decode cX1_aimByWord 75 = .ok (.aload_n 0, 1) := by decide +kernel
theorem dX1_aimByWord_76 : decode cX1_aimByWord 76 = .ok (.aload_n 0, 1) := by decide +kernel
theorem dX1_aimByWord_77 : decode cX1_aimByWord 77 = .ok (.getfield 12, 3) := by decide +kernel
theorem dX1_aimByWord_80 : decode cX1_aimByWord 80 = .ok (.aload_n 0, 1) := by decide +kernel
theorem dX1_aimByWord_81 : decode cX1_aimByWord 81 = .ok (.getfield 181, 3) := by decide +kernel
theorem dX1_aimByWord_84 : decode cX1_aimByWord 84 = .ok (.iconst 0, 1) := by decide +kernel
theorem dX1_aimByWord_85 : decode cX1_aimByWord 85 = .ok (.invokevirtual 212, 3) := by decide +kernel
theorem dX1_aimByWord_88 : decode cX1_aimByWord 88 = .ok (.putfield 181, 3) := by decide +kernel
theorem dX1_aimByWord_91 : decode cX1_aimByWord 91 = .ok (.iconst 1, 1) := by decide +kernel
theorem dX1_aimByWord_92 : decode cX1_aimByWord 92 = .ok (.ireturn, 1) := by decide +kernel
theorem dX1_aimByBrackets_0 : decode cX1_aimByBrackets 0 = .ok (.aload_n 0, 1) := by decide +kernel
theorem dX1_aimByBrackets_1 : decode cX1_aimByBrackets 1 = .ok (.getfield 12, 3) := by decide +kernel
theorem dX1_aimByBrackets_4 : decode cX1_aimByBrackets 4 = .ok (.aload_n 0, 1) := by decide +kernel
theorem dX1_aimByBrackets_5 : decode cX1_aimByBrackets 5 = .ok (.getfield 12, 3) := by decide +kernel
theorem dX1_aimByBrackets_8 : decode cX1_aimByBrackets 8 = .ok (.getfield 85, 3) := by decide +kernel
theorem dX1_aimByBrackets_11 : decode cX1_aimByBrackets 11 = .ok (.invokevirtual 218, 3) := by decide +kernel
theorem dX1_aimByBrackets_14 : decode cX1_aimByBrackets 14 = .ok (.istore_n 1, 1) := by decide +kernel
theorem dX1_aimByBrackets_15 : decode cX1_aimByBrackets 15 = .ok (.iload_n 1, 1) := by decide +kernel
theorem dX1_aimByBrackets_16 : decode cX1_aimByBrackets 16 = .ok (.iconst (-1), 1) := by decide +kernel
theorem dX1_aimByBrackets_17 : decode cX1_aimByBrackets 17 = .ok (.if_icmp .ne 7, 3) := by decide +kernel
theorem dX1_aimByBrackets_20 : decode cX1_aimByBrackets 20 = .ok (.iconst (-1), 1) := by decide +kernel
theorem dX1_aimByBrackets_21 : decode cX1_aimByBrackets 21 = .ok (.goto 11, 3) := by decide +kernel
theorem dX1_aimByBrackets_24 : decode cX1_aimByBrackets 24 = .ok (.aload_n 0, 1) := by decide +kernel
theorem dX1_aimByBrackets_25 : decode cX1_aimByBrackets 25 = .ok (.getfield 12, 3) := by decide +kernel
theorem dX1_aimByBrackets_28 : decode cX1_aimByBrackets 28 = .ok (.iload_n 1, 1) := by decide +kernel
theorem dX1_aimByBrackets_29 : decode cX1_aimByBrackets 29 = .ok (.invokevirtual 221, 3) := by decide +kernel
theorem dX1_aimByBrackets_32 : decode cX1_aimByBrackets 32 = .ok (.istore_n 2, 1) := by decide +kernel
theorem dX1_aimByBrackets_33 : decode cX1_aimByBrackets 33 = .ok (.iload_n 2, 1) := by decide +kernel
theorem dX1_aimByBrackets_34 : decode cX1_aimByBrackets 34 = .ok (.iconst (-1), 1) := by decide +kernel
theorem dX1_aimByBrackets_35 : decode cX1_aimByBrackets 35 = .ok (.if_icmp .ne 5, 3) := by decide +kernel
theorem dX1_aimByBrackets_38 : decode cX1_aimByBrackets 38 = .ok (.iconst 0, 1) := by decide +kernel
theorem dX1_aimByBrackets_39 : decode cX1_aimByBrackets 39 = .ok (.ireturn, 1) := by decide +kernel
theorem dX1_aimByBrackets_40 : decode cX1_aimByBrackets 40 = .ok (.aload_n 0, 1) := by decide +kernel
theorem dX1_aimByBrackets_41 : decode cX1_aimByBrackets 41 = .ok (.aload_n 0, 1) := by decide +kernel
theorem dX1_aimByBrackets_42 : decode cX1_aimByBrackets 42 = .ok (.getfield 31, 3) := by decide +kernel
theorem dX1_aimByBrackets_45 : decode cX1_aimByBrackets 45 = .ok (.getfield 215, 3) := by decide +kernel
theorem dX1_aimByBrackets_48 : decode cX1_aimByBrackets 48 = .ok (.ifCond .eq 7, 3) := by decide +kernel
theorem dX1_aimByBrackets_51 : decode cX1_aimByBrackets 51 = .ok (.iload_n 1, 1) := by decide +kernel
theorem dX1_aimByBrackets_52 : decode cX1_aimByBrackets 52 = .ok (.goto 6, 3) := by decide +kernel
theorem dX1_aimByBrackets_55 : decode cX1_aimByBrackets 55 = .ok (.iload_n 1, 1) := by decide +kernel
theorem dX1_aimByBrackets_56 : decode cX1_aimByBrackets 56 = .ok (.iconst 1, 1) := by decide +kernel
theorem dX1_aimByBrackets_57 : decode cX1_aimByBrackets 57 = .ok (.iadd, 1) := by decide +kernel
theorem dX1_aimByBrackets_58 : decode cX1_aimByBrackets 58 = .ok (.putfield 178, 3) := by decide +kernel
theorem dX1_aimByBrackets_61 : decode cX1_aimByBrackets 61 = .ok (.aload_n 0, 1) := by decide +kernel
theorem dX1_aimByBrackets_62 : decode cX1_aimByBrackets 62 = .ok (.aload_n 0, 1) := by decide +kernel
theorem dX1_aimByBrackets_63 : decode cX1_aimByBrackets 63 = .ok (.getfield 31, 3) := by decide +kernel
theorem dX1_aimByBrackets_66 : decode cX1_aimByBrackets 66 = .ok (.getfield 215, 3) := by decide +kernel
theorem dX1_aimByBrackets_69 : decode cX1_aimByBrackets 69 = .ok (.ifCond .eq 9, 3) := by decide +kernel
theorem dX1_aimByBrackets_72 : decode cX1_aimByBrackets 72 = .ok (.iload_n 2, 1) := by decide +kernel
theorem dX1_aimByBrackets_73 : decode cX1_aimByBrackets 73 = .ok (.iconst 1, 1) := by decide +kernel
theorem dX1_aimByBrackets_74 : decode cX1_aimByBrackets 74 = .ok (.iadd, 1) := by decide +kernel
theorem dX1_aimByBrackets_75 : decode cX1_aimByBrackets 75 = .ok (.goto 4, 3) := by decide +kernel
theorem dX1_aimByBrackets_78 : decode cX1_aimByBrackets 78 = .ok (.iload_n 2, 1) := by decide +kernel
theorem dX1_aimByBrackets_79 : decode cX1_aimByBrackets 79 = .ok (.putfield 181, 3) := by decide +kernel
theorem dX1_aimByBrackets_82 : decode cX1_aimByBrackets 82 = .ok (.iconst 1, 1) := by decide +kernel
theorem dX1_aimByBrackets_83 : decode cX1_aimByBrackets 83 = .ok (.ireturn, 1) := by decide +kernel
theorem dX1_aimByLetters_0 : decode cX1_aimByLetters 0 = .ok (.aload_n 0, 1) := by decide +kernel
theorem dX1_aimByLetters_1 : decode cX1_aimByLetters 1 = .ok (.aload_n 0, 1) := by decide +kernel
theorem dX1_aimByLetters_2 : decode cX1_aimByLetters 2 = .ok (.getfield 12, 3) := by decide +kernel
theorem dX1_aimByLetters_5 : decode cX1_aimByLetters 5 = .ok (.getfield 85, 3) := by decide +kernel
theorem dX1_aimByLetters_8 : decode cX1_aimByLetters 8 = .ok (.putfield 178, 3) := by decide +kernel
theorem dX1_aimByLetters_11 : decode cX1_aimByLetters 11 = .ok (.aload_n 0, 1) := by decide +kernel
theorem dX1_aimByLetters_12 : decode cX1_aimByLetters 12 = .ok (.aload_n 0, 1) := by decide +kernel
theorem dX1_aimByLetters_13 : decode cX1_aimByLetters 13 = .ok (.getfield 12, 3) := by decide +kernel
theorem dX1_aimByLetters_16 : decode cX1_aimByLetters 16 = .ok (.getfield 82, 3) := by decide +kernel
theorem dX1_aimByLetters_19 : decode cX1_aimByLetters 19 = .ok (.aload_n 0, 1) := by decide +kernel
theorem dX1_aimByLetters_20 : decode cX1_aimByLetters 20 = .ok (.getfield 178, 3) := by decide +kernel
theorem dX1_aimByLetters_23 : decode cX1_aimByLetters 23 = .ok (.iload_n 1, 1) := by decide +kernel
theorem dX1_aimByLetters_24 : decode cX1_aimByLetters 24 = .ok (.iadd, 1) := by decide +kernel
theorem dX1_aimByLetters_25 : decode cX1_aimByLetters 25 = .ok (.invokestatic 200, 3) := by decide +kernel
theorem dX1_aimByLetters_28 : decode cX1_aimByLetters 28 = .ok (.putfield 181, 3) := by decide +kernel
theorem dX1_aimByLetters_31 : decode cX1_aimByLetters 31 = .ok (.aload_n 0, 1) := by decide +kernel
theorem dX1_aimByLetters_32 : decode cX1_aimByLetters 32 = .ok (.getfield 12, 3) := by decide +kernel
theorem dX1_aimByLetters_35 : decode cX1_aimByLetters 35 = .ok (.getfield 82, 3) := by decide +kernel
theorem dX1_aimByLetters_38 : decode cX1_aimByLetters 38 = .ok (.ifCond .le 7, 3) := by decide +kernel
theorem dX1_aimByLetters_41 : decode cX1_aimByLetters 41 = .ok (.iconst 1, 1) := by decide +kernel
theorem dX1_aimByLetters_42 : decode cX1_aimByLetters 42 = .ok (.goto 4, 3) := by decide +kernel
theorem dX1_aimByLetters_45 : decode cX1_aimByLetters 45 = .ok (.iconst 0, 1) := by decide +kernel
theorem dX1_aimByLetters_46 : decode cX1_aimByLetters 46 = .ok (.ireturn, 1) := by decide +kernel
theorem dX1_perform_0 : decode cX1_perform 0 = .ok (.aload_n 0, 1) := by decide +kernel
theorem dX1_perform_1 : decode cX1_perform 1 = .ok (.getfield 31, 3) := by decide +kernel
theorem dX1_perform_4 : decode cX1_perform 4 = .ok (.getfield 224, 3) := by decide +kernel
theorem dX1_perform_7 : decode cX1_perform 7 = .ok (.lookupswitch 307 #[(0, 121), (65, 262), (73, 256), (80, 207), (97, 232), (99, 156), (100, 134), (105, 220), (109, 295), (112, 182), (114, 170), (117, 274), (121, 139), (126, 176)], 121) := by decide +kernel
theorem dX1_perform_128 : decode cX1_perform 128 = .ok (.aload_n 0, 1) := by decide +kernel
theorem dX1_perform_129 : decode cX1_perform 129 = .ok (.getfield 12, 3) := by decide +kernel
theorem dX1_perform_132 : decode cX1_perform 132 = .ok (.aload_n 0, 1) := by decide +kernel
theorem dX1_perform_133 : decode cX1_perform 133 = .ok (.getfield 187, 3) := by decide +kernel
theorem dX1_perform_136 : decode cX1_perform 136 = .ok (.invokevirtual 227, 3) := by decide +kernel
theorem dX1_perform_139 : decode cX1_perform 139 = .ok (.iconst 1, 1) := by decide +kernel
theorem dX1_perform_140 : decode cX1_perform 140 = .ok (.ireturn, 1) := by decide +kernel
theorem dX1_perform_141 : decode cX1_perform 141 = .ok (.aload_n 0, 1) := by decide +kernel
theorem dX1_perform_142 : decode cX1_perform 142 = .ok (.invokevirtual 230, 3) := by decide +kernel
theorem dX1_perform_145 : decode cX1_perform 145 = .ok (.ireturn, 1) := by decide +kernel
theorem dX1_perform_146 : decode cX1_perform 146 = .ok (.aload_n 0, 1) := by decide +kernel
theorem dX1_perform_147 : decode cX1_perform 147 = .ok (.invokevirtual 233, 3) := by decide +kernel
theorem dX1_perform_150 : decode cX1_perform 150 = .ok (.aload_n 0, 1) := by decide +kernel
theorem dX1_perform_151 : decode cX1_perform 151 = .ok (.getfield 12, 3) := by decide +kernel
theorem dX1_perform_154 : decode cX1_perform 154 = .ok (.aload_n 0, 1) := by decide +kernel
theorem dX1_perform_155 : decode cX1_perform 155 = .ok (.getfield 178, 3) := by decide +kernel
theorem dX1_perform_158 : decode cX1_perform 158 = .ok (.invokevirtual 227, 3) := by decide +kernel
theorem dX1_perform_161 : decode cX1_perform 161 = .ok (.iconst 1, 1) := by decide +kernel
theorem dX1_perform_162 : decode cX1_perform 162 = .ok (.ireturn, 1) := by decide +kernel
theorem dX1_perform_163 : decode cX1_perform 163 = .ok (.aload_n 0, 1) := by decide +kernel
theorem dX1_perform_164 : decode cX1_perform 164 = .ok (.invokevirtual 230, 3) := by decide +kernel
theorem dX1_perform_167 : decode cX1_perform 167 = .ok (.pop, 1) := by decide +kernel
theorem dX1_perform_168 : decode cX1_perform 168 = .ok (.aload_n 0, 1) := by decide +kernel
theorem dX1_perform_169 : decode cX1_perform 169 = .ok (.aload_n 0, 1) := by decide +kernel
theorem dX1_perform_170 : decode cX1_perform 170 = .ok (.getfield 178, 3) := by decide +kernel
theorem dX1_perform_173 : decode cX1_perform 173 = .ok (.invokevirtual 236, 3) := by decide +kernel
theorem dX1_perform_176 : decode cX1_perform 176 = .ok (.ireturn, 1) := by decide +kernel
theorem dX1_perform_177 : decode cX1_perform 177 = .ok (.aload_n 0, 1) := by decide +kernel
theorem dX1_perform_178 : decode cX1_perform 178 = .ok (.iload_n 1, 1) := by decide +kernel
theorem dX1_perform_179 : decode cX1_perform 179 = .ok (.invokevirtual 239, 3) := by decide +kernel
theorem dX1_perform_182 : decode cX1_perform 182 = .ok (.ireturn, 1) := by decide +kernel
theorem dX1_perform_183 : decode cX1_perform 183 = .ok (.aload_n 0, 1) := by decide +kernel
theorem dX1_perform_184 : decode cX1_perform 184 = .ok (.iload_n 1, 1) := by decide +kernel
theorem dX1_perform_185 : decode cX1_perform 185 = .ok (.invokevirtual 242, 3) := by decide +kernel
theorem dX1_perform_188 : decode cX1_perform 188 = .ok (.ireturn, 1) := by decide +kernel
theorem dX1_perform_189 : decode cX1_perform 189 = .ok (.aload_n 0, 1) := by decide +kernel
theorem dX1_perform_190 : decode cX1_perform 190 = .ok (.iload_n 1, 1) := by decide +kernel
theorem dX1_perform_191 : decode cX1_perform 191 = .ok (.aload_n 0, 1) := by decide +kernel
theorem dX1_perform_192 : decode cX1_perform 192 = .ok (.getfield 12, 3) := by decide +kernel
theorem dX1_perform_195 : decode cX1_perform 195 = .ok (.getfield 85, 3) := by decide +kernel
theorem dX1_perform_198 : decode cX1_perform 198 = .ok (.iconst 1, 1) := by decide +kernel
theorem dX1_perform_199 : decode cX1_perform 199 = .ok (.iadd, 1) := by decide +kernel
theorem dX1_perform_200 : decode cX1_perform 200 = .ok (.aload_n 0, 1) := by decide +kernel
theorem dX1_perform_201 : decode cX1_perform 201 = .ok (.getfield 12, 3) := by decide +kernel
theorem dX1_perform_204 : decode cX1_perform 204 = .ok (.getfield 82, 3) := by decide +kernel
theorem dX1_perform_207 : decode cX1_perform 207 = .ok (.invokestatic 200, 3) := by decide +kernel
theorem dX1_perform_210 : decode cX1_perform 210 = .ok (.invokevirtual 245, 3) := by decide +kernel
theorem dX1_perform_213 : decode cX1_perform 213 = .ok (.ireturn, 1) := by decide +kernel
theorem dX1_perform_214 : decode cX1_perform 214 = .ok (.aload_n 0, 1) := by decide +kernel
theorem dX1_perform_215 : decode cX1_perform 215 = .ok (.iload_n 1, 1) := by decide +kernel
theorem dX1_perform_216 : decode cX1_perform 216 = .ok (.aload_n 0, 1) := by decide +kernel
theorem dX1_perform_217 : decode cX1_perform 217 = .ok (.getfield 12, 3) := by decide +kernel
theorem dX1_perform_220 : decode cX1_perform 220 = .ok (.getfield 85, 3) := by decide +kernel
theorem dX1_perform_223 : decode cX1_perform 223 = .ok (.invokevirtual 245, 3) := by decide +kernel
theorem dX1_perform_226 : decode cX1_perform 226 = .ok (.ireturn, 1) := by decide +kernel
theorem dX1_perform_227 : decode cX1_perform 227 = .ok (.aload_n 0, 1) := by decide +kernel
theorem dX1_perform_228 : decode cX1_perform 228 = .ok (.aload_n 0, 1) := by decide +kernel
theorem dX1_perform_229 : decode cX1_perform 229 = .ok (.getfield 12, 3) := by decide +kernel
theorem dX1_perform_232 : decode cX1_perform 232 = .ok (.getfield 85, 3) := by decide +kernel
theorem dX1_perform_235 : decode cX1_perform 235 = .ok (.invokevirtual 236, 3) := by decide +kernel
theorem dX1_perform_238 : decode cX1_perform 238 = .ok (.ireturn, 1) := by decide +kernel
theorem dX1_perform_239 : decode cX1_perform 239 = .ok (.aload_n 0, 1) := by decide +kernel
theorem dX1_perform_240 : decode cX1_perform 240 = .ok (.aload_n 0, 1) := by decide +kernel
theorem dX1_perform_241 : decode cX1_perform 241 = .ok (.getfield 12, 3) := by decide +kernel
theorem dX1_perform_244 : decode cX1_perform 244 = .ok (.getfield 85, 3) := by decide +kernel
theorem dX1_perform_247 : decode cX1_perform 247 = .ok (.iconst 1, 1) := by decide +kernel
theorem dX1_perform_248 : decode cX1_perform 248 = .ok (.iadd, 1) := by decide +kernel
theorem dX1_perform_249 : decode cX1_perform 249 = .ok (.aload_n 0, 1) := by decide +kernel
theorem dX1_perform_250 : decode cX1_perform 250 = .ok (.getfield 12, 3) := by decide +kernel
theorem dX1_perform_253 : decode cX1_perform 253 = .ok (.getfield 82, 3) := by decide +kernel
theorem dX1_perform_256 : decode cX1_perform 256 = .ok (.invokestatic 200, 3) := by decide +kernel
theorem dX1_perform_259 : decode cX1_perform 259 = .ok (.invokevirtual 236, 3) := by decide +kernel
theorem dX1_perform_262 : decode cX1_perform 262 = .ok (.ireturn, 1) := by decide +kernel
theorem dX1_perform_263 : decode cX1_perform 263 = .ok (.aload_n 0, 1) := by decide +kernel
theorem dX1_perform_264 : decode cX1_perform 264 = .ok (.iconst 0, 1) := by decide +kernel
theorem dX1_perform_265 : decode cX1_perform 265 = .ok (.invokevirtual 236, 3) := by decide +kernel
theorem dX1_perform_268 : decode cX1_perform 268 = .ok (.ireturn, 1) := by decide +kernel
theorem dX1_perform_269 : decode cX1_perform 269 = .ok (.aload_n 0, 1) := by decide +kernel
theorem dX1_perform_270 : decode cX1_perform 270 = .ok (.aload_n 0, 1) := by decide +kernel
theorem dX1_perform_271 : decode cX1_perform 271 = .ok (.getfield 12, 3) := by decide +kernel
theorem dX1_perform_274 : decode cX1_perform 274 = .ok (.getfield 82, 3) := by decide +kernel
theorem dX1_perform_277 : decode cX1_perform 277 = .ok (.invokevirtual 236, 3) := by decide +kernel
theorem dX1_perform_280 : decode cX1_perform 280 = .ok (.ireturn, 1) := by decide +kernel
theorem dX1_perform_281 : decode cX1_perform 281 = .ok (.aload_n 0, 1) := by decide +kernel
theorem dX1_perform_282 : decode cX1_perform 282 = .ok (.getfield 24, 3) := by decide +kernel
theorem dX1_perform_285 : decode cX1_perform 285 = .ok (.aload_n 0, 1) := by decide +kernel
theorem dX1_perform_286 : decode cX1_perform 286 = .ok (.getfield 12, 3) := by decide +kernel
theorem dX1_perform_289 : decode cX1_perform 289 = .ok (.iload_n 1, 1) := by decide +kernel
theorem dX1_perform_290 : decode cX1_perform 290 = .ok (.invokevirtual 248, 3) := by decide +kernel
theorem dX1_perform_293 : decode cX1_perform 293 = .ok (.ifCond .eq 7, 3) := by decide +kernel
theorem dX1_perform_296 : decode cX1_perform 296 = .ok (.iconst 1, 1) := by decide +kernel
theorem dX1_perform_297 : decode cX1_perform 297 = .ok (.goto 4, 3) := by decide +kernel
theorem dX1_perform_300 : decode cX1_perform 300 = .ok (.iconst 0, 1) := by decide +kernel
theorem dX1_perform_301 : decode cX1_perform 301 = .ok (.ireturn, 1) := by decide +kernel
theorem dX1_perform_302 : decode cX1_perform 302 = .ok (.aload_n 0, 1) := by decide +kernel
theorem dX1_perform_303 : decode cX1_perform 303 = .ok (.aload_n 0, 1) := by decide +kernel
theorem dX1_perform_304 : decode cX1_perform 304 = .ok (.getfield 31, 3) := by decide +kernel
theorem dX1_perform_307 : decode cX1_perform 307 = .ok (.getfield 161, 3) := by decide +kernel
theorem dX1_perform_310 : decode cX1_perform 310 = .ok (.invokevirtual 252, 3) := by decide +kernel
theorem dX1_perform_313 : decode cX1_perform 313 = .ok (.ireturn, 1) := by decide +kernel
theorem dX1_perform_314 : decode cX1_perform 314 = .ok (.iconst 0, 1) := by decide +kernel
theorem dX1_perform_315 : decode cX1_perform 315 = .ok (.ireturn, 1) := by decide +kernel
theorem dX1_storeRange_0 : decode cX1_storeRange 0 = .ok (.aload_n 0, 1) := by decide +kernel
theorem dX1_storeRange_1 : decode cX1_storeRange 1 = .ok (.getfield 178, 3) := by decide +kernel
theorem dX1_storeRange_4 : decode cX1_storeRange 4 = .ok (.aload_n 0, 1) := by decide +kernel
theorem dX1_storeRange_5 : decode cX1_storeRange 5 = .ok (.getfield 181, 3) := by decide +kernel
theorem dX1_storeRange_8 : decode cX1_storeRange 8 = .ok (.if_icmp .ge 39, 3) := by decide +kernel
theorem dX1_storeRange_11 : decode cX1_storeRange 11 = .ok (.aload_n 0, 1) := by decide +kernel
theorem dX1_storeRange_12 : decode cX1_storeRange 12 = .ok (.aload_n 0, 1) := by decide +kernel
theorem dX1_storeRange_13 : decode cX1_storeRange 13 = .ok (.getfield 181, 3) := by decide +kernel
theorem dX1_storeRange_16 : decode cX1_storeRange 16 = .ok (.aload_n 0, 1) := by decide +kernel
theorem dX1_storeRange_17 : decode cX1_storeRange 17 = .ok (.getfield 178, 3) := by decide +kernel
theorem dX1_storeRange_20 : decode cX1_storeRange 20 = .ok (.isub, 1) := by decide +kernel
theorem dX1_storeRange_21 : decode cX1_storeRange 21 = .ok (.putfield 71, 3) := by decide +kernel
theorem dX1_storeRange_24 : decode cX1_storeRange 24 = .ok (.aload_n 0, 1) := by decide +kernel
theorem dX1_storeRange_25 : decode cX1_storeRange 25 = .ok (.getfield 12, 3) := by decide +kernel
theorem dX1_storeRange_28 : decode cX1_storeRange 28 = .ok (.getfield 79, 3) := by decide +kernel
theorem dX1_storeRange_31 : decode cX1_storeRange 31 = .ok (.aload_n 0, 1) := by decide +kernel
theorem dX1_storeRange_32 : decode cX1_storeRange 32 = .ok (.getfield 178, 3) := by decide +kernel
theorem dX1_storeRange_35 : decode cX1_storeRange 35 = .ok (.aload_n 0, 1) := by decide +kernel
theorem dX1_storeRange_36 : decode cX1_storeRange 36 = .ok (.getfield 42, 3) := by decide +kernel
theorem dX1_storeRange_39 : decode cX1_storeRange 39 = .ok (.iconst 0, 1) := by decide +kernel
theorem dX1_storeRange_40 : decode cX1_storeRange 40 = .ok (.aload_n 0, 1) := by decide +kernel
theorem dX1_storeRange_41 : decode cX1_storeRange 41 = .ok (.getfield 71, 3) := by decide +kernel
theorem dX1_storeRange_44 : decode cX1_storeRange 44 = .ok (.invokestatic 65, 3) := by decide +kernel
theorem dX1_storeRange_47 : decode cX1_storeRange 47 = .ok (.return_, 1) := by decide +kernel
theorem dX1_cutRange_0 : decode cX1_cutRange 0 = .ok (.aload_n 0, 1) := by decide +kernel
theorem dX1_cutRange_1 : decode cX1_cutRange 1 = .ok (.invokevirtual 233, 3) := by decide +kernel
theorem dX1_cutRange_4 : decode cX1_cutRange 4 = .ok (.aload_n 0, 1) := by decide +kernel
theorem dX1_cutRange_5 : decode cX1_cutRange 5 = .ok (.getfield 178, 3) := by decide +kernel
theorem dX1_cutRange_8 : decode cX1_cutRange 8 = .ok (.aload_n 0, 1) := by decide +kernel
theorem dX1_cutRange_9 : decode cX1_cutRange 9 = .ok (.getfield 181, 3) := by decide +kernel
theorem dX1_cutRange_12 : decode cX1_cutRange 12 = .ok (.if_icmp .ge 7, 3) := by decide +kernel
theorem dX1_cutRange_15 : decode cX1_cutRange 15 = .ok (.iconst 1, 1) := by decide +kernel
theorem dX1_cutRange_16 : decode cX1_cutRange 16 = .ok (.goto 4, 3) := by decide +kernel
theorem dX1_cutRange_19 : decode cX1_cutRange 19 = .ok (.iconst 0, 1) := by decide +kernel
theorem dX1_cutRange_20 : decode cX1_cutRange 20 = .ok (.istore_n 1, 1) := by decide +kernel
theorem dX1_cutRange_21 : decode cX1_cutRange 21 = .ok (.iload_n 1, 1) := by decide +kernel
theorem dX1_cutRange_22 : decode cX1_cutRange 22 = .ok (.ifCond .eq 18, 3) := by decide +kernel
theorem dX1_cutRange_25 : decode cX1_cutRange 25 = .ok (.aload_n 0, 1) := by decide +kernel
theorem dX1_cutRange_26 : decode cX1_cutRange 26 = .ok (.getfield 12, 3) := by decide +kernel
theorem dX1_cutRange_29 : decode cX1_cutRange 29 = .ok (.aload_n 0, 1) := by decide +kernel
theorem dX1_cutRange_30 : decode cX1_cutRange 30 = .ok (.getfield 178, 3) := by decide +kernel
theorem dX1_cutRange_33 : decode cX1_cutRange 33 = .ok (.aload_n 0, 1) := by decide +kernel
theorem dX1_cutRange_34 : decode cX1_cutRange 34 = .ok (.getfield 181, 3) := by decide +kernel
theorem dX1_cutRange_37 : decode cX1_cutRange 37 = .ok (.invokevirtual 255, 3) := by decide +kernel
theorem dX1_cutRange_40 : decode cX1_cutRange 40 = .ok (.aload_n 0, 1) := by decide +kernel
theorem dX1_cutRange_41 : decode cX1_cutRange 41 = .ok (.getfield 12, 3) := by decide +kernel
theorem dX1_cutRange_44 : decode cX1_cutRange 44 = .ok (.aload_n 0, 1) := by decide +kernel
theorem dX1_cutRange_45 : decode cX1_cutRange 45 = .ok (.getfield 178, 3) := by decide +kernel
theorem dX1_cutRange_48 : decode cX1_cutRange 48 = .ok (.invokevirtual 227, 3) := by decide +kernel
theorem dX1_cutRange_51 : decode cX1_cutRange 51 = .ok (.iload_n 1, 1) := by decide +kernel
theorem dX1_cutRange_52 : decode cX1_cutRange 52 = .ok (.ifCond .eq 7, 3) := by decide +kernel
theorem dX1_cutRange_55 : decode cX1_cutRange 55 = .ok (.iconst 2, 1) := by decide +kernel
theorem dX1_cutRange_56 : decode cX1_cutRange 56 = .ok (.goto 4, 3) := by decide +kernel
theorem dX1_cutRange_59 : decode cX1_cutRange 59 = .ok (.iconst 1, 1) := by decide +kernel
theorem dX1_cutRange_60 : decode cX1_cutRange 60 = .ok (.ireturn, 1) := by decide +kernel
theorem dX1_overwrite_0 : decode cX1_overwrite 0 = .ok (.aload_n 0, 1) := by decide +kernel
theorem dX1_overwrite_1 : decode cX1_overwrite 1 = .ok (.getfield 12, 3) := by decide +kernel
theorem dX1_overwrite_4 : decode cX1_overwrite 4 = .ok (.getfield 85, 3) := by decide +kernel
theorem dX1_overwrite_7 : decode cX1_overwrite 7 = .ok (.iload_n 1, 1) := by decide +kernel
theorem dX1_overwrite_8 : decode cX1_overwrite 8 = .ok (.iadd, 1) := by decide +kernel
theorem dX1_overwrite_9 : decode cX1_overwrite 9 = .ok (.istore_n 2, 1) := by decide +kernel
theorem dX1_overwrite_10 : decode cX1_overwrite 10 = .ok (.iload_n 2, 1) := by decide +kernel
theorem dX1_overwrite_11 : decode cX1_overwrite 11 = .ok (.aload_n 0, 1) := by decide +kernel
theorem dX1_overwrite_12 : decode cX1_overwrite 12 = .ok (.getfield 12, 3) := by decide +kernel
theorem dX1_overwrite_15 : decode cX1_overwrite 15 = .ok (.getfield 82, 3) := by decide +kernel
theorem dX1_overwrite_18 : decode cX1_overwrite 18 = .ok (.if_icmp .le 5, 3) := by decide +kernel
theorem dX1_overwrite_21 : decode cX1_overwrite 21 = .ok (.iconst 0, 1) := by decide +kernel
theorem dX1_overwrite_22 : decode cX1_overwrite 22 = .ok (.ireturn, 1) := by decide +kernel
theorem dX1_overwrite_23 : decode cX1_overwrite 23 = .ok (.aload_n 0, 1) := by decide +kernel
theorem dX1_overwrite_24 : decode cX1_overwrite 24 = .ok (.getfield 12, 3) := by decide +kernel
theorem dX1_overwrite_27 : decode cX1_overwrite 27 = .ok (.getfield 85, 3) := by decide +kernel
theorem dX1_overwrite_30 : decode cX1_overwrite 30 = .ok (.istore_n 3, 1) := by decide +kernel
theorem dX1_overwrite_31 : decode cX1_overwrite 31 = .ok (.iload_n 3, 1) := by decide +kernel
theorem dX1_overwrite_32 : decode cX1_overwrite 32 = .ok (.iload_n 2, 1) := by decide +kernel
theorem dX1_overwrite_33 : decode cX1_overwrite 33 = .ok (.if_icmp .ge 25, 3) := by decide +kernel
theorem dX1_overwrite_36 : decode cX1_overwrite 36 = .ok (.aload_n 0, 1) := by decide +kernel
theorem dX1_overwrite_37 : decode cX1_overwrite 37 = .ok (.getfield 12, 3) := by decide +kernel
theorem dX1_overwrite_40 : decode cX1_overwrite 40 = .ok (.getfield 79, 3) := by decide +kernel
theorem dX1_overwrite_43 : decode cX1_overwrite 43 = .ok (.iload_n 3, 1) := by decide +kernel
theorem dX1_overwrite_44 : decode cX1_overwrite 44 = .ok (.aload_n 0, 1) := by decide +kernel
theorem dX1_overwrite_45 : decode cX1_overwrite 45 = .ok (.getfield 31, 3) := by decide +kernel
theorem dX1_overwrite_48 : decode cX1_overwrite 48 = .ok (.getfield 161, 3) := by decide +kernel
theorem dX1_overwrite_51 : decode cX1_overwrite 51 = .ok (.iastore, 1) := by decide +kernel
theorem dX1_overwrite_52 : decode cX1_overwrite 52 = .ok (.iinc 3 1, 3) := by decide +kernel
theorem dX1_overwrite_55 : decode cX1_overwrite 55 = .ok (.goto (-24), 3) := by decide +kernel
theorem dX1_overwrite_58 : decode cX1_overwrite 58 = .ok (.aload_n 0, 1) := by decide +kernel
theorem dX1_overwrite_59 : decode cX1_overwrite 59 = .ok (.getfield 12, 3) := by decide +kernel
theorem dX1_overwrite_62 : decode cX1_overwrite 62 = .ok (.iload_n 2, 1) := by decide +kernel
theorem dX1_overwrite_63 : decode cX1_overwrite 63 = .ok (.iconst 1, 1) := by decide +kernel
theorem dX1_overwrite_64 : decode cX1_overwrite 64 = .ok (.isub, 1) := by decide +kernel
theorem dX1_overwrite_65 : decode cX1_overwrite 65 = .ok (.putfield 85, 3) := by decide +kernel
theorem dX1_overwrite_68 : decode cX1_overwrite 68 = .ok (.iconst 2, 1) := by decide +kernel
theorem dX1_overwrite_69 : decode cX1_overwrite 69 = .ok (.ireturn, 1) := by decide +kernel
theorem dX1_swapCases_0 : decode cX1_swapCases 0 = .ok (.aload_n 0, 1) := by decide +kernel
theorem dX1_swapCases_1 : decode cX1_swapCases 1 = .ok (.getfield 12, 3) := by decide +kernel
theorem dX1_swapCases_4 : decode cX1_swapCases 4 = .ok (.getfield 82, 3) := by decide +kernel
theorem dX1_swapCases_7 : decode cX1_swapCases 7 = .ok (.ifCond .ne 5, 3) := by decide +kernel
theorem dX1_swapCases_10 : decode cX1_swapCases 10 = .ok (.iconst 0, 1) := by decide +kernel
theorem dX1_swapCases_11 : decode cX1_swapCases 11 = .ok (.ireturn, 1) := by decide +kernel
theorem dX1_swapCases_12 : decode cX1_swapCases 12 = .ok (.aload_n 0, 1) := by decide +kernel
theorem dX1_swapCases_13 : decode cX1_swapCases 13 = .ok (.getfield 12, 3) := by decide +kernel
theorem dX1_swapCases_16 : decode cX1_swapCases 16 = .ok (.getfield 82, 3) := by decide +kernel
theorem dX1_swapCases_19 : decode cX1_swapCases 19 = .ok (.aload_n 0, 1) := by decide +kernel
theorem dX1_swapCases_20 : decode cX1_swapCases 20 = .ok (.getfield 12, 3) := by decide +kernel
theorem dX1_swapCases_23 : decode cX1_swapCases 23 = .ok (.getfield 85, 3) := by decide +kernel
theorem dX1_swapCases_26 : decode cX1_swapCases 26 = .ok (.iload_n 1, 1) := by decide +kernel
theorem dX1_swapCases_27 : decode cX1_swapCases 27 = .ok (.iadd, 1) := by decide +kernel
theorem dX1_swapCases_28 : decode cX1_swapCases 28 = .ok (.invokestatic 200, 3) := by decide +kernel
theorem dX1_swapCases_31 : decode cX1_swapCases 31 = .ok (.istore_n 2, 1) := by decide +kernel
theorem dX1_swapCases_32 : decode cX1_swapCases 32 = .ok (.aload_n 0, 1) := by decide +kernel
theorem dX1_swapCases_33 : decode cX1_swapCases 33 = .ok (.getfield 12, 3) := by decide +kernel
theorem dX1_swapCases_36 : decode cX1_swapCases 36 = .ok (.getfield 85, 3) := by decide +kernel
theorem dX1_swapCases_39 : decode cX1_swapCases 39 = .ok (.istore_n 3, 1) := by decide +kernel
theorem dX1_swapCases_40 : decode cX1_swapCases 40 = .ok (.iload_n 3, 1) := by decide +kernel
theorem dX1_swapCases_41 : decode cX1_swapCases 41 = .ok (.iload_n 2, 1) := by decide +kernel
theorem dX1_swapCases_42 : decode cX1_swapCases 42 = .ok (.if_icmp .ge 17, 3) := by decide +kernel
theorem dX1_swapCases_45 : decode cX1_swapCases 45 = .ok (.aload_n 0, 1) := by decide +kernel
theorem dX1_swapCases_46 : decode cX1_swapCases 46 = .ok (.getfield 12, 3) := by decide +kernel
theorem dX1_swapCases_49 : decode cX1_swapCases 49 = .ok (.iload_n 3, 1) := by decide +kernel
theorem dX1_swapCases_50 : decode cX1_swapCases 50 = .ok (.invokevirtual 258, 3) := by decide +kernel
theorem dX1_swapCases_53 : decode cX1_swapCases 53 = .ok (.iinc 3 1, 3) := by decide +kernel
theorem dX1_swapCases_56 : decode cX1_swapCases 56 = .ok (.goto (-16), 3) := by decide +kernel
theorem dX1_swapCases_59 : decode cX1_swapCases 59 = .ok (.aload_n 0, 1) := by decide +kernel
theorem dX1_swapCases_60 : decode cX1_swapCases 60 = .ok (.getfield 12, 3) := by decide +kernel
theorem dX1_swapCases_63 : decode cX1_swapCases 63 = .ok (.iload_n 2, 1) := by decide +kernel
theorem dX1_swapCases_64 : decode cX1_swapCases 64 = .ok (.invokevirtual 227, 3) := by decide +kernel
theorem dX1_swapCases_67 : decode cX1_swapCases 67 = .ok (.iconst 2, 1) := by decide +kernel
theorem dX1_swapCases_68 : decode cX1_swapCases 68 = .ok (.ireturn, 1) := by decide +kernel
theorem dX1_putIn_0 : decode cX1_putIn 0 = .ok (.iload_n 1, 1) := by decide +kernel
theorem dX1_putIn_1 : decode cX1_putIn 1 = .ok (.aload_n 0, 1) := by decide +kernel
theorem dX1_putIn_2 : decode cX1_putIn 2 = .ok (.getfield 71, 3) := by decide +kernel
theorem dX1_putIn_5 : decode cX1_putIn 5 = .ok (.imul, 1) := by decide +kernel
theorem dX1_putIn_6 : decode cX1_putIn 6 = .ok (.istore_n 3, 1) := by decide +kernel
theorem dX1_putIn_7 : decode cX1_putIn 7 = .ok (.iload_n 3, 1) := by decide +kernel
theorem dX1_putIn_8 : decode cX1_putIn 8 = .ok (.ifCond .eq 17, 3) := by decide +kernel
theorem dX1_putIn_11 : decode cX1_putIn 11 = .ok (.iload_n 3, 1) := by decide +kernel
theorem dX1_putIn_12 : decode cX1_putIn 12 = .ok (.bipush 60, 2) := by decide +kernel
theorem dX1_putIn_14 : decode cX1_putIn 14 = .ok (.aload_n 0, 1) := by decide +kernel
theorem dX1_putIn_15 : decode cX1_putIn 15 = .ok (.getfield 12, 3) := by decide +kernel
theorem dX1_putIn_18 : decode cX1_putIn 18 = .ok (.getfield 82, 3) := by decide +kernel
theorem dX1_putIn_21 : decode cX1_putIn 21 = .ok (.isub, 1) := by decide +kernel
theorem dX1_putIn_22 : decode cX1_putIn 22 = .ok (.if_icmp .le 5, 3) := by decide +kernel
theorem dX1_putIn_25 : decode cX1_putIn 25 = .ok (.iconst 0, 1) := by decide +kernel
theorem dX1_putIn_26 : decode cX1_putIn 26 = .ok (.ireturn, 1) := by decide +kernel
theorem dX1_putIn_27 : decode cX1_putIn 27 = .ok (.aload_n 0, 1) := by decide +kernel
theorem dX1_putIn_28 : decode cX1_putIn 28 = .ok (.getfield 12, 3) := by decide +kernel
theorem dX1_putIn_31 : decode cX1_putIn 31 = .ok (.iload_n 2, 1) := by decide +kernel
theorem dX1_putIn_32 : decode cX1_putIn 32 = .ok (.iload_n 3, 1) := by decide +kernel
theorem dX1_putIn_33 : decode cX1_putIn 33 = .ok (.invokevirtual 148, 3) := by decide +kernel
theorem dX1_putIn_36 : decode cX1_putIn 36 = .ok (.iconst 0, 1) := by decide +kernel
theorem dX1_putIn_37 : decode cX1_putIn 37 = .ok (.istore 4, 2) := by decide +kernel
theorem dX1_putIn_39 : decode cX1_putIn 39 = .ok (.iload 4, 2) := by decide +kernel
theorem dX1_putIn_41 : decode cX1_putIn 41 = .ok (.iload_n 1, 1) := by decide +kernel
theorem dX1_putIn_42 : decode cX1_putIn 42 = .ok (.if_icmp .ge 37, 3) := by decide +kernel
theorem dX1_putIn_45 : decode cX1_putIn 45 = .ok (.aload_n 0, 1) := by decide +kernel
theorem dX1_putIn_46 : decode cX1_putIn 46 = .ok (.getfield 42, 3) := by decide +kernel
theorem dX1_putIn_49 : decode cX1_putIn 49 = .ok (.iconst 0, 1) := by decide +kernel
theorem dX1_putIn_50 : decode cX1_putIn 50 = .ok (.aload_n 0, 1) := by decide +kernel
theorem dX1_putIn_51 : decode cX1_putIn 51 = .ok (.getfield 12, 3) := by decide +kernel
theorem dX1_putIn_54 : decode cX1_putIn 54 = .ok (.getfield 79, 3) := by decide +kernel
theorem dX1_putIn_57 : decode cX1_putIn 57 = .ok (.iload_n 2, 1) := by decide +kernel
theorem dX1_putIn_58 : decode cX1_putIn 58 = .ok (.iload 4, 2) := by decide +kernel
theorem dX1_putIn_60 : decode cX1_putIn 60 = .ok (.aload_n 0, 1) := by decide +kernel
theorem dX1_putIn_61 : decode cX1_putIn 61 = .ok (.getfield 71, 3) := by decide +kernel
theorem dX1_putIn_64 : decode cX1_putIn 64 = .ok (.imul, 1) := by decide +kernel
theorem dX1_putIn_65 : decode cX1_putIn 65 = .ok (.iadd, 1) := by decide +kernel
theorem dX1_putIn_66 : decode cX1_putIn 66 = .ok (.aload_n 0, 1) := by decide +kernel
theorem dX1_putIn_67 : decode cX1_putIn 67 = .ok (.getfield 71, 3) := by decide +kernel
theorem dX1_putIn_70 : decode cX1_putIn 70 = .ok (.invokestatic 65, 3) := by decide +kernel
theorem dX1_putIn_73 : decode cX1_putIn 73 = .ok (.iinc 4 1, 3) := by decide +kernel
theorem dX1_putIn_76 : decode cX1_putIn 76 = .ok (.goto (-37), 3) := by decide +kernel
theorem dX1_putIn_79 : decode cX1_putIn 79 = .ok (.aload_n 0, 1) := by decide +kernel
theorem dX1_putIn_80 : decode cX1_putIn 80 = .ok (.getfield 12, 3) := by decide +kernel
theorem dX1_putIn_83 : decode cX1_putIn 83 = .ok (.iload_n 2, 1) := by decide +kernel
theorem dX1_putIn_84 : decode cX1_putIn 84 = .ok (.iload_n 3, 1) := by decide +kernel
theorem dX1_putIn_85 : decode cX1_putIn 85 = .ok (.iadd, 1) := by decide +kernel
theorem dX1_putIn_86 : decode cX1_putIn 86 = .ok (.iconst 1, 1) := by decide +kernel
theorem dX1_putIn_87 : decode cX1_putIn 87 = .ok (.isub, 1) := by decide +kernel
theorem dX1_putIn_88 : decode cX1_putIn 88 = .ok (.putfield 85, 3) := by decide +kernel
theorem dX1_putIn_91 : decode cX1_putIn 91 = .ok (.iconst 2, 1) := by decide +kernel
theorem dX1_putIn_92 : decode cX1_putIn 92 = .ok (.ireturn, 1) := by decide +kernel
theorem dX1_typeAt_0 : decode cX1_typeAt 0 = .ok (.aload_n 0, 1) := by decide +kernel
theorem dX1_typeAt_1 : decode cX1_typeAt 1 = .ok (.getfield 12, 3) := by decide +kernel
theorem dX1_typeAt_4 : decode cX1_typeAt 4 = .ok (.iload_n 1, 1) := by decide +kernel
theorem dX1_typeAt_5 : decode cX1_typeAt 5 = .ok (.putfield 85, 3) := by decide +kernel
theorem dX1_typeAt_8 : decode cX1_typeAt 8 = .ok (.iconst 3, 1) := by decide +kernel
theorem dX1_typeAt_9 : decode cX1_typeAt 9 = .ok (.ireturn, 1) := by decide +kernel
theorem dX1_setMark_0 : decode cX1_setMark 0 = .ok (.iload_n 1, 1) := by decide +kernel
theorem dX1_setMark_1 : decode cX1_setMark 1 = .ok (.ifCond .lt 8, 3) := by decide +kernel
theorem dX1_setMark_4 : decode cX1_setMark 4 = .ok (.iload_n 1, 1) := by decide +kernel
theorem dX1_setMark_5 : decode cX1_setMark 5 = .ok (.iconst 4, 1) := by decide +kernel
theorem dX1_setMark_6 : decode cX1_setMark 6 = .ok (.if_icmp .lt 5, 3) := by decide +kernel
theorem dX1_setMark_9 : decode cX1_setMark 9 = .ok (.iconst 0, 1) := by decide +kernel
theorem dX1_setMark_10 : decode cX1_setMark 10 = .ok (.ireturn, 1) := by decide +kernel
theorem dX1_setMark_11 : decode cX1_setMark 11 = .ok (.aload_n 0, 1) := by decide +kernel
theorem dX1_setMark_12 : decode cX1_setMark 12 = .ok (.getfield 46, 3) := by decide +kernel
theorem dX1_setMark_15 : decode cX1_setMark 15 = .ok (.iload_n 1, 1) := by decide +kernel
theorem dX1_setMark_16 : decode cX1_setMark 16 = .ok (.aload_n 0, 1) := by decide +kernel
theorem dX1_setMark_17 : decode cX1_setMark 17 = .ok (.getfield 12, 3) := by decide +kernel
theorem dX1_setMark_20 : decode cX1_setMark 20 = .ok (.getfield 85, 3) := by decide +kernel
theorem dX1_setMark_23 : decode cX1_setMark 23 = .ok (.iastore, 1) := by decide +kernel
theorem dX1_setMark_24 : decode cX1_setMark 24 = .ok (.iconst 1, 1) := by decide +kernel
theorem dX1_setMark_25 : decode cX1_setMark 25 = .ok (.ireturn, 1) := by decide +kernel
theorem dX2_init_0 : decode cX2_init 0 = .ok (.aload_n 0, 1) := by decide +kernel
theorem dX2_init_1 : decode cX2_init 1 = .ok (.invokespecial 1, 3) := by decide +kernel
theorem dX2_init_4 : decode cX2_init 4 = .ok (.aload_n 0, 1) := by decide +kernel
theorem dX2_init_5 : decode cX2_init 5 = .ok (.bipush 30, 2) := by decide +kernel
theorem dX2_init_7 : decode cX2_init 7 = .ok (.newarray .int, 2) := by decide +kernel
theorem dX2_init_9 : decode cX2_init 9 = .ok (.putfield 9, 3) := by decide +kernel
theorem dX2_init_12 : decode cX2_init 12 = .ok (.return_, 1) := by decide +kernel
theorem dX2_become_0 : decode cX2_become 0 = .ok (.aload_n 1, 1) := by decide +kernel
theorem dX2_become_1 : decode cX2_become 1 = .ok (.getfield 9, 3) := by decide +kernel
theorem dX2_become_4 : decode cX2_become 4 = .ok (.iconst 0, 1) := by decide +kernel
theorem dX2_become_5 : decode cX2_become 5 = .ok (.aload_n 0, 1) := by decide +kernel
theorem dX2_become_6 : decode cX2_become 6 = .ok (.getfield 9, 3) := by decide +kernel
theorem dX2_become_9 : decode cX2_become 9 = .ok (.iconst 0, 1) := by decide +kernel
theorem dX2_become_10 : decode cX2_become 10 = .ok (.bipush 30, 2) := by decide +kernel
theorem dX2_become_12 : decode cX2_become 12 = .ok (.invokestatic 13, 3) := by decide +kernel
theorem dX2_become_15 : decode cX2_become 15 = .ok (.aload_n 0, 1) := by decide +kernel
theorem dX2_become_16 : decode cX2_become 16 = .ok (.aload_n 1, 1) := by decide +kernel
theorem dX2_become_17 : decode cX2_become 17 = .ok (.getfield 19, 3) := by decide +kernel
theorem dX2_become_20 : decode cX2_become 20 = .ok (.putfield 19, 3) := by decide +kernel
theorem dX2_become_23 : decode cX2_become 23 = .ok (.return_, 1) := by decide +kernel
theorem dX2_add_0 : decode cX2_add 0 = .ok (.aload_n 0, 1) := by decide +kernel
theorem dX2_add_1 : decode cX2_add 1 = .ok (.getfield 19, 3) := by decide +kernel
theorem dX2_add_4 : decode cX2_add 4 = .ok (.bipush 30, 2) := by decide +kernel
theorem dX2_add_6 : decode cX2_add 6 = .ok (.if_icmp .ge 13, 3) := by decide +kernel
theorem dX2_add_9 : decode cX2_add 9 = .ok (.aload_n 0, 1) := by decide +kernel
theorem dX2_add_10 : decode cX2_add 10 = .ok (.getfield 9, 3) := by decide +kernel
theorem dX2_add_13 : decode cX2_add 13 = .ok (.aload_n 0, 1) := by decide +kernel
theorem dX2_add_14 : decode cX2_add 14 = .ok (.getfield 19, 3) := by decide +kernel
theorem dX2_add_17 : decode cX2_add 17 = .ok (.iload_n 1, 1) := by decide +kernel
theorem dX2_add_18 : decode cX2_add 18 = .ok (.iastore, 1) := by decide +kernel
theorem dX2_add_19 : decode cX2_add 19 = .ok (.aload_n 0, 1) := by decide +kernel
theorem dX2_add_20 : decode cX2_add 20 = .ok (.aload_n 0, 1) := by decide +kernel
theorem dX2_add_21 : decode cX2_add 21 = .ok (.getfield 19, 3) := by decide +kernel
theorem dX2_add_24 : decode cX2_add 24 = .ok (.iconst 1, 1) := by decide +kernel
theorem dX2_add_25 : decode cX2_add 25 = .ok (.iadd, 1) := by decide +kernel
theorem dX2_add_26 : decode cX2_add 26 = .ok (.bipush 31, 2) := by decide +kernel
theorem dX2_add_28 : decode cX2_add 28 = .ok (.invokestatic 23, 3) := by decide +kernel
theorem dX2_add_31 : decode cX2_add 31 = .ok (.putfield 19, 3) := by decide +kernel
theorem dX2_add_34 : decode cX2_add 34 = .ok (.return_, 1) := by decide +kernel
theorem dX2_canBeRepeated_0 : decode cX2_canBeRepeated 0 = .ok (.aload_n 0, 1) := by decide +kernel
theorem dX2_canBeRepeated_1 : decode cX2_canBeRepeated 1 = .ok (.getfield 19, 3) := by decide +kernel
theorem dX2_canBeRepeated_4 : decode cX2_canBeRepeated 4 = .ok (.ifCond .le 16, 3) := by decide +kernel
theorem dX2_canBeRepeated_7 : decode cX2_canBeRepeated 7 = .ok (.aload_n 0, 1) := by decide +kernel
theorem dX2_canBeRepeated_8 : decode cX2_canBeRepeated 8 = .ok (.getfield 19, 3) := by decide +kernel
theorem dX2_canBeRepeated_11 : decode cX2_canBeRepeated 11 = .ok (.bipush 30, 2) := by decide +kernel
theorem dX2_canBeRepeated_13 : decode cX2_canBeRepeated 13 = .ok (.if_icmp .gt 7, 3) := by decide +kernel
theorem dX2_canBeRepeated_16 : decode cX2_canBeRepeated 16 = .ok (.iconst 1, 1) := by decide +kernel
theorem dX2_canBeRepeated_17 : decode cX2_canBeRepeated 17 = .ok (.goto 4, 3) := by decide +kernel
theorem dX2_canBeRepeated_20 : decode cX2_canBeRepeated 20 = .ok (.iconst 0, 1) := by decide +kernel
theorem dX2_canBeRepeated_21 : decode cX2_canBeRepeated 21 = .ok (.ireturn, 1) := by decide +kernel
theorem dX3_init_0 : decode cX3_init 0 = .ok (.aload_n 0, 1) := by decide +kernel
theorem dX3_init_1 : decode cX3_init 1 = .ok (.invokespecial 3, 3) := by decide +kernel
theorem dX3_init_4 : decode cX3_init 4 = .ok (.aload_n 0, 1) := by decide +kernel
theorem dX3_init_5 : decode cX3_init 5 = .ok (.sipush 480, 3) := by decide +kernel
theorem dX3_init_8 : decode cX3_init 8 = .ok (.newarray .int, 2) := by decide +kernel
theorem dX3_init_10 : decode cX3_init 10 = .ok (.putfield 11, 3) := by decide +kernel
theorem dX3_init_13 : decode cX3_init 13 = .ok (.aload_n 0, 1) := by decide +kernel
theorem dX3_init_14 : decode cX3_init 14 = .ok (.bipush 8, 2) := by decide +kernel
theorem dX3_init_16 : decode cX3_init 16 = .ok (.newarray .int, 2) := by decide +kernel
theorem dX3_init_18 : decode cX3_init 18 = .ok (.putfield 15, 3) := by decide +kernel
theorem dX3_init_21 : decode cX3_init 21 = .ok (.aload_n 0, 1) := by decide +kernel
theorem dX3_init_22 : decode cX3_init 22 = .ok (.bipush 8, 2) := by decide +kernel
theorem dX3_init_24 : decode cX3_init 24 = .ok (.newarray .int, 2) := by decide +kernel
theorem dX3_init_26 : decode cX3_init 26 = .ok (.putfield 18, 3) := by decide +kernel
theorem dX3_init_29 : decode cX3_init 29 = .ok (.return_, 1) := by decide +kernel
theorem dX3_become_0 : decode cX3_become 0 = .ok (.aload_n 1, 1) := by decide +kernel
theorem dX3_become_1 : decode cX3_become 1 = .ok (.getfield 11, 3) := by decide +kernel
theorem dX3_become_4 : decode cX3_become 4 = .ok (.iconst 0, 1) := by decide +kernel
theorem dX3_become_5 : decode cX3_become 5 = .ok (.aload_n 0, 1) := by decide +kernel
theorem dX3_become_6 : decode cX3_become 6 = .ok (.getfield 11, 3) := by decide +kernel
theorem dX3_become_9 : decode cX3_become 9 = .ok (.iconst 0, 1) := by decide +kernel
theorem dX3_become_10 : decode cX3_become 10 = .ok (.aload_n 0, 1) := by decide +kernel
theorem dX3_become_11 : decode cX3_become 11 = .ok (.getfield 11, 3) := by decide +kernel
theorem dX3_become_14 : decode cX3_become 14 = .ok (.arraylength, 1) := by decide +kernel
theorem dX3_become_15 : decode cX3_become 15 = .ok (.invokestatic 21, 3) := by decide +kernel
theorem dX3_become_18 : decode cX3_become 18 = .ok (.aload_n 1, 1) := by decide +kernel
theorem dX3_become_19 : decode cX3_become 19 = .ok (.getfield 15, 3) := by decide +kernel
theorem dX3_become_22 : decode cX3_become 22 = .ok (.iconst 0, 1) := by decide +kernel
theorem dX3_become_23 : decode cX3_become 23 = .ok (.aload_n 0, 1) := by decide +kernel
theorem dX3_become_24 : decode cX3_become 24 = .ok (.getfield 15, 3) := by decide +kernel
theorem dX3_become_27 : decode cX3_become 27 = .ok (.iconst 0, 1) := by decide +kernel
theorem dX3_become_28 : decode cX3_become 28 = .ok (.bipush 8, 2) := by decide +kernel
theorem dX3_become_30 : decode cX3_become 30 = .ok (.invokestatic 21, 3) := by decide +kernel
theorem dX3_become_33 : decode cX3_become 33 = .ok (.aload_n 1, 1) := by decide +kernel
theorem dX3_become_34 : decode cX3_become 34 = .ok (.getfield 18, 3) := by decide +kernel
theorem dX3_become_37 : decode cX3_become 37 = .ok (.iconst 0, 1) := by decide +kernel
theorem dX3_become_38 : decode cX3_become 38 = .ok (.aload_n 0, 1) := by decide +kernel
theorem dX3_become_39 : decode cX3_become 39 = .ok (.getfield 18, 3) := by decide +kernel
theorem dX3_become_42 : decode cX3_become 42 = .ok (.iconst 0, 1) := by decide +kernel
theorem dX3_become_43 : decode cX3_become 43 = .ok (.bipush 8, 2) := by decide +kernel
theorem dX3_become_45 : decode cX3_become 45 = .ok (.invokestatic 21, 3) := by decide +kernel
theorem dX3_become_48 : decode cX3_become 48 = .ok (.aload_n 0, 1) := by decide +kernel
theorem dX3_become_49 : decode cX3_become 49 = .ok (.aload_n 1, 1) := by decide +kernel
theorem dX3_become_50 : decode cX3_become 50 = .ok (.getfield 27, 3) := by decide +kernel
theorem dX3_become_53 : decode cX3_become 53 = .ok (.putfield 27, 3) := by decide +kernel
theorem dX3_become_56 : decode cX3_become 56 = .ok (.aload_n 0, 1) := by decide +kernel
theorem dX3_become_57 : decode cX3_become 57 = .ok (.aload_n 1, 1) := by decide +kernel
theorem dX3_become_58 : decode cX3_become 58 = .ok (.getfield 31, 3) := by decide +kernel
theorem dX3_become_61 : decode cX3_become 61 = .ok (.putfield 31, 3) := by decide +kernel
theorem dX3_become_64 : decode cX3_become 64 = .ok (.return_, 1) := by decide +kernel
theorem dX3_keep_0 : decode cX3_keep 0 = .ok (.aload_n 1, 1) := by decide +kernel
theorem dX3_keep_1 : decode cX3_keep 1 = .ok (.getfield 34, 3) := by decide +kernel
theorem dX3_keep_4 : decode cX3_keep 4 = .ok (.iconst 0, 1) := by decide +kernel
theorem dX3_keep_5 : decode cX3_keep 5 = .ok (.aload_n 0, 1) := by decide +kernel
theorem dX3_keep_6 : decode cX3_keep 6 = .ok (.getfield 11, 3) := by decide +kernel
theorem dX3_keep_9 : decode cX3_keep 9 = .ok (.aload_n 0, 1) := by decide +kernel
theorem dX3_keep_10 : decode cX3_keep 10 = .ok (.getfield 27, 3) := by decide +kernel
theorem dX3_keep_13 : decode cX3_keep 13 = .ok (.bipush 60, 2) := by decide +kernel
theorem dX3_keep_15 : decode cX3_keep 15 = .ok (.imul, 1) := by decide +kernel
theorem dX3_keep_16 : decode cX3_keep 16 = .ok (.bipush 60, 2) := by decide +kernel
theorem dX3_keep_18 : decode cX3_keep 18 = .ok (.invokestatic 21, 3) := by decide +kernel
theorem dX3_keep_21 : decode cX3_keep 21 = .ok (.aload_n 0, 1) := by decide +kernel
theorem dX3_keep_22 : decode cX3_keep 22 = .ok (.getfield 15, 3) := by decide +kernel
theorem dX3_keep_25 : decode cX3_keep 25 = .ok (.aload_n 0, 1) := by decide +kernel
theorem dX3_keep_26 : decode cX3_keep 26 = .ok (.getfield 27, 3) := by decide +kernel
theorem dX3_keep_29 : decode cX3_keep 29 = .ok (.aload_n 1, 1) := by decide +kernel
theorem dX3_keep_30 : decode cX3_keep 30 = .ok (.getfield 37, 3) := by decide +kernel
theorem dX3_keep_33 : decode cX3_keep 33 = .ok (.iastore, 1) := by decide +kernel
theorem dX3_keep_34 : decode cX3_keep 34 = .ok (.aload_n 0, 1) := by decide +kernel
theorem dX3_keep_35 : decode cX3_keep 35 = .ok (.getfield 18, 3) := by decide +kernel
theorem dX3_keep_38 : decode cX3_keep 38 = .ok (.aload_n 0, 1) := by decide +kernel
theorem dX3_keep_39 : decode cX3_keep 39 = .ok (.getfield 27, 3) := by decide +kernel
theorem dX3_keep_42 : decode cX3_keep 42 = .ok (.aload_n 1, 1) := by decide +kernel
theorem dX3_keep_43 : decode cX3_keep 43 = .ok (.getfield 40, 3) := by decide +kernel
theorem dX3_keep_46 : decode cX3_keep 46 = .ok (.iastore, 1) := by decide +kernel
theorem dX3_keep_47 : decode cX3_keep 47 = .ok (.aload_n 0, 1) := by decide +kernel
theorem dX3_keep_48 : decode cX3_keep 48 = .ok (.aload_n 0, 1) := by decide +kernel
theorem dX3_keep_49 : decode cX3_keep 49 = .ok (.getfield 27, 3) := by decide +kernel
theorem dX3_keep_52 : decode cX3_keep 52 = .ok (.iconst 1, 1) := by decide +kernel
theorem dX3_keep_53 : decode cX3_keep 53 = .ok (.iadd, 1) := by decide +kernel
theorem dX3_keep_54 : decode cX3_keep 54 = .ok (.bipush 8, 2) := by decide +kernel
theorem dX3_keep_56 : decode cX3_keep 56 = .ok (.irem, 1) := by decide +kernel
theorem dX3_keep_57 : decode cX3_keep 57 = .ok (.putfield 27, 3) := by decide +kernel
theorem dX3_keep_60 : decode cX3_keep 60 = .ok (.aload_n 0, 1) := by decide +kernel
theorem dX3_keep_61 : decode cX3_keep 61 = .ok (.aload_n 0, 1) := by decide +kernel
theorem dX3_keep_62 : decode cX3_keep 62 = .ok (.getfield 31, 3) := by decide +kernel
theorem dX3_keep_65 : decode cX3_keep 65 = .ok (.iconst 1, 1) := by decide +kernel
theorem dX3_keep_66 : decode cX3_keep 66 = .ok (.iadd, 1) := by decide +kernel
theorem dX3_keep_67 : decode cX3_keep 67 = .ok (.bipush 8, 2) := by decide +kernel
theorem dX3_keep_69 : decode cX3_keep 69 = .ok (.invokestatic 43, 3) := by decide +kernel
theorem dX3_keep_72 : decode cX3_keep 72 = .ok (.putfield 31, 3) := by decide +kernel
theorem dX3_keep_75 : decode cX3_keep 75 = .ok (.return_, 1) := by decide +kernel
theorem dX3_bringBack_0 : decode cX3_bringBack 0 = .ok (.aload_n 0, 1) := by decide +kernel
theorem dX3_bringBack_1 : decode cX3_bringBack 1 = .ok (.getfield 31, 3) := by decide +kernel
theorem dX3_bringBack_4 : decode cX3_bringBack 4 = .ok (.ifCond .ne 5, 3) := by decide +kernel
theorem dX3_bringBack_7 : decode cX3_bringBack 7 = .ok (.iconst 0, 1) := by decide +kernel
theorem dX3_bringBack_8 : decode cX3_bringBack 8 = .ok (.ireturn, 1) := by decide +kernel
theorem dX3_bringBack_9 : decode cX3_bringBack 9 = .ok (.iload_n 2, 1) := by decide +kernel
theorem dX3_bringBack_10 : decode cX3_bringBack 10 = .ok (.aload_n 0, 1) := by decide +kernel
theorem dX3_bringBack_11 : decode cX3_bringBack 11 = .ok (.getfield 31, 3) := by decide +kernel
theorem dX3_bringBack_14 : decode cX3_bringBack 14 = .ok (.invokestatic 43, 3) := by decide +kernel
theorem dX3_bringBack_17 : decode cX3_bringBack 17 = .ok (.istore_n 3, 1) := by decide +kernel
theorem dX3_bringBack_18 : decode cX3_bringBack 18 = .ok (.aload_n 0, 1) := by decide +kernel
theorem dX3_bringBack_19 : decode cX3_bringBack 19 = .ok (.aload_n 0, 1) := by decide +kernel
theorem dX3_bringBack_20 : decode cX3_bringBack 20 = .ok (.getfield 27, 3) := by decide +kernel
theorem dX3_bringBack_23 : decode cX3_bringBack 23 = .ok (.iload_n 3, 1) := by decide +kernel
theorem dX3_bringBack_24 : decode cX3_bringBack 24 = .ok (.isub, 1) := by decide +kernel
theorem dX3_bringBack_25 : decode cX3_bringBack 25 = .ok (.bipush 8, 2) := by decide +kernel
theorem dX3_bringBack_27 : decode cX3_bringBack 27 = .ok (.invokestatic 49, 3) := by decide +kernel
theorem dX3_bringBack_30 : decode cX3_bringBack 30 = .ok (.putfield 27, 3) := by decide +kernel
theorem dX3_bringBack_33 : decode cX3_bringBack 33 = .ok (.aload_n 0, 1) := by decide +kernel
theorem dX3_bringBack_34 : decode cX3_bringBack 34 = .ok (.dup, 1) := by decide +kernel
theorem dX3_bringBack_35 : decode cX3_bringBack 35 = .ok (.getfield 31, 3) := by decide +kernel
theorem dX3_bringBack_38 : decode cX3_bringBack 38 = .ok (.iload_n 3, 1) := by decide +kernel
theorem dX3_bringBack_39 : decode cX3_bringBack 39 = .ok (.isub, 1) := by decide +kernel
theorem dX3_bringBack_40 : decode cX3_bringBack 40 = .ok (.putfield 31, 3) := by decide +kernel
theorem dX3_bringBack_43 : decode cX3_bringBack 43 = .ok (.aload_n 0, 1) := by decide +kernel
theorem dX3_bringBack_44 : decode cX3_bringBack 44 = .ok (.getfield 11, 3) := by decide +kernel
theorem dX3_bringBack_47 : decode cX3_bringBack 47 = .ok (.aload_n 0, 1) := by decide +kernel
theorem dX3_bringBack_48 : decode cX3_bringBack 48 = .ok (.getfield 27, 3) := by decide +kernel
theorem dX3_bringBack_51 : decode cX3_bringBack 51 = .ok (.bipush 60, 2) := by decide +kernel
theorem dX3_bringBack_53 : decode cX3_bringBack 53 = .ok (.imul, 1) := by decide +kernel
theorem dX3_bringBack_54 : decode cX3_bringBack 54 = .ok (.aload_n 1, 1) := by decide +kernel
theorem dX3_bringBack_55 : decode cX3_bringBack 55 = .ok (.getfield 34, 3) := by decide +kernel
theorem dX3_bringBack_58 : decode cX3_bringBack 58 = .ok (.iconst 0, 1) := by decide +kernel
theorem dX3_bringBack_59 : decode cX3_bringBack 59 = .ok (.bipush 60, 2) := by decide +kernel
theorem dX3_bringBack_61 : decode cX3_bringBack 61 = .ok (.invokestatic 21, 3) := by decide +kernel
theorem dX3_bringBack_64 : decode cX3_bringBack 64 = .ok (.aload_n 1, 1) := by decide +kernel
theorem dX3_bringBack_65 : decode cX3_bringBack 65 = .ok (.aload_n 0, 1) := by decide +kernel
theorem dX3_bringBack_66 : decode cX3_bringBack 66 = .ok (.getfield 15, 3) := by decide +kernel
theorem dX3_bringBack_69 : decode cX3_bringBack 69 = .ok (.aload_n 0, 1) := by decide +kernel
theorem dX3_bringBack_70 : decode cX3_bringBack 70 = .ok (.getfield 27, 3) := by decide +kernel
theorem dX3_bringBack_73 : decode cX3_bringBack 73 = .ok (.iaload, 1) := by decide +kernel
theorem dX3_bringBack_74 : decode cX3_bringBack 74 = .ok (.putfield 37, 3) := by decide +kernel
theorem dX3_bringBack_77 : decode cX3_bringBack 77 = .ok (.aload_n 1, 1) := by decide +kernel
theorem dX3_bringBack_78 : decode cX3_bringBack 78 = .ok (.aload_n 0, 1) := by decide +kernel
theorem dX3_bringBack_79 : decode cX3_bringBack 79 = .ok (.getfield 18, 3) := by decide +kernel
theorem dX3_bringBack_82 : decode cX3_bringBack 82 = .ok (.aload_n 0, 1) := by decide +kernel
theorem dX3_bringBack_83 : decode cX3_bringBack 83 = .ok (.getfield 27, 3) := by decide +kernel
theorem dX3_bringBack_86 : decode cX3_bringBack 86 = .ok (.iaload, 1) := by decide +kernel
theorem dX3_bringBack_87 : decode cX3_bringBack 87 = .ok (.putfield 40, 3) := by decide +kernel
theorem dX3_bringBack_90 : decode cX3_bringBack 90 = .ok (.iconst 1, 1) := by decide +kernel
theorem dX3_bringBack_91 : decode cX3_bringBack 91 = .ok (.ireturn, 1) := by decide +kernel
theorem dX4_init_0 : decode cX4_init 0 = .ok (.aload_n 0, 1) := by decide +kernel
theorem dX4_init_1 : decode cX4_init 1 = .ok (.invokespecial 3, 3) := by decide +kernel
theorem dX4_init_4 : decode cX4_init 4 = .ok (.aload_n 0, 1) := by decide +kernel
theorem dX4_init_5 : decode cX4_init 5 = .ok (.bipush 24, 2) := by decide +kernel
theorem dX4_init_7 : decode cX4_init 7 = .ok (.newarray .long, 2) := by decide +kernel
theorem dX4_init_9 : decode cX4_init 9 = .ok (.putfield 9, 3) := by decide +kernel
theorem dX4_init_12 : decode cX4_init 12 = .ok (.aload_n 0, 1) := by decide +kernel
theorem dX4_init_13 : decode cX4_init 13 = .ok (.iconst (-1), 1) := by decide +kernel
theorem dX4_init_14 : decode cX4_init 14 = .ok (.putfield 15, 3) := by decide +kernel
theorem dX4_init_17 : decode cX4_init 17 = .ok (.return_, 1) := by decide +kernel
theorem dX4_isNothing_0 : decode cX4_isNothing 0 = .ok (.aload_n 0, 1) := by decide +kernel
theorem dX4_isNothing_1 : decode cX4_isNothing 1 = .ok (.getfield 15, 3) := by decide +kernel
theorem dX4_isNothing_4 : decode cX4_isNothing 4 = .ok (.iconst (-1), 1) := by decide +kernel
theorem dX4_isNothing_5 : decode cX4_isNothing 5 = .ok (.if_icmp .ne 7, 3) := by decide +kernel
theorem dX4_isNothing_8 : decode cX4_isNothing 8 = .ok (.iconst 1, 1) := by decide +kernel
theorem dX4_isNothing_9 : decode cX4_isNothing 9 = .ok (.goto 4, 3) := by decide +kernel
theorem dX4_isNothing_12 : decode cX4_isNothing 12 = .ok (.iconst 0, 1) := by decide +kernel
theorem dX4_isNothing_13 : decode cX4_isNothing 13 = .ok (.ireturn, 1) := by decide +kernel
theorem dX4_hold_0 : decode cX4_hold 0 = .ok (.aload_n 0, 1) := by decide +kernel
theorem dX4_hold_1 : decode cX4_hold 1 = .ok (.iload_n 1, 1) := by decide +kernel
theorem dX4_hold_2 : decode cX4_hold 2 = .ok (.putfield 15, 3) := by decide +kernel
theorem dX4_hold_5 : decode cX4_hold 5 = .ok (.aload_n 0, 1) := by decide +kernel
theorem dX4_hold_6 : decode cX4_hold 6 = .ok (.iload_n 2, 1) := by decide +kernel
theorem dX4_hold_7 : decode cX4_hold 7 = .ok (.putfield 19, 3) := by decide +kernel
theorem dX4_hold_10 : decode cX4_hold 10 = .ok (.aload_n 0, 1) := by decide +kernel
theorem dX4_hold_11 : decode cX4_hold 11 = .ok (.getfield 9, 3) := by decide +kernel
theorem dX4_hold_14 : decode cX4_hold 14 = .ok (.lconst 0, 1) := by decide +kernel
theorem dX4_hold_15 : decode cX4_hold 15 = .ok (.invokestatic 22, 3) := by decide +kernel
theorem dX4_hold_18 : decode cX4_hold 18 = .ok (.return_, 1) := by decide +kernel
theorem dX4_reaches_0 : decode cX4_reaches 0 = .ok (.iload_n 1, 1) := by decide +kernel
theorem dX4_reaches_1 : decode cX4_reaches 1 = .ok (.ifCond .lt 21, 3) := by decide +kernel
theorem dX4_reaches_4 : decode cX4_reaches 4 = .ok (.iload_n 2, 1) := by decide +kernel
theorem dX4_reaches_5 : decode cX4_reaches 5 = .ok (.ifCond .lt 17, 3) := by decide +kernel
theorem dX4_reaches_8 : decode cX4_reaches 8 = .ok (.iload_n 1, 1) := by decide +kernel
theorem dX4_reaches_9 : decode cX4_reaches 9 = .ok (.aload_n 0, 1) := by decide +kernel
theorem dX4_reaches_10 : decode cX4_reaches 10 = .ok (.getfield 19, 3) := by decide +kernel
theorem dX4_reaches_13 : decode cX4_reaches 13 = .ok (.iload_n 2, 1) := by decide +kernel
theorem dX4_reaches_14 : decode cX4_reaches 14 = .ok (.isub, 1) := by decide +kernel
theorem dX4_reaches_15 : decode cX4_reaches 15 = .ok (.if_icmp .gt 7, 3) := by decide +kernel
theorem dX4_reaches_18 : decode cX4_reaches 18 = .ok (.iconst 1, 1) := by decide +kernel
theorem dX4_reaches_19 : decode cX4_reaches 19 = .ok (.goto 4, 3) := by decide +kernel
theorem dX4_reaches_22 : decode cX4_reaches 22 = .ok (.iconst 0, 1) := by decide +kernel
theorem dX4_reaches_23 : decode cX4_reaches 23 = .ok (.ireturn, 1) := by decide +kernel
theorem dX4_faultAs_0 : decode cX4_faultAs 0 = .ok (.aload_n 0, 1) := by decide +kernel
theorem dX4_faultAs_1 : decode cX4_faultAs 1 = .ok (.invokevirtual 28, 3) := by decide +kernel
theorem dX4_faultAs_4 : decode cX4_faultAs 4 = .ok (.ifCond .eq 6, 3) := by decide +kernel
theorem dX4_faultAs_7 : decode cX4_faultAs 7 = .ok (.bipush (-11), 2) := by decide +kernel
theorem dX4_faultAs_9 : decode cX4_faultAs 9 = .ok (.ireturn, 1) := by decide +kernel
theorem dX4_faultAs_10 : decode cX4_faultAs 10 = .ok (.aload_n 0, 1) := by decide +kernel
theorem dX4_faultAs_11 : decode cX4_faultAs 11 = .ok (.getfield 15, 3) := by decide +kernel
theorem dX4_faultAs_14 : decode cX4_faultAs 14 = .ok (.iload_n 1, 1) := by decide +kernel
theorem dX4_faultAs_15 : decode cX4_faultAs 15 = .ok (.if_icmp .eq 6, 3) := by decide +kernel
theorem dX4_faultAs_18 : decode cX4_faultAs 18 = .ok (.bipush (-12), 2) := by decide +kernel
theorem dX4_faultAs_20 : decode cX4_faultAs 20 = .ok (.ireturn, 1) := by decide +kernel
theorem dX4_faultAs_21 : decode cX4_faultAs 21 = .ok (.aload_n 0, 1) := by decide +kernel
theorem dX4_faultAs_22 : decode cX4_faultAs 22 = .ok (.iload_n 2, 1) := by decide +kernel
theorem dX4_faultAs_23 : decode cX4_faultAs 23 = .ok (.iload_n 3, 1) := by decide +kernel
theorem dX4_faultAs_24 : decode cX4_faultAs 24 = .ok (.invokevirtual 32, 3) := by decide +kernel
theorem dX4_faultAs_27 : decode cX4_faultAs 27 = .ok (.ifCond .eq 7, 3) := by decide +kernel
theorem dX4_faultAs_30 : decode cX4_faultAs 30 = .ok (.iconst 0, 1) := by decide +kernel
theorem dX4_faultAs_31 : decode cX4_faultAs 31 = .ok (.goto 5, 3) := by decide +kernel
theorem dX4_faultAs_34 : decode cX4_faultAs 34 = .ok (.bipush (-13), 2) := by decide +kernel
theorem dX4_faultAs_36 : decode cX4_faultAs 36 = .ok (.ireturn, 1) := by decide +kernel
theorem dX4_put_0 : decode cX4_put 0 = .ok (.aload_n 0, 1) := by decide +kernel
theorem dX4_put_1 : decode cX4_put 1 = .ok (.getfield 15, 3) := by decide +kernel
theorem dX4_put_4 : decode cX4_put 4 = .ok (.tableswitch 66 0 2 #[28, 41, 54], 28) := by decide +kernel
theorem dX4_put_32 : decode cX4_put 32 = .ok (.aload_n 0, 1) := by decide +kernel
theorem dX4_put_33 : decode cX4_put 33 = .ok (.getfield 9, 3) := by decide +kernel
theorem dX4_put_36 : decode cX4_put 36 = .ok (.iload_n 1, 1) := by decide +kernel
theorem dX4_put_37 : decode cX4_put 37 = .ok (.lload_n 2, 1) := by decide +kernel
theorem dX4_put_38 : decode cX4_put 38 = .ok (.l2i, 1) := by decide +kernel
theorem dX4_put_39 : decode cX4_put 39 = .ok (.i2b, 1) := by decide +kernel
theorem dX4_put_40 : decode cX4_put 40 = .ok (.i2l, 1) := by decide +kernel
theorem dX4_put_41 : decode cX4_put 41 = .ok (.lastore, 1) := by decide +kernel
theorem dX4_put_42 : decode cX4_put 42 = .ok (.goto 35, 3) := by decide +kernel
theorem dX4_put_45 : decode cX4_put 45 = .ok (.aload_n 0, 1) := by decide +kernel
theorem dX4_put_46 : decode cX4_put 46 = .ok (.getfield 9, 3) := by decide +kernel
theorem dX4_put_49 : decode cX4_put 49 = .ok (.iload_n 1, 1) := by decide +kernel
theorem dX4_put_50 : decode cX4_put 50 = .ok (.lload_n 2, 1) := by decide +kernel
theorem dX4_put_51 : decode cX4_put 51 = .ok (.l2i, 1) := by decide +kernel
theorem dX4_put_52 : decode cX4_put 52 = .ok (.i2s, 1) := by decide +kernel
theorem dX4_put_53 : decode cX4_put 53 = .ok (.i2l, 1) := by decide +kernel
theorem dX4_put_54 : decode cX4_put 54 = .ok (.lastore, 1) := by decide +kernel
theorem dX4_put_55 : decode cX4_put 55 = .ok (.goto 22, 3) := by decide +kernel
theorem dX4_put_58 : decode cX4_put 58 = .ok (.aload_n 0, 1) := by decide +kernel
theorem dX4_put_59 : decode cX4_put 59 = .ok (.getfield 9, 3) := by decide +kernel
theorem dX4_put_62 : decode cX4_put 62 = .ok (.iload_n 1, 1) := by decide +kernel
theorem dX4_put_63 : decode cX4_put 63 = .ok (.lload_n 2, 1) := by decide +kernel
theorem dX4_put_64 : decode cX4_put 64 = .ok (.l2i, 1) := by decide +kernel
theorem dX4_put_65 : decode cX4_put 65 = .ok (.i2l, 1) := by decide +kernel
theorem dX4_put_66 : decode cX4_put 66 = .ok (.lastore, 1) := by decide +kernel
theorem dX4_put_67 : decode cX4_put 67 = .ok (.goto 10, 3) := by decide +kernel
theorem dX4_put_70 : decode cX4_put 70 = .ok (.aload_n 0, 1) := by decide +kernel
theorem dX4_put_71 : decode cX4_put 71 = .ok (.getfield 9, 3) := by decide +kernel
theorem dX4_put_74 : decode cX4_put 74 = .ok (.iload_n 1, 1) := by decide +kernel
theorem dX4_put_75 : decode cX4_put 75 = .ok (.lload_n 2, 1) := by decide +kernel
theorem dX4_put_76 : decode cX4_put 76 = .ok (.lastore, 1) := by decide +kernel
theorem dX4_put_77 : decode cX4_put 77 = .ok (.return_, 1) := by decide +kernel
theorem dX5_init_0 : decode cX5_init 0 = .ok (.aload_n 0, 1) := by decide +kernel
theorem dX5_init_1 : decode cX5_init 1 = .ok (.invokespecial 3, 3) := by decide +kernel
theorem dX5_init_4 : decode cX5_init 4 = .ok (.aload_n 0, 1) := by decide +kernel
theorem dX5_init_5 : decode cX5_init 5 = .ok (.bipush 60, 2) := by decide +kernel
theorem dX5_init_7 : decode cX5_init 7 = .ok (.newarray .int, 2) := by decide +kernel
theorem dX5_init_9 : decode cX5_init 9 = .ok (.putfield 9, 3) := by decide +kernel
theorem dX5_init_12 : decode cX5_init 12 = .ok (.return_, 1) := by decide +kernel
theorem dX5_become_0 : decode cX5_become 0 = .ok (.aload_n 1, 1) := by decide +kernel
theorem dX5_become_1 : decode cX5_become 1 = .ok (.getfield 9, 3) := by decide +kernel
theorem dX5_become_4 : decode cX5_become 4 = .ok (.iconst 0, 1) := by decide +kernel
theorem dX5_become_5 : decode cX5_become 5 = .ok (.aload_n 0, 1) := by decide +kernel
theorem dX5_become_6 : decode cX5_become 6 = .ok (.getfield 9, 3) := by decide +kernel
theorem dX5_become_9 : decode cX5_become 9 = .ok (.iconst 0, 1) := by decide +kernel
theorem dX5_become_10 : decode cX5_become 10 = .ok (.bipush 60, 2) := by decide +kernel
theorem dX5_become_12 : decode cX5_become 12 = .ok (.invokestatic 15, 3) := by decide +kernel
theorem dX5_become_15 : decode cX5_become 15 = .ok (.aload_n 0, 1) := by decide +kernel
theorem dX5_become_16 : decode cX5_become 16 = .ok (.aload_n 1, 1) := by decide +kernel
theorem dX5_become_17 : decode cX5_become 17 = .ok (.getfield 21, 3) := by decide +kernel
theorem dX5_become_20 : decode cX5_become 20 = .ok (.putfield 21, 3) := by decide +kernel
theorem dX5_become_23 : decode cX5_become 23 = .ok (.aload_n 0, 1) := by decide +kernel
theorem dX5_become_24 : decode cX5_become 24 = .ok (.aload_n 1, 1) := by decide +kernel
theorem dX5_become_25 : decode cX5_become 25 = .ok (.getfield 25, 3) := by decide +kernel
theorem dX5_become_28 : decode cX5_become 28 = .ok (.putfield 25, 3) := by decide +kernel
theorem dX5_become_31 : decode cX5_become 31 = .ok (.return_, 1) := by decide +kernel
theorem dX5_has_0 : decode cX5_has 0 = .ok (.iload_n 1, 1) := by decide +kernel
theorem dX5_has_1 : decode cX5_has 1 = .ok (.ifCond .lt 15, 3) := by decide +kernel
theorem dX5_has_4 : decode cX5_has 4 = .ok (.iload_n 1, 1) := by decide +kernel
theorem dX5_has_5 : decode cX5_has 5 = .ok (.aload_n 0, 1) := by decide +kernel
theorem dX5_has_6 : decode cX5_has 6 = .ok (.getfield 21, 3) := by decide +kernel
theorem dX5_has_9 : decode cX5_has 9 = .ok (.if_icmp .ge 7, 3) := by decide +kernel
theorem dX5_has_12 : decode cX5_has 12 = .ok (.iconst 1, 1) := by decide +kernel
theorem dX5_has_13 : decode cX5_has 13 = .ok (.goto 4, 3) := by decide +kernel
theorem dX5_has_16 : decode cX5_has 16 = .ok (.iconst 0, 1) := by decide +kernel
theorem dX5_has_17 : decode cX5_has 17 = .ok (.ireturn, 1) := by decide +kernel
theorem dX5_at_0 : decode cX5_at 0 = .ok (.aload_n 0, 1) := by decide +kernel
theorem dX5_at_1 : decode cX5_at 1 = .ok (.iload_n 1, 1) := by decide +kernel
theorem dX5_at_2 : decode cX5_at 2 = .ok (.invokevirtual 28, 3) := by decide +kernel
theorem dX5_at_5 : decode cX5_at 5 = .ok (.ifCond .eq 12, 3) := by decide +kernel
theorem dX5_at_8 : decode cX5_at 8 = .ok (.aload_n 0, 1) := by decide +kernel
theorem dX5_at_9 : decode cX5_at 9 = .ok (.getfield 9, 3) := by decide +kernel
theorem dX5_at_12 : decode cX5_at 12 = .ok (.iload_n 1, 1) := by decide +kernel
theorem dX5_at_13 : decode cX5_at 13 = .ok (.iaload, 1) := by decide +kernel
theorem dX5_at_14 : decode cX5_at 14 = .ok (.goto 4, 3) := by decide +kernel
theorem dX5_at_17 : decode cX5_at 17 = .ok (.iconst (-1), 1) := by decide +kernel
theorem dX5_at_18 : decode cX5_at 18 = .ok (.ireturn, 1) := by decide +kernel
theorem dX5_last_0 : decode cX5_last 0 = .ok (.aload_n 0, 1) := by decide +kernel
theorem dX5_last_1 : decode cX5_last 1 = .ok (.getfield 21, 3) := by decide +kernel
theorem dX5_last_4 : decode cX5_last 4 = .ok (.ifCond .le 12, 3) := by decide +kernel
theorem dX5_last_7 : decode cX5_last 7 = .ok (.aload_n 0, 1) := by decide +kernel
theorem dX5_last_8 : decode cX5_last 8 = .ok (.getfield 21, 3) := by decide +kernel
theorem dX5_last_11 : decode cX5_last 11 = .ok (.iconst 1, 1) := by decide +kernel
theorem dX5_last_12 : decode cX5_last 12 = .ok (.isub, 1) := by decide +kernel
theorem dX5_last_13 : decode cX5_last 13 = .ok (.goto 4, 3) := by decide +kernel
theorem dX5_last_16 : decode cX5_last 16 = .ok (.iconst 0, 1) := by decide +kernel
theorem dX5_last_17 : decode cX5_last 17 = .ok (.ireturn, 1) := by decide +kernel
theorem dX5_canStand_0 : decode cX5_canStand 0 = .ok (.iload_n 1, 1) := by decide +kernel
theorem dX5_canStand_1 : decode cX5_canStand 1 = .ok (.ifCond .lt 15, 3) := by decide +kernel
theorem dX5_canStand_4 : decode cX5_canStand 4 = .ok (.iload_n 1, 1) := by decide +kernel
theorem dX5_canStand_5 : decode cX5_canStand 5 = .ok (.aload_n 0, 1) := by decide +kernel
theorem dX5_canStand_6 : decode cX5_canStand 6 = .ok (.invokevirtual 32, 3) := by decide +kernel
theorem dX5_canStand_9 : decode cX5_canStand 9 = .ok (.if_icmp .gt 7, 3) := by decide +kernel
theorem dX5_canStand_12 : decode cX5_canStand 12 = .ok (.iconst 1, 1) := by decide +kernel
theorem dX5_canStand_13 : decode cX5_canStand 13 = .ok (.goto 4, 3) := by decide +kernel
theorem dX5_canStand_16 : decode cX5_canStand 16 = .ok (.iconst 0, 1) := by decide +kernel
theorem dX5_canStand_17 : decode cX5_canStand 17 = .ok (.ireturn, 1) := by decide +kernel
theorem dX5_standing_0 : decode cX5_standing 0 = .ok (.aload_n 0, 1) := by decide +kernel
theorem dX5_standing_1 : decode cX5_standing 1 = .ok (.getfield 25, 3) := by decide +kernel
theorem dX5_standing_4 : decode cX5_standing 4 = .ok (.aload_n 0, 1) := by decide +kernel
theorem dX5_standing_5 : decode cX5_standing 5 = .ok (.invokevirtual 32, 3) := by decide +kernel
theorem dX5_standing_8 : decode cX5_standing 8 = .ok (.invokestatic 36, 3) := by decide +kernel
theorem dX5_standing_11 : decode cX5_standing 11 = .ok (.ireturn, 1) := by decide +kernel
theorem dX5_goTo_0 : decode cX5_goTo 0 = .ok (.aload_n 0, 1) := by decide +kernel
theorem dX5_goTo_1 : decode cX5_goTo 1 = .ok (.iload_n 1, 1) := by decide +kernel
theorem dX5_goTo_2 : decode cX5_goTo 2 = .ok (.aload_n 0, 1) := by decide +kernel
theorem dX5_goTo_3 : decode cX5_goTo 3 = .ok (.invokevirtual 32, 3) := by decide +kernel
theorem dX5_goTo_6 : decode cX5_goTo 6 = .ok (.invokestatic 36, 3) := by decide +kernel
theorem dX5_goTo_9 : decode cX5_goTo 9 = .ok (.putfield 25, 3) := by decide +kernel
theorem dX5_goTo_12 : decode cX5_goTo 12 = .ok (.return_, 1) := by decide +kernel
theorem dX5_kindAt_0 : decode cX5_kindAt 0 = .ok (.iload_n 1, 1) := by decide +kernel
theorem dX5_kindAt_1 : decode cX5_kindAt 1 = .ok (.ifCond .lt 11, 3) := by decide +kernel
theorem dX5_kindAt_4 : decode cX5_kindAt 4 = .ok (.iload_n 1, 1) := by decide +kernel
theorem dX5_kindAt_5 : decode cX5_kindAt 5 = .ok (.aload_n 0, 1) := by decide +kernel
theorem dX5_kindAt_6 : decode cX5_kindAt 6 = .ok (.getfield 21, 3) := by decide +kernel
theorem dX5_kindAt_9 : decode cX5_kindAt 9 = .ok (.if_icmp .lt 5, 3) := by decide +kernel
theorem dX5_kindAt_12 : decode cX5_kindAt 12 = .ok (.iconst (-1), 1) := by decide +kernel
theorem dX5_kindAt_13 : decode cX5_kindAt 13 = .ok (.ireturn, 1) := by decide +kernel
theorem dX5_kindAt_14 : decode cX5_kindAt 14 = .ok (.aload_n 0, 1) := by decide +kernel
theorem dX5_kindAt_15 : decode cX5_kindAt 15 = .ok (.getfield 9, 3) := by decide +kernel
theorem dX5_kindAt_18 : decode cX5_kindAt 18 = .ok (.iload_n 1, 1) := by decide +kernel
theorem dX5_kindAt_19 : decode cX5_kindAt 19 = .ok (.iaload, 1) := by decide +kernel
theorem dX5_kindAt_20 : decode cX5_kindAt 20 = .ok (.istore_n 2, 1) := by decide +kernel
theorem dX5_kindAt_21 : decode cX5_kindAt 21 = .ok (.iload_n 2, 1) := by decide +kernel
theorem dX5_kindAt_22 : decode cX5_kindAt 22 = .ok (.bipush 32, 2) := by decide +kernel
theorem dX5_kindAt_24 : decode cX5_kindAt 24 = .ok (.if_icmp .ne 5, 3) := by decide +kernel
theorem dX5_kindAt_27 : decode cX5_kindAt 27 = .ok (.iconst 0, 1) := by decide +kernel
theorem dX5_kindAt_28 : decode cX5_kindAt 28 = .ok (.ireturn, 1) := by decide +kernel
theorem dX5_kindAt_29 : decode cX5_kindAt 29 = .ok (.iload_n 2, 1) := by decide +kernel
theorem dX5_kindAt_30 : decode cX5_kindAt 30 = .ok (.bipush 97, 2) := by decide +kernel
theorem dX5_kindAt_32 : decode cX5_kindAt 32 = .ok (.if_icmp .lt 13, 3) := by decide +kernel
theorem dX5_kindAt_35 : decode cX5_kindAt 35 = .ok (.iload_n 2, 1) := by decide +kernel
theorem dX5_kindAt_36 : decode cX5_kindAt 36 = .ok (.bipush 122, 2) := by decide +kernel
theorem dX5_kindAt_38 : decode cX5_kindAt 38 = .ok (.if_icmp .gt 7, 3) := by decide +kernel
theorem dX5_kindAt_41 : decode cX5_kindAt 41 = .ok (.iconst 1, 1) := by decide +kernel
theorem dX5_kindAt_42 : decode cX5_kindAt 42 = .ok (.goto 4, 3) := by decide +kernel
theorem dX5_kindAt_45 : decode cX5_kindAt 45 = .ok (.iconst 0, 1) := by decide +kernel
theorem dX5_kindAt_46 : decode cX5_kindAt 46 = .ok (.istore_n 3, 1) := by decide +kernel
theorem dX5_kindAt_47 : decode cX5_kindAt 47 = .ok (.iload_n 2, 1) := by decide +kernel
theorem dX5_kindAt_48 : decode cX5_kindAt 48 = .ok (.bipush 65, 2) := by decide +kernel
theorem dX5_kindAt_50 : decode cX5_kindAt 50 = .ok (.if_icmp .lt 13, 3) := by decide +kernel
theorem dX5_kindAt_53 : decode cX5_kindAt 53 = .ok (.iload_n 2, 1) := by decide +kernel
theorem dX5_kindAt_54 : decode cX5_kindAt 54 = .ok (.bipush 90, 2) := by decide +kernel
theorem dX5_kindAt_56 : decode cX5_kindAt 56 = .ok (.if_icmp .gt 7, 3) := by decide +kernel
theorem dX5_kindAt_59 : decode cX5_kindAt 59 = .ok (.iconst 1, 1) := by decide +kernel
theorem dX5_kindAt_60 : decode cX5_kindAt 60 = .ok (.goto 4, 3) := by decide +kernel
theorem dX5_kindAt_63 : decode cX5_kindAt 63 = .ok (.iconst 0, 1) := by decide +kernel
theorem dX5_kindAt_64 : decode cX5_kindAt 64 = .ok (.istore 4, 2) := by decide +kernel
theorem dX5_kindAt_66 : decode cX5_kindAt 66 = .ok (.iload_n 2, 1) := by decide +kernel
theorem dX5_kindAt_67 : decode cX5_kindAt 67 = .ok (.bipush 48, 2) := by decide +kernel
theorem dX5_kindAt_69 : decode cX5_kindAt 69 = .ok (.if_icmp .lt 13, 3) := by decide +kernel
theorem dX5_kindAt_72 : decode cX5_kindAt 72 = .ok (.iload_n 2, 1) := by decide +kernel
theorem dX5_kindAt_73 : decode cX5_kindAt 73 = .ok (.bipush 57, 2) := by decide +kernel
theorem dX5_kindAt_75 : decode cX5_kindAt 75 = .ok (.if_icmp .gt 7, 3) := by decide +kernel
theorem dX5_kindAt_78 : decode cX5_kindAt 78 = .ok (.iconst 1, 1) := by decide +kernel
theorem dX5_kindAt_79 : decode cX5_kindAt 79 = .ok (.goto 4, 3) := by decide +kernel
theorem dX5_kindAt_82 : decode cX5_kindAt 82 = .ok (.iconst 0, 1) := by decide +kernel
theorem dX5_kindAt_83 : decode cX5_kindAt 83 = .ok (.istore 5, 2) := by decide +kernel
theorem dX5_kindAt_85 : decode cX5_kindAt 85 = .ok (.iload_n 3, 1) := by decide +kernel
theorem dX5_kindAt_86 : decode cX5_kindAt 86 = .ok (.ifCond .ne 13, 3) := by decide +kernel
theorem dX5_kindAt_89 : decode cX5_kindAt 89 = .ok (.iload 4, 2) := by decide +kernel
theorem dX5_kindAt_91 : decode cX5_kindAt 91 = .ok (.ifCond .ne 8, 3) := by decide +kernel
theorem dX5_kindAt_94 : decode cX5_kindAt 94 = .ok (.iload 5, 2) := by decide +kernel
theorem dX5_kindAt_96 : decode cX5_kindAt 96 = .ok (.ifCond .eq 7, 3) := by decide +kernel
theorem dX5_kindAt_99 : decode cX5_kindAt 99 = .ok (.iconst 1, 1) := by decide +kernel
theorem dX5_kindAt_100 : decode cX5_kindAt 100 = .ok (.goto 4, 3) := by decide +kernel
theorem dX5_kindAt_103 : decode cX5_kindAt 103 = .ok (.iconst 2, 1) := by decide +kernel
theorem dX5_kindAt_104 : decode cX5_kindAt 104 = .ok (.ireturn, 1) := by decide +kernel
theorem dX5_behindKind_0 : decode cX5_behindKind 0 = .ok (.iload_n 1, 1) := by decide +kernel
theorem dX5_behindKind_1 : decode cX5_behindKind 1 = .ok (.istore_n 3, 1) := by decide +kernel
theorem dX5_behindKind_2 : decode cX5_behindKind 2 = .ok (.iload_n 3, 1) := by decide +kernel
theorem dX5_behindKind_3 : decode cX5_behindKind 3 = .ok (.aload_n 0, 1) := by decide +kernel
theorem dX5_behindKind_4 : decode cX5_behindKind 4 = .ok (.getfield 21, 3) := by decide +kernel
theorem dX5_behindKind_7 : decode cX5_behindKind 7 = .ok (.if_icmp .ge 18, 3) := by decide +kernel
theorem dX5_behindKind_10 : decode cX5_behindKind 10 = .ok (.aload_n 0, 1) := by decide +kernel
theorem dX5_behindKind_11 : decode cX5_behindKind 11 = .ok (.iload_n 3, 1) := by decide +kernel
theorem dX5_behindKind_12 : decode cX5_behindKind 12 = .ok (.invokevirtual 42, 3) := by decide +kernel
theorem dX5_behindKind_15 : decode cX5_behindKind 15 = .ok (.iload_n 2, 1) := by decide +kernel
theorem dX5_behindKind_16 : decode cX5_behindKind 16 = .ok (.if_icmp .ne 9, 3) := by decide +kernel
theorem dX5_behindKind_19 : decode cX5_behindKind 19 = .ok (.iinc 3 1, 3) := by decide +kernel
theorem dX5_behindKind_22 : decode cX5_behindKind 22 = .ok (.goto (-20), 3) := by decide +kernel
theorem dX5_behindKind_25 : decode cX5_behindKind 25 = .ok (.iload_n 3, 1) := by decide +kernel
theorem dX5_behindKind_26 : decode cX5_behindKind 26 = .ok (.ireturn, 1) := by decide +kernel
theorem dX5_beginOfKind_0 : decode cX5_beginOfKind 0 = .ok (.iload_n 1, 1) := by decide +kernel
theorem dX5_beginOfKind_1 : decode cX5_beginOfKind 1 = .ok (.istore_n 3, 1) := by decide +kernel
theorem dX5_beginOfKind_2 : decode cX5_beginOfKind 2 = .ok (.iload_n 3, 1) := by decide +kernel
theorem dX5_beginOfKind_3 : decode cX5_beginOfKind 3 = .ok (.ifCond .le 20, 3) := by decide +kernel
theorem dX5_beginOfKind_6 : decode cX5_beginOfKind 6 = .ok (.aload_n 0, 1) := by decide +kernel
theorem dX5_beginOfKind_7 : decode cX5_beginOfKind 7 = .ok (.iload_n 3, 1) := by decide +kernel
theorem dX5_beginOfKind_8 : decode cX5_beginOfKind 8 = .ok (.iconst 1, 1) := by decide +kernel
theorem dX5_beginOfKind_9 : decode cX5_beginOfKind 9 = .ok (.isub, 1) := by decide +kernel
theorem dX5_beginOfKind_10 : decode cX5_beginOfKind 10 = .ok (.invokevirtual 42, 3) := by decide +kernel
theorem dX5_beginOfKind_13 : decode cX5_beginOfKind 13 = .ok (.iload_n 2, 1) := by decide +kernel
theorem dX5_beginOfKind_14 : decode cX5_beginOfKind 14 = .ok (.if_icmp .ne 9, 3) := by decide +kernel
theorem dX5_beginOfKind_17 : decode cX5_beginOfKind 17 = .ok (.iinc 3 (-1), 3) := by decide +kernel
theorem dX5_beginOfKind_20 : decode cX5_beginOfKind 20 = .ok (.goto (-18), 3) := by decide +kernel
theorem dX5_beginOfKind_23 : decode cX5_beginOfKind 23 = .ok (.iload_n 3, 1) := by decide +kernel
theorem dX5_beginOfKind_24 : decode cX5_beginOfKind 24 = .ok (.ireturn, 1) := by decide +kernel
theorem dX5_lead_0 : decode cX5_lead 0 = .ok (.iload_n 1, 1) := by decide +kernel
theorem dX5_lead_1 : decode cX5_lead 1 = .ok (.tableswitch 115 0 5 #[39, 47, 58, 60, 65, 95], 39) := by decide +kernel
theorem dX5_lead_40 : decode cX5_lead 40 = .ok (.iconst 0, 1) := by decide +kernel
theorem dX5_lead_41 : decode cX5_lead 41 = .ok (.iload_n 2, 1) := by decide +kernel
theorem dX5_lead_42 : decode cX5_lead 42 = .ok (.iconst 1, 1) := by decide +kernel
theorem dX5_lead_43 : decode cX5_lead 43 = .ok (.isub, 1) := by decide +kernel
theorem dX5_lead_44 : decode cX5_lead 44 = .ok (.invokestatic 46, 3) := by decide +kernel
theorem dX5_lead_47 : decode cX5_lead 47 = .ok (.ireturn, 1) := by decide +kernel
theorem dX5_lead_48 : decode cX5_lead 48 = .ok (.aload_n 0, 1) := by decide +kernel
theorem dX5_lead_49 : decode cX5_lead 49 = .ok (.getfield 21, 3) := by decide +kernel
theorem dX5_lead_52 : decode cX5_lead 52 = .ok (.iload_n 2, 1) := by decide +kernel
theorem dX5_lead_53 : decode cX5_lead 53 = .ok (.iconst 1, 1) := by decide +kernel
theorem dX5_lead_54 : decode cX5_lead 54 = .ok (.iadd, 1) := by decide +kernel
theorem dX5_lead_55 : decode cX5_lead 55 = .ok (.invokestatic 36, 3) := by decide +kernel
theorem dX5_lead_58 : decode cX5_lead 58 = .ok (.ireturn, 1) := by decide +kernel
theorem dX5_lead_59 : decode cX5_lead 59 = .ok (.iconst 0, 1) := by decide +kernel
theorem dX5_lead_60 : decode cX5_lead 60 = .ok (.ireturn, 1) := by decide +kernel
theorem dX5_lead_61 : decode cX5_lead 61 = .ok (.aload_n 0, 1) := by decide +kernel
theorem dX5_lead_62 : decode cX5_lead 62 = .ok (.invokevirtual 32, 3) := by decide +kernel
theorem dX5_lead_65 : decode cX5_lead 65 = .ok (.ireturn, 1) := by decide +kernel
theorem dX5_lead_66 : decode cX5_lead 66 = .ok (.aload_n 0, 1) := by decide +kernel
theorem dX5_lead_67 : decode cX5_lead 67 = .ok (.iload_n 2, 1) := by decide +kernel
theorem dX5_lead_68 : decode cX5_lead 68 = .ok (.invokevirtual 42, 3) := by decide +kernel
theorem dX5_lead_71 : decode cX5_lead 71 = .ok (.ifCond .ne 7, 3) := by decide +kernel
theorem dX5_lead_74 : decode cX5_lead 74 = .ok (.iload_n 2, 1) := by decide +kernel
theorem dX5_lead_75 : decode cX5_lead 75 = .ok (.goto 13, 3) := by decide +kernel
