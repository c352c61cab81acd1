theorem dX8_deed_0 : decode cX8_deed 0 = .ok (.aload_n 0, 1) := by decide +kernel
theorem dX8_deed_1 : decode cX8_deed 1 = .ok (.getfield 7, 3) := by decide +kernel
theorem dX8_deed_4 : decode cX8_deed 4 = .ok (.bipush 61, 2) := by decide +kernel
theorem dX8_deed_6 : decode cX8_deed 6 = .ok (.iaload, 1) := by decide +kernel
theorem dX8_deed_7 : decode cX8_deed 7 = .ok (.istore_n 2, 1) := by decide +kernel
theorem dX8_deed_8 : decode cX8_deed 8 = .ok (.iload_n 1, 1) := by decide +kernel
theorem dX8_deed_9 : decode cX8_deed 9 = .ok (.lookupswitch 266 #[(46, 233), (65, 213), (73, 207), (80, 170), (97, 186), (99, 131), (100, 131), (105, 180), (109, 260), (112, 160), (114, 260), (117, 224), (120, 142), (121, 131), (126, 151)], 131) := by decide +kernel
theorem dX8_deed_140 : decode cX8_deed 140 = .ok (.aload_n 0, 1) := by decide +kernel
theorem dX8_deed_141 : decode cX8_deed 141 = .ok (.getfield 7, 3) := by decide +kernel
theorem dX8_deed_144 : decode cX8_deed 144 = .ok (.sipush 190, 3) := by decide +kernel
theorem dX8_deed_147 : decode cX8_deed 147 = .ok (.iload_n 1, 1) := by decide +kernel
theorem dX8_deed_148 : decode cX8_deed 148 = .ok (.iastore, 1) := by decide +kernel
theorem dX8_deed_149 : decode cX8_deed 149 = .ok (.iconst 1, 1) := by decide +kernel
theorem dX8_deed_150 : decode cX8_deed 150 = .ok (.ireturn, 1) := by decide +kernel
theorem dX8_deed_151 : decode cX8_deed 151 = .ok (.aload_n 0, 1) := by decide +kernel
theorem dX8_deed_152 : decode cX8_deed 152 = .ok (.aload_n 0, 1) := by decide +kernel
theorem dX8_deed_153 : decode cX8_deed 153 = .ok (.invokevirtual 116, 3) := by decide +kernel
theorem dX8_deed_156 : decode cX8_deed 156 = .ok (.invokevirtual 149, 3) := by decide +kernel
theorem dX8_deed_159 : decode cX8_deed 159 = .ok (.ireturn, 1) := by decide +kernel
theorem dX8_deed_160 : decode cX8_deed 160 = .ok (.aload_n 0, 1) := by decide +kernel
theorem dX8_deed_161 : decode cX8_deed 161 = .ok (.aload_n 0, 1) := by decide +kernel
theorem dX8_deed_162 : decode cX8_deed 162 = .ok (.invokevirtual 116, 3) := by decide +kernel
theorem dX8_deed_165 : decode cX8_deed 165 = .ok (.invokevirtual 152, 3) := by decide +kernel
theorem dX8_deed_168 : decode cX8_deed 168 = .ok (.ireturn, 1) := by decide +kernel
theorem dX8_deed_169 : decode cX8_deed 169 = .ok (.aload_n 0, 1) := by decide +kernel
theorem dX8_deed_170 : decode cX8_deed 170 = .ok (.iconst 1, 1) := by decide +kernel
theorem dX8_deed_171 : decode cX8_deed 171 = .ok (.aload_n 0, 1) := by decide +kernel
theorem dX8_deed_172 : decode cX8_deed 172 = .ok (.invokevirtual 116, 3) := by decide +kernel
theorem dX8_deed_175 : decode cX8_deed 175 = .ok (.invokevirtual 155, 3) := by decide +kernel
theorem dX8_deed_178 : decode cX8_deed 178 = .ok (.ireturn, 1) := by decide +kernel
theorem dX8_deed_179 : decode cX8_deed 179 = .ok (.aload_n 0, 1) := by decide +kernel
theorem dX8_deed_180 : decode cX8_deed 180 = .ok (.iconst 0, 1) := by decide +kernel
theorem dX8_deed_181 : decode cX8_deed 181 = .ok (.aload_n 0, 1) := by decide +kernel
theorem dX8_deed_182 : decode cX8_deed 182 = .ok (.invokevirtual 116, 3) := by decide +kernel
theorem dX8_deed_185 : decode cX8_deed 185 = .ok (.invokevirtual 155, 3) := by decide +kernel
theorem dX8_deed_188 : decode cX8_deed 188 = .ok (.ireturn, 1) := by decide +kernel
theorem dX8_deed_189 : decode cX8_deed 189 = .ok (.aload_n 0, 1) := by decide +kernel
theorem dX8_deed_190 : decode cX8_deed 190 = .ok (.iload_n 2, 1) := by decide +kernel
theorem dX8_deed_191 : decode cX8_deed 191 = .ok (.invokevirtual 107, 3) := by decide +kernel
theorem dX8_deed_194 : decode cX8_deed 194 = .ok (.ireturn, 1) := by decide +kernel
theorem dX8_deed_195 : decode cX8_deed 195 = .ok (.aload_n 0, 1) := by decide +kernel
theorem dX8_deed_196 : decode cX8_deed 196 = .ok (.aload_n 0, 1) := by decide +kernel
theorem dX8_deed_197 : decode cX8_deed 197 = .ok (.getfield 7, 3) := by decide +kernel
theorem dX8_deed_200 : decode cX8_deed 200 = .ok (.iconst 0, 1) := by decide +kernel
theorem dX8_deed_201 : decode cX8_deed 201 = .ok (.iaload, 1) := by decide +kernel
theorem dX8_deed_202 : decode cX8_deed 202 = .ok (.ifCond .ne 7, 3) := by decide +kernel
theorem dX8_deed_205 : decode cX8_deed 205 = .ok (.iconst 0, 1) := by decide +kernel
theorem dX8_deed_206 : decode cX8_deed 206 = .ok (.goto 6, 3) := by decide +kernel
theorem dX8_deed_209 : decode cX8_deed 209 = .ok (.iload_n 2, 1) := by decide +kernel
theorem dX8_deed_210 : decode cX8_deed 210 = .ok (.iconst 1, 1) := by decide +kernel
theorem dX8_deed_211 : decode cX8_deed 211 = .ok (.iadd, 1) := by decide +kernel
theorem dX8_deed_212 : decode cX8_deed 212 = .ok (.invokevirtual 107, 3) := by decide +kernel
theorem dX8_deed_215 : decode cX8_deed 215 = .ok (.ireturn, 1) := by decide +kernel
theorem dX8_deed_216 : decode cX8_deed 216 = .ok (.aload_n 0, 1) := by decide +kernel
theorem dX8_deed_217 : decode cX8_deed 217 = .ok (.iconst 0, 1) := by decide +kernel
theorem dX8_deed_218 : decode cX8_deed 218 = .ok (.invokevirtual 107, 3) := by decide +kernel
theorem dX8_deed_221 : decode cX8_deed 221 = .ok (.ireturn, 1) := by decide +kernel
theorem dX8_deed_222 : decode cX8_deed 222 = .ok (.aload_n 0, 1) := by decide +kernel
theorem dX8_deed_223 : decode cX8_deed 223 = .ok (.aload_n 0, 1) := by decide +kernel
theorem dX8_deed_224 : decode cX8_deed 224 = .ok (.getfield 7, 3) := by decide +kernel
theorem dX8_deed_227 : decode cX8_deed 227 = .ok (.iconst 0, 1) := by decide +kernel
theorem dX8_deed_228 : decode cX8_deed 228 = .ok (.iaload, 1) := by decide +kernel
theorem dX8_deed_229 : decode cX8_deed 229 = .ok (.invokevirtual 107, 3) := by decide +kernel
theorem dX8_deed_232 : decode cX8_deed 232 = .ok (.ireturn, 1) := by decide +kernel
theorem dX8_deed_233 : decode cX8_deed 233 = .ok (.aload_n 0, 1) := by decide +kernel
theorem dX8_deed_234 : decode cX8_deed 234 = .ok (.aload_n 0, 1) := by decide +kernel
theorem dX8_deed_235 : decode cX8_deed 235 = .ok (.invokevirtual 116, 3) := by decide +kernel
theorem dX8_deed_238 : decode cX8_deed 238 = .ok (.invokevirtual 158, 3) := by decide +kernel
theorem dX8_deed_241 : decode cX8_deed 241 = .ok (.ireturn, 1) := by decide +kernel
theorem dX8_deed_242 : decode cX8_deed 242 = .ok (.aload_n 0, 1) := by decide +kernel
theorem dX8_deed_243 : decode cX8_deed 243 = .ok (.getfield 7, 3) := by decide +kernel
theorem dX8_deed_246 : decode cX8_deed 246 = .ok (.sipush 128, 3) := by decide +kernel
theorem dX8_deed_249 : decode cX8_deed 249 = .ok (.iaload, 1) := by decide +kernel
theorem dX8_deed_250 : decode cX8_deed 250 = .ok (.i2l, 1) := by decide +kernel
theorem dX8_deed_251 : decode cX8_deed 251 = .ok (.lconst 1, 1) := by decide +kernel
theorem dX8_deed_252 : decode cX8_deed 252 = .ok (.ldc2_w 161, 3) := by decide +kernel
theorem dX8_deed_255 : decode cX8_deed 255 = .ok (.invokestatic 58, 3) := by decide +kernel
theorem dX8_deed_258 : decode cX8_deed 258 = .ok (.ifCond .eq 8, 3) := by decide +kernel
theorem dX8_deed_261 : decode cX8_deed 261 = .ok (.bipush 9, 2) := by decide +kernel
theorem dX8_deed_263 : decode cX8_deed 263 = .ok (.goto 5, 3) := by decide +kernel
theorem dX8_deed_266 : decode cX8_deed 266 = .ok (.bipush (-2), 2) := by decide +kernel
theorem dX8_deed_268 : decode cX8_deed 268 = .ok (.ireturn, 1) := by decide +kernel
theorem dX8_deed_269 : decode cX8_deed 269 = .ok (.aload_n 0, 1) := by decide +kernel
theorem dX8_deed_270 : decode cX8_deed 270 = .ok (.iload_n 1, 1) := by decide +kernel
theorem dX8_deed_271 : decode cX8_deed 271 = .ok (.invokevirtual 163, 3) := by decide +kernel
theorem dX8_deed_274 : decode cX8_deed 274 = .ok (.ireturn, 1) := by decide +kernel
theorem dX8_deed_275 : decode cX8_deed 275 = .ok (.bipush (-2), 2) := by decide +kernel
theorem dX8_deed_277 : decode cX8_deed 277 = .ok (.ireturn, 1) := by decide +kernel
theorem dX8_commands_0 : decode cX8_commands 0 = .ok (.aload_n 0, 1) := by decide +kernel
theorem dX8_commands_1 : decode cX8_commands 1 = .ok (.getfield 7, 3) := by decide +kernel
theorem dX8_commands_4 : decode cX8_commands 4 = .ok (.sipush 193, 3) := by decide +kernel
theorem dX8_commands_7 : decode cX8_commands 7 = .ok (.iaload, 1) := by decide +kernel
theorem dX8_commands_8 : decode cX8_commands 8 = .ok (.ifCond .eq 9, 3) := by decide +kernel
theorem dX8_commands_11 : decode cX8_commands 11 = .ok (.aload_n 0, 1) := by decide +kernel
theorem dX8_commands_12 : decode cX8_commands 12 = .ok (.iload_n 1, 1) := by decide +kernel
theorem dX8_commands_13 : decode cX8_commands 13 = .ok (.invokevirtual 166, 3) := by decide +kernel
theorem dX8_commands_16 : decode cX8_commands 16 = .ok (.ireturn, 1) := by decide +kernel
theorem dX8_commands_17 : decode cX8_commands 17 = .ok (.aload_n 0, 1) := by decide +kernel
theorem dX8_commands_18 : decode cX8_commands 18 = .ok (.getfield 7, 3) := by decide +kernel
theorem dX8_commands_21 : decode cX8_commands 21 = .ok (.sipush 190, 3) := by decide +kernel
theorem dX8_commands_24 : decode cX8_commands 24 = .ok (.iaload, 1) := by decide +kernel
theorem dX8_commands_25 : decode cX8_commands 25 = .ok (.ifCond .ne 9, 3) := by decide +kernel
theorem dX8_commands_28 : decode cX8_commands 28 = .ok (.sipush 191, 3) := by decide +kernel
theorem dX8_commands_31 : decode cX8_commands 31 = .ok (.goto 6, 3) := by decide +kernel
theorem dX8_commands_34 : decode cX8_commands 34 = .ok (.sipush 192, 3) := by decide +kernel
theorem dX8_commands_37 : decode cX8_commands 37 = .ok (.istore_n 2, 1) := by decide +kernel
theorem dX8_commands_38 : decode cX8_commands 38 = .ok (.iload_n 1, 1) := by decide +kernel
theorem dX8_commands_39 : decode cX8_commands 39 = .ok (.i2l, 1) := by decide +kernel
theorem dX8_commands_40 : decode cX8_commands 40 = .ok (.ldc2_w 169, 3) := by decide +kernel
theorem dX8_commands_43 : decode cX8_commands 43 = .ok (.ldc2_w 68, 3) := by decide +kernel
theorem dX8_commands_46 : decode cX8_commands 46 = .ok (.invokestatic 58, 3) := by decide +kernel
theorem dX8_commands_49 : decode cX8_commands 49 = .ok (.ifCond .ne 18, 3) := by decide +kernel
theorem dX8_commands_52 : decode cX8_commands 52 = .ok (.iload_n 1, 1) := by decide +kernel
theorem dX8_commands_53 : decode cX8_commands 53 = .ok (.bipush 48, 2) := by decide +kernel
theorem dX8_commands_55 : decode cX8_commands 55 = .ok (.if_icmp .ne 39, 3) := by decide +kernel
theorem dX8_commands_58 : decode cX8_commands 58 = .ok (.aload_n 0, 1) := by decide +kernel
theorem dX8_commands_59 : decode cX8_commands 59 = .ok (.getfield 7, 3) := by decide +kernel
theorem dX8_commands_62 : decode cX8_commands 62 = .ok (.iload_n 2, 1) := by decide +kernel
theorem dX8_commands_63 : decode cX8_commands 63 = .ok (.iaload, 1) := by decide +kernel
theorem dX8_commands_64 : decode cX8_commands 64 = .ok (.ifCond .le 30, 3) := by decide +kernel
theorem dX8_commands_67 : decode cX8_commands 67 = .ok (.aload_n 0, 1) := by decide +kernel
theorem dX8_commands_68 : decode cX8_commands 68 = .ok (.getfield 7, 3) := by decide +kernel
theorem dX8_commands_71 : decode cX8_commands 71 = .ok (.iload_n 2, 1) := by decide +kernel
theorem dX8_commands_72 : decode cX8_commands 72 = .ok (.bipush 10, 2) := by decide +kernel
theorem dX8_commands_74 : decode cX8_commands 74 = .ok (.aload_n 0, 1) := by decide +kernel
theorem dX8_commands_75 : decode cX8_commands 75 = .ok (.getfield 7, 3) := by decide +kernel
theorem dX8_commands_78 : decode cX8_commands 78 = .ok (.iload_n 2, 1) := by decide +kernel
theorem dX8_commands_79 : decode cX8_commands 79 = .ok (.iaload, 1) := by decide +kernel
theorem dX8_commands_80 : decode cX8_commands 80 = .ok (.imul, 1) := by decide +kernel
theorem dX8_commands_81 : decode cX8_commands 81 = .ok (.iload_n 1, 1) := by decide +kernel
theorem dX8_commands_82 : decode cX8_commands 82 = .ok (.iadd, 1) := by decide +kernel
theorem dX8_commands_83 : decode cX8_commands 83 = .ok (.bipush 48, 2) := by decide +kernel
theorem dX8_commands_85 : decode cX8_commands 85 = .ok (.isub, 1) := by decide +kernel
theorem dX8_commands_86 : decode cX8_commands 86 = .ok (.bipush 99, 2) := by decide +kernel
theorem dX8_commands_88 : decode cX8_commands 88 = .ok (.invokestatic 94, 3) := by decide +kernel
theorem dX8_commands_91 : decode cX8_commands 91 = .ok (.iastore, 1) := by decide +kernel
theorem dX8_commands_92 : decode cX8_commands 92 = .ok (.iconst 1, 1) := by decide +kernel
theorem dX8_commands_93 : decode cX8_commands 93 = .ok (.ireturn, 1) := by decide +kernel
theorem dX8_commands_94 : decode cX8_commands 94 = .ok (.aload_n 0, 1) := by decide +kernel
theorem dX8_commands_95 : decode cX8_commands 95 = .ok (.iload_n 1, 1) := by decide +kernel
theorem dX8_commands_96 : decode cX8_commands 96 = .ok (.invokevirtual 171, 3) := by decide +kernel
theorem dX8_commands_99 : decode cX8_commands 99 = .ok (.istore_n 3, 1) := by decide +kernel
theorem dX8_commands_100 : decode cX8_commands 100 = .ok (.iload_n 3, 1) := by decide +kernel
theorem dX8_commands_101 : decode cX8_commands 101 = .ok (.bipush (-4), 2) := by decide +kernel
theorem dX8_commands_103 : decode cX8_commands 103 = .ok (.if_icmp .eq 9, 3) := by decide +kernel
theorem dX8_commands_106 : decode cX8_commands 106 = .ok (.aload_n 0, 1) := by decide +kernel
theorem dX8_commands_107 : decode cX8_commands 107 = .ok (.iload_n 3, 1) := by decide +kernel
theorem dX8_commands_108 : decode cX8_commands 108 = .ok (.invokevirtual 174, 3) := by decide +kernel
theorem dX8_commands_111 : decode cX8_commands 111 = .ok (.ireturn, 1) := by decide +kernel
theorem dX8_commands_112 : decode cX8_commands 112 = .ok (.iload_n 1, 1) := by decide +kernel
theorem dX8_commands_113 : decode cX8_commands 113 = .ok (.bipush 102, 2) := by decide +kernel
theorem dX8_commands_115 : decode cX8_commands 115 = .ok (.if_icmp .eq 15, 3) := by decide +kernel
theorem dX8_commands_118 : decode cX8_commands 118 = .ok (.iload_n 1, 1) := by decide +kernel
theorem dX8_commands_119 : decode cX8_commands 119 = .ok (.bipush 116, 2) := by decide +kernel
theorem dX8_commands_121 : decode cX8_commands 121 = .ok (.if_icmp .eq 9, 3) := by decide +kernel
theorem dX8_commands_124 : decode cX8_commands 124 = .ok (.iload_n 1, 1) := by decide +kernel
theorem dX8_commands_125 : decode cX8_commands 125 = .ok (.bipush 39, 2) := by decide +kernel
theorem dX8_commands_127 : decode cX8_commands 127 = .ok (.if_icmp .ne 9, 3) := by decide +kernel
theorem dX8_commands_130 : decode cX8_commands 130 = .ok (.aload_n 0, 1) := by decide +kernel
theorem dX8_commands_131 : decode cX8_commands 131 = .ok (.iload_n 1, 1) := by decide +kernel
theorem dX8_commands_132 : decode cX8_commands 132 = .ok (.invokevirtual 163, 3) := by decide +kernel
theorem dX8_commands_135 : decode cX8_commands 135 = .ok (.ireturn, 1) := by decide +kernel
theorem dX8_commands_136 : decode cX8_commands 136 = .ok (.aload_n 0, 1) := by decide +kernel
theorem dX8_commands_137 : decode cX8_commands 137 = .ok (.getfield 7, 3) := by decide +kernel
theorem dX8_commands_140 : decode cX8_commands 140 = .ok (.sipush 190, 3) := by decide +kernel
theorem dX8_commands_143 : decode cX8_commands 143 = .ok (.iaload, 1) := by decide +kernel
theorem dX8_commands_144 : decode cX8_commands 144 = .ok (.ifCond .ne 9, 3) := by decide +kernel
theorem dX8_commands_147 : decode cX8_commands 147 = .ok (.aload_n 0, 1) := by decide +kernel
theorem dX8_commands_148 : decode cX8_commands 148 = .ok (.iload_n 1, 1) := by decide +kernel
theorem dX8_commands_149 : decode cX8_commands 149 = .ok (.invokevirtual 177, 3) := by decide +kernel
theorem dX8_commands_152 : decode cX8_commands 152 = .ok (.ireturn, 1) := by decide +kernel
theorem dX8_commands_153 : decode cX8_commands 153 = .ok (.iload_n 1, 1) := by decide +kernel
theorem dX8_commands_154 : decode cX8_commands 154 = .ok (.aload_n 0, 1) := by decide +kernel
theorem dX8_commands_155 : decode cX8_commands 155 = .ok (.getfield 7, 3) := by decide +kernel
theorem dX8_commands_158 : decode cX8_commands 158 = .ok (.sipush 190, 3) := by decide +kernel
theorem dX8_commands_161 : decode cX8_commands 161 = .ok (.iaload, 1) := by decide +kernel
theorem dX8_commands_162 : decode cX8_commands 162 = .ok (.if_icmp .ne 15, 3) := by decide +kernel
theorem dX8_commands_165 : decode cX8_commands 165 = .ok (.aload_n 0, 1) := by decide +kernel
theorem dX8_commands_166 : decode cX8_commands 166 = .ok (.iconst 0, 1) := by decide +kernel
theorem dX8_commands_167 : decode cX8_commands 167 = .ok (.aload_n 0, 1) := by decide +kernel
theorem dX8_commands_168 : decode cX8_commands 168 = .ok (.getfield 7, 3) := by decide +kernel
theorem dX8_commands_171 : decode cX8_commands 171 = .ok (.iconst 0, 1) := by decide +kernel
theorem dX8_commands_172 : decode cX8_commands 172 = .ok (.iaload, 1) := by decide +kernel
theorem dX8_commands_173 : decode cX8_commands 173 = .ok (.invokevirtual 113, 3) := by decide +kernel
theorem dX8_commands_176 : decode cX8_commands 176 = .ok (.ireturn, 1) := by decide +kernel
theorem dX8_commands_177 : decode cX8_commands 177 = .ok (.iload_n 1, 1) := by decide +kernel
theorem dX8_commands_178 : decode cX8_commands 178 = .ok (.bipush 105, 2) := by decide +kernel
theorem dX8_commands_180 : decode cX8_commands 180 = .ok (.if_icmp .eq 9, 3) := by decide +kernel
theorem dX8_commands_183 : decode cX8_commands 183 = .ok (.iload_n 1, 1) := by decide +kernel
theorem dX8_commands_184 : decode cX8_commands 184 = .ok (.bipush 97, 2) := by decide +kernel
theorem dX8_commands_186 : decode cX8_commands 186 = .ok (.if_icmp .ne 11, 3) := by decide +kernel
theorem dX8_commands_189 : decode cX8_commands 189 = .ok (.aload_n 0, 1) := by decide +kernel
theorem dX8_commands_190 : decode cX8_commands 190 = .ok (.iload_n 1, 1) := by decide +kernel
theorem dX8_commands_191 : decode cX8_commands 191 = .ok (.invokevirtual 163, 3) := by decide +kernel
theorem dX8_commands_194 : decode cX8_commands 194 = .ok (.goto 5, 3) := by decide +kernel
theorem dX8_commands_197 : decode cX8_commands 197 = .ok (.bipush (-2), 2) := by decide +kernel
theorem dX8_commands_199 : decode cX8_commands 199 = .ok (.ireturn, 1) := by decide +kernel
theorem dX8_inserted_0 : decode cX8_inserted 0 = .ok (.aload_n 0, 1) := by decide +kernel
theorem dX8_inserted_1 : decode cX8_inserted 1 = .ok (.iload_n 1, 1) := by decide +kernel
theorem dX8_inserted_2 : decode cX8_inserted 2 = .ok (.invokevirtual 180, 3) := by decide +kernel
theorem dX8_inserted_5 : decode cX8_inserted 5 = .ok (.iload_n 1, 1) := by decide +kernel
theorem dX8_inserted_6 : decode cX8_inserted 6 = .ok (.bipush 33, 2) := by decide +kernel
theorem dX8_inserted_8 : decode cX8_inserted 8 = .ok (.if_icmp .ne 51, 3) := by decide +kernel
theorem dX8_inserted_11 : decode cX8_inserted 11 = .ok (.aload_n 0, 1) := by decide +kernel
theorem dX8_inserted_12 : decode cX8_inserted 12 = .ok (.getfield 7, 3) := by decide +kernel
theorem dX8_inserted_15 : decode cX8_inserted 15 = .ok (.bipush 62, 2) := by decide +kernel
theorem dX8_inserted_17 : decode cX8_inserted 17 = .ok (.iconst 0, 1) := by decide +kernel
theorem dX8_inserted_18 : decode cX8_inserted 18 = .ok (.iastore, 1) := by decide +kernel
theorem dX8_inserted_19 : decode cX8_inserted 19 = .ok (.aload_n 0, 1) := by decide +kernel
theorem dX8_inserted_20 : decode cX8_inserted 20 = .ok (.getfield 7, 3) := by decide +kernel
theorem dX8_inserted_23 : decode cX8_inserted 23 = .ok (.bipush 61, 2) := by decide +kernel
theorem dX8_inserted_25 : decode cX8_inserted 25 = .ok (.aload_n 0, 1) := by decide +kernel
theorem dX8_inserted_26 : decode cX8_inserted 26 = .ok (.getfield 7, 3) := by decide +kernel
theorem dX8_inserted_29 : decode cX8_inserted 29 = .ok (.bipush 61, 2) := by decide +kernel
theorem dX8_inserted_31 : decode cX8_inserted 31 = .ok (.iaload, 1) := by decide +kernel
theorem dX8_inserted_32 : decode cX8_inserted 32 = .ok (.ifCond .ne 7, 3) := by decide +kernel
theorem dX8_inserted_35 : decode cX8_inserted 35 = .ok (.iconst 0, 1) := by decide +kernel
theorem dX8_inserted_36 : decode cX8_inserted 36 = .ok (.goto 12, 3) := by decide +kernel
theorem dX8_inserted_39 : decode cX8_inserted 39 = .ok (.aload_n 0, 1) := by decide +kernel
theorem dX8_inserted_40 : decode cX8_inserted 40 = .ok (.getfield 7, 3) := by decide +kernel
theorem dX8_inserted_43 : decode cX8_inserted 43 = .ok (.bipush 61, 2) := by decide +kernel
theorem dX8_inserted_45 : decode cX8_inserted 45 = .ok (.iaload, 1) := by decide +kernel
theorem dX8_inserted_46 : decode cX8_inserted 46 = .ok (.iconst 1, 1) := by decide +kernel
theorem dX8_inserted_47 : decode cX8_inserted 47 = .ok (.isub, 1) := by decide +kernel
theorem dX8_inserted_48 : decode cX8_inserted 48 = .ok (.iastore, 1) := by decide +kernel
theorem dX8_inserted_49 : decode cX8_inserted 49 = .ok (.aload_n 0, 1) := by decide +kernel
theorem dX8_inserted_50 : decode cX8_inserted 50 = .ok (.invokevirtual 110, 3) := by decide +kernel
theorem dX8_inserted_53 : decode cX8_inserted 53 = .ok (.aload_n 0, 1) := by decide +kernel
theorem dX8_inserted_54 : decode cX8_inserted 54 = .ok (.invokevirtual 184, 3) := by decide +kernel
theorem dX8_inserted_57 : decode cX8_inserted 57 = .ok (.iconst 0, 1) := by decide +kernel
theorem dX8_inserted_58 : decode cX8_inserted 58 = .ok (.ireturn, 1) := by decide +kernel
theorem dX8_inserted_59 : decode cX8_inserted 59 = .ok (.aload_n 0, 1) := by decide +kernel
theorem dX8_inserted_60 : decode cX8_inserted 60 = .ok (.getfield 7, 3) := by decide +kernel
theorem dX8_inserted_63 : decode cX8_inserted 63 = .ok (.iconst 0, 1) := by decide +kernel
theorem dX8_inserted_64 : decode cX8_inserted 64 = .ok (.iaload, 1) := by decide +kernel
theorem dX8_inserted_65 : decode cX8_inserted 65 = .ok (.bipush 60, 2) := by decide +kernel
theorem dX8_inserted_67 : decode cX8_inserted 67 = .ok (.if_icmp .ne 6, 3) := by decide +kernel
theorem dX8_inserted_70 : decode cX8_inserted 70 = .ok (.bipush (-3), 2) := by decide +kernel
theorem dX8_inserted_72 : decode cX8_inserted 72 = .ok (.ireturn, 1) := by decide +kernel
theorem dX8_inserted_73 : decode cX8_inserted 73 = .ok (.aload_n 0, 1) := by decide +kernel
theorem dX8_inserted_74 : decode cX8_inserted 74 = .ok (.getfield 7, 3) := by decide +kernel
theorem dX8_inserted_77 : decode cX8_inserted 77 = .ok (.iconst 0, 1) := by decide +kernel
theorem dX8_inserted_78 : decode cX8_inserted 78 = .ok (.iaload, 1) := by decide +kernel
theorem dX8_inserted_79 : decode cX8_inserted 79 = .ok (.istore_n 2, 1) := by decide +kernel
theorem dX8_inserted_80 : decode cX8_inserted 80 = .ok (.iload_n 2, 1) := by decide +kernel
theorem dX8_inserted_81 : decode cX8_inserted 81 = .ok (.aload_n 0, 1) := by decide +kernel
theorem dX8_inserted_82 : decode cX8_inserted 82 = .ok (.getfield 7, 3) := by decide +kernel
theorem dX8_inserted_85 : decode cX8_inserted 85 = .ok (.bipush 61, 2) := by decide +kernel
theorem dX8_inserted_87 : decode cX8_inserted 87 = .ok (.iaload, 1) := by decide +kernel
theorem dX8_inserted_88 : decode cX8_inserted 88 = .ok (.if_icmp .le 27, 3) := by decide +kernel
theorem dX8_inserted_91 : decode cX8_inserted 91 = .ok (.aload_n 0, 1) := by decide +kernel
theorem dX8_inserted_92 : decode cX8_inserted 92 = .ok (.getfield 7, 3) := by decide +kernel
theorem dX8_inserted_95 : decode cX8_inserted 95 = .ok (.iconst 1, 1) := by decide +kernel
theorem dX8_inserted_96 : decode cX8_inserted 96 = .ok (.iload_n 2, 1) := by decide +kernel
theorem dX8_inserted_97 : decode cX8_inserted 97 = .ok (.iadd, 1) := by decide +kernel
theorem dX8_inserted_98 : decode cX8_inserted 98 = .ok (.aload_n 0, 1) := by decide +kernel
theorem dX8_inserted_99 : decode cX8_inserted 99 = .ok (.getfield 7, 3) := by decide +kernel
theorem dX8_inserted_102 : decode cX8_inserted 102 = .ok (.iconst 1, 1) := by decide +kernel
theorem dX8_inserted_103 : decode cX8_inserted 103 = .ok (.iload_n 2, 1) := by decide +kernel
theorem dX8_inserted_104 : decode cX8_inserted 104 = .ok (.iadd, 1) := by decide +kernel
theorem dX8_inserted_105 : decode cX8_inserted 105 = .ok (.iconst 1, 1) := by decide +kernel
theorem dX8_inserted_106 : decode cX8_inserted 106 = .ok (.isub, 1) := by decide +kernel
theorem dX8_inserted_107 : decode cX8_inserted 107 = .ok (.iaload, 1) := by decide +kernel
theorem dX8_inserted_108 : decode cX8_inserted 108 = .ok (.iastore, 1) := by decide +kernel
theorem dX8_inserted_109 : decode cX8_inserted 109 = .ok (.iinc 2 (-1), 3) := by decide +kernel
theorem dX8_inserted_112 : decode cX8_inserted 112 = .ok (.goto (-32), 3) := by decide +kernel
theorem dX8_inserted_115 : decode cX8_inserted 115 = .ok (.aload_n 0, 1) := by decide +kernel
theorem dX8_inserted_116 : decode cX8_inserted 116 = .ok (.getfield 7, 3) := by decide +kernel
theorem dX8_inserted_119 : decode cX8_inserted 119 = .ok (.iconst 1, 1) := by decide +kernel
theorem dX8_inserted_120 : decode cX8_inserted 120 = .ok (.aload_n 0, 1) := by decide +kernel
theorem dX8_inserted_121 : decode cX8_inserted 121 = .ok (.getfield 7, 3) := by decide +kernel
theorem dX8_inserted_124 : decode cX8_inserted 124 = .ok (.bipush 61, 2) := by decide +kernel
theorem dX8_inserted_126 : decode cX8_inserted 126 = .ok (.iaload, 1) := by decide +kernel
theorem dX8_inserted_127 : decode cX8_inserted 127 = .ok (.iadd, 1) := by decide +kernel
theorem dX8_inserted_128 : decode cX8_inserted 128 = .ok (.iload_n 1, 1) := by decide +kernel
theorem dX8_inserted_129 : decode cX8_inserted 129 = .ok (.iastore, 1) := by decide +kernel
theorem dX8_inserted_130 : decode cX8_inserted 130 = .ok (.aload_n 0, 1) := by decide +kernel
theorem dX8_inserted_131 : decode cX8_inserted 131 = .ok (.getfield 7, 3) := by decide +kernel
theorem dX8_inserted_134 : decode cX8_inserted 134 = .ok (.iconst 0, 1) := by decide +kernel
theorem dX8_inserted_135 : decode cX8_inserted 135 = .ok (.dup2, 1) := by decide +kernel
theorem dX8_inserted_136 : decode cX8_inserted 136 = .ok (.iaload, 1) := by decide +kernel
theorem dX8_inserted_137 : decode cX8_inserted 137 = .ok (.iconst 1, 1) := by decide +kernel
theorem dX8_inserted_138 : decode cX8_inserted 138 = .ok (.iadd, 1) := by decide +kernel
theorem dX8_inserted_139 : decode cX8_inserted 139 = .ok (.iastore, 1) := by decide +kernel
theorem dX8_inserted_140 : decode cX8_inserted 140 = .ok (.aload_n 0, 1) := by decide +kernel
theorem dX8_inserted_141 : decode cX8_inserted 141 = .ok (.getfield 7, 3) := by decide +kernel
theorem dX8_inserted_144 : decode cX8_inserted 144 = .ok (.bipush 61, 2) := by decide +kernel
theorem dX8_inserted_146 : decode cX8_inserted 146 = .ok (.dup2, 1) := by decide +kernel
theorem dX8_inserted_147 : decode cX8_inserted 147 = .ok (.iaload, 1) := by decide +kernel
theorem dX8_inserted_148 : decode cX8_inserted 148 = .ok (.iconst 1, 1) := by decide +kernel
theorem dX8_inserted_149 : decode cX8_inserted 149 = .ok (.iadd, 1) := by decide +kernel
theorem dX8_inserted_150 : decode cX8_inserted 150 = .ok (.iastore, 1) := by decide +kernel
theorem dX8_inserted_151 : decode cX8_inserted 151 = .ok (.iconst 2, 1) := by decide +kernel
theorem dX8_inserted_152 : decode cX8_inserted 152 = .ok (.ireturn, 1) := by decide +kernel
theorem dX8_strikes_0 : decode cX8_strikes 0 = .ok (.aload_n 0, 1) := by decide +kernel
theorem dX8_strikes_1 : decode cX8_strikes 1 = .ok (.getfield 7, 3) := by decide +kernel
theorem dX8_strikes_4 : decode cX8_strikes 4 = .ok (.bipush 62, 2) := by decide +kernel
theorem dX8_strikes_6 : decode cX8_strikes 6 = .ok (.iaload, 1) := by decide +kernel
theorem dX8_strikes_7 : decode cX8_strikes 7 = .ok (.iconst 1, 1) := by decide +kernel
theorem dX8_strikes_8 : decode cX8_strikes 8 = .ok (.if_icmp .ne 9, 3) := by decide +kernel
theorem dX8_strikes_11 : decode cX8_strikes 11 = .ok (.aload_n 0, 1) := by decide +kernel
theorem dX8_strikes_12 : decode cX8_strikes 12 = .ok (.iload_n 1, 1) := by decide +kernel
theorem dX8_strikes_13 : decode cX8_strikes 13 = .ok (.invokevirtual 187, 3) := by decide +kernel
theorem dX8_strikes_16 : decode cX8_strikes 16 = .ok (.ireturn, 1) := by decide +kernel
theorem dX8_strikes_17 : decode cX8_strikes 17 = .ok (.aload_n 0, 1) := by decide +kernel
theorem dX8_strikes_18 : decode cX8_strikes 18 = .ok (.getfield 7, 3) := by decide +kernel
theorem dX8_strikes_21 : decode cX8_strikes 21 = .ok (.sipush 159, 3) := by decide +kernel
theorem dX8_strikes_24 : decode cX8_strikes 24 = .ok (.iaload, 1) := by decide +kernel
theorem dX8_strikes_25 : decode cX8_strikes 25 = .ok (.ifCond .ne 33, 3) := by decide +kernel
theorem dX8_strikes_28 : decode cX8_strikes 28 = .ok (.iconst 0, 1) := by decide +kernel
theorem dX8_strikes_29 : decode cX8_strikes 29 = .ok (.istore_n 2, 1) := by decide +kernel
theorem dX8_strikes_30 : decode cX8_strikes 30 = .ok (.iload_n 2, 1) := by decide +kernel
theorem dX8_strikes_31 : decode cX8_strikes 31 = .ok (.bipush 62, 2) := by decide +kernel
theorem dX8_strikes_33 : decode cX8_strikes 33 = .ok (.if_icmp .ge 25, 3) := by decide +kernel
theorem dX8_strikes_36 : decode cX8_strikes 36 = .ok (.aload_n 0, 1) := by decide +kernel
theorem dX8_strikes_37 : decode cX8_strikes 37 = .ok (.getfield 7, 3) := by decide +kernel
theorem dX8_strikes_40 : decode cX8_strikes 40 = .ok (.sipush 194, 3) := by decide +kernel
theorem dX8_strikes_43 : decode cX8_strikes 43 = .ok (.iload_n 2, 1) := by decide +kernel
theorem dX8_strikes_44 : decode cX8_strikes 44 = .ok (.iadd, 1) := by decide +kernel
theorem dX8_strikes_45 : decode cX8_strikes 45 = .ok (.aload_n 0, 1) := by decide +kernel
theorem dX8_strikes_46 : decode cX8_strikes 46 = .ok (.getfield 7, 3) := by decide +kernel
theorem dX8_strikes_49 : decode cX8_strikes 49 = .ok (.iload_n 2, 1) := by decide +kernel
theorem dX8_strikes_50 : decode cX8_strikes 50 = .ok (.iaload, 1) := by decide +kernel
theorem dX8_strikes_51 : decode cX8_strikes 51 = .ok (.iastore, 1) := by decide +kernel
theorem dX8_strikes_52 : decode cX8_strikes 52 = .ok (.iinc 2 1, 3) := by decide +kernel
theorem dX8_strikes_55 : decode cX8_strikes 55 = .ok (.goto (-25), 3) := by decide +kernel
theorem dX8_strikes_58 : decode cX8_strikes 58 = .ok (.aload_n 0, 1) := by decide +kernel
theorem dX8_strikes_59 : decode cX8_strikes 59 = .ok (.iload_n 1, 1) := by decide +kernel
theorem dX8_strikes_60 : decode cX8_strikes 60 = .ok (.invokevirtual 180, 3) := by decide +kernel
theorem dX8_strikes_63 : decode cX8_strikes 63 = .ok (.aload_n 0, 1) := by decide +kernel
theorem dX8_strikes_64 : decode cX8_strikes 64 = .ok (.iload_n 1, 1) := by decide +kernel
theorem dX8_strikes_65 : decode cX8_strikes 65 = .ok (.invokevirtual 190, 3) := by decide +kernel
theorem dX8_strikes_68 : decode cX8_strikes 68 = .ok (.istore_n 2, 1) := by decide +kernel
theorem dX8_strikes_69 : decode cX8_strikes 69 = .ok (.iload_n 2, 1) := by decide +kernel
theorem dX8_strikes_70 : decode cX8_strikes 70 = .ok (.iconst 1, 1) := by decide +kernel
theorem dX8_strikes_71 : decode cX8_strikes 71 = .ok (.if_icmp .eq 12, 3) := by decide +kernel
theorem dX8_strikes_74 : decode cX8_strikes 74 = .ok (.iload_n 2, 1) := by decide +kernel
theorem dX8_strikes_75 : decode cX8_strikes 75 = .ok (.iconst 2, 1) := by decide +kernel
theorem dX8_strikes_76 : decode cX8_strikes 76 = .ok (.if_icmp .eq 7, 3) := by decide +kernel
theorem dX8_strikes_79 : decode cX8_strikes 79 = .ok (.aload_n 0, 1) := by decide +kernel
theorem dX8_strikes_80 : decode cX8_strikes 80 = .ok (.invokevirtual 184, 3) := by decide +kernel
theorem dX8_strikes_83 : decode cX8_strikes 83 = .ok (.iload_n 2, 1) := by decide +kernel
theorem dX8_strikes_84 : decode cX8_strikes 84 = .ok (.ireturn, 1) := by decide +kernel
theorem dX8_keyed_0 : decode cX8_keyed 0 = .ok (.aload_n 0, 1) := by decide +kernel
theorem dX8_keyed_1 : decode cX8_keyed 1 = .ok (.iload_n 1, 1) := by decide +kernel
theorem dX8_keyed_2 : decode cX8_keyed 2 = .ok (.invokevirtual 193, 3) := by decide +kernel
theorem dX8_keyed_5 : decode cX8_keyed 5 = .ok (.istore_n 2, 1) := by decide +kernel
theorem dX8_keyed_6 : decode cX8_keyed 6 = .ok (.iload_n 2, 1) := by decide +kernel
theorem dX8_keyed_7 : decode cX8_keyed 7 = .ok (.bipush 9, 2) := by decide +kernel
theorem dX8_keyed_9 : decode cX8_keyed 9 = .ok (.if_icmp .eq 5, 3) := by decide +kernel
theorem dX8_keyed_12 : decode cX8_keyed 12 = .ok (.iload_n 2, 1) := by decide +kernel
theorem dX8_keyed_13 : decode cX8_keyed 13 = .ok (.ireturn, 1) := by decide +kernel
theorem dX8_keyed_14 : decode cX8_keyed 14 = .ok (.aload_n 0, 1) := by decide +kernel
theorem dX8_keyed_15 : decode cX8_keyed 15 = .ok (.getfield 7, 3) := by decide +kernel
theorem dX8_keyed_18 : decode cX8_keyed 18 = .ok (.sipush 128, 3) := by decide +kernel
theorem dX8_keyed_21 : decode cX8_keyed 21 = .ok (.iaload, 1) := by decide +kernel
theorem dX8_keyed_22 : decode cX8_keyed 22 = .ok (.istore_n 3, 1) := by decide +kernel
theorem dX8_keyed_23 : decode cX8_keyed 23 = .ok (.iconst 0, 1) := by decide +kernel
theorem dX8_keyed_24 : decode cX8_keyed 24 = .ok (.istore 4, 2) := by decide +kernel
theorem dX8_keyed_26 : decode cX8_keyed 26 = .ok (.iload 4, 2) := by decide +kernel
theorem dX8_keyed_28 : decode cX8_keyed 28 = .ok (.iload_n 3, 1) := by decide +kernel
theorem dX8_keyed_29 : decode cX8_keyed 29 = .ok (.if_icmp .ge 27, 3) := by decide +kernel
theorem dX8_keyed_32 : decode cX8_keyed 32 = .ok (.aload_n 0, 1) := by decide +kernel
theorem dX8_keyed_33 : decode cX8_keyed 33 = .ok (.getfield 16, 3) := by decide +kernel
theorem dX8_keyed_36 : decode cX8_keyed 36 = .ok (.iload 4, 2) := by decide +kernel
theorem dX8_keyed_38 : decode cX8_keyed 38 = .ok (.aload_n 0, 1) := by decide +kernel
theorem dX8_keyed_39 : decode cX8_keyed 39 = .ok (.getfield 7, 3) := by decide +kernel
theorem dX8_keyed_42 : decode cX8_keyed 42 = .ok (.sipush 129, 3) := by decide +kernel
theorem dX8_keyed_45 : decode cX8_keyed 45 = .ok (.iload 4, 2) := by decide +kernel
theorem dX8_keyed_47 : decode cX8_keyed 47 = .ok (.iadd, 1) := by decide +kernel
theorem dX8_keyed_48 : decode cX8_keyed 48 = .ok (.iaload, 1) := by decide +kernel
theorem dX8_keyed_49 : decode cX8_keyed 49 = .ok (.iastore, 1) := by decide +kernel
theorem dX8_keyed_50 : decode cX8_keyed 50 = .ok (.iinc 4 1, 3) := by decide +kernel
theorem dX8_keyed_53 : decode cX8_keyed 53 = .ok (.goto (-27), 3) := by decide +kernel
theorem dX8_keyed_56 : decode cX8_keyed 56 = .ok (.iconst 0, 1) := by decide +kernel
theorem dX8_keyed_57 : decode cX8_keyed 57 = .ok (.istore 4, 2) := by decide +kernel
theorem dX8_keyed_59 : decode cX8_keyed 59 = .ok (.iload 4, 2) := by decide +kernel
theorem dX8_keyed_61 : decode cX8_keyed 61 = .ok (.iload_n 3, 1) := by decide +kernel
theorem dX8_keyed_62 : decode cX8_keyed 62 = .ok (.if_icmp .ge 27, 3) := by decide +kernel
theorem dX8_keyed_65 : decode cX8_keyed 65 = .ok (.iload_n 2, 1) := by decide +kernel
theorem dX8_keyed_66 : decode cX8_keyed 66 = .ok (.bipush (-2), 2) := by decide +kernel
theorem dX8_keyed_68 : decode cX8_keyed 68 = .ok (.if_icmp .eq 21, 3) := by decide +kernel
theorem dX8_keyed_71 : decode cX8_keyed 71 = .ok (.aload_n 0, 1) := by decide +kernel
theorem dX8_keyed_72 : decode cX8_keyed 72 = .ok (.aload_n 0, 1) := by decide +kernel
theorem dX8_keyed_73 : decode cX8_keyed 73 = .ok (.getfield 16, 3) := by decide +kernel
theorem dX8_keyed_76 : decode cX8_keyed 76 = .ok (.iload 4, 2) := by decide +kernel
theorem dX8_keyed_78 : decode cX8_keyed 78 = .ok (.iaload, 1) := by decide +kernel
theorem dX8_keyed_79 : decode cX8_keyed 79 = .ok (.invokevirtual 193, 3) := by decide +kernel
theorem dX8_keyed_82 : decode cX8_keyed 82 = .ok (.istore_n 2, 1) := by decide +kernel
theorem dX8_keyed_83 : decode cX8_keyed 83 = .ok (.iinc 4 1, 3) := by decide +kernel
theorem dX8_keyed_86 : decode cX8_keyed 86 = .ok (.goto (-27), 3) := by decide +kernel
theorem dX8_keyed_89 : decode cX8_keyed 89 = .ok (.iload_n 2, 1) := by decide +kernel
theorem dX8_keyed_90 : decode cX8_keyed 90 = .ok (.ireturn, 1) := by decide +kernel
theorem dX8_key_0 : decode cX8_key 0 = .ok (.iload_n 1, 1) := by decide +kernel
theorem dX8_key_1 : decode cX8_key 1 = .ok (.i2l, 1) := by decide +kernel
theorem dX8_key_2 : decode cX8_key 2 = .ok (.ldc2_w 196, 3) := by decide +kernel
theorem dX8_key_5 : decode cX8_key 5 = .ok (.ldc2_w 198, 3) := by decide +kernel
theorem dX8_key_8 : decode cX8_key 8 = .ok (.invokestatic 58, 3) := by decide +kernel
theorem dX8_key_11 : decode cX8_key 11 = .ok (.ifCond .eq 11, 3) := by decide +kernel
theorem dX8_key_14 : decode cX8_key 14 = .ok (.aload_n 0, 1) := by decide +kernel
theorem dX8_key_15 : decode cX8_key 15 = .ok (.iload_n 1, 1) := by decide +kernel
theorem dX8_key_16 : decode cX8_key 16 = .ok (.invokevirtual 200, 3) := by decide +kernel
theorem dX8_key_19 : decode cX8_key 19 = .ok (.goto 4, 3) := by decide +kernel
theorem dX8_key_22 : decode cX8_key 22 = .ok (.iconst (-1), 1) := by decide +kernel
theorem dX8_key_23 : decode cX8_key 23 = .ok (.ireturn, 1) := by decide +kernel
theorem dX8_type_0 : decode cX8_type 0 = .ok (.iload_n 1, 1) := by decide +kernel
theorem dX8_type_1 : decode cX8_type 1 = .ok (.i2l, 1) := by decide +kernel
theorem dX8_type_2 : decode cX8_type 2 = .ok (.ldc2_w 196, 3) := by decide +kernel
theorem dX8_type_5 : decode cX8_type 5 = .ok (.ldc2_w 198, 3) := by decide +kernel
theorem dX8_type_8 : decode cX8_type 8 = .ok (.invokestatic 58, 3) := by decide +kernel
theorem dX8_type_11 : decode cX8_type 11 = .ok (.ifCond .ne 5, 3) := by decide +kernel
theorem dX8_type_14 : decode cX8_type 14 = .ok (.iconst (-1), 1) := by decide +kernel
theorem dX8_type_15 : decode cX8_type 15 = .ok (.ireturn, 1) := by decide +kernel
theorem dX8_type_16 : decode cX8_type 16 = .ok (.aload_n 0, 1) := by decide +kernel
theorem dX8_type_17 : decode cX8_type 17 = .ok (.getfield 203, 3) := by decide +kernel
theorem dX8_type_20 : decode cX8_type 20 = .ok (.bipush 60, 2) := by decide +kernel
theorem dX8_type_22 : decode cX8_type 22 = .ok (.if_icmp .ne 6, 3) := by decide +kernel
theorem dX8_type_25 : decode cX8_type 25 = .ok (.bipush (-3), 2) := by decide +kernel
theorem dX8_type_27 : decode cX8_type 27 = .ok (.ireturn, 1) := by decide +kernel
theorem dX8_type_28 : decode cX8_type 28 = .ok (.aload_n 0, 1) := by decide +kernel
theorem dX8_type_29 : decode cX8_type 29 = .ok (.getfield 19, 3) := by decide +kernel
theorem dX8_type_32 : decode cX8_type 32 = .ok (.aload_n 0, 1) := by decide +kernel
theorem dX8_type_33 : decode cX8_type 33 = .ok (.getfield 203, 3) := by decide +kernel
theorem dX8_type_36 : decode cX8_type 36 = .ok (.iload_n 1, 1) := by decide +kernel
theorem dX8_type_37 : decode cX8_type 37 = .ok (.iastore, 1) := by decide +kernel
theorem dX8_type_38 : decode cX8_type 38 = .ok (.aload_n 0, 1) := by decide +kernel
theorem dX8_type_39 : decode cX8_type 39 = .ok (.dup, 1) := by decide +kernel
theorem dX8_type_40 : decode cX8_type 40 = .ok (.getfield 203, 3) := by decide +kernel
theorem dX8_type_43 : decode cX8_type 43 = .ok (.iconst 1, 1) := by decide +kernel
theorem dX8_type_44 : decode cX8_type 44 = .ok (.iadd, 1) := by decide +kernel
theorem dX8_type_45 : decode cX8_type 45 = .ok (.putfield 203, 3) := by decide +kernel
theorem dX8_type_48 : decode cX8_type 48 = .ok (.aload_n 0, 1) := by decide +kernel
theorem dX8_type_49 : decode cX8_type 49 = .ok (.getfield 203, 3) := by decide +kernel
theorem dX8_type_52 : decode cX8_type 52 = .ok (.ireturn, 1) := by decide +kernel
theorem dX8_line_0 : decode cX8_line 0 = .ok (.iconst 0, 1) := by decide +kernel
theorem dX8_line_1 : decode cX8_line 1 = .ok (.istore_n 1, 1) := by decide +kernel
theorem dX8_line_2 : decode cX8_line 2 = .ok (.iload_n 1, 1) := by decide +kernel
theorem dX8_line_3 : decode cX8_line 3 = .ok (.sipush 256, 3) := by decide +kernel
theorem dX8_line_6 : decode cX8_line 6 = .ok (.if_icmp .ge 16, 3) := by decide +kernel
theorem dX8_line_9 : decode cX8_line 9 = .ok (.aload_n 0, 1) := by decide +kernel
theorem dX8_line_10 : decode cX8_line 10 = .ok (.getfield 7, 3) := by decide +kernel
theorem dX8_line_13 : decode cX8_line 13 = .ok (.iload_n 1, 1) := by decide +kernel
theorem dX8_line_14 : decode cX8_line 14 = .ok (.iconst 0, 1) := by decide +kernel
theorem dX8_line_15 : decode cX8_line 15 = .ok (.iastore, 1) := by decide +kernel
theorem dX8_line_16 : decode cX8_line 16 = .ok (.iinc 1 1, 3) := by decide +kernel
theorem dX8_line_19 : decode cX8_line 19 = .ok (.goto (-17), 3) := by decide +kernel
theorem dX8_line_22 : decode cX8_line 22 = .ok (.iconst 0, 1) := by decide +kernel
theorem dX8_line_23 : decode cX8_line 23 = .ok (.istore_n 1, 1) := by decide +kernel
theorem dX8_line_24 : decode cX8_line 24 = .ok (.iload_n 1, 1) := by decide +kernel
theorem dX8_line_25 : decode cX8_line 25 = .ok (.iconst 4, 1) := by decide +kernel
theorem dX8_line_26 : decode cX8_line 26 = .ok (.if_icmp .ge 20, 3) := by decide +kernel
theorem dX8_line_29 : decode cX8_line 29 = .ok (.aload_n 0, 1) := by decide +kernel
theorem dX8_line_30 : decode cX8_line 30 = .ok (.getfield 7, 3) := by decide +kernel
theorem dX8_line_33 : decode cX8_line 33 = .ok (.bipush 124, 2) := by decide +kernel
theorem dX8_line_35 : decode cX8_line 35 = .ok (.iload_n 1, 1) := by decide +kernel
theorem dX8_line_36 : decode cX8_line 36 = .ok (.iadd, 1) := by decide +kernel
theorem dX8_line_37 : decode cX8_line 37 = .ok (.bipush (-4), 2) := by decide +kernel
theorem dX8_line_39 : decode cX8_line 39 = .ok (.iastore, 1) := by decide +kernel
theorem dX8_line_40 : decode cX8_line 40 = .ok (.iinc 1 1, 3) := by decide +kernel
theorem dX8_line_43 : decode cX8_line 43 = .ok (.goto (-19), 3) := by decide +kernel
theorem dX8_line_46 : decode cX8_line 46 = .ok (.aload_n 0, 1) := by decide +kernel
theorem dX8_line_47 : decode cX8_line 47 = .ok (.getfield 7, 3) := by decide +kernel
theorem dX8_line_50 : decode cX8_line 50 = .ok (.iconst 0, 1) := by decide +kernel
theorem dX8_line_51 : decode cX8_line 51 = .ok (.aload_n 0, 1) := by decide +kernel
theorem dX8_line_52 : decode cX8_line 52 = .ok (.getfield 203, 3) := by decide +kernel
theorem dX8_line_55 : decode cX8_line 55 = .ok (.iastore, 1) := by decide +kernel
theorem dX8_line_56 : decode cX8_line 56 = .ok (.iconst 0, 1) := by decide +kernel
theorem dX8_line_57 : decode cX8_line 57 = .ok (.istore_n 1, 1) := by decide +kernel
theorem dX8_line_58 : decode cX8_line 58 = .ok (.iload_n 1, 1) := by decide +kernel
theorem dX8_line_59 : decode cX8_line 59 = .ok (.aload_n 0, 1) := by decide +kernel
theorem dX8_line_60 : decode cX8_line 60 = .ok (.getfield 203, 3) := by decide +kernel
theorem dX8_line_63 : decode cX8_line 63 = .ok (.if_icmp .ge 23, 3) := by decide +kernel
theorem dX8_line_66 : decode cX8_line 66 = .ok (.aload_n 0, 1) := by decide +kernel
theorem dX8_line_67 : decode cX8_line 67 = .ok (.getfield 7, 3) := by decide +kernel
theorem dX8_line_70 : decode cX8_line 70 = .ok (.iconst 1, 1) := by decide +kernel
theorem dX8_line_71 : decode cX8_line 71 = .ok (.iload_n 1, 1) := by decide +kernel
theorem dX8_line_72 : decode cX8_line 72 = .ok (.iadd, 1) := by decide +kernel
theorem dX8_line_73 : decode cX8_line 73 = .ok (.aload_n 0, 1) := by decide +kernel
theorem dX8_line_74 : decode cX8_line 74 = .ok (.getfield 19, 3) := by decide +kernel
theorem dX8_line_77 : decode cX8_line 77 = .ok (.iload_n 1, 1) := by decide +kernel
theorem dX8_line_78 : decode cX8_line 78 = .ok (.iaload, 1) := by decide +kernel
theorem dX8_line_79 : decode cX8_line 79 = .ok (.iastore, 1) := by decide +kernel
theorem dX8_line_80 : decode cX8_line 80 = .ok (.iinc 1 1, 3) := by decide +kernel
theorem dX8_line_83 : decode cX8_line 83 = .ok (.goto (-25), 3) := by decide +kernel
theorem dX8_line_86 : decode cX8_line 86 = .ok (.aload_n 0, 1) := by decide +kernel
theorem dX8_line_87 : decode cX8_line 87 = .ok (.iconst 0, 1) := by decide +kernel
theorem dX8_line_88 : decode cX8_line 88 = .ok (.putfield 97, 3) := by decide +kernel
theorem dX8_line_91 : decode cX8_line 91 = .ok (.aload_n 0, 1) := by decide +kernel
theorem dX8_line_92 : decode cX8_line 92 = .ok (.iconst 0, 1) := by decide +kernel
theorem dX8_line_93 : decode cX8_line 93 = .ok (.putfield 203, 3) := by decide +kernel
theorem dX8_line_96 : decode cX8_line 96 = .ok (.aload_n 0, 1) := by decide +kernel
theorem dX8_line_97 : decode cX8_line 97 = .ok (.getfield 7, 3) := by decide +kernel
theorem dX8_line_100 : decode cX8_line 100 = .ok (.iconst 0, 1) := by decide +kernel
theorem dX8_line_101 : decode cX8_line 101 = .ok (.iaload, 1) := by decide +kernel
theorem dX8_line_102 : decode cX8_line 102 = .ok (.ireturn, 1) := by decide +kernel
theorem dX8_letter_0 : decode cX8_letter 0 = .ok (.iload_n 1, 1) := by decide +kernel
theorem dX8_letter_1 : decode cX8_letter 1 = .ok (.i2l, 1) := by decide +kernel
theorem dX8_letter_2 : decode cX8_letter 2 = .ok (.lconst 0, 1) := by decide +kernel
theorem dX8_letter_3 : decode cX8_letter 3 = .ok (.aload_n 0, 1) := by decide +kernel
theorem dX8_letter_4 : decode cX8_letter 4 = .ok (.getfield 7, 3) := by decide +kernel
theorem dX8_letter_7 : decode cX8_letter 7 = .ok (.iconst 0, 1) := by decide +kernel
theorem dX8_letter_8 : decode cX8_letter 8 = .ok (.iaload, 1) := by decide +kernel
theorem dX8_letter_9 : decode cX8_letter 9 = .ok (.iconst 1, 1) := by decide +kernel
theorem dX8_letter_10 : decode cX8_letter 10 = .ok (.isub, 1) := by decide +kernel
theorem dX8_letter_11 : decode cX8_letter 11 = .ok (.i2l, 1) := by decide +kernel
theorem dX8_letter_12 : decode cX8_letter 12 = .ok (.invokestatic 58, 3) := by decide +kernel
theorem dX8_letter_15 : decode cX8_letter 15 = .ok (.ifCond .eq 14, 3) := by decide +kernel
theorem dX8_letter_18 : decode cX8_letter 18 = .ok (.aload_n 0, 1) := by decide +kernel
theorem dX8_letter_19 : decode cX8_letter 19 = .ok (.getfield 7, 3) := by decide +kernel
theorem dX8_letter_22 : decode cX8_letter 22 = .ok (.iconst 1, 1) := by decide +kernel
theorem dX8_letter_23 : decode cX8_letter 23 = .ok (.iload_n 1, 1) := by decide +kernel
theorem dX8_letter_24 : decode cX8_letter 24 = .ok (.iadd, 1) := by decide +kernel
theorem dX8_letter_25 : decode cX8_letter 25 = .ok (.iaload, 1) := by decide +kernel
theorem dX8_letter_26 : decode cX8_letter 26 = .ok (.goto 4, 3) := by decide +kernel
theorem dX8_letter_29 : decode cX8_letter 29 = .ok (.iconst (-1), 1) := by decide +kernel
theorem dX8_letter_30 : decode cX8_letter 30 = .ok (.ireturn, 1) := by decide +kernel
theorem dX8_store_0 : decode cX8_store 0 = .ok (.iload_n 1, 1) := by decide +kernel
theorem dX8_store_1 : decode cX8_store 1 = .ok (.i2l, 1) := by decide +kernel
theorem dX8_store_2 : decode cX8_store 2 = .ok (.lconst 0, 1) := by decide +kernel
theorem dX8_store_3 : decode cX8_store 3 = .ok (.aload_n 0, 1) := by decide +kernel
theorem dX8_store_4 : decode cX8_store 4 = .ok (.getfield 7, 3) := by decide +kernel
theorem dX8_store_7 : decode cX8_store 7 = .ok (.bipush 63, 2) := by decide +kernel
theorem dX8_store_9 : decode cX8_store 9 = .ok (.iaload, 1) := by decide +kernel
theorem dX8_store_10 : decode cX8_store 10 = .ok (.iconst 1, 1) := by decide +kernel
theorem dX8_store_11 : decode cX8_store 11 = .ok (.isub, 1) := by decide +kernel
theorem dX8_store_12 : decode cX8_store 12 = .ok (.i2l, 1) := by decide +kernel
theorem dX8_store_13 : decode cX8_store 13 = .ok (.invokestatic 58, 3) := by decide +kernel
theorem dX8_store_16 : decode cX8_store 16 = .ok (.ifCond .eq 15, 3) := by decide +kernel
theorem dX8_store_19 : decode cX8_store 19 = .ok (.aload_n 0, 1) := by decide +kernel
theorem dX8_store_20 : decode cX8_store 20 = .ok (.getfield 7, 3) := by decide +kernel
theorem dX8_store_23 : decode cX8_store 23 = .ok (.bipush 64, 2) := by decide +kernel
theorem dX8_store_25 : decode cX8_store 25 = .ok (.iload_n 1, 1) := by decide +kernel
theorem dX8_store_26 : decode cX8_store 26 = .ok (.iadd, 1) := by decide +kernel
theorem dX8_store_27 : decode cX8_store 27 = .ok (.iaload, 1) := by decide +kernel
theorem dX8_store_28 : decode cX8_store 28 = .ok (.goto 4, 3) := by decide +kernel
theorem dX8_store_31 : decode cX8_store 31 = .ok (.iconst (-1), 1) := by decide +kernel
theorem dX8_store_32 : decode cX8_store 32 = .ok (.ireturn, 1) := by decide +kernel
theorem dX8_mark_0 : decode cX8_mark 0 = .ok (.iload_n 1, 1) := by decide +kernel
theorem dX8_mark_1 : decode cX8_mark 1 = .ok (.i2l, 1) := by decide +kernel
theorem dX8_mark_2 : decode cX8_mark 2 = .ok (.lconst 0, 1) := by decide +kernel
theorem dX8_mark_3 : decode cX8_mark 3 = .ok (.ldc2_w 206, 3) := by decide +kernel
theorem dX8_mark_6 : decode cX8_mark 6 = .ok (.invokestatic 58, 3) := by decide +kernel
theorem dX8_mark_9 : decode cX8_mark 9 = .ok (.ifCond .eq 15, 3) := by decide +kernel
theorem dX8_mark_12 : decode cX8_mark 12 = .ok (.aload_n 0, 1) := by decide +kernel
theorem dX8_mark_13 : decode cX8_mark 13 = .ok (.getfield 7, 3) := by decide +kernel
theorem dX8_mark_16 : decode cX8_mark 16 = .ok (.bipush 124, 2) := by decide +kernel
theorem dX8_mark_18 : decode cX8_mark 18 = .ok (.iload_n 1, 1) := by decide +kernel
theorem dX8_mark_19 : decode cX8_mark 19 = .ok (.iadd, 1) := by decide +kernel
theorem dX8_mark_20 : decode cX8_mark 20 = .ok (.iaload, 1) := by decide +kernel
theorem dX8_mark_21 : decode cX8_mark 21 = .ok (.goto 4, 3) := by decide +kernel
theorem dX8_mark_24 : decode cX8_mark 24 = .ok (.iconst (-1), 1) := by decide +kernel
theorem dX8_mark_25 : decode cX8_mark 25 = .ok (.ireturn, 1) := by decide +kernel
theorem dX8_marks_0 : decode cX8_marks 0 = .ok (.iconst 0, 1) := by decide +kernel
theorem dX8_marks_1 : decode cX8_marks 1 = .ok (.istore_n 1, 1) := by decide +kernel
theorem dX8_marks_2 : decode cX8_marks 2 = .ok (.iconst 0, 1) := by decide +kernel
theorem dX8_marks_3 : decode cX8_marks 3 = .ok (.istore_n 2, 1) := by decide +kernel
theorem dX8_marks_4 : decode cX8_marks 4 = .ok (.iload_n 2, 1) := by decide +kernel
theorem dX8_marks_5 : decode cX8_marks 5 = .ok (.iconst 4, 1) := by decide +kernel
theorem dX8_marks_6 : decode cX8_marks 6 = .ok (.if_icmp .ge 33, 3) := by decide +kernel
theorem dX8_marks_9 : decode cX8_marks 9 = .ok (.iload_n 1, 1) := by decide +kernel
theorem dX8_marks_10 : decode cX8_marks 10 = .ok (.aload_n 0, 1) := by decide +kernel
theorem dX8_marks_11 : decode cX8_marks 11 = .ok (.getfield 7, 3) := by decide +kernel
theorem dX8_marks_14 : decode cX8_marks 14 = .ok (.bipush 124, 2) := by decide +kernel
theorem dX8_marks_16 : decode cX8_marks 16 = .ok (.iload_n 2, 1) := by decide +kernel
theorem dX8_marks_17 : decode cX8_marks 17 = .ok (.iadd, 1) := by decide +kernel
theorem dX8_marks_18 : decode cX8_marks 18 = .ok (.iaload, 1) := by decide +kernel
theorem dX8_marks_19 : decode cX8_marks 19 = .ok (.bipush (-4), 2) := by decide +kernel
theorem dX8_marks_21 : decode cX8_marks 21 = .ok (.if_icmp .ne 7, 3) := by decide +kernel
theorem dX8_marks_24 : decode cX8_marks 24 = .ok (.iconst 0, 1) := by decide +kernel
theorem dX8_marks_25 : decode cX8_marks 25 = .ok (.goto 6, 3) := by decide +kernel
theorem dX8_marks_28 : decode cX8_marks 28 = .ok (.iconst 1, 1) := by decide +kernel
theorem dX8_marks_29 : decode cX8_marks 29 = .ok (.iload_n 2, 1) := by decide +kernel
theorem dX8_marks_30 : decode cX8_marks 30 = .ok (.ishl, 1) := by decide +kernel
theorem dX8_marks_31 : decode cX8_marks 31 = .ok (.ior, 1) := by decide +kernel
theorem dX8_marks_32 : decode cX8_marks 32 = .ok (.istore_n 1, 1) := by decide +kernel
theorem dX8_marks_33 : decode cX8_marks 33 = .ok (.iinc 2 1, 3) := by decide +kernel
theorem dX8_marks_36 : decode cX8_marks 36 = .ok (.goto (-32), 3) := by decide +kernel
theorem dX8_marks_39 : decode cX8_marks 39 = .ok (.iload_n 1, 1) := by decide +kernel
theorem dX8_marks_40 : decode cX8_marks 40 = .ok (.ireturn, 1) := by decide +kernel
theorem dX8_wordsOf_0 : decode cX8_wordsOf 0 = .ok (.iconst 0, 1) := by decide +kernel
theorem dX8_wordsOf_1 : decode cX8_wordsOf 1 = .ok (.istore_n 1, 1) := by decide +kernel
theorem dX8_wordsOf_2 : decode cX8_wordsOf 2 = .ok (.iconst 0, 1) := by decide +kernel
theorem dX8_wordsOf_3 : decode cX8_wordsOf 3 = .ok (.istore_n 2, 1) := by decide +kernel
theorem dX8_wordsOf_4 : decode cX8_wordsOf 4 = .ok (.iload_n 2, 1) := by decide +kernel
theorem dX8_wordsOf_5 : decode cX8_wordsOf 5 = .ok (.aload_n 0, 1) := by decide +kernel
theorem dX8_wordsOf_6 : decode cX8_wordsOf 6 = .ok (.getfield 7, 3) := by decide +kernel
theorem dX8_wordsOf_9 : decode cX8_wordsOf 9 = .ok (.iconst 0, 1) := by decide +kernel
theorem dX8_wordsOf_10 : decode cX8_wordsOf 10 = .ok (.iaload, 1) := by decide +kernel
theorem dX8_wordsOf_11 : decode cX8_wordsOf 11 = .ok (.if_icmp .ge 37, 3) := by decide +kernel
theorem dX8_wordsOf_14 : decode cX8_wordsOf 14 = .ok (.iload_n 1, 1) := by decide +kernel
theorem dX8_wordsOf_15 : decode cX8_wordsOf 15 = .ok (.aload_n 0, 1) := by decide +kernel
theorem dX8_wordsOf_16 : decode cX8_wordsOf 16 = .ok (.iload_n 2, 1) := by decide +kernel
theorem dX8_wordsOf_17 : decode cX8_wordsOf 17 = .ok (.invokevirtual 74, 3) := by decide +kernel
theorem dX8_wordsOf_20 : decode cX8_wordsOf 20 = .ok (.iconst 1, 1) := by decide +kernel
theorem dX8_wordsOf_21 : decode cX8_wordsOf 21 = .ok (.if_icmp .ne 18, 3) := by decide +kernel
theorem dX8_wordsOf_24 : decode cX8_wordsOf 24 = .ok (.aload_n 0, 1) := by decide +kernel
theorem dX8_wordsOf_25 : decode cX8_wordsOf 25 = .ok (.iload_n 2, 1) := by decide +kernel
theorem dX8_wordsOf_26 : decode cX8_wordsOf 26 = .ok (.iconst 1, 1) := by decide +kernel
theorem dX8_wordsOf_27 : decode cX8_wordsOf 27 = .ok (.isub, 1) := by decide +kernel
theorem dX8_wordsOf_28 : decode cX8_wordsOf 28 = .ok (.invokevirtual 74, 3) := by decide +kernel
theorem dX8_wordsOf_31 : decode cX8_wordsOf 31 = .ok (.iconst 1, 1) := by decide +kernel
theorem dX8_wordsOf_32 : decode cX8_wordsOf 32 = .ok (.if_icmp .eq 7, 3) := by decide +kernel
theorem dX8_wordsOf_35 : decode cX8_wordsOf 35 = .ok (.iconst 1, 1) := by decide +kernel
theorem dX8_wordsOf_36 : decode cX8_wordsOf 36 = .ok (.goto 4, 3) := by decide +kernel
theorem dX8_wordsOf_39 : decode cX8_wordsOf 39 = .ok (.iconst 0, 1) := by decide +kernel
theorem dX8_wordsOf_40 : decode cX8_wordsOf 40 = .ok (.iadd, 1) := by decide +kernel
theorem dX8_wordsOf_41 : decode cX8_wordsOf 41 = .ok (.istore_n 1, 1) := by decide +kernel
theorem dX8_wordsOf_42 : decode cX8_wordsOf 42 = .ok (.iinc 2 1, 3) := by decide +kernel
theorem dX8_wordsOf_45 : decode cX8_wordsOf 45 = .ok (.goto (-41), 3) := by decide +kernel
theorem dX8_wordsOf_48 : decode cX8_wordsOf 48 = .ok (.iload_n 1, 1) := by decide +kernel
theorem dX8_wordsOf_49 : decode cX8_wordsOf 49 = .ok (.ireturn, 1) := by decide +kernel
theorem dX8_count_0 : decode cX8_count 0 = .ok (.iload_n 1, 1) := by decide +kernel
theorem dX8_count_1 : decode cX8_count 1 = .ok (.tableswitch 133 0 8 #[51, 58, 66, 74, 101, 109, 114, 119, 124], 51) := by decide +kernel
theorem dX8_count_52 : decode cX8_count 52 = .ok (.aload_n 0, 1) := by decide +kernel
theorem dX8_count_53 : decode cX8_count 53 = .ok (.getfield 7, 3) := by decide +kernel
theorem dX8_count_56 : decode cX8_count 56 = .ok (.iconst 0, 1) := by decide +kernel
theorem dX8_count_57 : decode cX8_count 57 = .ok (.iaload, 1) := by decide +kernel
theorem dX8_count_58 : decode cX8_count 58 = .ok (.ireturn, 1) := by decide +kernel
theorem dX8_count_59 : decode cX8_count 59 = .ok (.aload_n 0, 1) := by decide +kernel
theorem dX8_count_60 : decode cX8_count 60 = .ok (.getfield 7, 3) := by decide +kernel
theorem dX8_count_63 : decode cX8_count 63 = .ok (.bipush 61, 2) := by decide +kernel
theorem dX8_count_65 : decode cX8_count 65 = .ok (.iaload, 1) := by decide +kernel
theorem dX8_count_66 : decode cX8_count 66 = .ok (.ireturn, 1) := by decide +kernel
theorem dX8_count_67 : decode cX8_count 67 = .ok (.aload_n 0, 1) := by decide +kernel
theorem dX8_count_68 : decode cX8_count 68 = .ok (.getfield 7, 3) := by decide +kernel
theorem dX8_count_71 : decode cX8_count 71 = .ok (.bipush 62, 2) := by decide +kernel
theorem dX8_count_73 : decode cX8_count 73 = .ok (.iaload, 1) := by decide +kernel
theorem dX8_count_74 : decode cX8_count 74 = .ok (.ireturn, 1) := by decide +kernel
theorem dX8_count_75 : decode cX8_count 75 = .ok (.aload_n 0, 1) := by decide +kernel
theorem dX8_count_76 : decode cX8_count 76 = .ok (.getfield 7, 3) := by decide +kernel
theorem dX8_count_79 : decode cX8_count 79 = .ok (.sipush 159, 3) := by decide +kernel
theorem dX8_count_82 : decode cX8_count 82 = .ok (.iaload, 1) := by decide +kernel
theorem dX8_count_83 : decode cX8_count 83 = .ok (.ifCond .le 17, 3) := by decide +kernel
theorem dX8_count_86 : decode cX8_count 86 = .ok (.aload_n 0, 1) := by decide +kernel
theorem dX8_count_87 : decode cX8_count 87 = .ok (.getfield 7, 3) := by decide +kernel
theorem dX8_count_90 : decode cX8_count 90 = .ok (.bipush 62, 2) := by decide +kernel
theorem dX8_count_92 : decode cX8_count 92 = .ok (.iaload, 1) := by decide +kernel
theorem dX8_count_93 : decode cX8_count 93 = .ok (.ifCond .ne 7, 3) := by decide +kernel
theorem dX8_count_96 : decode cX8_count 96 = .ok (.iconst 1, 1) := by decide +kernel
theorem dX8_count_97 : decode cX8_count 97 = .ok (.goto 4, 3) := by decide +kernel
theorem dX8_count_100 : decode cX8_count 100 = .ok (.iconst 0, 1) := by decide +kernel
theorem dX8_count_101 : decode cX8_count 101 = .ok (.ireturn, 1) := by decide +kernel
theorem dX8_count_102 : decode cX8_count 102 = .ok (.aload_n 0, 1) := by decide +kernel
theorem dX8_count_103 : decode cX8_count 103 = .ok (.getfield 7, 3) := by decide +kernel
theorem dX8_count_106 : decode cX8_count 106 = .ok (.bipush 63, 2) := by decide +kernel
theorem dX8_count_108 : decode cX8_count 108 = .ok (.iaload, 1) := by decide +kernel
theorem dX8_count_109 : decode cX8_count 109 = .ok (.ireturn, 1) := by decide +kernel
theorem dX8_count_110 : decode cX8_count 110 = .ok (.aload_n 0, 1) := by decide +kernel
theorem dX8_count_111 : decode cX8_count 111 = .ok (.invokevirtual 208, 3) := by decide +kernel
theorem dX8_count_114 : decode cX8_count 114 = .ok (.ireturn, 1) := by decide +kernel
theorem dX8_count_115 : decode cX8_count 115 = .ok (.aload_n 0, 1) := by decide +kernel
theorem dX8_count_116 : decode cX8_count 116 = .ok (.getfield 97, 3) := by decide +kernel
theorem dX8_count_119 : decode cX8_count 119 = .ok (.ireturn, 1) := by decide +kernel
theorem dX8_count_120 : decode cX8_count 120 = .ok (.aload_n 0, 1) := by decide +kernel
theorem dX8_count_121 : decode cX8_count 121 = .ok (.invokevirtual 211, 3) := by decide +kernel
theorem dX8_count_124 : decode cX8_count 124 = .ok (.ireturn, 1) := by decide +kernel
theorem dX8_count_125 : decode cX8_count 125 = .ok (.aload_n 0, 1) := by decide +kernel
theorem dX8_count_126 : decode cX8_count 126 = .ok (.getfield 7, 3) := by decide +kernel
theorem dX8_count_129 : decode cX8_count 129 = .ok (.sipush 128, 3) := by decide +kernel
theorem dX8_count_132 : decode cX8_count 132 = .ok (.iaload, 1) := by decide +kernel
theorem dX8_count_133 : decode cX8_count 133 = .ok (.ireturn, 1) := by decide +kernel
theorem dX8_count_134 : decode cX8_count 134 = .ok (.iconst (-1), 1) := by decide +kernel
theorem dX8_count_135 : decode cX8_count 135 = .ok (.ireturn, 1) := by decide +kernel
theorem dX8_isMotion_0 : decode cX8_isMotion 0 = .ok (.iload_n 0, 1) := by decide +kernel
theorem dX8_isMotion_1 : decode cX8_isMotion 1 = .ok (.i2l, 1) := by decide +kernel
theorem dX8_isMotion_2 : decode cX8_isMotion 2 = .ok (.lconst 0, 1) := by decide +kernel
theorem dX8_isMotion_3 : decode cX8_isMotion 3 = .ok (.ldc2_w 214, 3) := by decide +kernel
theorem dX8_isMotion_6 : decode cX8_isMotion 6 = .ok (.invokestatic 58, 3) := by decide +kernel
theorem dX8_isMotion_9 : decode cX8_isMotion 9 = .ok (.ireturn, 1) := by decide +kernel
theorem dX8_price_0 : decode cX8_price 0 = .ok (.iload_n 1, 1) := by decide +kernel
theorem dX8_price_1 : decode cX8_price 1 = .ok (.invokestatic 216, 3) := by decide +kernel
theorem dX8_price_4 : decode cX8_price 4 = .ok (.ifCond .eq 15, 3) := by decide +kernel
theorem dX8_price_7 : decode cX8_price 7 = .ok (.iload_n 2, 1) := by decide +kernel
theorem dX8_price_8 : decode cX8_price 8 = .ok (.i2l, 1) := by decide +kernel
theorem dX8_price_9 : decode cX8_price 9 = .ok (.lconst 1, 1) := by decide +kernel
theorem dX8_price_10 : decode cX8_price 10 = .ok (.ldc2_w 220, 3) := by decide +kernel
theorem dX8_price_13 : decode cX8_price 13 = .ok (.invokestatic 58, 3) := by decide +kernel
theorem dX8_price_16 : decode cX8_price 16 = .ok (.ifCond .ne 5, 3) := by decide +kernel
theorem dX8_price_19 : decode cX8_price 19 = .ok (.iconst (-1), 1) := by decide +kernel
theorem dX8_price_20 : decode cX8_price 20 = .ok (.ireturn, 1) := by decide +kernel
theorem dX8_price_21 : decode cX8_price 21 = .ok (.aload_n 0, 1) := by decide +kernel
theorem dX8_price_22 : decode cX8_price 22 = .ok (.getfield 7, 3) := by decide +kernel
theorem dX8_price_25 : decode cX8_price 25 = .ok (.sipush 256, 3) := by decide +kernel
theorem dX8_price_28 : decode cX8_price 28 = .ok (.iload_n 1, 1) := by decide +kernel
theorem dX8_price_29 : decode cX8_price 29 = .ok (.iadd, 1) := by decide +kernel
theorem dX8_price_30 : decode cX8_price 30 = .ok (.iaload, 1) := by decide +kernel
theorem dX8_price_31 : decode cX8_price 31 = .ok (.istore_n 3, 1) := by decide +kernel
theorem dX8_price_32 : decode cX8_price 32 = .ok (.iload_n 3, 1) := by decide +kernel
theorem dX8_price_33 : decode cX8_price 33 = .ok (.iload_n 2, 1) := by decide +kernel
theorem dX8_price_34 : decode cX8_price 34 = .ok (.if_icmp .ne 6, 3) := by decide +kernel
theorem dX8_price_37 : decode cX8_price 37 = .ok (.bipush (-2), 2) := by decide +kernel
theorem dX8_price_39 : decode cX8_price 39 = .ok (.ireturn, 1) := by decide +kernel
theorem dX8_price_40 : decode cX8_price 40 = .ok (.aload_n 0, 1) := by decide +kernel
theorem dX8_price_41 : decode cX8_price 41 = .ok (.getfield 7, 3) := by decide +kernel
theorem dX8_price_44 : decode cX8_price 44 = .ok (.sipush 256, 3) := by decide +kernel
theorem dX8_price_47 : decode cX8_price 47 = .ok (.iload_n 1, 1) := by decide +kernel
theorem dX8_price_48 : decode cX8_price 48 = .ok (.iadd, 1) := by decide +kernel
theorem dX8_price_49 : decode cX8_price 49 = .ok (.iload_n 2, 1) := by decide +kernel
theorem dX8_price_50 : decode cX8_price 50 = .ok (.iastore, 1) := by decide +kernel
theorem dX8_price_51 : decode cX8_price 51 = .ok (.iload_n 3, 1) := by decide +kernel
theorem dX8_price_52 : decode cX8_price 52 = .ok (.ireturn, 1) := by decide +kernel
theorem dX8_start_0 : decode cX8_start 0 = .ok (.aload_n 0, 1) := by decide +kernel
theorem dX8_start_1 : decode cX8_start 1 = .ok (.getfield 7, 3) := by decide +kernel
theorem dX8_start_4 : decode cX8_start 4 = .ok (.bipush 61, 2) := by decide +kernel
theorem dX8_start_6 : decode cX8_start 6 = .ok (.iaload, 1) := by decide +kernel
theorem dX8_start_7 : decode cX8_start 7 = .ok (.aload_n 0, 1) := by decide +kernel
theorem dX8_start_8 : decode cX8_start 8 = .ok (.invokevirtual 77, 3) := by decide +kernel
theorem dX8_start_11 : decode cX8_start 11 = .ok (.invokestatic 94, 3) := by decide +kernel
theorem dX8_start_14 : decode cX8_start 14 = .ok (.ireturn, 1) := by decide +kernel
theorem dX8_lands_0 : decode cX8_lands 0 = .ok (.aload_n 0, 1) := by decide +kernel
theorem dX8_lands_1 : decode cX8_lands 1 = .ok (.iload_n 1, 1) := by decide +kernel
theorem dX8_lands_2 : decode cX8_lands 2 = .ok (.iload_n 2, 1) := by decide +kernel
theorem dX8_lands_3 : decode cX8_lands 3 = .ok (.invokevirtual 119, 3) := by decide +kernel
theorem dX8_lands_6 : decode cX8_lands 6 = .ok (.aload_n 0, 1) := by decide +kernel
theorem dX8_lands_7 : decode cX8_lands 7 = .ok (.invokevirtual 77, 3) := by decide +kernel
theorem dX8_lands_10 : decode cX8_lands 10 = .ok (.invokestatic 94, 3) := by decide +kernel
theorem dX8_lands_13 : decode cX8_lands 13 = .ok (.ireturn, 1) := by decide +kernel
theorem dX8_isPlace_0 : decode cX8_isPlace 0 = .ok (.iload_n 1, 1) := by decide +kernel
theorem dX8_isPlace_1 : decode cX8_isPlace 1 = .ok (.i2l, 1) := by decide +kernel
theorem dX8_isPlace_2 : decode cX8_isPlace 2 = .ok (.lconst 0, 1) := by decide +kernel
theorem dX8_isPlace_3 : decode cX8_isPlace 3 = .ok (.aload_n 0, 1) := by decide +kernel
theorem dX8_isPlace_4 : decode cX8_isPlace 4 = .ok (.invokevirtual 77, 3) := by decide +kernel
theorem dX8_isPlace_7 : decode cX8_isPlace 7 = .ok (.i2l, 1) := by decide +kernel
theorem dX8_isPlace_8 : decode cX8_isPlace 8 = .ok (.invokestatic 58, 3) := by decide +kernel
theorem dX8_isPlace_11 : decode cX8_isPlace 11 = .ok (.ireturn, 1) := by decide +kernel
theorem dX8_leads_0 : decode cX8_leads 0 = .ok (.iload_n 1, 1) := by decide +kernel
theorem dX8_leads_1 : decode cX8_leads 1 = .ok (.invokestatic 216, 3) := by decide +kernel
theorem dX8_leads_4 : decode cX8_leads 4 = .ok (.ifCond .eq 28, 3) := by decide +kernel
theorem dX8_leads_7 : decode cX8_leads 7 = .ok (.iload_n 2, 1) := by decide +kernel
theorem dX8_leads_8 : decode cX8_leads 8 = .ok (.i2l, 1) := by decide +kernel
theorem dX8_leads_9 : decode cX8_leads 9 = .ok (.lconst 0, 1) := by decide +kernel
theorem dX8_leads_10 : decode cX8_leads 10 = .ok (.aload_n 0, 1) := by decide +kernel
theorem dX8_leads_11 : decode cX8_leads 11 = .ok (.getfield 7, 3) := by decide +kernel
theorem dX8_leads_14 : decode cX8_leads 14 = .ok (.iconst 0, 1) := by decide +kernel
theorem dX8_leads_15 : decode cX8_leads 15 = .ok (.iaload, 1) := by decide +kernel
theorem dX8_leads_16 : decode cX8_leads 16 = .ok (.i2l, 1) := by decide +kernel
theorem dX8_leads_17 : decode cX8_leads 17 = .ok (.invokestatic 58, 3) := by decide +kernel
theorem dX8_leads_20 : decode cX8_leads 20 = .ok (.ifCond .eq 12, 3) := by decide +kernel
theorem dX8_leads_23 : decode cX8_leads 23 = .ok (.aload_n 0, 1) := by decide +kernel
theorem dX8_leads_24 : decode cX8_leads 24 = .ok (.iload_n 1, 1) := by decide +kernel
theorem dX8_leads_25 : decode cX8_leads 25 = .ok (.iload_n 2, 1) := by decide +kernel
theorem dX8_leads_26 : decode cX8_leads 26 = .ok (.invokevirtual 119, 3) := by decide +kernel
theorem dX8_leads_29 : decode cX8_leads 29 = .ok (.goto 4, 3) := by decide +kernel
theorem dX8_leads_32 : decode cX8_leads 32 = .ok (.iconst (-1), 1) := by decide +kernel
theorem dX8_leads_33 : decode cX8_leads 33 = .ok (.ireturn, 1) := by decide +kernel
theorem dX8_costsTo_0 : decode cX8_costsTo 0 = .ok (.iconst 0, 1) := by decide +kernel
theorem dX8_costsTo_1 : decode cX8_costsTo 1 = .ok (.istore_n 2, 1) := by decide +kernel
theorem dX8_costsTo_2 : decode cX8_costsTo 2 = .ok (.iload_n 2, 1) := by decide +kernel
theorem dX8_costsTo_3 : decode cX8_costsTo 3 = .ok (.bipush 60, 2) := by decide +kernel
theorem dX8_costsTo_5 : decode cX8_costsTo 5 = .ok (.if_icmp .ge 26, 3) := by decide +kernel
theorem dX8_costsTo_8 : decode cX8_costsTo 8 = .ok (.aload_n 0, 1) := by decide +kernel
theorem dX8_costsTo_9 : decode cX8_costsTo 9 = .ok (.getfield 22, 3) := by decide +kernel
theorem dX8_costsTo_12 : decode cX8_costsTo 12 = .ok (.iload_n 2, 1) := by decide +kernel
theorem dX8_costsTo_13 : decode cX8_costsTo 13 = .ok (.iload_n 2, 1) := by decide +kernel
theorem dX8_costsTo_14 : decode cX8_costsTo 14 = .ok (.iload_n 1, 1) := by decide +kernel
theorem dX8_costsTo_15 : decode cX8_costsTo 15 = .ok (.if_icmp .ne 7, 3) := by decide +kernel
theorem dX8_costsTo_18 : decode cX8_costsTo 18 = .ok (.iconst 0, 1) := by decide +kernel
theorem dX8_costsTo_19 : decode cX8_costsTo 19 = .ok (.goto 5, 3) := by decide +kernel
theorem dX8_costsTo_22 : decode cX8_costsTo 22 = .ok (.ldc 222, 2) := by decide +kernel
theorem dX8_costsTo_24 : decode cX8_costsTo 24 = .ok (.iastore, 1) := by decide +kernel
theorem dX8_costsTo_25 : decode cX8_costsTo 25 = .ok (.iinc 2 1, 3) := by decide +kernel
theorem dX8_costsTo_28 : decode cX8_costsTo 28 = .ok (.goto (-26), 3) := by decide +kernel
theorem dX8_costsTo_31 : decode cX8_costsTo 31 = .ok (.iconst 1, 1) := by decide +kernel
theorem dX8_costsTo_32 : decode cX8_costsTo 32 = .ok (.istore_n 2, 1) := by decide +kernel
theorem dX8_costsTo_33 : decode cX8_costsTo 33 = .ok (.iload_n 2, 1) := by decide +kernel
theorem dX8_costsTo_34 : decode cX8_costsTo 34 = .ok (.ifCond .eq 104, 3) := by decide +kernel
theorem dX8_costsTo_37 : decode cX8_costsTo 37 = .ok (.iconst 0, 1) := by decide +kernel
theorem dX8_costsTo_38 : decode cX8_costsTo 38 = .ok (.istore_n 2, 1) := by decide +kernel
theorem dX8_costsTo_39 : decode cX8_costsTo 39 = .ok (.iconst 0, 1) := by decide +kernel
theorem dX8_costsTo_40 : decode cX8_costsTo 40 = .ok (.istore_n 3, 1) := by decide +kernel
theorem dX8_costsTo_41 : decode cX8_costsTo 41 = .ok (.iload_n 3, 1) := by decide +kernel
theorem dX8_costsTo_42 : decode cX8_costsTo 42 = .ok (.aload_n 0, 1) := by decide +kernel
theorem dX8_costsTo_43 : decode cX8_costsTo 43 = .ok (.invokevirtual 77, 3) := by decide +kernel
theorem dX8_costsTo_46 : decode cX8_costsTo 46 = .ok (.if_icmp .gt 89, 3) := by decide +kernel
theorem dX8_costsTo_49 : decode cX8_costsTo 49 = .ok (.iconst 0, 1) := by decide +kernel
theorem dX8_costsTo_50 : decode cX8_costsTo 50 = .ok (.istore 4, 2) := by decide +kernel
theorem dX8_costsTo_52 : decode cX8_costsTo 52 = .ok (.iload 4, 2) := by decide +kernel
theorem dX8_costsTo_54 : decode cX8_costsTo 54 = .ok (.bipush 7, 2) := by decide +kernel
theorem dX8_costsTo_56 : decode cX8_costsTo 56 = .ok (.if_icmp .ge 73, 3) := by decide +kernel
theorem dX8_costsTo_59 : decode cX8_costsTo 59 = .ok (.aload_n 0, 1) := by decide +kernel
theorem dX8_costsTo_60 : decode cX8_costsTo 60 = .ok (.getfield 7, 3) := by decide +kernel
theorem dX8_costsTo_63 : decode cX8_costsTo 63 = .ok (.sipush 256, 3) := by decide +kernel
theorem dX8_costsTo_66 : decode cX8_costsTo 66 = .ok (.iload 4, 2) := by decide +kernel
theorem dX8_costsTo_68 : decode cX8_costsTo 68 = .ok (.iadd, 1) := by decide +kernel
theorem dX8_costsTo_69 : decode cX8_costsTo 69 = .ok (.iaload, 1) := by decide +kernel
theorem dX8_costsTo_70 : decode cX8_costsTo 70 = .ok (.aload_n 0, 1) := by decide +kernel
theorem dX8_costsTo_71 : decode cX8_costsTo 71 = .ok (.getfield 22, 3) := by decide +kernel
theorem dX8_costsTo_74 : decode cX8_costsTo 74 = .ok (.aload_n 0, 1) := by decide +kernel
theorem dX8_costsTo_75 : decode cX8_costsTo 75 = .ok (.iload 4, 2) := by decide +kernel
theorem dX8_costsTo_77 : decode cX8_costsTo 77 = .ok (.iload_n 3, 1) := by decide +kernel
theorem dX8_costsTo_78 : decode cX8_costsTo 78 = .ok (.invokevirtual 223, 3) := by decide +kernel
theorem dX8_costsTo_81 : decode cX8_costsTo 81 = .ok (.iaload, 1) := by decide +kernel
theorem dX8_costsTo_82 : decode cX8_costsTo 82 = .ok (.iadd, 1) := by decide +kernel
theorem dX8_costsTo_83 : decode cX8_costsTo 83 = .ok (.istore 5, 2) := by decide +kernel
theorem dX8_costsTo_85 : decode cX8_costsTo 85 = .ok (.iload_n 2, 1) := by decide +kernel
theorem dX8_costsTo_86 : decode cX8_costsTo 86 = .ok (.ifCond .ne 14, 3) := by decide +kernel
theorem dX8_costsTo_89 : decode cX8_costsTo 89 = .ok (.iload 5, 2) := by decide +kernel
theorem dX8_costsTo_91 : decode cX8_costsTo 91 = .ok (.aload_n 0, 1) := by decide +kernel
theorem dX8_costsTo_92 : decode cX8_costsTo 92 = .ok (.getfield 22, 3) := by decide +kernel
theorem dX8_costsTo_95 : decode cX8_costsTo 95 = .ok (.iload_n 3, 1) := by decide +kernel
theorem dX8_costsTo_96 : decode cX8_costsTo 96 = .ok (.iaload, 1) := by decide +kernel
theorem dX8_costsTo_97 : decode cX8_costsTo 97 = .ok (.if_icmp .ge 7, 3) := by decide +kernel
theorem dX8_costsTo_100 : decode cX8_costsTo 100 = .ok (.iconst 1, 1) := by decide +kernel
theorem dX8_costsTo_101 : decode cX8_costsTo 101 = .ok (.goto 4, 3) := by decide +kernel
theorem dX8_costsTo_104 : decode cX8_costsTo 104 = .ok (.iconst 0, 1) := by decide +kernel
theorem dX8_costsTo_105 : decode cX8_costsTo 105 = .ok (.istore_n 2, 1) := by decide +kernel
theorem dX8_costsTo_106 : decode cX8_costsTo 106 = .ok (.aload_n 0, 1) := by decide +kernel
theorem dX8_costsTo_107 : decode cX8_costsTo 107 = .ok (.getfield 22, 3) := by decide +kernel
theorem dX8_costsTo_110 : decode cX8_costsTo 110 = .ok (.iload_n 3, 1) := by decide +kernel
theorem dX8_costsTo_111 : decode cX8_costsTo 111 = .ok (.aload_n 0, 1) := by decide +kernel
theorem dX8_costsTo_112 : decode cX8_costsTo 112 = .ok (.getfield 22, 3) := by decide +kernel
theorem dX8_costsTo_115 : decode cX8_costsTo 115 = .ok (.iload_n 3, 1) := by decide +kernel
theorem dX8_costsTo_116 : decode cX8_costsTo 116 = .ok (.iaload, 1) := by decide +kernel
theorem dX8_costsTo_117 : decode cX8_costsTo 117 = .ok (.iload 5, 2) := by decide +kernel
theorem dX8_costsTo_119 : decode cX8_costsTo 119 = .ok (.invokestatic 94, 3) := by decide +kernel
theorem dX8_costsTo_122 : decode cX8_costsTo 122 = .ok (.iastore, 1) := by decide +kernel
theorem dX8_costsTo_123 : decode cX8_costsTo 123 = .ok (.iinc 4 1, 3) := by decide +kernel
theorem dX8_costsTo_126 : decode cX8_costsTo 126 = .ok (.goto (-74), 3) := by decide +kernel
theorem dX8_costsTo_129 : decode cX8_costsTo 129 = .ok (.iinc 3 1, 3) := by decide +kernel
theorem dX8_costsTo_132 : decode cX8_costsTo 132 = .ok (.goto (-91), 3) := by decide +kernel
theorem dX8_costsTo_135 : decode cX8_costsTo 135 = .ok (.goto (-102), 3) := by decide +kernel
theorem dX8_costsTo_138 : decode cX8_costsTo 138 = .ok (.return_, 1) := by decide +kernel
theorem dX8_steps_0 : decode cX8_steps 0 = .ok (.aload_n 0, 1) := by decide +kernel
theorem dX8_steps_1 : decode cX8_steps 1 = .ok (.iload_n 1, 1) := by decide +kernel
theorem dX8_steps_2 : decode cX8_steps 2 = .ok (.invokevirtual 226, 3) := by decide +kernel
theorem dX8_steps_5 : decode cX8_steps 5 = .ok (.ifCond .eq 9, 3) := by decide +kernel
theorem dX8_steps_8 : decode cX8_steps 8 = .ok (.iload_n 2, 1) := by decide +kernel
theorem dX8_steps_9 : decode cX8_steps 9 = .ok (.bipush (-2), 2) := by decide +kernel
theorem dX8_steps_11 : decode cX8_steps 11 = .ok (.if_icmp .ge 5, 3) := by decide +kernel
theorem dX8_steps_14 : decode cX8_steps 14 = .ok (.iconst (-1), 1) := by decide +kernel
theorem dX8_steps_15 : decode cX8_steps 15 = .ok (.ireturn, 1) := by decide +kernel
theorem dX8_steps_16 : decode cX8_steps 16 = .ok (.aload_n 0, 1) := by decide +kernel
theorem dX8_steps_17 : decode cX8_steps 17 = .ok (.iload_n 1, 1) := by decide +kernel
theorem dX8_steps_18 : decode cX8_steps 18 = .ok (.invokevirtual 229, 3) := by decide +kernel
theorem dX8_steps_21 : decode cX8_steps 21 = .ok (.aload_n 0, 1) := by decide +kernel
theorem dX8_steps_22 : decode cX8_steps 22 = .ok (.invokevirtual 232, 3) := by decide +kernel
theorem dX8_steps_25 : decode cX8_steps 25 = .ok (.istore_n 3, 1) := by decide +kernel
theorem dX8_steps_26 : decode cX8_steps 26 = .ok (.iload_n 2, 1) := by decide +kernel
theorem dX8_steps_27 : decode cX8_steps 27 = .ok (.bipush (-2), 2) := by decide +kernel
theorem dX8_steps_29 : decode cX8_steps 29 = .ok (.if_icmp .ne 10, 3) := by decide +kernel
theorem dX8_steps_32 : decode cX8_steps 32 = .ok (.aload_n 0, 1) := by decide +kernel
theorem dX8_steps_33 : decode cX8_steps 33 = .ok (.getfield 22, 3) := by decide +kernel
theorem dX8_steps_36 : decode cX8_steps 36 = .ok (.iload_n 3, 1) := by decide +kernel
theorem dX8_steps_37 : decode cX8_steps 37 = .ok (.iaload, 1) := by decide +kernel
theorem dX8_steps_38 : decode cX8_steps 38 = .ok (.ireturn, 1) := by decide +kernel
theorem dX8_steps_39 : decode cX8_steps 39 = .ok (.iconst 0, 1) := by decide +kernel
theorem dX8_steps_40 : decode cX8_steps 40 = .ok (.istore 4, 2) := by decide +kernel
theorem dX8_steps_42 : decode cX8_steps 42 = .ok (.iload_n 3, 1) := by decide +kernel
theorem dX8_steps_43 : decode cX8_steps 43 = .ok (.iload_n 1, 1) := by decide +kernel
theorem dX8_steps_44 : decode cX8_steps 44 = .ok (.if_icmp .eq 68, 3) := by decide +kernel
theorem dX8_steps_47 : decode cX8_steps 47 = .ok (.iconst 0, 1) := by decide +kernel
theorem dX8_steps_48 : decode cX8_steps 48 = .ok (.istore 5, 2) := by decide +kernel
theorem dX8_steps_50 : decode cX8_steps 50 = .ok (.aload_n 0, 1) := by decide +kernel
theorem dX8_steps_51 : decode cX8_steps 51 = .ok (.getfield 7, 3) := by decide +kernel
theorem dX8_steps_54 : decode cX8_steps 54 = .ok (.sipush 256, 3) := by decide +kernel
theorem dX8_steps_57 : decode cX8_steps 57 = .ok (.iload 5, 2) := by decide +kernel
theorem dX8_steps_59 : decode cX8_steps 59 = .ok (.iadd, 1) := by decide +kernel
theorem dX8_steps_60 : decode cX8_steps 60 = .ok (.iaload, 1) := by decide +kernel
theorem dX8_steps_61 : decode cX8_steps 61 = .ok (.aload_n 0, 1) := by decide +kernel
theorem dX8_steps_62 : decode cX8_steps 62 = .ok (.getfield 22, 3) := by decide +kernel
theorem dX8_steps_65 : decode cX8_steps 65 = .ok (.aload_n 0, 1) := by decide +kernel
theorem dX8_steps_66 : decode cX8_steps 66 = .ok (.iload 5, 2) := by decide +kernel
theorem dX8_steps_68 : decode cX8_steps 68 = .ok (.iload_n 3, 1) := by decide +kernel
theorem dX8_steps_69 : decode cX8_steps 69 = .ok (.invokevirtual 223, 3) := by decide +kernel
theorem dX8_steps_72 : decode cX8_steps 72 = .ok (.iaload, 1) := by decide +kernel
theorem dX8_steps_73 : decode cX8_steps 73 = .ok (.iadd, 1) := by decide +kernel
theorem dX8_steps_74 : decode cX8_steps 74 = .ok (.aload_n 0, 1) := by decide +kernel
theorem dX8_steps_75 : decode cX8_steps 75 = .ok (.getfield 22, 3) := by decide +kernel
theorem dX8_steps_78 : decode cX8_steps 78 = .ok (.iload_n 3, 1) := by decide +kernel
theorem dX8_steps_79 : decode cX8_steps 79 = .ok (.iaload, 1) := by decide +kernel
theorem dX8_steps_80 : decode cX8_steps 80 = .ok (.if_icmp .eq 9, 3) := by decide +kernel
theorem dX8_steps_83 : decode cX8_steps 83 = .ok (.iinc 5 1, 3) := by decide +kernel
theorem dX8_steps_86 : decode cX8_steps 86 = .ok (.goto (-36), 3) := by decide +kernel
theorem dX8_steps_89 : decode cX8_steps 89 = .ok (.iload 4, 2) := by decide +kernel
theorem dX8_steps_91 : decode cX8_steps 91 = .ok (.iload_n 2, 1) := by decide +kernel
theorem dX8_steps_92 : decode cX8_steps 92 = .ok (.if_icmp .ne 6, 3) := by decide +kernel
theorem dX8_steps_95 : decode cX8_steps 95 = .ok (.iload 5, 2) := by decide +kernel
theorem dX8_steps_97 : decode cX8_steps 97 = .ok (.ireturn, 1) := by decide +kernel
theorem dX8_steps_98 : decode cX8_steps 98 = .ok (.aload_n 0, 1) := by decide +kernel
theorem dX8_steps_99 : decode cX8_steps 99 = .ok (.iload 5, 2) := by decide +kernel
theorem dX8_steps_101 : decode cX8_steps 101 = .ok (.iload_n 3, 1) := by decide +kernel
theorem dX8_steps_102 : decode cX8_steps 102 = .ok (.invokevirtual 223, 3) := by decide +kernel
theorem dX8_steps_105 : decode cX8_steps 105 = .ok (.istore_n 3, 1) := by decide +kernel
theorem dX8_steps_106 : decode cX8_steps 106 = .ok (.iinc 4 1, 3) := by decide +kernel
theorem dX8_steps_109 : decode cX8_steps 109 = .ok (.goto (-67), 3) := by decide +kernel
theorem dX8_steps_112 : decode cX8_steps 112 = .ok (.iload_n 2, 1) := by decide +kernel
theorem dX8_steps_113 : decode cX8_steps 113 = .ok (.iconst (-1), 1) := by decide +kernel
theorem dX8_steps_114 : decode cX8_steps 114 = .ok (.if_icmp .ne 8, 3) := by decide +kernel
theorem dX8_steps_117 : decode cX8_steps 117 = .ok (.iload 4, 2) := by decide +kernel
theorem dX8_steps_119 : decode cX8_steps 119 = .ok (.goto 5, 3) := by decide +kernel
theorem dX8_steps_122 : decode cX8_steps 122 = .ok (.bipush (-4), 2) := by decide +kernel
theorem dX8_steps_124 : decode cX8_steps 124 = .ok (.ireturn, 1) := by decide +kernel
theorem dX8_farthest_0 : decode cX8_farthest 0 = .ok (.iload_n 1, 1) := by decide +kernel
theorem dX8_farthest_1 : decode cX8_farthest 1 = .ok (.i2l, 1) := by decide +kernel
theorem dX8_farthest_2 : decode cX8_farthest 2 = .ok (.lconst 0, 1) := by decide +kernel
theorem dX8_farthest_3 : decode cX8_farthest 3 = .ok (.lconst 1, 1) := by decide +kernel
theorem dX8_farthest_4 : decode cX8_farthest 4 = .ok (.invokestatic 58, 3) := by decide +kernel
theorem dX8_farthest_7 : decode cX8_farthest 7 = .ok (.ifCond .ne 5, 3) := by decide +kernel
theorem dX8_farthest_10 : decode cX8_farthest 10 = .ok (.iconst (-1), 1) := by decide +kernel
theorem dX8_farthest_11 : decode cX8_farthest 11 = .ok (.ireturn, 1) := by decide +kernel
