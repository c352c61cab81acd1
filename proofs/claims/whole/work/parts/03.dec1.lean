theorem dX0_init_0 : decode cX0_init 0 = .ok (.aload_n 0, 1) := by decide +kernel
theorem dX0_init_1 : decode cX0_init 1 = .ok (.invokespecial 3, 3) := by decide +kernel
theorem dX0_init_4 : decode cX0_init 4 = .ok (.aload_n 0, 1) := by decide +kernel
theorem dX0_init_5 : decode cX0_init 5 = .ok (.new 9, 3) := by decide +kernel
theorem dX0_init_8 : decode cX0_init 8 = .ok (.dup, 1) := by decide +kernel
theorem dX0_init_9 : decode cX0_init 9 = .ok (.invokespecial 11, 3) := by decide +kernel
theorem dX0_init_12 : decode cX0_init 12 = .ok (.putfield 12, 3) := by decide +kernel
theorem dX0_init_15 : decode cX0_init 15 = .ok (.return_, 1) := by decide +kernel
theorem dX0_clear_0 : decode cX0_clear 0 = .ok (.aload_n 0, 1) := by decide +kernel
theorem dX0_clear_1 : decode cX0_clear 1 = .ok (.getfield 12, 3) := by decide +kernel
theorem dX0_clear_4 : decode cX0_clear 4 = .ok (.iconst 0, 1) := by decide +kernel
theorem dX0_clear_5 : decode cX0_clear 5 = .ok (.putfield 18, 3) := by decide +kernel
theorem dX0_clear_8 : decode cX0_clear 8 = .ok (.aload_n 0, 1) := by decide +kernel
theorem dX0_clear_9 : decode cX0_clear 9 = .ok (.iconst 0, 1) := by decide +kernel
theorem dX0_clear_10 : decode cX0_clear 10 = .ok (.putfield 22, 3) := by decide +kernel
theorem dX0_clear_13 : decode cX0_clear 13 = .ok (.aload_n 0, 1) := by decide +kernel
theorem dX0_clear_14 : decode cX0_clear 14 = .ok (.iconst 0, 1) := by decide +kernel
theorem dX0_clear_15 : decode cX0_clear 15 = .ok (.putfield 25, 3) := by decide +kernel
theorem dX0_clear_18 : decode cX0_clear 18 = .ok (.aload_n 0, 1) := by decide +kernel
theorem dX0_clear_19 : decode cX0_clear 19 = .ok (.iconst 0, 1) := by decide +kernel
theorem dX0_clear_20 : decode cX0_clear 20 = .ok (.putfield 28, 3) := by decide +kernel
theorem dX0_clear_23 : decode cX0_clear 23 = .ok (.aload_n 0, 1) := by decide +kernel
theorem dX0_clear_24 : decode cX0_clear 24 = .ok (.iconst 0, 1) := by decide +kernel
theorem dX0_clear_25 : decode cX0_clear 25 = .ok (.putfield 31, 3) := by decide +kernel
theorem dX0_clear_28 : decode cX0_clear 28 = .ok (.aload_n 0, 1) := by decide +kernel
theorem dX0_clear_29 : decode cX0_clear 29 = .ok (.iconst 0, 1) := by decide +kernel
theorem dX0_clear_30 : decode cX0_clear 30 = .ok (.putfield 34, 3) := by decide +kernel
theorem dX0_clear_33 : decode cX0_clear 33 = .ok (.aload_n 0, 1) := by decide +kernel
theorem dX0_clear_34 : decode cX0_clear 34 = .ok (.iconst 0, 1) := by decide +kernel
theorem dX0_clear_35 : decode cX0_clear 35 = .ok (.putfield 37, 3) := by decide +kernel
theorem dX0_clear_38 : decode cX0_clear 38 = .ok (.aload_n 0, 1) := by decide +kernel
theorem dX0_clear_39 : decode cX0_clear 39 = .ok (.iconst 0, 1) := by decide +kernel
theorem dX0_clear_40 : decode cX0_clear 40 = .ok (.putfield 40, 3) := by decide +kernel
theorem dX0_clear_43 : decode cX0_clear 43 = .ok (.aload_n 0, 1) := by decide +kernel
theorem dX0_clear_44 : decode cX0_clear 44 = .ok (.iconst 0, 1) := by decide +kernel
theorem dX0_clear_45 : decode cX0_clear 45 = .ok (.putfield 44, 3) := by decide +kernel
theorem dX0_clear_48 : decode cX0_clear 48 = .ok (.return_, 1) := by decide +kernel
theorem dX0_become_0 : decode cX0_become 0 = .ok (.aload_n 0, 1) := by decide +kernel
theorem dX0_become_1 : decode cX0_become 1 = .ok (.getfield 12, 3) := by decide +kernel
theorem dX0_become_4 : decode cX0_become 4 = .ok (.aload_n 1, 1) := by decide +kernel
theorem dX0_become_5 : decode cX0_become 5 = .ok (.getfield 12, 3) := by decide +kernel
theorem dX0_become_8 : decode cX0_become 8 = .ok (.invokevirtual 47, 3) := by decide +kernel
theorem dX0_become_11 : decode cX0_become 11 = .ok (.aload_n 0, 1) := by decide +kernel
theorem dX0_become_12 : decode cX0_become 12 = .ok (.aload_n 1, 1) := by decide +kernel
theorem dX0_become_13 : decode cX0_become 13 = .ok (.getfield 22, 3) := by decide +kernel
theorem dX0_become_16 : decode cX0_become 16 = .ok (.putfield 22, 3) := by decide +kernel
theorem dX0_become_19 : decode cX0_become 19 = .ok (.aload_n 0, 1) := by decide +kernel
theorem dX0_become_20 : decode cX0_become 20 = .ok (.aload_n 1, 1) := by decide +kernel
theorem dX0_become_21 : decode cX0_become 21 = .ok (.getfield 25, 3) := by decide +kernel
theorem dX0_become_24 : decode cX0_become 24 = .ok (.putfield 25, 3) := by decide +kernel
theorem dX0_become_27 : decode cX0_become 27 = .ok (.aload_n 0, 1) := by decide +kernel
theorem dX0_become_28 : decode cX0_become 28 = .ok (.aload_n 1, 1) := by decide +kernel
theorem dX0_become_29 : decode cX0_become 29 = .ok (.getfield 28, 3) := by decide +kernel
theorem dX0_become_32 : decode cX0_become 32 = .ok (.putfield 28, 3) := by decide +kernel
theorem dX0_become_35 : decode cX0_become 35 = .ok (.aload_n 0, 1) := by decide +kernel
theorem dX0_become_36 : decode cX0_become 36 = .ok (.aload_n 1, 1) := by decide +kernel
theorem dX0_become_37 : decode cX0_become 37 = .ok (.getfield 31, 3) := by decide +kernel
theorem dX0_become_40 : decode cX0_become 40 = .ok (.putfield 31, 3) := by decide +kernel
theorem dX0_become_43 : decode cX0_become 43 = .ok (.aload_n 0, 1) := by decide +kernel
theorem dX0_become_44 : decode cX0_become 44 = .ok (.aload_n 1, 1) := by decide +kernel
theorem dX0_become_45 : decode cX0_become 45 = .ok (.getfield 34, 3) := by decide +kernel
theorem dX0_become_48 : decode cX0_become 48 = .ok (.putfield 34, 3) := by decide +kernel
theorem dX0_become_51 : decode cX0_become 51 = .ok (.aload_n 0, 1) := by decide +kernel
theorem dX0_become_52 : decode cX0_become 52 = .ok (.aload_n 1, 1) := by decide +kernel
theorem dX0_become_53 : decode cX0_become 53 = .ok (.getfield 37, 3) := by decide +kernel
theorem dX0_become_56 : decode cX0_become 56 = .ok (.putfield 37, 3) := by decide +kernel
theorem dX0_become_59 : decode cX0_become 59 = .ok (.aload_n 0, 1) := by decide +kernel
theorem dX0_become_60 : decode cX0_become 60 = .ok (.aload_n 1, 1) := by decide +kernel
theorem dX0_become_61 : decode cX0_become 61 = .ok (.getfield 40, 3) := by decide +kernel
theorem dX0_become_64 : decode cX0_become 64 = .ok (.putfield 40, 3) := by decide +kernel
theorem dX0_become_67 : decode cX0_become 67 = .ok (.aload_n 0, 1) := by decide +kernel
theorem dX0_become_68 : decode cX0_become 68 = .ok (.aload_n 1, 1) := by decide +kernel
theorem dX0_become_69 : decode cX0_become 69 = .ok (.getfield 44, 3) := by decide +kernel
theorem dX0_become_72 : decode cX0_become 72 = .ok (.putfield 44, 3) := by decide +kernel
theorem dX0_become_75 : decode cX0_become 75 = .ok (.return_, 1) := by decide +kernel
theorem dX0_times_0 : decode cX0_times 0 = .ok (.aload_n 0, 1) := by decide +kernel
theorem dX0_times_1 : decode cX0_times 1 = .ok (.getfield 28, 3) := by decide +kernel
theorem dX0_times_4 : decode cX0_times 4 = .ok (.iconst 1, 1) := by decide +kernel
theorem dX0_times_5 : decode cX0_times 5 = .ok (.invokestatic 51, 3) := by decide +kernel
theorem dX0_times_8 : decode cX0_times 8 = .ok (.aload_n 0, 1) := by decide +kernel
theorem dX0_times_9 : decode cX0_times 9 = .ok (.getfield 31, 3) := by decide +kernel
theorem dX0_times_12 : decode cX0_times 12 = .ok (.iconst 1, 1) := by decide +kernel
theorem dX0_times_13 : decode cX0_times 13 = .ok (.invokestatic 51, 3) := by decide +kernel
theorem dX0_times_16 : decode cX0_times 16 = .ok (.imul, 1) := by decide +kernel
theorem dX0_times_17 : decode cX0_times 17 = .ok (.bipush 99, 2) := by decide +kernel
theorem dX0_times_19 : decode cX0_times 19 = .ok (.invokestatic 57, 3) := by decide +kernel
theorem dX0_times_22 : decode cX0_times 22 = .ok (.ireturn, 1) := by decide +kernel
theorem dX0_take_0 : decode cX0_take 0 = .ok (.aload_n 0, 1) := by decide +kernel
theorem dX0_take_1 : decode cX0_take 1 = .ok (.getfield 12, 3) := by decide +kernel
theorem dX0_take_4 : decode cX0_take 4 = .ok (.iload_n 1, 1) := by decide +kernel
theorem dX0_take_5 : decode cX0_take 5 = .ok (.invokevirtual 60, 3) := by decide +kernel
theorem dX0_take_8 : decode cX0_take 8 = .ok (.aload_n 0, 1) := by decide +kernel
theorem dX0_take_9 : decode cX0_take 9 = .ok (.getfield 22, 3) := by decide +kernel
theorem dX0_take_12 : decode cX0_take 12 = .ok (.tableswitch 57 0 3 #[32, 38, 44, 50], 32) := by decide +kernel
theorem dX0_take_44 : decode cX0_take 44 = .ok (.aload_n 0, 1) := by decide +kernel
theorem dX0_take_45 : decode cX0_take 45 = .ok (.iload_n 1, 1) := by decide +kernel
theorem dX0_take_46 : decode cX0_take 46 = .ok (.invokevirtual 64, 3) := by decide +kernel
theorem dX0_take_49 : decode cX0_take 49 = .ok (.ireturn, 1) := by decide +kernel
theorem dX0_take_50 : decode cX0_take 50 = .ok (.aload_n 0, 1) := by decide +kernel
theorem dX0_take_51 : decode cX0_take 51 = .ok (.iload_n 1, 1) := by decide +kernel
theorem dX0_take_52 : decode cX0_take 52 = .ok (.invokevirtual 68, 3) := by decide +kernel
theorem dX0_take_55 : decode cX0_take 55 = .ok (.ireturn, 1) := by decide +kernel
theorem dX0_take_56 : decode cX0_take 56 = .ok (.aload_n 0, 1) := by decide +kernel
theorem dX0_take_57 : decode cX0_take 57 = .ok (.iload_n 1, 1) := by decide +kernel
theorem dX0_take_58 : decode cX0_take 58 = .ok (.invokevirtual 71, 3) := by decide +kernel
theorem dX0_take_61 : decode cX0_take 61 = .ok (.ireturn, 1) := by decide +kernel
theorem dX0_take_62 : decode cX0_take 62 = .ok (.aload_n 0, 1) := by decide +kernel
theorem dX0_take_63 : decode cX0_take 63 = .ok (.iload_n 1, 1) := by decide +kernel
theorem dX0_take_64 : decode cX0_take 64 = .ok (.putfield 44, 3) := by decide +kernel
theorem dX0_take_67 : decode cX0_take 67 = .ok (.iconst 1, 1) := by decide +kernel
theorem dX0_take_68 : decode cX0_take 68 = .ok (.ireturn, 1) := by decide +kernel
theorem dX0_take_69 : decode cX0_take 69 = .ok (.aload_n 0, 1) := by decide +kernel
theorem dX0_take_70 : decode cX0_take 70 = .ok (.iload_n 1, 1) := by decide +kernel
theorem dX0_take_71 : decode cX0_take 71 = .ok (.bipush 97, 2) := by decide +kernel
theorem dX0_take_73 : decode cX0_take 73 = .ok (.isub, 1) := by decide +kernel
theorem dX0_take_74 : decode cX0_take 74 = .ok (.putfield 44, 3) := by decide +kernel
theorem dX0_take_77 : decode cX0_take 77 = .ok (.aload_n 0, 1) := by decide +kernel
theorem dX0_take_78 : decode cX0_take 78 = .ok (.getfield 44, 3) := by decide +kernel
theorem dX0_take_81 : decode cX0_take 81 = .ok (.ifCond .lt 15, 3) := by decide +kernel
theorem dX0_take_84 : decode cX0_take 84 = .ok (.aload_n 0, 1) := by decide +kernel
theorem dX0_take_85 : decode cX0_take 85 = .ok (.getfield 44, 3) := by decide +kernel
theorem dX0_take_88 : decode cX0_take 88 = .ok (.iconst 4, 1) := by decide +kernel
theorem dX0_take_89 : decode cX0_take 89 = .ok (.if_icmp .ge 7, 3) := by decide +kernel
theorem dX0_take_92 : decode cX0_take 92 = .ok (.iconst 1, 1) := by decide +kernel
theorem dX0_take_93 : decode cX0_take 93 = .ok (.goto 4, 3) := by decide +kernel
theorem dX0_take_96 : decode cX0_take 96 = .ok (.iconst 2, 1) := by decide +kernel
theorem dX0_take_97 : decode cX0_take 97 = .ok (.ireturn, 1) := by decide +kernel
theorem dX0_takeVerb_0 : decode cX0_takeVerb 0 = .ok (.iload_n 1, 1) := by decide +kernel
theorem dX0_takeVerb_1 : decode cX0_takeVerb 1 = .ok (.aload_n 0, 1) := by decide +kernel
theorem dX0_takeVerb_2 : decode cX0_takeVerb 2 = .ok (.getfield 28, 3) := by decide +kernel
theorem dX0_takeVerb_5 : decode cX0_takeVerb 5 = .ok (.invokestatic 74, 3) := by decide +kernel
theorem dX0_takeVerb_8 : decode cX0_takeVerb 8 = .ok (.ifCond .eq 17, 3) := by decide +kernel
theorem dX0_takeVerb_11 : decode cX0_takeVerb 11 = .ok (.aload_n 0, 1) := by decide +kernel
theorem dX0_takeVerb_12 : decode cX0_takeVerb 12 = .ok (.aload_n 0, 1) := by decide +kernel
theorem dX0_takeVerb_13 : decode cX0_takeVerb 13 = .ok (.getfield 28, 3) := by decide +kernel
theorem dX0_takeVerb_16 : decode cX0_takeVerb 16 = .ok (.iload_n 1, 1) := by decide +kernel
theorem dX0_takeVerb_17 : decode cX0_takeVerb 17 = .ok (.invokestatic 78, 3) := by decide +kernel
theorem dX0_takeVerb_20 : decode cX0_takeVerb 20 = .ok (.putfield 28, 3) := by decide +kernel
theorem dX0_takeVerb_23 : decode cX0_takeVerb 23 = .ok (.iconst 0, 1) := by decide +kernel
theorem dX0_takeVerb_24 : decode cX0_takeVerb 24 = .ok (.ireturn, 1) := by decide +kernel
theorem dX0_takeVerb_25 : decode cX0_takeVerb 25 = .ok (.iload_n 1, 1) := by decide +kernel
theorem dX0_takeVerb_26 : decode cX0_takeVerb 26 = .ok (.lookupswitch 163 #[(65, 156), (73, 156), (80, 156), (97, 156), (99, 122), (100, 122), (105, 156), (109, 136), (112, 156), (114, 129), (117, 156), (120, 143), (121, 122), (126, 156)], 122) := by decide +kernel
theorem dX0_takeVerb_148 : decode cX0_takeVerb 148 = .ok (.aload_n 0, 1) := by decide +kernel
theorem dX0_takeVerb_149 : decode cX0_takeVerb 149 = .ok (.iload_n 1, 1) := by decide +kernel
theorem dX0_takeVerb_150 : decode cX0_takeVerb 150 = .ok (.iconst 1, 1) := by decide +kernel
theorem dX0_takeVerb_151 : decode cX0_takeVerb 151 = .ok (.invokevirtual 81, 3) := by decide +kernel
theorem dX0_takeVerb_154 : decode cX0_takeVerb 154 = .ok (.ireturn, 1) := by decide +kernel
theorem dX0_takeVerb_155 : decode cX0_takeVerb 155 = .ok (.aload_n 0, 1) := by decide +kernel
theorem dX0_takeVerb_156 : decode cX0_takeVerb 156 = .ok (.iload_n 1, 1) := by decide +kernel
theorem dX0_takeVerb_157 : decode cX0_takeVerb 157 = .ok (.iconst 3, 1) := by decide +kernel
theorem dX0_takeVerb_158 : decode cX0_takeVerb 158 = .ok (.invokevirtual 81, 3) := by decide +kernel
theorem dX0_takeVerb_161 : decode cX0_takeVerb 161 = .ok (.ireturn, 1) := by decide +kernel
theorem dX0_takeVerb_162 : decode cX0_takeVerb 162 = .ok (.aload_n 0, 1) := by decide +kernel
theorem dX0_takeVerb_163 : decode cX0_takeVerb 163 = .ok (.iload_n 1, 1) := by decide +kernel
theorem dX0_takeVerb_164 : decode cX0_takeVerb 164 = .ok (.iconst 4, 1) := by decide +kernel
theorem dX0_takeVerb_165 : decode cX0_takeVerb 165 = .ok (.invokevirtual 81, 3) := by decide +kernel
theorem dX0_takeVerb_168 : decode cX0_takeVerb 168 = .ok (.ireturn, 1) := by decide +kernel
theorem dX0_takeVerb_169 : decode cX0_takeVerb 169 = .ok (.aload_n 0, 1) := by decide +kernel
theorem dX0_takeVerb_170 : decode cX0_takeVerb 170 = .ok (.bipush 100, 2) := by decide +kernel
theorem dX0_takeVerb_172 : decode cX0_takeVerb 172 = .ok (.putfield 25, 3) := by decide +kernel
theorem dX0_takeVerb_175 : decode cX0_takeVerb 175 = .ok (.aload_n 0, 1) := by decide +kernel
theorem dX0_takeVerb_176 : decode cX0_takeVerb 176 = .ok (.iconst 4, 1) := by decide +kernel
theorem dX0_takeVerb_177 : decode cX0_takeVerb 177 = .ok (.putfield 34, 3) := by decide +kernel
theorem dX0_takeVerb_180 : decode cX0_takeVerb 180 = .ok (.iconst 1, 1) := by decide +kernel
theorem dX0_takeVerb_181 : decode cX0_takeVerb 181 = .ok (.ireturn, 1) := by decide +kernel
theorem dX0_takeVerb_182 : decode cX0_takeVerb 182 = .ok (.aload_n 0, 1) := by decide +kernel
theorem dX0_takeVerb_183 : decode cX0_takeVerb 183 = .ok (.iload_n 1, 1) := by decide +kernel
theorem dX0_takeVerb_184 : decode cX0_takeVerb 184 = .ok (.putfield 25, 3) := by decide +kernel
theorem dX0_takeVerb_187 : decode cX0_takeVerb 187 = .ok (.iconst 1, 1) := by decide +kernel
theorem dX0_takeVerb_188 : decode cX0_takeVerb 188 = .ok (.ireturn, 1) := by decide +kernel
theorem dX0_takeVerb_189 : decode cX0_takeVerb 189 = .ok (.aload_n 0, 1) := by decide +kernel
theorem dX0_takeVerb_190 : decode cX0_takeVerb 190 = .ok (.iload_n 1, 1) := by decide +kernel
theorem dX0_takeVerb_191 : decode cX0_takeVerb 191 = .ok (.invokevirtual 84, 3) := by decide +kernel
theorem dX0_takeVerb_194 : decode cX0_takeVerb 194 = .ok (.ireturn, 1) := by decide +kernel
theorem dX0_waitWith_0 : decode cX0_waitWith 0 = .ok (.aload_n 0, 1) := by decide +kernel
theorem dX0_waitWith_1 : decode cX0_waitWith 1 = .ok (.iload_n 1, 1) := by decide +kernel
theorem dX0_waitWith_2 : decode cX0_waitWith 2 = .ok (.putfield 25, 3) := by decide +kernel
theorem dX0_waitWith_5 : decode cX0_waitWith 5 = .ok (.aload_n 0, 1) := by decide +kernel
theorem dX0_waitWith_6 : decode cX0_waitWith 6 = .ok (.iload_n 2, 1) := by decide +kernel
theorem dX0_waitWith_7 : decode cX0_waitWith 7 = .ok (.putfield 22, 3) := by decide +kernel
theorem dX0_waitWith_10 : decode cX0_waitWith 10 = .ok (.iconst 0, 1) := by decide +kernel
theorem dX0_waitWith_11 : decode cX0_waitWith 11 = .ok (.ireturn, 1) := by decide +kernel
theorem dX0_takeReach_0 : decode cX0_takeReach 0 = .ok (.iload_n 1, 1) := by decide +kernel
theorem dX0_takeReach_1 : decode cX0_takeReach 1 = .ok (.aload_n 0, 1) := by decide +kernel
theorem dX0_takeReach_2 : decode cX0_takeReach 2 = .ok (.getfield 31, 3) := by decide +kernel
theorem dX0_takeReach_5 : decode cX0_takeReach 5 = .ok (.invokestatic 74, 3) := by decide +kernel
theorem dX0_takeReach_8 : decode cX0_takeReach 8 = .ok (.ifCond .eq 17, 3) := by decide +kernel
theorem dX0_takeReach_11 : decode cX0_takeReach 11 = .ok (.aload_n 0, 1) := by decide +kernel
theorem dX0_takeReach_12 : decode cX0_takeReach 12 = .ok (.aload_n 0, 1) := by decide +kernel
theorem dX0_takeReach_13 : decode cX0_takeReach 13 = .ok (.getfield 31, 3) := by decide +kernel
theorem dX0_takeReach_16 : decode cX0_takeReach 16 = .ok (.iload_n 1, 1) := by decide +kernel
theorem dX0_takeReach_17 : decode cX0_takeReach 17 = .ok (.invokestatic 78, 3) := by decide +kernel
theorem dX0_takeReach_20 : decode cX0_takeReach 20 = .ok (.putfield 31, 3) := by decide +kernel
theorem dX0_takeReach_23 : decode cX0_takeReach 23 = .ok (.iconst 0, 1) := by decide +kernel
theorem dX0_takeReach_24 : decode cX0_takeReach 24 = .ok (.ireturn, 1) := by decide +kernel
theorem dX0_takeReach_25 : decode cX0_takeReach 25 = .ok (.iload_n 1, 1) := by decide +kernel
theorem dX0_takeReach_26 : decode cX0_takeReach 26 = .ok (.aload_n 0, 1) := by decide +kernel
theorem dX0_takeReach_27 : decode cX0_takeReach 27 = .ok (.getfield 25, 3) := by decide +kernel
theorem dX0_takeReach_30 : decode cX0_takeReach 30 = .ok (.if_icmp .ne 10, 3) := by decide +kernel
theorem dX0_takeReach_33 : decode cX0_takeReach 33 = .ok (.aload_n 0, 1) := by decide +kernel
theorem dX0_takeReach_34 : decode cX0_takeReach 34 = .ok (.iconst 5, 1) := by decide +kernel
theorem dX0_takeReach_35 : decode cX0_takeReach 35 = .ok (.putfield 34, 3) := by decide +kernel
theorem dX0_takeReach_38 : decode cX0_takeReach 38 = .ok (.iconst 1, 1) := by decide +kernel
theorem dX0_takeReach_39 : decode cX0_takeReach 39 = .ok (.ireturn, 1) := by decide +kernel
theorem dX0_takeReach_40 : decode cX0_takeReach 40 = .ok (.iload_n 1, 1) := by decide +kernel
theorem dX0_takeReach_41 : decode cX0_takeReach 41 = .ok (.bipush 105, 2) := by decide +kernel
theorem dX0_takeReach_43 : decode cX0_takeReach 43 = .ok (.if_icmp .eq 9, 3) := by decide +kernel
theorem dX0_takeReach_46 : decode cX0_takeReach 46 = .ok (.iload_n 1, 1) := by decide +kernel
theorem dX0_takeReach_47 : decode cX0_takeReach 47 = .ok (.bipush 97, 2) := by decide +kernel
theorem dX0_takeReach_49 : decode cX0_takeReach 49 = .ok (.if_icmp .ne 25, 3) := by decide +kernel
theorem dX0_takeReach_52 : decode cX0_takeReach 52 = .ok (.aload_n 0, 1) := by decide +kernel
theorem dX0_takeReach_53 : decode cX0_takeReach 53 = .ok (.iload_n 1, 1) := by decide +kernel
theorem dX0_takeReach_54 : decode cX0_takeReach 54 = .ok (.bipush 97, 2) := by decide +kernel
theorem dX0_takeReach_56 : decode cX0_takeReach 56 = .ok (.if_icmp .ne 7, 3) := by decide +kernel
theorem dX0_takeReach_59 : decode cX0_takeReach 59 = .ok (.iconst 1, 1) := by decide +kernel
theorem dX0_takeReach_60 : decode cX0_takeReach 60 = .ok (.goto 4, 3) := by decide +kernel
theorem dX0_takeReach_63 : decode cX0_takeReach 63 = .ok (.iconst 0, 1) := by decide +kernel
theorem dX0_takeReach_64 : decode cX0_takeReach 64 = .ok (.putfield 40, 3) := by decide +kernel
theorem dX0_takeReach_67 : decode cX0_takeReach 67 = .ok (.aload_n 0, 1) := by decide +kernel
theorem dX0_takeReach_68 : decode cX0_takeReach 68 = .ok (.iconst 2, 1) := by decide +kernel
theorem dX0_takeReach_69 : decode cX0_takeReach 69 = .ok (.putfield 22, 3) := by decide +kernel
theorem dX0_takeReach_72 : decode cX0_takeReach 72 = .ok (.iconst 0, 1) := by decide +kernel
theorem dX0_takeReach_73 : decode cX0_takeReach 73 = .ok (.ireturn, 1) := by decide +kernel
theorem dX0_takeReach_74 : decode cX0_takeReach 74 = .ok (.aload_n 0, 1) := by decide +kernel
theorem dX0_takeReach_75 : decode cX0_takeReach 75 = .ok (.iload_n 1, 1) := by decide +kernel
theorem dX0_takeReach_76 : decode cX0_takeReach 76 = .ok (.invokevirtual 84, 3) := by decide +kernel
theorem dX0_takeReach_79 : decode cX0_takeReach 79 = .ok (.ireturn, 1) := by decide +kernel
theorem dX0_takeObject_0 : decode cX0_takeObject 0 = .ok (.iload_n 1, 1) := by decide +kernel
theorem dX0_takeObject_1 : decode cX0_takeObject 1 = .ok (.bipush 119, 2) := by decide +kernel
theorem dX0_takeObject_3 : decode cX0_takeObject 3 = .ok (.if_icmp .eq 11, 3) := by decide +kernel
theorem dX0_takeObject_6 : decode cX0_takeObject 6 = .ok (.iload_n 1, 1) := by decide +kernel
theorem dX0_takeObject_7 : decode cX0_takeObject 7 = .ok (.bipush 98, 2) := by decide +kernel
theorem dX0_takeObject_9 : decode cX0_takeObject 9 = .ok (.if_icmp .eq 5, 3) := by decide +kernel
theorem dX0_takeObject_12 : decode cX0_takeObject 12 = .ok (.iconst 2, 1) := by decide +kernel
theorem dX0_takeObject_13 : decode cX0_takeObject 13 = .ok (.ireturn, 1) := by decide +kernel
theorem dX0_takeObject_14 : decode cX0_takeObject 14 = .ok (.aload_n 0, 1) := by decide +kernel
theorem dX0_takeObject_15 : decode cX0_takeObject 15 = .ok (.iload_n 1, 1) := by decide +kernel
theorem dX0_takeObject_16 : decode cX0_takeObject 16 = .ok (.bipush 119, 2) := by decide +kernel
theorem dX0_takeObject_18 : decode cX0_takeObject 18 = .ok (.if_icmp .ne 7, 3) := by decide +kernel
theorem dX0_takeObject_21 : decode cX0_takeObject 21 = .ok (.iconst 2, 1) := by decide +kernel
theorem dX0_takeObject_22 : decode cX0_takeObject 22 = .ok (.goto 4, 3) := by decide +kernel
theorem dX0_takeObject_25 : decode cX0_takeObject 25 = .ok (.iconst 3, 1) := by decide +kernel
theorem dX0_takeObject_26 : decode cX0_takeObject 26 = .ok (.putfield 34, 3) := by decide +kernel
theorem dX0_takeObject_29 : decode cX0_takeObject 29 = .ok (.iconst 1, 1) := by decide +kernel
theorem dX0_takeObject_30 : decode cX0_takeObject 30 = .ok (.ireturn, 1) := by decide +kernel
theorem dX0_takeMotion_0 : decode cX0_takeMotion 0 = .ok (.aload_n 0, 1) := by decide +kernel
theorem dX0_takeMotion_1 : decode cX0_takeMotion 1 = .ok (.iconst 1, 1) := by decide +kernel
theorem dX0_takeMotion_2 : decode cX0_takeMotion 2 = .ok (.putfield 34, 3) := by decide +kernel
theorem dX0_takeMotion_5 : decode cX0_takeMotion 5 = .ok (.aload_n 0, 1) := by decide +kernel
theorem dX0_takeMotion_6 : decode cX0_takeMotion 6 = .ok (.iload_n 1, 1) := by decide +kernel
theorem dX0_takeMotion_7 : decode cX0_takeMotion 7 = .ok (.invokestatic 87, 3) := by decide +kernel
theorem dX0_takeMotion_10 : decode cX0_takeMotion 10 = .ok (.putfield 37, 3) := by decide +kernel
theorem dX0_takeMotion_13 : decode cX0_takeMotion 13 = .ok (.aload_n 0, 1) := by decide +kernel
theorem dX0_takeMotion_14 : decode cX0_takeMotion 14 = .ok (.getfield 37, 3) := by decide +kernel
theorem dX0_takeMotion_17 : decode cX0_takeMotion 17 = .ok (.iconst (-1), 1) := by decide +kernel
theorem dX0_takeMotion_18 : decode cX0_takeMotion 18 = .ok (.if_icmp .ne 5, 3) := by decide +kernel
theorem dX0_takeMotion_21 : decode cX0_takeMotion 21 = .ok (.iconst 2, 1) := by decide +kernel
theorem dX0_takeMotion_22 : decode cX0_takeMotion 22 = .ok (.ireturn, 1) := by decide +kernel
theorem dX0_takeMotion_23 : decode cX0_takeMotion 23 = .ok (.aload_n 0, 1) := by decide +kernel
theorem dX0_takeMotion_24 : decode cX0_takeMotion 24 = .ok (.getfield 37, 3) := by decide +kernel
theorem dX0_takeMotion_27 : decode cX0_takeMotion 27 = .ok (.bipush 7, 2) := by decide +kernel
theorem dX0_takeMotion_29 : decode cX0_takeMotion 29 = .ok (.if_icmp .ge 5, 3) := by decide +kernel
theorem dX0_takeMotion_32 : decode cX0_takeMotion 32 = .ok (.iconst 1, 1) := by decide +kernel
theorem dX0_takeMotion_33 : decode cX0_takeMotion 33 = .ok (.ireturn, 1) := by decide +kernel
theorem dX0_takeMotion_34 : decode cX0_takeMotion 34 = .ok (.aload_n 0, 1) := by decide +kernel
theorem dX0_takeMotion_35 : decode cX0_takeMotion 35 = .ok (.aload_n 0, 1) := by decide +kernel
theorem dX0_takeMotion_36 : decode cX0_takeMotion 36 = .ok (.getfield 37, 3) := by decide +kernel
theorem dX0_takeMotion_39 : decode cX0_takeMotion 39 = .ok (.bipush 9, 2) := by decide +kernel
theorem dX0_takeMotion_41 : decode cX0_takeMotion 41 = .ok (.if_icmp .ne 7, 3) := by decide +kernel
theorem dX0_takeMotion_44 : decode cX0_takeMotion 44 = .ok (.iconst 4, 1) := by decide +kernel
theorem dX0_takeMotion_45 : decode cX0_takeMotion 45 = .ok (.goto 4, 3) := by decide +kernel
theorem dX0_takeMotion_48 : decode cX0_takeMotion 48 = .ok (.iconst 3, 1) := by decide +kernel
theorem dX0_takeMotion_49 : decode cX0_takeMotion 49 = .ok (.putfield 22, 3) := by decide +kernel
theorem dX0_takeMotion_52 : decode cX0_takeMotion 52 = .ok (.iconst 0, 1) := by decide +kernel
theorem dX0_takeMotion_53 : decode cX0_takeMotion 53 = .ok (.ireturn, 1) := by decide +kernel
theorem dX0_motionOf_0 : decode cX0_motionOf 0 = .ok (.iload_n 0, 1) := by decide +kernel
theorem dX0_motionOf_1 : decode cX0_motionOf 1 = .ok (.lookupswitch 115 #[(36, 97), (39, 112), (48, 95), (98, 101), (101, 103), (102, 106), (104, 91), (108, 93), (116, 109), (119, 99)], 91) := by decide +kernel
theorem dX0_motionOf_92 : decode cX0_motionOf 92 = .ok (.iconst 0, 1) := by decide +kernel
theorem dX0_motionOf_93 : decode cX0_motionOf 93 = .ok (.ireturn, 1) := by decide +kernel
theorem dX0_motionOf_94 : decode cX0_motionOf 94 = .ok (.iconst 1, 1) := by decide +kernel
theorem dX0_motionOf_95 : decode cX0_motionOf 95 = .ok (.ireturn, 1) := by decide +kernel
theorem dX0_motionOf_96 : decode cX0_motionOf 96 = .ok (.iconst 2, 1) := by decide +kernel
theorem dX0_motionOf_97 : decode cX0_motionOf 97 = .ok (.ireturn, 1) := by decide +kernel
theorem dX0_motionOf_98 : decode cX0_motionOf 98 = .ok (.iconst 3, 1) := by decide +kernel
theorem dX0_motionOf_99 : decode cX0_motionOf 99 = .ok (.ireturn, 1) := by decide +kernel
theorem dX0_motionOf_100 : decode cX0_motionOf 100 = .ok (.iconst 4, 1) := by decide +kernel
theorem dX0_motionOf_101 : decode cX0_motionOf 101 = .ok (.ireturn, 1) := by decide +kernel
theorem dX0_motionOf_102 : decode cX0_motionOf 102 = .ok (.iconst 5, 1) := by decide +kernel
theorem dX0_motionOf_103 : decode cX0_motionOf 103 = .ok (.ireturn, 1) := by decide +kernel
theorem dX0_motionOf_104 : decode cX0_motionOf 104 = .ok (.bipush 6, 2) := by decide +kernel
theorem dX0_motionOf_106 : decode cX0_motionOf 106 = .ok (.ireturn, 1) := by decide +kernel
theorem dX0_motionOf_107 : decode cX0_motionOf 107 = .ok (.bipush 7, 2) := by decide +kernel
theorem dX0_motionOf_109 : decode cX0_motionOf 109 = .ok (.ireturn, 1) := by decide +kernel
theorem dX0_motionOf_110 : decode cX0_motionOf 110 = .ok (.bipush 8, 2) := by decide +kernel
theorem dX0_motionOf_112 : decode cX0_motionOf 112 = .ok (.ireturn, 1) := by decide +kernel
theorem dX0_motionOf_113 : decode cX0_motionOf 113 = .ok (.bipush 9, 2) := by decide +kernel
theorem dX0_motionOf_115 : decode cX0_motionOf 115 = .ok (.ireturn, 1) := by decide +kernel
theorem dX0_motionOf_116 : decode cX0_motionOf 116 = .ok (.iconst (-1), 1) := by decide +kernel
theorem dX0_motionOf_117 : decode cX0_motionOf 117 = .ok (.ireturn, 1) := by decide +kernel
theorem dX0_isFigure_0 : decode cX0_isFigure 0 = .ok (.iload_n 0, 1) := by decide +kernel
theorem dX0_isFigure_1 : decode cX0_isFigure 1 = .ok (.bipush 49, 2) := by decide +kernel
theorem dX0_isFigure_3 : decode cX0_isFigure 3 = .ok (.if_icmp .lt 9, 3) := by decide +kernel
theorem dX0_isFigure_6 : decode cX0_isFigure 6 = .ok (.iload_n 0, 1) := by decide +kernel
theorem dX0_isFigure_7 : decode cX0_isFigure 7 = .ok (.bipush 57, 2) := by decide +kernel
theorem dX0_isFigure_9 : decode cX0_isFigure 9 = .ok (.if_icmp .le 13, 3) := by decide +kernel
theorem dX0_isFigure_12 : decode cX0_isFigure 12 = .ok (.iload_n 0, 1) := by decide +kernel
theorem dX0_isFigure_13 : decode cX0_isFigure 13 = .ok (.bipush 48, 2) := by decide +kernel
theorem dX0_isFigure_15 : decode cX0_isFigure 15 = .ok (.if_icmp .ne 11, 3) := by decide +kernel
theorem dX0_isFigure_18 : decode cX0_isFigure 18 = .ok (.iload_n 1, 1) := by decide +kernel
theorem dX0_isFigure_19 : decode cX0_isFigure 19 = .ok (.ifCond .le 7, 3) := by decide +kernel
theorem dX0_isFigure_22 : decode cX0_isFigure 22 = .ok (.iconst 1, 1) := by decide +kernel
theorem dX0_isFigure_23 : decode cX0_isFigure 23 = .ok (.goto 4, 3) := by decide +kernel
theorem dX0_isFigure_26 : decode cX0_isFigure 26 = .ok (.iconst 0, 1) := by decide +kernel
theorem dX0_isFigure_27 : decode cX0_isFigure 27 = .ok (.ireturn, 1) := by decide +kernel
theorem dX0_withFigure_0 : decode cX0_withFigure 0 = .ok (.iload_n 0, 1) := by decide +kernel
theorem dX0_withFigure_1 : decode cX0_withFigure 1 = .ok (.bipush 10, 2) := by decide +kernel
theorem dX0_withFigure_3 : decode cX0_withFigure 3 = .ok (.imul, 1) := by decide +kernel
theorem dX0_withFigure_4 : decode cX0_withFigure 4 = .ok (.iload_n 1, 1) := by decide +kernel
theorem dX0_withFigure_5 : decode cX0_withFigure 5 = .ok (.iadd, 1) := by decide +kernel
theorem dX0_withFigure_6 : decode cX0_withFigure 6 = .ok (.bipush 48, 2) := by decide +kernel
theorem dX0_withFigure_8 : decode cX0_withFigure 8 = .ok (.isub, 1) := by decide +kernel
theorem dX0_withFigure_9 : decode cX0_withFigure 9 = .ok (.bipush 99, 2) := by decide +kernel
theorem dX0_withFigure_11 : decode cX0_withFigure 11 = .ok (.invokestatic 57, 3) := by decide +kernel
theorem dX0_withFigure_14 : decode cX0_withFigure 14 = .ok (.ireturn, 1) := by decide +kernel
theorem dX1_init_0 : decode cX1_init 0 = .ok (.aload_n 0, 1) := by decide +kernel
theorem dX1_init_1 : decode cX1_init 1 = .ok (.invokespecial 3, 3) := by decide +kernel
theorem dX1_init_4 : decode cX1_init 4 = .ok (.aload_n 0, 1) := by decide +kernel
theorem dX1_init_5 : decode cX1_init 5 = .ok (.new 9, 3) := by decide +kernel
theorem dX1_init_8 : decode cX1_init 8 = .ok (.dup, 1) := by decide +kernel
theorem dX1_init_9 : decode cX1_init 9 = .ok (.invokespecial 11, 3) := by decide +kernel
theorem dX1_init_12 : decode cX1_init 12 = .ok (.putfield 12, 3) := by decide +kernel
theorem dX1_init_15 : decode cX1_init 15 = .ok (.aload_n 0, 1) := by decide +kernel
theorem dX1_init_16 : decode cX1_init 16 = .ok (.new 9, 3) := by decide +kernel
theorem dX1_init_19 : decode cX1_init 19 = .ok (.dup, 1) := by decide +kernel
theorem dX1_init_20 : decode cX1_init 20 = .ok (.invokespecial 11, 3) := by decide +kernel
theorem dX1_init_23 : decode cX1_init 23 = .ok (.putfield 18, 3) := by decide +kernel
theorem dX1_init_26 : decode cX1_init 26 = .ok (.aload_n 0, 1) := by decide +kernel
theorem dX1_init_27 : decode cX1_init 27 = .ok (.new 21, 3) := by decide +kernel
theorem dX1_init_30 : decode cX1_init 30 = .ok (.dup, 1) := by decide +kernel
theorem dX1_init_31 : decode cX1_init 31 = .ok (.invokespecial 23, 3) := by decide +kernel
theorem dX1_init_34 : decode cX1_init 34 = .ok (.putfield 24, 3) := by decide +kernel
theorem dX1_init_37 : decode cX1_init 37 = .ok (.aload_n 0, 1) := by decide +kernel
theorem dX1_init_38 : decode cX1_init 38 = .ok (.new 28, 3) := by decide +kernel
theorem dX1_init_41 : decode cX1_init 41 = .ok (.dup, 1) := by decide +kernel
theorem dX1_init_42 : decode cX1_init 42 = .ok (.invokespecial 30, 3) := by decide +kernel
theorem dX1_init_45 : decode cX1_init 45 = .ok (.putfield 31, 3) := by decide +kernel
theorem dX1_init_48 : decode cX1_init 48 = .ok (.aload_n 0, 1) := by decide +kernel
theorem dX1_init_49 : decode cX1_init 49 = .ok (.new 35, 3) := by decide +kernel
theorem dX1_init_52 : decode cX1_init 52 = .ok (.dup, 1) := by decide +kernel
theorem dX1_init_53 : decode cX1_init 53 = .ok (.invokespecial 37, 3) := by decide +kernel
theorem dX1_init_56 : decode cX1_init 56 = .ok (.putfield 38, 3) := by decide +kernel
theorem dX1_init_59 : decode cX1_init 59 = .ok (.aload_n 0, 1) := by decide +kernel
theorem dX1_init_60 : decode cX1_init 60 = .ok (.bipush 60, 2) := by decide +kernel
theorem dX1_init_62 : decode cX1_init 62 = .ok (.newarray .int, 2) := by decide +kernel
theorem dX1_init_64 : decode cX1_init 64 = .ok (.putfield 42, 3) := by decide +kernel
theorem dX1_init_67 : decode cX1_init 67 = .ok (.aload_n 0, 1) := by decide +kernel
theorem dX1_init_68 : decode cX1_init 68 = .ok (.iconst 4, 1) := by decide +kernel
theorem dX1_init_69 : decode cX1_init 69 = .ok (.newarray .int, 2) := by decide +kernel
theorem dX1_init_71 : decode cX1_init 71 = .ok (.dup, 1) := by decide +kernel
theorem dX1_init_72 : decode cX1_init 72 = .ok (.iconst 0, 1) := by decide +kernel
theorem dX1_init_73 : decode cX1_init 73 = .ok (.iconst (-1), 1) := by decide +kernel
theorem dX1_init_74 : decode cX1_init 74 = .ok (.iastore, 1) := by decide +kernel
theorem dX1_init_75 : decode cX1_init 75 = .ok (.dup, 1) := by decide +kernel
theorem dX1_init_76 : decode cX1_init 76 = .ok (.iconst 1, 1) := by decide +kernel
theorem dX1_init_77 : decode cX1_init 77 = .ok (.iconst (-1), 1) := by decide +kernel
theorem dX1_init_78 : decode cX1_init 78 = .ok (.iastore, 1) := by decide +kernel
theorem dX1_init_79 : decode cX1_init 79 = .ok (.dup, 1) := by decide +kernel
theorem dX1_init_80 : decode cX1_init 80 = .ok (.iconst 2, 1) := by decide +kernel
theorem dX1_init_81 : decode cX1_init 81 = .ok (.iconst (-1), 1) := by decide +kernel
theorem dX1_init_82 : decode cX1_init 82 = .ok (.iastore, 1) := by decide +kernel
theorem dX1_init_83 : decode cX1_init 83 = .ok (.dup, 1) := by decide +kernel
theorem dX1_init_84 : decode cX1_init 84 = .ok (.iconst 3, 1) := by decide +kernel
theorem dX1_init_85 : decode cX1_init 85 = .ok (.iconst (-1), 1) := by decide +kernel
theorem dX1_init_86 : decode cX1_init 86 = .ok (.iastore, 1) := by decide +kernel
theorem dX1_init_87 : decode cX1_init 87 = .ok (.putfield 46, 3) := by decide +kernel
theorem dX1_init_90 : decode cX1_init 90 = .ok (.aload_n 0, 1) := by decide +kernel
theorem dX1_init_91 : decode cX1_init 91 = .ok (.bipush 7, 2) := by decide +kernel
theorem dX1_init_93 : decode cX1_init 93 = .ok (.newarray .int, 2) := by decide +kernel
theorem dX1_init_95 : decode cX1_init 95 = .ok (.dup, 1) := by decide +kernel
theorem dX1_init_96 : decode cX1_init 96 = .ok (.iconst 0, 1) := by decide +kernel
theorem dX1_init_97 : decode cX1_init 97 = .ok (.iconst 1, 1) := by decide +kernel
theorem dX1_init_98 : decode cX1_init 98 = .ok (.iastore, 1) := by decide +kernel
theorem dX1_init_99 : decode cX1_init 99 = .ok (.dup, 1) := by decide +kernel
theorem dX1_init_100 : decode cX1_init 100 = .ok (.iconst 1, 1) := by decide +kernel
theorem dX1_init_101 : decode cX1_init 101 = .ok (.iconst 1, 1) := by decide +kernel
theorem dX1_init_102 : decode cX1_init 102 = .ok (.iastore, 1) := by decide +kernel
theorem dX1_init_103 : decode cX1_init 103 = .ok (.dup, 1) := by decide +kernel
theorem dX1_init_104 : decode cX1_init 104 = .ok (.iconst 2, 1) := by decide +kernel
theorem dX1_init_105 : decode cX1_init 105 = .ok (.iconst 1, 1) := by decide +kernel
theorem dX1_init_106 : decode cX1_init 106 = .ok (.iastore, 1) := by decide +kernel
theorem dX1_init_107 : decode cX1_init 107 = .ok (.dup, 1) := by decide +kernel
theorem dX1_init_108 : decode cX1_init 108 = .ok (.iconst 3, 1) := by decide +kernel
theorem dX1_init_109 : decode cX1_init 109 = .ok (.iconst 1, 1) := by decide +kernel
theorem dX1_init_110 : decode cX1_init 110 = .ok (.iastore, 1) := by decide +kernel
theorem dX1_init_111 : decode cX1_init 111 = .ok (.dup, 1) := by decide +kernel
theorem dX1_init_112 : decode cX1_init 112 = .ok (.iconst 4, 1) := by decide +kernel
theorem dX1_init_113 : decode cX1_init 113 = .ok (.iconst 1, 1) := by decide +kernel
theorem dX1_init_114 : decode cX1_init 114 = .ok (.iastore, 1) := by decide +kernel
theorem dX1_init_115 : decode cX1_init 115 = .ok (.dup, 1) := by decide +kernel
theorem dX1_init_116 : decode cX1_init 116 = .ok (.iconst 5, 1) := by decide +kernel
theorem dX1_init_117 : decode cX1_init 117 = .ok (.iconst 1, 1) := by decide +kernel
theorem dX1_init_118 : decode cX1_init 118 = .ok (.iastore, 1) := by decide +kernel
theorem dX1_init_119 : decode cX1_init 119 = .ok (.dup, 1) := by decide +kernel
theorem dX1_init_120 : decode cX1_init 120 = .ok (.bipush 6, 2) := by decide +kernel
theorem dX1_init_122 : decode cX1_init 122 = .ok (.iconst 1, 1) := by decide +kernel
theorem dX1_init_123 : decode cX1_init 123 = .ok (.iastore, 1) := by decide +kernel
theorem dX1_init_124 : decode cX1_init 124 = .ok (.putfield 49, 3) := by decide +kernel
theorem dX1_init_127 : decode cX1_init 127 = .ok (.return_, 1) := by decide +kernel
theorem dX1_become_0 : decode cX1_become 0 = .ok (.aload_n 0, 1) := by decide +kernel
theorem dX1_become_1 : decode cX1_become 1 = .ok (.getfield 12, 3) := by decide +kernel
theorem dX1_become_4 : decode cX1_become 4 = .ok (.aload_n 1, 1) := by decide +kernel
theorem dX1_become_5 : decode cX1_become 5 = .ok (.getfield 12, 3) := by decide +kernel
theorem dX1_become_8 : decode cX1_become 8 = .ok (.invokevirtual 52, 3) := by decide +kernel
theorem dX1_become_11 : decode cX1_become 11 = .ok (.aload_n 0, 1) := by decide +kernel
theorem dX1_become_12 : decode cX1_become 12 = .ok (.getfield 18, 3) := by decide +kernel
theorem dX1_become_15 : decode cX1_become 15 = .ok (.aload_n 1, 1) := by decide +kernel
theorem dX1_become_16 : decode cX1_become 16 = .ok (.getfield 18, 3) := by decide +kernel
theorem dX1_become_19 : decode cX1_become 19 = .ok (.invokevirtual 52, 3) := by decide +kernel
theorem dX1_become_22 : decode cX1_become 22 = .ok (.aload_n 0, 1) := by decide +kernel
theorem dX1_become_23 : decode cX1_become 23 = .ok (.getfield 24, 3) := by decide +kernel
theorem dX1_become_26 : decode cX1_become 26 = .ok (.aload_n 1, 1) := by decide +kernel
theorem dX1_become_27 : decode cX1_become 27 = .ok (.getfield 24, 3) := by decide +kernel
theorem dX1_become_30 : decode cX1_become 30 = .ok (.invokevirtual 56, 3) := by decide +kernel
theorem dX1_become_33 : decode cX1_become 33 = .ok (.aload_n 0, 1) := by decide +kernel
theorem dX1_become_34 : decode cX1_become 34 = .ok (.getfield 31, 3) := by decide +kernel
theorem dX1_become_37 : decode cX1_become 37 = .ok (.aload_n 1, 1) := by decide +kernel
theorem dX1_become_38 : decode cX1_become 38 = .ok (.getfield 31, 3) := by decide +kernel
theorem dX1_become_41 : decode cX1_become 41 = .ok (.invokevirtual 59, 3) := by decide +kernel
theorem dX1_become_44 : decode cX1_become 44 = .ok (.aload_n 0, 1) := by decide +kernel
theorem dX1_become_45 : decode cX1_become 45 = .ok (.getfield 38, 3) := by decide +kernel
theorem dX1_become_48 : decode cX1_become 48 = .ok (.aload_n 1, 1) := by decide +kernel
theorem dX1_become_49 : decode cX1_become 49 = .ok (.getfield 38, 3) := by decide +kernel
theorem dX1_become_52 : decode cX1_become 52 = .ok (.invokevirtual 62, 3) := by decide +kernel
theorem dX1_become_55 : decode cX1_become 55 = .ok (.aload_n 1, 1) := by decide +kernel
theorem dX1_become_56 : decode cX1_become 56 = .ok (.getfield 42, 3) := by decide +kernel
theorem dX1_become_59 : decode cX1_become 59 = .ok (.iconst 0, 1) := by decide +kernel
theorem dX1_become_60 : decode cX1_become 60 = .ok (.aload_n 0, 1) := by decide +kernel
theorem dX1_become_61 : decode cX1_become 61 = .ok (.getfield 42, 3) := by decide +kernel
theorem dX1_become_64 : decode cX1_become 64 = .ok (.iconst 0, 1) := by decide +kernel
theorem dX1_become_65 : decode cX1_become 65 = .ok (.bipush 60, 2) := by decide +kernel
theorem dX1_become_67 : decode cX1_become 67 = .ok (.invokestatic 65, 3) := by decide +kernel
theorem dX1_become_70 : decode cX1_become 70 = .ok (.aload_n 0, 1) := by decide +kernel
theorem dX1_become_71 : decode cX1_become 71 = .ok (.aload_n 1, 1) := by decide +kernel
theorem dX1_become_72 : decode cX1_become 72 = .ok (.getfield 71, 3) := by decide +kernel
theorem dX1_become_75 : decode cX1_become 75 = .ok (.putfield 71, 3) := by decide +kernel
theorem dX1_become_78 : decode cX1_become 78 = .ok (.aload_n 1, 1) := by decide +kernel
theorem dX1_become_79 : decode cX1_become 79 = .ok (.getfield 46, 3) := by decide +kernel
theorem dX1_become_82 : decode cX1_become 82 = .ok (.iconst 0, 1) := by decide +kernel
theorem dX1_become_83 : decode cX1_become 83 = .ok (.aload_n 0, 1) := by decide +kernel
theorem dX1_become_84 : decode cX1_become 84 = .ok (.getfield 46, 3) := by decide +kernel
theorem dX1_become_87 : decode cX1_become 87 = .ok (.iconst 0, 1) := by decide +kernel
theorem dX1_become_88 : decode cX1_become 88 = .ok (.iconst 4, 1) := by decide +kernel
theorem dX1_become_89 : decode cX1_become 89 = .ok (.invokestatic 65, 3) := by decide +kernel
theorem dX1_become_92 : decode cX1_become 92 = .ok (.aload_n 1, 1) := by decide +kernel
theorem dX1_become_93 : decode cX1_become 93 = .ok (.getfield 49, 3) := by decide +kernel
theorem dX1_become_96 : decode cX1_become 96 = .ok (.iconst 0, 1) := by decide +kernel
theorem dX1_become_97 : decode cX1_become 97 = .ok (.aload_n 0, 1) := by decide +kernel
theorem dX1_become_98 : decode cX1_become 98 = .ok (.getfield 49, 3) := by decide +kernel
theorem dX1_become_101 : decode cX1_become 101 = .ok (.iconst 0, 1) := by decide +kernel
theorem dX1_become_102 : decode cX1_become 102 = .ok (.bipush 7, 2) := by decide +kernel
theorem dX1_become_104 : decode cX1_become 104 = .ok (.invokestatic 65, 3) := by decide +kernel
theorem dX1_become_107 : decode cX1_become 107 = .ok (.aload_n 0, 1) := by decide +kernel
theorem dX1_become_108 : decode cX1_become 108 = .ok (.aload_n 1, 1) := by decide +kernel
theorem dX1_become_109 : decode cX1_become 109 = .ok (.getfield 75, 3) := by decide +kernel
theorem dX1_become_112 : decode cX1_become 112 = .ok (.putfield 75, 3) := by decide +kernel
theorem dX1_become_115 : decode cX1_become 115 = .ok (.return_, 1) := by decide +kernel
theorem dX1_begin_0 : decode cX1_begin 0 = .ok (.aload_n 1, 1) := by decide +kernel
theorem dX1_begin_1 : decode cX1_begin 1 = .ok (.iconst 0, 1) := by decide +kernel
theorem dX1_begin_2 : decode cX1_begin 2 = .ok (.aload_n 0, 1) := by decide +kernel
theorem dX1_begin_3 : decode cX1_begin 3 = .ok (.getfield 12, 3) := by decide +kernel
theorem dX1_begin_6 : decode cX1_begin 6 = .ok (.getfield 79, 3) := by decide +kernel
theorem dX1_begin_9 : decode cX1_begin 9 = .ok (.iconst 0, 1) := by decide +kernel
theorem dX1_begin_10 : decode cX1_begin 10 = .ok (.iload_n 2, 1) := by decide +kernel
theorem dX1_begin_11 : decode cX1_begin 11 = .ok (.invokestatic 65, 3) := by decide +kernel
theorem dX1_begin_14 : decode cX1_begin 14 = .ok (.aload_n 0, 1) := by decide +kernel
theorem dX1_begin_15 : decode cX1_begin 15 = .ok (.getfield 12, 3) := by decide +kernel
theorem dX1_begin_18 : decode cX1_begin 18 = .ok (.iload_n 2, 1) := by decide +kernel
theorem dX1_begin_19 : decode cX1_begin 19 = .ok (.putfield 82, 3) := by decide +kernel
theorem dX1_begin_22 : decode cX1_begin 22 = .ok (.aload_n 0, 1) := by decide +kernel
theorem dX1_begin_23 : decode cX1_begin 23 = .ok (.getfield 12, 3) := by decide +kernel
theorem dX1_begin_26 : decode cX1_begin 26 = .ok (.iconst 0, 1) := by decide +kernel
theorem dX1_begin_27 : decode cX1_begin 27 = .ok (.putfield 85, 3) := by decide +kernel
theorem dX1_begin_30 : decode cX1_begin 30 = .ok (.aload_n 0, 1) := by decide +kernel
theorem dX1_begin_31 : decode cX1_begin 31 = .ok (.iconst 0, 1) := by decide +kernel
theorem dX1_begin_32 : decode cX1_begin 32 = .ok (.putfield 71, 3) := by decide +kernel
theorem dX1_begin_35 : decode cX1_begin 35 = .ok (.aload_n 0, 1) := by decide +kernel
theorem dX1_begin_36 : decode cX1_begin 36 = .ok (.getfield 46, 3) := by decide +kernel
theorem dX1_begin_39 : decode cX1_begin 39 = .ok (.iconst (-1), 1) := by decide +kernel
theorem dX1_begin_40 : decode cX1_begin 40 = .ok (.invokestatic 88, 3) := by decide +kernel
theorem dX1_begin_43 : decode cX1_begin 43 = .ok (.aload_n 0, 1) := by decide +kernel
theorem dX1_begin_44 : decode cX1_begin 44 = .ok (.getfield 24, 3) := by decide +kernel
theorem dX1_begin_47 : decode cX1_begin 47 = .ok (.iconst 0, 1) := by decide +kernel
theorem dX1_begin_48 : decode cX1_begin 48 = .ok (.putfield 94, 3) := by decide +kernel
theorem dX1_begin_51 : decode cX1_begin 51 = .ok (.aload_n 0, 1) := by decide +kernel
theorem dX1_begin_52 : decode cX1_begin 52 = .ok (.getfield 38, 3) := by decide +kernel
theorem dX1_begin_55 : decode cX1_begin 55 = .ok (.iconst 0, 1) := by decide +kernel
theorem dX1_begin_56 : decode cX1_begin 56 = .ok (.putfield 97, 3) := by decide +kernel
theorem dX1_begin_59 : decode cX1_begin 59 = .ok (.aload_n 0, 1) := by decide +kernel
theorem dX1_begin_60 : decode cX1_begin 60 = .ok (.getfield 31, 3) := by decide +kernel
theorem dX1_begin_63 : decode cX1_begin 63 = .ok (.invokevirtual 98, 3) := by decide +kernel
theorem dX1_begin_66 : decode cX1_begin 66 = .ok (.aload_n 0, 1) := by decide +kernel
theorem dX1_begin_67 : decode cX1_begin 67 = .ok (.iconst 0, 1) := by decide +kernel
theorem dX1_begin_68 : decode cX1_begin 68 = .ok (.putfield 75, 3) := by decide +kernel
theorem dX1_begin_71 : decode cX1_begin 71 = .ok (.return_, 1) := by decide +kernel
theorem dX1_isPending_0 : decode cX1_isPending 0 = .ok (.aload_n 0, 1) := by decide +kernel
theorem dX1_isPending_1 : decode cX1_isPending 1 = .ok (.getfield 75, 3) := by decide +kernel
theorem dX1_isPending_4 : decode cX1_isPending 4 = .ok (.ifCond .ne 20, 3) := by decide +kernel
theorem dX1_isPending_7 : decode cX1_isPending 7 = .ok (.aload_n 0, 1) := by decide +kernel
theorem dX1_isPending_8 : decode cX1_isPending 8 = .ok (.getfield 31, 3) := by decide +kernel
theorem dX1_isPending_11 : decode cX1_isPending 11 = .ok (.getfield 101, 3) := by decide +kernel
theorem dX1_isPending_14 : decode cX1_isPending 14 = .ok (.getfield 97, 3) := by decide +kernel
theorem dX1_isPending_17 : decode cX1_isPending 17 = .ok (.ifCond .le 7, 3) := by decide +kernel
theorem dX1_isPending_20 : decode cX1_isPending 20 = .ok (.iconst 1, 1) := by decide +kernel
theorem dX1_isPending_21 : decode cX1_isPending 21 = .ok (.goto 4, 3) := by decide +kernel
theorem dX1_isPending_24 : decode cX1_isPending 24 = .ok (.iconst 0, 1) := by decide +kernel
theorem dX1_isPending_25 : decode cX1_isPending 25 = .ok (.ireturn, 1) := by decide +kernel
theorem dX1_markSet_0 : decode cX1_markSet 0 = .ok (.iconst 0, 1) := by decide +kernel
theorem dX1_markSet_1 : decode cX1_markSet 1 = .ok (.istore_n 1, 1) := by decide +kernel
theorem dX1_markSet_2 : decode cX1_markSet 2 = .ok (.iconst 0, 1) := by decide +kernel
theorem dX1_markSet_3 : decode cX1_markSet 3 = .ok (.istore_n 2, 1) := by decide +kernel
theorem dX1_markSet_4 : decode cX1_markSet 4 = .ok (.iload_n 2, 1) := by decide +kernel
theorem dX1_markSet_5 : decode cX1_markSet 5 = .ok (.iconst 4, 1) := by decide +kernel
theorem dX1_markSet_6 : decode cX1_markSet 6 = .ok (.if_icmp .ge 25, 3) := by decide +kernel
theorem dX1_markSet_9 : decode cX1_markSet 9 = .ok (.aload_n 0, 1) := by decide +kernel
theorem dX1_markSet_10 : decode cX1_markSet 10 = .ok (.getfield 46, 3) := by decide +kernel
theorem dX1_markSet_13 : decode cX1_markSet 13 = .ok (.iload_n 2, 1) := by decide +kernel
theorem dX1_markSet_14 : decode cX1_markSet 14 = .ok (.iaload, 1) := by decide +kernel
theorem dX1_markSet_15 : decode cX1_markSet 15 = .ok (.iconst (-1), 1) := by decide +kernel
theorem dX1_markSet_16 : decode cX1_markSet 16 = .ok (.if_icmp .eq 9, 3) := by decide +kernel
theorem dX1_markSet_19 : decode cX1_markSet 19 = .ok (.iload_n 1, 1) := by decide +kernel
theorem dX1_markSet_20 : decode cX1_markSet 20 = .ok (.iconst 1, 1) := by decide +kernel
theorem dX1_markSet_21 : decode cX1_markSet 21 = .ok (.iload_n 2, 1) := by decide +kernel
theorem dX1_markSet_22 : decode cX1_markSet 22 = .ok (.ishl, 1) := by decide +kernel
theorem dX1_markSet_23 : decode cX1_markSet 23 = .ok (.ior, 1) := by decide +kernel
theorem dX1_markSet_24 : decode cX1_markSet 24 = .ok (.istore_n 1, 1) := by decide +kernel
theorem dX1_markSet_25 : decode cX1_markSet 25 = .ok (.iinc 2 1, 3) := by decide +kernel
theorem dX1_markSet_28 : decode cX1_markSet 28 = .ok (.goto (-24), 3) := by decide +kernel
theorem dX1_markSet_31 : decode cX1_markSet 31 = .ok (.iload_n 1, 1) := by decide +kernel
theorem dX1_markSet_32 : decode cX1_markSet 32 = .ok (.ireturn, 1) := by decide +kernel
theorem dX1_press_0 : decode cX1_press 0 = .ok (.iload_n 1, 1) := by decide +kernel
theorem dX1_press_1 : decode cX1_press 1 = .ok (.bipush 46, 2) := by decide +kernel
theorem dX1_press_3 : decode cX1_press 3 = .ok (.if_icmp .ne 24, 3) := by decide +kernel
theorem dX1_press_6 : decode cX1_press 6 = .ok (.aload_n 0, 1) := by decide +kernel
theorem dX1_press_7 : decode cX1_press 7 = .ok (.getfield 75, 3) := by decide +kernel
theorem dX1_press_10 : decode cX1_press 10 = .ok (.ifCond .ne 17, 3) := by decide +kernel
theorem dX1_press_13 : decode cX1_press 13 = .ok (.aload_n 0, 1) := by decide +kernel
theorem dX1_press_14 : decode cX1_press 14 = .ok (.getfield 31, 3) := by decide +kernel
theorem dX1_press_17 : decode cX1_press 17 = .ok (.getfield 104, 3) := by decide +kernel
theorem dX1_press_20 : decode cX1_press 20 = .ok (.ifCond .ne 7, 3) := by decide +kernel
theorem dX1_press_23 : decode cX1_press 23 = .ok (.iconst 1, 1) := by decide +kernel
theorem dX1_press_24 : decode cX1_press 24 = .ok (.goto 4, 3) := by decide +kernel
theorem dX1_press_27 : decode cX1_press 27 = .ok (.iconst 0, 1) := by decide +kernel
theorem dX1_press_28 : decode cX1_press 28 = .ok (.istore_n 2, 1) := by decide +kernel
theorem dX1_press_29 : decode cX1_press 29 = .ok (.iload_n 2, 1) := by decide +kernel
theorem dX1_press_30 : decode cX1_press 30 = .ok (.ifCond .ne 10, 3) := by decide +kernel
theorem dX1_press_33 : decode cX1_press 33 = .ok (.aload_n 0, 1) := by decide +kernel
theorem dX1_press_34 : decode cX1_press 34 = .ok (.iload_n 1, 1) := by decide +kernel
theorem dX1_press_35 : decode cX1_press 35 = .ok (.iconst 0, 1) := by decide +kernel
theorem dX1_press_36 : decode cX1_press 36 = .ok (.invokevirtual 107, 3) := by decide +kernel
theorem dX1_press_39 : decode cX1_press 39 = .ok (.ireturn, 1) := by decide +kernel
theorem dX1_press_40 : decode cX1_press 40 = .ok (.aload_n 0, 1) := by decide +kernel
theorem dX1_press_41 : decode cX1_press 41 = .ok (.getfield 31, 3) := by decide +kernel
theorem dX1_press_44 : decode cX1_press 44 = .ok (.invokevirtual 98, 3) := by decide +kernel
theorem dX1_press_47 : decode cX1_press 47 = .ok (.aload_n 0, 1) := by decide +kernel
theorem dX1_press_48 : decode cX1_press 48 = .ok (.getfield 38, 3) := by decide +kernel
theorem dX1_press_51 : decode cX1_press 51 = .ok (.invokevirtual 111, 3) := by decide +kernel
theorem dX1_press_54 : decode cX1_press 54 = .ok (.ifCond .ne 6, 3) := by decide +kernel
theorem dX1_press_57 : decode cX1_press 57 = .ok (.bipush (-2), 2) := by decide +kernel
theorem dX1_press_59 : decode cX1_press 59 = .ok (.ireturn, 1) := by decide +kernel
theorem dX1_press_60 : decode cX1_press 60 = .ok (.iconst 0, 1) := by decide +kernel
theorem dX1_press_61 : decode cX1_press 61 = .ok (.istore_n 3, 1) := by decide +kernel
theorem dX1_press_62 : decode cX1_press 62 = .ok (.iconst 0, 1) := by decide +kernel
theorem dX1_press_63 : decode cX1_press 63 = .ok (.istore 4, 2) := by decide +kernel
theorem dX1_press_65 : decode cX1_press 65 = .ok (.iload 4, 2) := by decide +kernel
theorem dX1_press_67 : decode cX1_press 67 = .ok (.aload_n 0, 1) := by decide +kernel
theorem dX1_press_68 : decode cX1_press 68 = .ok (.getfield 38, 3) := by decide +kernel
theorem dX1_press_71 : decode cX1_press 71 = .ok (.getfield 97, 3) := by decide +kernel
theorem dX1_press_74 : decode cX1_press 74 = .ok (.if_icmp .ge 31, 3) := by decide +kernel
theorem dX1_press_77 : decode cX1_press 77 = .ok (.iload_n 3, 1) := by decide +kernel
theorem dX1_press_78 : decode cX1_press 78 = .ok (.bipush (-2), 2) := by decide +kernel
theorem dX1_press_80 : decode cX1_press 80 = .ok (.if_icmp .eq 25, 3) := by decide +kernel
theorem dX1_press_83 : decode cX1_press 83 = .ok (.aload_n 0, 1) := by decide +kernel
theorem dX1_press_84 : decode cX1_press 84 = .ok (.aload_n 0, 1) := by decide +kernel
theorem dX1_press_85 : decode cX1_press 85 = .ok (.getfield 38, 3) := by decide +kernel
theorem dX1_press_88 : decode cX1_press 88 = .ok (.getfield 115, 3) := by decide +kernel
theorem dX1_press_91 : decode cX1_press 91 = .ok (.iload 4, 2) := by decide +kernel
theorem dX1_press_93 : decode cX1_press 93 = .ok (.iaload, 1) := by decide +kernel
theorem dX1_press_94 : decode cX1_press 94 = .ok (.iconst 1, 1) := by decide +kernel
theorem dX1_press_95 : decode cX1_press 95 = .ok (.invokevirtual 107, 3) := by decide +kernel
theorem dX1_press_98 : decode cX1_press 98 = .ok (.istore_n 3, 1) := by decide +kernel
theorem dX1_press_99 : decode cX1_press 99 = .ok (.iinc 4 1, 3) := by decide +kernel
theorem dX1_press_102 : decode cX1_press 102 = .ok (.goto (-37), 3) := by decide +kernel
theorem dX1_press_105 : decode cX1_press 105 = .ok (.iload_n 3, 1) := by decide +kernel
theorem dX1_press_106 : decode cX1_press 106 = .ok (.ireturn, 1) := by decide +kernel
theorem dX1_strike_0 : decode cX1_strike 0 = .ok (.aload_n 0, 1) := by decide +kernel
theorem dX1_strike_1 : decode cX1_strike 1 = .ok (.getfield 75, 3) := by decide +kernel
theorem dX1_strike_4 : decode cX1_strike 4 = .ok (.ifCond .eq 10, 3) := by decide +kernel
theorem dX1_strike_7 : decode cX1_strike 7 = .ok (.aload_n 0, 1) := by decide +kernel
theorem dX1_strike_8 : decode cX1_strike 8 = .ok (.iload_n 1, 1) := by decide +kernel
theorem dX1_strike_9 : decode cX1_strike 9 = .ok (.iload_n 2, 1) := by decide +kernel
theorem dX1_strike_10 : decode cX1_strike 10 = .ok (.invokevirtual 117, 3) := by decide +kernel
theorem dX1_strike_13 : decode cX1_strike 13 = .ok (.ireturn, 1) := by decide +kernel
theorem dX1_strike_14 : decode cX1_strike 14 = .ok (.aload_n 0, 1) := by decide +kernel
theorem dX1_strike_15 : decode cX1_strike 15 = .ok (.getfield 31, 3) := by decide +kernel
theorem dX1_strike_18 : decode cX1_strike 18 = .ok (.iload_n 1, 1) := by decide +kernel
theorem dX1_strike_19 : decode cX1_strike 19 = .ok (.invokevirtual 120, 3) := by decide +kernel
theorem dX1_strike_22 : decode cX1_strike 22 = .ok (.istore_n 3, 1) := by decide +kernel
theorem dX1_strike_23 : decode cX1_strike 23 = .ok (.iload_n 3, 1) := by decide +kernel
theorem dX1_strike_24 : decode cX1_strike 24 = .ok (.ifCond .ne 5, 3) := by decide +kernel
theorem dX1_strike_27 : decode cX1_strike 27 = .ok (.iconst 1, 1) := by decide +kernel
theorem dX1_strike_28 : decode cX1_strike 28 = .ok (.ireturn, 1) := by decide +kernel
theorem dX1_strike_29 : decode cX1_strike 29 = .ok (.aload_n 0, 1) := by decide +kernel
theorem dX1_strike_30 : decode cX1_strike 30 = .ok (.getfield 18, 3) := by decide +kernel
theorem dX1_strike_33 : decode cX1_strike 33 = .ok (.aload_n 0, 1) := by decide +kernel
theorem dX1_strike_34 : decode cX1_strike 34 = .ok (.getfield 12, 3) := by decide +kernel
theorem dX1_strike_37 : decode cX1_strike 37 = .ok (.invokevirtual 52, 3) := by decide +kernel
theorem dX1_strike_40 : decode cX1_strike 40 = .ok (.iload_n 3, 1) := by decide +kernel
theorem dX1_strike_41 : decode cX1_strike 41 = .ok (.iconst 1, 1) := by decide +kernel
theorem dX1_strike_42 : decode cX1_strike 42 = .ok (.if_icmp .ne 24, 3) := by decide +kernel
theorem dX1_strike_45 : decode cX1_strike 45 = .ok (.aload_n 0, 1) := by decide +kernel
theorem dX1_strike_46 : decode cX1_strike 46 = .ok (.invokevirtual 124, 3) := by decide +kernel
theorem dX1_strike_49 : decode cX1_strike 49 = .ok (.ifCond .eq 17, 3) := by decide +kernel
theorem dX1_strike_52 : decode cX1_strike 52 = .ok (.aload_n 0, 1) := by decide +kernel
theorem dX1_strike_53 : decode cX1_strike 53 = .ok (.aload_n 0, 1) := by decide +kernel
theorem dX1_strike_54 : decode cX1_strike 54 = .ok (.getfield 31, 3) := by decide +kernel
theorem dX1_strike_57 : decode cX1_strike 57 = .ok (.invokevirtual 127, 3) := by decide +kernel
theorem dX1_strike_60 : decode cX1_strike 60 = .ok (.invokevirtual 131, 3) := by decide +kernel
theorem dX1_strike_63 : decode cX1_strike 63 = .ok (.goto 4, 3) := by decide +kernel
theorem dX1_strike_66 : decode cX1_strike 66 = .ok (.iconst 0, 1) := by decide +kernel
theorem dX1_strike_67 : decode cX1_strike 67 = .ok (.istore 4, 2) := by decide +kernel
theorem dX1_strike_69 : decode cX1_strike 69 = .ok (.iload 4, 2) := by decide +kernel
theorem dX1_strike_71 : decode cX1_strike 71 = .ok (.iconst 3, 1) := by decide +kernel
theorem dX1_strike_72 : decode cX1_strike 72 = .ok (.if_icmp .ne 10, 3) := by decide +kernel
theorem dX1_strike_75 : decode cX1_strike 75 = .ok (.aload_n 0, 1) := by decide +kernel
theorem dX1_strike_76 : decode cX1_strike 76 = .ok (.iconst 1, 1) := by decide +kernel
theorem dX1_strike_77 : decode cX1_strike 77 = .ok (.putfield 75, 3) := by decide +kernel
theorem dX1_strike_80 : decode cX1_strike 80 = .ok (.iconst 2, 1) := by decide +kernel
theorem dX1_strike_81 : decode cX1_strike 81 = .ok (.ireturn, 1) := by decide +kernel
theorem dX1_strike_82 : decode cX1_strike 82 = .ok (.iload 4, 2) := by decide +kernel
theorem dX1_strike_84 : decode cX1_strike 84 = .ok (.iconst 2, 1) := by decide +kernel
theorem dX1_strike_85 : decode cX1_strike 85 = .ok (.if_icmp .ne 8, 3) := by decide +kernel
theorem dX1_strike_88 : decode cX1_strike 88 = .ok (.aload_n 0, 1) := by decide +kernel
theorem dX1_strike_89 : decode cX1_strike 89 = .ok (.iload_n 2, 1) := by decide +kernel
theorem dX1_strike_90 : decode cX1_strike 90 = .ok (.invokevirtual 134, 3) := by decide +kernel
theorem dX1_strike_93 : decode cX1_strike 93 = .ok (.aload_n 0, 1) := by decide +kernel
theorem dX1_strike_94 : decode cX1_strike 94 = .ok (.getfield 31, 3) := by decide +kernel
theorem dX1_strike_97 : decode cX1_strike 97 = .ok (.invokevirtual 98, 3) := by decide +kernel
theorem dX1_strike_100 : decode cX1_strike 100 = .ok (.iload 4, 2) := by decide +kernel
theorem dX1_strike_102 : decode cX1_strike 102 = .ok (.ifCond .ne 8, 3) := by decide +kernel
theorem dX1_strike_105 : decode cX1_strike 105 = .ok (.bipush (-2), 2) := by decide +kernel
theorem dX1_strike_107 : decode cX1_strike 107 = .ok (.goto 4, 3) := by decide +kernel
theorem dX1_strike_110 : decode cX1_strike 110 = .ok (.iconst 0, 1) := by decide +kernel
theorem dX1_strike_111 : decode cX1_strike 111 = .ok (.ireturn, 1) := by decide +kernel
theorem dX1_typeIn_0 : decode cX1_typeIn 0 = .ok (.aload_n 0, 1) := by decide +kernel
theorem dX1_typeIn_1 : decode cX1_typeIn 1 = .ok (.getfield 31, 3) := by decide +kernel
theorem dX1_typeIn_4 : decode cX1_typeIn 4 = .ok (.getfield 101, 3) := by decide +kernel
theorem dX1_typeIn_7 : decode cX1_typeIn 7 = .ok (.iload_n 1, 1) := by decide +kernel
theorem dX1_typeIn_8 : decode cX1_typeIn 8 = .ok (.invokevirtual 138, 3) := by decide +kernel
theorem dX1_typeIn_11 : decode cX1_typeIn 11 = .ok (.iload_n 1, 1) := by decide +kernel
theorem dX1_typeIn_12 : decode cX1_typeIn 12 = .ok (.bipush 33, 2) := by decide +kernel
theorem dX1_typeIn_14 : decode cX1_typeIn 14 = .ok (.if_icmp .ne 42, 3) := by decide +kernel
theorem dX1_typeIn_17 : decode cX1_typeIn 17 = .ok (.aload_n 0, 1) := by decide +kernel
theorem dX1_typeIn_18 : decode cX1_typeIn 18 = .ok (.iconst 0, 1) := by decide +kernel
theorem dX1_typeIn_19 : decode cX1_typeIn 19 = .ok (.putfield 75, 3) := by decide +kernel
theorem dX1_typeIn_22 : decode cX1_typeIn 22 = .ok (.aload_n 0, 1) := by decide +kernel
theorem dX1_typeIn_23 : decode cX1_typeIn 23 = .ok (.getfield 12, 3) := by decide +kernel
theorem dX1_typeIn_26 : decode cX1_typeIn 26 = .ok (.iconst 0, 1) := by decide +kernel
theorem dX1_typeIn_27 : decode cX1_typeIn 27 = .ok (.aload_n 0, 1) := by decide +kernel
theorem dX1_typeIn_28 : decode cX1_typeIn 28 = .ok (.getfield 12, 3) := by decide +kernel
theorem dX1_typeIn_31 : decode cX1_typeIn 31 = .ok (.getfield 85, 3) := by decide +kernel
theorem dX1_typeIn_34 : decode cX1_typeIn 34 = .ok (.iconst 1, 1) := by decide +kernel
theorem dX1_typeIn_35 : decode cX1_typeIn 35 = .ok (.isub, 1) := by decide +kernel
theorem dX1_typeIn_36 : decode cX1_typeIn 36 = .ok (.invokestatic 142, 3) := by decide +kernel
theorem dX1_typeIn_39 : decode cX1_typeIn 39 = .ok (.putfield 85, 3) := by decide +kernel
theorem dX1_typeIn_42 : decode cX1_typeIn 42 = .ok (.aload_n 0, 1) := by decide +kernel
theorem dX1_typeIn_43 : decode cX1_typeIn 43 = .ok (.iload_n 2, 1) := by decide +kernel
theorem dX1_typeIn_44 : decode cX1_typeIn 44 = .ok (.invokevirtual 134, 3) := by decide +kernel
theorem dX1_typeIn_47 : decode cX1_typeIn 47 = .ok (.aload_n 0, 1) := by decide +kernel
theorem dX1_typeIn_48 : decode cX1_typeIn 48 = .ok (.getfield 31, 3) := by decide +kernel
theorem dX1_typeIn_51 : decode cX1_typeIn 51 = .ok (.invokevirtual 98, 3) := by decide +kernel
theorem dX1_typeIn_54 : decode cX1_typeIn 54 = .ok (.iconst 0, 1) := by decide +kernel
theorem dX1_typeIn_55 : decode cX1_typeIn 55 = .ok (.ireturn, 1) := by decide +kernel
theorem dX1_typeIn_56 : decode cX1_typeIn 56 = .ok (.aload_n 0, 1) := by decide +kernel
theorem dX1_typeIn_57 : decode cX1_typeIn 57 = .ok (.getfield 12, 3) := by decide +kernel
theorem dX1_typeIn_60 : decode cX1_typeIn 60 = .ok (.getfield 82, 3) := by decide +kernel
theorem dX1_typeIn_63 : decode cX1_typeIn 63 = .ok (.bipush 60, 2) := by decide +kernel
theorem dX1_typeIn_65 : decode cX1_typeIn 65 = .ok (.if_icmp .lt 6, 3) := by decide +kernel
theorem dX1_typeIn_68 : decode cX1_typeIn 68 = .ok (.bipush (-3), 2) := by decide +kernel
theorem dX1_typeIn_70 : decode cX1_typeIn 70 = .ok (.ireturn, 1) := by decide +kernel
theorem dX1_typeIn_71 : decode cX1_typeIn 71 = .ok (.aload_n 0, 1) := by decide +kernel
theorem dX1_typeIn_72 : decode cX1_typeIn 72 = .ok (.getfield 12, 3) := by decide +kernel
theorem dX1_typeIn_75 : decode cX1_typeIn 75 = .ok (.aload_n 0, 1) := by decide +kernel
theorem dX1_typeIn_76 : decode cX1_typeIn 76 = .ok (.getfield 12, 3) := by decide +kernel
theorem dX1_typeIn_79 : decode cX1_typeIn 79 = .ok (.getfield 85, 3) := by decide +kernel
theorem dX1_typeIn_82 : decode cX1_typeIn 82 = .ok (.iconst 1, 1) := by decide +kernel
theorem dX1_typeIn_83 : decode cX1_typeIn 83 = .ok (.invokevirtual 148, 3) := by decide +kernel
theorem dX1_typeIn_86 : decode cX1_typeIn 86 = .ok (.aload_n 0, 1) := by decide +kernel
theorem dX1_typeIn_87 : decode cX1_typeIn 87 = .ok (.getfield 12, 3) := by decide +kernel
theorem dX1_typeIn_90 : decode cX1_typeIn 90 = .ok (.getfield 79, 3) := by decide +kernel
theorem dX1_typeIn_93 : decode cX1_typeIn 93 = .ok (.aload_n 0, 1) := by decide +kernel
theorem dX1_typeIn_94 : decode cX1_typeIn 94 = .ok (.getfield 12, 3) := by decide +kernel
theorem dX1_typeIn_97 : decode cX1_typeIn 97 = .ok (.getfield 85, 3) := by decide +kernel
theorem dX1_typeIn_100 : decode cX1_typeIn 100 = .ok (.iload_n 1, 1) := by decide +kernel
theorem dX1_typeIn_101 : decode cX1_typeIn 101 = .ok (.iastore, 1) := by decide +kernel
theorem dX1_typeIn_102 : decode cX1_typeIn 102 = .ok (.aload_n 0, 1) := by decide +kernel
theorem dX1_typeIn_103 : decode cX1_typeIn 103 = .ok (.getfield 12, 3) := by decide +kernel
theorem dX1_typeIn_106 : decode cX1_typeIn 106 = .ok (.dup, 1) := by decide +kernel
theorem dX1_typeIn_107 : decode cX1_typeIn 107 = .ok (.getfield 85, 3) := by decide +kernel
theorem dX1_typeIn_110 : decode cX1_typeIn 110 = .ok (.iconst 1, 1) := by decide +kernel
theorem dX1_typeIn_111 : decode cX1_typeIn 111 = .ok (.iadd, 1) := by decide +kernel
theorem dX1_typeIn_112 : decode cX1_typeIn 112 = .ok (.putfield 85, 3) := by decide +kernel
theorem dX1_typeIn_115 : decode cX1_typeIn 115 = .ok (.iconst 2, 1) := by decide +kernel
theorem dX1_typeIn_116 : decode cX1_typeIn 116 = .ok (.ireturn, 1) := by decide +kernel
theorem dX1_remember_0 : decode cX1_remember 0 = .ok (.aload_n 0, 1) := by decide +kernel
theorem dX1_remember_1 : decode cX1_remember 1 = .ok (.getfield 24, 3) := by decide +kernel
theorem dX1_remember_4 : decode cX1_remember 4 = .ok (.aload_n 0, 1) := by decide +kernel
theorem dX1_remember_5 : decode cX1_remember 5 = .ok (.getfield 18, 3) := by decide +kernel
theorem dX1_remember_8 : decode cX1_remember 8 = .ok (.invokevirtual 152, 3) := by decide +kernel
theorem dX1_remember_11 : decode cX1_remember 11 = .ok (.iload_n 1, 1) := by decide +kernel
theorem dX1_remember_12 : decode cX1_remember 12 = .ok (.ifCond .ne 17, 3) := by decide +kernel
theorem dX1_remember_15 : decode cX1_remember 15 = .ok (.aload_n 0, 1) := by decide +kernel
theorem dX1_remember_16 : decode cX1_remember 16 = .ok (.getfield 38, 3) := by decide +kernel
theorem dX1_remember_19 : decode cX1_remember 19 = .ok (.aload_n 0, 1) := by decide +kernel
theorem dX1_remember_20 : decode cX1_remember 20 = .ok (.getfield 31, 3) := by decide +kernel
theorem dX1_remember_23 : decode cX1_remember 23 = .ok (.getfield 101, 3) := by decide +kernel
theorem dX1_remember_26 : decode cX1_remember 26 = .ok (.invokevirtual 62, 3) := by decide +kernel
theorem dX1_remember_29 : decode cX1_remember 29 = .ok (.return_, 1) := by decide +kernel
theorem dX1_aim_0 : decode cX1_aim 0 = .ok (.aload_n 0, 1) := by decide +kernel
theorem dX1_aim_1 : decode cX1_aim 1 = .ok (.getfield 31, 3) := by decide +kernel
theorem dX1_aim_4 : decode cX1_aim 4 = .ok (.getfield 155, 3) := by decide +kernel
theorem dX1_aim_7 : decode cX1_aim 7 = .ok (.tableswitch 99 1 5 #[33, 59, 64, 69, 81], 33) := by decide +kernel
theorem dX1_aim_40 : decode cX1_aim 40 = .ok (.aload_n 0, 1) := by decide +kernel
theorem dX1_aim_41 : decode cX1_aim 41 = .ok (.aload_n 0, 1) := by decide +kernel
theorem dX1_aim_42 : decode cX1_aim 42 = .ok (.getfield 31, 3) := by decide +kernel
theorem dX1_aim_45 : decode cX1_aim 45 = .ok (.getfield 158, 3) := by decide +kernel
theorem dX1_aim_48 : decode cX1_aim 48 = .ok (.aload_n 0, 1) := by decide +kernel
theorem dX1_aim_49 : decode cX1_aim 49 = .ok (.getfield 31, 3) := by decide +kernel
theorem dX1_aim_52 : decode cX1_aim 52 = .ok (.invokevirtual 127, 3) := by decide +kernel
theorem dX1_aim_55 : decode cX1_aim 55 = .ok (.aload_n 0, 1) := by decide +kernel
theorem dX1_aim_56 : decode cX1_aim 56 = .ok (.getfield 31, 3) := by decide +kernel
theorem dX1_aim_59 : decode cX1_aim 59 = .ok (.getfield 161, 3) := by decide +kernel
theorem dX1_aim_62 : decode cX1_aim 62 = .ok (.invokevirtual 164, 3) := by decide +kernel
theorem dX1_aim_65 : decode cX1_aim 65 = .ok (.ireturn, 1) := by decide +kernel
theorem dX1_aim_66 : decode cX1_aim 66 = .ok (.aload_n 0, 1) := by decide +kernel
theorem dX1_aim_67 : decode cX1_aim 67 = .ok (.invokevirtual 168, 3) := by decide +kernel
theorem dX1_aim_70 : decode cX1_aim 70 = .ok (.ireturn, 1) := by decide +kernel
theorem dX1_aim_71 : decode cX1_aim 71 = .ok (.aload_n 0, 1) := by decide +kernel
theorem dX1_aim_72 : decode cX1_aim 72 = .ok (.invokevirtual 171, 3) := by decide +kernel
theorem dX1_aim_75 : decode cX1_aim 75 = .ok (.ireturn, 1) := by decide +kernel
theorem dX1_aim_76 : decode cX1_aim 76 = .ok (.aload_n 0, 1) := by decide +kernel
theorem dX1_aim_77 : decode cX1_aim 77 = .ok (.aload_n 0, 1) := by decide +kernel
theorem dX1_aim_78 : decode cX1_aim 78 = .ok (.getfield 31, 3) := by decide +kernel
theorem dX1_aim_81 : decode cX1_aim 81 = .ok (.invokevirtual 127, 3) := by decide +kernel
theorem dX1_aim_84 : decode cX1_aim 84 = .ok (.invokevirtual 174, 3) := by decide +kernel
theorem dX1_aim_87 : decode cX1_aim 87 = .ok (.ireturn, 1) := by decide +kernel
theorem dX1_aim_88 : decode cX1_aim 88 = .ok (.aload_n 0, 1) := by decide +kernel
theorem dX1_aim_89 : decode cX1_aim 89 = .ok (.iconst 0, 1) := by decide +kernel
theorem dX1_aim_90 : decode cX1_aim 90 = .ok (.putfield 178, 3) := by decide +kernel
theorem dX1_aim_93 : decode cX1_aim 93 = .ok (.aload_n 0, 1) := by decide +kernel
theorem dX1_aim_94 : decode cX1_aim 94 = .ok (.aload_n 0, 1) := by decide +kernel
theorem dX1_aim_95 : decode cX1_aim 95 = .ok (.getfield 12, 3) := by decide +kernel
theorem dX1_aim_98 : decode cX1_aim 98 = .ok (.getfield 82, 3) := by decide +kernel
theorem dX1_aim_101 : decode cX1_aim 101 = .ok (.putfield 181, 3) := by decide +kernel
theorem dX1_aim_104 : decode cX1_aim 104 = .ok (.iconst 1, 1) := by decide +kernel
theorem dX1_aim_105 : decode cX1_aim 105 = .ok (.ireturn, 1) := by decide +kernel
theorem dX1_aim_106 : decode cX1_aim 106 = .ok (.iconst 1, 1) := by decide +kernel
theorem dX1_aim_107 : decode cX1_aim 107 = .ok (.ireturn, 1) := by decide +kernel
theorem dX1_aimByMotion_0 : decode cX1_aimByMotion 0 = .ok (.aload_n 0, 1) := by decide +kernel
theorem dX1_aimByMotion_1 : decode cX1_aimByMotion 1 = .ok (.getfield 12, 3) := by decide +kernel
theorem dX1_aimByMotion_4 : decode cX1_aimByMotion 4 = .ok (.invokevirtual 184, 3) := by decide +kernel
theorem dX1_aimByMotion_7 : decode cX1_aimByMotion 7 = .ok (.istore 4, 2) := by decide +kernel
theorem dX1_aimByMotion_9 : decode cX1_aimByMotion 9 = .ok (.aload_n 0, 1) := by decide +kernel
theorem dX1_aimByMotion_10 : decode cX1_aimByMotion 10 = .ok (.iload 4, 2) := by decide +kernel
theorem dX1_aimByMotion_12 : decode cX1_aimByMotion 12 = .ok (.putfield 187, 3) := by decide +kernel
theorem dX1_aimByMotion_15 : decode cX1_aimByMotion 15 = .ok (.iload_n 1, 1) := by decide +kernel
theorem dX1_aimByMotion_16 : decode cX1_aimByMotion 16 = .ok (.bipush 9, 2) := by decide +kernel
theorem dX1_aimByMotion_18 : decode cX1_aimByMotion 18 = .ok (.if_icmp .ne 15, 3) := by decide +kernel
theorem dX1_aimByMotion_21 : decode cX1_aimByMotion 21 = .ok (.aload_n 0, 1) := by decide +kernel
theorem dX1_aimByMotion_22 : decode cX1_aimByMotion 22 = .ok (.aload_n 0, 1) := by decide +kernel
theorem dX1_aimByMotion_23 : decode cX1_aimByMotion 23 = .ok (.iload_n 3, 1) := by decide +kernel
theorem dX1_aimByMotion_24 : decode cX1_aimByMotion 24 = .ok (.invokevirtual 190, 3) := by decide +kernel
theorem dX1_aimByMotion_27 : decode cX1_aimByMotion 27 = .ok (.putfield 187, 3) := by decide +kernel
theorem dX1_aimByMotion_30 : decode cX1_aimByMotion 30 = .ok (.goto 58, 3) := by decide +kernel
theorem dX1_aimByMotion_33 : decode cX1_aimByMotion 33 = .ok (.iload_n 1, 1) := by decide +kernel
theorem dX1_aimByMotion_34 : decode cX1_aimByMotion 34 = .ok (.bipush 7, 2) := by decide +kernel
theorem dX1_aimByMotion_36 : decode cX1_aimByMotion 36 = .ok (.if_icmp .lt 21, 3) := by decide +kernel
theorem dX1_aimByMotion_39 : decode cX1_aimByMotion 39 = .ok (.aload_n 0, 1) := by decide +kernel
theorem dX1_aimByMotion_40 : decode cX1_aimByMotion 40 = .ok (.aload_n 0, 1) := by decide +kernel
theorem dX1_aimByMotion_41 : decode cX1_aimByMotion 41 = .ok (.getfield 12, 3) := by decide +kernel
theorem dX1_aimByMotion_44 : decode cX1_aimByMotion 44 = .ok (.iload 4, 2) := by decide +kernel
theorem dX1_aimByMotion_46 : decode cX1_aimByMotion 46 = .ok (.iload_n 3, 1) := by decide +kernel
theorem dX1_aimByMotion_47 : decode cX1_aimByMotion 47 = .ok (.iload_n 2, 1) := by decide +kernel
theorem dX1_aimByMotion_48 : decode cX1_aimByMotion 48 = .ok (.invokevirtual 193, 3) := by decide +kernel
theorem dX1_aimByMotion_51 : decode cX1_aimByMotion 51 = .ok (.putfield 187, 3) := by decide +kernel
theorem dX1_aimByMotion_54 : decode cX1_aimByMotion 54 = .ok (.goto 34, 3) := by decide +kernel
theorem dX1_aimByMotion_57 : decode cX1_aimByMotion 57 = .ok (.iconst 0, 1) := by decide +kernel
theorem dX1_aimByMotion_58 : decode cX1_aimByMotion 58 = .ok (.istore 5, 2) := by decide +kernel
theorem dX1_aimByMotion_60 : decode cX1_aimByMotion 60 = .ok (.iload 5, 2) := by decide +kernel
theorem dX1_aimByMotion_62 : decode cX1_aimByMotion 62 = .ok (.iload_n 2, 1) := by decide +kernel
theorem dX1_aimByMotion_63 : decode cX1_aimByMotion 63 = .ok (.if_icmp .ge 25, 3) := by decide +kernel
theorem dX1_aimByMotion_66 : decode cX1_aimByMotion 66 = .ok (.aload_n 0, 1) := by decide +kernel
theorem dX1_aimByMotion_67 : decode cX1_aimByMotion 67 = .ok (.aload_n 0, 1) := by decide +kernel
theorem dX1_aimByMotion_68 : decode cX1_aimByMotion 68 = .ok (.getfield 12, 3) := by decide +kernel
theorem dX1_aimByMotion_71 : decode cX1_aimByMotion 71 = .ok (.iload_n 1, 1) := by decide +kernel
theorem dX1_aimByMotion_72 : decode cX1_aimByMotion 72 = .ok (.aload_n 0, 1) := by decide +kernel
theorem dX1_aimByMotion_73 : decode cX1_aimByMotion 73 = .ok (.getfield 187, 3) := by decide +kernel
theorem dX1_aimByMotion_76 : decode cX1_aimByMotion 76 = .ok (.invokevirtual 197, 3) := by decide +kernel
theorem dX1_aimByMotion_79 : decode cX1_aimByMotion 79 = .ok (.putfield 187, 3) := by decide +kernel
theorem dX1_aimByMotion_82 : decode cX1_aimByMotion 82 = .ok (.iinc 5 1, 3) := by decide +kernel
theorem dX1_aimByMotion_85 : decode cX1_aimByMotion 85 = .ok (.goto (-25), 3) := by decide +kernel
theorem dX1_aimByMotion_88 : decode cX1_aimByMotion 88 = .ok (.aload_n 0, 1) := by decide +kernel
theorem dX1_aimByMotion_89 : decode cX1_aimByMotion 89 = .ok (.getfield 187, 3) := by decide +kernel
theorem dX1_aimByMotion_92 : decode cX1_aimByMotion 92 = .ok (.iconst (-1), 1) := by decide +kernel
theorem dX1_aimByMotion_93 : decode cX1_aimByMotion 93 = .ok (.if_icmp .ne 5, 3) := by decide +kernel
theorem dX1_aimByMotion_96 : decode cX1_aimByMotion 96 = .ok (.iconst 0, 1) := by decide +kernel
theorem dX1_aimByMotion_97 : decode cX1_aimByMotion 97 = .ok (.ireturn, 1) := by decide +kernel
theorem dX1_aimByMotion_98 : decode cX1_aimByMotion 98 = .ok (.iload_n 1, 1) := by decide +kernel
theorem dX1_aimByMotion_99 : decode cX1_aimByMotion 99 = .ok (.bipush 8, 2) := by decide +kernel
theorem dX1_aimByMotion_101 : decode cX1_aimByMotion 101 = .ok (.if_icmp .ne 13, 3) := by decide +kernel
theorem dX1_aimByMotion_104 : decode cX1_aimByMotion 104 = .ok (.aload_n 0, 1) := by decide +kernel
theorem dX1_aimByMotion_105 : decode cX1_aimByMotion 105 = .ok (.dup, 1) := by decide +kernel
theorem dX1_aimByMotion_106 : decode cX1_aimByMotion 106 = .ok (.getfield 187, 3) := by decide +kernel
theorem dX1_aimByMotion_109 : decode cX1_aimByMotion 109 = .ok (.iconst 1, 1) := by decide +kernel
theorem dX1_aimByMotion_110 : decode cX1_aimByMotion 110 = .ok (.isub, 1) := by decide +kernel
theorem dX1_aimByMotion_111 : decode cX1_aimByMotion 111 = .ok (.putfield 187, 3) := by decide +kernel
theorem dX1_aimByMotion_114 : decode cX1_aimByMotion 114 = .ok (.aload_n 0, 1) := by decide +kernel
theorem dX1_aimByMotion_115 : decode cX1_aimByMotion 115 = .ok (.iload 4, 2) := by decide +kernel
theorem dX1_aimByMotion_117 : decode cX1_aimByMotion 117 = .ok (.aload_n 0, 1) := by decide +kernel
theorem dX1_aimByMotion_118 : decode cX1_aimByMotion 118 = .ok (.getfield 187, 3) := by decide +kernel
theorem dX1_aimByMotion_121 : decode cX1_aimByMotion 121 = .ok (.invokestatic 200, 3) := by decide +kernel
theorem dX1_aimByMotion_124 : decode cX1_aimByMotion 124 = .ok (.putfield 178, 3) := by decide +kernel
theorem dX1_aimByMotion_127 : decode cX1_aimByMotion 127 = .ok (.aload_n 0, 1) := by decide +kernel
theorem dX1_aimByMotion_128 : decode cX1_aimByMotion 128 = .ok (.aload_n 0, 1) := by decide +kernel
theorem dX1_aimByMotion_129 : decode cX1_aimByMotion 129 = .ok (.getfield 12, 3) := by decide +kernel
theorem dX1_aimByMotion_132 : decode cX1_aimByMotion 132 = .ok (.getfield 82, 3) := by decide +kernel
theorem dX1_aimByMotion_135 : decode cX1_aimByMotion 135 = .ok (.iload 4, 2) := by decide +kernel
theorem dX1_aimByMotion_137 : decode cX1_aimByMotion 137 = .ok (.aload_n 0, 1) := by decide +kernel
theorem dX1_aimByMotion_138 : decode cX1_aimByMotion 138 = .ok (.getfield 187, 3) := by decide +kernel
theorem dX1_aimByMotion_141 : decode cX1_aimByMotion 141 = .ok (.invokestatic 142, 3) := by decide +kernel
theorem dX1_aimByMotion_144 : decode cX1_aimByMotion 144 = .ok (.iload_n 1, 1) := by decide +kernel
theorem dX1_aimByMotion_145 : decode cX1_aimByMotion 145 = .ok (.invokestatic 203, 3) := by decide +kernel
theorem dX1_aimByMotion_148 : decode cX1_aimByMotion 148 = .ok (.ifCond .eq 7, 3) := by decide +kernel
theorem dX1_aimByMotion_151 : decode cX1_aimByMotion 151 = .ok (.iconst 1, 1) := by decide +kernel
theorem dX1_aimByMotion_152 : decode cX1_aimByMotion 152 = .ok (.goto 4, 3) := by decide +kernel
theorem dX1_aimByMotion_155 : decode cX1_aimByMotion 155 = .ok (.iconst 0, 1) := by decide +kernel
theorem dX1_aimByMotion_156 : decode cX1_aimByMotion 156 = .ok (.iadd, 1) := by decide +kernel
theorem dX1_aimByMotion_157 : decode cX1_aimByMotion 157 = .ok (.invokestatic 200, 3) := by decide +kernel
theorem dX1_aimByMotion_160 : decode cX1_aimByMotion 160 = .ok (.putfield 181, 3) := by decide +kernel
theorem dX1_aimByMotion_163 : decode cX1_aimByMotion 163 = .ok (.iconst 1, 1) := by decide +kernel
theorem dX1_aimByMotion_164 : decode cX1_aimByMotion 164 = .ok (.ireturn, 1) := by decide +kernel
theorem dX1_takesPlace_0 : decode cX1_takesPlace 0 = .ok (.iload_n 0, 1) := by decide +kernel
theorem dX1_takesPlace_1 : decode cX1_takesPlace 1 = .ok (.iconst 3, 1) := by decide +kernel
theorem dX1_takesPlace_2 : decode cX1_takesPlace 2 = .ok (.if_icmp .eq 21, 3) := by decide +kernel
theorem dX1_takesPlace_5 : decode cX1_takesPlace 5 = .ok (.iload_n 0, 1) := by decide +kernel
theorem dX1_takesPlace_6 : decode cX1_takesPlace 6 = .ok (.bipush 6, 2) := by decide +kernel
theorem dX1_takesPlace_8 : decode cX1_takesPlace 8 = .ok (.if_icmp .eq 15, 3) := by decide +kernel
theorem dX1_takesPlace_11 : decode cX1_takesPlace 11 = .ok (.iload_n 0, 1) := by decide +kernel
theorem dX1_takesPlace_12 : decode cX1_takesPlace 12 = .ok (.bipush 7, 2) := by decide +kernel
theorem dX1_takesPlace_14 : decode cX1_takesPlace 14 = .ok (.if_icmp .eq 9, 3) := by decide +kernel
theorem dX1_takesPlace_17 : decode cX1_takesPlace 17 = .ok (.iload_n 0, 1) := by decide +kernel
theorem dX1_takesPlace_18 : decode cX1_takesPlace 18 = .ok (.bipush 8, 2) := by decide +kernel
theorem dX1_takesPlace_20 : decode cX1_takesPlace 20 = .ok (.if_icmp .ne 7, 3) := by decide +kernel
theorem dX1_takesPlace_23 : decode cX1_takesPlace 23 = .ok (.iconst 1, 1) := by decide +kernel
theorem dX1_takesPlace_24 : decode cX1_takesPlace 24 = .ok (.goto 4, 3) := by decide +kernel
theorem dX1_takesPlace_27 : decode cX1_takesPlace 27 = .ok (.iconst 0, 1) := by decide +kernel
theorem dX1_takesPlace_28 : decode cX1_takesPlace 28 = .ok (.ireturn, 1) := by decide +kernel
theorem dX1_placeOfMark_0 : decode cX1_placeOfMark 0 = .ok (.iload_n 1, 1) := by decide +kernel
theorem dX1_placeOfMark_1 : decode cX1_placeOfMark 1 = .ok (.ifCond .lt 22, 3) := by decide +kernel
theorem dX1_placeOfMark_4 : decode cX1_placeOfMark 4 = .ok (.iload_n 1, 1) := by decide +kernel
theorem dX1_placeOfMark_5 : decode cX1_placeOfMark 5 = .ok (.iconst 4, 1) := by decide +kernel
theorem dX1_placeOfMark_6 : decode cX1_placeOfMark 6 = .ok (.if_icmp .ge 17, 3) := by decide +kernel
theorem dX1_placeOfMark_9 : decode cX1_placeOfMark 9 = .ok (.aload_n 0, 1) := by decide +kernel
theorem dX1_placeOfMark_10 : decode cX1_placeOfMark 10 = .ok (.getfield 46, 3) := by decide +kernel
theorem dX1_placeOfMark_13 : decode cX1_placeOfMark 13 = .ok (.iload_n 1, 1) := by decide +kernel
theorem dX1_placeOfMark_14 : decode cX1_placeOfMark 14 = .ok (.iaload, 1) := by decide +kernel
theorem dX1_placeOfMark_15 : decode cX1_placeOfMark 15 = .ok (.iconst (-1), 1) := by decide +kernel
theorem dX1_placeOfMark_16 : decode cX1_placeOfMark 16 = .ok (.if_icmp .eq 7, 3) := by decide +kernel
theorem dX1_placeOfMark_19 : decode cX1_placeOfMark 19 = .ok (.iconst 1, 1) := by decide +kernel
theorem dX1_placeOfMark_20 : decode cX1_placeOfMark 20 = .ok (.goto 4, 3) := by decide +kernel
theorem dX1_placeOfMark_23 : decode cX1_placeOfMark 23 = .ok (.iconst 0, 1) := by decide +kernel
theorem dX1_placeOfMark_24 : decode cX1_placeOfMark 24 = .ok (.istore_n 2, 1) := by decide +kernel
theorem dX1_placeOfMark_25 : decode cX1_placeOfMark 25 = .ok (.iload_n 2, 1) := by decide +kernel
theorem dX1_placeOfMark_26 : decode cX1_placeOfMark 26 = .ok (.ifCond .eq 22, 3) := by decide +kernel
theorem dX1_placeOfMark_29 : decode cX1_placeOfMark 29 = .ok (.aload_n 0, 1) := by decide +kernel
theorem dX1_placeOfMark_30 : decode cX1_placeOfMark 30 = .ok (.getfield 46, 3) := by decide +kernel
theorem dX1_placeOfMark_33 : decode cX1_placeOfMark 33 = .ok (.iload_n 1, 1) := by decide +kernel
theorem dX1_placeOfMark_34 : decode cX1_placeOfMark 34 = .ok (.iaload, 1) := by decide +kernel
theorem dX1_placeOfMark_35 : decode cX1_placeOfMark 35 = .ok (.aload_n 0, 1) := by decide +kernel
theorem dX1_placeOfMark_36 : decode cX1_placeOfMark 36 = .ok (.getfield 12, 3) := by decide +kernel
theorem dX1_placeOfMark_39 : decode cX1_placeOfMark 39 = .ok (.getfield 82, 3) := by decide +kernel
theorem dX1_placeOfMark_42 : decode cX1_placeOfMark 42 = .ok (.invokestatic 200, 3) := by decide +kernel
theorem dX1_placeOfMark_45 : decode cX1_placeOfMark 45 = .ok (.goto 4, 3) := by decide +kernel
theorem dX1_placeOfMark_48 : decode cX1_placeOfMark 48 = .ok (.iconst (-1), 1) := by decide +kernel
theorem dX1_placeOfMark_49 : decode cX1_placeOfMark 49 = .ok (.ireturn, 1) := by decide +kernel
theorem dX1_aimByWord_0 : decode cX1_aimByWord 0 = .ok (.aload_n 0, 1) := by decide +kernel
theorem dX1_aimByWord_1 : decode cX1_aimByWord 1 = .ok (.getfield 12, 3) := by decide +kernel
theorem dX1_aimByWord_4 : decode cX1_aimByWord 4 = .ok (.getfield 82, 3) := by decide +kernel
theorem dX1_aimByWord_7 : decode cX1_aimByWord 7 = .ok (.ifCond .ne 5, 3) := by decide +kernel
theorem dX1_aimByWord_10 : decode cX1_aimByWord 10 = .ok (.iconst 0, 1) := by decide +kernel
theorem dX1_aimByWord_11 : decode cX1_aimByWord 11 = .ok (.ireturn, 1) := by decide +kernel
