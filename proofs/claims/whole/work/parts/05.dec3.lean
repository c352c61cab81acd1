theorem dX5_lead_78 : decode cX5_lead 78 = .ok (.aload_n 0, 1) := by decide +kernel
theorem dX5_lead_79 : decode cX5_lead 79 = .ok (.iload_n 2, 1) := by decide +kernel
theorem dX5_lead_80 : decode cX5_lead 80 = .ok (.aload_n 0, 1) := by decide +kernel
theorem dX5_lead_81 : decode cX5_lead 81 = .ok (.iload_n 2, 1) := by decide +kernel
theorem dX5_lead_82 : decode cX5_lead 82 = .ok (.invokevirtual 42, 3) := by decide +kernel
theorem dX5_lead_85 : decode cX5_lead 85 = .ok (.invokevirtual 49, 3) := by decide +kernel
theorem dX5_lead_88 : decode cX5_lead 88 = .ok (.istore_n 3, 1) := by decide +kernel
theorem dX5_lead_89 : decode cX5_lead 89 = .ok (.aload_n 0, 1) := by decide +kernel
theorem dX5_lead_90 : decode cX5_lead 90 = .ok (.iload_n 3, 1) := by decide +kernel
theorem dX5_lead_91 : decode cX5_lead 91 = .ok (.iconst 0, 1) := by decide +kernel
theorem dX5_lead_92 : decode cX5_lead 92 = .ok (.invokevirtual 49, 3) := by decide +kernel
theorem dX5_lead_95 : decode cX5_lead 95 = .ok (.ireturn, 1) := by decide +kernel
theorem dX5_lead_96 : decode cX5_lead 96 = .ok (.aload_n 0, 1) := by decide +kernel
theorem dX5_lead_97 : decode cX5_lead 97 = .ok (.iload_n 2, 1) := by decide +kernel
theorem dX5_lead_98 : decode cX5_lead 98 = .ok (.iconst 0, 1) := by decide +kernel
theorem dX5_lead_99 : decode cX5_lead 99 = .ok (.invokevirtual 52, 3) := by decide +kernel
theorem dX5_lead_102 : decode cX5_lead 102 = .ok (.istore_n 3, 1) := by decide +kernel
theorem dX5_lead_103 : decode cX5_lead 103 = .ok (.aload_n 0, 1) := by decide +kernel
theorem dX5_lead_104 : decode cX5_lead 104 = .ok (.iload_n 3, 1) := by decide +kernel
theorem dX5_lead_105 : decode cX5_lead 105 = .ok (.aload_n 0, 1) := by decide +kernel
theorem dX5_lead_106 : decode cX5_lead 106 = .ok (.iload_n 3, 1) := by decide +kernel
theorem dX5_lead_107 : decode cX5_lead 107 = .ok (.iconst 1, 1) := by decide +kernel
theorem dX5_lead_108 : decode cX5_lead 108 = .ok (.isub, 1) := by decide +kernel
theorem dX5_lead_109 : decode cX5_lead 109 = .ok (.invokevirtual 42, 3) := by decide +kernel
theorem dX5_lead_112 : decode cX5_lead 112 = .ok (.invokevirtual 52, 3) := by decide +kernel
theorem dX5_lead_115 : decode cX5_lead 115 = .ok (.ireturn, 1) := by decide +kernel
theorem dX5_lead_116 : decode cX5_lead 116 = .ok (.aload_n 0, 1) := by decide +kernel
theorem dX5_lead_117 : decode cX5_lead 117 = .ok (.iload_n 2, 1) := by decide +kernel
theorem dX5_lead_118 : decode cX5_lead 118 = .ok (.iconst 1, 1) := by decide +kernel
theorem dX5_lead_119 : decode cX5_lead 119 = .ok (.iadd, 1) := by decide +kernel
theorem dX5_lead_120 : decode cX5_lead 120 = .ok (.iconst 0, 1) := by decide +kernel
theorem dX5_lead_121 : decode cX5_lead 121 = .ok (.invokevirtual 49, 3) := by decide +kernel
theorem dX5_lead_124 : decode cX5_lead 124 = .ok (.istore_n 3, 1) := by decide +kernel
theorem dX5_lead_125 : decode cX5_lead 125 = .ok (.iload_n 3, 1) := by decide +kernel
theorem dX5_lead_126 : decode cX5_lead 126 = .ok (.aload_n 0, 1) := by decide +kernel
theorem dX5_lead_127 : decode cX5_lead 127 = .ok (.getfield 21, 3) := by decide +kernel
theorem dX5_lead_130 : decode cX5_lead 130 = .ok (.if_icmp .ge 18, 3) := by decide +kernel
theorem dX5_lead_133 : decode cX5_lead 133 = .ok (.aload_n 0, 1) := by decide +kernel
theorem dX5_lead_134 : decode cX5_lead 134 = .ok (.iload_n 3, 1) := by decide +kernel
theorem dX5_lead_135 : decode cX5_lead 135 = .ok (.aload_n 0, 1) := by decide +kernel
theorem dX5_lead_136 : decode cX5_lead 136 = .ok (.iload_n 3, 1) := by decide +kernel
theorem dX5_lead_137 : decode cX5_lead 137 = .ok (.invokevirtual 42, 3) := by decide +kernel
theorem dX5_lead_140 : decode cX5_lead 140 = .ok (.invokevirtual 49, 3) := by decide +kernel
theorem dX5_lead_143 : decode cX5_lead 143 = .ok (.iconst 1, 1) := by decide +kernel
theorem dX5_lead_144 : decode cX5_lead 144 = .ok (.isub, 1) := by decide +kernel
theorem dX5_lead_145 : decode cX5_lead 145 = .ok (.goto 7, 3) := by decide +kernel
theorem dX5_lead_148 : decode cX5_lead 148 = .ok (.aload_n 0, 1) := by decide +kernel
theorem dX5_lead_149 : decode cX5_lead 149 = .ok (.invokevirtual 32, 3) := by decide +kernel
theorem dX5_lead_152 : decode cX5_lead 152 = .ok (.ireturn, 1) := by decide +kernel
theorem dX5_deed_0 : decode cX5_deed 0 = .ok (.aload_n 0, 1) := by decide +kernel
theorem dX5_deed_1 : decode cX5_deed 1 = .ok (.iload_n 1, 1) := by decide +kernel
theorem dX5_deed_2 : decode cX5_deed 2 = .ok (.iload_n 2, 1) := by decide +kernel
theorem dX5_deed_3 : decode cX5_deed 3 = .ok (.invokevirtual 55, 3) := by decide +kernel
theorem dX5_deed_6 : decode cX5_deed 6 = .ok (.aload_n 0, 1) := by decide +kernel
theorem dX5_deed_7 : decode cX5_deed 7 = .ok (.invokevirtual 32, 3) := by decide +kernel
theorem dX5_deed_10 : decode cX5_deed 10 = .ok (.invokestatic 36, 3) := by decide +kernel
theorem dX5_deed_13 : decode cX5_deed 13 = .ok (.ireturn, 1) := by decide +kernel
theorem dX5_findBehind_0 : decode cX5_findBehind 0 = .ok (.iconst 0, 1) := by decide +kernel
theorem dX5_findBehind_1 : decode cX5_findBehind 1 = .ok (.istore 4, 2) := by decide +kernel
theorem dX5_findBehind_3 : decode cX5_findBehind 3 = .ok (.iload_n 1, 1) := by decide +kernel
theorem dX5_findBehind_4 : decode cX5_findBehind 4 = .ok (.iconst 1, 1) := by decide +kernel
theorem dX5_findBehind_5 : decode cX5_findBehind 5 = .ok (.iadd, 1) := by decide +kernel
theorem dX5_findBehind_6 : decode cX5_findBehind 6 = .ok (.istore 5, 2) := by decide +kernel
theorem dX5_findBehind_8 : decode cX5_findBehind 8 = .ok (.iload 5, 2) := by decide +kernel
theorem dX5_findBehind_10 : decode cX5_findBehind 10 = .ok (.aload_n 0, 1) := by decide +kernel
theorem dX5_findBehind_11 : decode cX5_findBehind 11 = .ok (.getfield 21, 3) := by decide +kernel
theorem dX5_findBehind_14 : decode cX5_findBehind 14 = .ok (.if_icmp .ge 32, 3) := by decide +kernel
theorem dX5_findBehind_17 : decode cX5_findBehind 17 = .ok (.aload_n 0, 1) := by decide +kernel
theorem dX5_findBehind_18 : decode cX5_findBehind 18 = .ok (.getfield 9, 3) := by decide +kernel
theorem dX5_findBehind_21 : decode cX5_findBehind 21 = .ok (.iload 5, 2) := by decide +kernel
theorem dX5_findBehind_23 : decode cX5_findBehind 23 = .ok (.iaload, 1) := by decide +kernel
theorem dX5_findBehind_24 : decode cX5_findBehind 24 = .ok (.iload_n 2, 1) := by decide +kernel
theorem dX5_findBehind_25 : decode cX5_findBehind 25 = .ok (.if_icmp .ne 6, 3) := by decide +kernel
theorem dX5_findBehind_28 : decode cX5_findBehind 28 = .ok (.iinc 4 1, 3) := by decide +kernel
theorem dX5_findBehind_31 : decode cX5_findBehind 31 = .ok (.iload 4, 2) := by decide +kernel
theorem dX5_findBehind_33 : decode cX5_findBehind 33 = .ok (.iload_n 3, 1) := by decide +kernel
theorem dX5_findBehind_34 : decode cX5_findBehind 34 = .ok (.if_icmp .ne 6, 3) := by decide +kernel
theorem dX5_findBehind_37 : decode cX5_findBehind 37 = .ok (.iload 5, 2) := by decide +kernel
theorem dX5_findBehind_39 : decode cX5_findBehind 39 = .ok (.ireturn, 1) := by decide +kernel
theorem dX5_findBehind_40 : decode cX5_findBehind 40 = .ok (.iinc 5 1, 3) := by decide +kernel
theorem dX5_findBehind_43 : decode cX5_findBehind 43 = .ok (.goto (-35), 3) := by decide +kernel
theorem dX5_findBehind_46 : decode cX5_findBehind 46 = .ok (.iconst (-1), 1) := by decide +kernel
theorem dX5_findBehind_47 : decode cX5_findBehind 47 = .ok (.ireturn, 1) := by decide +kernel
theorem dX5_openingRound_0 : decode cX5_openingRound 0 = .ok (.iconst 0, 1) := by decide +kernel
theorem dX5_openingRound_1 : decode cX5_openingRound 1 = .ok (.istore_n 2, 1) := by decide +kernel
theorem dX5_openingRound_2 : decode cX5_openingRound 2 = .ok (.iload_n 1, 1) := by decide +kernel
theorem dX5_openingRound_3 : decode cX5_openingRound 3 = .ok (.istore_n 3, 1) := by decide +kernel
theorem dX5_openingRound_4 : decode cX5_openingRound 4 = .ok (.iload_n 3, 1) := by decide +kernel
theorem dX5_openingRound_5 : decode cX5_openingRound 5 = .ok (.ifCond .lt 49, 3) := by decide +kernel
theorem dX5_openingRound_8 : decode cX5_openingRound 8 = .ok (.aload_n 0, 1) := by decide +kernel
theorem dX5_openingRound_9 : decode cX5_openingRound 9 = .ok (.iload_n 3, 1) := by decide +kernel
theorem dX5_openingRound_10 : decode cX5_openingRound 10 = .ok (.invokevirtual 58, 3) := by decide +kernel
theorem dX5_openingRound_13 : decode cX5_openingRound 13 = .ok (.bipush 40, 2) := by decide +kernel
theorem dX5_openingRound_15 : decode cX5_openingRound 15 = .ok (.if_icmp .ne 15, 3) := by decide +kernel
theorem dX5_openingRound_18 : decode cX5_openingRound 18 = .ok (.iload_n 2, 1) := by decide +kernel
theorem dX5_openingRound_19 : decode cX5_openingRound 19 = .ok (.ifCond .ne 5, 3) := by decide +kernel
theorem dX5_openingRound_22 : decode cX5_openingRound 22 = .ok (.iload_n 3, 1) := by decide +kernel
theorem dX5_openingRound_23 : decode cX5_openingRound 23 = .ok (.ireturn, 1) := by decide +kernel
theorem dX5_openingRound_24 : decode cX5_openingRound 24 = .ok (.iinc 2 (-1), 3) := by decide +kernel
theorem dX5_openingRound_27 : decode cX5_openingRound 27 = .ok (.goto 21, 3) := by decide +kernel
theorem dX5_openingRound_30 : decode cX5_openingRound 30 = .ok (.aload_n 0, 1) := by decide +kernel
theorem dX5_openingRound_31 : decode cX5_openingRound 31 = .ok (.iload_n 3, 1) := by decide +kernel
theorem dX5_openingRound_32 : decode cX5_openingRound 32 = .ok (.invokevirtual 58, 3) := by decide +kernel
theorem dX5_openingRound_35 : decode cX5_openingRound 35 = .ok (.bipush 41, 2) := by decide +kernel
theorem dX5_openingRound_37 : decode cX5_openingRound 37 = .ok (.if_icmp .ne 11, 3) := by decide +kernel
theorem dX5_openingRound_40 : decode cX5_openingRound 40 = .ok (.iload_n 3, 1) := by decide +kernel
theorem dX5_openingRound_41 : decode cX5_openingRound 41 = .ok (.iload_n 1, 1) := by decide +kernel
theorem dX5_openingRound_42 : decode cX5_openingRound 42 = .ok (.if_icmp .eq 6, 3) := by decide +kernel
theorem dX5_openingRound_45 : decode cX5_openingRound 45 = .ok (.iinc 2 1, 3) := by decide +kernel
theorem dX5_openingRound_48 : decode cX5_openingRound 48 = .ok (.iinc 3 (-1), 3) := by decide +kernel
theorem dX5_openingRound_51 : decode cX5_openingRound 51 = .ok (.goto (-47), 3) := by decide +kernel
theorem dX5_openingRound_54 : decode cX5_openingRound 54 = .ok (.iconst (-1), 1) := by decide +kernel
theorem dX5_openingRound_55 : decode cX5_openingRound 55 = .ok (.ireturn, 1) := by decide +kernel
theorem dX5_closingOf_0 : decode cX5_closingOf 0 = .ok (.iconst 0, 1) := by decide +kernel
theorem dX5_closingOf_1 : decode cX5_closingOf 1 = .ok (.istore_n 2, 1) := by decide +kernel
theorem dX5_closingOf_2 : decode cX5_closingOf 2 = .ok (.iload_n 1, 1) := by decide +kernel
theorem dX5_closingOf_3 : decode cX5_closingOf 3 = .ok (.iconst 1, 1) := by decide +kernel
theorem dX5_closingOf_4 : decode cX5_closingOf 4 = .ok (.iadd, 1) := by decide +kernel
theorem dX5_closingOf_5 : decode cX5_closingOf 5 = .ok (.istore_n 3, 1) := by decide +kernel
theorem dX5_closingOf_6 : decode cX5_closingOf 6 = .ok (.iload_n 3, 1) := by decide +kernel
theorem dX5_closingOf_7 : decode cX5_closingOf 7 = .ok (.aload_n 0, 1) := by decide +kernel
theorem dX5_closingOf_8 : decode cX5_closingOf 8 = .ok (.getfield 21, 3) := by decide +kernel
theorem dX5_closingOf_11 : decode cX5_closingOf 11 = .ok (.if_icmp .ge 44, 3) := by decide +kernel
theorem dX5_closingOf_14 : decode cX5_closingOf 14 = .ok (.aload_n 0, 1) := by decide +kernel
theorem dX5_closingOf_15 : decode cX5_closingOf 15 = .ok (.iload_n 3, 1) := by decide +kernel
theorem dX5_closingOf_16 : decode cX5_closingOf 16 = .ok (.invokevirtual 58, 3) := by decide +kernel
theorem dX5_closingOf_19 : decode cX5_closingOf 19 = .ok (.bipush 41, 2) := by decide +kernel
theorem dX5_closingOf_21 : decode cX5_closingOf 21 = .ok (.if_icmp .ne 15, 3) := by decide +kernel
theorem dX5_closingOf_24 : decode cX5_closingOf 24 = .ok (.iload_n 2, 1) := by decide +kernel
theorem dX5_closingOf_25 : decode cX5_closingOf 25 = .ok (.ifCond .ne 5, 3) := by decide +kernel
theorem dX5_closingOf_28 : decode cX5_closingOf 28 = .ok (.iload_n 3, 1) := by decide +kernel
theorem dX5_closingOf_29 : decode cX5_closingOf 29 = .ok (.ireturn, 1) := by decide +kernel
theorem dX5_closingOf_30 : decode cX5_closingOf 30 = .ok (.iinc 2 (-1), 3) := by decide +kernel
theorem dX5_closingOf_33 : decode cX5_closingOf 33 = .ok (.goto 16, 3) := by decide +kernel
theorem dX5_closingOf_36 : decode cX5_closingOf 36 = .ok (.aload_n 0, 1) := by decide +kernel
theorem dX5_closingOf_37 : decode cX5_closingOf 37 = .ok (.iload_n 3, 1) := by decide +kernel
theorem dX5_closingOf_38 : decode cX5_closingOf 38 = .ok (.invokevirtual 58, 3) := by decide +kernel
theorem dX5_closingOf_41 : decode cX5_closingOf 41 = .ok (.bipush 40, 2) := by decide +kernel
theorem dX5_closingOf_43 : decode cX5_closingOf 43 = .ok (.if_icmp .ne 6, 3) := by decide +kernel
theorem dX5_closingOf_46 : decode cX5_closingOf 46 = .ok (.iinc 2 1, 3) := by decide +kernel
theorem dX5_closingOf_49 : decode cX5_closingOf 49 = .ok (.iinc 3 1, 3) := by decide +kernel
theorem dX5_closingOf_52 : decode cX5_closingOf 52 = .ok (.goto (-46), 3) := by decide +kernel
theorem dX5_closingOf_55 : decode cX5_closingOf 55 = .ok (.iconst (-1), 1) := by decide +kernel
theorem dX5_closingOf_56 : decode cX5_closingOf 56 = .ok (.ireturn, 1) := by decide +kernel
theorem dX5_words_0 : decode cX5_words 0 = .ok (.iconst 0, 1) := by decide +kernel
theorem dX5_words_1 : decode cX5_words 1 = .ok (.istore_n 1, 1) := by decide +kernel
theorem dX5_words_2 : decode cX5_words 2 = .ok (.iconst 0, 1) := by decide +kernel
theorem dX5_words_3 : decode cX5_words 3 = .ok (.istore_n 2, 1) := by decide +kernel
theorem dX5_words_4 : decode cX5_words 4 = .ok (.iload_n 2, 1) := by decide +kernel
theorem dX5_words_5 : decode cX5_words 5 = .ok (.aload_n 0, 1) := by decide +kernel
theorem dX5_words_6 : decode cX5_words 6 = .ok (.getfield 21, 3) := by decide +kernel
theorem dX5_words_9 : decode cX5_words 9 = .ok (.if_icmp .ge 32, 3) := by decide +kernel
theorem dX5_words_12 : decode cX5_words 12 = .ok (.aload_n 0, 1) := by decide +kernel
theorem dX5_words_13 : decode cX5_words 13 = .ok (.iload_n 2, 1) := by decide +kernel
theorem dX5_words_14 : decode cX5_words 14 = .ok (.invokevirtual 42, 3) := by decide +kernel
theorem dX5_words_17 : decode cX5_words 17 = .ok (.iconst 1, 1) := by decide +kernel
theorem dX5_words_18 : decode cX5_words 18 = .ok (.if_icmp .ne 17, 3) := by decide +kernel
theorem dX5_words_21 : decode cX5_words 21 = .ok (.aload_n 0, 1) := by decide +kernel
theorem dX5_words_22 : decode cX5_words 22 = .ok (.iload_n 2, 1) := by decide +kernel
theorem dX5_words_23 : decode cX5_words 23 = .ok (.iconst 1, 1) := by decide +kernel
theorem dX5_words_24 : decode cX5_words 24 = .ok (.isub, 1) := by decide +kernel
theorem dX5_words_25 : decode cX5_words 25 = .ok (.invokevirtual 42, 3) := by decide +kernel
theorem dX5_words_28 : decode cX5_words 28 = .ok (.iconst 1, 1) := by decide +kernel
theorem dX5_words_29 : decode cX5_words 29 = .ok (.if_icmp .eq 6, 3) := by decide +kernel
theorem dX5_words_32 : decode cX5_words 32 = .ok (.iinc 1 1, 3) := by decide +kernel
theorem dX5_words_35 : decode cX5_words 35 = .ok (.iinc 2 1, 3) := by decide +kernel
theorem dX5_words_38 : decode cX5_words 38 = .ok (.goto (-34), 3) := by decide +kernel
theorem dX5_words_41 : decode cX5_words 41 = .ok (.iload_n 1, 1) := by decide +kernel
theorem dX5_words_42 : decode cX5_words 42 = .ok (.ireturn, 1) := by decide +kernel
theorem dX5_takeOut_0 : decode cX5_takeOut 0 = .ok (.aload_n 0, 1) := by decide +kernel
theorem dX5_takeOut_1 : decode cX5_takeOut 1 = .ok (.getfield 9, 3) := by decide +kernel
theorem dX5_takeOut_4 : decode cX5_takeOut 4 = .ok (.iload_n 2, 1) := by decide +kernel
theorem dX5_takeOut_5 : decode cX5_takeOut 5 = .ok (.aload_n 0, 1) := by decide +kernel
theorem dX5_takeOut_6 : decode cX5_takeOut 6 = .ok (.getfield 9, 3) := by decide +kernel
theorem dX5_takeOut_9 : decode cX5_takeOut 9 = .ok (.iload_n 1, 1) := by decide +kernel
theorem dX5_takeOut_10 : decode cX5_takeOut 10 = .ok (.aload_n 0, 1) := by decide +kernel
theorem dX5_takeOut_11 : decode cX5_takeOut 11 = .ok (.getfield 21, 3) := by decide +kernel
theorem dX5_takeOut_14 : decode cX5_takeOut 14 = .ok (.iload_n 2, 1) := by decide +kernel
theorem dX5_takeOut_15 : decode cX5_takeOut 15 = .ok (.isub, 1) := by decide +kernel
theorem dX5_takeOut_16 : decode cX5_takeOut 16 = .ok (.invokestatic 15, 3) := by decide +kernel
theorem dX5_takeOut_19 : decode cX5_takeOut 19 = .ok (.aload_n 0, 1) := by decide +kernel
theorem dX5_takeOut_20 : decode cX5_takeOut 20 = .ok (.dup, 1) := by decide +kernel
theorem dX5_takeOut_21 : decode cX5_takeOut 21 = .ok (.getfield 21, 3) := by decide +kernel
theorem dX5_takeOut_24 : decode cX5_takeOut 24 = .ok (.iload_n 2, 1) := by decide +kernel
theorem dX5_takeOut_25 : decode cX5_takeOut 25 = .ok (.iload_n 1, 1) := by decide +kernel
theorem dX5_takeOut_26 : decode cX5_takeOut 26 = .ok (.isub, 1) := by decide +kernel
theorem dX5_takeOut_27 : decode cX5_takeOut 27 = .ok (.isub, 1) := by decide +kernel
theorem dX5_takeOut_28 : decode cX5_takeOut 28 = .ok (.putfield 21, 3) := by decide +kernel
theorem dX5_takeOut_31 : decode cX5_takeOut 31 = .ok (.return_, 1) := by decide +kernel
theorem dX5_makeRoom_0 : decode cX5_makeRoom 0 = .ok (.aload_n 0, 1) := by decide +kernel
theorem dX5_makeRoom_1 : decode cX5_makeRoom 1 = .ok (.getfield 9, 3) := by decide +kernel
theorem dX5_makeRoom_4 : decode cX5_makeRoom 4 = .ok (.iload_n 1, 1) := by decide +kernel
theorem dX5_makeRoom_5 : decode cX5_makeRoom 5 = .ok (.aload_n 0, 1) := by decide +kernel
theorem dX5_makeRoom_6 : decode cX5_makeRoom 6 = .ok (.getfield 9, 3) := by decide +kernel
theorem dX5_makeRoom_9 : decode cX5_makeRoom 9 = .ok (.iload_n 1, 1) := by decide +kernel
theorem dX5_makeRoom_10 : decode cX5_makeRoom 10 = .ok (.iload_n 2, 1) := by decide +kernel
theorem dX5_makeRoom_11 : decode cX5_makeRoom 11 = .ok (.iadd, 1) := by decide +kernel
theorem dX5_makeRoom_12 : decode cX5_makeRoom 12 = .ok (.aload_n 0, 1) := by decide +kernel
theorem dX5_makeRoom_13 : decode cX5_makeRoom 13 = .ok (.getfield 21, 3) := by decide +kernel
theorem dX5_makeRoom_16 : decode cX5_makeRoom 16 = .ok (.iload_n 1, 1) := by decide +kernel
theorem dX5_makeRoom_17 : decode cX5_makeRoom 17 = .ok (.isub, 1) := by decide +kernel
theorem dX5_makeRoom_18 : decode cX5_makeRoom 18 = .ok (.invokestatic 15, 3) := by decide +kernel
theorem dX5_makeRoom_21 : decode cX5_makeRoom 21 = .ok (.aload_n 0, 1) := by decide +kernel
theorem dX5_makeRoom_22 : decode cX5_makeRoom 22 = .ok (.dup, 1) := by decide +kernel
theorem dX5_makeRoom_23 : decode cX5_makeRoom 23 = .ok (.getfield 21, 3) := by decide +kernel
theorem dX5_makeRoom_26 : decode cX5_makeRoom 26 = .ok (.iload_n 2, 1) := by decide +kernel
theorem dX5_makeRoom_27 : decode cX5_makeRoom 27 = .ok (.iadd, 1) := by decide +kernel
theorem dX5_makeRoom_28 : decode cX5_makeRoom 28 = .ok (.putfield 21, 3) := by decide +kernel
theorem dX5_makeRoom_31 : decode cX5_makeRoom 31 = .ok (.return_, 1) := by decide +kernel
theorem dX5_swapCase_0 : decode cX5_swapCase 0 = .ok (.aload_n 0, 1) := by decide +kernel
theorem dX5_swapCase_1 : decode cX5_swapCase 1 = .ok (.getfield 9, 3) := by decide +kernel
theorem dX5_swapCase_4 : decode cX5_swapCase 4 = .ok (.iload_n 1, 1) := by decide +kernel
theorem dX5_swapCase_5 : decode cX5_swapCase 5 = .ok (.iaload, 1) := by decide +kernel
theorem dX5_swapCase_6 : decode cX5_swapCase 6 = .ok (.istore_n 2, 1) := by decide +kernel
theorem dX5_swapCase_7 : decode cX5_swapCase 7 = .ok (.iload_n 2, 1) := by decide +kernel
theorem dX5_swapCase_8 : decode cX5_swapCase 8 = .ok (.bipush 97, 2) := by decide +kernel
theorem dX5_swapCase_10 : decode cX5_swapCase 10 = .ok (.if_icmp .lt 25, 3) := by decide +kernel
theorem dX5_swapCase_13 : decode cX5_swapCase 13 = .ok (.iload_n 2, 1) := by decide +kernel
theorem dX5_swapCase_14 : decode cX5_swapCase 14 = .ok (.bipush 122, 2) := by decide +kernel
theorem dX5_swapCase_16 : decode cX5_swapCase 16 = .ok (.if_icmp .gt 19, 3) := by decide +kernel
theorem dX5_swapCase_19 : decode cX5_swapCase 19 = .ok (.aload_n 0, 1) := by decide +kernel
theorem dX5_swapCase_20 : decode cX5_swapCase 20 = .ok (.getfield 9, 3) := by decide +kernel
theorem dX5_swapCase_23 : decode cX5_swapCase 23 = .ok (.iload_n 1, 1) := by decide +kernel
theorem dX5_swapCase_24 : decode cX5_swapCase 24 = .ok (.iload_n 2, 1) := by decide +kernel
theorem dX5_swapCase_25 : decode cX5_swapCase 25 = .ok (.bipush 97, 2) := by decide +kernel
theorem dX5_swapCase_27 : decode cX5_swapCase 27 = .ok (.isub, 1) := by decide +kernel
theorem dX5_swapCase_28 : decode cX5_swapCase 28 = .ok (.bipush 65, 2) := by decide +kernel
theorem dX5_swapCase_30 : decode cX5_swapCase 30 = .ok (.iadd, 1) := by decide +kernel
theorem dX5_swapCase_31 : decode cX5_swapCase 31 = .ok (.iastore, 1) := by decide +kernel
theorem dX5_swapCase_32 : decode cX5_swapCase 32 = .ok (.goto 28, 3) := by decide +kernel
theorem dX5_swapCase_35 : decode cX5_swapCase 35 = .ok (.iload_n 2, 1) := by decide +kernel
theorem dX5_swapCase_36 : decode cX5_swapCase 36 = .ok (.bipush 65, 2) := by decide +kernel
theorem dX5_swapCase_38 : decode cX5_swapCase 38 = .ok (.if_icmp .lt 22, 3) := by decide +kernel
theorem dX5_swapCase_41 : decode cX5_swapCase 41 = .ok (.iload_n 2, 1) := by decide +kernel
theorem dX5_swapCase_42 : decode cX5_swapCase 42 = .ok (.bipush 90, 2) := by decide +kernel
theorem dX5_swapCase_44 : decode cX5_swapCase 44 = .ok (.if_icmp .gt 16, 3) := by decide +kernel
theorem dX5_swapCase_47 : decode cX5_swapCase 47 = .ok (.aload_n 0, 1) := by decide +kernel
theorem dX5_swapCase_48 : decode cX5_swapCase 48 = .ok (.getfield 9, 3) := by decide +kernel
theorem dX5_swapCase_51 : decode cX5_swapCase 51 = .ok (.iload_n 1, 1) := by decide +kernel
theorem dX5_swapCase_52 : decode cX5_swapCase 52 = .ok (.iload_n 2, 1) := by decide +kernel
theorem dX5_swapCase_53 : decode cX5_swapCase 53 = .ok (.bipush 65, 2) := by decide +kernel
theorem dX5_swapCase_55 : decode cX5_swapCase 55 = .ok (.isub, 1) := by decide +kernel
theorem dX5_swapCase_56 : decode cX5_swapCase 56 = .ok (.bipush 97, 2) := by decide +kernel
theorem dX5_swapCase_58 : decode cX5_swapCase 58 = .ok (.iadd, 1) := by decide +kernel
theorem dX5_swapCase_59 : decode cX5_swapCase 59 = .ok (.iastore, 1) := by decide +kernel
theorem dX5_swapCase_60 : decode cX5_swapCase 60 = .ok (.return_, 1) := by decide +kernel
theorem dX6_init_0 : decode cX6_init 0 = .ok (.aload_n 0, 1) := by decide +kernel
theorem dX6_init_1 : decode cX6_init 1 = .ok (.invokespecial 3, 3) := by decide +kernel
theorem dX6_init_4 : decode cX6_init 4 = .ok (.aload_n 0, 1) := by decide +kernel
theorem dX6_init_5 : decode cX6_init 5 = .ok (.bipush 7, 2) := by decide +kernel
theorem dX6_init_7 : decode cX6_init 7 = .ok (.bipush 60, 2) := by decide +kernel
theorem dX6_init_9 : decode cX6_init 9 = .ok (.multianewarray 9 2, 4) := by decide +kernel
theorem dX6_init_13 : decode cX6_init 13 = .ok (.putfield 11, 3) := by decide +kernel
theorem dX6_init_16 : decode cX6_init 16 = .ok (.aload_n 0, 1) := by decide +kernel
theorem dX6_init_17 : decode cX6_init 17 = .ok (.bipush 60, 2) := by decide +kernel
theorem dX6_init_19 : decode cX6_init 19 = .ok (.newarray .int, 2) := by decide +kernel
theorem dX6_init_21 : decode cX6_init 21 = .ok (.putfield 16, 3) := by decide +kernel
theorem dX6_init_24 : decode cX6_init 24 = .ok (.aload_n 0, 1) := by decide +kernel
theorem dX6_init_25 : decode cX6_init 25 = .ok (.bipush 60, 2) := by decide +kernel
theorem dX6_init_27 : decode cX6_init 27 = .ok (.newarray .int, 2) := by decide +kernel
theorem dX6_init_29 : decode cX6_init 29 = .ok (.putfield 20, 3) := by decide +kernel
theorem dX6_init_32 : decode cX6_init 32 = .ok (.aload_n 0, 1) := by decide +kernel
theorem dX6_init_33 : decode cX6_init 33 = .ok (.bipush 60, 2) := by decide +kernel
theorem dX6_init_35 : decode cX6_init 35 = .ok (.newarray .int, 2) := by decide +kernel
theorem dX6_init_37 : decode cX6_init 37 = .ok (.putfield 23, 3) := by decide +kernel
theorem dX6_init_40 : decode cX6_init 40 = .ok (.return_, 1) := by decide +kernel
theorem dX6_survey_0 : decode cX6_survey 0 = .ok (.aload_n 0, 1) := by decide +kernel
theorem dX6_survey_1 : decode cX6_survey 1 = .ok (.aload_n 1, 1) := by decide +kernel
theorem dX6_survey_2 : decode cX6_survey 2 = .ok (.invokevirtual 26, 3) := by decide +kernel
theorem dX6_survey_5 : decode cX6_survey 5 = .ok (.iconst 1, 1) := by decide +kernel
theorem dX6_survey_6 : decode cX6_survey 6 = .ok (.iadd, 1) := by decide +kernel
theorem dX6_survey_7 : decode cX6_survey 7 = .ok (.putfield 32, 3) := by decide +kernel
theorem dX6_survey_10 : decode cX6_survey 10 = .ok (.iconst 0, 1) := by decide +kernel
theorem dX6_survey_11 : decode cX6_survey 11 = .ok (.istore_n 2, 1) := by decide +kernel
theorem dX6_survey_12 : decode cX6_survey 12 = .ok (.iload_n 2, 1) := by decide +kernel
theorem dX6_survey_13 : decode cX6_survey 13 = .ok (.bipush 7, 2) := by decide +kernel
theorem dX6_survey_15 : decode cX6_survey 15 = .ok (.if_icmp .ge 39, 3) := by decide +kernel
theorem dX6_survey_18 : decode cX6_survey 18 = .ok (.iconst 0, 1) := by decide +kernel
theorem dX6_survey_19 : decode cX6_survey 19 = .ok (.istore_n 3, 1) := by decide +kernel
theorem dX6_survey_20 : decode cX6_survey 20 = .ok (.iload_n 3, 1) := by decide +kernel
theorem dX6_survey_21 : decode cX6_survey 21 = .ok (.aload_n 0, 1) := by decide +kernel
theorem dX6_survey_22 : decode cX6_survey 22 = .ok (.getfield 32, 3) := by decide +kernel
theorem dX6_survey_25 : decode cX6_survey 25 = .ok (.if_icmp .ge 23, 3) := by decide +kernel
theorem dX6_survey_28 : decode cX6_survey 28 = .ok (.aload_n 0, 1) := by decide +kernel
theorem dX6_survey_29 : decode cX6_survey 29 = .ok (.getfield 11, 3) := by decide +kernel
theorem dX6_survey_32 : decode cX6_survey 32 = .ok (.iload_n 2, 1) := by decide +kernel
theorem dX6_survey_33 : decode cX6_survey 33 = .ok (.aaload, 1) := by decide +kernel
theorem dX6_survey_34 : decode cX6_survey 34 = .ok (.iload_n 3, 1) := by decide +kernel
theorem dX6_survey_35 : decode cX6_survey 35 = .ok (.aload_n 1, 1) := by decide +kernel
theorem dX6_survey_36 : decode cX6_survey 36 = .ok (.iload_n 2, 1) := by decide +kernel
theorem dX6_survey_37 : decode cX6_survey 37 = .ok (.iload_n 3, 1) := by decide +kernel
theorem dX6_survey_38 : decode cX6_survey 38 = .ok (.invokevirtual 36, 3) := by decide +kernel
theorem dX6_survey_41 : decode cX6_survey 41 = .ok (.iastore, 1) := by decide +kernel
theorem dX6_survey_42 : decode cX6_survey 42 = .ok (.iinc 3 1, 3) := by decide +kernel
theorem dX6_survey_45 : decode cX6_survey 45 = .ok (.goto (-25), 3) := by decide +kernel
theorem dX6_survey_48 : decode cX6_survey 48 = .ok (.iinc 2 1, 3) := by decide +kernel
theorem dX6_survey_51 : decode cX6_survey 51 = .ok (.goto (-39), 3) := by decide +kernel
theorem dX6_survey_54 : decode cX6_survey 54 = .ok (.return_, 1) := by decide +kernel
theorem dX6_reckon_0 : decode cX6_reckon 0 = .ok (.aload_n 0, 1) := by decide +kernel
theorem dX6_reckon_1 : decode cX6_reckon 1 = .ok (.getfield 16, 3) := by decide +kernel
theorem dX6_reckon_4 : decode cX6_reckon 4 = .ok (.ldc 40, 2) := by decide +kernel
theorem dX6_reckon_6 : decode cX6_reckon 6 = .ok (.invokestatic 41, 3) := by decide +kernel
theorem dX6_reckon_9 : decode cX6_reckon 9 = .ok (.aload_n 0, 1) := by decide +kernel
theorem dX6_reckon_10 : decode cX6_reckon 10 = .ok (.getfield 16, 3) := by decide +kernel
theorem dX6_reckon_13 : decode cX6_reckon 13 = .ok (.iload_n 1, 1) := by decide +kernel
theorem dX6_reckon_14 : decode cX6_reckon 14 = .ok (.iconst 0, 1) := by decide +kernel
theorem dX6_reckon_15 : decode cX6_reckon 15 = .ok (.iastore, 1) := by decide +kernel
theorem dX6_reckon_16 : decode cX6_reckon 16 = .ok (.iconst 1, 1) := by decide +kernel
theorem dX6_reckon_17 : decode cX6_reckon 17 = .ok (.istore 4, 2) := by decide +kernel
theorem dX6_reckon_19 : decode cX6_reckon 19 = .ok (.iconst 0, 1) := by decide +kernel
theorem dX6_reckon_20 : decode cX6_reckon 20 = .ok (.istore 5, 2) := by decide +kernel
theorem dX6_reckon_22 : decode cX6_reckon 22 = .ok (.iload 5, 2) := by decide +kernel
theorem dX6_reckon_24 : decode cX6_reckon 24 = .ok (.aload_n 0, 1) := by decide +kernel
theorem dX6_reckon_25 : decode cX6_reckon 25 = .ok (.getfield 32, 3) := by decide +kernel
theorem dX6_reckon_28 : decode cX6_reckon 28 = .ok (.if_icmp .ge 133, 3) := by decide +kernel
theorem dX6_reckon_31 : decode cX6_reckon 31 = .ok (.iload 4, 2) := by decide +kernel
theorem dX6_reckon_33 : decode cX6_reckon 33 = .ok (.ifCond .eq 128, 3) := by decide +kernel
theorem dX6_reckon_36 : decode cX6_reckon 36 = .ok (.iconst 0, 1) := by decide +kernel
theorem dX6_reckon_37 : decode cX6_reckon 37 = .ok (.istore 4, 2) := by decide +kernel
theorem dX6_reckon_39 : decode cX6_reckon 39 = .ok (.iconst 0, 1) := by decide +kernel
theorem dX6_reckon_40 : decode cX6_reckon 40 = .ok (.istore 6, 2) := by decide +kernel
theorem dX6_reckon_42 : decode cX6_reckon 42 = .ok (.iload 6, 2) := by decide +kernel
theorem dX6_reckon_44 : decode cX6_reckon 44 = .ok (.aload_n 0, 1) := by decide +kernel
theorem dX6_reckon_45 : decode cX6_reckon 45 = .ok (.getfield 32, 3) := by decide +kernel
theorem dX6_reckon_48 : decode cX6_reckon 48 = .ok (.if_icmp .ge 107, 3) := by decide +kernel
theorem dX6_reckon_51 : decode cX6_reckon 51 = .ok (.iconst 0, 1) := by decide +kernel
theorem dX6_reckon_52 : decode cX6_reckon 52 = .ok (.istore 7, 2) := by decide +kernel
theorem dX6_reckon_54 : decode cX6_reckon 54 = .ok (.iload 7, 2) := by decide +kernel
theorem dX6_reckon_56 : decode cX6_reckon 56 = .ok (.bipush 7, 2) := by decide +kernel
theorem dX6_reckon_58 : decode cX6_reckon 58 = .ok (.if_icmp .ge 91, 3) := by decide +kernel
theorem dX6_reckon_61 : decode cX6_reckon 61 = .ok (.aload_n 0, 1) := by decide +kernel
theorem dX6_reckon_62 : decode cX6_reckon 62 = .ok (.getfield 11, 3) := by decide +kernel
theorem dX6_reckon_65 : decode cX6_reckon 65 = .ok (.iload 7, 2) := by decide +kernel
theorem dX6_reckon_67 : decode cX6_reckon 67 = .ok (.aaload, 1) := by decide +kernel
theorem dX6_reckon_68 : decode cX6_reckon 68 = .ok (.iload 6, 2) := by decide +kernel
theorem dX6_reckon_70 : decode cX6_reckon 70 = .ok (.iaload, 1) := by decide +kernel
theorem dX6_reckon_71 : decode cX6_reckon 71 = .ok (.istore 8, 2) := by decide +kernel
theorem dX6_reckon_73 : decode cX6_reckon 73 = .ok (.iload_n 2, 1) := by decide +kernel
theorem dX6_reckon_74 : decode cX6_reckon 74 = .ok (.ifCond .eq 8, 3) := by decide +kernel
theorem dX6_reckon_77 : decode cX6_reckon 77 = .ok (.iload 8, 2) := by decide +kernel
theorem dX6_reckon_79 : decode cX6_reckon 79 = .ok (.goto 5, 3) := by decide +kernel
theorem dX6_reckon_82 : decode cX6_reckon 82 = .ok (.iload 6, 2) := by decide +kernel
theorem dX6_reckon_84 : decode cX6_reckon 84 = .ok (.istore 9, 2) := by decide +kernel
theorem dX6_reckon_86 : decode cX6_reckon 86 = .ok (.iload_n 2, 1) := by decide +kernel
theorem dX6_reckon_87 : decode cX6_reckon 87 = .ok (.ifCond .eq 8, 3) := by decide +kernel
theorem dX6_reckon_90 : decode cX6_reckon 90 = .ok (.iload 6, 2) := by decide +kernel
theorem dX6_reckon_92 : decode cX6_reckon 92 = .ok (.goto 5, 3) := by decide +kernel
theorem dX6_reckon_95 : decode cX6_reckon 95 = .ok (.iload 8, 2) := by decide +kernel
theorem dX6_reckon_97 : decode cX6_reckon 97 = .ok (.istore 10, 2) := by decide +kernel
theorem dX6_reckon_99 : decode cX6_reckon 99 = .ok (.aload_n 0, 1) := by decide +kernel
theorem dX6_reckon_100 : decode cX6_reckon 100 = .ok (.getfield 16, 3) := by decide +kernel
theorem dX6_reckon_103 : decode cX6_reckon 103 = .ok (.iload 9, 2) := by decide +kernel
theorem dX6_reckon_105 : decode cX6_reckon 105 = .ok (.iaload, 1) := by decide +kernel
theorem dX6_reckon_106 : decode cX6_reckon 106 = .ok (.aload_n 3, 1) := by decide +kernel
theorem dX6_reckon_107 : decode cX6_reckon 107 = .ok (.iload 7, 2) := by decide +kernel
theorem dX6_reckon_109 : decode cX6_reckon 109 = .ok (.iaload, 1) := by decide +kernel
theorem dX6_reckon_110 : decode cX6_reckon 110 = .ok (.iadd, 1) := by decide +kernel
theorem dX6_reckon_111 : decode cX6_reckon 111 = .ok (.aload_n 0, 1) := by decide +kernel
theorem dX6_reckon_112 : decode cX6_reckon 112 = .ok (.getfield 16, 3) := by decide +kernel
theorem dX6_reckon_115 : decode cX6_reckon 115 = .ok (.iload 10, 2) := by decide +kernel
theorem dX6_reckon_117 : decode cX6_reckon 117 = .ok (.iaload, 1) := by decide +kernel
theorem dX6_reckon_118 : decode cX6_reckon 118 = .ok (.if_icmp .ge 25, 3) := by decide +kernel
theorem dX6_reckon_121 : decode cX6_reckon 121 = .ok (.aload_n 0, 1) := by decide +kernel
theorem dX6_reckon_122 : decode cX6_reckon 122 = .ok (.getfield 16, 3) := by decide +kernel
theorem dX6_reckon_125 : decode cX6_reckon 125 = .ok (.iload 10, 2) := by decide +kernel
theorem dX6_reckon_127 : decode cX6_reckon 127 = .ok (.aload_n 0, 1) := by decide +kernel
theorem dX6_reckon_128 : decode cX6_reckon 128 = .ok (.getfield 16, 3) := by decide +kernel
theorem dX6_reckon_131 : decode cX6_reckon 131 = .ok (.iload 9, 2) := by decide +kernel
theorem dX6_reckon_133 : decode cX6_reckon 133 = .ok (.iaload, 1) := by decide +kernel
theorem dX6_reckon_134 : decode cX6_reckon 134 = .ok (.aload_n 3, 1) := by decide +kernel
theorem dX6_reckon_135 : decode cX6_reckon 135 = .ok (.iload 7, 2) := by decide +kernel
theorem dX6_reckon_137 : decode cX6_reckon 137 = .ok (.iaload, 1) := by decide +kernel
theorem dX6_reckon_138 : decode cX6_reckon 138 = .ok (.iadd, 1) := by decide +kernel
theorem dX6_reckon_139 : decode cX6_reckon 139 = .ok (.iastore, 1) := by decide +kernel
theorem dX6_reckon_140 : decode cX6_reckon 140 = .ok (.iconst 1, 1) := by decide +kernel
theorem dX6_reckon_141 : decode cX6_reckon 141 = .ok (.istore 4, 2) := by decide +kernel
theorem dX6_reckon_143 : decode cX6_reckon 143 = .ok (.iinc 7 1, 3) := by decide +kernel
theorem dX6_reckon_146 : decode cX6_reckon 146 = .ok (.goto (-92), 3) := by decide +kernel
theorem dX6_reckon_149 : decode cX6_reckon 149 = .ok (.iinc 6 1, 3) := by decide +kernel
theorem dX6_reckon_152 : decode cX6_reckon 152 = .ok (.goto (-110), 3) := by decide +kernel
theorem dX6_reckon_155 : decode cX6_reckon 155 = .ok (.iinc 5 1, 3) := by decide +kernel
theorem dX6_reckon_158 : decode cX6_reckon 158 = .ok (.goto (-136), 3) := by decide +kernel
theorem dX6_reckon_161 : decode cX6_reckon 161 = .ok (.return_, 1) := by decide +kernel
theorem dX6_stepOf_0 : decode cX6_stepOf 0 = .ok (.iload_n 1, 1) := by decide +kernel
theorem dX6_stepOf_1 : decode cX6_stepOf 1 = .ok (.istore 5, 2) := by decide +kernel
theorem dX6_stepOf_3 : decode cX6_stepOf 3 = .ok (.iconst 0, 1) := by decide +kernel
theorem dX6_stepOf_4 : decode cX6_stepOf 4 = .ok (.istore 6, 2) := by decide +kernel
theorem dX6_stepOf_6 : decode cX6_stepOf 6 = .ok (.iload 5, 2) := by decide +kernel
theorem dX6_stepOf_8 : decode cX6_stepOf 8 = .ok (.iload_n 2, 1) := by decide +kernel
theorem dX6_stepOf_9 : decode cX6_stepOf 9 = .ok (.if_icmp .eq 49, 3) := by decide +kernel
theorem dX6_stepOf_12 : decode cX6_stepOf 12 = .ok (.iload 6, 2) := by decide +kernel
theorem dX6_stepOf_14 : decode cX6_stepOf 14 = .ok (.aload_n 0, 1) := by decide +kernel
theorem dX6_stepOf_15 : decode cX6_stepOf 15 = .ok (.getfield 32, 3) := by decide +kernel
theorem dX6_stepOf_18 : decode cX6_stepOf 18 = .ok (.if_icmp .ge 40, 3) := by decide +kernel
theorem dX6_stepOf_21 : decode cX6_stepOf 21 = .ok (.aload_n 0, 1) := by decide +kernel
theorem dX6_stepOf_22 : decode cX6_stepOf 22 = .ok (.iload 5, 2) := by decide +kernel
theorem dX6_stepOf_24 : decode cX6_stepOf 24 = .ok (.aload 4, 2) := by decide +kernel
theorem dX6_stepOf_26 : decode cX6_stepOf 26 = .ok (.invokevirtual 47, 3) := by decide +kernel
theorem dX6_stepOf_29 : decode cX6_stepOf 29 = .ok (.istore 7, 2) := by decide +kernel
theorem dX6_stepOf_31 : decode cX6_stepOf 31 = .ok (.iload 6, 2) := by decide +kernel
theorem dX6_stepOf_33 : decode cX6_stepOf 33 = .ok (.iload_n 3, 1) := by decide +kernel
theorem dX6_stepOf_34 : decode cX6_stepOf 34 = .ok (.if_icmp .ne 6, 3) := by decide +kernel
theorem dX6_stepOf_37 : decode cX6_stepOf 37 = .ok (.iload 7, 2) := by decide +kernel
theorem dX6_stepOf_39 : decode cX6_stepOf 39 = .ok (.ireturn, 1) := by decide +kernel
theorem dX6_stepOf_40 : decode cX6_stepOf 40 = .ok (.aload_n 0, 1) := by decide +kernel
theorem dX6_stepOf_41 : decode cX6_stepOf 41 = .ok (.getfield 11, 3) := by decide +kernel
theorem dX6_stepOf_44 : decode cX6_stepOf 44 = .ok (.iload 7, 2) := by decide +kernel
theorem dX6_stepOf_46 : decode cX6_stepOf 46 = .ok (.aaload, 1) := by decide +kernel
theorem dX6_stepOf_47 : decode cX6_stepOf 47 = .ok (.iload 5, 2) := by decide +kernel
theorem dX6_stepOf_49 : decode cX6_stepOf 49 = .ok (.iaload, 1) := by decide +kernel
theorem dX6_stepOf_50 : decode cX6_stepOf 50 = .ok (.istore 5, 2) := by decide +kernel
theorem dX6_stepOf_52 : decode cX6_stepOf 52 = .ok (.iinc 6 1, 3) := by decide +kernel
theorem dX6_stepOf_55 : decode cX6_stepOf 55 = .ok (.goto (-49), 3) := by decide +kernel
theorem dX6_stepOf_58 : decode cX6_stepOf 58 = .ok (.iload_n 3, 1) := by decide +kernel
theorem dX6_stepOf_59 : decode cX6_stepOf 59 = .ok (.iconst (-1), 1) := by decide +kernel
theorem dX6_stepOf_60 : decode cX6_stepOf 60 = .ok (.if_icmp .ne 8, 3) := by decide +kernel
theorem dX6_stepOf_63 : decode cX6_stepOf 63 = .ok (.iload 6, 2) := by decide +kernel
theorem dX6_stepOf_65 : decode cX6_stepOf 65 = .ok (.goto 5, 3) := by decide +kernel
theorem dX6_stepOf_68 : decode cX6_stepOf 68 = .ok (.bipush (-4), 2) := by decide +kernel
theorem dX6_stepOf_70 : decode cX6_stepOf 70 = .ok (.ireturn, 1) := by decide +kernel
theorem dX6_firstOnWay_0 : decode cX6_firstOnWay 0 = .ok (.iconst 0, 1) := by decide +kernel
theorem dX6_firstOnWay_1 : decode cX6_firstOnWay 1 = .ok (.istore_n 3, 1) := by decide +kernel
theorem dX6_firstOnWay_2 : decode cX6_firstOnWay 2 = .ok (.iload_n 3, 1) := by decide +kernel
theorem dX6_firstOnWay_3 : decode cX6_firstOnWay 3 = .ok (.bipush 6, 2) := by decide +kernel
theorem dX6_firstOnWay_5 : decode cX6_firstOnWay 5 = .ok (.if_icmp .ge 35, 3) := by decide +kernel
theorem dX6_firstOnWay_8 : decode cX6_firstOnWay 8 = .ok (.aload_n 0, 1) := by decide +kernel
theorem dX6_firstOnWay_9 : decode cX6_firstOnWay 9 = .ok (.getfield 16, 3) := by decide +kernel
theorem dX6_firstOnWay_12 : decode cX6_firstOnWay 12 = .ok (.aload_n 0, 1) := by decide +kernel
theorem dX6_firstOnWay_13 : decode cX6_firstOnWay 13 = .ok (.getfield 11, 3) := by decide +kernel
theorem dX6_firstOnWay_16 : decode cX6_firstOnWay 16 = .ok (.iload_n 3, 1) := by decide +kernel
theorem dX6_firstOnWay_17 : decode cX6_firstOnWay 17 = .ok (.aaload, 1) := by decide +kernel
theorem dX6_firstOnWay_18 : decode cX6_firstOnWay 18 = .ok (.iload_n 1, 1) := by decide +kernel
theorem dX6_firstOnWay_19 : decode cX6_firstOnWay 19 = .ok (.iaload, 1) := by decide +kernel
theorem dX6_firstOnWay_20 : decode cX6_firstOnWay 20 = .ok (.iaload, 1) := by decide +kernel
theorem dX6_firstOnWay_21 : decode cX6_firstOnWay 21 = .ok (.aload_n 2, 1) := by decide +kernel
theorem dX6_firstOnWay_22 : decode cX6_firstOnWay 22 = .ok (.iload_n 3, 1) := by decide +kernel
theorem dX6_firstOnWay_23 : decode cX6_firstOnWay 23 = .ok (.iaload, 1) := by decide +kernel
theorem dX6_firstOnWay_24 : decode cX6_firstOnWay 24 = .ok (.iadd, 1) := by decide +kernel
theorem dX6_firstOnWay_25 : decode cX6_firstOnWay 25 = .ok (.aload_n 0, 1) := by decide +kernel
theorem dX6_firstOnWay_26 : decode cX6_firstOnWay 26 = .ok (.getfield 16, 3) := by decide +kernel
theorem dX6_firstOnWay_29 : decode cX6_firstOnWay 29 = .ok (.iload_n 1, 1) := by decide +kernel
theorem dX6_firstOnWay_30 : decode cX6_firstOnWay 30 = .ok (.iaload, 1) := by decide +kernel
theorem dX6_firstOnWay_31 : decode cX6_firstOnWay 31 = .ok (.if_icmp .eq 9, 3) := by decide +kernel
theorem dX6_firstOnWay_34 : decode cX6_firstOnWay 34 = .ok (.iinc 3 1, 3) := by decide +kernel
theorem dX6_firstOnWay_37 : decode cX6_firstOnWay 37 = .ok (.goto (-35), 3) := by decide +kernel
theorem dX6_firstOnWay_40 : decode cX6_firstOnWay 40 = .ok (.iload_n 3, 1) := by decide +kernel
theorem dX6_firstOnWay_41 : decode cX6_firstOnWay 41 = .ok (.ireturn, 1) := by decide +kernel
theorem dX6_dearest_0 : decode cX6_dearest 0 = .ok (.iconst 0, 1) := by decide +kernel
theorem dX6_dearest_1 : decode cX6_dearest 1 = .ok (.istore_n 1, 1) := by decide +kernel
theorem dX6_dearest_2 : decode cX6_dearest 2 = .ok (.iconst 1, 1) := by decide +kernel
theorem dX6_dearest_3 : decode cX6_dearest 3 = .ok (.istore_n 2, 1) := by decide +kernel
theorem dX6_dearest_4 : decode cX6_dearest 4 = .ok (.iload_n 2, 1) := by decide +kernel
theorem dX6_dearest_5 : decode cX6_dearest 5 = .ok (.aload_n 0, 1) := by decide +kernel
theorem dX6_dearest_6 : decode cX6_dearest 6 = .ok (.getfield 32, 3) := by decide +kernel
theorem dX6_dearest_9 : decode cX6_dearest 9 = .ok (.if_icmp .ge 26, 3) := by decide +kernel
theorem dX6_dearest_12 : decode cX6_dearest 12 = .ok (.aload_n 0, 1) := by decide +kernel
theorem dX6_dearest_13 : decode cX6_dearest 13 = .ok (.getfield 16, 3) := by decide +kernel
theorem dX6_dearest_16 : decode cX6_dearest 16 = .ok (.iload_n 2, 1) := by decide +kernel
theorem dX6_dearest_17 : decode cX6_dearest 17 = .ok (.iaload, 1) := by decide +kernel
theorem dX6_dearest_18 : decode cX6_dearest 18 = .ok (.aload_n 0, 1) := by decide +kernel
theorem dX6_dearest_19 : decode cX6_dearest 19 = .ok (.getfield 16, 3) := by decide +kernel
theorem dX6_dearest_22 : decode cX6_dearest 22 = .ok (.iload_n 1, 1) := by decide +kernel
theorem dX6_dearest_23 : decode cX6_dearest 23 = .ok (.iaload, 1) := by decide +kernel
theorem dX6_dearest_24 : decode cX6_dearest 24 = .ok (.if_icmp .le 5, 3) := by decide +kernel
theorem dX6_dearest_27 : decode cX6_dearest 27 = .ok (.iload_n 2, 1) := by decide +kernel
theorem dX6_dearest_28 : decode cX6_dearest 28 = .ok (.istore_n 1, 1) := by decide +kernel
theorem dX6_dearest_29 : decode cX6_dearest 29 = .ok (.iinc 2 1, 3) := by decide +kernel
theorem dX6_dearest_32 : decode cX6_dearest 32 = .ok (.goto (-28), 3) := by decide +kernel
theorem dX6_dearest_35 : decode cX6_dearest 35 = .ok (.iload_n 1, 1) := by decide +kernel
theorem dX6_dearest_36 : decode cX6_dearest 36 = .ok (.ireturn, 1) := by decide +kernel
theorem dX6_rowsTo_0 : decode cX6_rowsTo 0 = .ok (.aload_n 0, 1) := by decide +kernel
theorem dX6_rowsTo_1 : decode cX6_rowsTo 1 = .ok (.getfield 20, 3) := by decide +kernel
theorem dX6_rowsTo_4 : decode cX6_rowsTo 4 = .ok (.iconst 0, 1) := by decide +kernel
theorem dX6_rowsTo_5 : decode cX6_rowsTo 5 = .ok (.invokestatic 41, 3) := by decide +kernel
theorem dX6_rowsTo_8 : decode cX6_rowsTo 8 = .ok (.aload_n 0, 1) := by decide +kernel
theorem dX6_rowsTo_9 : decode cX6_rowsTo 9 = .ok (.getfield 20, 3) := by decide +kernel
theorem dX6_rowsTo_12 : decode cX6_rowsTo 12 = .ok (.iload_n 2, 1) := by decide +kernel
theorem dX6_rowsTo_13 : decode cX6_rowsTo 13 = .ok (.iconst 1, 1) := by decide +kernel
theorem dX6_rowsTo_14 : decode cX6_rowsTo 14 = .ok (.iastore, 1) := by decide +kernel
theorem dX6_rowsTo_15 : decode cX6_rowsTo 15 = .ok (.iconst 0, 1) := by decide +kernel
theorem dX6_rowsTo_16 : decode cX6_rowsTo 16 = .ok (.istore 4, 2) := by decide +kernel
theorem dX6_rowsTo_18 : decode cX6_rowsTo 18 = .ok (.iload 4, 2) := by decide +kernel
theorem dX6_rowsTo_20 : decode cX6_rowsTo 20 = .ok (.iload_n 3, 1) := by decide +kernel
theorem dX6_rowsTo_21 : decode cX6_rowsTo 21 = .ok (.if_icmp .ge 91, 3) := by decide +kernel
theorem dX6_rowsTo_24 : decode cX6_rowsTo 24 = .ok (.aload_n 0, 1) := by decide +kernel
theorem dX6_rowsTo_25 : decode cX6_rowsTo 25 = .ok (.getfield 23, 3) := by decide +kernel
theorem dX6_rowsTo_28 : decode cX6_rowsTo 28 = .ok (.iconst 0, 1) := by decide +kernel
theorem dX6_rowsTo_29 : decode cX6_rowsTo 29 = .ok (.invokestatic 41, 3) := by decide +kernel
theorem dX6_rowsTo_32 : decode cX6_rowsTo 32 = .ok (.iconst 0, 1) := by decide +kernel
theorem dX6_rowsTo_33 : decode cX6_rowsTo 33 = .ok (.istore 5, 2) := by decide +kernel
theorem dX6_rowsTo_35 : decode cX6_rowsTo 35 = .ok (.iload 5, 2) := by decide +kernel
theorem dX6_rowsTo_37 : decode cX6_rowsTo 37 = .ok (.aload_n 0, 1) := by decide +kernel
theorem dX6_rowsTo_38 : decode cX6_rowsTo 38 = .ok (.getfield 32, 3) := by decide +kernel
theorem dX6_rowsTo_41 : decode cX6_rowsTo 41 = .ok (.if_icmp .ge 50, 3) := by decide +kernel
theorem dX6_rowsTo_44 : decode cX6_rowsTo 44 = .ok (.iconst 0, 1) := by decide +kernel
theorem dX6_rowsTo_45 : decode cX6_rowsTo 45 = .ok (.istore 6, 2) := by decide +kernel
theorem dX6_rowsTo_47 : decode cX6_rowsTo 47 = .ok (.iload 6, 2) := by decide +kernel
theorem dX6_rowsTo_49 : decode cX6_rowsTo 49 = .ok (.bipush 7, 2) := by decide +kernel
theorem dX6_rowsTo_51 : decode cX6_rowsTo 51 = .ok (.if_icmp .ge 34, 3) := by decide +kernel
theorem dX6_rowsTo_54 : decode cX6_rowsTo 54 = .ok (.aload_n 0, 1) := by decide +kernel
theorem dX6_rowsTo_55 : decode cX6_rowsTo 55 = .ok (.getfield 23, 3) := by decide +kernel
theorem dX6_rowsTo_58 : decode cX6_rowsTo 58 = .ok (.aload_n 0, 1) := by decide +kernel
theorem dX6_rowsTo_59 : decode cX6_rowsTo 59 = .ok (.getfield 11, 3) := by decide +kernel
theorem dX6_rowsTo_62 : decode cX6_rowsTo 62 = .ok (.iload 6, 2) := by decide +kernel
theorem dX6_rowsTo_64 : decode cX6_rowsTo 64 = .ok (.aaload, 1) := by decide +kernel
theorem dX6_rowsTo_65 : decode cX6_rowsTo 65 = .ok (.iload 5, 2) := by decide +kernel
theorem dX6_rowsTo_67 : decode cX6_rowsTo 67 = .ok (.iaload, 1) := by decide +kernel
theorem dX6_rowsTo_68 : decode cX6_rowsTo 68 = .ok (.dup2, 1) := by decide +kernel
theorem dX6_rowsTo_69 : decode cX6_rowsTo 69 = .ok (.iaload, 1) := by decide +kernel
theorem dX6_rowsTo_70 : decode cX6_rowsTo 70 = .ok (.aload_n 0, 1) := by decide +kernel
theorem dX6_rowsTo_71 : decode cX6_rowsTo 71 = .ok (.getfield 20, 3) := by decide +kernel
theorem dX6_rowsTo_74 : decode cX6_rowsTo 74 = .ok (.iload 5, 2) := by decide +kernel
theorem dX6_rowsTo_76 : decode cX6_rowsTo 76 = .ok (.iaload, 1) := by decide +kernel
theorem dX6_rowsTo_77 : decode cX6_rowsTo 77 = .ok (.iadd, 1) := by decide +kernel
theorem dX6_rowsTo_78 : decode cX6_rowsTo 78 = .ok (.iastore, 1) := by decide +kernel
theorem dX6_rowsTo_79 : decode cX6_rowsTo 79 = .ok (.iinc 6 1, 3) := by decide +kernel
theorem dX6_rowsTo_82 : decode cX6_rowsTo 82 = .ok (.goto (-35), 3) := by decide +kernel
theorem dX6_rowsTo_85 : decode cX6_rowsTo 85 = .ok (.iinc 5 1, 3) := by decide +kernel
theorem dX6_rowsTo_88 : decode cX6_rowsTo 88 = .ok (.goto (-53), 3) := by decide +kernel
theorem dX6_rowsTo_91 : decode cX6_rowsTo 91 = .ok (.aload_n 0, 1) := by decide +kernel
theorem dX6_rowsTo_92 : decode cX6_rowsTo 92 = .ok (.getfield 23, 3) := by decide +kernel
theorem dX6_rowsTo_95 : decode cX6_rowsTo 95 = .ok (.iconst 0, 1) := by decide +kernel
theorem dX6_rowsTo_96 : decode cX6_rowsTo 96 = .ok (.aload_n 0, 1) := by decide +kernel
theorem dX6_rowsTo_97 : decode cX6_rowsTo 97 = .ok (.getfield 20, 3) := by decide +kernel
theorem dX6_rowsTo_100 : decode cX6_rowsTo 100 = .ok (.iconst 0, 1) := by decide +kernel
theorem dX6_rowsTo_101 : decode cX6_rowsTo 101 = .ok (.bipush 60, 2) := by decide +kernel
theorem dX6_rowsTo_103 : decode cX6_rowsTo 103 = .ok (.invokestatic 51, 3) := by decide +kernel
theorem dX6_rowsTo_106 : decode cX6_rowsTo 106 = .ok (.iinc 4 1, 3) := by decide +kernel
theorem dX6_rowsTo_109 : decode cX6_rowsTo 109 = .ok (.goto (-91), 3) := by decide +kernel
theorem dX6_rowsTo_112 : decode cX6_rowsTo 112 = .ok (.aload_n 0, 1) := by decide +kernel
theorem dX6_rowsTo_113 : decode cX6_rowsTo 113 = .ok (.getfield 20, 3) := by decide +kernel
theorem dX6_rowsTo_116 : decode cX6_rowsTo 116 = .ok (.iload_n 1, 1) := by decide +kernel
theorem dX6_rowsTo_117 : decode cX6_rowsTo 117 = .ok (.iaload, 1) := by decide +kernel
theorem dX6_rowsTo_118 : decode cX6_rowsTo 118 = .ok (.ireturn, 1) := by decide +kernel
theorem dX7_init_0 : decode cX7_init 0 = .ok (.aload_n 0, 1) := by decide +kernel
theorem dX7_init_1 : decode cX7_init 1 = .ok (.invokespecial 1, 3) := by decide +kernel
theorem dX7_init_4 : decode cX7_init 4 = .ok (.aload_n 0, 1) := by decide +kernel
theorem dX7_init_5 : decode cX7_init 5 = .ok (.bipush 60, 2) := by decide +kernel
theorem dX7_init_7 : decode cX7_init 7 = .ok (.newarray .int, 2) := by decide +kernel
theorem dX7_init_9 : decode cX7_init 9 = .ok (.putfield 9, 3) := by decide +kernel
theorem dX7_init_12 : decode cX7_init 12 = .ok (.aload_n 0, 1) := by decide +kernel
theorem dX7_init_13 : decode cX7_init 13 = .ok (.new 13, 3) := by decide +kernel
theorem dX7_init_16 : decode cX7_init 16 = .ok (.dup, 1) := by decide +kernel
theorem dX7_init_17 : decode cX7_init 17 = .ok (.invokespecial 15, 3) := by decide +kernel
theorem dX7_init_20 : decode cX7_init 20 = .ok (.putfield 16, 3) := by decide +kernel
theorem dX7_init_23 : decode cX7_init 23 = .ok (.aload_n 0, 1) := by decide +kernel
theorem dX7_init_24 : decode cX7_init 24 = .ok (.new 13, 3) := by decide +kernel
theorem dX7_init_27 : decode cX7_init 27 = .ok (.dup, 1) := by decide +kernel
theorem dX7_init_28 : decode cX7_init 28 = .ok (.invokespecial 15, 3) := by decide +kernel
theorem dX7_init_31 : decode cX7_init 31 = .ok (.putfield 20, 3) := by decide +kernel
theorem dX7_init_34 : decode cX7_init 34 = .ok (.aload_n 0, 1) := by decide +kernel
theorem dX7_init_35 : decode cX7_init 35 = .ok (.new 23, 3) := by decide +kernel
theorem dX7_init_38 : decode cX7_init 38 = .ok (.dup, 1) := by decide +kernel
theorem dX7_init_39 : decode cX7_init 39 = .ok (.invokespecial 25, 3) := by decide +kernel
theorem dX7_init_42 : decode cX7_init 42 = .ok (.putfield 26, 3) := by decide +kernel
theorem dX7_init_45 : decode cX7_init 45 = .ok (.aload_n 0, 1) := by decide +kernel
theorem dX7_init_46 : decode cX7_init 46 = .ok (.iconst 4, 1) := by decide +kernel
theorem dX7_init_47 : decode cX7_init 47 = .ok (.anewarray 30, 3) := by decide +kernel
theorem dX7_init_50 : decode cX7_init 50 = .ok (.putfield 32, 3) := by decide +kernel
theorem dX7_init_53 : decode cX7_init 53 = .ok (.iconst 0, 1) := by decide +kernel
theorem dX7_init_54 : decode cX7_init 54 = .ok (.istore_n 1, 1) := by decide +kernel
theorem dX7_init_55 : decode cX7_init 55 = .ok (.iload_n 1, 1) := by decide +kernel
theorem dX7_init_56 : decode cX7_init 56 = .ok (.iconst 4, 1) := by decide +kernel
theorem dX7_init_57 : decode cX7_init 57 = .ok (.if_icmp .ge 22, 3) := by decide +kernel
theorem dX7_init_60 : decode cX7_init 60 = .ok (.aload_n 0, 1) := by decide +kernel
theorem dX7_init_61 : decode cX7_init 61 = .ok (.getfield 32, 3) := by decide +kernel
theorem dX7_init_64 : decode cX7_init 64 = .ok (.iload_n 1, 1) := by decide +kernel
theorem dX7_init_65 : decode cX7_init 65 = .ok (.new 30, 3) := by decide +kernel
theorem dX7_init_68 : decode cX7_init 68 = .ok (.dup, 1) := by decide +kernel
theorem dX7_init_69 : decode cX7_init 69 = .ok (.invokespecial 36, 3) := by decide +kernel
theorem dX7_init_72 : decode cX7_init 72 = .ok (.aastore, 1) := by decide +kernel
theorem dX7_init_73 : decode cX7_init 73 = .ok (.iinc 1 1, 3) := by decide +kernel
theorem dX7_init_76 : decode cX7_init 76 = .ok (.goto (-21), 3) := by decide +kernel
theorem dX7_init_79 : decode cX7_init 79 = .ok (.return_, 1) := by decide +kernel
theorem dX7_type_0 : decode cX7_type 0 = .ok (.iload_n 1, 1) := by decide +kernel
theorem dX7_type_1 : decode cX7_type 1 = .ok (.invokestatic 37, 3) := by decide +kernel
theorem dX7_type_4 : decode cX7_type 4 = .ok (.ifCond .ne 5, 3) := by decide +kernel
theorem dX7_type_7 : decode cX7_type 7 = .ok (.iconst (-1), 1) := by decide +kernel
theorem dX7_type_8 : decode cX7_type 8 = .ok (.ireturn, 1) := by decide +kernel
theorem dX7_type_9 : decode cX7_type 9 = .ok (.aload_n 0, 1) := by decide +kernel
theorem dX7_type_10 : decode cX7_type 10 = .ok (.getfield 41, 3) := by decide +kernel
theorem dX7_type_13 : decode cX7_type 13 = .ok (.bipush 60, 2) := by decide +kernel
theorem dX7_type_15 : decode cX7_type 15 = .ok (.if_icmp .lt 6, 3) := by decide +kernel
theorem dX7_type_18 : decode cX7_type 18 = .ok (.bipush (-3), 2) := by decide +kernel
theorem dX7_type_20 : decode cX7_type 20 = .ok (.ireturn, 1) := by decide +kernel
theorem dX7_type_21 : decode cX7_type 21 = .ok (.aload_n 0, 1) := by decide +kernel
theorem dX7_type_22 : decode cX7_type 22 = .ok (.getfield 9, 3) := by decide +kernel
theorem dX7_type_25 : decode cX7_type 25 = .ok (.aload_n 0, 1) := by decide +kernel
theorem dX7_type_26 : decode cX7_type 26 = .ok (.getfield 41, 3) := by decide +kernel
theorem dX7_type_29 : decode cX7_type 29 = .ok (.iload_n 1, 1) := by decide +kernel
theorem dX7_type_30 : decode cX7_type 30 = .ok (.iastore, 1) := by decide +kernel
theorem dX7_type_31 : decode cX7_type 31 = .ok (.aload_n 0, 1) := by decide +kernel
theorem dX7_type_32 : decode cX7_type 32 = .ok (.dup, 1) := by decide +kernel
theorem dX7_type_33 : decode cX7_type 33 = .ok (.getfield 41, 3) := by decide +kernel
theorem dX7_type_36 : decode cX7_type 36 = .ok (.iconst 1, 1) := by decide +kernel
theorem dX7_type_37 : decode cX7_type 37 = .ok (.iadd, 1) := by decide +kernel
theorem dX7_type_38 : decode cX7_type 38 = .ok (.putfield 41, 3) := by decide +kernel
theorem dX7_type_41 : decode cX7_type 41 = .ok (.aload_n 0, 1) := by decide +kernel
theorem dX7_type_42 : decode cX7_type 42 = .ok (.getfield 41, 3) := by decide +kernel
theorem dX7_type_45 : decode cX7_type 45 = .ok (.ireturn, 1) := by decide +kernel
theorem dX7_line_0 : decode cX7_line 0 = .ok (.aload_n 0, 1) := by decide +kernel
theorem dX7_line_1 : decode cX7_line 1 = .ok (.getfield 16, 3) := by decide +kernel
theorem dX7_line_4 : decode cX7_line 4 = .ok (.aload_n 0, 1) := by decide +kernel
theorem dX7_line_5 : decode cX7_line 5 = .ok (.getfield 9, 3) := by decide +kernel
theorem dX7_line_8 : decode cX7_line 8 = .ok (.aload_n 0, 1) := by decide +kernel
theorem dX7_line_9 : decode cX7_line 9 = .ok (.getfield 41, 3) := by decide +kernel
theorem dX7_line_12 : decode cX7_line 12 = .ok (.invokevirtual 45, 3) := by decide +kernel
theorem dX7_line_15 : decode cX7_line 15 = .ok (.aload_n 0, 1) := by decide +kernel
theorem dX7_line_16 : decode cX7_line 16 = .ok (.iconst 0, 1) := by decide +kernel
theorem dX7_line_17 : decode cX7_line 17 = .ok (.putfield 41, 3) := by decide +kernel
theorem dX7_line_20 : decode cX7_line 20 = .ok (.aload_n 0, 1) := by decide +kernel
theorem dX7_line_21 : decode cX7_line 21 = .ok (.getfield 16, 3) := by decide +kernel
theorem dX7_line_24 : decode cX7_line 24 = .ok (.getfield 49, 3) := by decide +kernel
theorem dX7_line_27 : decode cX7_line 27 = .ok (.getfield 53, 3) := by decide +kernel
theorem dX7_line_30 : decode cX7_line 30 = .ok (.ireturn, 1) := by decide +kernel
theorem dX7_letter_0 : decode cX7_letter 0 = .ok (.aload_n 0, 1) := by decide +kernel
theorem dX7_letter_1 : decode cX7_letter 1 = .ok (.getfield 16, 3) := by decide +kernel
theorem dX7_letter_4 : decode cX7_letter 4 = .ok (.getfield 49, 3) := by decide +kernel
theorem dX7_letter_7 : decode cX7_letter 7 = .ok (.iload_n 1, 1) := by decide +kernel
theorem dX7_letter_8 : decode cX7_letter 8 = .ok (.invokevirtual 58, 3) := by decide +kernel
theorem dX7_letter_11 : decode cX7_letter 11 = .ok (.ifCond .eq 17, 3) := by decide +kernel
theorem dX7_letter_14 : decode cX7_letter 14 = .ok (.aload_n 0, 1) := by decide +kernel
theorem dX7_letter_15 : decode cX7_letter 15 = .ok (.getfield 16, 3) := by decide +kernel
theorem dX7_letter_18 : decode cX7_letter 18 = .ok (.getfield 49, 3) := by decide +kernel
theorem dX7_letter_21 : decode cX7_letter 21 = .ok (.iload_n 1, 1) := by decide +kernel
theorem dX7_letter_22 : decode cX7_letter 22 = .ok (.invokevirtual 61, 3) := by decide +kernel
theorem dX7_letter_25 : decode cX7_letter 25 = .ok (.goto 4, 3) := by decide +kernel
theorem dX7_letter_28 : decode cX7_letter 28 = .ok (.iconst (-1), 1) := by decide +kernel
theorem dX7_letter_29 : decode cX7_letter 29 = .ok (.ireturn, 1) := by decide +kernel
theorem dX7_store_0 : decode cX7_store 0 = .ok (.iload_n 1, 1) := by decide +kernel
theorem dX7_store_1 : decode cX7_store 1 = .ok (.ifCond .lt 26, 3) := by decide +kernel
theorem dX7_store_4 : decode cX7_store 4 = .ok (.iload_n 1, 1) := by decide +kernel
theorem dX7_store_5 : decode cX7_store 5 = .ok (.aload_n 0, 1) := by decide +kernel
theorem dX7_store_6 : decode cX7_store 6 = .ok (.getfield 16, 3) := by decide +kernel
theorem dX7_store_9 : decode cX7_store 9 = .ok (.getfield 65, 3) := by decide +kernel
theorem dX7_store_12 : decode cX7_store 12 = .ok (.if_icmp .ge 15, 3) := by decide +kernel
theorem dX7_store_15 : decode cX7_store 15 = .ok (.aload_n 0, 1) := by decide +kernel
theorem dX7_store_16 : decode cX7_store 16 = .ok (.getfield 16, 3) := by decide +kernel
theorem dX7_store_19 : decode cX7_store 19 = .ok (.getfield 68, 3) := by decide +kernel
theorem dX7_store_22 : decode cX7_store 22 = .ok (.iload_n 1, 1) := by decide +kernel
theorem dX7_store_23 : decode cX7_store 23 = .ok (.iaload, 1) := by decide +kernel
theorem dX7_store_24 : decode cX7_store 24 = .ok (.goto 4, 3) := by decide +kernel
theorem dX7_store_27 : decode cX7_store 27 = .ok (.iconst (-1), 1) := by decide +kernel
theorem dX7_store_28 : decode cX7_store 28 = .ok (.ireturn, 1) := by decide +kernel
theorem dX7_mark_0 : decode cX7_mark 0 = .ok (.iload_n 1, 1) := by decide +kernel
theorem dX7_mark_1 : decode cX7_mark 1 = .ok (.ifCond .lt 8, 3) := by decide +kernel
theorem dX7_mark_4 : decode cX7_mark 4 = .ok (.iload_n 1, 1) := by decide +kernel
theorem dX7_mark_5 : decode cX7_mark 5 = .ok (.iconst 4, 1) := by decide +kernel
theorem dX7_mark_6 : decode cX7_mark 6 = .ok (.if_icmp .lt 5, 3) := by decide +kernel
theorem dX7_mark_9 : decode cX7_mark 9 = .ok (.iconst (-1), 1) := by decide +kernel
theorem dX7_mark_10 : decode cX7_mark 10 = .ok (.ireturn, 1) := by decide +kernel
theorem dX7_mark_11 : decode cX7_mark 11 = .ok (.aload_n 0, 1) := by decide +kernel
theorem dX7_mark_12 : decode cX7_mark 12 = .ok (.getfield 16, 3) := by decide +kernel
theorem dX7_mark_15 : decode cX7_mark 15 = .ok (.getfield 71, 3) := by decide +kernel
theorem dX7_mark_18 : decode cX7_mark 18 = .ok (.iload_n 1, 1) := by decide +kernel
theorem dX7_mark_19 : decode cX7_mark 19 = .ok (.iaload, 1) := by decide +kernel
theorem dX7_mark_20 : decode cX7_mark 20 = .ok (.iconst (-1), 1) := by decide +kernel
theorem dX7_mark_21 : decode cX7_mark 21 = .ok (.if_icmp .ne 8, 3) := by decide +kernel
theorem dX7_mark_24 : decode cX7_mark 24 = .ok (.bipush (-4), 2) := by decide +kernel
theorem dX7_mark_26 : decode cX7_mark 26 = .ok (.goto 12, 3) := by decide +kernel
theorem dX7_mark_29 : decode cX7_mark 29 = .ok (.aload_n 0, 1) := by decide +kernel
theorem dX7_mark_30 : decode cX7_mark 30 = .ok (.getfield 16, 3) := by decide +kernel
theorem dX7_mark_33 : decode cX7_mark 33 = .ok (.getfield 71, 3) := by decide +kernel
theorem dX7_mark_36 : decode cX7_mark 36 = .ok (.iload_n 1, 1) := by decide +kernel
theorem dX7_mark_37 : decode cX7_mark 37 = .ok (.iaload, 1) := by decide +kernel
theorem dX7_mark_38 : decode cX7_mark 38 = .ok (.ireturn, 1) := by decide +kernel
theorem dX7_count_0 : decode cX7_count 0 = .ok (.iload_n 1, 1) := by decide +kernel
theorem dX7_count_1 : decode cX7_count 1 = .ok (.tableswitch 154 0 8 #[51, 62, 73, 89, 105, 113, 121, 132, 143], 51) := by decide +kernel
theorem dX7_count_52 : decode cX7_count 52 = .ok (.aload_n 0, 1) := by decide +kernel
theorem dX7_count_53 : decode cX7_count 53 = .ok (.getfield 16, 3) := by decide +kernel
theorem dX7_count_56 : decode cX7_count 56 = .ok (.getfield 49, 3) := by decide +kernel
theorem dX7_count_59 : decode cX7_count 59 = .ok (.getfield 53, 3) := by decide +kernel
theorem dX7_count_62 : decode cX7_count 62 = .ok (.ireturn, 1) := by decide +kernel
theorem dX7_count_63 : decode cX7_count 63 = .ok (.aload_n 0, 1) := by decide +kernel
theorem dX7_count_64 : decode cX7_count 64 = .ok (.getfield 16, 3) := by decide +kernel
theorem dX7_count_67 : decode cX7_count 67 = .ok (.getfield 49, 3) := by decide +kernel
theorem dX7_count_70 : decode cX7_count 70 = .ok (.getfield 74, 3) := by decide +kernel
theorem dX7_count_73 : decode cX7_count 73 = .ok (.ireturn, 1) := by decide +kernel
theorem dX7_count_74 : decode cX7_count 74 = .ok (.aload_n 0, 1) := by decide +kernel
theorem dX7_count_75 : decode cX7_count 75 = .ok (.getfield 16, 3) := by decide +kernel
theorem dX7_count_78 : decode cX7_count 78 = .ok (.getfield 77, 3) := by decide +kernel
theorem dX7_count_81 : decode cX7_count 81 = .ok (.ifCond .eq 7, 3) := by decide +kernel
theorem dX7_count_84 : decode cX7_count 84 = .ok (.iconst 1, 1) := by decide +kernel
theorem dX7_count_85 : decode cX7_count 85 = .ok (.goto 4, 3) := by decide +kernel
theorem dX7_count_88 : decode cX7_count 88 = .ok (.iconst 0, 1) := by decide +kernel
theorem dX7_count_89 : decode cX7_count 89 = .ok (.ireturn, 1) := by decide +kernel
theorem dX7_count_90 : decode cX7_count 90 = .ok (.aload_n 0, 1) := by decide +kernel
theorem dX7_count_91 : decode cX7_count 91 = .ok (.getfield 16, 3) := by decide +kernel
theorem dX7_count_94 : decode cX7_count 94 = .ok (.invokevirtual 81, 3) := by decide +kernel
theorem dX7_count_97 : decode cX7_count 97 = .ok (.ifCond .eq 7, 3) := by decide +kernel
theorem dX7_count_100 : decode cX7_count 100 = .ok (.iconst 1, 1) := by decide +kernel
theorem dX7_count_101 : decode cX7_count 101 = .ok (.goto 4, 3) := by decide +kernel
theorem dX7_count_104 : decode cX7_count 104 = .ok (.iconst 0, 1) := by decide +kernel
theorem dX7_count_105 : decode cX7_count 105 = .ok (.ireturn, 1) := by decide +kernel
theorem dX7_count_106 : decode cX7_count 106 = .ok (.aload_n 0, 1) := by decide +kernel
theorem dX7_count_107 : decode cX7_count 107 = .ok (.getfield 16, 3) := by decide +kernel
theorem dX7_count_110 : decode cX7_count 110 = .ok (.getfield 65, 3) := by decide +kernel
theorem dX7_count_113 : decode cX7_count 113 = .ok (.ireturn, 1) := by decide +kernel
theorem dX7_count_114 : decode cX7_count 114 = .ok (.aload_n 0, 1) := by decide +kernel
theorem dX7_count_115 : decode cX7_count 115 = .ok (.getfield 16, 3) := by decide +kernel
theorem dX7_count_118 : decode cX7_count 118 = .ok (.invokevirtual 85, 3) := by decide +kernel
theorem dX7_count_121 : decode cX7_count 121 = .ok (.ireturn, 1) := by decide +kernel
theorem dX7_count_122 : decode cX7_count 122 = .ok (.aload_n 0, 1) := by decide +kernel
theorem dX7_count_123 : decode cX7_count 123 = .ok (.getfield 16, 3) := by decide +kernel
theorem dX7_count_126 : decode cX7_count 126 = .ok (.getfield 89, 3) := by decide +kernel
theorem dX7_count_129 : decode cX7_count 129 = .ok (.getfield 93, 3) := by decide +kernel
theorem dX7_count_132 : decode cX7_count 132 = .ok (.ireturn, 1) := by decide +kernel
theorem dX7_count_133 : decode cX7_count 133 = .ok (.aload_n 0, 1) := by decide +kernel
theorem dX7_count_134 : decode cX7_count 134 = .ok (.getfield 16, 3) := by decide +kernel
theorem dX7_count_137 : decode cX7_count 137 = .ok (.getfield 49, 3) := by decide +kernel
theorem dX7_count_140 : decode cX7_count 140 = .ok (.invokevirtual 98, 3) := by decide +kernel
theorem dX7_count_143 : decode cX7_count 143 = .ok (.ireturn, 1) := by decide +kernel
theorem dX7_count_144 : decode cX7_count 144 = .ok (.aload_n 0, 1) := by decide +kernel
theorem dX7_count_145 : decode cX7_count 145 = .ok (.getfield 16, 3) := by decide +kernel
theorem dX7_count_148 : decode cX7_count 148 = .ok (.getfield 101, 3) := by decide +kernel
theorem dX7_count_151 : decode cX7_count 151 = .ok (.getfield 105, 3) := by decide +kernel
theorem dX7_count_154 : decode cX7_count 154 = .ok (.ireturn, 1) := by decide +kernel
theorem dX7_count_155 : decode cX7_count 155 = .ok (.iconst (-1), 1) := by decide +kernel
theorem dX7_count_156 : decode cX7_count 156 = .ok (.ireturn, 1) := by decide +kernel
theorem dX7_key_0 : decode cX7_key 0 = .ok (.iload_n 1, 1) := by decide +kernel
theorem dX7_key_1 : decode cX7_key 1 = .ok (.invokestatic 37, 3) := by decide +kernel
theorem dX7_key_4 : decode cX7_key 4 = .ok (.ifCond .eq 14, 3) := by decide +kernel
theorem dX7_key_7 : decode cX7_key 7 = .ok (.aload_n 0, 1) := by decide +kernel
theorem dX7_key_8 : decode cX7_key 8 = .ok (.getfield 16, 3) := by decide +kernel
theorem dX7_key_11 : decode cX7_key 11 = .ok (.iload_n 1, 1) := by decide +kernel
theorem dX7_key_12 : decode cX7_key 12 = .ok (.invokevirtual 108, 3) := by decide +kernel
theorem dX7_key_15 : decode cX7_key 15 = .ok (.goto 4, 3) := by decide +kernel
theorem dX7_key_18 : decode cX7_key 18 = .ok (.iconst (-1), 1) := by decide +kernel
theorem dX7_key_19 : decode cX7_key 19 = .ok (.ireturn, 1) := by decide +kernel
theorem dX7_price_0 : decode cX7_price 0 = .ok (.iload_n 1, 1) := by decide +kernel
theorem dX7_price_1 : decode cX7_price 1 = .ok (.invokestatic 111, 3) := by decide +kernel
theorem dX7_price_4 : decode cX7_price 4 = .ok (.ifCond .eq 14, 3) := by decide +kernel
theorem dX7_price_7 : decode cX7_price 7 = .ok (.iload_n 2, 1) := by decide +kernel
theorem dX7_price_8 : decode cX7_price 8 = .ok (.iconst 1, 1) := by decide +kernel
theorem dX7_price_9 : decode cX7_price 9 = .ok (.if_icmp .lt 9, 3) := by decide +kernel
theorem dX7_price_12 : decode cX7_price 12 = .ok (.iload_n 2, 1) := by decide +kernel
theorem dX7_price_13 : decode cX7_price 13 = .ok (.bipush 9, 2) := by decide +kernel
theorem dX7_price_15 : decode cX7_price 15 = .ok (.if_icmp .le 5, 3) := by decide +kernel
theorem dX7_price_18 : decode cX7_price 18 = .ok (.iconst (-1), 1) := by decide +kernel
theorem dX7_price_19 : decode cX7_price 19 = .ok (.ireturn, 1) := by decide +kernel
theorem dX7_price_20 : decode cX7_price 20 = .ok (.aload_n 0, 1) := by decide +kernel
theorem dX7_price_21 : decode cX7_price 21 = .ok (.getfield 16, 3) := by decide +kernel
theorem dX7_price_24 : decode cX7_price 24 = .ok (.getfield 114, 3) := by decide +kernel
theorem dX7_price_27 : decode cX7_price 27 = .ok (.iload_n 1, 1) := by decide +kernel
theorem dX7_price_28 : decode cX7_price 28 = .ok (.iaload, 1) := by decide +kernel
theorem dX7_price_29 : decode cX7_price 29 = .ok (.istore_n 3, 1) := by decide +kernel
theorem dX7_price_30 : decode cX7_price 30 = .ok (.iload_n 3, 1) := by decide +kernel
theorem dX7_price_31 : decode cX7_price 31 = .ok (.iload_n 2, 1) := by decide +kernel
theorem dX7_price_32 : decode cX7_price 32 = .ok (.if_icmp .ne 6, 3) := by decide +kernel
theorem dX7_price_35 : decode cX7_price 35 = .ok (.bipush (-2), 2) := by decide +kernel
theorem dX7_price_37 : decode cX7_price 37 = .ok (.ireturn, 1) := by decide +kernel
theorem dX7_price_38 : decode cX7_price 38 = .ok (.aload_n 0, 1) := by decide +kernel
theorem dX7_price_39 : decode cX7_price 39 = .ok (.getfield 16, 3) := by decide +kernel
theorem dX7_price_42 : decode cX7_price 42 = .ok (.getfield 114, 3) := by decide +kernel
theorem dX7_price_45 : decode cX7_price 45 = .ok (.iload_n 1, 1) := by decide +kernel
theorem dX7_price_46 : decode cX7_price 46 = .ok (.iload_n 2, 1) := by decide +kernel
theorem dX7_price_47 : decode cX7_price 47 = .ok (.iastore, 1) := by decide +kernel
theorem dX7_price_48 : decode cX7_price 48 = .ok (.iload_n 3, 1) := by decide +kernel
theorem dX7_price_49 : decode cX7_price 49 = .ok (.ireturn, 1) := by decide +kernel
theorem dX7_leads_0 : decode cX7_leads 0 = .ok (.iload_n 1, 1) := by decide +kernel
theorem dX7_leads_1 : decode cX7_leads 1 = .ok (.invokestatic 111, 3) := by decide +kernel
theorem dX7_leads_4 : decode cX7_leads 4 = .ok (.ifCond .eq 21, 3) := by decide +kernel
theorem dX7_leads_7 : decode cX7_leads 7 = .ok (.iload_n 2, 1) := by decide +kernel
theorem dX7_leads_8 : decode cX7_leads 8 = .ok (.ifCond .lt 17, 3) := by decide +kernel
theorem dX7_leads_11 : decode cX7_leads 11 = .ok (.iload_n 2, 1) := by decide +kernel
theorem dX7_leads_12 : decode cX7_leads 12 = .ok (.aload_n 0, 1) := by decide +kernel
theorem dX7_leads_13 : decode cX7_leads 13 = .ok (.getfield 16, 3) := by decide +kernel
theorem dX7_leads_16 : decode cX7_leads 16 = .ok (.getfield 49, 3) := by decide +kernel
theorem dX7_leads_19 : decode cX7_leads 19 = .ok (.getfield 53, 3) := by decide +kernel
theorem dX7_leads_22 : decode cX7_leads 22 = .ok (.if_icmp .le 5, 3) := by decide +kernel
theorem dX7_leads_25 : decode cX7_leads 25 = .ok (.iconst (-1), 1) := by decide +kernel
theorem dX7_leads_26 : decode cX7_leads 26 = .ok (.ireturn, 1) := by decide +kernel
theorem dX7_leads_27 : decode cX7_leads 27 = .ok (.aload_n 0, 1) := by decide +kernel
theorem dX7_leads_28 : decode cX7_leads 28 = .ok (.getfield 16, 3) := by decide +kernel
theorem dX7_leads_31 : decode cX7_leads 31 = .ok (.getfield 49, 3) := by decide +kernel
theorem dX7_leads_34 : decode cX7_leads 34 = .ok (.iload_n 1, 1) := by decide +kernel
theorem dX7_leads_35 : decode cX7_leads 35 = .ok (.iload_n 2, 1) := by decide +kernel
theorem dX7_leads_36 : decode cX7_leads 36 = .ok (.invokevirtual 117, 3) := by decide +kernel
theorem dX7_leads_39 : decode cX7_leads 39 = .ok (.ireturn, 1) := by decide +kernel
theorem dX7_steps_0 : decode cX7_steps 0 = .ok (.iload_n 2, 1) := by decide +kernel
theorem dX7_steps_1 : decode cX7_steps 1 = .ok (.bipush (-2), 2) := by decide +kernel
theorem dX7_steps_3 : decode cX7_steps 3 = .ok (.if_icmp .lt 17, 3) := by decide +kernel
theorem dX7_steps_6 : decode cX7_steps 6 = .ok (.aload_n 0, 1) := by decide +kernel
theorem dX7_steps_7 : decode cX7_steps 7 = .ok (.getfield 16, 3) := by decide +kernel
theorem dX7_steps_10 : decode cX7_steps 10 = .ok (.getfield 49, 3) := by decide +kernel
theorem dX7_steps_13 : decode cX7_steps 13 = .ok (.iload_n 1, 1) := by decide +kernel
theorem dX7_steps_14 : decode cX7_steps 14 = .ok (.invokevirtual 121, 3) := by decide +kernel
theorem dX7_steps_17 : decode cX7_steps 17 = .ok (.ifCond .ne 5, 3) := by decide +kernel
theorem dX7_steps_20 : decode cX7_steps 20 = .ok (.iconst (-1), 1) := by decide +kernel
theorem dX7_steps_21 : decode cX7_steps 21 = .ok (.ireturn, 1) := by decide +kernel
theorem dX7_steps_22 : decode cX7_steps 22 = .ok (.aload_n 0, 1) := by decide +kernel
theorem dX7_steps_23 : decode cX7_steps 23 = .ok (.getfield 26, 3) := by decide +kernel
theorem dX7_steps_26 : decode cX7_steps 26 = .ok (.aload_n 0, 1) := by decide +kernel
theorem dX7_steps_27 : decode cX7_steps 27 = .ok (.getfield 16, 3) := by decide +kernel
theorem dX7_steps_30 : decode cX7_steps 30 = .ok (.getfield 49, 3) := by decide +kernel
theorem dX7_steps_33 : decode cX7_steps 33 = .ok (.invokevirtual 124, 3) := by decide +kernel
theorem dX7_steps_36 : decode cX7_steps 36 = .ok (.aload_n 0, 1) := by decide +kernel
theorem dX7_steps_37 : decode cX7_steps 37 = .ok (.getfield 26, 3) := by decide +kernel
theorem dX7_steps_40 : decode cX7_steps 40 = .ok (.iload_n 1, 1) := by decide +kernel
theorem dX7_steps_41 : decode cX7_steps 41 = .ok (.iconst 1, 1) := by decide +kernel
theorem dX7_steps_42 : decode cX7_steps 42 = .ok (.aload_n 0, 1) := by decide +kernel
theorem dX7_steps_43 : decode cX7_steps 43 = .ok (.getfield 16, 3) := by decide +kernel
theorem dX7_steps_46 : decode cX7_steps 46 = .ok (.getfield 114, 3) := by decide +kernel
theorem dX7_steps_49 : decode cX7_steps 49 = .ok (.invokevirtual 128, 3) := by decide +kernel
theorem dX7_steps_52 : decode cX7_steps 52 = .ok (.iload_n 2, 1) := by decide +kernel
theorem dX7_steps_53 : decode cX7_steps 53 = .ok (.bipush (-2), 2) := by decide +kernel
theorem dX7_steps_55 : decode cX7_steps 55 = .ok (.if_icmp .ne 22, 3) := by decide +kernel
theorem dX7_steps_58 : decode cX7_steps 58 = .ok (.aload_n 0, 1) := by decide +kernel
theorem dX7_steps_59 : decode cX7_steps 59 = .ok (.getfield 26, 3) := by decide +kernel
theorem dX7_steps_62 : decode cX7_steps 62 = .ok (.getfield 132, 3) := by decide +kernel
theorem dX7_steps_65 : decode cX7_steps 65 = .ok (.aload_n 0, 1) := by decide +kernel
theorem dX7_steps_66 : decode cX7_steps 66 = .ok (.getfield 16, 3) := by decide +kernel
theorem dX7_steps_69 : decode cX7_steps 69 = .ok (.getfield 49, 3) := by decide +kernel
theorem dX7_steps_72 : decode cX7_steps 72 = .ok (.invokevirtual 135, 3) := by decide +kernel
theorem dX7_steps_75 : decode cX7_steps 75 = .ok (.iaload, 1) := by decide +kernel
theorem dX7_steps_76 : decode cX7_steps 76 = .ok (.ireturn, 1) := by decide +kernel
theorem dX7_steps_77 : decode cX7_steps 77 = .ok (.aload_n 0, 1) := by decide +kernel
theorem dX7_steps_78 : decode cX7_steps 78 = .ok (.getfield 26, 3) := by decide +kernel
theorem dX7_steps_81 : decode cX7_steps 81 = .ok (.aload_n 0, 1) := by decide +kernel
theorem dX7_steps_82 : decode cX7_steps 82 = .ok (.getfield 16, 3) := by decide +kernel
theorem dX7_steps_85 : decode cX7_steps 85 = .ok (.getfield 49, 3) := by decide +kernel
theorem dX7_steps_88 : decode cX7_steps 88 = .ok (.invokevirtual 135, 3) := by decide +kernel
theorem dX7_steps_91 : decode cX7_steps 91 = .ok (.iload_n 1, 1) := by decide +kernel
theorem dX7_steps_92 : decode cX7_steps 92 = .ok (.iload_n 2, 1) := by decide +kernel
theorem dX7_steps_93 : decode cX7_steps 93 = .ok (.aload_n 0, 1) := by decide +kernel
theorem dX7_steps_94 : decode cX7_steps 94 = .ok (.getfield 16, 3) := by decide +kernel
theorem dX7_steps_97 : decode cX7_steps 97 = .ok (.getfield 114, 3) := by decide +kernel
theorem dX7_steps_100 : decode cX7_steps 100 = .ok (.invokevirtual 138, 3) := by decide +kernel
theorem dX7_steps_103 : decode cX7_steps 103 = .ok (.ireturn, 1) := by decide +kernel
theorem dX7_farthest_0 : decode cX7_farthest 0 = .ok (.iload_n 1, 1) := by decide +kernel
theorem dX7_farthest_1 : decode cX7_farthest 1 = .ok (.ifCond .eq 10, 3) := by decide +kernel
theorem dX7_farthest_4 : decode cX7_farthest 4 = .ok (.iload_n 1, 1) := by decide +kernel
theorem dX7_farthest_5 : decode cX7_farthest 5 = .ok (.iconst 1, 1) := by decide +kernel
theorem dX7_farthest_6 : decode cX7_farthest 6 = .ok (.if_icmp .eq 5, 3) := by decide +kernel
theorem dX7_farthest_9 : decode cX7_farthest 9 = .ok (.iconst (-1), 1) := by decide +kernel
theorem dX7_farthest_10 : decode cX7_farthest 10 = .ok (.ireturn, 1) := by decide +kernel
theorem dX7_farthest_11 : decode cX7_farthest 11 = .ok (.aload_n 0, 1) := by decide +kernel
theorem dX7_farthest_12 : decode cX7_farthest 12 = .ok (.getfield 26, 3) := by decide +kernel
theorem dX7_farthest_15 : decode cX7_farthest 15 = .ok (.aload_n 0, 1) := by decide +kernel
theorem dX7_farthest_16 : decode cX7_farthest 16 = .ok (.getfield 16, 3) := by decide +kernel
theorem dX7_farthest_19 : decode cX7_farthest 19 = .ok (.getfield 49, 3) := by decide +kernel
theorem dX7_farthest_22 : decode cX7_farthest 22 = .ok (.invokevirtual 124, 3) := by decide +kernel
theorem dX7_farthest_25 : decode cX7_farthest 25 = .ok (.aload_n 0, 1) := by decide +kernel
theorem dX7_farthest_26 : decode cX7_farthest 26 = .ok (.getfield 26, 3) := by decide +kernel
theorem dX7_farthest_29 : decode cX7_farthest 29 = .ok (.aload_n 0, 1) := by decide +kernel
theorem dX7_farthest_30 : decode cX7_farthest 30 = .ok (.getfield 16, 3) := by decide +kernel
theorem dX7_farthest_33 : decode cX7_farthest 33 = .ok (.getfield 49, 3) := by decide +kernel
theorem dX7_farthest_36 : decode cX7_farthest 36 = .ok (.invokevirtual 135, 3) := by decide +kernel
theorem dX7_farthest_39 : decode cX7_farthest 39 = .ok (.iconst 0, 1) := by decide +kernel
theorem dX7_farthest_40 : decode cX7_farthest 40 = .ok (.aload_n 0, 1) := by decide +kernel
theorem dX7_farthest_41 : decode cX7_farthest 41 = .ok (.getfield 16, 3) := by decide +kernel
theorem dX7_farthest_44 : decode cX7_farthest 44 = .ok (.getfield 114, 3) := by decide +kernel
theorem dX7_farthest_47 : decode cX7_farthest 47 = .ok (.invokevirtual 128, 3) := by decide +kernel
theorem dX7_farthest_50 : decode cX7_farthest 50 = .ok (.aload_n 0, 1) := by decide +kernel
theorem dX7_farthest_51 : decode cX7_farthest 51 = .ok (.getfield 26, 3) := by decide +kernel
theorem dX7_farthest_54 : decode cX7_farthest 54 = .ok (.invokevirtual 142, 3) := by decide +kernel
theorem dX7_farthest_57 : decode cX7_farthest 57 = .ok (.istore_n 2, 1) := by decide +kernel
theorem dX7_farthest_58 : decode cX7_farthest 58 = .ok (.iload_n 1, 1) := by decide +kernel
theorem dX7_farthest_59 : decode cX7_farthest 59 = .ok (.ifCond .ne 15, 3) := by decide +kernel
theorem dX7_farthest_62 : decode cX7_farthest 62 = .ok (.aload_n 0, 1) := by decide +kernel
theorem dX7_farthest_63 : decode cX7_farthest 63 = .ok (.getfield 26, 3) := by decide +kernel
theorem dX7_farthest_66 : decode cX7_farthest 66 = .ok (.getfield 132, 3) := by decide +kernel
theorem dX7_farthest_69 : decode cX7_farthest 69 = .ok (.iload_n 2, 1) := by decide +kernel
theorem dX7_farthest_70 : decode cX7_farthest 70 = .ok (.iaload, 1) := by decide +kernel
theorem dX7_farthest_71 : decode cX7_farthest 71 = .ok (.goto 4, 3) := by decide +kernel
theorem dX7_farthest_74 : decode cX7_farthest 74 = .ok (.iload_n 2, 1) := by decide +kernel
theorem dX7_farthest_75 : decode cX7_farthest 75 = .ok (.ireturn, 1) := by decide +kernel
theorem dX7_once_0 : decode cX7_once 0 = .ok (.aload_n 0, 1) := by decide +kernel
theorem dX7_once_1 : decode cX7_once 1 = .ok (.getfield 16, 3) := by decide +kernel
theorem dX7_once_4 : decode cX7_once 4 = .ok (.getfield 49, 3) := by decide +kernel
theorem dX7_once_7 : decode cX7_once 7 = .ok (.iload_n 1, 1) := by decide +kernel
theorem dX7_once_8 : decode cX7_once 8 = .ok (.invokevirtual 121, 3) := by decide +kernel
theorem dX7_once_11 : decode cX7_once 11 = .ok (.ifCond .ne 5, 3) := by decide +kernel
theorem dX7_once_14 : decode cX7_once 14 = .ok (.iconst (-1), 1) := by decide +kernel
theorem dX7_once_15 : decode cX7_once 15 = .ok (.ireturn, 1) := by decide +kernel
theorem dX7_once_16 : decode cX7_once 16 = .ok (.iconst 0, 1) := by decide +kernel
theorem dX7_once_17 : decode cX7_once 17 = .ok (.istore_n 2, 1) := by decide +kernel
theorem dX7_once_18 : decode cX7_once 18 = .ok (.iconst 0, 1) := by decide +kernel
theorem dX7_once_19 : decode cX7_once 19 = .ok (.istore_n 3, 1) := by decide +kernel
theorem dX7_once_20 : decode cX7_once 20 = .ok (.iload_n 3, 1) := by decide +kernel
theorem dX7_once_21 : decode cX7_once 21 = .ok (.bipush 7, 2) := by decide +kernel
theorem dX7_once_23 : decode cX7_once 23 = .ok (.if_icmp .ge 40, 3) := by decide +kernel
theorem dX7_once_26 : decode cX7_once 26 = .ok (.aload_n 0, 1) := by decide +kernel
theorem dX7_once_27 : decode cX7_once 27 = .ok (.getfield 16, 3) := by decide +kernel
theorem dX7_once_30 : decode cX7_once 30 = .ok (.getfield 49, 3) := by decide +kernel
theorem dX7_once_33 : decode cX7_once 33 = .ok (.iload_n 3, 1) := by decide +kernel
theorem dX7_once_34 : decode cX7_once 34 = .ok (.aload_n 0, 1) := by decide +kernel
theorem dX7_once_35 : decode cX7_once 35 = .ok (.getfield 16, 3) := by decide +kernel
theorem dX7_once_38 : decode cX7_once 38 = .ok (.getfield 49, 3) := by decide +kernel
theorem dX7_once_41 : decode cX7_once 41 = .ok (.invokevirtual 135, 3) := by decide +kernel
theorem dX7_once_44 : decode cX7_once 44 = .ok (.invokevirtual 145, 3) := by decide +kernel
theorem dX7_once_47 : decode cX7_once 47 = .ok (.iload_n 1, 1) := by decide +kernel
theorem dX7_once_48 : decode cX7_once 48 = .ok (.if_icmp .ne 9, 3) := by decide +kernel
theorem dX7_once_51 : decode cX7_once 51 = .ok (.iload_n 2, 1) := by decide +kernel
theorem dX7_once_52 : decode cX7_once 52 = .ok (.iconst 1, 1) := by decide +kernel
theorem dX7_once_53 : decode cX7_once 53 = .ok (.iload_n 3, 1) := by decide +kernel
theorem dX7_once_54 : decode cX7_once 54 = .ok (.ishl, 1) := by decide +kernel
theorem dX7_once_55 : decode cX7_once 55 = .ok (.ior, 1) := by decide +kernel
theorem dX7_once_56 : decode cX7_once 56 = .ok (.istore_n 2, 1) := by decide +kernel
theorem dX7_once_57 : decode cX7_once 57 = .ok (.iinc 3 1, 3) := by decide +kernel
