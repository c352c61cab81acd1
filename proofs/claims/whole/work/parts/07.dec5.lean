theorem dX8_changes_74 : decode cX8_changes 74 = .ok (.iload_n 1, 1) := by decide +kernel
theorem dX8_changes_75 : decode cX8_changes 75 = .ok (.iadd, 1) := by decide +kernel
theorem dX8_changes_76 : decode cX8_changes 76 = .ok (.iaload, 1) := by decide +kernel
theorem dX8_changes_77 : decode cX8_changes 77 = .ok (.iastore, 1) := by decide +kernel
theorem dX8_changes_78 : decode cX8_changes 78 = .ok (.iinc 1 1, 3) := by decide +kernel
theorem dX8_changes_81 : decode cX8_changes 81 = .ok (.goto (-33), 3) := by decide +kernel
theorem dX8_changes_84 : decode cX8_changes 84 = .ok (.aload_n 0, 1) := by decide +kernel
theorem dX8_changes_85 : decode cX8_changes 85 = .ok (.dup, 1) := by decide +kernel
theorem dX8_changes_86 : decode cX8_changes 86 = .ok (.getfield 97, 3) := by decide +kernel
theorem dX8_changes_89 : decode cX8_changes 89 = .ok (.iconst 1, 1) := by decide +kernel
theorem dX8_changes_90 : decode cX8_changes 90 = .ok (.iadd, 1) := by decide +kernel
theorem dX8_changes_91 : decode cX8_changes 91 = .ok (.putfield 97, 3) := by decide +kernel
theorem dX8_changes_94 : decode cX8_changes 94 = .ok (.aload_n 0, 1) := by decide +kernel
theorem dX8_changes_95 : decode cX8_changes 95 = .ok (.getfield 7, 3) := by decide +kernel
theorem dX8_changes_98 : decode cX8_changes 98 = .ok (.sipush 128, 3) := by decide +kernel
theorem dX8_changes_101 : decode cX8_changes 101 = .ok (.aload_n 0, 1) := by decide +kernel
theorem dX8_changes_102 : decode cX8_changes 102 = .ok (.getfield 7, 3) := by decide +kernel
theorem dX8_changes_105 : decode cX8_changes 105 = .ok (.sipush 159, 3) := by decide +kernel
theorem dX8_changes_108 : decode cX8_changes 108 = .ok (.iaload, 1) := by decide +kernel
theorem dX8_changes_109 : decode cX8_changes 109 = .ok (.iastore, 1) := by decide +kernel
theorem dX8_changes_110 : decode cX8_changes 110 = .ok (.iconst 0, 1) := by decide +kernel
theorem dX8_changes_111 : decode cX8_changes 111 = .ok (.istore_n 1, 1) := by decide +kernel
theorem dX8_changes_112 : decode cX8_changes 112 = .ok (.iload_n 1, 1) := by decide +kernel
theorem dX8_changes_113 : decode cX8_changes 113 = .ok (.bipush 30, 2) := by decide +kernel
theorem dX8_changes_115 : decode cX8_changes 115 = .ok (.if_icmp .ge 29, 3) := by decide +kernel
theorem dX8_changes_118 : decode cX8_changes 118 = .ok (.aload_n 0, 1) := by decide +kernel
theorem dX8_changes_119 : decode cX8_changes 119 = .ok (.getfield 7, 3) := by decide +kernel
theorem dX8_changes_122 : decode cX8_changes 122 = .ok (.sipush 129, 3) := by decide +kernel
theorem dX8_changes_125 : decode cX8_changes 125 = .ok (.iload_n 1, 1) := by decide +kernel
theorem dX8_changes_126 : decode cX8_changes 126 = .ok (.iadd, 1) := by decide +kernel
theorem dX8_changes_127 : decode cX8_changes 127 = .ok (.aload_n 0, 1) := by decide +kernel
theorem dX8_changes_128 : decode cX8_changes 128 = .ok (.getfield 7, 3) := by decide +kernel
theorem dX8_changes_131 : decode cX8_changes 131 = .ok (.sipush 160, 3) := by decide +kernel
theorem dX8_changes_134 : decode cX8_changes 134 = .ok (.iload_n 1, 1) := by decide +kernel
theorem dX8_changes_135 : decode cX8_changes 135 = .ok (.iadd, 1) := by decide +kernel
theorem dX8_changes_136 : decode cX8_changes 136 = .ok (.iaload, 1) := by decide +kernel
theorem dX8_changes_137 : decode cX8_changes 137 = .ok (.iastore, 1) := by decide +kernel
theorem dX8_changes_138 : decode cX8_changes 138 = .ok (.iinc 1 1, 3) := by decide +kernel
theorem dX8_changes_141 : decode cX8_changes 141 = .ok (.goto (-29), 3) := by decide +kernel
theorem dX8_changes_144 : decode cX8_changes 144 = .ok (.return_, 1) := by decide +kernel
theorem dX8_undoes_0 : decode cX8_undoes 0 = .ok (.aload_n 0, 1) := by decide +kernel
theorem dX8_undoes_1 : decode cX8_undoes 1 = .ok (.getfield 97, 3) := by decide +kernel
theorem dX8_undoes_4 : decode cX8_undoes 4 = .ok (.ifCond .ne 6, 3) := by decide +kernel
theorem dX8_undoes_7 : decode cX8_undoes 7 = .ok (.bipush (-2), 2) := by decide +kernel
theorem dX8_undoes_9 : decode cX8_undoes 9 = .ok (.ireturn, 1) := by decide +kernel
theorem dX8_undoes_10 : decode cX8_undoes 10 = .ok (.iconst 0, 1) := by decide +kernel
theorem dX8_undoes_11 : decode cX8_undoes 11 = .ok (.istore_n 2, 1) := by decide +kernel
theorem dX8_undoes_12 : decode cX8_undoes 12 = .ok (.iload_n 2, 1) := by decide +kernel
theorem dX8_undoes_13 : decode cX8_undoes 13 = .ok (.iload_n 1, 1) := by decide +kernel
theorem dX8_undoes_14 : decode cX8_undoes 14 = .ok (.if_icmp .ge 60, 3) := by decide +kernel
theorem dX8_undoes_17 : decode cX8_undoes 17 = .ok (.aload_n 0, 1) := by decide +kernel
theorem dX8_undoes_18 : decode cX8_undoes 18 = .ok (.getfield 97, 3) := by decide +kernel
theorem dX8_undoes_21 : decode cX8_undoes 21 = .ok (.ifCond .le 53, 3) := by decide +kernel
theorem dX8_undoes_24 : decode cX8_undoes 24 = .ok (.aload_n 0, 1) := by decide +kernel
theorem dX8_undoes_25 : decode cX8_undoes 25 = .ok (.dup, 1) := by decide +kernel
theorem dX8_undoes_26 : decode cX8_undoes 26 = .ok (.getfield 97, 3) := by decide +kernel
theorem dX8_undoes_29 : decode cX8_undoes 29 = .ok (.iconst 1, 1) := by decide +kernel
theorem dX8_undoes_30 : decode cX8_undoes 30 = .ok (.isub, 1) := by decide +kernel
theorem dX8_undoes_31 : decode cX8_undoes 31 = .ok (.putfield 97, 3) := by decide +kernel
theorem dX8_undoes_34 : decode cX8_undoes 34 = .ok (.iconst 0, 1) := by decide +kernel
theorem dX8_undoes_35 : decode cX8_undoes 35 = .ok (.istore_n 3, 1) := by decide +kernel
theorem dX8_undoes_36 : decode cX8_undoes 36 = .ok (.iload_n 3, 1) := by decide +kernel
theorem dX8_undoes_37 : decode cX8_undoes 37 = .ok (.bipush 62, 2) := by decide +kernel
theorem dX8_undoes_39 : decode cX8_undoes 39 = .ok (.if_icmp .ge 29, 3) := by decide +kernel
theorem dX8_undoes_42 : decode cX8_undoes 42 = .ok (.aload_n 0, 1) := by decide +kernel
theorem dX8_undoes_43 : decode cX8_undoes 43 = .ok (.getfield 7, 3) := by decide +kernel
theorem dX8_undoes_46 : decode cX8_undoes 46 = .ok (.iload_n 3, 1) := by decide +kernel
theorem dX8_undoes_47 : decode cX8_undoes 47 = .ok (.aload_n 0, 1) := by decide +kernel
theorem dX8_undoes_48 : decode cX8_undoes 48 = .ok (.getfield 13, 3) := by decide +kernel
theorem dX8_undoes_51 : decode cX8_undoes 51 = .ok (.bipush 62, 2) := by decide +kernel
theorem dX8_undoes_53 : decode cX8_undoes 53 = .ok (.aload_n 0, 1) := by decide +kernel
theorem dX8_undoes_54 : decode cX8_undoes 54 = .ok (.getfield 97, 3) := by decide +kernel
theorem dX8_undoes_57 : decode cX8_undoes 57 = .ok (.imul, 1) := by decide +kernel
theorem dX8_undoes_58 : decode cX8_undoes 58 = .ok (.iload_n 3, 1) := by decide +kernel
theorem dX8_undoes_59 : decode cX8_undoes 59 = .ok (.iadd, 1) := by decide +kernel
theorem dX8_undoes_60 : decode cX8_undoes 60 = .ok (.iaload, 1) := by decide +kernel
theorem dX8_undoes_61 : decode cX8_undoes 61 = .ok (.iastore, 1) := by decide +kernel
theorem dX8_undoes_62 : decode cX8_undoes 62 = .ok (.iinc 3 1, 3) := by decide +kernel
theorem dX8_undoes_65 : decode cX8_undoes 65 = .ok (.goto (-29), 3) := by decide +kernel
theorem dX8_undoes_68 : decode cX8_undoes 68 = .ok (.iinc 2 1, 3) := by decide +kernel
theorem dX8_undoes_71 : decode cX8_undoes 71 = .ok (.goto (-59), 3) := by decide +kernel
theorem dX8_undoes_74 : decode cX8_undoes 74 = .ok (.iconst 0, 1) := by decide +kernel
theorem dX8_undoes_75 : decode cX8_undoes 75 = .ok (.ireturn, 1) := by decide +kernel
theorem dX8_keeps_0 : decode cX8_keeps 0 = .ok (.aload_n 0, 1) := by decide +kernel
theorem dX8_keeps_1 : decode cX8_keeps 1 = .ok (.getfield 7, 3) := by decide +kernel
theorem dX8_keeps_4 : decode cX8_keeps 4 = .ok (.bipush 63, 2) := by decide +kernel
theorem dX8_keeps_6 : decode cX8_keeps 6 = .ok (.iload_n 2, 1) := by decide +kernel
theorem dX8_keeps_7 : decode cX8_keeps 7 = .ok (.iload_n 1, 1) := by decide +kernel
theorem dX8_keeps_8 : decode cX8_keeps 8 = .ok (.isub, 1) := by decide +kernel
theorem dX8_keeps_9 : decode cX8_keeps 9 = .ok (.iastore, 1) := by decide +kernel
theorem dX8_keeps_10 : decode cX8_keeps 10 = .ok (.iload_n 1, 1) := by decide +kernel
theorem dX8_keeps_11 : decode cX8_keeps 11 = .ok (.istore_n 3, 1) := by decide +kernel
theorem dX8_keeps_12 : decode cX8_keeps 12 = .ok (.iload_n 3, 1) := by decide +kernel
theorem dX8_keeps_13 : decode cX8_keeps 13 = .ok (.iload_n 2, 1) := by decide +kernel
theorem dX8_keeps_14 : decode cX8_keeps 14 = .ok (.if_icmp .ge 28, 3) := by decide +kernel
theorem dX8_keeps_17 : decode cX8_keeps 17 = .ok (.aload_n 0, 1) := by decide +kernel
theorem dX8_keeps_18 : decode cX8_keeps 18 = .ok (.getfield 7, 3) := by decide +kernel
theorem dX8_keeps_21 : decode cX8_keeps 21 = .ok (.bipush 64, 2) := by decide +kernel
theorem dX8_keeps_23 : decode cX8_keeps 23 = .ok (.iload_n 3, 1) := by decide +kernel
theorem dX8_keeps_24 : decode cX8_keeps 24 = .ok (.iadd, 1) := by decide +kernel
theorem dX8_keeps_25 : decode cX8_keeps 25 = .ok (.iload_n 1, 1) := by decide +kernel
theorem dX8_keeps_26 : decode cX8_keeps 26 = .ok (.isub, 1) := by decide +kernel
theorem dX8_keeps_27 : decode cX8_keeps 27 = .ok (.aload_n 0, 1) := by decide +kernel
theorem dX8_keeps_28 : decode cX8_keeps 28 = .ok (.getfield 7, 3) := by decide +kernel
theorem dX8_keeps_31 : decode cX8_keeps 31 = .ok (.iconst 1, 1) := by decide +kernel
theorem dX8_keeps_32 : decode cX8_keeps 32 = .ok (.iload_n 3, 1) := by decide +kernel
theorem dX8_keeps_33 : decode cX8_keeps 33 = .ok (.iadd, 1) := by decide +kernel
theorem dX8_keeps_34 : decode cX8_keeps 34 = .ok (.iaload, 1) := by decide +kernel
theorem dX8_keeps_35 : decode cX8_keeps 35 = .ok (.iastore, 1) := by decide +kernel
theorem dX8_keeps_36 : decode cX8_keeps 36 = .ok (.iinc 3 1, 3) := by decide +kernel
theorem dX8_keeps_39 : decode cX8_keeps 39 = .ok (.goto (-27), 3) := by decide +kernel
theorem dX8_keeps_42 : decode cX8_keeps 42 = .ok (.return_, 1) := by decide +kernel
theorem dX8_cuts_0 : decode cX8_cuts 0 = .ok (.iload_n 2, 1) := by decide +kernel
theorem dX8_cuts_1 : decode cX8_cuts 1 = .ok (.istore_n 3, 1) := by decide +kernel
theorem dX8_cuts_2 : decode cX8_cuts 2 = .ok (.iload_n 3, 1) := by decide +kernel
theorem dX8_cuts_3 : decode cX8_cuts 3 = .ok (.aload_n 0, 1) := by decide +kernel
theorem dX8_cuts_4 : decode cX8_cuts 4 = .ok (.getfield 7, 3) := by decide +kernel
theorem dX8_cuts_7 : decode cX8_cuts 7 = .ok (.iconst 0, 1) := by decide +kernel
theorem dX8_cuts_8 : decode cX8_cuts 8 = .ok (.iaload, 1) := by decide +kernel
theorem dX8_cuts_9 : decode cX8_cuts 9 = .ok (.if_icmp .ge 29, 3) := by decide +kernel
theorem dX8_cuts_12 : decode cX8_cuts 12 = .ok (.aload_n 0, 1) := by decide +kernel
theorem dX8_cuts_13 : decode cX8_cuts 13 = .ok (.getfield 7, 3) := by decide +kernel
theorem dX8_cuts_16 : decode cX8_cuts 16 = .ok (.iconst 1, 1) := by decide +kernel
theorem dX8_cuts_17 : decode cX8_cuts 17 = .ok (.iload_n 1, 1) := by decide +kernel
theorem dX8_cuts_18 : decode cX8_cuts 18 = .ok (.iadd, 1) := by decide +kernel
theorem dX8_cuts_19 : decode cX8_cuts 19 = .ok (.iload_n 3, 1) := by decide +kernel
theorem dX8_cuts_20 : decode cX8_cuts 20 = .ok (.iadd, 1) := by decide +kernel
theorem dX8_cuts_21 : decode cX8_cuts 21 = .ok (.iload_n 2, 1) := by decide +kernel
theorem dX8_cuts_22 : decode cX8_cuts 22 = .ok (.isub, 1) := by decide +kernel
theorem dX8_cuts_23 : decode cX8_cuts 23 = .ok (.aload_n 0, 1) := by decide +kernel
theorem dX8_cuts_24 : decode cX8_cuts 24 = .ok (.getfield 7, 3) := by decide +kernel
theorem dX8_cuts_27 : decode cX8_cuts 27 = .ok (.iconst 1, 1) := by decide +kernel
theorem dX8_cuts_28 : decode cX8_cuts 28 = .ok (.iload_n 3, 1) := by decide +kernel
theorem dX8_cuts_29 : decode cX8_cuts 29 = .ok (.iadd, 1) := by decide +kernel
theorem dX8_cuts_30 : decode cX8_cuts 30 = .ok (.iaload, 1) := by decide +kernel
theorem dX8_cuts_31 : decode cX8_cuts 31 = .ok (.iastore, 1) := by decide +kernel
theorem dX8_cuts_32 : decode cX8_cuts 32 = .ok (.iinc 3 1, 3) := by decide +kernel
theorem dX8_cuts_35 : decode cX8_cuts 35 = .ok (.goto (-33), 3) := by decide +kernel
theorem dX8_cuts_38 : decode cX8_cuts 38 = .ok (.aload_n 0, 1) := by decide +kernel
theorem dX8_cuts_39 : decode cX8_cuts 39 = .ok (.getfield 7, 3) := by decide +kernel
theorem dX8_cuts_42 : decode cX8_cuts 42 = .ok (.iconst 0, 1) := by decide +kernel
theorem dX8_cuts_43 : decode cX8_cuts 43 = .ok (.dup2, 1) := by decide +kernel
theorem dX8_cuts_44 : decode cX8_cuts 44 = .ok (.iaload, 1) := by decide +kernel
theorem dX8_cuts_45 : decode cX8_cuts 45 = .ok (.iload_n 2, 1) := by decide +kernel
theorem dX8_cuts_46 : decode cX8_cuts 46 = .ok (.iload_n 1, 1) := by decide +kernel
theorem dX8_cuts_47 : decode cX8_cuts 47 = .ok (.isub, 1) := by decide +kernel
theorem dX8_cuts_48 : decode cX8_cuts 48 = .ok (.isub, 1) := by decide +kernel
theorem dX8_cuts_49 : decode cX8_cuts 49 = .ok (.iastore, 1) := by decide +kernel
theorem dX8_cuts_50 : decode cX8_cuts 50 = .ok (.return_, 1) := by decide +kernel
theorem dX8_inserts_0 : decode cX8_inserts 0 = .ok (.aload_n 0, 1) := by decide +kernel
theorem dX8_inserts_1 : decode cX8_inserts 1 = .ok (.getfield 7, 3) := by decide +kernel
theorem dX8_inserts_4 : decode cX8_inserts 4 = .ok (.bipush 61, 2) := by decide +kernel
theorem dX8_inserts_6 : decode cX8_inserts 6 = .ok (.iload_n 1, 1) := by decide +kernel
theorem dX8_inserts_7 : decode cX8_inserts 7 = .ok (.iastore, 1) := by decide +kernel
theorem dX8_inserts_8 : decode cX8_inserts 8 = .ok (.aload_n 0, 1) := by decide +kernel
theorem dX8_inserts_9 : decode cX8_inserts 9 = .ok (.getfield 7, 3) := by decide +kernel
theorem dX8_inserts_12 : decode cX8_inserts 12 = .ok (.bipush 62, 2) := by decide +kernel
theorem dX8_inserts_14 : decode cX8_inserts 14 = .ok (.iconst 1, 1) := by decide +kernel
theorem dX8_inserts_15 : decode cX8_inserts 15 = .ok (.iastore, 1) := by decide +kernel
theorem dX8_inserts_16 : decode cX8_inserts 16 = .ok (.iconst 2, 1) := by decide +kernel
theorem dX8_inserts_17 : decode cX8_inserts 17 = .ok (.ireturn, 1) := by decide +kernel
theorem dX8_ranged_0 : decode cX8_ranged 0 = .ok (.aload_n 0, 1) := by decide +kernel
theorem dX8_ranged_1 : decode cX8_ranged 1 = .ok (.getfield 7, 3) := by decide +kernel
theorem dX8_ranged_4 : decode cX8_ranged 4 = .ok (.sipush 190, 3) := by decide +kernel
theorem dX8_ranged_7 : decode cX8_ranged 7 = .ok (.iaload, 1) := by decide +kernel
theorem dX8_ranged_8 : decode cX8_ranged 8 = .ok (.istore_n 3, 1) := by decide +kernel
theorem dX8_ranged_9 : decode cX8_ranged 9 = .ok (.iload_n 2, 1) := by decide +kernel
theorem dX8_ranged_10 : decode cX8_ranged 10 = .ok (.iload_n 1, 1) := by decide +kernel
theorem dX8_ranged_11 : decode cX8_ranged 11 = .ok (.if_icmp .le 9, 3) := by decide +kernel
theorem dX8_ranged_14 : decode cX8_ranged 14 = .ok (.aload_n 0, 1) := by decide +kernel
theorem dX8_ranged_15 : decode cX8_ranged 15 = .ok (.iload_n 1, 1) := by decide +kernel
theorem dX8_ranged_16 : decode cX8_ranged 16 = .ok (.iload_n 2, 1) := by decide +kernel
theorem dX8_ranged_17 : decode cX8_ranged 17 = .ok (.invokevirtual 100, 3) := by decide +kernel
theorem dX8_ranged_20 : decode cX8_ranged 20 = .ok (.iload_n 3, 1) := by decide +kernel
theorem dX8_ranged_21 : decode cX8_ranged 21 = .ok (.bipush 121, 2) := by decide +kernel
theorem dX8_ranged_23 : decode cX8_ranged 23 = .ok (.if_icmp .eq 14, 3) := by decide +kernel
theorem dX8_ranged_26 : decode cX8_ranged 26 = .ok (.iload_n 2, 1) := by decide +kernel
theorem dX8_ranged_27 : decode cX8_ranged 27 = .ok (.iload_n 1, 1) := by decide +kernel
theorem dX8_ranged_28 : decode cX8_ranged 28 = .ok (.if_icmp .le 9, 3) := by decide +kernel
theorem dX8_ranged_31 : decode cX8_ranged 31 = .ok (.aload_n 0, 1) := by decide +kernel
theorem dX8_ranged_32 : decode cX8_ranged 32 = .ok (.iload_n 1, 1) := by decide +kernel
theorem dX8_ranged_33 : decode cX8_ranged 33 = .ok (.iload_n 2, 1) := by decide +kernel
theorem dX8_ranged_34 : decode cX8_ranged 34 = .ok (.invokevirtual 104, 3) := by decide +kernel
theorem dX8_ranged_37 : decode cX8_ranged 37 = .ok (.iload_n 3, 1) := by decide +kernel
theorem dX8_ranged_38 : decode cX8_ranged 38 = .ok (.bipush 99, 2) := by decide +kernel
theorem dX8_ranged_40 : decode cX8_ranged 40 = .ok (.if_icmp .ne 9, 3) := by decide +kernel
theorem dX8_ranged_43 : decode cX8_ranged 43 = .ok (.aload_n 0, 1) := by decide +kernel
theorem dX8_ranged_44 : decode cX8_ranged 44 = .ok (.iload_n 1, 1) := by decide +kernel
theorem dX8_ranged_45 : decode cX8_ranged 45 = .ok (.invokevirtual 107, 3) := by decide +kernel
theorem dX8_ranged_48 : decode cX8_ranged 48 = .ok (.ireturn, 1) := by decide +kernel
theorem dX8_ranged_49 : decode cX8_ranged 49 = .ok (.aload_n 0, 1) := by decide +kernel
theorem dX8_ranged_50 : decode cX8_ranged 50 = .ok (.getfield 7, 3) := by decide +kernel
theorem dX8_ranged_53 : decode cX8_ranged 53 = .ok (.bipush 61, 2) := by decide +kernel
theorem dX8_ranged_55 : decode cX8_ranged 55 = .ok (.iload_n 1, 1) := by decide +kernel
theorem dX8_ranged_56 : decode cX8_ranged 56 = .ok (.aload_n 0, 1) := by decide +kernel
theorem dX8_ranged_57 : decode cX8_ranged 57 = .ok (.invokevirtual 77, 3) := by decide +kernel
theorem dX8_ranged_60 : decode cX8_ranged 60 = .ok (.invokestatic 94, 3) := by decide +kernel
theorem dX8_ranged_63 : decode cX8_ranged 63 = .ok (.iastore, 1) := by decide +kernel
theorem dX8_ranged_64 : decode cX8_ranged 64 = .ok (.iload_n 3, 1) := by decide +kernel
theorem dX8_ranged_65 : decode cX8_ranged 65 = .ok (.bipush 100, 2) := by decide +kernel
theorem dX8_ranged_67 : decode cX8_ranged 67 = .ok (.if_icmp .ne 12, 3) := by decide +kernel
theorem dX8_ranged_70 : decode cX8_ranged 70 = .ok (.iload_n 2, 1) := by decide +kernel
theorem dX8_ranged_71 : decode cX8_ranged 71 = .ok (.iload_n 1, 1) := by decide +kernel
theorem dX8_ranged_72 : decode cX8_ranged 72 = .ok (.if_icmp .le 7, 3) := by decide +kernel
theorem dX8_ranged_75 : decode cX8_ranged 75 = .ok (.aload_n 0, 1) := by decide +kernel
theorem dX8_ranged_76 : decode cX8_ranged 76 = .ok (.invokevirtual 110, 3) := by decide +kernel
theorem dX8_ranged_79 : decode cX8_ranged 79 = .ok (.iconst 0, 1) := by decide +kernel
theorem dX8_ranged_80 : decode cX8_ranged 80 = .ok (.ireturn, 1) := by decide +kernel
theorem dX8_goesTo_0 : decode cX8_goesTo 0 = .ok (.aload_n 0, 1) := by decide +kernel
theorem dX8_goesTo_1 : decode cX8_goesTo 1 = .ok (.getfield 7, 3) := by decide +kernel
theorem dX8_goesTo_4 : decode cX8_goesTo 4 = .ok (.sipush 190, 3) := by decide +kernel
theorem dX8_goesTo_7 : decode cX8_goesTo 7 = .ok (.iaload, 1) := by decide +kernel
theorem dX8_goesTo_8 : decode cX8_goesTo 8 = .ok (.ifCond .ne 20, 3) := by decide +kernel
theorem dX8_goesTo_11 : decode cX8_goesTo 11 = .ok (.aload_n 0, 1) := by decide +kernel
theorem dX8_goesTo_12 : decode cX8_goesTo 12 = .ok (.getfield 7, 3) := by decide +kernel
theorem dX8_goesTo_15 : decode cX8_goesTo 15 = .ok (.bipush 61, 2) := by decide +kernel
theorem dX8_goesTo_17 : decode cX8_goesTo 17 = .ok (.iload_n 1, 1) := by decide +kernel
theorem dX8_goesTo_18 : decode cX8_goesTo 18 = .ok (.aload_n 0, 1) := by decide +kernel
theorem dX8_goesTo_19 : decode cX8_goesTo 19 = .ok (.invokevirtual 77, 3) := by decide +kernel
theorem dX8_goesTo_22 : decode cX8_goesTo 22 = .ok (.invokestatic 94, 3) := by decide +kernel
theorem dX8_goesTo_25 : decode cX8_goesTo 25 = .ok (.iastore, 1) := by decide +kernel
theorem dX8_goesTo_26 : decode cX8_goesTo 26 = .ok (.iconst 0, 1) := by decide +kernel
theorem dX8_goesTo_27 : decode cX8_goesTo 27 = .ok (.ireturn, 1) := by decide +kernel
theorem dX8_goesTo_28 : decode cX8_goesTo 28 = .ok (.aload_n 0, 1) := by decide +kernel
theorem dX8_goesTo_29 : decode cX8_goesTo 29 = .ok (.getfield 7, 3) := by decide +kernel
theorem dX8_goesTo_32 : decode cX8_goesTo 32 = .ok (.bipush 61, 2) := by decide +kernel
theorem dX8_goesTo_34 : decode cX8_goesTo 34 = .ok (.iaload, 1) := by decide +kernel
theorem dX8_goesTo_35 : decode cX8_goesTo 35 = .ok (.istore_n 3, 1) := by decide +kernel
theorem dX8_goesTo_36 : decode cX8_goesTo 36 = .ok (.iload_n 3, 1) := by decide +kernel
theorem dX8_goesTo_37 : decode cX8_goesTo 37 = .ok (.iload_n 1, 1) := by decide +kernel
theorem dX8_goesTo_38 : decode cX8_goesTo 38 = .ok (.invokestatic 94, 3) := by decide +kernel
theorem dX8_goesTo_41 : decode cX8_goesTo 41 = .ok (.istore 4, 2) := by decide +kernel
theorem dX8_goesTo_43 : decode cX8_goesTo 43 = .ok (.iload 4, 2) := by decide +kernel
theorem dX8_goesTo_45 : decode cX8_goesTo 45 = .ok (.iload_n 3, 1) := by decide +kernel
theorem dX8_goesTo_46 : decode cX8_goesTo 46 = .ok (.if_icmp .ne 7, 3) := by decide +kernel
theorem dX8_goesTo_49 : decode cX8_goesTo 49 = .ok (.iload_n 1, 1) := by decide +kernel
theorem dX8_goesTo_50 : decode cX8_goesTo 50 = .ok (.goto 4, 3) := by decide +kernel
theorem dX8_goesTo_53 : decode cX8_goesTo 53 = .ok (.iload_n 3, 1) := by decide +kernel
theorem dX8_goesTo_54 : decode cX8_goesTo 54 = .ok (.istore 5, 2) := by decide +kernel
theorem dX8_goesTo_56 : decode cX8_goesTo 56 = .ok (.aload_n 0, 1) := by decide +kernel
theorem dX8_goesTo_57 : decode cX8_goesTo 57 = .ok (.iload 4, 2) := by decide +kernel
theorem dX8_goesTo_59 : decode cX8_goesTo 59 = .ok (.iload 5, 2) := by decide +kernel
theorem dX8_goesTo_61 : decode cX8_goesTo 61 = .ok (.iload_n 2, 1) := by decide +kernel
theorem dX8_goesTo_62 : decode cX8_goesTo 62 = .ok (.ifCond .eq 7, 3) := by decide +kernel
theorem dX8_goesTo_65 : decode cX8_goesTo 65 = .ok (.iconst 1, 1) := by decide +kernel
theorem dX8_goesTo_66 : decode cX8_goesTo 66 = .ok (.goto 4, 3) := by decide +kernel
theorem dX8_goesTo_69 : decode cX8_goesTo 69 = .ok (.iconst 0, 1) := by decide +kernel
theorem dX8_goesTo_70 : decode cX8_goesTo 70 = .ok (.iadd, 1) := by decide +kernel
theorem dX8_goesTo_71 : decode cX8_goesTo 71 = .ok (.aload_n 0, 1) := by decide +kernel
theorem dX8_goesTo_72 : decode cX8_goesTo 72 = .ok (.getfield 7, 3) := by decide +kernel
theorem dX8_goesTo_75 : decode cX8_goesTo 75 = .ok (.iconst 0, 1) := by decide +kernel
theorem dX8_goesTo_76 : decode cX8_goesTo 76 = .ok (.iaload, 1) := by decide +kernel
theorem dX8_goesTo_77 : decode cX8_goesTo 77 = .ok (.invokestatic 94, 3) := by decide +kernel
theorem dX8_goesTo_80 : decode cX8_goesTo 80 = .ok (.invokevirtual 113, 3) := by decide +kernel
theorem dX8_goesTo_83 : decode cX8_goesTo 83 = .ok (.ireturn, 1) := by decide +kernel
theorem dX8_moves_0 : decode cX8_moves 0 = .ok (.aload_n 0, 1) := by decide +kernel
theorem dX8_moves_1 : decode cX8_moves 1 = .ok (.getfield 7, 3) := by decide +kernel
theorem dX8_moves_4 : decode cX8_moves 4 = .ok (.bipush 61, 2) := by decide +kernel
theorem dX8_moves_6 : decode cX8_moves 6 = .ok (.iaload, 1) := by decide +kernel
theorem dX8_moves_7 : decode cX8_moves 7 = .ok (.istore_n 2, 1) := by decide +kernel
theorem dX8_moves_8 : decode cX8_moves 8 = .ok (.aload_n 0, 1) := by decide +kernel
theorem dX8_moves_9 : decode cX8_moves 9 = .ok (.invokevirtual 116, 3) := by decide +kernel
theorem dX8_moves_12 : decode cX8_moves 12 = .ok (.istore_n 3, 1) := by decide +kernel
theorem dX8_moves_13 : decode cX8_moves 13 = .ok (.iconst 0, 1) := by decide +kernel
theorem dX8_moves_14 : decode cX8_moves 14 = .ok (.istore 4, 2) := by decide +kernel
theorem dX8_moves_16 : decode cX8_moves 16 = .ok (.iload 4, 2) := by decide +kernel
theorem dX8_moves_18 : decode cX8_moves 18 = .ok (.iload_n 3, 1) := by decide +kernel
theorem dX8_moves_19 : decode cX8_moves 19 = .ok (.if_icmp .ge 16, 3) := by decide +kernel
theorem dX8_moves_22 : decode cX8_moves 22 = .ok (.aload_n 0, 1) := by decide +kernel
theorem dX8_moves_23 : decode cX8_moves 23 = .ok (.iload_n 1, 1) := by decide +kernel
theorem dX8_moves_24 : decode cX8_moves 24 = .ok (.iload_n 2, 1) := by decide +kernel
theorem dX8_moves_25 : decode cX8_moves 25 = .ok (.invokevirtual 119, 3) := by decide +kernel
theorem dX8_moves_28 : decode cX8_moves 28 = .ok (.istore_n 2, 1) := by decide +kernel
theorem dX8_moves_29 : decode cX8_moves 29 = .ok (.iinc 4 1, 3) := by decide +kernel
theorem dX8_moves_32 : decode cX8_moves 32 = .ok (.goto (-16), 3) := by decide +kernel
theorem dX8_moves_35 : decode cX8_moves 35 = .ok (.aload_n 0, 1) := by decide +kernel
theorem dX8_moves_36 : decode cX8_moves 36 = .ok (.iload_n 2, 1) := by decide +kernel
theorem dX8_moves_37 : decode cX8_moves 37 = .ok (.iload_n 1, 1) := by decide +kernel
theorem dX8_moves_38 : decode cX8_moves 38 = .ok (.iconst 3, 1) := by decide +kernel
theorem dX8_moves_39 : decode cX8_moves 39 = .ok (.if_icmp .eq 9, 3) := by decide +kernel
theorem dX8_moves_42 : decode cX8_moves 42 = .ok (.iload_n 1, 1) := by decide +kernel
theorem dX8_moves_43 : decode cX8_moves 43 = .ok (.bipush 6, 2) := by decide +kernel
theorem dX8_moves_45 : decode cX8_moves 45 = .ok (.if_icmp .ne 7, 3) := by decide +kernel
theorem dX8_moves_48 : decode cX8_moves 48 = .ok (.iconst 1, 1) := by decide +kernel
theorem dX8_moves_49 : decode cX8_moves 49 = .ok (.goto 4, 3) := by decide +kernel
theorem dX8_moves_52 : decode cX8_moves 52 = .ok (.iconst 0, 1) := by decide +kernel
theorem dX8_moves_53 : decode cX8_moves 53 = .ok (.invokevirtual 122, 3) := by decide +kernel
theorem dX8_moves_56 : decode cX8_moves 56 = .ok (.ireturn, 1) := by decide +kernel
theorem dX8_objects_0 : decode cX8_objects 0 = .ok (.iload_n 2, 1) := by decide +kernel
theorem dX8_objects_1 : decode cX8_objects 1 = .ok (.bipush 119, 2) := by decide +kernel
theorem dX8_objects_3 : decode cX8_objects 3 = .ok (.if_icmp .ne 23, 3) := by decide +kernel
theorem dX8_objects_6 : decode cX8_objects 6 = .ok (.aload_n 0, 1) := by decide +kernel
theorem dX8_objects_7 : decode cX8_objects 7 = .ok (.getfield 7, 3) := by decide +kernel
theorem dX8_objects_10 : decode cX8_objects 10 = .ok (.iconst 0, 1) := by decide +kernel
theorem dX8_objects_11 : decode cX8_objects 11 = .ok (.iaload, 1) := by decide +kernel
theorem dX8_objects_12 : decode cX8_objects 12 = .ok (.ifCond .ne 8, 3) := by decide +kernel
theorem dX8_objects_15 : decode cX8_objects 15 = .ok (.bipush (-2), 2) := by decide +kernel
theorem dX8_objects_17 : decode cX8_objects 17 = .ok (.goto 8, 3) := by decide +kernel
theorem dX8_objects_20 : decode cX8_objects 20 = .ok (.aload_n 0, 1) := by decide +kernel
theorem dX8_objects_21 : decode cX8_objects 21 = .ok (.iload_n 1, 1) := by decide +kernel
theorem dX8_objects_22 : decode cX8_objects 22 = .ok (.invokevirtual 126, 3) := by decide +kernel
theorem dX8_objects_25 : decode cX8_objects 25 = .ok (.ireturn, 1) := by decide +kernel
theorem dX8_objects_26 : decode cX8_objects 26 = .ok (.iload_n 2, 1) := by decide +kernel
theorem dX8_objects_27 : decode cX8_objects 27 = .ok (.bipush 98, 2) := by decide +kernel
theorem dX8_objects_29 : decode cX8_objects 29 = .ok (.if_icmp .ne 11, 3) := by decide +kernel
theorem dX8_objects_32 : decode cX8_objects 32 = .ok (.aload_n 0, 1) := by decide +kernel
theorem dX8_objects_33 : decode cX8_objects 33 = .ok (.iload_n 1, 1) := by decide +kernel
theorem dX8_objects_34 : decode cX8_objects 34 = .ok (.invokevirtual 130, 3) := by decide +kernel
theorem dX8_objects_37 : decode cX8_objects 37 = .ok (.goto 5, 3) := by decide +kernel
theorem dX8_objects_40 : decode cX8_objects 40 = .ok (.bipush (-2), 2) := by decide +kernel
theorem dX8_objects_42 : decode cX8_objects 42 = .ok (.ireturn, 1) := by decide +kernel
theorem dX8_words_0 : decode cX8_words 0 = .ok (.aload_n 0, 1) := by decide +kernel
theorem dX8_words_1 : decode cX8_words 1 = .ok (.getfield 7, 3) := by decide +kernel
theorem dX8_words_4 : decode cX8_words 4 = .ok (.bipush 61, 2) := by decide +kernel
theorem dX8_words_6 : decode cX8_words 6 = .ok (.iaload, 1) := by decide +kernel
theorem dX8_words_7 : decode cX8_words 7 = .ok (.istore_n 2, 1) := by decide +kernel
theorem dX8_words_8 : decode cX8_words 8 = .ok (.iload_n 2, 1) := by decide +kernel
theorem dX8_words_9 : decode cX8_words 9 = .ok (.iconst 1, 1) := by decide +kernel
theorem dX8_words_10 : decode cX8_words 10 = .ok (.iadd, 1) := by decide +kernel
theorem dX8_words_11 : decode cX8_words 11 = .ok (.istore_n 3, 1) := by decide +kernel
theorem dX8_words_12 : decode cX8_words 12 = .ok (.aload_n 0, 1) := by decide +kernel
theorem dX8_words_13 : decode cX8_words 13 = .ok (.iload_n 2, 1) := by decide +kernel
theorem dX8_words_14 : decode cX8_words 14 = .ok (.invokevirtual 74, 3) := by decide +kernel
theorem dX8_words_17 : decode cX8_words 17 = .ok (.istore 4, 2) := by decide +kernel
theorem dX8_words_19 : decode cX8_words 19 = .ok (.aload_n 0, 1) := by decide +kernel
theorem dX8_words_20 : decode cX8_words 20 = .ok (.iload_n 2, 1) := by decide +kernel
theorem dX8_words_21 : decode cX8_words 21 = .ok (.iconst 1, 1) := by decide +kernel
theorem dX8_words_22 : decode cX8_words 22 = .ok (.isub, 1) := by decide +kernel
theorem dX8_words_23 : decode cX8_words 23 = .ok (.invokevirtual 74, 3) := by decide +kernel
theorem dX8_words_26 : decode cX8_words 26 = .ok (.iload 4, 2) := by decide +kernel
theorem dX8_words_28 : decode cX8_words 28 = .ok (.if_icmp .ne 9, 3) := by decide +kernel
theorem dX8_words_31 : decode cX8_words 31 = .ok (.iinc 2 (-1), 3) := by decide +kernel
theorem dX8_words_34 : decode cX8_words 34 = .ok (.goto (-15), 3) := by decide +kernel
theorem dX8_words_37 : decode cX8_words 37 = .ok (.aload_n 0, 1) := by decide +kernel
theorem dX8_words_38 : decode cX8_words 38 = .ok (.iload_n 3, 1) := by decide +kernel
theorem dX8_words_39 : decode cX8_words 39 = .ok (.invokevirtual 74, 3) := by decide +kernel
theorem dX8_words_42 : decode cX8_words 42 = .ok (.iload 4, 2) := by decide +kernel
theorem dX8_words_44 : decode cX8_words 44 = .ok (.if_icmp .ne 9, 3) := by decide +kernel
theorem dX8_words_47 : decode cX8_words 47 = .ok (.iinc 3 1, 3) := by decide +kernel
theorem dX8_words_50 : decode cX8_words 50 = .ok (.goto (-13), 3) := by decide +kernel
theorem dX8_words_53 : decode cX8_words 53 = .ok (.iload_n 1, 1) := by decide +kernel
theorem dX8_words_54 : decode cX8_words 54 = .ok (.ifCond .eq 17, 3) := by decide +kernel
theorem dX8_words_57 : decode cX8_words 57 = .ok (.aload_n 0, 1) := by decide +kernel
theorem dX8_words_58 : decode cX8_words 58 = .ok (.iload_n 3, 1) := by decide +kernel
theorem dX8_words_59 : decode cX8_words 59 = .ok (.invokevirtual 74, 3) := by decide +kernel
theorem dX8_words_62 : decode cX8_words 62 = .ok (.ifCond .ne 9, 3) := by decide +kernel
theorem dX8_words_65 : decode cX8_words 65 = .ok (.iinc 3 1, 3) := by decide +kernel
theorem dX8_words_68 : decode cX8_words 68 = .ok (.goto (-15), 3) := by decide +kernel
theorem dX8_words_71 : decode cX8_words 71 = .ok (.aload_n 0, 1) := by decide +kernel
theorem dX8_words_72 : decode cX8_words 72 = .ok (.iload_n 2, 1) := by decide +kernel
theorem dX8_words_73 : decode cX8_words 73 = .ok (.iload_n 3, 1) := by decide +kernel
theorem dX8_words_74 : decode cX8_words 74 = .ok (.invokevirtual 113, 3) := by decide +kernel
theorem dX8_words_77 : decode cX8_words 77 = .ok (.ireturn, 1) := by decide +kernel
theorem dX8_bracket_0 : decode cX8_bracket 0 = .ok (.iconst 0, 1) := by decide +kernel
theorem dX8_bracket_1 : decode cX8_bracket 1 = .ok (.istore 5, 2) := by decide +kernel
theorem dX8_bracket_3 : decode cX8_bracket 3 = .ok (.iload_n 1, 1) := by decide +kernel
theorem dX8_bracket_4 : decode cX8_bracket 4 = .ok (.istore 6, 2) := by decide +kernel
theorem dX8_bracket_6 : decode cX8_bracket 6 = .ok (.iload 6, 2) := by decide +kernel
theorem dX8_bracket_8 : decode cX8_bracket 8 = .ok (.i2l, 1) := by decide +kernel
theorem dX8_bracket_9 : decode cX8_bracket 9 = .ok (.lconst 0, 1) := by decide +kernel
theorem dX8_bracket_10 : decode cX8_bracket 10 = .ok (.aload_n 0, 1) := by decide +kernel
theorem dX8_bracket_11 : decode cX8_bracket 11 = .ok (.getfield 7, 3) := by decide +kernel
theorem dX8_bracket_14 : decode cX8_bracket 14 = .ok (.iconst 0, 1) := by decide +kernel
theorem dX8_bracket_15 : decode cX8_bracket 15 = .ok (.iaload, 1) := by decide +kernel
theorem dX8_bracket_16 : decode cX8_bracket 16 = .ok (.iconst 1, 1) := by decide +kernel
theorem dX8_bracket_17 : decode cX8_bracket 17 = .ok (.isub, 1) := by decide +kernel
theorem dX8_bracket_18 : decode cX8_bracket 18 = .ok (.i2l, 1) := by decide +kernel
theorem dX8_bracket_19 : decode cX8_bracket 19 = .ok (.invokestatic 58, 3) := by decide +kernel
theorem dX8_bracket_22 : decode cX8_bracket 22 = .ok (.ifCond .eq 64, 3) := by decide +kernel
theorem dX8_bracket_25 : decode cX8_bracket 25 = .ok (.aload_n 0, 1) := by decide +kernel
theorem dX8_bracket_26 : decode cX8_bracket 26 = .ok (.getfield 7, 3) := by decide +kernel
theorem dX8_bracket_29 : decode cX8_bracket 29 = .ok (.iconst 1, 1) := by decide +kernel
theorem dX8_bracket_30 : decode cX8_bracket 30 = .ok (.iload 6, 2) := by decide +kernel
theorem dX8_bracket_32 : decode cX8_bracket 32 = .ok (.iadd, 1) := by decide +kernel
theorem dX8_bracket_33 : decode cX8_bracket 33 = .ok (.iaload, 1) := by decide +kernel
theorem dX8_bracket_34 : decode cX8_bracket 34 = .ok (.istore 7, 2) := by decide +kernel
theorem dX8_bracket_36 : decode cX8_bracket 36 = .ok (.iload 7, 2) := by decide +kernel
theorem dX8_bracket_38 : decode cX8_bracket 38 = .ok (.iload_n 3, 1) := by decide +kernel
theorem dX8_bracket_39 : decode cX8_bracket 39 = .ok (.if_icmp .ne 11, 3) := by decide +kernel
theorem dX8_bracket_42 : decode cX8_bracket 42 = .ok (.iload 5, 2) := by decide +kernel
theorem dX8_bracket_44 : decode cX8_bracket 44 = .ok (.ifCond .ne 6, 3) := by decide +kernel
theorem dX8_bracket_47 : decode cX8_bracket 47 = .ok (.iload 6, 2) := by decide +kernel
theorem dX8_bracket_49 : decode cX8_bracket 49 = .ok (.ireturn, 1) := by decide +kernel
theorem dX8_bracket_50 : decode cX8_bracket 50 = .ok (.iload 5, 2) := by decide +kernel
theorem dX8_bracket_52 : decode cX8_bracket 52 = .ok (.iload 7, 2) := by decide +kernel
theorem dX8_bracket_54 : decode cX8_bracket 54 = .ok (.iload 4, 2) := by decide +kernel
theorem dX8_bracket_56 : decode cX8_bracket 56 = .ok (.if_icmp .ne 7, 3) := by decide +kernel
theorem dX8_bracket_59 : decode cX8_bracket 59 = .ok (.iconst 1, 1) := by decide +kernel
theorem dX8_bracket_60 : decode cX8_bracket 60 = .ok (.goto 14, 3) := by decide +kernel
theorem dX8_bracket_63 : decode cX8_bracket 63 = .ok (.iload 7, 2) := by decide +kernel
theorem dX8_bracket_65 : decode cX8_bracket 65 = .ok (.iload_n 3, 1) := by decide +kernel
theorem dX8_bracket_66 : decode cX8_bracket 66 = .ok (.if_icmp .ne 7, 3) := by decide +kernel
theorem dX8_bracket_69 : decode cX8_bracket 69 = .ok (.iconst (-1), 1) := by decide +kernel
theorem dX8_bracket_70 : decode cX8_bracket 70 = .ok (.goto 4, 3) := by decide +kernel
theorem dX8_bracket_73 : decode cX8_bracket 73 = .ok (.iconst 0, 1) := by decide +kernel
theorem dX8_bracket_74 : decode cX8_bracket 74 = .ok (.iadd, 1) := by decide +kernel
theorem dX8_bracket_75 : decode cX8_bracket 75 = .ok (.istore 5, 2) := by decide +kernel
theorem dX8_bracket_77 : decode cX8_bracket 77 = .ok (.iload 6, 2) := by decide +kernel
theorem dX8_bracket_79 : decode cX8_bracket 79 = .ok (.iload_n 2, 1) := by decide +kernel
theorem dX8_bracket_80 : decode cX8_bracket 80 = .ok (.iadd, 1) := by decide +kernel
theorem dX8_bracket_81 : decode cX8_bracket 81 = .ok (.istore 6, 2) := by decide +kernel
theorem dX8_bracket_83 : decode cX8_bracket 83 = .ok (.goto (-77), 3) := by decide +kernel
theorem dX8_bracket_86 : decode cX8_bracket 86 = .ok (.bipush (-4), 2) := by decide +kernel
theorem dX8_bracket_88 : decode cX8_bracket 88 = .ok (.ireturn, 1) := by decide +kernel
theorem dX8_brackets_0 : decode cX8_brackets 0 = .ok (.aload_n 0, 1) := by decide +kernel
theorem dX8_brackets_1 : decode cX8_brackets 1 = .ok (.getfield 7, 3) := by decide +kernel
theorem dX8_brackets_4 : decode cX8_brackets 4 = .ok (.bipush 61, 2) := by decide +kernel
theorem dX8_brackets_6 : decode cX8_brackets 6 = .ok (.iaload, 1) := by decide +kernel
theorem dX8_brackets_7 : decode cX8_brackets 7 = .ok (.istore_n 2, 1) := by decide +kernel
theorem dX8_brackets_8 : decode cX8_brackets 8 = .ok (.aload_n 0, 1) := by decide +kernel
theorem dX8_brackets_9 : decode cX8_brackets 9 = .ok (.getfield 7, 3) := by decide +kernel
theorem dX8_brackets_12 : decode cX8_brackets 12 = .ok (.iconst 0, 1) := by decide +kernel
theorem dX8_brackets_13 : decode cX8_brackets 13 = .ok (.iaload, 1) := by decide +kernel
theorem dX8_brackets_14 : decode cX8_brackets 14 = .ok (.ifCond .le 20, 3) := by decide +kernel
theorem dX8_brackets_17 : decode cX8_brackets 17 = .ok (.aload_n 0, 1) := by decide +kernel
theorem dX8_brackets_18 : decode cX8_brackets 18 = .ok (.getfield 7, 3) := by decide +kernel
theorem dX8_brackets_21 : decode cX8_brackets 21 = .ok (.iconst 1, 1) := by decide +kernel
theorem dX8_brackets_22 : decode cX8_brackets 22 = .ok (.iload_n 2, 1) := by decide +kernel
theorem dX8_brackets_23 : decode cX8_brackets 23 = .ok (.iadd, 1) := by decide +kernel
theorem dX8_brackets_24 : decode cX8_brackets 24 = .ok (.iaload, 1) := by decide +kernel
theorem dX8_brackets_25 : decode cX8_brackets 25 = .ok (.bipush 41, 2) := by decide +kernel
theorem dX8_brackets_27 : decode cX8_brackets 27 = .ok (.if_icmp .ne 7, 3) := by decide +kernel
theorem dX8_brackets_30 : decode cX8_brackets 30 = .ok (.iconst 1, 1) := by decide +kernel
theorem dX8_brackets_31 : decode cX8_brackets 31 = .ok (.goto 4, 3) := by decide +kernel
theorem dX8_brackets_34 : decode cX8_brackets 34 = .ok (.iconst 0, 1) := by decide +kernel
theorem dX8_brackets_35 : decode cX8_brackets 35 = .ok (.istore_n 3, 1) := by decide +kernel
theorem dX8_brackets_36 : decode cX8_brackets 36 = .ok (.aload_n 0, 1) := by decide +kernel
theorem dX8_brackets_37 : decode cX8_brackets 37 = .ok (.iload_n 3, 1) := by decide +kernel
theorem dX8_brackets_38 : decode cX8_brackets 38 = .ok (.ifCond .eq 9, 3) := by decide +kernel
theorem dX8_brackets_41 : decode cX8_brackets 41 = .ok (.iload_n 2, 1) := by decide +kernel
theorem dX8_brackets_42 : decode cX8_brackets 42 = .ok (.iconst 1, 1) := by decide +kernel
theorem dX8_brackets_43 : decode cX8_brackets 43 = .ok (.isub, 1) := by decide +kernel
theorem dX8_brackets_44 : decode cX8_brackets 44 = .ok (.goto 4, 3) := by decide +kernel
theorem dX8_brackets_47 : decode cX8_brackets 47 = .ok (.iload_n 2, 1) := by decide +kernel
theorem dX8_brackets_48 : decode cX8_brackets 48 = .ok (.iconst (-1), 1) := by decide +kernel
theorem dX8_brackets_49 : decode cX8_brackets 49 = .ok (.bipush 40, 2) := by decide +kernel
theorem dX8_brackets_51 : decode cX8_brackets 51 = .ok (.bipush 41, 2) := by decide +kernel
theorem dX8_brackets_53 : decode cX8_brackets 53 = .ok (.invokevirtual 133, 3) := by decide +kernel
theorem dX8_brackets_56 : decode cX8_brackets 56 = .ok (.istore 4, 2) := by decide +kernel
theorem dX8_brackets_58 : decode cX8_brackets 58 = .ok (.iload 4, 2) := by decide +kernel
theorem dX8_brackets_60 : decode cX8_brackets 60 = .ok (.bipush (-4), 2) := by decide +kernel
theorem dX8_brackets_62 : decode cX8_brackets 62 = .ok (.if_icmp .ne 8, 3) := by decide +kernel
theorem dX8_brackets_65 : decode cX8_brackets 65 = .ok (.bipush (-4), 2) := by decide +kernel
theorem dX8_brackets_67 : decode cX8_brackets 67 = .ok (.goto 16, 3) := by decide +kernel
theorem dX8_brackets_70 : decode cX8_brackets 70 = .ok (.aload_n 0, 1) := by decide +kernel
theorem dX8_brackets_71 : decode cX8_brackets 71 = .ok (.iload 4, 2) := by decide +kernel
theorem dX8_brackets_73 : decode cX8_brackets 73 = .ok (.iconst 1, 1) := by decide +kernel
theorem dX8_brackets_74 : decode cX8_brackets 74 = .ok (.iadd, 1) := by decide +kernel
theorem dX8_brackets_75 : decode cX8_brackets 75 = .ok (.iconst 1, 1) := by decide +kernel
theorem dX8_brackets_76 : decode cX8_brackets 76 = .ok (.bipush 41, 2) := by decide +kernel
theorem dX8_brackets_78 : decode cX8_brackets 78 = .ok (.bipush 40, 2) := by decide +kernel
theorem dX8_brackets_80 : decode cX8_brackets 80 = .ok (.invokevirtual 133, 3) := by decide +kernel
theorem dX8_brackets_83 : decode cX8_brackets 83 = .ok (.istore 5, 2) := by decide +kernel
theorem dX8_brackets_85 : decode cX8_brackets 85 = .ok (.iload 5, 2) := by decide +kernel
theorem dX8_brackets_87 : decode cX8_brackets 87 = .ok (.bipush (-4), 2) := by decide +kernel
theorem dX8_brackets_89 : decode cX8_brackets 89 = .ok (.if_icmp .ne 6, 3) := by decide +kernel
theorem dX8_brackets_92 : decode cX8_brackets 92 = .ok (.bipush (-2), 2) := by decide +kernel
theorem dX8_brackets_94 : decode cX8_brackets 94 = .ok (.ireturn, 1) := by decide +kernel
theorem dX8_brackets_95 : decode cX8_brackets 95 = .ok (.iload_n 1, 1) := by decide +kernel
theorem dX8_brackets_96 : decode cX8_brackets 96 = .ok (.ifCond .eq 16, 3) := by decide +kernel
theorem dX8_brackets_99 : decode cX8_brackets 99 = .ok (.aload_n 0, 1) := by decide +kernel
theorem dX8_brackets_100 : decode cX8_brackets 100 = .ok (.iload 4, 2) := by decide +kernel
theorem dX8_brackets_102 : decode cX8_brackets 102 = .ok (.iload 5, 2) := by decide +kernel
theorem dX8_brackets_104 : decode cX8_brackets 104 = .ok (.iconst 1, 1) := by decide +kernel
theorem dX8_brackets_105 : decode cX8_brackets 105 = .ok (.iadd, 1) := by decide +kernel
theorem dX8_brackets_106 : decode cX8_brackets 106 = .ok (.invokevirtual 113, 3) := by decide +kernel
theorem dX8_brackets_109 : decode cX8_brackets 109 = .ok (.goto 13, 3) := by decide +kernel
theorem dX8_brackets_112 : decode cX8_brackets 112 = .ok (.aload_n 0, 1) := by decide +kernel
theorem dX8_brackets_113 : decode cX8_brackets 113 = .ok (.iload 4, 2) := by decide +kernel
theorem dX8_brackets_115 : decode cX8_brackets 115 = .ok (.iconst 1, 1) := by decide +kernel
theorem dX8_brackets_116 : decode cX8_brackets 116 = .ok (.iadd, 1) := by decide +kernel
theorem dX8_brackets_117 : decode cX8_brackets 117 = .ok (.iload 5, 2) := by decide +kernel
theorem dX8_brackets_119 : decode cX8_brackets 119 = .ok (.invokevirtual 113, 3) := by decide +kernel
theorem dX8_brackets_122 : decode cX8_brackets 122 = .ok (.ireturn, 1) := by decide +kernel
theorem dX8_crosses_0 : decode cX8_crosses 0 = .ok (.aload_n 0, 1) := by decide +kernel
theorem dX8_crosses_1 : decode cX8_crosses 1 = .ok (.getfield 7, 3) := by decide +kernel
theorem dX8_crosses_4 : decode cX8_crosses 4 = .ok (.iconst 0, 1) := by decide +kernel
theorem dX8_crosses_5 : decode cX8_crosses 5 = .ok (.iaload, 1) := by decide +kernel
theorem dX8_crosses_6 : decode cX8_crosses 6 = .ok (.ifCond .ne 6, 3) := by decide +kernel
theorem dX8_crosses_9 : decode cX8_crosses 9 = .ok (.bipush (-2), 2) := by decide +kernel
theorem dX8_crosses_11 : decode cX8_crosses 11 = .ok (.ireturn, 1) := by decide +kernel
theorem dX8_crosses_12 : decode cX8_crosses 12 = .ok (.aload_n 0, 1) := by decide +kernel
theorem dX8_crosses_13 : decode cX8_crosses 13 = .ok (.getfield 7, 3) := by decide +kernel
theorem dX8_crosses_16 : decode cX8_crosses 16 = .ok (.bipush 61, 2) := by decide +kernel
theorem dX8_crosses_18 : decode cX8_crosses 18 = .ok (.iaload, 1) := by decide +kernel
theorem dX8_crosses_19 : decode cX8_crosses 19 = .ok (.istore_n 2, 1) := by decide +kernel
theorem dX8_crosses_20 : decode cX8_crosses 20 = .ok (.iload_n 2, 1) := by decide +kernel
theorem dX8_crosses_21 : decode cX8_crosses 21 = .ok (.iload_n 1, 1) := by decide +kernel
theorem dX8_crosses_22 : decode cX8_crosses 22 = .ok (.iadd, 1) := by decide +kernel
theorem dX8_crosses_23 : decode cX8_crosses 23 = .ok (.aload_n 0, 1) := by decide +kernel
theorem dX8_crosses_24 : decode cX8_crosses 24 = .ok (.getfield 7, 3) := by decide +kernel
theorem dX8_crosses_27 : decode cX8_crosses 27 = .ok (.iconst 0, 1) := by decide +kernel
theorem dX8_crosses_28 : decode cX8_crosses 28 = .ok (.iaload, 1) := by decide +kernel
theorem dX8_crosses_29 : decode cX8_crosses 29 = .ok (.invokestatic 94, 3) := by decide +kernel
theorem dX8_crosses_32 : decode cX8_crosses 32 = .ok (.istore_n 3, 1) := by decide +kernel
theorem dX8_crosses_33 : decode cX8_crosses 33 = .ok (.aload_n 0, 1) := by decide +kernel
theorem dX8_crosses_34 : decode cX8_crosses 34 = .ok (.iload_n 2, 1) := by decide +kernel
theorem dX8_crosses_35 : decode cX8_crosses 35 = .ok (.iload_n 3, 1) := by decide +kernel
theorem dX8_crosses_36 : decode cX8_crosses 36 = .ok (.invokevirtual 100, 3) := by decide +kernel
theorem dX8_crosses_39 : decode cX8_crosses 39 = .ok (.aload_n 0, 1) := by decide +kernel
theorem dX8_crosses_40 : decode cX8_crosses 40 = .ok (.iload_n 2, 1) := by decide +kernel
theorem dX8_crosses_41 : decode cX8_crosses 41 = .ok (.iload_n 3, 1) := by decide +kernel
theorem dX8_crosses_42 : decode cX8_crosses 42 = .ok (.invokevirtual 104, 3) := by decide +kernel
theorem dX8_crosses_45 : decode cX8_crosses 45 = .ok (.aload_n 0, 1) := by decide +kernel
theorem dX8_crosses_46 : decode cX8_crosses 46 = .ok (.getfield 7, 3) := by decide +kernel
theorem dX8_crosses_49 : decode cX8_crosses 49 = .ok (.bipush 61, 2) := by decide +kernel
theorem dX8_crosses_51 : decode cX8_crosses 51 = .ok (.iload_n 2, 1) := by decide +kernel
theorem dX8_crosses_52 : decode cX8_crosses 52 = .ok (.aload_n 0, 1) := by decide +kernel
theorem dX8_crosses_53 : decode cX8_crosses 53 = .ok (.invokevirtual 77, 3) := by decide +kernel
theorem dX8_crosses_56 : decode cX8_crosses 56 = .ok (.invokestatic 94, 3) := by decide +kernel
theorem dX8_crosses_59 : decode cX8_crosses 59 = .ok (.iastore, 1) := by decide +kernel
theorem dX8_crosses_60 : decode cX8_crosses 60 = .ok (.aload_n 0, 1) := by decide +kernel
theorem dX8_crosses_61 : decode cX8_crosses 61 = .ok (.invokevirtual 110, 3) := by decide +kernel
theorem dX8_crosses_64 : decode cX8_crosses 64 = .ok (.iconst 0, 1) := by decide +kernel
theorem dX8_crosses_65 : decode cX8_crosses 65 = .ok (.ireturn, 1) := by decide +kernel
theorem dX8_replaces_0 : decode cX8_replaces 0 = .ok (.aload_n 0, 1) := by decide +kernel
theorem dX8_replaces_1 : decode cX8_replaces 1 = .ok (.getfield 7, 3) := by decide +kernel
theorem dX8_replaces_4 : decode cX8_replaces 4 = .ok (.bipush 61, 2) := by decide +kernel
theorem dX8_replaces_6 : decode cX8_replaces 6 = .ok (.iaload, 1) := by decide +kernel
theorem dX8_replaces_7 : decode cX8_replaces 7 = .ok (.istore_n 3, 1) := by decide +kernel
theorem dX8_replaces_8 : decode cX8_replaces 8 = .ok (.iload_n 3, 1) := by decide +kernel
theorem dX8_replaces_9 : decode cX8_replaces 9 = .ok (.iload_n 2, 1) := by decide +kernel
theorem dX8_replaces_10 : decode cX8_replaces 10 = .ok (.iadd, 1) := by decide +kernel
theorem dX8_replaces_11 : decode cX8_replaces 11 = .ok (.aload_n 0, 1) := by decide +kernel
theorem dX8_replaces_12 : decode cX8_replaces 12 = .ok (.getfield 7, 3) := by decide +kernel
theorem dX8_replaces_15 : decode cX8_replaces 15 = .ok (.iconst 0, 1) := by decide +kernel
theorem dX8_replaces_16 : decode cX8_replaces 16 = .ok (.iaload, 1) := by decide +kernel
theorem dX8_replaces_17 : decode cX8_replaces 17 = .ok (.if_icmp .le 6, 3) := by decide +kernel
theorem dX8_replaces_20 : decode cX8_replaces 20 = .ok (.bipush (-2), 2) := by decide +kernel
theorem dX8_replaces_22 : decode cX8_replaces 22 = .ok (.ireturn, 1) := by decide +kernel
theorem dX8_replaces_23 : decode cX8_replaces 23 = .ok (.iload_n 3, 1) := by decide +kernel
theorem dX8_replaces_24 : decode cX8_replaces 24 = .ok (.istore 4, 2) := by decide +kernel
theorem dX8_replaces_26 : decode cX8_replaces 26 = .ok (.iload 4, 2) := by decide +kernel
theorem dX8_replaces_28 : decode cX8_replaces 28 = .ok (.iload_n 3, 1) := by decide +kernel
theorem dX8_replaces_29 : decode cX8_replaces 29 = .ok (.iload_n 2, 1) := by decide +kernel
theorem dX8_replaces_30 : decode cX8_replaces 30 = .ok (.iadd, 1) := by decide +kernel
theorem dX8_replaces_31 : decode cX8_replaces 31 = .ok (.if_icmp .ge 19, 3) := by decide +kernel
theorem dX8_replaces_34 : decode cX8_replaces 34 = .ok (.aload_n 0, 1) := by decide +kernel
theorem dX8_replaces_35 : decode cX8_replaces 35 = .ok (.getfield 7, 3) := by decide +kernel
theorem dX8_replaces_38 : decode cX8_replaces 38 = .ok (.iconst 1, 1) := by decide +kernel
theorem dX8_replaces_39 : decode cX8_replaces 39 = .ok (.iload 4, 2) := by decide +kernel
theorem dX8_replaces_41 : decode cX8_replaces 41 = .ok (.iadd, 1) := by decide +kernel
theorem dX8_replaces_42 : decode cX8_replaces 42 = .ok (.iload_n 1, 1) := by decide +kernel
theorem dX8_replaces_43 : decode cX8_replaces 43 = .ok (.iastore, 1) := by decide +kernel
theorem dX8_replaces_44 : decode cX8_replaces 44 = .ok (.iinc 4 1, 3) := by decide +kernel
theorem dX8_replaces_47 : decode cX8_replaces 47 = .ok (.goto (-21), 3) := by decide +kernel
theorem dX8_replaces_50 : decode cX8_replaces 50 = .ok (.aload_n 0, 1) := by decide +kernel
theorem dX8_replaces_51 : decode cX8_replaces 51 = .ok (.getfield 7, 3) := by decide +kernel
theorem dX8_replaces_54 : decode cX8_replaces 54 = .ok (.bipush 61, 2) := by decide +kernel
theorem dX8_replaces_56 : decode cX8_replaces 56 = .ok (.iload_n 3, 1) := by decide +kernel
theorem dX8_replaces_57 : decode cX8_replaces 57 = .ok (.iload_n 2, 1) := by decide +kernel
theorem dX8_replaces_58 : decode cX8_replaces 58 = .ok (.iadd, 1) := by decide +kernel
theorem dX8_replaces_59 : decode cX8_replaces 59 = .ok (.iconst 1, 1) := by decide +kernel
theorem dX8_replaces_60 : decode cX8_replaces 60 = .ok (.isub, 1) := by decide +kernel
theorem dX8_replaces_61 : decode cX8_replaces 61 = .ok (.iastore, 1) := by decide +kernel
theorem dX8_replaces_62 : decode cX8_replaces 62 = .ok (.aload_n 0, 1) := by decide +kernel
theorem dX8_replaces_63 : decode cX8_replaces 63 = .ok (.invokevirtual 110, 3) := by decide +kernel
theorem dX8_replaces_66 : decode cX8_replaces 66 = .ok (.iconst 0, 1) := by decide +kernel
theorem dX8_replaces_67 : decode cX8_replaces 67 = .ok (.ireturn, 1) := by decide +kernel
theorem dX8_turns_0 : decode cX8_turns 0 = .ok (.aload_n 0, 1) := by decide +kernel
theorem dX8_turns_1 : decode cX8_turns 1 = .ok (.getfield 7, 3) := by decide +kernel
theorem dX8_turns_4 : decode cX8_turns 4 = .ok (.iconst 0, 1) := by decide +kernel
theorem dX8_turns_5 : decode cX8_turns 5 = .ok (.iaload, 1) := by decide +kernel
theorem dX8_turns_6 : decode cX8_turns 6 = .ok (.ifCond .ne 6, 3) := by decide +kernel
theorem dX8_turns_9 : decode cX8_turns 9 = .ok (.bipush (-2), 2) := by decide +kernel
theorem dX8_turns_11 : decode cX8_turns 11 = .ok (.ireturn, 1) := by decide +kernel
theorem dX8_turns_12 : decode cX8_turns 12 = .ok (.aload_n 0, 1) := by decide +kernel
theorem dX8_turns_13 : decode cX8_turns 13 = .ok (.getfield 7, 3) := by decide +kernel
theorem dX8_turns_16 : decode cX8_turns 16 = .ok (.bipush 61, 2) := by decide +kernel
theorem dX8_turns_18 : decode cX8_turns 18 = .ok (.iaload, 1) := by decide +kernel
theorem dX8_turns_19 : decode cX8_turns 19 = .ok (.istore_n 2, 1) := by decide +kernel
theorem dX8_turns_20 : decode cX8_turns 20 = .ok (.iload_n 2, 1) := by decide +kernel
theorem dX8_turns_21 : decode cX8_turns 21 = .ok (.iload_n 1, 1) := by decide +kernel
theorem dX8_turns_22 : decode cX8_turns 22 = .ok (.iadd, 1) := by decide +kernel
theorem dX8_turns_23 : decode cX8_turns 23 = .ok (.aload_n 0, 1) := by decide +kernel
theorem dX8_turns_24 : decode cX8_turns 24 = .ok (.getfield 7, 3) := by decide +kernel
theorem dX8_turns_27 : decode cX8_turns 27 = .ok (.iconst 0, 1) := by decide +kernel
theorem dX8_turns_28 : decode cX8_turns 28 = .ok (.iaload, 1) := by decide +kernel
theorem dX8_turns_29 : decode cX8_turns 29 = .ok (.invokestatic 94, 3) := by decide +kernel
theorem dX8_turns_32 : decode cX8_turns 32 = .ok (.istore_n 3, 1) := by decide +kernel
theorem dX8_turns_33 : decode cX8_turns 33 = .ok (.iload_n 2, 1) := by decide +kernel
theorem dX8_turns_34 : decode cX8_turns 34 = .ok (.istore 4, 2) := by decide +kernel
theorem dX8_turns_36 : decode cX8_turns 36 = .ok (.iload 4, 2) := by decide +kernel
theorem dX8_turns_38 : decode cX8_turns 38 = .ok (.iload_n 3, 1) := by decide +kernel
theorem dX8_turns_39 : decode cX8_turns 39 = .ok (.if_icmp .ge 73, 3) := by decide +kernel
theorem dX8_turns_42 : decode cX8_turns 42 = .ok (.aload_n 0, 1) := by decide +kernel
theorem dX8_turns_43 : decode cX8_turns 43 = .ok (.getfield 7, 3) := by decide +kernel
theorem dX8_turns_46 : decode cX8_turns 46 = .ok (.iconst 1, 1) := by decide +kernel
theorem dX8_turns_47 : decode cX8_turns 47 = .ok (.iload 4, 2) := by decide +kernel
theorem dX8_turns_49 : decode cX8_turns 49 = .ok (.iadd, 1) := by decide +kernel
theorem dX8_turns_50 : decode cX8_turns 50 = .ok (.iaload, 1) := by decide +kernel
theorem dX8_turns_51 : decode cX8_turns 51 = .ok (.istore 5, 2) := by decide +kernel
theorem dX8_turns_53 : decode cX8_turns 53 = .ok (.aload_n 0, 1) := by decide +kernel
theorem dX8_turns_54 : decode cX8_turns 54 = .ok (.getfield 7, 3) := by decide +kernel
theorem dX8_turns_57 : decode cX8_turns 57 = .ok (.iconst 1, 1) := by decide +kernel
theorem dX8_turns_58 : decode cX8_turns 58 = .ok (.iload 4, 2) := by decide +kernel
theorem dX8_turns_60 : decode cX8_turns 60 = .ok (.iadd, 1) := by decide +kernel
theorem dX8_turns_61 : decode cX8_turns 61 = .ok (.dup2, 1) := by decide +kernel
theorem dX8_turns_62 : decode cX8_turns 62 = .ok (.iaload, 1) := by decide +kernel
theorem dX8_turns_63 : decode cX8_turns 63 = .ok (.iload 5, 2) := by decide +kernel
theorem dX8_turns_65 : decode cX8_turns 65 = .ok (.i2l, 1) := by decide +kernel
theorem dX8_turns_66 : decode cX8_turns 66 = .ok (.ldc2_w 54, 3) := by decide +kernel
theorem dX8_turns_69 : decode cX8_turns 69 = .ok (.ldc2_w 56, 3) := by decide +kernel
theorem dX8_turns_72 : decode cX8_turns 72 = .ok (.invokestatic 58, 3) := by decide +kernel
theorem dX8_turns_75 : decode cX8_turns 75 = .ok (.ifCond .eq 8, 3) := by decide +kernel
theorem dX8_turns_78 : decode cX8_turns 78 = .ok (.bipush (-32), 2) := by decide +kernel
theorem dX8_turns_80 : decode cX8_turns 80 = .ok (.goto 24, 3) := by decide +kernel
theorem dX8_turns_83 : decode cX8_turns 83 = .ok (.iload 5, 2) := by decide +kernel
theorem dX8_turns_85 : decode cX8_turns 85 = .ok (.i2l, 1) := by decide +kernel
theorem dX8_turns_86 : decode cX8_turns 86 = .ok (.ldc2_w 62, 3) := by decide +kernel
theorem dX8_turns_89 : decode cX8_turns 89 = .ok (.ldc2_w 64, 3) := by decide +kernel
theorem dX8_turns_92 : decode cX8_turns 92 = .ok (.invokestatic 58, 3) := by decide +kernel
theorem dX8_turns_95 : decode cX8_turns 95 = .ok (.ifCond .eq 8, 3) := by decide +kernel
theorem dX8_turns_98 : decode cX8_turns 98 = .ok (.bipush 32, 2) := by decide +kernel
theorem dX8_turns_100 : decode cX8_turns 100 = .ok (.goto 4, 3) := by decide +kernel
theorem dX8_turns_103 : decode cX8_turns 103 = .ok (.iconst 0, 1) := by decide +kernel
theorem dX8_turns_104 : decode cX8_turns 104 = .ok (.iadd, 1) := by decide +kernel
theorem dX8_turns_105 : decode cX8_turns 105 = .ok (.iastore, 1) := by decide +kernel
theorem dX8_turns_106 : decode cX8_turns 106 = .ok (.iinc 4 1, 3) := by decide +kernel
theorem dX8_turns_109 : decode cX8_turns 109 = .ok (.goto (-73), 3) := by decide +kernel
theorem dX8_turns_112 : decode cX8_turns 112 = .ok (.aload_n 0, 1) := by decide +kernel
theorem dX8_turns_113 : decode cX8_turns 113 = .ok (.getfield 7, 3) := by decide +kernel
theorem dX8_turns_116 : decode cX8_turns 116 = .ok (.bipush 61, 2) := by decide +kernel
theorem dX8_turns_118 : decode cX8_turns 118 = .ok (.iload_n 3, 1) := by decide +kernel
theorem dX8_turns_119 : decode cX8_turns 119 = .ok (.aload_n 0, 1) := by decide +kernel
theorem dX8_turns_120 : decode cX8_turns 120 = .ok (.invokevirtual 77, 3) := by decide +kernel
theorem dX8_turns_123 : decode cX8_turns 123 = .ok (.invokestatic 94, 3) := by decide +kernel
theorem dX8_turns_126 : decode cX8_turns 126 = .ok (.iastore, 1) := by decide +kernel
theorem dX8_turns_127 : decode cX8_turns 127 = .ok (.aload_n 0, 1) := by decide +kernel
theorem dX8_turns_128 : decode cX8_turns 128 = .ok (.invokevirtual 110, 3) := by decide +kernel
theorem dX8_turns_131 : decode cX8_turns 131 = .ok (.iconst 0, 1) := by decide +kernel
theorem dX8_turns_132 : decode cX8_turns 132 = .ok (.ireturn, 1) := by decide +kernel
theorem dX8_puts_0 : decode cX8_puts 0 = .ok (.iload_n 2, 1) := by decide +kernel
theorem dX8_puts_1 : decode cX8_puts 1 = .ok (.aload_n 0, 1) := by decide +kernel
theorem dX8_puts_2 : decode cX8_puts 2 = .ok (.getfield 7, 3) := by decide +kernel
theorem dX8_puts_5 : decode cX8_puts 5 = .ok (.bipush 63, 2) := by decide +kernel
theorem dX8_puts_7 : decode cX8_puts 7 = .ok (.iaload, 1) := by decide +kernel
theorem dX8_puts_8 : decode cX8_puts 8 = .ok (.imul, 1) := by decide +kernel
theorem dX8_puts_9 : decode cX8_puts 9 = .ok (.istore_n 3, 1) := by decide +kernel
theorem dX8_puts_10 : decode cX8_puts 10 = .ok (.iload_n 3, 1) := by decide +kernel
theorem dX8_puts_11 : decode cX8_puts 11 = .ok (.ifCond .eq 16, 3) := by decide +kernel
theorem dX8_puts_14 : decode cX8_puts 14 = .ok (.aload_n 0, 1) := by decide +kernel
theorem dX8_puts_15 : decode cX8_puts 15 = .ok (.getfield 7, 3) := by decide +kernel
theorem dX8_puts_18 : decode cX8_puts 18 = .ok (.iconst 0, 1) := by decide +kernel
theorem dX8_puts_19 : decode cX8_puts 19 = .ok (.iaload, 1) := by decide +kernel
theorem dX8_puts_20 : decode cX8_puts 20 = .ok (.iload_n 3, 1) := by decide +kernel
theorem dX8_puts_21 : decode cX8_puts 21 = .ok (.iadd, 1) := by decide +kernel
theorem dX8_puts_22 : decode cX8_puts 22 = .ok (.bipush 60, 2) := by decide +kernel
theorem dX8_puts_24 : decode cX8_puts 24 = .ok (.if_icmp .le 6, 3) := by decide +kernel
theorem dX8_puts_27 : decode cX8_puts 27 = .ok (.bipush (-2), 2) := by decide +kernel
theorem dX8_puts_29 : decode cX8_puts 29 = .ok (.ireturn, 1) := by decide +kernel
theorem dX8_puts_30 : decode cX8_puts 30 = .ok (.iload_n 1, 1) := by decide +kernel
theorem dX8_puts_31 : decode cX8_puts 31 = .ok (.ifCond .eq 24, 3) := by decide +kernel
theorem dX8_puts_34 : decode cX8_puts 34 = .ok (.aload_n 0, 1) := by decide +kernel
theorem dX8_puts_35 : decode cX8_puts 35 = .ok (.getfield 7, 3) := by decide +kernel
theorem dX8_puts_38 : decode cX8_puts 38 = .ok (.iconst 0, 1) := by decide +kernel
theorem dX8_puts_39 : decode cX8_puts 39 = .ok (.iaload, 1) := by decide +kernel
theorem dX8_puts_40 : decode cX8_puts 40 = .ok (.ifCond .le 15, 3) := by decide +kernel
theorem dX8_puts_43 : decode cX8_puts 43 = .ok (.aload_n 0, 1) := by decide +kernel
theorem dX8_puts_44 : decode cX8_puts 44 = .ok (.getfield 7, 3) := by decide +kernel
theorem dX8_puts_47 : decode cX8_puts 47 = .ok (.bipush 61, 2) := by decide +kernel
theorem dX8_puts_49 : decode cX8_puts 49 = .ok (.iaload, 1) := by decide +kernel
theorem dX8_puts_50 : decode cX8_puts 50 = .ok (.iconst 1, 1) := by decide +kernel
theorem dX8_puts_51 : decode cX8_puts 51 = .ok (.iadd, 1) := by decide +kernel
theorem dX8_puts_52 : decode cX8_puts 52 = .ok (.goto 10, 3) := by decide +kernel
theorem dX8_puts_55 : decode cX8_puts 55 = .ok (.aload_n 0, 1) := by decide +kernel
theorem dX8_puts_56 : decode cX8_puts 56 = .ok (.getfield 7, 3) := by decide +kernel
theorem dX8_puts_59 : decode cX8_puts 59 = .ok (.bipush 61, 2) := by decide +kernel
theorem dX8_puts_61 : decode cX8_puts 61 = .ok (.iaload, 1) := by decide +kernel
theorem dX8_puts_62 : decode cX8_puts 62 = .ok (.istore 4, 2) := by decide +kernel
theorem dX8_puts_64 : decode cX8_puts 64 = .ok (.aload_n 0, 1) := by decide +kernel
theorem dX8_puts_65 : decode cX8_puts 65 = .ok (.getfield 7, 3) := by decide +kernel
theorem dX8_puts_68 : decode cX8_puts 68 = .ok (.iconst 0, 1) := by decide +kernel
theorem dX8_puts_69 : decode cX8_puts 69 = .ok (.iaload, 1) := by decide +kernel
theorem dX8_puts_70 : decode cX8_puts 70 = .ok (.iconst 1, 1) := by decide +kernel
theorem dX8_puts_71 : decode cX8_puts 71 = .ok (.isub, 1) := by decide +kernel
theorem dX8_puts_72 : decode cX8_puts 72 = .ok (.istore 5, 2) := by decide +kernel
theorem dX8_puts_74 : decode cX8_puts 74 = .ok (.iload 5, 2) := by decide +kernel
theorem dX8_puts_76 : decode cX8_puts 76 = .ok (.iload 4, 2) := by decide +kernel
theorem dX8_puts_78 : decode cX8_puts 78 = .ok (.if_icmp .lt 29, 3) := by decide +kernel
theorem dX8_puts_81 : decode cX8_puts 81 = .ok (.aload_n 0, 1) := by decide +kernel
theorem dX8_puts_82 : decode cX8_puts 82 = .ok (.getfield 7, 3) := by decide +kernel
theorem dX8_puts_85 : decode cX8_puts 85 = .ok (.iconst 1, 1) := by decide +kernel
theorem dX8_puts_86 : decode cX8_puts 86 = .ok (.iload 5, 2) := by decide +kernel
theorem dX8_puts_88 : decode cX8_puts 88 = .ok (.iadd, 1) := by decide +kernel
theorem dX8_puts_89 : decode cX8_puts 89 = .ok (.iload_n 3, 1) := by decide +kernel
theorem dX8_puts_90 : decode cX8_puts 90 = .ok (.iadd, 1) := by decide +kernel
theorem dX8_puts_91 : decode cX8_puts 91 = .ok (.aload_n 0, 1) := by decide +kernel
theorem dX8_puts_92 : decode cX8_puts 92 = .ok (.getfield 7, 3) := by decide +kernel
theorem dX8_puts_95 : decode cX8_puts 95 = .ok (.iconst 1, 1) := by decide +kernel
theorem dX8_puts_96 : decode cX8_puts 96 = .ok (.iload 5, 2) := by decide +kernel
theorem dX8_puts_98 : decode cX8_puts 98 = .ok (.iadd, 1) := by decide +kernel
theorem dX8_puts_99 : decode cX8_puts 99 = .ok (.iaload, 1) := by decide +kernel
theorem dX8_puts_100 : decode cX8_puts 100 = .ok (.iastore, 1) := by decide +kernel
theorem dX8_puts_101 : decode cX8_puts 101 = .ok (.iinc 5 (-1), 3) := by decide +kernel
theorem dX8_puts_104 : decode cX8_puts 104 = .ok (.goto (-30), 3) := by decide +kernel
theorem dX8_puts_107 : decode cX8_puts 107 = .ok (.iconst 0, 1) := by decide +kernel
theorem dX8_puts_108 : decode cX8_puts 108 = .ok (.istore 5, 2) := by decide +kernel
theorem dX8_puts_110 : decode cX8_puts 110 = .ok (.iload 5, 2) := by decide +kernel
theorem dX8_puts_112 : decode cX8_puts 112 = .ok (.iload_n 3, 1) := by decide +kernel
theorem dX8_puts_113 : decode cX8_puts 113 = .ok (.if_icmp .ge 39, 3) := by decide +kernel
theorem dX8_puts_116 : decode cX8_puts 116 = .ok (.aload_n 0, 1) := by decide +kernel
theorem dX8_puts_117 : decode cX8_puts 117 = .ok (.getfield 7, 3) := by decide +kernel
theorem dX8_puts_120 : decode cX8_puts 120 = .ok (.iconst 1, 1) := by decide +kernel
theorem dX8_puts_121 : decode cX8_puts 121 = .ok (.iload 4, 2) := by decide +kernel
theorem dX8_puts_123 : decode cX8_puts 123 = .ok (.iadd, 1) := by decide +kernel
theorem dX8_puts_124 : decode cX8_puts 124 = .ok (.iload 5, 2) := by decide +kernel
theorem dX8_puts_126 : decode cX8_puts 126 = .ok (.iadd, 1) := by decide +kernel
theorem dX8_puts_127 : decode cX8_puts 127 = .ok (.aload_n 0, 1) := by decide +kernel
theorem dX8_puts_128 : decode cX8_puts 128 = .ok (.getfield 7, 3) := by decide +kernel
theorem dX8_puts_131 : decode cX8_puts 131 = .ok (.bipush 64, 2) := by decide +kernel
theorem dX8_puts_133 : decode cX8_puts 133 = .ok (.iload 5, 2) := by decide +kernel
theorem dX8_puts_135 : decode cX8_puts 135 = .ok (.aload_n 0, 1) := by decide +kernel
theorem dX8_puts_136 : decode cX8_puts 136 = .ok (.getfield 7, 3) := by decide +kernel
theorem dX8_puts_139 : decode cX8_puts 139 = .ok (.bipush 63, 2) := by decide +kernel
theorem dX8_puts_141 : decode cX8_puts 141 = .ok (.iaload, 1) := by decide +kernel
theorem dX8_puts_142 : decode cX8_puts 142 = .ok (.irem, 1) := by decide +kernel
theorem dX8_puts_143 : decode cX8_puts 143 = .ok (.iadd, 1) := by decide +kernel
theorem dX8_puts_144 : decode cX8_puts 144 = .ok (.iaload, 1) := by decide +kernel
theorem dX8_puts_145 : decode cX8_puts 145 = .ok (.iastore, 1) := by decide +kernel
theorem dX8_puts_146 : decode cX8_puts 146 = .ok (.iinc 5 1, 3) := by decide +kernel
theorem dX8_puts_149 : decode cX8_puts 149 = .ok (.goto (-39), 3) := by decide +kernel
theorem dX8_puts_152 : decode cX8_puts 152 = .ok (.aload_n 0, 1) := by decide +kernel
theorem dX8_puts_153 : decode cX8_puts 153 = .ok (.getfield 7, 3) := by decide +kernel
theorem dX8_puts_156 : decode cX8_puts 156 = .ok (.iconst 0, 1) := by decide +kernel
theorem dX8_puts_157 : decode cX8_puts 157 = .ok (.dup2, 1) := by decide +kernel
theorem dX8_puts_158 : decode cX8_puts 158 = .ok (.iaload, 1) := by decide +kernel
theorem dX8_puts_159 : decode cX8_puts 159 = .ok (.iload_n 3, 1) := by decide +kernel
theorem dX8_puts_160 : decode cX8_puts 160 = .ok (.iadd, 1) := by decide +kernel
theorem dX8_puts_161 : decode cX8_puts 161 = .ok (.iastore, 1) := by decide +kernel
theorem dX8_puts_162 : decode cX8_puts 162 = .ok (.aload_n 0, 1) := by decide +kernel
theorem dX8_puts_163 : decode cX8_puts 163 = .ok (.getfield 7, 3) := by decide +kernel
theorem dX8_puts_166 : decode cX8_puts 166 = .ok (.bipush 61, 2) := by decide +kernel
theorem dX8_puts_168 : decode cX8_puts 168 = .ok (.iload 4, 2) := by decide +kernel
theorem dX8_puts_170 : decode cX8_puts 170 = .ok (.iload_n 3, 1) := by decide +kernel
theorem dX8_puts_171 : decode cX8_puts 171 = .ok (.iadd, 1) := by decide +kernel
theorem dX8_puts_172 : decode cX8_puts 172 = .ok (.iconst 1, 1) := by decide +kernel
theorem dX8_puts_173 : decode cX8_puts 173 = .ok (.isub, 1) := by decide +kernel
theorem dX8_puts_174 : decode cX8_puts 174 = .ok (.iastore, 1) := by decide +kernel
theorem dX8_puts_175 : decode cX8_puts 175 = .ok (.aload_n 0, 1) := by decide +kernel
theorem dX8_puts_176 : decode cX8_puts 176 = .ok (.invokevirtual 110, 3) := by decide +kernel
theorem dX8_puts_179 : decode cX8_puts 179 = .ok (.iconst 0, 1) := by decide +kernel
theorem dX8_puts_180 : decode cX8_puts 180 = .ok (.ireturn, 1) := by decide +kernel
theorem dX8_motionOf_0 : decode cX8_motionOf 0 = .ok (.iload_n 1, 1) := by decide +kernel
theorem dX8_motionOf_1 : decode cX8_motionOf 1 = .ok (.bipush 104, 2) := by decide +kernel
theorem dX8_motionOf_3 : decode cX8_motionOf 3 = .ok (.if_icmp .ne 7, 3) := by decide +kernel
theorem dX8_motionOf_6 : decode cX8_motionOf 6 = .ok (.iconst 0, 1) := by decide +kernel
theorem dX8_motionOf_7 : decode cX8_motionOf 7 = .ok (.goto 66, 3) := by decide +kernel
theorem dX8_motionOf_10 : decode cX8_motionOf 10 = .ok (.iload_n 1, 1) := by decide +kernel
theorem dX8_motionOf_11 : decode cX8_motionOf 11 = .ok (.bipush 108, 2) := by decide +kernel
theorem dX8_motionOf_13 : decode cX8_motionOf 13 = .ok (.if_icmp .ne 7, 3) := by decide +kernel
theorem dX8_motionOf_16 : decode cX8_motionOf 16 = .ok (.iconst 1, 1) := by decide +kernel
theorem dX8_motionOf_17 : decode cX8_motionOf 17 = .ok (.goto 56, 3) := by decide +kernel
theorem dX8_motionOf_20 : decode cX8_motionOf 20 = .ok (.iload_n 1, 1) := by decide +kernel
theorem dX8_motionOf_21 : decode cX8_motionOf 21 = .ok (.bipush 48, 2) := by decide +kernel
theorem dX8_motionOf_23 : decode cX8_motionOf 23 = .ok (.if_icmp .ne 7, 3) := by decide +kernel
theorem dX8_motionOf_26 : decode cX8_motionOf 26 = .ok (.iconst 2, 1) := by decide +kernel
theorem dX8_motionOf_27 : decode cX8_motionOf 27 = .ok (.goto 46, 3) := by decide +kernel
theorem dX8_motionOf_30 : decode cX8_motionOf 30 = .ok (.iload_n 1, 1) := by decide +kernel
theorem dX8_motionOf_31 : decode cX8_motionOf 31 = .ok (.bipush 36, 2) := by decide +kernel
theorem dX8_motionOf_33 : decode cX8_motionOf 33 = .ok (.if_icmp .ne 7, 3) := by decide +kernel
theorem dX8_motionOf_36 : decode cX8_motionOf 36 = .ok (.iconst 3, 1) := by decide +kernel
theorem dX8_motionOf_37 : decode cX8_motionOf 37 = .ok (.goto 36, 3) := by decide +kernel
theorem dX8_motionOf_40 : decode cX8_motionOf 40 = .ok (.iload_n 1, 1) := by decide +kernel
theorem dX8_motionOf_41 : decode cX8_motionOf 41 = .ok (.bipush 119, 2) := by decide +kernel
theorem dX8_motionOf_43 : decode cX8_motionOf 43 = .ok (.if_icmp .ne 7, 3) := by decide +kernel
theorem dX8_motionOf_46 : decode cX8_motionOf 46 = .ok (.iconst 4, 1) := by decide +kernel
theorem dX8_motionOf_47 : decode cX8_motionOf 47 = .ok (.goto 26, 3) := by decide +kernel
theorem dX8_motionOf_50 : decode cX8_motionOf 50 = .ok (.iload_n 1, 1) := by decide +kernel
theorem dX8_motionOf_51 : decode cX8_motionOf 51 = .ok (.bipush 98, 2) := by decide +kernel
theorem dX8_motionOf_53 : decode cX8_motionOf 53 = .ok (.if_icmp .ne 7, 3) := by decide +kernel
theorem dX8_motionOf_56 : decode cX8_motionOf 56 = .ok (.iconst 5, 1) := by decide +kernel
theorem dX8_motionOf_57 : decode cX8_motionOf 57 = .ok (.goto 16, 3) := by decide +kernel
theorem dX8_motionOf_60 : decode cX8_motionOf 60 = .ok (.iload_n 1, 1) := by decide +kernel
theorem dX8_motionOf_61 : decode cX8_motionOf 61 = .ok (.bipush 101, 2) := by decide +kernel
theorem dX8_motionOf_63 : decode cX8_motionOf 63 = .ok (.if_icmp .ne 8, 3) := by decide +kernel
theorem dX8_motionOf_66 : decode cX8_motionOf 66 = .ok (.bipush 6, 2) := by decide +kernel
theorem dX8_motionOf_68 : decode cX8_motionOf 68 = .ok (.goto 5, 3) := by decide +kernel
theorem dX8_motionOf_71 : decode cX8_motionOf 71 = .ok (.bipush (-4), 2) := by decide +kernel
theorem dX8_motionOf_73 : decode cX8_motionOf 73 = .ok (.ireturn, 1) := by decide +kernel
theorem dX8_waited_0 : decode cX8_waited 0 = .ok (.aload_n 0, 1) := by decide +kernel
theorem dX8_waited_1 : decode cX8_waited 1 = .ok (.getfield 7, 3) := by decide +kernel
theorem dX8_waited_4 : decode cX8_waited 4 = .ok (.sipush 193, 3) := by decide +kernel
theorem dX8_waited_7 : decode cX8_waited 7 = .ok (.iaload, 1) := by decide +kernel
theorem dX8_waited_8 : decode cX8_waited 8 = .ok (.lookupswitch 220 #[(39, 99), (102, 52), (109, 182), (114, 172), (116, 52)], 52) := by decide +kernel
theorem dX8_waited_60 : decode cX8_waited 60 = .ok (.aload_n 0, 1) := by decide +kernel
theorem dX8_waited_61 : decode cX8_waited 61 = .ok (.iload_n 1, 1) := by decide +kernel
theorem dX8_waited_62 : decode cX8_waited 62 = .ok (.aload_n 0, 1) := by decide +kernel
theorem dX8_waited_63 : decode cX8_waited 63 = .ok (.invokevirtual 116, 3) := by decide +kernel
theorem dX8_waited_66 : decode cX8_waited 66 = .ok (.invokevirtual 137, 3) := by decide +kernel
theorem dX8_waited_69 : decode cX8_waited 69 = .ok (.istore_n 2, 1) := by decide +kernel
theorem dX8_waited_70 : decode cX8_waited 70 = .ok (.iload_n 2, 1) := by decide +kernel
theorem dX8_waited_71 : decode cX8_waited 71 = .ok (.bipush (-4), 2) := by decide +kernel
theorem dX8_waited_73 : decode cX8_waited 73 = .ok (.if_icmp .ne 8, 3) := by decide +kernel
theorem dX8_waited_76 : decode cX8_waited 76 = .ok (.bipush (-2), 2) := by decide +kernel
theorem dX8_waited_78 : decode cX8_waited 78 = .ok (.goto 28, 3) := by decide +kernel
theorem dX8_waited_81 : decode cX8_waited 81 = .ok (.aload_n 0, 1) := by decide +kernel
theorem dX8_waited_82 : decode cX8_waited 82 = .ok (.aload_n 0, 1) := by decide +kernel
theorem dX8_waited_83 : decode cX8_waited 83 = .ok (.getfield 7, 3) := by decide +kernel
theorem dX8_waited_86 : decode cX8_waited 86 = .ok (.sipush 193, 3) := by decide +kernel
theorem dX8_waited_89 : decode cX8_waited 89 = .ok (.iaload, 1) := by decide +kernel
theorem dX8_waited_90 : decode cX8_waited 90 = .ok (.bipush 102, 2) := by decide +kernel
theorem dX8_waited_92 : decode cX8_waited 92 = .ok (.if_icmp .ne 7, 3) := by decide +kernel
theorem dX8_waited_95 : decode cX8_waited 95 = .ok (.iload_n 2, 1) := by decide +kernel
theorem dX8_waited_96 : decode cX8_waited 96 = .ok (.goto 6, 3) := by decide +kernel
theorem dX8_waited_99 : decode cX8_waited 99 = .ok (.iload_n 2, 1) := by decide +kernel
theorem dX8_waited_100 : decode cX8_waited 100 = .ok (.iconst 1, 1) := by decide +kernel
theorem dX8_waited_101 : decode cX8_waited 101 = .ok (.isub, 1) := by decide +kernel
theorem dX8_waited_102 : decode cX8_waited 102 = .ok (.iconst 1, 1) := by decide +kernel
theorem dX8_waited_103 : decode cX8_waited 103 = .ok (.invokevirtual 122, 3) := by decide +kernel
theorem dX8_waited_106 : decode cX8_waited 106 = .ok (.ireturn, 1) := by decide +kernel
theorem dX8_waited_107 : decode cX8_waited 107 = .ok (.iload_n 1, 1) := by decide +kernel
theorem dX8_waited_108 : decode cX8_waited 108 = .ok (.i2l, 1) := by decide +kernel
theorem dX8_waited_109 : decode cX8_waited 109 = .ok (.ldc2_w 54, 3) := by decide +kernel
theorem dX8_waited_112 : decode cX8_waited 112 = .ok (.ldc2_w 140, 3) := by decide +kernel
theorem dX8_waited_115 : decode cX8_waited 115 = .ok (.invokestatic 58, 3) := by decide +kernel
theorem dX8_waited_118 : decode cX8_waited 118 = .ok (.ifCond .eq 24, 3) := by decide +kernel
theorem dX8_waited_121 : decode cX8_waited 121 = .ok (.aload_n 0, 1) := by decide +kernel
theorem dX8_waited_122 : decode cX8_waited 122 = .ok (.getfield 7, 3) := by decide +kernel
theorem dX8_waited_125 : decode cX8_waited 125 = .ok (.bipush 124, 2) := by decide +kernel
theorem dX8_waited_127 : decode cX8_waited 127 = .ok (.iload_n 1, 1) := by decide +kernel
theorem dX8_waited_128 : decode cX8_waited 128 = .ok (.iadd, 1) := by decide +kernel
theorem dX8_waited_129 : decode cX8_waited 129 = .ok (.bipush 97, 2) := by decide +kernel
theorem dX8_waited_131 : decode cX8_waited 131 = .ok (.isub, 1) := by decide +kernel
theorem dX8_waited_132 : decode cX8_waited 132 = .ok (.iaload, 1) := by decide +kernel
theorem dX8_waited_133 : decode cX8_waited 133 = .ok (.bipush (-4), 2) := by decide +kernel
theorem dX8_waited_135 : decode cX8_waited 135 = .ok (.if_icmp .eq 7, 3) := by decide +kernel
theorem dX8_waited_138 : decode cX8_waited 138 = .ok (.iconst 1, 1) := by decide +kernel
theorem dX8_waited_139 : decode cX8_waited 139 = .ok (.goto 4, 3) := by decide +kernel
theorem dX8_waited_142 : decode cX8_waited 142 = .ok (.iconst 0, 1) := by decide +kernel
theorem dX8_waited_143 : decode cX8_waited 143 = .ok (.istore_n 3, 1) := by decide +kernel
theorem dX8_waited_144 : decode cX8_waited 144 = .ok (.iload_n 3, 1) := by decide +kernel
theorem dX8_waited_145 : decode cX8_waited 145 = .ok (.ifCond .eq 32, 3) := by decide +kernel
theorem dX8_waited_148 : decode cX8_waited 148 = .ok (.aload_n 0, 1) := by decide +kernel
theorem dX8_waited_149 : decode cX8_waited 149 = .ok (.aload_n 0, 1) := by decide +kernel
theorem dX8_waited_150 : decode cX8_waited 150 = .ok (.getfield 7, 3) := by decide +kernel
theorem dX8_waited_153 : decode cX8_waited 153 = .ok (.bipush 124, 2) := by decide +kernel
theorem dX8_waited_155 : decode cX8_waited 155 = .ok (.iload_n 1, 1) := by decide +kernel
theorem dX8_waited_156 : decode cX8_waited 156 = .ok (.iadd, 1) := by decide +kernel
theorem dX8_waited_157 : decode cX8_waited 157 = .ok (.bipush 97, 2) := by decide +kernel
theorem dX8_waited_159 : decode cX8_waited 159 = .ok (.isub, 1) := by decide +kernel
theorem dX8_waited_160 : decode cX8_waited 160 = .ok (.iaload, 1) := by decide +kernel
theorem dX8_waited_161 : decode cX8_waited 161 = .ok (.aload_n 0, 1) := by decide +kernel
theorem dX8_waited_162 : decode cX8_waited 162 = .ok (.getfield 7, 3) := by decide +kernel
theorem dX8_waited_165 : decode cX8_waited 165 = .ok (.iconst 0, 1) := by decide +kernel
theorem dX8_waited_166 : decode cX8_waited 166 = .ok (.iaload, 1) := by decide +kernel
theorem dX8_waited_167 : decode cX8_waited 167 = .ok (.invokestatic 94, 3) := by decide +kernel
theorem dX8_waited_170 : decode cX8_waited 170 = .ok (.iconst 0, 1) := by decide +kernel
theorem dX8_waited_171 : decode cX8_waited 171 = .ok (.invokevirtual 122, 3) := by decide +kernel
theorem dX8_waited_174 : decode cX8_waited 174 = .ok (.goto 5, 3) := by decide +kernel
theorem dX8_waited_177 : decode cX8_waited 177 = .ok (.bipush (-2), 2) := by decide +kernel
theorem dX8_waited_179 : decode cX8_waited 179 = .ok (.ireturn, 1) := by decide +kernel
theorem dX8_waited_180 : decode cX8_waited 180 = .ok (.aload_n 0, 1) := by decide +kernel
theorem dX8_waited_181 : decode cX8_waited 181 = .ok (.iload_n 1, 1) := by decide +kernel
theorem dX8_waited_182 : decode cX8_waited 182 = .ok (.aload_n 0, 1) := by decide +kernel
theorem dX8_waited_183 : decode cX8_waited 183 = .ok (.invokevirtual 116, 3) := by decide +kernel
theorem dX8_waited_186 : decode cX8_waited 186 = .ok (.invokevirtual 142, 3) := by decide +kernel
theorem dX8_waited_189 : decode cX8_waited 189 = .ok (.ireturn, 1) := by decide +kernel
theorem dX8_waited_190 : decode cX8_waited 190 = .ok (.iload_n 1, 1) := by decide +kernel
theorem dX8_waited_191 : decode cX8_waited 191 = .ok (.i2l, 1) := by decide +kernel
theorem dX8_waited_192 : decode cX8_waited 192 = .ok (.ldc2_w 54, 3) := by decide +kernel
theorem dX8_waited_195 : decode cX8_waited 195 = .ok (.ldc2_w 140, 3) := by decide +kernel
theorem dX8_waited_198 : decode cX8_waited 198 = .ok (.invokestatic 58, 3) := by decide +kernel
theorem dX8_waited_201 : decode cX8_waited 201 = .ok (.ifCond .ne 6, 3) := by decide +kernel
theorem dX8_waited_204 : decode cX8_waited 204 = .ok (.bipush (-2), 2) := by decide +kernel
theorem dX8_waited_206 : decode cX8_waited 206 = .ok (.ireturn, 1) := by decide +kernel
theorem dX8_waited_207 : decode cX8_waited 207 = .ok (.aload_n 0, 1) := by decide +kernel
theorem dX8_waited_208 : decode cX8_waited 208 = .ok (.getfield 7, 3) := by decide +kernel
theorem dX8_waited_211 : decode cX8_waited 211 = .ok (.bipush 124, 2) := by decide +kernel
theorem dX8_waited_213 : decode cX8_waited 213 = .ok (.iload_n 1, 1) := by decide +kernel
theorem dX8_waited_214 : decode cX8_waited 214 = .ok (.iadd, 1) := by decide +kernel
theorem dX8_waited_215 : decode cX8_waited 215 = .ok (.bipush 97, 2) := by decide +kernel
theorem dX8_waited_217 : decode cX8_waited 217 = .ok (.isub, 1) := by decide +kernel
theorem dX8_waited_218 : decode cX8_waited 218 = .ok (.aload_n 0, 1) := by decide +kernel
theorem dX8_waited_219 : decode cX8_waited 219 = .ok (.getfield 7, 3) := by decide +kernel
theorem dX8_waited_222 : decode cX8_waited 222 = .ok (.bipush 61, 2) := by decide +kernel
theorem dX8_waited_224 : decode cX8_waited 224 = .ok (.iaload, 1) := by decide +kernel
theorem dX8_waited_225 : decode cX8_waited 225 = .ok (.iastore, 1) := by decide +kernel
theorem dX8_waited_226 : decode cX8_waited 226 = .ok (.iconst 0, 1) := by decide +kernel
theorem dX8_waited_227 : decode cX8_waited 227 = .ok (.ireturn, 1) := by decide +kernel
theorem dX8_waited_228 : decode cX8_waited 228 = .ok (.aload_n 0, 1) := by decide +kernel
theorem dX8_waited_229 : decode cX8_waited 229 = .ok (.aload_n 0, 1) := by decide +kernel
theorem dX8_waited_230 : decode cX8_waited 230 = .ok (.getfield 7, 3) := by decide +kernel
theorem dX8_waited_233 : decode cX8_waited 233 = .ok (.sipush 193, 3) := by decide +kernel
theorem dX8_waited_236 : decode cX8_waited 236 = .ok (.iaload, 1) := by decide +kernel
theorem dX8_waited_237 : decode cX8_waited 237 = .ok (.bipush 97, 2) := by decide +kernel
theorem dX8_waited_239 : decode cX8_waited 239 = .ok (.if_icmp .ne 7, 3) := by decide +kernel
theorem dX8_waited_242 : decode cX8_waited 242 = .ok (.iconst 1, 1) := by decide +kernel
theorem dX8_waited_243 : decode cX8_waited 243 = .ok (.goto 4, 3) := by decide +kernel
theorem dX8_waited_246 : decode cX8_waited 246 = .ok (.iconst 0, 1) := by decide +kernel
theorem dX8_waited_247 : decode cX8_waited 247 = .ok (.iload_n 1, 1) := by decide +kernel
theorem dX8_waited_248 : decode cX8_waited 248 = .ok (.invokevirtual 145, 3) := by decide +kernel
theorem dX8_waited_251 : decode cX8_waited 251 = .ok (.ireturn, 1) := by decide +kernel
theorem dX8_waits_0 : decode cX8_waits 0 = .ok (.aload_n 0, 1) := by decide +kernel
theorem dX8_waits_1 : decode cX8_waits 1 = .ok (.getfield 7, 3) := by decide +kernel
theorem dX8_waits_4 : decode cX8_waits 4 = .ok (.sipush 193, 3) := by decide +kernel
theorem dX8_waits_7 : decode cX8_waits 7 = .ok (.iload_n 1, 1) := by decide +kernel
theorem dX8_waits_8 : decode cX8_waits 8 = .ok (.iastore, 1) := by decide +kernel
theorem dX8_waits_9 : decode cX8_waits 9 = .ok (.iconst 1, 1) := by decide +kernel
theorem dX8_waits_10 : decode cX8_waits 10 = .ok (.ireturn, 1) := by decide +kernel
