theorem dX8_farthest_12 : decode cX8_farthest 12 = .ok (.iconst (-1), 1) := by decide +kernel
theorem dX8_farthest_13 : decode cX8_farthest 13 = .ok (.istore_n 2, 1) := by decide +kernel
theorem dX8_farthest_14 : decode cX8_farthest 14 = .ok (.iconst 0, 1) := by decide +kernel
theorem dX8_farthest_15 : decode cX8_farthest 15 = .ok (.istore_n 3, 1) := by decide +kernel
theorem dX8_farthest_16 : decode cX8_farthest 16 = .ok (.aload_n 0, 1) := by decide +kernel
theorem dX8_farthest_17 : decode cX8_farthest 17 = .ok (.invokevirtual 232, 3) := by decide +kernel
theorem dX8_farthest_20 : decode cX8_farthest 20 = .ok (.istore 4, 2) := by decide +kernel
theorem dX8_farthest_22 : decode cX8_farthest 22 = .ok (.iconst 0, 1) := by decide +kernel
theorem dX8_farthest_23 : decode cX8_farthest 23 = .ok (.istore 5, 2) := by decide +kernel
theorem dX8_farthest_25 : decode cX8_farthest 25 = .ok (.iload 5, 2) := by decide +kernel
theorem dX8_farthest_27 : decode cX8_farthest 27 = .ok (.aload_n 0, 1) := by decide +kernel
theorem dX8_farthest_28 : decode cX8_farthest 28 = .ok (.invokevirtual 77, 3) := by decide +kernel
theorem dX8_farthest_31 : decode cX8_farthest 31 = .ok (.if_icmp .gt 56, 3) := by decide +kernel
theorem dX8_farthest_34 : decode cX8_farthest 34 = .ok (.aload_n 0, 1) := by decide +kernel
theorem dX8_farthest_35 : decode cX8_farthest 35 = .ok (.iload 5, 2) := by decide +kernel
theorem dX8_farthest_37 : decode cX8_farthest 37 = .ok (.invokevirtual 229, 3) := by decide +kernel
theorem dX8_farthest_40 : decode cX8_farthest 40 = .ok (.aload_n 0, 1) := by decide +kernel
theorem dX8_farthest_41 : decode cX8_farthest 41 = .ok (.getfield 22, 3) := by decide +kernel
theorem dX8_farthest_44 : decode cX8_farthest 44 = .ok (.iload 4, 2) := by decide +kernel
theorem dX8_farthest_46 : decode cX8_farthest 46 = .ok (.iaload, 1) := by decide +kernel
theorem dX8_farthest_47 : decode cX8_farthest 47 = .ok (.iload_n 2, 1) := by decide +kernel
theorem dX8_farthest_48 : decode cX8_farthest 48 = .ok (.if_icmp .le 8, 3) := by decide +kernel
theorem dX8_farthest_51 : decode cX8_farthest 51 = .ok (.iload 5, 2) := by decide +kernel
theorem dX8_farthest_53 : decode cX8_farthest 53 = .ok (.goto 4, 3) := by decide +kernel
theorem dX8_farthest_56 : decode cX8_farthest 56 = .ok (.iload_n 3, 1) := by decide +kernel
theorem dX8_farthest_57 : decode cX8_farthest 57 = .ok (.istore_n 3, 1) := by decide +kernel
theorem dX8_farthest_58 : decode cX8_farthest 58 = .ok (.aload_n 0, 1) := by decide +kernel
theorem dX8_farthest_59 : decode cX8_farthest 59 = .ok (.getfield 22, 3) := by decide +kernel
theorem dX8_farthest_62 : decode cX8_farthest 62 = .ok (.iload 4, 2) := by decide +kernel
theorem dX8_farthest_64 : decode cX8_farthest 64 = .ok (.iaload, 1) := by decide +kernel
theorem dX8_farthest_65 : decode cX8_farthest 65 = .ok (.iload_n 2, 1) := by decide +kernel
theorem dX8_farthest_66 : decode cX8_farthest 66 = .ok (.if_icmp .le 13, 3) := by decide +kernel
theorem dX8_farthest_69 : decode cX8_farthest 69 = .ok (.aload_n 0, 1) := by decide +kernel
theorem dX8_farthest_70 : decode cX8_farthest 70 = .ok (.getfield 22, 3) := by decide +kernel
theorem dX8_farthest_73 : decode cX8_farthest 73 = .ok (.iload 4, 2) := by decide +kernel
theorem dX8_farthest_75 : decode cX8_farthest 75 = .ok (.iaload, 1) := by decide +kernel
theorem dX8_farthest_76 : decode cX8_farthest 76 = .ok (.goto 4, 3) := by decide +kernel
theorem dX8_farthest_79 : decode cX8_farthest 79 = .ok (.iload_n 2, 1) := by decide +kernel
theorem dX8_farthest_80 : decode cX8_farthest 80 = .ok (.istore_n 2, 1) := by decide +kernel
theorem dX8_farthest_81 : decode cX8_farthest 81 = .ok (.iinc 5 1, 3) := by decide +kernel
theorem dX8_farthest_84 : decode cX8_farthest 84 = .ok (.goto (-59), 3) := by decide +kernel
theorem dX8_farthest_87 : decode cX8_farthest 87 = .ok (.iload_n 1, 1) := by decide +kernel
theorem dX8_farthest_88 : decode cX8_farthest 88 = .ok (.ifCond .ne 7, 3) := by decide +kernel
theorem dX8_farthest_91 : decode cX8_farthest 91 = .ok (.iload_n 2, 1) := by decide +kernel
theorem dX8_farthest_92 : decode cX8_farthest 92 = .ok (.goto 4, 3) := by decide +kernel
theorem dX8_farthest_95 : decode cX8_farthest 95 = .ok (.iload_n 3, 1) := by decide +kernel
theorem dX8_farthest_96 : decode cX8_farthest 96 = .ok (.ireturn, 1) := by decide +kernel
theorem dX8_once_0 : decode cX8_once 0 = .ok (.aload_n 0, 1) := by decide +kernel
theorem dX8_once_1 : decode cX8_once 1 = .ok (.iload_n 1, 1) := by decide +kernel
theorem dX8_once_2 : decode cX8_once 2 = .ok (.invokevirtual 226, 3) := by decide +kernel
theorem dX8_once_5 : decode cX8_once 5 = .ok (.ifCond .ne 5, 3) := by decide +kernel
theorem dX8_once_8 : decode cX8_once 8 = .ok (.iconst (-1), 1) := by decide +kernel
theorem dX8_once_9 : decode cX8_once 9 = .ok (.ireturn, 1) := by decide +kernel
theorem dX8_once_10 : decode cX8_once 10 = .ok (.iconst 0, 1) := by decide +kernel
theorem dX8_once_11 : decode cX8_once 11 = .ok (.istore_n 2, 1) := by decide +kernel
theorem dX8_once_12 : decode cX8_once 12 = .ok (.iconst 0, 1) := by decide +kernel
theorem dX8_once_13 : decode cX8_once 13 = .ok (.istore_n 3, 1) := by decide +kernel
theorem dX8_once_14 : decode cX8_once 14 = .ok (.iload_n 3, 1) := by decide +kernel
theorem dX8_once_15 : decode cX8_once 15 = .ok (.bipush 7, 2) := by decide +kernel
theorem dX8_once_17 : decode cX8_once 17 = .ok (.if_icmp .ge 32, 3) := by decide +kernel
theorem dX8_once_20 : decode cX8_once 20 = .ok (.iload_n 2, 1) := by decide +kernel
theorem dX8_once_21 : decode cX8_once 21 = .ok (.aload_n 0, 1) := by decide +kernel
theorem dX8_once_22 : decode cX8_once 22 = .ok (.iload_n 3, 1) := by decide +kernel
theorem dX8_once_23 : decode cX8_once 23 = .ok (.aload_n 0, 1) := by decide +kernel
theorem dX8_once_24 : decode cX8_once 24 = .ok (.invokevirtual 232, 3) := by decide +kernel
theorem dX8_once_27 : decode cX8_once 27 = .ok (.invokevirtual 223, 3) := by decide +kernel
theorem dX8_once_30 : decode cX8_once 30 = .ok (.iload_n 1, 1) := by decide +kernel
theorem dX8_once_31 : decode cX8_once 31 = .ok (.if_icmp .ne 9, 3) := by decide +kernel
theorem dX8_once_34 : decode cX8_once 34 = .ok (.iconst 1, 1) := by decide +kernel
theorem dX8_once_35 : decode cX8_once 35 = .ok (.iload_n 3, 1) := by decide +kernel
theorem dX8_once_36 : decode cX8_once 36 = .ok (.ishl, 1) := by decide +kernel
theorem dX8_once_37 : decode cX8_once 37 = .ok (.goto 4, 3) := by decide +kernel
theorem dX8_once_40 : decode cX8_once 40 = .ok (.iconst 0, 1) := by decide +kernel
theorem dX8_once_41 : decode cX8_once 41 = .ok (.ior, 1) := by decide +kernel
theorem dX8_once_42 : decode cX8_once 42 = .ok (.istore_n 2, 1) := by decide +kernel
theorem dX8_once_43 : decode cX8_once 43 = .ok (.iinc 3 1, 3) := by decide +kernel
theorem dX8_once_46 : decode cX8_once 46 = .ok (.goto (-32), 3) := by decide +kernel
theorem dX8_once_49 : decode cX8_once 49 = .ok (.iload_n 2, 1) := by decide +kernel
theorem dX8_once_50 : decode cX8_once 50 = .ok (.ireturn, 1) := by decide +kernel
theorem dX8_goes_0 : decode cX8_goes 0 = .ok (.iload_n 1, 1) := by decide +kernel
theorem dX8_goes_1 : decode cX8_goes 1 = .ok (.invokestatic 216, 3) := by decide +kernel
theorem dX8_goes_4 : decode cX8_goes 4 = .ok (.ifCond .eq 15, 3) := by decide +kernel
theorem dX8_goes_7 : decode cX8_goes 7 = .ok (.iload_n 2, 1) := by decide +kernel
theorem dX8_goes_8 : decode cX8_goes 8 = .ok (.i2l, 1) := by decide +kernel
theorem dX8_goes_9 : decode cX8_goes 9 = .ok (.lconst 1, 1) := by decide +kernel
theorem dX8_goes_10 : decode cX8_goes 10 = .ok (.ldc2_w 235, 3) := by decide +kernel
theorem dX8_goes_13 : decode cX8_goes 13 = .ok (.invokestatic 58, 3) := by decide +kernel
theorem dX8_goes_16 : decode cX8_goes 16 = .ok (.ifCond .ne 5, 3) := by decide +kernel
theorem dX8_goes_19 : decode cX8_goes 19 = .ok (.iconst (-1), 1) := by decide +kernel
theorem dX8_goes_20 : decode cX8_goes 20 = .ok (.ireturn, 1) := by decide +kernel
theorem dX8_goes_21 : decode cX8_goes 21 = .ok (.aload_n 0, 1) := by decide +kernel
theorem dX8_goes_22 : decode cX8_goes 22 = .ok (.invokevirtual 232, 3) := by decide +kernel
theorem dX8_goes_25 : decode cX8_goes 25 = .ok (.istore_n 3, 1) := by decide +kernel
theorem dX8_goes_26 : decode cX8_goes 26 = .ok (.iload_n 3, 1) := by decide +kernel
theorem dX8_goes_27 : decode cX8_goes 27 = .ok (.istore 4, 2) := by decide +kernel
theorem dX8_goes_29 : decode cX8_goes 29 = .ok (.iconst 0, 1) := by decide +kernel
theorem dX8_goes_30 : decode cX8_goes 30 = .ok (.istore 5, 2) := by decide +kernel
theorem dX8_goes_32 : decode cX8_goes 32 = .ok (.iload 5, 2) := by decide +kernel
theorem dX8_goes_34 : decode cX8_goes 34 = .ok (.iload_n 2, 1) := by decide +kernel
theorem dX8_goes_35 : decode cX8_goes 35 = .ok (.if_icmp .ge 18, 3) := by decide +kernel
theorem dX8_goes_38 : decode cX8_goes 38 = .ok (.aload_n 0, 1) := by decide +kernel
theorem dX8_goes_39 : decode cX8_goes 39 = .ok (.iload_n 1, 1) := by decide +kernel
theorem dX8_goes_40 : decode cX8_goes 40 = .ok (.iload 4, 2) := by decide +kernel
theorem dX8_goes_42 : decode cX8_goes 42 = .ok (.invokevirtual 119, 3) := by decide +kernel
theorem dX8_goes_45 : decode cX8_goes 45 = .ok (.istore 4, 2) := by decide +kernel
theorem dX8_goes_47 : decode cX8_goes 47 = .ok (.iinc 5 1, 3) := by decide +kernel
theorem dX8_goes_50 : decode cX8_goes 50 = .ok (.goto (-18), 3) := by decide +kernel
theorem dX8_goes_53 : decode cX8_goes 53 = .ok (.iload_n 3, 1) := by decide +kernel
theorem dX8_goes_54 : decode cX8_goes 54 = .ok (.iload 4, 2) := by decide +kernel
theorem dX8_goes_56 : decode cX8_goes 56 = .ok (.invokestatic 94, 3) := by decide +kernel
theorem dX8_goes_59 : decode cX8_goes 59 = .ok (.istore 5, 2) := by decide +kernel
theorem dX8_goes_61 : decode cX8_goes 61 = .ok (.iload 5, 2) := by decide +kernel
theorem dX8_goes_63 : decode cX8_goes 63 = .ok (.iload_n 3, 1) := by decide +kernel
theorem dX8_goes_64 : decode cX8_goes 64 = .ok (.if_icmp .ne 8, 3) := by decide +kernel
theorem dX8_goes_67 : decode cX8_goes 67 = .ok (.iload 4, 2) := by decide +kernel
theorem dX8_goes_69 : decode cX8_goes 69 = .ok (.goto 4, 3) := by decide +kernel
theorem dX8_goes_72 : decode cX8_goes 72 = .ok (.iload_n 3, 1) := by decide +kernel
theorem dX8_goes_73 : decode cX8_goes 73 = .ok (.istore 6, 2) := by decide +kernel
theorem dX8_goes_75 : decode cX8_goes 75 = .ok (.iload_n 1, 1) := by decide +kernel
theorem dX8_goes_76 : decode cX8_goes 76 = .ok (.iconst 3, 1) := by decide +kernel
theorem dX8_goes_77 : decode cX8_goes 77 = .ok (.if_icmp .eq 9, 3) := by decide +kernel
theorem dX8_goes_80 : decode cX8_goes 80 = .ok (.iload_n 1, 1) := by decide +kernel
theorem dX8_goes_81 : decode cX8_goes 81 = .ok (.bipush 6, 2) := by decide +kernel
theorem dX8_goes_83 : decode cX8_goes 83 = .ok (.if_icmp .ne 7, 3) := by decide +kernel
theorem dX8_goes_86 : decode cX8_goes 86 = .ok (.iconst 1, 1) := by decide +kernel
theorem dX8_goes_87 : decode cX8_goes 87 = .ok (.goto 4, 3) := by decide +kernel
theorem dX8_goes_90 : decode cX8_goes 90 = .ok (.iconst 0, 1) := by decide +kernel
theorem dX8_goes_91 : decode cX8_goes 91 = .ok (.istore 7, 2) := by decide +kernel
theorem dX8_goes_93 : decode cX8_goes 93 = .ok (.iload 6, 2) := by decide +kernel
theorem dX8_goes_95 : decode cX8_goes 95 = .ok (.iload 7, 2) := by decide +kernel
theorem dX8_goes_97 : decode cX8_goes 97 = .ok (.ifCond .eq 7, 3) := by decide +kernel
theorem dX8_goes_100 : decode cX8_goes 100 = .ok (.iconst 1, 1) := by decide +kernel
theorem dX8_goes_101 : decode cX8_goes 101 = .ok (.goto 4, 3) := by decide +kernel
theorem dX8_goes_104 : decode cX8_goes 104 = .ok (.iconst 0, 1) := by decide +kernel
theorem dX8_goes_105 : decode cX8_goes 105 = .ok (.iadd, 1) := by decide +kernel
theorem dX8_goes_106 : decode cX8_goes 106 = .ok (.aload_n 0, 1) := by decide +kernel
theorem dX8_goes_107 : decode cX8_goes 107 = .ok (.getfield 7, 3) := by decide +kernel
theorem dX8_goes_110 : decode cX8_goes 110 = .ok (.iconst 0, 1) := by decide +kernel
theorem dX8_goes_111 : decode cX8_goes 111 = .ok (.iaload, 1) := by decide +kernel
theorem dX8_goes_112 : decode cX8_goes 112 = .ok (.invokestatic 94, 3) := by decide +kernel
theorem dX8_goes_115 : decode cX8_goes 115 = .ok (.iload 5, 2) := by decide +kernel
theorem dX8_goes_117 : decode cX8_goes 117 = .ok (.isub, 1) := by decide +kernel
theorem dX8_goes_118 : decode cX8_goes 118 = .ok (.ireturn, 1) := by decide +kernel
theorem dX8_struck_0 : decode cX8_struck 0 = .ok (.aload_n 0, 1) := by decide +kernel
theorem dX8_struck_1 : decode cX8_struck 1 = .ok (.iload_n 1, 1) := by decide +kernel
theorem dX8_struck_2 : decode cX8_struck 2 = .ok (.invokevirtual 226, 3) := by decide +kernel
theorem dX8_struck_5 : decode cX8_struck 5 = .ok (.ifCond .eq 25, 3) := by decide +kernel
theorem dX8_struck_8 : decode cX8_struck 8 = .ok (.iload_n 2, 1) := by decide +kernel
theorem dX8_struck_9 : decode cX8_struck 9 = .ok (.i2l, 1) := by decide +kernel
theorem dX8_struck_10 : decode cX8_struck 10 = .ok (.lconst 0, 1) := by decide +kernel
theorem dX8_struck_11 : decode cX8_struck 11 = .ok (.ldc2_w 237, 3) := by decide +kernel
theorem dX8_struck_14 : decode cX8_struck 14 = .ok (.invokestatic 58, 3) := by decide +kernel
theorem dX8_struck_17 : decode cX8_struck 17 = .ok (.ifCond .eq 13, 3) := by decide +kernel
theorem dX8_struck_20 : decode cX8_struck 20 = .ok (.iload_n 3, 1) := by decide +kernel
theorem dX8_struck_21 : decode cX8_struck 21 = .ok (.i2l, 1) := by decide +kernel
theorem dX8_struck_22 : decode cX8_struck 22 = .ok (.lconst 0, 1) := by decide +kernel
theorem dX8_struck_23 : decode cX8_struck 23 = .ok (.lconst 1, 1) := by decide +kernel
theorem dX8_struck_24 : decode cX8_struck 24 = .ok (.invokestatic 58, 3) := by decide +kernel
theorem dX8_struck_27 : decode cX8_struck 27 = .ok (.ifCond .ne 5, 3) := by decide +kernel
theorem dX8_struck_30 : decode cX8_struck 30 = .ok (.iconst (-1), 1) := by decide +kernel
theorem dX8_struck_31 : decode cX8_struck 31 = .ok (.ireturn, 1) := by decide +kernel
theorem dX8_struck_32 : decode cX8_struck 32 = .ok (.iconst 0, 1) := by decide +kernel
theorem dX8_struck_33 : decode cX8_struck 33 = .ok (.istore 4, 2) := by decide +kernel
theorem dX8_struck_35 : decode cX8_struck 35 = .ok (.iload 4, 2) := by decide +kernel
theorem dX8_struck_37 : decode cX8_struck 37 = .ok (.bipush 60, 2) := by decide +kernel
theorem dX8_struck_39 : decode cX8_struck 39 = .ok (.if_icmp .ge 30, 3) := by decide +kernel
theorem dX8_struck_42 : decode cX8_struck 42 = .ok (.aload_n 0, 1) := by decide +kernel
theorem dX8_struck_43 : decode cX8_struck 43 = .ok (.getfield 25, 3) := by decide +kernel
theorem dX8_struck_46 : decode cX8_struck 46 = .ok (.iload 4, 2) := by decide +kernel
theorem dX8_struck_48 : decode cX8_struck 48 = .ok (.iload 4, 2) := by decide +kernel
theorem dX8_struck_50 : decode cX8_struck 50 = .ok (.aload_n 0, 1) := by decide +kernel
theorem dX8_struck_51 : decode cX8_struck 51 = .ok (.invokevirtual 232, 3) := by decide +kernel
theorem dX8_struck_54 : decode cX8_struck 54 = .ok (.if_icmp .ne 7, 3) := by decide +kernel
theorem dX8_struck_57 : decode cX8_struck 57 = .ok (.iconst 1, 1) := by decide +kernel
theorem dX8_struck_58 : decode cX8_struck 58 = .ok (.goto 4, 3) := by decide +kernel
theorem dX8_struck_61 : decode cX8_struck 61 = .ok (.iconst 0, 1) := by decide +kernel
theorem dX8_struck_62 : decode cX8_struck 62 = .ok (.iastore, 1) := by decide +kernel
theorem dX8_struck_63 : decode cX8_struck 63 = .ok (.iinc 4 1, 3) := by decide +kernel
theorem dX8_struck_66 : decode cX8_struck 66 = .ok (.goto (-31), 3) := by decide +kernel
theorem dX8_struck_69 : decode cX8_struck 69 = .ok (.iconst 1, 1) := by decide +kernel
theorem dX8_struck_70 : decode cX8_struck 70 = .ok (.istore 4, 2) := by decide +kernel
theorem dX8_struck_72 : decode cX8_struck 72 = .ok (.iconst 0, 1) := by decide +kernel
theorem dX8_struck_73 : decode cX8_struck 73 = .ok (.istore 5, 2) := by decide +kernel
theorem dX8_struck_75 : decode cX8_struck 75 = .ok (.iload 5, 2) := by decide +kernel
theorem dX8_struck_77 : decode cX8_struck 77 = .ok (.iload_n 2, 1) := by decide +kernel
theorem dX8_struck_78 : decode cX8_struck 78 = .ok (.if_icmp .ge 127, 3) := by decide +kernel
theorem dX8_struck_81 : decode cX8_struck 81 = .ok (.iconst 0, 1) := by decide +kernel
theorem dX8_struck_82 : decode cX8_struck 82 = .ok (.istore 6, 2) := by decide +kernel
theorem dX8_struck_84 : decode cX8_struck 84 = .ok (.iload 6, 2) := by decide +kernel
theorem dX8_struck_86 : decode cX8_struck 86 = .ok (.bipush 60, 2) := by decide +kernel
theorem dX8_struck_88 : decode cX8_struck 88 = .ok (.if_icmp .ge 17, 3) := by decide +kernel
theorem dX8_struck_91 : decode cX8_struck 91 = .ok (.aload_n 0, 1) := by decide +kernel
theorem dX8_struck_92 : decode cX8_struck 92 = .ok (.getfield 28, 3) := by decide +kernel
theorem dX8_struck_95 : decode cX8_struck 95 = .ok (.iload 6, 2) := by decide +kernel
theorem dX8_struck_97 : decode cX8_struck 97 = .ok (.iconst 0, 1) := by decide +kernel
theorem dX8_struck_98 : decode cX8_struck 98 = .ok (.iastore, 1) := by decide +kernel
theorem dX8_struck_99 : decode cX8_struck 99 = .ok (.iinc 6 1, 3) := by decide +kernel
theorem dX8_struck_102 : decode cX8_struck 102 = .ok (.goto (-18), 3) := by decide +kernel
theorem dX8_struck_105 : decode cX8_struck 105 = .ok (.iconst 0, 1) := by decide +kernel
theorem dX8_struck_106 : decode cX8_struck 106 = .ok (.istore 6, 2) := by decide +kernel
theorem dX8_struck_108 : decode cX8_struck 108 = .ok (.iload 6, 2) := by decide +kernel
theorem dX8_struck_110 : decode cX8_struck 110 = .ok (.aload_n 0, 1) := by decide +kernel
theorem dX8_struck_111 : decode cX8_struck 111 = .ok (.invokevirtual 77, 3) := by decide +kernel
theorem dX8_struck_114 : decode cX8_struck 114 = .ok (.if_icmp .gt 48, 3) := by decide +kernel
theorem dX8_struck_117 : decode cX8_struck 117 = .ok (.iconst 0, 1) := by decide +kernel
theorem dX8_struck_118 : decode cX8_struck 118 = .ok (.istore 7, 2) := by decide +kernel
theorem dX8_struck_120 : decode cX8_struck 120 = .ok (.iload 7, 2) := by decide +kernel
theorem dX8_struck_122 : decode cX8_struck 122 = .ok (.bipush 7, 2) := by decide +kernel
theorem dX8_struck_124 : decode cX8_struck 124 = .ok (.if_icmp .ge 32, 3) := by decide +kernel
theorem dX8_struck_127 : decode cX8_struck 127 = .ok (.aload_n 0, 1) := by decide +kernel
theorem dX8_struck_128 : decode cX8_struck 128 = .ok (.getfield 28, 3) := by decide +kernel
theorem dX8_struck_131 : decode cX8_struck 131 = .ok (.aload_n 0, 1) := by decide +kernel
theorem dX8_struck_132 : decode cX8_struck 132 = .ok (.iload 7, 2) := by decide +kernel
theorem dX8_struck_134 : decode cX8_struck 134 = .ok (.iload 6, 2) := by decide +kernel
theorem dX8_struck_136 : decode cX8_struck 136 = .ok (.invokevirtual 223, 3) := by decide +kernel
theorem dX8_struck_139 : decode cX8_struck 139 = .ok (.dup2, 1) := by decide +kernel
theorem dX8_struck_140 : decode cX8_struck 140 = .ok (.iaload, 1) := by decide +kernel
theorem dX8_struck_141 : decode cX8_struck 141 = .ok (.aload_n 0, 1) := by decide +kernel
theorem dX8_struck_142 : decode cX8_struck 142 = .ok (.getfield 25, 3) := by decide +kernel
theorem dX8_struck_145 : decode cX8_struck 145 = .ok (.iload 6, 2) := by decide +kernel
theorem dX8_struck_147 : decode cX8_struck 147 = .ok (.iaload, 1) := by decide +kernel
theorem dX8_struck_148 : decode cX8_struck 148 = .ok (.iadd, 1) := by decide +kernel
theorem dX8_struck_149 : decode cX8_struck 149 = .ok (.iastore, 1) := by decide +kernel
theorem dX8_struck_150 : decode cX8_struck 150 = .ok (.iinc 7 1, 3) := by decide +kernel
theorem dX8_struck_153 : decode cX8_struck 153 = .ok (.goto (-33), 3) := by decide +kernel
theorem dX8_struck_156 : decode cX8_struck 156 = .ok (.iinc 6 1, 3) := by decide +kernel
theorem dX8_struck_159 : decode cX8_struck 159 = .ok (.goto (-51), 3) := by decide +kernel
theorem dX8_struck_162 : decode cX8_struck 162 = .ok (.iconst 0, 1) := by decide +kernel
theorem dX8_struck_163 : decode cX8_struck 163 = .ok (.istore 6, 2) := by decide +kernel
theorem dX8_struck_165 : decode cX8_struck 165 = .ok (.iload 6, 2) := by decide +kernel
theorem dX8_struck_167 : decode cX8_struck 167 = .ok (.bipush 60, 2) := by decide +kernel
theorem dX8_struck_169 : decode cX8_struck 169 = .ok (.if_icmp .ge 23, 3) := by decide +kernel
theorem dX8_struck_172 : decode cX8_struck 172 = .ok (.aload_n 0, 1) := by decide +kernel
theorem dX8_struck_173 : decode cX8_struck 173 = .ok (.getfield 25, 3) := by decide +kernel
theorem dX8_struck_176 : decode cX8_struck 176 = .ok (.iload 6, 2) := by decide +kernel
theorem dX8_struck_178 : decode cX8_struck 178 = .ok (.aload_n 0, 1) := by decide +kernel
theorem dX8_struck_179 : decode cX8_struck 179 = .ok (.getfield 28, 3) := by decide +kernel
theorem dX8_struck_182 : decode cX8_struck 182 = .ok (.iload 6, 2) := by decide +kernel
theorem dX8_struck_184 : decode cX8_struck 184 = .ok (.iaload, 1) := by decide +kernel
theorem dX8_struck_185 : decode cX8_struck 185 = .ok (.iastore, 1) := by decide +kernel
theorem dX8_struck_186 : decode cX8_struck 186 = .ok (.iinc 6 1, 3) := by decide +kernel
theorem dX8_struck_189 : decode cX8_struck 189 = .ok (.goto (-24), 3) := by decide +kernel
theorem dX8_struck_192 : decode cX8_struck 192 = .ok (.iload 4, 2) := by decide +kernel
theorem dX8_struck_194 : decode cX8_struck 194 = .ok (.bipush 7, 2) := by decide +kernel
theorem dX8_struck_196 : decode cX8_struck 196 = .ok (.imul, 1) := by decide +kernel
theorem dX8_struck_197 : decode cX8_struck 197 = .ok (.istore 4, 2) := by decide +kernel
theorem dX8_struck_199 : decode cX8_struck 199 = .ok (.iinc 5 1, 3) := by decide +kernel
theorem dX8_struck_202 : decode cX8_struck 202 = .ok (.goto (-127), 3) := by decide +kernel
theorem dX8_struck_205 : decode cX8_struck 205 = .ok (.aload_n 0, 1) := by decide +kernel
theorem dX8_struck_206 : decode cX8_struck 206 = .ok (.getfield 25, 3) := by decide +kernel
theorem dX8_struck_209 : decode cX8_struck 209 = .ok (.iload_n 1, 1) := by decide +kernel
theorem dX8_struck_210 : decode cX8_struck 210 = .ok (.iaload, 1) := by decide +kernel
theorem dX8_struck_211 : decode cX8_struck 211 = .ok (.istore 5, 2) := by decide +kernel
theorem dX8_struck_213 : decode cX8_struck 213 = .ok (.iload 4, 2) := by decide +kernel
theorem dX8_struck_215 : decode cX8_struck 215 = .ok (.istore 6, 2) := by decide +kernel
theorem dX8_struck_217 : decode cX8_struck 217 = .ok (.iload 6, 2) := by decide +kernel
theorem dX8_struck_219 : decode cX8_struck 219 = .ok (.ifCond .eq 21, 3) := by decide +kernel
theorem dX8_struck_222 : decode cX8_struck 222 = .ok (.iload 5, 2) := by decide +kernel
theorem dX8_struck_224 : decode cX8_struck 224 = .ok (.iload 6, 2) := by decide +kernel
theorem dX8_struck_226 : decode cX8_struck 226 = .ok (.irem, 1) := by decide +kernel
theorem dX8_struck_227 : decode cX8_struck 227 = .ok (.istore 7, 2) := by decide +kernel
theorem dX8_struck_229 : decode cX8_struck 229 = .ok (.iload 6, 2) := by decide +kernel
theorem dX8_struck_231 : decode cX8_struck 231 = .ok (.istore 5, 2) := by decide +kernel
theorem dX8_struck_233 : decode cX8_struck 233 = .ok (.iload 7, 2) := by decide +kernel
theorem dX8_struck_235 : decode cX8_struck 235 = .ok (.istore 6, 2) := by decide +kernel
theorem dX8_struck_237 : decode cX8_struck 237 = .ok (.goto (-20), 3) := by decide +kernel
theorem dX8_struck_240 : decode cX8_struck 240 = .ok (.iload_n 3, 1) := by decide +kernel
theorem dX8_struck_241 : decode cX8_struck 241 = .ok (.ifCond .ne 12, 3) := by decide +kernel
theorem dX8_struck_244 : decode cX8_struck 244 = .ok (.aload_n 0, 1) := by decide +kernel
theorem dX8_struck_245 : decode cX8_struck 245 = .ok (.getfield 25, 3) := by decide +kernel
theorem dX8_struck_248 : decode cX8_struck 248 = .ok (.iload_n 1, 1) := by decide +kernel
theorem dX8_struck_249 : decode cX8_struck 249 = .ok (.iaload, 1) := by decide +kernel
theorem dX8_struck_250 : decode cX8_struck 250 = .ok (.goto 5, 3) := by decide +kernel
theorem dX8_struck_253 : decode cX8_struck 253 = .ok (.iload 4, 2) := by decide +kernel
theorem dX8_struck_255 : decode cX8_struck 255 = .ok (.iload 5, 2) := by decide +kernel
theorem dX8_struck_257 : decode cX8_struck 257 = .ok (.idiv, 1) := by decide +kernel
theorem dX8_struck_258 : decode cX8_struck 258 = .ok (.ireturn, 1) := by decide +kernel
theorem dX8_image_0 : decode cX8_image 0 = .ok (.iconst 0, 1) := by decide +kernel
theorem dX8_image_1 : decode cX8_image 1 = .ok (.istore_n 1, 1) := by decide +kernel
theorem dX8_image_2 : decode cX8_image 2 = .ok (.iload_n 1, 1) := by decide +kernel
theorem dX8_image_3 : decode cX8_image 3 = .ok (.sipush 263, 3) := by decide +kernel
theorem dX8_image_6 : decode cX8_image 6 = .ok (.if_icmp .ge 21, 3) := by decide +kernel
theorem dX8_image_9 : decode cX8_image 9 = .ok (.aload_n 0, 1) := by decide +kernel
theorem dX8_image_10 : decode cX8_image 10 = .ok (.getfield 31, 3) := by decide +kernel
theorem dX8_image_13 : decode cX8_image 13 = .ok (.iload_n 1, 1) := by decide +kernel
theorem dX8_image_14 : decode cX8_image 14 = .ok (.aload_n 0, 1) := by decide +kernel
theorem dX8_image_15 : decode cX8_image 15 = .ok (.getfield 7, 3) := by decide +kernel
theorem dX8_image_18 : decode cX8_image 18 = .ok (.iload_n 1, 1) := by decide +kernel
theorem dX8_image_19 : decode cX8_image 19 = .ok (.iaload, 1) := by decide +kernel
theorem dX8_image_20 : decode cX8_image 20 = .ok (.iastore, 1) := by decide +kernel
theorem dX8_image_21 : decode cX8_image 21 = .ok (.iinc 1 1, 3) := by decide +kernel
theorem dX8_image_24 : decode cX8_image 24 = .ok (.goto (-22), 3) := by decide +kernel
theorem dX8_image_27 : decode cX8_image 27 = .ok (.iconst 0, 1) := by decide +kernel
theorem dX8_image_28 : decode cX8_image 28 = .ok (.istore_n 1, 1) := by decide +kernel
theorem dX8_image_29 : decode cX8_image 29 = .ok (.iload_n 1, 1) := by decide +kernel
theorem dX8_image_30 : decode cX8_image 30 = .ok (.sipush 496, 3) := by decide +kernel
theorem dX8_image_33 : decode cX8_image 33 = .ok (.if_icmp .ge 21, 3) := by decide +kernel
theorem dX8_image_36 : decode cX8_image 36 = .ok (.aload_n 0, 1) := by decide +kernel
theorem dX8_image_37 : decode cX8_image 37 = .ok (.getfield 34, 3) := by decide +kernel
theorem dX8_image_40 : decode cX8_image 40 = .ok (.iload_n 1, 1) := by decide +kernel
theorem dX8_image_41 : decode cX8_image 41 = .ok (.aload_n 0, 1) := by decide +kernel
theorem dX8_image_42 : decode cX8_image 42 = .ok (.getfield 13, 3) := by decide +kernel
theorem dX8_image_45 : decode cX8_image 45 = .ok (.iload_n 1, 1) := by decide +kernel
theorem dX8_image_46 : decode cX8_image 46 = .ok (.iaload, 1) := by decide +kernel
theorem dX8_image_47 : decode cX8_image 47 = .ok (.iastore, 1) := by decide +kernel
theorem dX8_image_48 : decode cX8_image 48 = .ok (.iinc 1 1, 3) := by decide +kernel
theorem dX8_image_51 : decode cX8_image 51 = .ok (.goto (-22), 3) := by decide +kernel
theorem dX8_image_54 : decode cX8_image 54 = .ok (.aload_n 0, 1) := by decide +kernel
theorem dX8_image_55 : decode cX8_image 55 = .ok (.aload_n 0, 1) := by decide +kernel
theorem dX8_image_56 : decode cX8_image 56 = .ok (.getfield 97, 3) := by decide +kernel
theorem dX8_image_59 : decode cX8_image 59 = .ok (.putfield 37, 3) := by decide +kernel
theorem dX8_image_62 : decode cX8_image 62 = .ok (.iconst 1, 1) := by decide +kernel
theorem dX8_image_63 : decode cX8_image 63 = .ok (.ireturn, 1) := by decide +kernel
theorem dX8_restore_0 : decode cX8_restore 0 = .ok (.aload_n 0, 1) := by decide +kernel
theorem dX8_restore_1 : decode cX8_restore 1 = .ok (.getfield 37, 3) := by decide +kernel
theorem dX8_restore_4 : decode cX8_restore 4 = .ok (.ifCond .ge 6, 3) := by decide +kernel
theorem dX8_restore_7 : decode cX8_restore 7 = .ok (.bipush (-4), 2) := by decide +kernel
theorem dX8_restore_9 : decode cX8_restore 9 = .ok (.ireturn, 1) := by decide +kernel
theorem dX8_restore_10 : decode cX8_restore 10 = .ok (.iconst 0, 1) := by decide +kernel
theorem dX8_restore_11 : decode cX8_restore 11 = .ok (.istore_n 1, 1) := by decide +kernel
theorem dX8_restore_12 : decode cX8_restore 12 = .ok (.iload_n 1, 1) := by decide +kernel
theorem dX8_restore_13 : decode cX8_restore 13 = .ok (.sipush 263, 3) := by decide +kernel
theorem dX8_restore_16 : decode cX8_restore 16 = .ok (.if_icmp .ge 21, 3) := by decide +kernel
theorem dX8_restore_19 : decode cX8_restore 19 = .ok (.aload_n 0, 1) := by decide +kernel
theorem dX8_restore_20 : decode cX8_restore 20 = .ok (.getfield 7, 3) := by decide +kernel
theorem dX8_restore_23 : decode cX8_restore 23 = .ok (.iload_n 1, 1) := by decide +kernel
theorem dX8_restore_24 : decode cX8_restore 24 = .ok (.aload_n 0, 1) := by decide +kernel
theorem dX8_restore_25 : decode cX8_restore 25 = .ok (.getfield 31, 3) := by decide +kernel
theorem dX8_restore_28 : decode cX8_restore 28 = .ok (.iload_n 1, 1) := by decide +kernel
theorem dX8_restore_29 : decode cX8_restore 29 = .ok (.iaload, 1) := by decide +kernel
theorem dX8_restore_30 : decode cX8_restore 30 = .ok (.iastore, 1) := by decide +kernel
theorem dX8_restore_31 : decode cX8_restore 31 = .ok (.iinc 1 1, 3) := by decide +kernel
theorem dX8_restore_34 : decode cX8_restore 34 = .ok (.goto (-22), 3) := by decide +kernel
theorem dX8_restore_37 : decode cX8_restore 37 = .ok (.iconst 0, 1) := by decide +kernel
theorem dX8_restore_38 : decode cX8_restore 38 = .ok (.istore_n 1, 1) := by decide +kernel
theorem dX8_restore_39 : decode cX8_restore 39 = .ok (.iload_n 1, 1) := by decide +kernel
theorem dX8_restore_40 : decode cX8_restore 40 = .ok (.sipush 496, 3) := by decide +kernel
theorem dX8_restore_43 : decode cX8_restore 43 = .ok (.if_icmp .ge 21, 3) := by decide +kernel
theorem dX8_restore_46 : decode cX8_restore 46 = .ok (.aload_n 0, 1) := by decide +kernel
theorem dX8_restore_47 : decode cX8_restore 47 = .ok (.getfield 13, 3) := by decide +kernel
theorem dX8_restore_50 : decode cX8_restore 50 = .ok (.iload_n 1, 1) := by decide +kernel
theorem dX8_restore_51 : decode cX8_restore 51 = .ok (.aload_n 0, 1) := by decide +kernel
theorem dX8_restore_52 : decode cX8_restore 52 = .ok (.getfield 34, 3) := by decide +kernel
theorem dX8_restore_55 : decode cX8_restore 55 = .ok (.iload_n 1, 1) := by decide +kernel
theorem dX8_restore_56 : decode cX8_restore 56 = .ok (.iaload, 1) := by decide +kernel
theorem dX8_restore_57 : decode cX8_restore 57 = .ok (.iastore, 1) := by decide +kernel
theorem dX8_restore_58 : decode cX8_restore 58 = .ok (.iinc 1 1, 3) := by decide +kernel
theorem dX8_restore_61 : decode cX8_restore 61 = .ok (.goto (-22), 3) := by decide +kernel
theorem dX8_restore_64 : decode cX8_restore 64 = .ok (.aload_n 0, 1) := by decide +kernel
theorem dX8_restore_65 : decode cX8_restore 65 = .ok (.aload_n 0, 1) := by decide +kernel
theorem dX8_restore_66 : decode cX8_restore 66 = .ok (.getfield 37, 3) := by decide +kernel
theorem dX8_restore_69 : decode cX8_restore 69 = .ok (.putfield 97, 3) := by decide +kernel
theorem dX8_restore_72 : decode cX8_restore 72 = .ok (.iconst 1, 1) := by decide +kernel
theorem dX8_restore_73 : decode cX8_restore 73 = .ok (.ireturn, 1) := by decide +kernel
theorem dX8_isSheet_0 : decode cX8_isSheet 0 = .ok (.iload_n 0, 1) := by decide +kernel
theorem dX8_isSheet_1 : decode cX8_isSheet 1 = .ok (.i2l, 1) := by decide +kernel
theorem dX8_isSheet_2 : decode cX8_isSheet 2 = .ok (.lconst 0, 1) := by decide +kernel
theorem dX8_isSheet_3 : decode cX8_isSheet 3 = .ok (.ldc2_w 206, 3) := by decide +kernel
theorem dX8_isSheet_6 : decode cX8_isSheet 6 = .ok (.invokestatic 58, 3) := by decide +kernel
theorem dX8_isSheet_9 : decode cX8_isSheet 9 = .ok (.ireturn, 1) := by decide +kernel
theorem dX8_cut_0 : decode cX8_cut 0 = .ok (.iload_n 2, 1) := by decide +kernel
theorem dX8_cut_1 : decode cX8_cut 1 = .ok (.ifCond .ne 10, 3) := by decide +kernel
theorem dX8_cut_4 : decode cX8_cut 4 = .ok (.lload_n 0, 1) := by decide +kernel
theorem dX8_cut_5 : decode cX8_cut 5 = .ok (.l2i, 1) := by decide +kernel
theorem dX8_cut_6 : decode cX8_cut 6 = .ok (.i2b, 1) := by decide +kernel
theorem dX8_cut_7 : decode cX8_cut 7 = .ok (.i2l, 1) := by decide +kernel
theorem dX8_cut_8 : decode cX8_cut 8 = .ok (.goto 27, 3) := by decide +kernel
theorem dX8_cut_11 : decode cX8_cut 11 = .ok (.iload_n 2, 1) := by decide +kernel
theorem dX8_cut_12 : decode cX8_cut 12 = .ok (.iconst 1, 1) := by decide +kernel
theorem dX8_cut_13 : decode cX8_cut 13 = .ok (.if_icmp .ne 10, 3) := by decide +kernel
theorem dX8_cut_16 : decode cX8_cut 16 = .ok (.lload_n 0, 1) := by decide +kernel
theorem dX8_cut_17 : decode cX8_cut 17 = .ok (.l2i, 1) := by decide +kernel
theorem dX8_cut_18 : decode cX8_cut 18 = .ok (.i2s, 1) := by decide +kernel
theorem dX8_cut_19 : decode cX8_cut 19 = .ok (.i2l, 1) := by decide +kernel
theorem dX8_cut_20 : decode cX8_cut 20 = .ok (.goto 15, 3) := by decide +kernel
theorem dX8_cut_23 : decode cX8_cut 23 = .ok (.iload_n 2, 1) := by decide +kernel
theorem dX8_cut_24 : decode cX8_cut 24 = .ok (.iconst 2, 1) := by decide +kernel
theorem dX8_cut_25 : decode cX8_cut 25 = .ok (.if_icmp .ne 9, 3) := by decide +kernel
theorem dX8_cut_28 : decode cX8_cut 28 = .ok (.lload_n 0, 1) := by decide +kernel
theorem dX8_cut_29 : decode cX8_cut 29 = .ok (.l2i, 1) := by decide +kernel
theorem dX8_cut_30 : decode cX8_cut 30 = .ok (.i2l, 1) := by decide +kernel
theorem dX8_cut_31 : decode cX8_cut 31 = .ok (.goto 4, 3) := by decide +kernel
theorem dX8_cut_34 : decode cX8_cut 34 = .ok (.lload_n 0, 1) := by decide +kernel
theorem dX8_cut_35 : decode cX8_cut 35 = .ok (.lreturn, 1) := by decide +kernel
theorem dX8_sheet_0 : decode cX8_sheet 0 = .ok (.iload_n 1, 1) := by decide +kernel
theorem dX8_sheet_1 : decode cX8_sheet 1 = .ok (.invokestatic 239, 3) := by decide +kernel
theorem dX8_sheet_4 : decode cX8_sheet 4 = .ok (.ifCond .eq 21, 3) := by decide +kernel
theorem dX8_sheet_7 : decode cX8_sheet 7 = .ok (.iload_n 2, 1) := by decide +kernel
theorem dX8_sheet_8 : decode cX8_sheet 8 = .ok (.i2l, 1) := by decide +kernel
theorem dX8_sheet_9 : decode cX8_sheet 9 = .ok (.lconst 0, 1) := by decide +kernel
theorem dX8_sheet_10 : decode cX8_sheet 10 = .ok (.ldc2_w 206, 3) := by decide +kernel
theorem dX8_sheet_13 : decode cX8_sheet 13 = .ok (.invokestatic 58, 3) := by decide +kernel
theorem dX8_sheet_16 : decode cX8_sheet 16 = .ok (.ifCond .eq 9, 3) := by decide +kernel
theorem dX8_sheet_19 : decode cX8_sheet 19 = .ok (.iload_n 3, 1) := by decide +kernel
theorem dX8_sheet_20 : decode cX8_sheet 20 = .ok (.bipush 24, 2) := by decide +kernel
theorem dX8_sheet_22 : decode cX8_sheet 22 = .ok (.if_icmp .le 5, 3) := by decide +kernel
theorem dX8_sheet_25 : decode cX8_sheet 25 = .ok (.iconst (-1), 1) := by decide +kernel
theorem dX8_sheet_26 : decode cX8_sheet 26 = .ok (.ireturn, 1) := by decide +kernel
theorem dX8_sheet_27 : decode cX8_sheet 27 = .ok (.iload_n 3, 1) := by decide +kernel
theorem dX8_sheet_28 : decode cX8_sheet 28 = .ok (.ifCond .ge 6, 3) := by decide +kernel
theorem dX8_sheet_31 : decode cX8_sheet 31 = .ok (.bipush (-14), 2) := by decide +kernel
theorem dX8_sheet_33 : decode cX8_sheet 33 = .ok (.ireturn, 1) := by decide +kernel
theorem dX8_sheet_34 : decode cX8_sheet 34 = .ok (.aload_n 0, 1) := by decide +kernel
theorem dX8_sheet_35 : decode cX8_sheet 35 = .ok (.getfield 41, 3) := by decide +kernel
theorem dX8_sheet_38 : decode cX8_sheet 38 = .ok (.iload_n 1, 1) := by decide +kernel
theorem dX8_sheet_39 : decode cX8_sheet 39 = .ok (.iload_n 2, 1) := by decide +kernel
theorem dX8_sheet_40 : decode cX8_sheet 40 = .ok (.iastore, 1) := by decide +kernel
theorem dX8_sheet_41 : decode cX8_sheet 41 = .ok (.aload_n 0, 1) := by decide +kernel
theorem dX8_sheet_42 : decode cX8_sheet 42 = .ok (.getfield 44, 3) := by decide +kernel
theorem dX8_sheet_45 : decode cX8_sheet 45 = .ok (.iload_n 1, 1) := by decide +kernel
theorem dX8_sheet_46 : decode cX8_sheet 46 = .ok (.iload_n 3, 1) := by decide +kernel
theorem dX8_sheet_47 : decode cX8_sheet 47 = .ok (.iastore, 1) := by decide +kernel
theorem dX8_sheet_48 : decode cX8_sheet 48 = .ok (.iconst 0, 1) := by decide +kernel
theorem dX8_sheet_49 : decode cX8_sheet 49 = .ok (.istore 4, 2) := by decide +kernel
theorem dX8_sheet_51 : decode cX8_sheet 51 = .ok (.iload 4, 2) := by decide +kernel
theorem dX8_sheet_53 : decode cX8_sheet 53 = .ok (.bipush 24, 2) := by decide +kernel
theorem dX8_sheet_55 : decode cX8_sheet 55 = .ok (.if_icmp .ge 22, 3) := by decide +kernel
theorem dX8_sheet_58 : decode cX8_sheet 58 = .ok (.aload_n 0, 1) := by decide +kernel
theorem dX8_sheet_59 : decode cX8_sheet 59 = .ok (.getfield 47, 3) := by decide +kernel
theorem dX8_sheet_62 : decode cX8_sheet 62 = .ok (.bipush 24, 2) := by decide +kernel
theorem dX8_sheet_64 : decode cX8_sheet 64 = .ok (.iload_n 1, 1) := by decide +kernel
theorem dX8_sheet_65 : decode cX8_sheet 65 = .ok (.imul, 1) := by decide +kernel
theorem dX8_sheet_66 : decode cX8_sheet 66 = .ok (.iload 4, 2) := by decide +kernel
theorem dX8_sheet_68 : decode cX8_sheet 68 = .ok (.iadd, 1) := by decide +kernel
theorem dX8_sheet_69 : decode cX8_sheet 69 = .ok (.lconst 0, 1) := by decide +kernel
theorem dX8_sheet_70 : decode cX8_sheet 70 = .ok (.lastore, 1) := by decide +kernel
theorem dX8_sheet_71 : decode cX8_sheet 71 = .ok (.iinc 4 1, 3) := by decide +kernel
theorem dX8_sheet_74 : decode cX8_sheet 74 = .ok (.goto (-23), 3) := by decide +kernel
theorem dX8_sheet_77 : decode cX8_sheet 77 = .ok (.iload_n 3, 1) := by decide +kernel
theorem dX8_sheet_78 : decode cX8_sheet 78 = .ok (.ireturn, 1) := by decide +kernel
theorem dX8_drop_0 : decode cX8_drop 0 = .ok (.iload_n 1, 1) := by decide +kernel
theorem dX8_drop_1 : decode cX8_drop 1 = .ok (.invokestatic 239, 3) := by decide +kernel
theorem dX8_drop_4 : decode cX8_drop 4 = .ok (.ifCond .ne 5, 3) := by decide +kernel
theorem dX8_drop_7 : decode cX8_drop 7 = .ok (.iconst (-1), 1) := by decide +kernel
theorem dX8_drop_8 : decode cX8_drop 8 = .ok (.ireturn, 1) := by decide +kernel
theorem dX8_drop_9 : decode cX8_drop 9 = .ok (.aload_n 0, 1) := by decide +kernel
theorem dX8_drop_10 : decode cX8_drop 10 = .ok (.getfield 41, 3) := by decide +kernel
theorem dX8_drop_13 : decode cX8_drop 13 = .ok (.iload_n 1, 1) := by decide +kernel
theorem dX8_drop_14 : decode cX8_drop 14 = .ok (.iaload, 1) := by decide +kernel
theorem dX8_drop_15 : decode cX8_drop 15 = .ok (.ifCond .ge 6, 3) := by decide +kernel
theorem dX8_drop_18 : decode cX8_drop 18 = .ok (.bipush (-11), 2) := by decide +kernel
theorem dX8_drop_20 : decode cX8_drop 20 = .ok (.ireturn, 1) := by decide +kernel
theorem dX8_drop_21 : decode cX8_drop 21 = .ok (.aload_n 0, 1) := by decide +kernel
theorem dX8_drop_22 : decode cX8_drop 22 = .ok (.getfield 41, 3) := by decide +kernel
theorem dX8_drop_25 : decode cX8_drop 25 = .ok (.iload_n 1, 1) := by decide +kernel
theorem dX8_drop_26 : decode cX8_drop 26 = .ok (.iconst (-1), 1) := by decide +kernel
theorem dX8_drop_27 : decode cX8_drop 27 = .ok (.iastore, 1) := by decide +kernel
theorem dX8_drop_28 : decode cX8_drop 28 = .ok (.aload_n 0, 1) := by decide +kernel
theorem dX8_drop_29 : decode cX8_drop 29 = .ok (.getfield 44, 3) := by decide +kernel
theorem dX8_drop_32 : decode cX8_drop 32 = .ok (.iload_n 1, 1) := by decide +kernel
theorem dX8_drop_33 : decode cX8_drop 33 = .ok (.iaload, 1) := by decide +kernel
theorem dX8_drop_34 : decode cX8_drop 34 = .ok (.ireturn, 1) := by decide +kernel
theorem dX8_why_0 : decode cX8_why 0 = .ok (.aload_n 0, 1) := by decide +kernel
theorem dX8_why_1 : decode cX8_why 1 = .ok (.getfield 41, 3) := by decide +kernel
theorem dX8_why_4 : decode cX8_why 4 = .ok (.iload_n 1, 1) := by decide +kernel
theorem dX8_why_5 : decode cX8_why 5 = .ok (.iaload, 1) := by decide +kernel
theorem dX8_why_6 : decode cX8_why 6 = .ok (.ifCond .ge 6, 3) := by decide +kernel
theorem dX8_why_9 : decode cX8_why 9 = .ok (.bipush (-11), 2) := by decide +kernel
theorem dX8_why_11 : decode cX8_why 11 = .ok (.ireturn, 1) := by decide +kernel
theorem dX8_why_12 : decode cX8_why 12 = .ok (.aload_n 0, 1) := by decide +kernel
theorem dX8_why_13 : decode cX8_why 13 = .ok (.getfield 41, 3) := by decide +kernel
theorem dX8_why_16 : decode cX8_why 16 = .ok (.iload_n 1, 1) := by decide +kernel
theorem dX8_why_17 : decode cX8_why 17 = .ok (.iaload, 1) := by decide +kernel
theorem dX8_why_18 : decode cX8_why 18 = .ok (.iload_n 2, 1) := by decide +kernel
theorem dX8_why_19 : decode cX8_why 19 = .ok (.if_icmp .eq 6, 3) := by decide +kernel
theorem dX8_why_22 : decode cX8_why 22 = .ok (.bipush (-12), 2) := by decide +kernel
theorem dX8_why_24 : decode cX8_why 24 = .ok (.ireturn, 1) := by decide +kernel
theorem dX8_why_25 : decode cX8_why 25 = .ok (.iload_n 3, 1) := by decide +kernel
theorem dX8_why_26 : decode cX8_why 26 = .ok (.ifCond .lt 16, 3) := by decide +kernel
theorem dX8_why_29 : decode cX8_why 29 = .ok (.iload 4, 2) := by decide +kernel
theorem dX8_why_31 : decode cX8_why 31 = .ok (.aload_n 0, 1) := by decide +kernel
theorem dX8_why_32 : decode cX8_why 32 = .ok (.getfield 44, 3) := by decide +kernel
theorem dX8_why_35 : decode cX8_why 35 = .ok (.iload_n 1, 1) := by decide +kernel
theorem dX8_why_36 : decode cX8_why 36 = .ok (.iaload, 1) := by decide +kernel
theorem dX8_why_37 : decode cX8_why 37 = .ok (.iload_n 3, 1) := by decide +kernel
theorem dX8_why_38 : decode cX8_why 38 = .ok (.isub, 1) := by decide +kernel
theorem dX8_why_39 : decode cX8_why 39 = .ok (.if_icmp .le 8, 3) := by decide +kernel
theorem dX8_why_42 : decode cX8_why 42 = .ok (.bipush (-13), 2) := by decide +kernel
theorem dX8_why_44 : decode cX8_why 44 = .ok (.goto 4, 3) := by decide +kernel
theorem dX8_why_47 : decode cX8_why 47 = .ok (.iconst 0, 1) := by decide +kernel
theorem dX8_why_48 : decode cX8_why 48 = .ok (.ireturn, 1) := by decide +kernel
theorem dX8_item_0 : decode cX8_item 0 = .ok (.iload_n 1, 1) := by decide +kernel
theorem dX8_item_1 : decode cX8_item 1 = .ok (.invokestatic 239, 3) := by decide +kernel
theorem dX8_item_4 : decode cX8_item 4 = .ok (.ifCond .eq 15, 3) := by decide +kernel
theorem dX8_item_7 : decode cX8_item 7 = .ok (.iload_n 2, 1) := by decide +kernel
theorem dX8_item_8 : decode cX8_item 8 = .ok (.i2l, 1) := by decide +kernel
theorem dX8_item_9 : decode cX8_item 9 = .ok (.lconst 0, 1) := by decide +kernel
theorem dX8_item_10 : decode cX8_item 10 = .ok (.ldc2_w 206, 3) := by decide +kernel
theorem dX8_item_13 : decode cX8_item 13 = .ok (.invokestatic 58, 3) := by decide +kernel
theorem dX8_item_16 : decode cX8_item 16 = .ok (.ifCond .ne 5, 3) := by decide +kernel
theorem dX8_item_19 : decode cX8_item 19 = .ok (.iconst (-1), 1) := by decide +kernel
theorem dX8_item_20 : decode cX8_item 20 = .ok (.ireturn, 1) := by decide +kernel
theorem dX8_item_21 : decode cX8_item 21 = .ok (.aload_n 0, 1) := by decide +kernel
theorem dX8_item_22 : decode cX8_item 22 = .ok (.iload_n 1, 1) := by decide +kernel
theorem dX8_item_23 : decode cX8_item 23 = .ok (.iload_n 2, 1) := by decide +kernel
theorem dX8_item_24 : decode cX8_item 24 = .ok (.iload_n 3, 1) := by decide +kernel
theorem dX8_item_25 : decode cX8_item 25 = .ok (.iconst 1, 1) := by decide +kernel
theorem dX8_item_26 : decode cX8_item 26 = .ok (.invokevirtual 242, 3) := by decide +kernel
theorem dX8_item_29 : decode cX8_item 29 = .ok (.istore 6, 2) := by decide +kernel
theorem dX8_item_31 : decode cX8_item 31 = .ok (.iload 6, 2) := by decide +kernel
theorem dX8_item_33 : decode cX8_item 33 = .ok (.ifCond .ge 6, 3) := by decide +kernel
theorem dX8_item_36 : decode cX8_item 36 = .ok (.iload 6, 2) := by decide +kernel
theorem dX8_item_38 : decode cX8_item 38 = .ok (.ireturn, 1) := by decide +kernel
theorem dX8_item_39 : decode cX8_item 39 = .ok (.aload_n 0, 1) := by decide +kernel
theorem dX8_item_40 : decode cX8_item 40 = .ok (.getfield 47, 3) := by decide +kernel
theorem dX8_item_43 : decode cX8_item 43 = .ok (.bipush 24, 2) := by decide +kernel
theorem dX8_item_45 : decode cX8_item 45 = .ok (.iload_n 1, 1) := by decide +kernel
theorem dX8_item_46 : decode cX8_item 46 = .ok (.imul, 1) := by decide +kernel
theorem dX8_item_47 : decode cX8_item 47 = .ok (.iload_n 3, 1) := by decide +kernel
theorem dX8_item_48 : decode cX8_item 48 = .ok (.iadd, 1) := by decide +kernel
theorem dX8_item_49 : decode cX8_item 49 = .ok (.lload 4, 2) := by decide +kernel
theorem dX8_item_51 : decode cX8_item 51 = .ok (.iload_n 2, 1) := by decide +kernel
theorem dX8_item_52 : decode cX8_item 52 = .ok (.invokestatic 245, 3) := by decide +kernel
theorem dX8_item_55 : decode cX8_item 55 = .ok (.lastore, 1) := by decide +kernel
theorem dX8_item_56 : decode cX8_item 56 = .ok (.iconst 1, 1) := by decide +kernel
theorem dX8_item_57 : decode cX8_item 57 = .ok (.ireturn, 1) := by decide +kernel
theorem dX8_copy_0 : decode cX8_copy 0 = .ok (.iload_n 1, 1) := by decide +kernel
theorem dX8_copy_1 : decode cX8_copy 1 = .ok (.invokestatic 239, 3) := by decide +kernel
theorem dX8_copy_4 : decode cX8_copy 4 = .ok (.ifCond .eq 10, 3) := by decide +kernel
theorem dX8_copy_7 : decode cX8_copy 7 = .ok (.iload_n 3, 1) := by decide +kernel
theorem dX8_copy_8 : decode cX8_copy 8 = .ok (.invokestatic 239, 3) := by decide +kernel
theorem dX8_copy_11 : decode cX8_copy 11 = .ok (.ifCond .ne 5, 3) := by decide +kernel
theorem dX8_copy_14 : decode cX8_copy 14 = .ok (.iconst (-1), 1) := by decide +kernel
theorem dX8_copy_15 : decode cX8_copy 15 = .ok (.ireturn, 1) := by decide +kernel
theorem dX8_copy_16 : decode cX8_copy 16 = .ok (.aload_n 0, 1) := by decide +kernel
theorem dX8_copy_17 : decode cX8_copy 17 = .ok (.getfield 41, 3) := by decide +kernel
theorem dX8_copy_20 : decode cX8_copy 20 = .ok (.iload_n 1, 1) := by decide +kernel
theorem dX8_copy_21 : decode cX8_copy 21 = .ok (.iaload, 1) := by decide +kernel
theorem dX8_copy_22 : decode cX8_copy 22 = .ok (.ifCond .lt 12, 3) := by decide +kernel
theorem dX8_copy_25 : decode cX8_copy 25 = .ok (.aload_n 0, 1) := by decide +kernel
theorem dX8_copy_26 : decode cX8_copy 26 = .ok (.getfield 41, 3) := by decide +kernel
theorem dX8_copy_29 : decode cX8_copy 29 = .ok (.iload_n 3, 1) := by decide +kernel
theorem dX8_copy_30 : decode cX8_copy 30 = .ok (.iaload, 1) := by decide +kernel
theorem dX8_copy_31 : decode cX8_copy 31 = .ok (.ifCond .ge 6, 3) := by decide +kernel
theorem dX8_copy_34 : decode cX8_copy 34 = .ok (.bipush (-11), 2) := by decide +kernel
theorem dX8_copy_36 : decode cX8_copy 36 = .ok (.ireturn, 1) := by decide +kernel
theorem dX8_copy_37 : decode cX8_copy 37 = .ok (.aload_n 0, 1) := by decide +kernel
theorem dX8_copy_38 : decode cX8_copy 38 = .ok (.getfield 41, 3) := by decide +kernel
theorem dX8_copy_41 : decode cX8_copy 41 = .ok (.iload_n 1, 1) := by decide +kernel
theorem dX8_copy_42 : decode cX8_copy 42 = .ok (.iaload, 1) := by decide +kernel
theorem dX8_copy_43 : decode cX8_copy 43 = .ok (.aload_n 0, 1) := by decide +kernel
theorem dX8_copy_44 : decode cX8_copy 44 = .ok (.getfield 41, 3) := by decide +kernel
theorem dX8_copy_47 : decode cX8_copy 47 = .ok (.iload_n 3, 1) := by decide +kernel
theorem dX8_copy_48 : decode cX8_copy 48 = .ok (.iaload, 1) := by decide +kernel
theorem dX8_copy_49 : decode cX8_copy 49 = .ok (.if_icmp .eq 6, 3) := by decide +kernel
theorem dX8_copy_52 : decode cX8_copy 52 = .ok (.bipush (-12), 2) := by decide +kernel
theorem dX8_copy_54 : decode cX8_copy 54 = .ok (.ireturn, 1) := by decide +kernel
theorem dX8_copy_55 : decode cX8_copy 55 = .ok (.iload 5, 2) := by decide +kernel
theorem dX8_copy_57 : decode cX8_copy 57 = .ok (.ifCond .lt 47, 3) := by decide +kernel
theorem dX8_copy_60 : decode cX8_copy 60 = .ok (.iload_n 2, 1) := by decide +kernel
theorem dX8_copy_61 : decode cX8_copy 61 = .ok (.ifCond .lt 43, 3) := by decide +kernel
theorem dX8_copy_64 : decode cX8_copy 64 = .ok (.iload 4, 2) := by decide +kernel
theorem dX8_copy_66 : decode cX8_copy 66 = .ok (.ifCond .lt 38, 3) := by decide +kernel
theorem dX8_copy_69 : decode cX8_copy 69 = .ok (.iload_n 2, 1) := by decide +kernel
theorem dX8_copy_70 : decode cX8_copy 70 = .ok (.i2l, 1) := by decide +kernel
theorem dX8_copy_71 : decode cX8_copy 71 = .ok (.iload 5, 2) := by decide +kernel
theorem dX8_copy_73 : decode cX8_copy 73 = .ok (.i2l, 1) := by decide +kernel
theorem dX8_copy_74 : decode cX8_copy 74 = .ok (.ladd, 1) := by decide +kernel
theorem dX8_copy_75 : decode cX8_copy 75 = .ok (.aload_n 0, 1) := by decide +kernel
theorem dX8_copy_76 : decode cX8_copy 76 = .ok (.getfield 44, 3) := by decide +kernel
theorem dX8_copy_79 : decode cX8_copy 79 = .ok (.iload_n 1, 1) := by decide +kernel
theorem dX8_copy_80 : decode cX8_copy 80 = .ok (.iaload, 1) := by decide +kernel
theorem dX8_copy_81 : decode cX8_copy 81 = .ok (.i2l, 1) := by decide +kernel
theorem dX8_copy_82 : decode cX8_copy 82 = .ok (.lcmp, 1) := by decide +kernel
theorem dX8_copy_83 : decode cX8_copy 83 = .ok (.ifCond .gt 21, 3) := by decide +kernel
theorem dX8_copy_86 : decode cX8_copy 86 = .ok (.iload 4, 2) := by decide +kernel
theorem dX8_copy_88 : decode cX8_copy 88 = .ok (.i2l, 1) := by decide +kernel
theorem dX8_copy_89 : decode cX8_copy 89 = .ok (.iload 5, 2) := by decide +kernel
theorem dX8_copy_91 : decode cX8_copy 91 = .ok (.i2l, 1) := by decide +kernel
theorem dX8_copy_92 : decode cX8_copy 92 = .ok (.ladd, 1) := by decide +kernel
theorem dX8_copy_93 : decode cX8_copy 93 = .ok (.aload_n 0, 1) := by decide +kernel
theorem dX8_copy_94 : decode cX8_copy 94 = .ok (.getfield 44, 3) := by decide +kernel
theorem dX8_copy_97 : decode cX8_copy 97 = .ok (.iload_n 3, 1) := by decide +kernel
theorem dX8_copy_98 : decode cX8_copy 98 = .ok (.iaload, 1) := by decide +kernel
theorem dX8_copy_99 : decode cX8_copy 99 = .ok (.i2l, 1) := by decide +kernel
theorem dX8_copy_100 : decode cX8_copy 100 = .ok (.lcmp, 1) := by decide +kernel
theorem dX8_copy_101 : decode cX8_copy 101 = .ok (.ifCond .le 6, 3) := by decide +kernel
theorem dX8_copy_104 : decode cX8_copy 104 = .ok (.bipush (-13), 2) := by decide +kernel
theorem dX8_copy_106 : decode cX8_copy 106 = .ok (.ireturn, 1) := by decide +kernel
theorem dX8_copy_107 : decode cX8_copy 107 = .ok (.iconst 0, 1) := by decide +kernel
theorem dX8_copy_108 : decode cX8_copy 108 = .ok (.istore 6, 2) := by decide +kernel
theorem dX8_copy_110 : decode cX8_copy 110 = .ok (.iload 6, 2) := by decide +kernel
theorem dX8_copy_112 : decode cX8_copy 112 = .ok (.iload 5, 2) := by decide +kernel
theorem dX8_copy_114 : decode cX8_copy 114 = .ok (.if_icmp .ge 30, 3) := by decide +kernel
theorem dX8_copy_117 : decode cX8_copy 117 = .ok (.aload_n 0, 1) := by decide +kernel
theorem dX8_copy_118 : decode cX8_copy 118 = .ok (.getfield 51, 3) := by decide +kernel
theorem dX8_copy_121 : decode cX8_copy 121 = .ok (.iload 6, 2) := by decide +kernel
theorem dX8_copy_123 : decode cX8_copy 123 = .ok (.aload_n 0, 1) := by decide +kernel
theorem dX8_copy_124 : decode cX8_copy 124 = .ok (.getfield 47, 3) := by decide +kernel
theorem dX8_copy_127 : decode cX8_copy 127 = .ok (.bipush 24, 2) := by decide +kernel
theorem dX8_copy_129 : decode cX8_copy 129 = .ok (.iload_n 1, 1) := by decide +kernel
theorem dX8_copy_130 : decode cX8_copy 130 = .ok (.imul, 1) := by decide +kernel
theorem dX8_copy_131 : decode cX8_copy 131 = .ok (.iload_n 2, 1) := by decide +kernel
theorem dX8_copy_132 : decode cX8_copy 132 = .ok (.iadd, 1) := by decide +kernel
theorem dX8_copy_133 : decode cX8_copy 133 = .ok (.iload 6, 2) := by decide +kernel
theorem dX8_copy_135 : decode cX8_copy 135 = .ok (.iadd, 1) := by decide +kernel
theorem dX8_copy_136 : decode cX8_copy 136 = .ok (.laload, 1) := by decide +kernel
theorem dX8_copy_137 : decode cX8_copy 137 = .ok (.lastore, 1) := by decide +kernel
theorem dX8_copy_138 : decode cX8_copy 138 = .ok (.iinc 6 1, 3) := by decide +kernel
theorem dX8_copy_141 : decode cX8_copy 141 = .ok (.goto (-31), 3) := by decide +kernel
theorem dX8_copy_144 : decode cX8_copy 144 = .ok (.iconst 0, 1) := by decide +kernel
theorem dX8_copy_145 : decode cX8_copy 145 = .ok (.istore 6, 2) := by decide +kernel
theorem dX8_copy_147 : decode cX8_copy 147 = .ok (.iload 6, 2) := by decide +kernel
theorem dX8_copy_149 : decode cX8_copy 149 = .ok (.iload 5, 2) := by decide +kernel
theorem dX8_copy_151 : decode cX8_copy 151 = .ok (.if_icmp .ge 31, 3) := by decide +kernel
theorem dX8_copy_154 : decode cX8_copy 154 = .ok (.aload_n 0, 1) := by decide +kernel
theorem dX8_copy_155 : decode cX8_copy 155 = .ok (.getfield 47, 3) := by decide +kernel
theorem dX8_copy_158 : decode cX8_copy 158 = .ok (.bipush 24, 2) := by decide +kernel
theorem dX8_copy_160 : decode cX8_copy 160 = .ok (.iload_n 3, 1) := by decide +kernel
theorem dX8_copy_161 : decode cX8_copy 161 = .ok (.imul, 1) := by decide +kernel
theorem dX8_copy_162 : decode cX8_copy 162 = .ok (.iload 4, 2) := by decide +kernel
theorem dX8_copy_164 : decode cX8_copy 164 = .ok (.iadd, 1) := by decide +kernel
theorem dX8_copy_165 : decode cX8_copy 165 = .ok (.iload 6, 2) := by decide +kernel
theorem dX8_copy_167 : decode cX8_copy 167 = .ok (.iadd, 1) := by decide +kernel
theorem dX8_copy_168 : decode cX8_copy 168 = .ok (.aload_n 0, 1) := by decide +kernel
theorem dX8_copy_169 : decode cX8_copy 169 = .ok (.getfield 51, 3) := by decide +kernel
theorem dX8_copy_172 : decode cX8_copy 172 = .ok (.iload 6, 2) := by decide +kernel
theorem dX8_copy_174 : decode cX8_copy 174 = .ok (.laload, 1) := by decide +kernel
theorem dX8_copy_175 : decode cX8_copy 175 = .ok (.lastore, 1) := by decide +kernel
theorem dX8_copy_176 : decode cX8_copy 176 = .ok (.iinc 6 1, 3) := by decide +kernel
theorem dX8_copy_179 : decode cX8_copy 179 = .ok (.goto (-32), 3) := by decide +kernel
theorem dX8_copy_182 : decode cX8_copy 182 = .ok (.iload 5, 2) := by decide +kernel
theorem dX8_copy_184 : decode cX8_copy 184 = .ok (.ireturn, 1) := by decide +kernel
theorem dX8_play_0 : decode cX8_play 0 = .ok (.iload_n 1, 1) := by decide +kernel
theorem dX8_play_1 : decode cX8_play 1 = .ok (.invokestatic 239, 3) := by decide +kernel
theorem dX8_play_4 : decode cX8_play 4 = .ok (.ifCond .eq 28, 3) := by decide +kernel
theorem dX8_play_7 : decode cX8_play 7 = .ok (.iload_n 2, 1) := by decide +kernel
theorem dX8_play_8 : decode cX8_play 8 = .ok (.i2l, 1) := by decide +kernel
theorem dX8_play_9 : decode cX8_play 9 = .ok (.lconst 0, 1) := by decide +kernel
theorem dX8_play_10 : decode cX8_play 10 = .ok (.ldc2_w 206, 3) := by decide +kernel
theorem dX8_play_13 : decode cX8_play 13 = .ok (.invokestatic 58, 3) := by decide +kernel
theorem dX8_play_16 : decode cX8_play 16 = .ok (.ifCond .eq 16, 3) := by decide +kernel
theorem dX8_play_19 : decode cX8_play 19 = .ok (.iload 4, 2) := by decide +kernel
theorem dX8_play_21 : decode cX8_play 21 = .ok (.i2l, 1) := by decide +kernel
theorem dX8_play_22 : decode cX8_play 22 = .ok (.lconst 1, 1) := by decide +kernel
theorem dX8_play_23 : decode cX8_play 23 = .ok (.ldc2_w 249, 3) := by decide +kernel
theorem dX8_play_26 : decode cX8_play 26 = .ok (.invokestatic 58, 3) := by decide +kernel
theorem dX8_play_29 : decode cX8_play 29 = .ok (.ifCond .ne 5, 3) := by decide +kernel
theorem dX8_play_32 : decode cX8_play 32 = .ok (.iconst (-1), 1) := by decide +kernel
theorem dX8_play_33 : decode cX8_play 33 = .ok (.ireturn, 1) := by decide +kernel
theorem dX8_play_34 : decode cX8_play 34 = .ok (.aload_n 0, 1) := by decide +kernel
theorem dX8_play_35 : decode cX8_play 35 = .ok (.iload_n 1, 1) := by decide +kernel
theorem dX8_play_36 : decode cX8_play 36 = .ok (.iload_n 2, 1) := by decide +kernel
theorem dX8_play_37 : decode cX8_play 37 = .ok (.iload_n 3, 1) := by decide +kernel
theorem dX8_play_38 : decode cX8_play 38 = .ok (.iload 4, 2) := by decide +kernel
theorem dX8_play_40 : decode cX8_play 40 = .ok (.invokevirtual 242, 3) := by decide +kernel
theorem dX8_play_43 : decode cX8_play 43 = .ok (.istore 5, 2) := by decide +kernel
theorem dX8_play_45 : decode cX8_play 45 = .ok (.iload 5, 2) := by decide +kernel
theorem dX8_play_47 : decode cX8_play 47 = .ok (.ifCond .ge 6, 3) := by decide +kernel
theorem dX8_play_50 : decode cX8_play 50 = .ok (.iload 5, 2) := by decide +kernel
theorem dX8_play_52 : decode cX8_play 52 = .ok (.ireturn, 1) := by decide +kernel
theorem dX8_play_53 : decode cX8_play 53 = .ok (.bipush 24, 2) := by decide +kernel
theorem dX8_play_55 : decode cX8_play 55 = .ok (.iload_n 1, 1) := by decide +kernel
theorem dX8_play_56 : decode cX8_play 56 = .ok (.imul, 1) := by decide +kernel
theorem dX8_play_57 : decode cX8_play 57 = .ok (.iload_n 3, 1) := by decide +kernel
theorem dX8_play_58 : decode cX8_play 58 = .ok (.iadd, 1) := by decide +kernel
theorem dX8_play_59 : decode cX8_play 59 = .ok (.istore 6, 2) := by decide +kernel
theorem dX8_play_61 : decode cX8_play 61 = .ok (.iconst 0, 1) := by decide +kernel
theorem dX8_play_62 : decode cX8_play 62 = .ok (.istore 7, 2) := by decide +kernel
theorem dX8_play_64 : decode cX8_play 64 = .ok (.iload 7, 2) := by decide +kernel
theorem dX8_play_66 : decode cX8_play 66 = .ok (.iload 4, 2) := by decide +kernel
theorem dX8_play_68 : decode cX8_play 68 = .ok (.if_icmp .ge 34, 3) := by decide +kernel
theorem dX8_play_71 : decode cX8_play 71 = .ok (.aload_n 0, 1) := by decide +kernel
theorem dX8_play_72 : decode cX8_play 72 = .ok (.getfield 47, 3) := by decide +kernel
theorem dX8_play_75 : decode cX8_play 75 = .ok (.iload 6, 2) := by decide +kernel
theorem dX8_play_77 : decode cX8_play 77 = .ok (.iload 7, 2) := by decide +kernel
theorem dX8_play_79 : decode cX8_play 79 = .ok (.iadd, 1) := by decide +kernel
theorem dX8_play_80 : decode cX8_play 80 = .ok (.laload, 1) := by decide +kernel
theorem dX8_play_81 : decode cX8_play 81 = .ok (.ldc2_w 196, 3) := by decide +kernel
theorem dX8_play_84 : decode cX8_play 84 = .ok (.ldc2_w 198, 3) := by decide +kernel
theorem dX8_play_87 : decode cX8_play 87 = .ok (.invokestatic 58, 3) := by decide +kernel
theorem dX8_play_90 : decode cX8_play 90 = .ok (.ifCond .ne 6, 3) := by decide +kernel
theorem dX8_play_93 : decode cX8_play 93 = .ok (.bipush (-2), 2) := by decide +kernel
theorem dX8_play_95 : decode cX8_play 95 = .ok (.ireturn, 1) := by decide +kernel
theorem dX8_play_96 : decode cX8_play 96 = .ok (.iinc 7 1, 3) := by decide +kernel
theorem dX8_play_99 : decode cX8_play 99 = .ok (.goto (-35), 3) := by decide +kernel
theorem dX8_play_102 : decode cX8_play 102 = .ok (.iconst 0, 1) := by decide +kernel
theorem dX8_play_103 : decode cX8_play 103 = .ok (.istore 7, 2) := by decide +kernel
theorem dX8_play_105 : decode cX8_play 105 = .ok (.iconst 0, 1) := by decide +kernel
theorem dX8_play_106 : decode cX8_play 106 = .ok (.istore 8, 2) := by decide +kernel
theorem dX8_play_108 : decode cX8_play 108 = .ok (.iload 8, 2) := by decide +kernel
theorem dX8_play_110 : decode cX8_play 110 = .ok (.iload 4, 2) := by decide +kernel
theorem dX8_play_112 : decode cX8_play 112 = .ok (.if_icmp .ge 37, 3) := by decide +kernel
theorem dX8_play_115 : decode cX8_play 115 = .ok (.iload 7, 2) := by decide +kernel
theorem dX8_play_117 : decode cX8_play 117 = .ok (.aload_n 0, 1) := by decide +kernel
theorem dX8_play_118 : decode cX8_play 118 = .ok (.aload_n 0, 1) := by decide +kernel
theorem dX8_play_119 : decode cX8_play 119 = .ok (.getfield 47, 3) := by decide +kernel
theorem dX8_play_122 : decode cX8_play 122 = .ok (.iload 6, 2) := by decide +kernel
theorem dX8_play_124 : decode cX8_play 124 = .ok (.iload 8, 2) := by decide +kernel
theorem dX8_play_126 : decode cX8_play 126 = .ok (.iadd, 1) := by decide +kernel
theorem dX8_play_127 : decode cX8_play 127 = .ok (.laload, 1) := by decide +kernel
theorem dX8_play_128 : decode cX8_play 128 = .ok (.l2i, 1) := by decide +kernel
theorem dX8_play_129 : decode cX8_play 129 = .ok (.invokevirtual 200, 3) := by decide +kernel
theorem dX8_play_132 : decode cX8_play 132 = .ok (.ifCond .ge 7, 3) := by decide +kernel
theorem dX8_play_135 : decode cX8_play 135 = .ok (.iconst 1, 1) := by decide +kernel
theorem dX8_play_136 : decode cX8_play 136 = .ok (.goto 4, 3) := by decide +kernel
theorem dX8_play_139 : decode cX8_play 139 = .ok (.iconst 0, 1) := by decide +kernel
theorem dX8_play_140 : decode cX8_play 140 = .ok (.iadd, 1) := by decide +kernel
theorem dX8_play_141 : decode cX8_play 141 = .ok (.istore 7, 2) := by decide +kernel
theorem dX8_play_143 : decode cX8_play 143 = .ok (.iinc 8 1, 3) := by decide +kernel
theorem dX8_play_146 : decode cX8_play 146 = .ok (.goto (-38), 3) := by decide +kernel
theorem dX8_play_149 : decode cX8_play 149 = .ok (.iload 7, 2) := by decide +kernel
theorem dX8_play_151 : decode cX8_play 151 = .ok (.ireturn, 1) := by decide +kernel
theorem dX8_film_0 : decode cX8_film 0 = .ok (.iload_n 2, 1) := by decide +kernel
theorem dX8_film_1 : decode cX8_film 1 = .ok (.i2l, 1) := by decide +kernel
theorem dX8_film_2 : decode cX8_film 2 = .ok (.lconst 1, 1) := by decide +kernel
theorem dX8_film_3 : decode cX8_film 3 = .ok (.ldc2_w 249, 3) := by decide +kernel
theorem dX8_film_6 : decode cX8_film 6 = .ok (.invokestatic 58, 3) := by decide +kernel
theorem dX8_film_9 : decode cX8_film 9 = .ok (.ifCond .eq 41, 3) := by decide +kernel
theorem dX8_film_12 : decode cX8_film 12 = .ok (.iload_n 1, 1) := by decide +kernel
theorem dX8_film_13 : decode cX8_film 13 = .ok (.i2l, 1) := by decide +kernel
theorem dX8_film_14 : decode cX8_film 14 = .ok (.lconst 0, 1) := by decide +kernel
theorem dX8_film_15 : decode cX8_film 15 = .ok (.aload_n 0, 1) := by decide +kernel
theorem dX8_film_16 : decode cX8_film 16 = .ok (.getfield 7, 3) := by decide +kernel
theorem dX8_film_19 : decode cX8_film 19 = .ok (.iconst 0, 1) := by decide +kernel
theorem dX8_film_20 : decode cX8_film 20 = .ok (.iaload, 1) := by decide +kernel
theorem dX8_film_21 : decode cX8_film 21 = .ok (.iload_n 2, 1) := by decide +kernel
theorem dX8_film_22 : decode cX8_film 22 = .ok (.isub, 1) := by decide +kernel
theorem dX8_film_23 : decode cX8_film 23 = .ok (.i2l, 1) := by decide +kernel
theorem dX8_film_24 : decode cX8_film 24 = .ok (.invokestatic 58, 3) := by decide +kernel
theorem dX8_film_27 : decode cX8_film 27 = .ok (.ifCond .eq 23, 3) := by decide +kernel
theorem dX8_film_30 : decode cX8_film 30 = .ok (.iload_n 3, 1) := by decide +kernel
theorem dX8_film_31 : decode cX8_film 31 = .ok (.invokestatic 239, 3) := by decide +kernel
theorem dX8_film_34 : decode cX8_film 34 = .ok (.ifCond .eq 16, 3) := by decide +kernel
theorem dX8_film_37 : decode cX8_film 37 = .ok (.iload 4, 2) := by decide +kernel
theorem dX8_film_39 : decode cX8_film 39 = .ok (.i2l, 1) := by decide +kernel
theorem dX8_film_40 : decode cX8_film 40 = .ok (.lconst 0, 1) := by decide +kernel
theorem dX8_film_41 : decode cX8_film 41 = .ok (.ldc2_w 206, 3) := by decide +kernel
theorem dX8_film_44 : decode cX8_film 44 = .ok (.invokestatic 58, 3) := by decide +kernel
theorem dX8_film_47 : decode cX8_film 47 = .ok (.ifCond .ne 5, 3) := by decide +kernel
theorem dX8_film_50 : decode cX8_film 50 = .ok (.iconst (-1), 1) := by decide +kernel
theorem dX8_film_51 : decode cX8_film 51 = .ok (.ireturn, 1) := by decide +kernel
theorem dX8_film_52 : decode cX8_film 52 = .ok (.aload_n 0, 1) := by decide +kernel
theorem dX8_film_53 : decode cX8_film 53 = .ok (.iload_n 3, 1) := by decide +kernel
theorem dX8_film_54 : decode cX8_film 54 = .ok (.iload 4, 2) := by decide +kernel
theorem dX8_film_56 : decode cX8_film 56 = .ok (.iload 5, 2) := by decide +kernel
theorem dX8_film_58 : decode cX8_film 58 = .ok (.iload_n 2, 1) := by decide +kernel
theorem dX8_film_59 : decode cX8_film 59 = .ok (.invokevirtual 242, 3) := by decide +kernel
theorem dX8_film_62 : decode cX8_film 62 = .ok (.istore 6, 2) := by decide +kernel
theorem dX8_film_64 : decode cX8_film 64 = .ok (.iload 6, 2) := by decide +kernel
theorem dX8_film_66 : decode cX8_film 66 = .ok (.ifCond .ge 6, 3) := by decide +kernel
theorem dX8_film_69 : decode cX8_film 69 = .ok (.iload 6, 2) := by decide +kernel
theorem dX8_film_71 : decode cX8_film 71 = .ok (.ireturn, 1) := by decide +kernel
theorem dX8_film_72 : decode cX8_film 72 = .ok (.iconst 0, 1) := by decide +kernel
theorem dX8_film_73 : decode cX8_film 73 = .ok (.istore 7, 2) := by decide +kernel
theorem dX8_film_75 : decode cX8_film 75 = .ok (.iload 7, 2) := by decide +kernel
theorem dX8_film_77 : decode cX8_film 77 = .ok (.iload_n 2, 1) := by decide +kernel
theorem dX8_film_78 : decode cX8_film 78 = .ok (.if_icmp .ge 36, 3) := by decide +kernel
theorem dX8_film_81 : decode cX8_film 81 = .ok (.aload_n 0, 1) := by decide +kernel
theorem dX8_film_82 : decode cX8_film 82 = .ok (.getfield 47, 3) := by decide +kernel
theorem dX8_film_85 : decode cX8_film 85 = .ok (.bipush 24, 2) := by decide +kernel
theorem dX8_film_87 : decode cX8_film 87 = .ok (.iload_n 3, 1) := by decide +kernel
theorem dX8_film_88 : decode cX8_film 88 = .ok (.imul, 1) := by decide +kernel
theorem dX8_film_89 : decode cX8_film 89 = .ok (.iload 5, 2) := by decide +kernel
theorem dX8_film_91 : decode cX8_film 91 = .ok (.iadd, 1) := by decide +kernel
theorem dX8_film_92 : decode cX8_film 92 = .ok (.iload 7, 2) := by decide +kernel
theorem dX8_film_94 : decode cX8_film 94 = .ok (.iadd, 1) := by decide +kernel
theorem dX8_film_95 : decode cX8_film 95 = .ok (.aload_n 0, 1) := by decide +kernel
theorem dX8_film_96 : decode cX8_film 96 = .ok (.getfield 7, 3) := by decide +kernel
theorem dX8_film_99 : decode cX8_film 99 = .ok (.iconst 1, 1) := by decide +kernel
theorem dX8_film_100 : decode cX8_film 100 = .ok (.iload_n 1, 1) := by decide +kernel
theorem dX8_film_101 : decode cX8_film 101 = .ok (.iadd, 1) := by decide +kernel
theorem dX8_film_102 : decode cX8_film 102 = .ok (.iload 7, 2) := by decide +kernel
theorem dX8_film_104 : decode cX8_film 104 = .ok (.iadd, 1) := by decide +kernel
theorem dX8_film_105 : decode cX8_film 105 = .ok (.iaload, 1) := by decide +kernel
theorem dX8_film_106 : decode cX8_film 106 = .ok (.i2l, 1) := by decide +kernel
theorem dX8_film_107 : decode cX8_film 107 = .ok (.lastore, 1) := by decide +kernel
theorem dX8_film_108 : decode cX8_film 108 = .ok (.iinc 7 1, 3) := by decide +kernel
theorem dX8_film_111 : decode cX8_film 111 = .ok (.goto (-36), 3) := by decide +kernel
theorem dX8_film_114 : decode cX8_film 114 = .ok (.iload_n 2, 1) := by decide +kernel
theorem dX8_film_115 : decode cX8_film 115 = .ok (.ireturn, 1) := by decide +kernel
theorem dJ9_floorMod_7cf53_0 : decode cJ9_floorMod_7cf53 0 = .ok (.iload_n 0, 1) := by decide +kernel
theorem dJ9_floorMod_7cf53_1 : decode cJ9_floorMod_7cf53 1 = .ok (.iload_n 1, 1) := by decide +kernel
theorem dJ9_floorMod_7cf53_2 : decode cJ9_floorMod_7cf53 2 = .ok (.irem, 1) := by decide +kernel
theorem dJ9_floorMod_7cf53_3 : decode cJ9_floorMod_7cf53 3 = .ok (.istore_n 2, 1) := by decide +kernel
theorem dJ9_floorMod_7cf53_4 : decode cJ9_floorMod_7cf53 4 = .ok (.iload_n 0, 1) := by decide +kernel
theorem dJ9_floorMod_7cf53_5 : decode cJ9_floorMod_7cf53 5 = .ok (.iload_n 1, 1) := by decide +kernel
theorem dJ9_floorMod_7cf53_6 : decode cJ9_floorMod_7cf53 6 = .ok (.ixor, 1) := by decide +kernel
theorem dJ9_floorMod_7cf53_7 : decode cJ9_floorMod_7cf53 7 = .ok (.ifCond .ge 11, 3) := by decide +kernel
theorem dJ9_floorMod_7cf53_10 : decode cJ9_floorMod_7cf53 10 = .ok (.iload_n 2, 1) := by decide +kernel
theorem dJ9_floorMod_7cf53_11 : decode cJ9_floorMod_7cf53 11 = .ok (.ifCond .eq 7, 3) := by decide +kernel
theorem dJ9_floorMod_7cf53_14 : decode cJ9_floorMod_7cf53 14 = .ok (.iload_n 2, 1) := by decide +kernel
theorem dJ9_floorMod_7cf53_15 : decode cJ9_floorMod_7cf53 15 = .ok (.iload_n 1, 1) := by decide +kernel
theorem dJ9_floorMod_7cf53_16 : decode cJ9_floorMod_7cf53 16 = .ok (.iadd, 1) := by decide +kernel
theorem dJ9_floorMod_7cf53_17 : decode cJ9_floorMod_7cf53 17 = .ok (.ireturn, 1) := by decide +kernel
theorem dJ9_floorMod_7cf53_18 : decode cJ9_floorMod_7cf53 18 = .ok (.iload_n 2, 1) := by decide +kernel
theorem dJ9_floorMod_7cf53_19 : decode cJ9_floorMod_7cf53 19 = .ok (.ireturn, 1) := by decide +kernel
theorem dJ9_max_7cf53_0 : decode cJ9_max_7cf53 0 = .ok (.iload_n 0, 1) := by decide +kernel
theorem dJ9_max_7cf53_1 : decode cJ9_max_7cf53 1 = .ok (.iload_n 1, 1) := by decide +kernel
theorem dJ9_max_7cf53_2 : decode cJ9_max_7cf53 2 = .ok (.if_icmp .lt 7, 3) := by decide +kernel
theorem dJ9_max_7cf53_5 : decode cJ9_max_7cf53 5 = .ok (.iload_n 0, 1) := by decide +kernel
theorem dJ9_max_7cf53_6 : decode cJ9_max_7cf53 6 = .ok (.goto 4, 3) := by decide +kernel
theorem dJ9_max_7cf53_9 : decode cJ9_max_7cf53 9 = .ok (.iload_n 1, 1) := by decide +kernel
theorem dJ9_max_7cf53_10 : decode cJ9_max_7cf53 10 = .ok (.ireturn, 1) := by decide +kernel
theorem dJ9_min_7cf53_0 : decode cJ9_min_7cf53 0 = .ok (.iload_n 0, 1) := by decide +kernel
theorem dJ9_min_7cf53_1 : decode cJ9_min_7cf53 1 = .ok (.iload_n 1, 1) := by decide +kernel
theorem dJ9_min_7cf53_2 : decode cJ9_min_7cf53 2 = .ok (.if_icmp .gt 7, 3) := by decide +kernel
theorem dJ9_min_7cf53_5 : decode cJ9_min_7cf53 5 = .ok (.iload_n 0, 1) := by decide +kernel
theorem dJ9_min_7cf53_6 : decode cJ9_min_7cf53 6 = .ok (.goto 4, 3) := by decide +kernel
theorem dJ9_min_7cf53_9 : decode cJ9_min_7cf53 9 = .ok (.iload_n 1, 1) := by decide +kernel
theorem dJ9_min_7cf53_10 : decode cJ9_min_7cf53 10 = .ok (.ireturn, 1) := by decide +kernel
theorem dJ7_fill_d0a16_0 : decode cJ7_fill_d0a16 0 = .ok (.iconst 0, 1) := by decide +kernel
theorem dJ7_fill_d0a16_1 : decode cJ7_fill_d0a16 1 = .ok (.istore_n 3, 1) := by decide +kernel
theorem dJ7_fill_d0a16_2 : decode cJ7_fill_d0a16 2 = .ok (.aload_n 0, 1) := by decide +kernel
theorem dJ7_fill_d0a16_3 : decode cJ7_fill_d0a16 3 = .ok (.arraylength, 1) := by decide +kernel
theorem dJ7_fill_d0a16_4 : decode cJ7_fill_d0a16 4 = .ok (.istore 4, 2) := by decide +kernel
theorem dJ7_fill_d0a16_6 : decode cJ7_fill_d0a16 6 = .ok (.iload_n 3, 1) := by decide +kernel
theorem dJ7_fill_d0a16_7 : decode cJ7_fill_d0a16 7 = .ok (.iload 4, 2) := by decide +kernel
theorem dJ7_fill_d0a16_9 : decode cJ7_fill_d0a16 9 = .ok (.if_icmp .ge 13, 3) := by decide +kernel
theorem dJ7_fill_d0a16_12 : decode cJ7_fill_d0a16 12 = .ok (.aload_n 0, 1) := by decide +kernel
theorem dJ7_fill_d0a16_13 : decode cJ7_fill_d0a16 13 = .ok (.iload_n 3, 1) := by decide +kernel
theorem dJ7_fill_d0a16_14 : decode cJ7_fill_d0a16 14 = .ok (.lload_n 1, 1) := by decide +kernel
theorem dJ7_fill_d0a16_15 : decode cJ7_fill_d0a16 15 = .ok (.lastore, 1) := by decide +kernel
theorem dJ7_fill_d0a16_16 : decode cJ7_fill_d0a16 16 = .ok (.iinc 3 1, 3) := by decide +kernel
theorem dJ7_fill_d0a16_19 : decode cJ7_fill_d0a16 19 = .ok (.goto (-13), 3) := by decide +kernel
theorem dJ7_fill_d0a16_22 : decode cJ7_fill_d0a16 22 = .ok (.return_, 1) := by decide +kernel
theorem dJ7_fill_53178_0 : decode cJ7_fill_53178 0 = .ok (.iconst 0, 1) := by decide +kernel
theorem dJ7_fill_53178_1 : decode cJ7_fill_53178 1 = .ok (.istore_n 2, 1) := by decide +kernel
theorem dJ7_fill_53178_2 : decode cJ7_fill_53178 2 = .ok (.aload_n 0, 1) := by decide +kernel
theorem dJ7_fill_53178_3 : decode cJ7_fill_53178 3 = .ok (.arraylength, 1) := by decide +kernel
theorem dJ7_fill_53178_4 : decode cJ7_fill_53178 4 = .ok (.istore_n 3, 1) := by decide +kernel
theorem dJ7_fill_53178_5 : decode cJ7_fill_53178 5 = .ok (.iload_n 2, 1) := by decide +kernel
theorem dJ7_fill_53178_6 : decode cJ7_fill_53178 6 = .ok (.iload_n 3, 1) := by decide +kernel
theorem dJ7_fill_53178_7 : decode cJ7_fill_53178 7 = .ok (.if_icmp .ge 13, 3) := by decide +kernel
theorem dJ7_fill_53178_10 : decode cJ7_fill_53178 10 = .ok (.aload_n 0, 1) := by decide +kernel
theorem dJ7_fill_53178_11 : decode cJ7_fill_53178 11 = .ok (.iload_n 2, 1) := by decide +kernel
theorem dJ7_fill_53178_12 : decode cJ7_fill_53178 12 = .ok (.iload_n 1, 1) := by decide +kernel
theorem dJ7_fill_53178_13 : decode cJ7_fill_53178 13 = .ok (.iastore, 1) := by decide +kernel
theorem dJ7_fill_53178_14 : decode cJ7_fill_53178 14 = .ok (.iinc 2 1, 3) := by decide +kernel
theorem dJ7_fill_53178_17 : decode cJ7_fill_53178 17 = .ok (.goto (-12), 3) := by decide +kernel
theorem dJ7_fill_53178_20 : decode cJ7_fill_53178 20 = .ok (.return_, 1) := by decide +kernel
theorem dL_law_0 : decode cL_law 0 = .ok (.new 7, 3) := by decide +kernel
theorem dL_law_3 : decode cL_law 3 = .ok (.dup, 1) := by decide +kernel
theorem dL_law_4 : decode cL_law 4 = .ok (.invokespecial 9, 3) := by decide +kernel
theorem dL_law_7 : decode cL_law 7 = .ok (.astore_n 1, 1) := by decide +kernel
theorem dL_law_8 : decode cL_law 8 = .ok (.new 10, 3) := by decide +kernel
theorem dL_law_11 : decode cL_law 11 = .ok (.dup, 1) := by decide +kernel
theorem dL_law_12 : decode cL_law 12 = .ok (.invokespecial 12, 3) := by decide +kernel
theorem dL_law_15 : decode cL_law 15 = .ok (.astore_n 2, 1) := by decide +kernel
theorem dL_law_16 : decode cL_law 16 = .ok (.iconst 0, 1) := by decide +kernel
theorem dL_law_17 : decode cL_law 17 = .ok (.istore_n 3, 1) := by decide +kernel
theorem dL_law_18 : decode cL_law 18 = .ok (.iload_n 3, 1) := by decide +kernel
theorem dL_law_19 : decode cL_law 19 = .ok (.aload_n 0, 1) := by decide +kernel
theorem dL_law_20 : decode cL_law 20 = .ok (.arraylength, 1) := by decide +kernel
theorem dL_law_21 : decode cL_law 21 = .ok (.bipush 6, 2) := by decide +kernel
theorem dL_law_23 : decode cL_law 23 = .ok (.isub, 1) := by decide +kernel
theorem dL_law_24 : decode cL_law 24 = .ok (.if_icmp .gt 844, 3) := by decide +kernel
theorem dL_law_27 : decode cL_law 27 = .ok (.aload_n 0, 1) := by decide +kernel
theorem dL_law_28 : decode cL_law 28 = .ok (.iload_n 3, 1) := by decide +kernel
theorem dL_law_29 : decode cL_law 29 = .ok (.iaload, 1) := by decide +kernel
theorem dL_law_30 : decode cL_law 30 = .ok (.bipush 31, 2) := by decide +kernel
theorem dL_law_32 : decode cL_law 32 = .ok (.iand, 1) := by decide +kernel
theorem dL_law_33 : decode cL_law 33 = .ok (.tableswitch 829 0 21 #[103, 126, 139, 162, 185, 208, 231, 254, 287, 320, 353, 376, 399, 432, 475, 488, 501, 554, 617, 660, 683, 766], 103) := by decide +kernel
theorem dL_law_136 : decode cL_law 136 = .ok (.aload_n 1, 1) := by decide +kernel
theorem dL_law_137 : decode cL_law 137 = .ok (.aload_n 0, 1) := by decide +kernel
theorem dL_law_138 : decode cL_law 138 = .ok (.iload_n 3, 1) := by decide +kernel
theorem dL_law_139 : decode cL_law 139 = .ok (.iconst 1, 1) := by decide +kernel
theorem dL_law_140 : decode cL_law 140 = .ok (.iadd, 1) := by decide +kernel
theorem dL_law_141 : decode cL_law 141 = .ok (.iaload, 1) := by decide +kernel
theorem dL_law_142 : decode cL_law 142 = .ok (.invokevirtual 13, 3) := by decide +kernel
theorem dL_law_145 : decode cL_law 145 = .ok (.aload_n 2, 1) := by decide +kernel
theorem dL_law_146 : decode cL_law 146 = .ok (.aload_n 0, 1) := by decide +kernel
theorem dL_law_147 : decode cL_law 147 = .ok (.iload_n 3, 1) := by decide +kernel
theorem dL_law_148 : decode cL_law 148 = .ok (.iconst 1, 1) := by decide +kernel
theorem dL_law_149 : decode cL_law 149 = .ok (.iadd, 1) := by decide +kernel
theorem dL_law_150 : decode cL_law 150 = .ok (.iaload, 1) := by decide +kernel
theorem dL_law_151 : decode cL_law 151 = .ok (.invokevirtual 17, 3) := by decide +kernel
theorem dL_law_154 : decode cL_law 154 = .ok (.if_icmp .eq 708, 3) := by decide +kernel
theorem dL_law_157 : decode cL_law 157 = .ok (.iconst 0, 1) := by decide +kernel
theorem dL_law_158 : decode cL_law 158 = .ok (.ireturn, 1) := by decide +kernel
theorem dL_law_159 : decode cL_law 159 = .ok (.aload_n 1, 1) := by decide +kernel
theorem dL_law_160 : decode cL_law 160 = .ok (.invokevirtual 18, 3) := by decide +kernel
theorem dL_law_163 : decode cL_law 163 = .ok (.aload_n 2, 1) := by decide +kernel
theorem dL_law_164 : decode cL_law 164 = .ok (.invokevirtual 22, 3) := by decide +kernel
theorem dL_law_167 : decode cL_law 167 = .ok (.if_icmp .eq 695, 3) := by decide +kernel
theorem dL_law_170 : decode cL_law 170 = .ok (.iconst 0, 1) := by decide +kernel
theorem dL_law_171 : decode cL_law 171 = .ok (.ireturn, 1) := by decide +kernel
theorem dL_law_172 : decode cL_law 172 = .ok (.aload_n 1, 1) := by decide +kernel
theorem dL_law_173 : decode cL_law 173 = .ok (.aload_n 0, 1) := by decide +kernel
theorem dL_law_174 : decode cL_law 174 = .ok (.iload_n 3, 1) := by decide +kernel
theorem dL_law_175 : decode cL_law 175 = .ok (.iconst 1, 1) := by decide +kernel
theorem dL_law_176 : decode cL_law 176 = .ok (.iadd, 1) := by decide +kernel
theorem dL_law_177 : decode cL_law 177 = .ok (.iaload, 1) := by decide +kernel
theorem dL_law_178 : decode cL_law 178 = .ok (.invokevirtual 23, 3) := by decide +kernel
theorem dL_law_181 : decode cL_law 181 = .ok (.aload_n 2, 1) := by decide +kernel
theorem dL_law_182 : decode cL_law 182 = .ok (.aload_n 0, 1) := by decide +kernel
theorem dL_law_183 : decode cL_law 183 = .ok (.iload_n 3, 1) := by decide +kernel
theorem dL_law_184 : decode cL_law 184 = .ok (.iconst 1, 1) := by decide +kernel
theorem dL_law_185 : decode cL_law 185 = .ok (.iadd, 1) := by decide +kernel
theorem dL_law_186 : decode cL_law 186 = .ok (.iaload, 1) := by decide +kernel
theorem dL_law_187 : decode cL_law 187 = .ok (.invokevirtual 26, 3) := by decide +kernel
theorem dL_law_190 : decode cL_law 190 = .ok (.if_icmp .eq 672, 3) := by decide +kernel
theorem dL_law_193 : decode cL_law 193 = .ok (.iconst 0, 1) := by decide +kernel
theorem dL_law_194 : decode cL_law 194 = .ok (.ireturn, 1) := by decide +kernel
theorem dL_law_195 : decode cL_law 195 = .ok (.aload_n 1, 1) := by decide +kernel
theorem dL_law_196 : decode cL_law 196 = .ok (.aload_n 0, 1) := by decide +kernel
theorem dL_law_197 : decode cL_law 197 = .ok (.iload_n 3, 1) := by decide +kernel
theorem dL_law_198 : decode cL_law 198 = .ok (.iconst 1, 1) := by decide +kernel
theorem dL_law_199 : decode cL_law 199 = .ok (.iadd, 1) := by decide +kernel
theorem dL_law_200 : decode cL_law 200 = .ok (.iaload, 1) := by decide +kernel
