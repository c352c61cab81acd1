theorem dX7_once_60 : decode cX7_once 60 = .ok (.goto (-40), 3) := by decide +kernel
theorem dX7_once_63 : decode cX7_once 63 = .ok (.iload_n 2, 1) := by decide +kernel
theorem dX7_once_64 : decode cX7_once 64 = .ok (.ireturn, 1) := by decide +kernel
theorem dX7_goes_0 : decode cX7_goes 0 = .ok (.iload_n 1, 1) := by decide +kernel
theorem dX7_goes_1 : decode cX7_goes 1 = .ok (.invokestatic 111, 3) := by decide +kernel
theorem dX7_goes_4 : decode cX7_goes 4 = .ok (.ifCond .eq 14, 3) := by decide +kernel
theorem dX7_goes_7 : decode cX7_goes 7 = .ok (.iload_n 2, 1) := by decide +kernel
theorem dX7_goes_8 : decode cX7_goes 8 = .ok (.iconst 1, 1) := by decide +kernel
theorem dX7_goes_9 : decode cX7_goes 9 = .ok (.if_icmp .lt 9, 3) := by decide +kernel
theorem dX7_goes_12 : decode cX7_goes 12 = .ok (.iload_n 2, 1) := by decide +kernel
theorem dX7_goes_13 : decode cX7_goes 13 = .ok (.bipush 99, 2) := by decide +kernel
theorem dX7_goes_15 : decode cX7_goes 15 = .ok (.if_icmp .le 5, 3) := by decide +kernel
theorem dX7_goes_18 : decode cX7_goes 18 = .ok (.iconst (-1), 1) := by decide +kernel
theorem dX7_goes_19 : decode cX7_goes 19 = .ok (.ireturn, 1) := by decide +kernel
theorem dX7_goes_20 : decode cX7_goes 20 = .ok (.aload_n 0, 1) := by decide +kernel
theorem dX7_goes_21 : decode cX7_goes 21 = .ok (.getfield 16, 3) := by decide +kernel
theorem dX7_goes_24 : decode cX7_goes 24 = .ok (.iload_n 1, 1) := by decide +kernel
theorem dX7_goes_25 : decode cX7_goes 25 = .ok (.iload_n 2, 1) := by decide +kernel
theorem dX7_goes_26 : decode cX7_goes 26 = .ok (.iconst 0, 1) := by decide +kernel
theorem dX7_goes_27 : decode cX7_goes 27 = .ok (.invokevirtual 148, 3) := by decide +kernel
theorem dX7_goes_30 : decode cX7_goes 30 = .ok (.pop, 1) := by decide +kernel
theorem dX7_goes_31 : decode cX7_goes 31 = .ok (.aload_n 0, 1) := by decide +kernel
theorem dX7_goes_32 : decode cX7_goes 32 = .ok (.getfield 16, 3) := by decide +kernel
theorem dX7_goes_35 : decode cX7_goes 35 = .ok (.getfield 152, 3) := by decide +kernel
theorem dX7_goes_38 : decode cX7_goes 38 = .ok (.aload_n 0, 1) := by decide +kernel
theorem dX7_goes_39 : decode cX7_goes 39 = .ok (.getfield 16, 3) := by decide +kernel
theorem dX7_goes_42 : decode cX7_goes 42 = .ok (.getfield 155, 3) := by decide +kernel
theorem dX7_goes_45 : decode cX7_goes 45 = .ok (.isub, 1) := by decide +kernel
theorem dX7_goes_46 : decode cX7_goes 46 = .ok (.ireturn, 1) := by decide +kernel
theorem dX7_struck_0 : decode cX7_struck 0 = .ok (.iload_n 2, 1) := by decide +kernel
theorem dX7_struck_1 : decode cX7_struck 1 = .ok (.ifCond .lt 21, 3) := by decide +kernel
theorem dX7_struck_4 : decode cX7_struck 4 = .ok (.iload_n 2, 1) := by decide +kernel
theorem dX7_struck_5 : decode cX7_struck 5 = .ok (.iconst 4, 1) := by decide +kernel
theorem dX7_struck_6 : decode cX7_struck 6 = .ok (.if_icmp .gt 16, 3) := by decide +kernel
theorem dX7_struck_9 : decode cX7_struck 9 = .ok (.iload_n 3, 1) := by decide +kernel
theorem dX7_struck_10 : decode cX7_struck 10 = .ok (.ifCond .eq 8, 3) := by decide +kernel
theorem dX7_struck_13 : decode cX7_struck 13 = .ok (.iload_n 3, 1) := by decide +kernel
theorem dX7_struck_14 : decode cX7_struck 14 = .ok (.iconst 1, 1) := by decide +kernel
theorem dX7_struck_15 : decode cX7_struck 15 = .ok (.if_icmp .ne 7, 3) := by decide +kernel
theorem dX7_struck_18 : decode cX7_struck 18 = .ok (.iconst 1, 1) := by decide +kernel
theorem dX7_struck_19 : decode cX7_struck 19 = .ok (.goto 4, 3) := by decide +kernel
theorem dX7_struck_22 : decode cX7_struck 22 = .ok (.iconst 0, 1) := by decide +kernel
theorem dX7_struck_23 : decode cX7_struck 23 = .ok (.istore 4, 2) := by decide +kernel
theorem dX7_struck_25 : decode cX7_struck 25 = .ok (.iload 4, 2) := by decide +kernel
theorem dX7_struck_27 : decode cX7_struck 27 = .ok (.ifCond .eq 17, 3) := by decide +kernel
theorem dX7_struck_30 : decode cX7_struck 30 = .ok (.aload_n 0, 1) := by decide +kernel
theorem dX7_struck_31 : decode cX7_struck 31 = .ok (.getfield 16, 3) := by decide +kernel
theorem dX7_struck_34 : decode cX7_struck 34 = .ok (.getfield 49, 3) := by decide +kernel
theorem dX7_struck_37 : decode cX7_struck 37 = .ok (.iload_n 1, 1) := by decide +kernel
theorem dX7_struck_38 : decode cX7_struck 38 = .ok (.invokevirtual 121, 3) := by decide +kernel
theorem dX7_struck_41 : decode cX7_struck 41 = .ok (.ifCond .ne 5, 3) := by decide +kernel
theorem dX7_struck_44 : decode cX7_struck 44 = .ok (.iconst (-1), 1) := by decide +kernel
theorem dX7_struck_45 : decode cX7_struck 45 = .ok (.ireturn, 1) := by decide +kernel
theorem dX7_struck_46 : decode cX7_struck 46 = .ok (.aload_n 0, 1) := by decide +kernel
theorem dX7_struck_47 : decode cX7_struck 47 = .ok (.getfield 26, 3) := by decide +kernel
theorem dX7_struck_50 : decode cX7_struck 50 = .ok (.aload_n 0, 1) := by decide +kernel
theorem dX7_struck_51 : decode cX7_struck 51 = .ok (.getfield 16, 3) := by decide +kernel
theorem dX7_struck_54 : decode cX7_struck 54 = .ok (.getfield 49, 3) := by decide +kernel
theorem dX7_struck_57 : decode cX7_struck 57 = .ok (.invokevirtual 124, 3) := by decide +kernel
theorem dX7_struck_60 : decode cX7_struck 60 = .ok (.aload_n 0, 1) := by decide +kernel
theorem dX7_struck_61 : decode cX7_struck 61 = .ok (.getfield 26, 3) := by decide +kernel
theorem dX7_struck_64 : decode cX7_struck 64 = .ok (.iload_n 1, 1) := by decide +kernel
theorem dX7_struck_65 : decode cX7_struck 65 = .ok (.aload_n 0, 1) := by decide +kernel
theorem dX7_struck_66 : decode cX7_struck 66 = .ok (.getfield 16, 3) := by decide +kernel
theorem dX7_struck_69 : decode cX7_struck 69 = .ok (.getfield 49, 3) := by decide +kernel
theorem dX7_struck_72 : decode cX7_struck 72 = .ok (.invokevirtual 135, 3) := by decide +kernel
theorem dX7_struck_75 : decode cX7_struck 75 = .ok (.iload_n 2, 1) := by decide +kernel
theorem dX7_struck_76 : decode cX7_struck 76 = .ok (.invokevirtual 158, 3) := by decide +kernel
theorem dX7_struck_79 : decode cX7_struck 79 = .ok (.istore 5, 2) := by decide +kernel
theorem dX7_struck_81 : decode cX7_struck 81 = .ok (.iconst 1, 1) := by decide +kernel
theorem dX7_struck_82 : decode cX7_struck 82 = .ok (.istore 6, 2) := by decide +kernel
theorem dX7_struck_84 : decode cX7_struck 84 = .ok (.iconst 0, 1) := by decide +kernel
theorem dX7_struck_85 : decode cX7_struck 85 = .ok (.istore 7, 2) := by decide +kernel
theorem dX7_struck_87 : decode cX7_struck 87 = .ok (.iload 7, 2) := by decide +kernel
theorem dX7_struck_89 : decode cX7_struck 89 = .ok (.iload_n 2, 1) := by decide +kernel
theorem dX7_struck_90 : decode cX7_struck 90 = .ok (.if_icmp .ge 34, 3) := by decide +kernel
theorem dX7_struck_93 : decode cX7_struck 93 = .ok (.iload 5, 2) := by decide +kernel
theorem dX7_struck_95 : decode cX7_struck 95 = .ok (.bipush 7, 2) := by decide +kernel
theorem dX7_struck_97 : decode cX7_struck 97 = .ok (.irem, 1) := by decide +kernel
theorem dX7_struck_98 : decode cX7_struck 98 = .ok (.ifCond .ne 13, 3) := by decide +kernel
theorem dX7_struck_101 : decode cX7_struck 101 = .ok (.iload 5, 2) := by decide +kernel
theorem dX7_struck_103 : decode cX7_struck 103 = .ok (.bipush 7, 2) := by decide +kernel
theorem dX7_struck_105 : decode cX7_struck 105 = .ok (.idiv, 1) := by decide +kernel
theorem dX7_struck_106 : decode cX7_struck 106 = .ok (.istore 5, 2) := by decide +kernel
theorem dX7_struck_108 : decode cX7_struck 108 = .ok (.goto 10, 3) := by decide +kernel
theorem dX7_struck_111 : decode cX7_struck 111 = .ok (.iload 6, 2) := by decide +kernel
theorem dX7_struck_113 : decode cX7_struck 113 = .ok (.bipush 7, 2) := by decide +kernel
theorem dX7_struck_115 : decode cX7_struck 115 = .ok (.imul, 1) := by decide +kernel
theorem dX7_struck_116 : decode cX7_struck 116 = .ok (.istore 6, 2) := by decide +kernel
theorem dX7_struck_118 : decode cX7_struck 118 = .ok (.iinc 7 1, 3) := by decide +kernel
theorem dX7_struck_121 : decode cX7_struck 121 = .ok (.goto (-34), 3) := by decide +kernel
theorem dX7_struck_124 : decode cX7_struck 124 = .ok (.iload_n 3, 1) := by decide +kernel
theorem dX7_struck_125 : decode cX7_struck 125 = .ok (.ifCond .ne 8, 3) := by decide +kernel
theorem dX7_struck_128 : decode cX7_struck 128 = .ok (.iload 5, 2) := by decide +kernel
theorem dX7_struck_130 : decode cX7_struck 130 = .ok (.goto 5, 3) := by decide +kernel
theorem dX7_struck_133 : decode cX7_struck 133 = .ok (.iload 6, 2) := by decide +kernel
theorem dX7_struck_135 : decode cX7_struck 135 = .ok (.ireturn, 1) := by decide +kernel
theorem dX7_image_0 : decode cX7_image 0 = .ok (.aload_n 0, 1) := by decide +kernel
theorem dX7_image_1 : decode cX7_image 1 = .ok (.getfield 20, 3) := by decide +kernel
theorem dX7_image_4 : decode cX7_image 4 = .ok (.aload_n 0, 1) := by decide +kernel
theorem dX7_image_5 : decode cX7_image 5 = .ok (.getfield 16, 3) := by decide +kernel
theorem dX7_image_8 : decode cX7_image 8 = .ok (.invokevirtual 162, 3) := by decide +kernel
theorem dX7_image_11 : decode cX7_image 11 = .ok (.aload_n 0, 1) := by decide +kernel
theorem dX7_image_12 : decode cX7_image 12 = .ok (.iconst 1, 1) := by decide +kernel
theorem dX7_image_13 : decode cX7_image 13 = .ok (.putfield 166, 3) := by decide +kernel
theorem dX7_image_16 : decode cX7_image 16 = .ok (.iconst 1, 1) := by decide +kernel
theorem dX7_image_17 : decode cX7_image 17 = .ok (.ireturn, 1) := by decide +kernel
theorem dX7_restore_0 : decode cX7_restore 0 = .ok (.aload_n 0, 1) := by decide +kernel
theorem dX7_restore_1 : decode cX7_restore 1 = .ok (.getfield 166, 3) := by decide +kernel
theorem dX7_restore_4 : decode cX7_restore 4 = .ok (.ifCond .ne 6, 3) := by decide +kernel
theorem dX7_restore_7 : decode cX7_restore 7 = .ok (.bipush (-4), 2) := by decide +kernel
theorem dX7_restore_9 : decode cX7_restore 9 = .ok (.ireturn, 1) := by decide +kernel
theorem dX7_restore_10 : decode cX7_restore 10 = .ok (.aload_n 0, 1) := by decide +kernel
theorem dX7_restore_11 : decode cX7_restore 11 = .ok (.getfield 16, 3) := by decide +kernel
theorem dX7_restore_14 : decode cX7_restore 14 = .ok (.aload_n 0, 1) := by decide +kernel
theorem dX7_restore_15 : decode cX7_restore 15 = .ok (.getfield 20, 3) := by decide +kernel
theorem dX7_restore_18 : decode cX7_restore 18 = .ok (.invokevirtual 162, 3) := by decide +kernel
theorem dX7_restore_21 : decode cX7_restore 21 = .ok (.iconst 1, 1) := by decide +kernel
theorem dX7_restore_22 : decode cX7_restore 22 = .ok (.ireturn, 1) := by decide +kernel
theorem dX7_play_0 : decode cX7_play 0 = .ok (.aload_n 0, 1) := by decide +kernel
theorem dX7_play_1 : decode cX7_play 1 = .ok (.iload_n 1, 1) := by decide +kernel
theorem dX7_play_2 : decode cX7_play 2 = .ok (.invokevirtual 169, 3) := by decide +kernel
theorem dX7_play_5 : decode cX7_play 5 = .ok (.astore 5, 2) := by decide +kernel
theorem dX7_play_7 : decode cX7_play 7 = .ok (.aload 5, 2) := by decide +kernel
theorem dX7_play_9 : decode cX7_play 9 = .ok (.ifnull 18, 3) := by decide +kernel
theorem dX7_play_12 : decode cX7_play 12 = .ok (.iload_n 2, 1) := by decide +kernel
theorem dX7_play_13 : decode cX7_play 13 = .ok (.invokestatic 173, 3) := by decide +kernel
theorem dX7_play_16 : decode cX7_play 16 = .ok (.ifCond .eq 11, 3) := by decide +kernel
theorem dX7_play_19 : decode cX7_play 19 = .ok (.iload 4, 2) := by decide +kernel
theorem dX7_play_21 : decode cX7_play 21 = .ok (.invokestatic 176, 3) := by decide +kernel
theorem dX7_play_24 : decode cX7_play 24 = .ok (.ifCond .ne 5, 3) := by decide +kernel
theorem dX7_play_27 : decode cX7_play 27 = .ok (.iconst (-1), 1) := by decide +kernel
theorem dX7_play_28 : decode cX7_play 28 = .ok (.ireturn, 1) := by decide +kernel
theorem dX7_play_29 : decode cX7_play 29 = .ok (.aload 5, 2) := by decide +kernel
theorem dX7_play_31 : decode cX7_play 31 = .ok (.iload_n 2, 1) := by decide +kernel
theorem dX7_play_32 : decode cX7_play 32 = .ok (.iload_n 3, 1) := by decide +kernel
theorem dX7_play_33 : decode cX7_play 33 = .ok (.iload 4, 2) := by decide +kernel
theorem dX7_play_35 : decode cX7_play 35 = .ok (.invokevirtual 179, 3) := by decide +kernel
theorem dX7_play_38 : decode cX7_play 38 = .ok (.istore 6, 2) := by decide +kernel
theorem dX7_play_40 : decode cX7_play 40 = .ok (.iload 6, 2) := by decide +kernel
theorem dX7_play_42 : decode cX7_play 42 = .ok (.ifCond .eq 6, 3) := by decide +kernel
theorem dX7_play_45 : decode cX7_play 45 = .ok (.iload 6, 2) := by decide +kernel
theorem dX7_play_47 : decode cX7_play 47 = .ok (.ireturn, 1) := by decide +kernel
theorem dX7_play_48 : decode cX7_play 48 = .ok (.iload_n 3, 1) := by decide +kernel
theorem dX7_play_49 : decode cX7_play 49 = .ok (.istore 7, 2) := by decide +kernel
theorem dX7_play_51 : decode cX7_play 51 = .ok (.iload 7, 2) := by decide +kernel
theorem dX7_play_53 : decode cX7_play 53 = .ok (.iload_n 3, 1) := by decide +kernel
theorem dX7_play_54 : decode cX7_play 54 = .ok (.iload 4, 2) := by decide +kernel
theorem dX7_play_56 : decode cX7_play 56 = .ok (.iadd, 1) := by decide +kernel
theorem dX7_play_57 : decode cX7_play 57 = .ok (.if_icmp .ge 42, 3) := by decide +kernel
theorem dX7_play_60 : decode cX7_play 60 = .ok (.aload 5, 2) := by decide +kernel
theorem dX7_play_62 : decode cX7_play 62 = .ok (.getfield 182, 3) := by decide +kernel
theorem dX7_play_65 : decode cX7_play 65 = .ok (.iload 7, 2) := by decide +kernel
theorem dX7_play_67 : decode cX7_play 67 = .ok (.laload, 1) := by decide +kernel
theorem dX7_play_68 : decode cX7_play 68 = .ok (.ldc2_w 186, 3) := by decide +kernel
theorem dX7_play_71 : decode cX7_play 71 = .ok (.lcmp, 1) := by decide +kernel
theorem dX7_play_72 : decode cX7_play 72 = .ok (.ifCond .lt 18, 3) := by decide +kernel
theorem dX7_play_75 : decode cX7_play 75 = .ok (.aload 5, 2) := by decide +kernel
theorem dX7_play_77 : decode cX7_play 77 = .ok (.getfield 182, 3) := by decide +kernel
theorem dX7_play_80 : decode cX7_play 80 = .ok (.iload 7, 2) := by decide +kernel
theorem dX7_play_82 : decode cX7_play 82 = .ok (.laload, 1) := by decide +kernel
theorem dX7_play_83 : decode cX7_play 83 = .ok (.ldc2_w 188, 3) := by decide +kernel
theorem dX7_play_86 : decode cX7_play 86 = .ok (.lcmp, 1) := by decide +kernel
theorem dX7_play_87 : decode cX7_play 87 = .ok (.ifCond .le 6, 3) := by decide +kernel
theorem dX7_play_90 : decode cX7_play 90 = .ok (.bipush (-2), 2) := by decide +kernel
theorem dX7_play_92 : decode cX7_play 92 = .ok (.ireturn, 1) := by decide +kernel
theorem dX7_play_93 : decode cX7_play 93 = .ok (.iinc 7 1, 3) := by decide +kernel
theorem dX7_play_96 : decode cX7_play 96 = .ok (.goto (-45), 3) := by decide +kernel
theorem dX7_play_99 : decode cX7_play 99 = .ok (.iconst 0, 1) := by decide +kernel
theorem dX7_play_100 : decode cX7_play 100 = .ok (.istore 7, 2) := by decide +kernel
theorem dX7_play_102 : decode cX7_play 102 = .ok (.iload_n 3, 1) := by decide +kernel
theorem dX7_play_103 : decode cX7_play 103 = .ok (.istore 8, 2) := by decide +kernel
theorem dX7_play_105 : decode cX7_play 105 = .ok (.iload 8, 2) := by decide +kernel
theorem dX7_play_107 : decode cX7_play 107 = .ok (.iload_n 3, 1) := by decide +kernel
theorem dX7_play_108 : decode cX7_play 108 = .ok (.iload 4, 2) := by decide +kernel
theorem dX7_play_110 : decode cX7_play 110 = .ok (.iadd, 1) := by decide +kernel
theorem dX7_play_111 : decode cX7_play 111 = .ok (.if_icmp .ge 31, 3) := by decide +kernel
theorem dX7_play_114 : decode cX7_play 114 = .ok (.aload_n 0, 1) := by decide +kernel
theorem dX7_play_115 : decode cX7_play 115 = .ok (.getfield 16, 3) := by decide +kernel
theorem dX7_play_118 : decode cX7_play 118 = .ok (.aload 5, 2) := by decide +kernel
theorem dX7_play_120 : decode cX7_play 120 = .ok (.getfield 182, 3) := by decide +kernel
theorem dX7_play_123 : decode cX7_play 123 = .ok (.iload 8, 2) := by decide +kernel
theorem dX7_play_125 : decode cX7_play 125 = .ok (.laload, 1) := by decide +kernel
theorem dX7_play_126 : decode cX7_play 126 = .ok (.l2i, 1) := by decide +kernel
theorem dX7_play_127 : decode cX7_play 127 = .ok (.invokevirtual 108, 3) := by decide +kernel
theorem dX7_play_130 : decode cX7_play 130 = .ok (.ifCond .ge 6, 3) := by decide +kernel
theorem dX7_play_133 : decode cX7_play 133 = .ok (.iinc 7 1, 3) := by decide +kernel
theorem dX7_play_136 : decode cX7_play 136 = .ok (.iinc 8 1, 3) := by decide +kernel
theorem dX7_play_139 : decode cX7_play 139 = .ok (.goto (-34), 3) := by decide +kernel
theorem dX7_play_142 : decode cX7_play 142 = .ok (.iload 7, 2) := by decide +kernel
theorem dX7_play_144 : decode cX7_play 144 = .ok (.ireturn, 1) := by decide +kernel
theorem dX7_film_0 : decode cX7_film 0 = .ok (.aload_n 0, 1) := by decide +kernel
theorem dX7_film_1 : decode cX7_film 1 = .ok (.iload_n 3, 1) := by decide +kernel
theorem dX7_film_2 : decode cX7_film 2 = .ok (.invokevirtual 169, 3) := by decide +kernel
theorem dX7_film_5 : decode cX7_film 5 = .ok (.astore 6, 2) := by decide +kernel
theorem dX7_film_7 : decode cX7_film 7 = .ok (.aload 6, 2) := by decide +kernel
theorem dX7_film_9 : decode cX7_film 9 = .ok (.ifnull 38, 3) := by decide +kernel
theorem dX7_film_12 : decode cX7_film 12 = .ok (.iload 4, 2) := by decide +kernel
theorem dX7_film_14 : decode cX7_film 14 = .ok (.invokestatic 173, 3) := by decide +kernel
theorem dX7_film_17 : decode cX7_film 17 = .ok (.ifCond .eq 30, 3) := by decide +kernel
theorem dX7_film_20 : decode cX7_film 20 = .ok (.iload_n 2, 1) := by decide +kernel
theorem dX7_film_21 : decode cX7_film 21 = .ok (.invokestatic 176, 3) := by decide +kernel
theorem dX7_film_24 : decode cX7_film 24 = .ok (.ifCond .eq 23, 3) := by decide +kernel
theorem dX7_film_27 : decode cX7_film 27 = .ok (.iload_n 1, 1) := by decide +kernel
theorem dX7_film_28 : decode cX7_film 28 = .ok (.ifCond .lt 19, 3) := by decide +kernel
theorem dX7_film_31 : decode cX7_film 31 = .ok (.iload_n 1, 1) := by decide +kernel
theorem dX7_film_32 : decode cX7_film 32 = .ok (.aload_n 0, 1) := by decide +kernel
theorem dX7_film_33 : decode cX7_film 33 = .ok (.getfield 16, 3) := by decide +kernel
theorem dX7_film_36 : decode cX7_film 36 = .ok (.getfield 49, 3) := by decide +kernel
theorem dX7_film_39 : decode cX7_film 39 = .ok (.getfield 53, 3) := by decide +kernel
theorem dX7_film_42 : decode cX7_film 42 = .ok (.iload_n 2, 1) := by decide +kernel
theorem dX7_film_43 : decode cX7_film 43 = .ok (.isub, 1) := by decide +kernel
theorem dX7_film_44 : decode cX7_film 44 = .ok (.if_icmp .le 5, 3) := by decide +kernel
theorem dX7_film_47 : decode cX7_film 47 = .ok (.iconst (-1), 1) := by decide +kernel
theorem dX7_film_48 : decode cX7_film 48 = .ok (.ireturn, 1) := by decide +kernel
theorem dX7_film_49 : decode cX7_film 49 = .ok (.aload 6, 2) := by decide +kernel
theorem dX7_film_51 : decode cX7_film 51 = .ok (.iload 4, 2) := by decide +kernel
theorem dX7_film_53 : decode cX7_film 53 = .ok (.iload 5, 2) := by decide +kernel
theorem dX7_film_55 : decode cX7_film 55 = .ok (.iload_n 2, 1) := by decide +kernel
theorem dX7_film_56 : decode cX7_film 56 = .ok (.invokevirtual 179, 3) := by decide +kernel
theorem dX7_film_59 : decode cX7_film 59 = .ok (.istore 7, 2) := by decide +kernel
theorem dX7_film_61 : decode cX7_film 61 = .ok (.iload 7, 2) := by decide +kernel
theorem dX7_film_63 : decode cX7_film 63 = .ok (.ifCond .eq 6, 3) := by decide +kernel
theorem dX7_film_66 : decode cX7_film 66 = .ok (.iload 7, 2) := by decide +kernel
theorem dX7_film_68 : decode cX7_film 68 = .ok (.ireturn, 1) := by decide +kernel
theorem dX7_film_69 : decode cX7_film 69 = .ok (.iconst 0, 1) := by decide +kernel
theorem dX7_film_70 : decode cX7_film 70 = .ok (.istore 8, 2) := by decide +kernel
theorem dX7_film_72 : decode cX7_film 72 = .ok (.iload 8, 2) := by decide +kernel
theorem dX7_film_74 : decode cX7_film 74 = .ok (.iload_n 2, 1) := by decide +kernel
theorem dX7_film_75 : decode cX7_film 75 = .ok (.if_icmp .ge 34, 3) := by decide +kernel
theorem dX7_film_78 : decode cX7_film 78 = .ok (.aload 6, 2) := by decide +kernel
theorem dX7_film_80 : decode cX7_film 80 = .ok (.iload 5, 2) := by decide +kernel
theorem dX7_film_82 : decode cX7_film 82 = .ok (.iload 8, 2) := by decide +kernel
theorem dX7_film_84 : decode cX7_film 84 = .ok (.iadd, 1) := by decide +kernel
theorem dX7_film_85 : decode cX7_film 85 = .ok (.aload_n 0, 1) := by decide +kernel
theorem dX7_film_86 : decode cX7_film 86 = .ok (.getfield 16, 3) := by decide +kernel
theorem dX7_film_89 : decode cX7_film 89 = .ok (.getfield 49, 3) := by decide +kernel
theorem dX7_film_92 : decode cX7_film 92 = .ok (.iload_n 1, 1) := by decide +kernel
theorem dX7_film_93 : decode cX7_film 93 = .ok (.iload 8, 2) := by decide +kernel
theorem dX7_film_95 : decode cX7_film 95 = .ok (.iadd, 1) := by decide +kernel
theorem dX7_film_96 : decode cX7_film 96 = .ok (.invokevirtual 61, 3) := by decide +kernel
theorem dX7_film_99 : decode cX7_film 99 = .ok (.i2l, 1) := by decide +kernel
theorem dX7_film_100 : decode cX7_film 100 = .ok (.invokevirtual 190, 3) := by decide +kernel
theorem dX7_film_103 : decode cX7_film 103 = .ok (.iinc 8 1, 3) := by decide +kernel
theorem dX7_film_106 : decode cX7_film 106 = .ok (.goto (-34), 3) := by decide +kernel
theorem dX7_film_109 : decode cX7_film 109 = .ok (.iload_n 2, 1) := by decide +kernel
theorem dX7_film_110 : decode cX7_film 110 = .ok (.ireturn, 1) := by decide +kernel
theorem dX7_sheet_0 : decode cX7_sheet 0 = .ok (.aload_n 0, 1) := by decide +kernel
theorem dX7_sheet_1 : decode cX7_sheet 1 = .ok (.iload_n 1, 1) := by decide +kernel
theorem dX7_sheet_2 : decode cX7_sheet 2 = .ok (.invokevirtual 169, 3) := by decide +kernel
theorem dX7_sheet_5 : decode cX7_sheet 5 = .ok (.astore 4, 2) := by decide +kernel
theorem dX7_sheet_7 : decode cX7_sheet 7 = .ok (.aload 4, 2) := by decide +kernel
theorem dX7_sheet_9 : decode cX7_sheet 9 = .ok (.ifnull 16, 3) := by decide +kernel
theorem dX7_sheet_12 : decode cX7_sheet 12 = .ok (.iload_n 2, 1) := by decide +kernel
theorem dX7_sheet_13 : decode cX7_sheet 13 = .ok (.invokestatic 173, 3) := by decide +kernel
theorem dX7_sheet_16 : decode cX7_sheet 16 = .ok (.ifCond .eq 9, 3) := by decide +kernel
theorem dX7_sheet_19 : decode cX7_sheet 19 = .ok (.iload_n 3, 1) := by decide +kernel
theorem dX7_sheet_20 : decode cX7_sheet 20 = .ok (.bipush 24, 2) := by decide +kernel
theorem dX7_sheet_22 : decode cX7_sheet 22 = .ok (.if_icmp .le 5, 3) := by decide +kernel
theorem dX7_sheet_25 : decode cX7_sheet 25 = .ok (.iconst (-1), 1) := by decide +kernel
theorem dX7_sheet_26 : decode cX7_sheet 26 = .ok (.ireturn, 1) := by decide +kernel
theorem dX7_sheet_27 : decode cX7_sheet 27 = .ok (.iload_n 3, 1) := by decide +kernel
theorem dX7_sheet_28 : decode cX7_sheet 28 = .ok (.ifCond .ge 6, 3) := by decide +kernel
theorem dX7_sheet_31 : decode cX7_sheet 31 = .ok (.bipush (-14), 2) := by decide +kernel
theorem dX7_sheet_33 : decode cX7_sheet 33 = .ok (.ireturn, 1) := by decide +kernel
theorem dX7_sheet_34 : decode cX7_sheet 34 = .ok (.aload 4, 2) := by decide +kernel
theorem dX7_sheet_36 : decode cX7_sheet 36 = .ok (.iload_n 2, 1) := by decide +kernel
theorem dX7_sheet_37 : decode cX7_sheet 37 = .ok (.iload_n 3, 1) := by decide +kernel
theorem dX7_sheet_38 : decode cX7_sheet 38 = .ok (.invokevirtual 194, 3) := by decide +kernel
theorem dX7_sheet_41 : decode cX7_sheet 41 = .ok (.iload_n 3, 1) := by decide +kernel
theorem dX7_sheet_42 : decode cX7_sheet 42 = .ok (.ireturn, 1) := by decide +kernel
theorem dX7_drop_0 : decode cX7_drop 0 = .ok (.aload_n 0, 1) := by decide +kernel
theorem dX7_drop_1 : decode cX7_drop 1 = .ok (.iload_n 1, 1) := by decide +kernel
theorem dX7_drop_2 : decode cX7_drop 2 = .ok (.invokevirtual 169, 3) := by decide +kernel
theorem dX7_drop_5 : decode cX7_drop 5 = .ok (.astore_n 2, 1) := by decide +kernel
theorem dX7_drop_6 : decode cX7_drop 6 = .ok (.aload_n 2, 1) := by decide +kernel
theorem dX7_drop_7 : decode cX7_drop 7 = .ok (.ifnonnull 5, 3) := by decide +kernel
theorem dX7_drop_10 : decode cX7_drop 10 = .ok (.iconst (-1), 1) := by decide +kernel
theorem dX7_drop_11 : decode cX7_drop 11 = .ok (.ireturn, 1) := by decide +kernel
theorem dX7_drop_12 : decode cX7_drop 12 = .ok (.aload_n 2, 1) := by decide +kernel
theorem dX7_drop_13 : decode cX7_drop 13 = .ok (.invokevirtual 198, 3) := by decide +kernel
theorem dX7_drop_16 : decode cX7_drop 16 = .ok (.ifCond .eq 6, 3) := by decide +kernel
theorem dX7_drop_19 : decode cX7_drop 19 = .ok (.bipush (-11), 2) := by decide +kernel
theorem dX7_drop_21 : decode cX7_drop 21 = .ok (.ireturn, 1) := by decide +kernel
theorem dX7_drop_22 : decode cX7_drop 22 = .ok (.aload_n 2, 1) := by decide +kernel
theorem dX7_drop_23 : decode cX7_drop 23 = .ok (.getfield 201, 3) := by decide +kernel
theorem dX7_drop_26 : decode cX7_drop 26 = .ok (.istore_n 3, 1) := by decide +kernel
theorem dX7_drop_27 : decode cX7_drop 27 = .ok (.aload_n 2, 1) := by decide +kernel
theorem dX7_drop_28 : decode cX7_drop 28 = .ok (.iconst (-1), 1) := by decide +kernel
theorem dX7_drop_29 : decode cX7_drop 29 = .ok (.iconst 0, 1) := by decide +kernel
theorem dX7_drop_30 : decode cX7_drop 30 = .ok (.invokevirtual 194, 3) := by decide +kernel
theorem dX7_drop_33 : decode cX7_drop 33 = .ok (.iload_n 3, 1) := by decide +kernel
theorem dX7_drop_34 : decode cX7_drop 34 = .ok (.ireturn, 1) := by decide +kernel
theorem dX7_item_0 : decode cX7_item 0 = .ok (.aload_n 0, 1) := by decide +kernel
theorem dX7_item_1 : decode cX7_item 1 = .ok (.iload_n 1, 1) := by decide +kernel
theorem dX7_item_2 : decode cX7_item 2 = .ok (.invokevirtual 169, 3) := by decide +kernel
theorem dX7_item_5 : decode cX7_item 5 = .ok (.astore 6, 2) := by decide +kernel
theorem dX7_item_7 : decode cX7_item 7 = .ok (.aload 6, 2) := by decide +kernel
theorem dX7_item_9 : decode cX7_item 9 = .ok (.ifnull 10, 3) := by decide +kernel
theorem dX7_item_12 : decode cX7_item 12 = .ok (.iload_n 2, 1) := by decide +kernel
theorem dX7_item_13 : decode cX7_item 13 = .ok (.invokestatic 173, 3) := by decide +kernel
theorem dX7_item_16 : decode cX7_item 16 = .ok (.ifCond .ne 5, 3) := by decide +kernel
theorem dX7_item_19 : decode cX7_item 19 = .ok (.iconst (-1), 1) := by decide +kernel
theorem dX7_item_20 : decode cX7_item 20 = .ok (.ireturn, 1) := by decide +kernel
theorem dX7_item_21 : decode cX7_item 21 = .ok (.aload 6, 2) := by decide +kernel
theorem dX7_item_23 : decode cX7_item 23 = .ok (.iload_n 2, 1) := by decide +kernel
theorem dX7_item_24 : decode cX7_item 24 = .ok (.iload_n 3, 1) := by decide +kernel
theorem dX7_item_25 : decode cX7_item 25 = .ok (.iconst 1, 1) := by decide +kernel
theorem dX7_item_26 : decode cX7_item 26 = .ok (.invokevirtual 179, 3) := by decide +kernel
theorem dX7_item_29 : decode cX7_item 29 = .ok (.istore 7, 2) := by decide +kernel
theorem dX7_item_31 : decode cX7_item 31 = .ok (.iload 7, 2) := by decide +kernel
theorem dX7_item_33 : decode cX7_item 33 = .ok (.ifCond .eq 6, 3) := by decide +kernel
theorem dX7_item_36 : decode cX7_item 36 = .ok (.iload 7, 2) := by decide +kernel
theorem dX7_item_38 : decode cX7_item 38 = .ok (.ireturn, 1) := by decide +kernel
theorem dX7_item_39 : decode cX7_item 39 = .ok (.aload 6, 2) := by decide +kernel
theorem dX7_item_41 : decode cX7_item 41 = .ok (.iload_n 3, 1) := by decide +kernel
theorem dX7_item_42 : decode cX7_item 42 = .ok (.lload 4, 2) := by decide +kernel
theorem dX7_item_44 : decode cX7_item 44 = .ok (.invokevirtual 190, 3) := by decide +kernel
theorem dX7_item_47 : decode cX7_item 47 = .ok (.iconst 1, 1) := by decide +kernel
theorem dX7_item_48 : decode cX7_item 48 = .ok (.ireturn, 1) := by decide +kernel
theorem dX7_copy_0 : decode cX7_copy 0 = .ok (.aload_n 0, 1) := by decide +kernel
theorem dX7_copy_1 : decode cX7_copy 1 = .ok (.iload_n 1, 1) := by decide +kernel
theorem dX7_copy_2 : decode cX7_copy 2 = .ok (.invokevirtual 169, 3) := by decide +kernel
theorem dX7_copy_5 : decode cX7_copy 5 = .ok (.astore 6, 2) := by decide +kernel
theorem dX7_copy_7 : decode cX7_copy 7 = .ok (.aload_n 0, 1) := by decide +kernel
theorem dX7_copy_8 : decode cX7_copy 8 = .ok (.iload_n 3, 1) := by decide +kernel
theorem dX7_copy_9 : decode cX7_copy 9 = .ok (.invokevirtual 169, 3) := by decide +kernel
theorem dX7_copy_12 : decode cX7_copy 12 = .ok (.astore 7, 2) := by decide +kernel
theorem dX7_copy_14 : decode cX7_copy 14 = .ok (.aload 6, 2) := by decide +kernel
theorem dX7_copy_16 : decode cX7_copy 16 = .ok (.ifnull 8, 3) := by decide +kernel
theorem dX7_copy_19 : decode cX7_copy 19 = .ok (.aload 7, 2) := by decide +kernel
theorem dX7_copy_21 : decode cX7_copy 21 = .ok (.ifnonnull 5, 3) := by decide +kernel
theorem dX7_copy_24 : decode cX7_copy 24 = .ok (.iconst (-1), 1) := by decide +kernel
theorem dX7_copy_25 : decode cX7_copy 25 = .ok (.ireturn, 1) := by decide +kernel
theorem dX7_copy_26 : decode cX7_copy 26 = .ok (.aload 6, 2) := by decide +kernel
theorem dX7_copy_28 : decode cX7_copy 28 = .ok (.invokevirtual 198, 3) := by decide +kernel
theorem dX7_copy_31 : decode cX7_copy 31 = .ok (.ifCond .ne 11, 3) := by decide +kernel
theorem dX7_copy_34 : decode cX7_copy 34 = .ok (.aload 7, 2) := by decide +kernel
theorem dX7_copy_36 : decode cX7_copy 36 = .ok (.invokevirtual 198, 3) := by decide +kernel
theorem dX7_copy_39 : decode cX7_copy 39 = .ok (.ifCond .eq 6, 3) := by decide +kernel
theorem dX7_copy_42 : decode cX7_copy 42 = .ok (.bipush (-11), 2) := by decide +kernel
theorem dX7_copy_44 : decode cX7_copy 44 = .ok (.ireturn, 1) := by decide +kernel
theorem dX7_copy_45 : decode cX7_copy 45 = .ok (.aload 6, 2) := by decide +kernel
theorem dX7_copy_47 : decode cX7_copy 47 = .ok (.getfield 202, 3) := by decide +kernel
theorem dX7_copy_50 : decode cX7_copy 50 = .ok (.aload 7, 2) := by decide +kernel
theorem dX7_copy_52 : decode cX7_copy 52 = .ok (.getfield 202, 3) := by decide +kernel
theorem dX7_copy_55 : decode cX7_copy 55 = .ok (.if_icmp .eq 6, 3) := by decide +kernel
theorem dX7_copy_58 : decode cX7_copy 58 = .ok (.bipush (-12), 2) := by decide +kernel
theorem dX7_copy_60 : decode cX7_copy 60 = .ok (.ireturn, 1) := by decide +kernel
theorem dX7_copy_61 : decode cX7_copy 61 = .ok (.aload 6, 2) := by decide +kernel
theorem dX7_copy_63 : decode cX7_copy 63 = .ok (.iload_n 2, 1) := by decide +kernel
theorem dX7_copy_64 : decode cX7_copy 64 = .ok (.iload 5, 2) := by decide +kernel
theorem dX7_copy_66 : decode cX7_copy 66 = .ok (.invokevirtual 205, 3) := by decide +kernel
theorem dX7_copy_69 : decode cX7_copy 69 = .ok (.ifCond .eq 15, 3) := by decide +kernel
theorem dX7_copy_72 : decode cX7_copy 72 = .ok (.aload 7, 2) := by decide +kernel
theorem dX7_copy_74 : decode cX7_copy 74 = .ok (.iload 4, 2) := by decide +kernel
theorem dX7_copy_76 : decode cX7_copy 76 = .ok (.iload 5, 2) := by decide +kernel
theorem dX7_copy_78 : decode cX7_copy 78 = .ok (.invokevirtual 205, 3) := by decide +kernel
theorem dX7_copy_81 : decode cX7_copy 81 = .ok (.ifCond .ne 6, 3) := by decide +kernel
theorem dX7_copy_84 : decode cX7_copy 84 = .ok (.bipush (-13), 2) := by decide +kernel
theorem dX7_copy_86 : decode cX7_copy 86 = .ok (.ireturn, 1) := by decide +kernel
theorem dX7_copy_87 : decode cX7_copy 87 = .ok (.aload 6, 2) := by decide +kernel
theorem dX7_copy_89 : decode cX7_copy 89 = .ok (.getfield 182, 3) := by decide +kernel
theorem dX7_copy_92 : decode cX7_copy 92 = .ok (.iload_n 2, 1) := by decide +kernel
theorem dX7_copy_93 : decode cX7_copy 93 = .ok (.aload 7, 2) := by decide +kernel
theorem dX7_copy_95 : decode cX7_copy 95 = .ok (.getfield 182, 3) := by decide +kernel
theorem dX7_copy_98 : decode cX7_copy 98 = .ok (.iload 4, 2) := by decide +kernel
theorem dX7_copy_100 : decode cX7_copy 100 = .ok (.iload 5, 2) := by decide +kernel
theorem dX7_copy_102 : decode cX7_copy 102 = .ok (.invokestatic 209, 3) := by decide +kernel
theorem dX7_copy_105 : decode cX7_copy 105 = .ok (.iload 5, 2) := by decide +kernel
theorem dX7_copy_107 : decode cX7_copy 107 = .ok (.ireturn, 1) := by decide +kernel
theorem dX7_sheetAt_0 : decode cX7_sheetAt 0 = .ok (.iload_n 1, 1) := by decide +kernel
theorem dX7_sheetAt_1 : decode cX7_sheetAt 1 = .ok (.ifCond .lt 17, 3) := by decide +kernel
theorem dX7_sheetAt_4 : decode cX7_sheetAt 4 = .ok (.iload_n 1, 1) := by decide +kernel
theorem dX7_sheetAt_5 : decode cX7_sheetAt 5 = .ok (.iconst 4, 1) := by decide +kernel
theorem dX7_sheetAt_6 : decode cX7_sheetAt 6 = .ok (.if_icmp .ge 12, 3) := by decide +kernel
theorem dX7_sheetAt_9 : decode cX7_sheetAt 9 = .ok (.aload_n 0, 1) := by decide +kernel
theorem dX7_sheetAt_10 : decode cX7_sheetAt 10 = .ok (.getfield 32, 3) := by decide +kernel
theorem dX7_sheetAt_13 : decode cX7_sheetAt 13 = .ok (.iload_n 1, 1) := by decide +kernel
theorem dX7_sheetAt_14 : decode cX7_sheetAt 14 = .ok (.aaload, 1) := by decide +kernel
theorem dX7_sheetAt_15 : decode cX7_sheetAt 15 = .ok (.goto 4, 3) := by decide +kernel
theorem dX7_sheetAt_18 : decode cX7_sheetAt 18 = .ok (.aconst_null, 1) := by decide +kernel
theorem dX7_sheetAt_19 : decode cX7_sheetAt 19 = .ok (.areturn, 1) := by decide +kernel
theorem dX7_isLetter_0 : decode cX7_isLetter 0 = .ok (.iload_n 0, 1) := by decide +kernel
theorem dX7_isLetter_1 : decode cX7_isLetter 1 = .ok (.bipush 32, 2) := by decide +kernel
theorem dX7_isLetter_3 : decode cX7_isLetter 3 = .ok (.if_icmp .lt 13, 3) := by decide +kernel
theorem dX7_isLetter_6 : decode cX7_isLetter 6 = .ok (.iload_n 0, 1) := by decide +kernel
theorem dX7_isLetter_7 : decode cX7_isLetter 7 = .ok (.bipush 126, 2) := by decide +kernel
theorem dX7_isLetter_9 : decode cX7_isLetter 9 = .ok (.if_icmp .gt 7, 3) := by decide +kernel
theorem dX7_isLetter_12 : decode cX7_isLetter 12 = .ok (.iconst 1, 1) := by decide +kernel
theorem dX7_isLetter_13 : decode cX7_isLetter 13 = .ok (.goto 4, 3) := by decide +kernel
theorem dX7_isLetter_16 : decode cX7_isLetter 16 = .ok (.iconst 0, 1) := by decide +kernel
theorem dX7_isLetter_17 : decode cX7_isLetter 17 = .ok (.ireturn, 1) := by decide +kernel
theorem dX7_isMotion_0 : decode cX7_isMotion 0 = .ok (.iload_n 0, 1) := by decide +kernel
theorem dX7_isMotion_1 : decode cX7_isMotion 1 = .ok (.ifCond .lt 13, 3) := by decide +kernel
theorem dX7_isMotion_4 : decode cX7_isMotion 4 = .ok (.iload_n 0, 1) := by decide +kernel
theorem dX7_isMotion_5 : decode cX7_isMotion 5 = .ok (.bipush 7, 2) := by decide +kernel
theorem dX7_isMotion_7 : decode cX7_isMotion 7 = .ok (.if_icmp .ge 7, 3) := by decide +kernel
theorem dX7_isMotion_10 : decode cX7_isMotion 10 = .ok (.iconst 1, 1) := by decide +kernel
theorem dX7_isMotion_11 : decode cX7_isMotion 11 = .ok (.goto 4, 3) := by decide +kernel
theorem dX7_isMotion_14 : decode cX7_isMotion 14 = .ok (.iconst 0, 1) := by decide +kernel
theorem dX7_isMotion_15 : decode cX7_isMotion 15 = .ok (.ireturn, 1) := by decide +kernel
theorem dX7_isLane_0 : decode cX7_isLane 0 = .ok (.iload_n 0, 1) := by decide +kernel
theorem dX7_isLane_1 : decode cX7_isLane 1 = .ok (.ifCond .lt 12, 3) := by decide +kernel
theorem dX7_isLane_4 : decode cX7_isLane 4 = .ok (.iload_n 0, 1) := by decide +kernel
theorem dX7_isLane_5 : decode cX7_isLane 5 = .ok (.iconst 4, 1) := by decide +kernel
theorem dX7_isLane_6 : decode cX7_isLane 6 = .ok (.if_icmp .ge 7, 3) := by decide +kernel
theorem dX7_isLane_9 : decode cX7_isLane 9 = .ok (.iconst 1, 1) := by decide +kernel
theorem dX7_isLane_10 : decode cX7_isLane 10 = .ok (.goto 4, 3) := by decide +kernel
theorem dX7_isLane_13 : decode cX7_isLane 13 = .ok (.iconst 0, 1) := by decide +kernel
theorem dX7_isLane_14 : decode cX7_isLane 14 = .ok (.ireturn, 1) := by decide +kernel
theorem dX7_isPortion_0 : decode cX7_isPortion 0 = .ok (.iload_n 0, 1) := by decide +kernel
theorem dX7_isPortion_1 : decode cX7_isPortion 1 = .ok (.iconst 1, 1) := by decide +kernel
theorem dX7_isPortion_2 : decode cX7_isPortion 2 = .ok (.if_icmp .lt 13, 3) := by decide +kernel
theorem dX7_isPortion_5 : decode cX7_isPortion 5 = .ok (.iload_n 0, 1) := by decide +kernel
theorem dX7_isPortion_6 : decode cX7_isPortion 6 = .ok (.bipush 24, 2) := by decide +kernel
theorem dX7_isPortion_8 : decode cX7_isPortion 8 = .ok (.if_icmp .gt 7, 3) := by decide +kernel
theorem dX7_isPortion_11 : decode cX7_isPortion 11 = .ok (.iconst 1, 1) := by decide +kernel
theorem dX7_isPortion_12 : decode cX7_isPortion 12 = .ok (.goto 4, 3) := by decide +kernel
theorem dX7_isPortion_15 : decode cX7_isPortion 15 = .ok (.iconst 0, 1) := by decide +kernel
theorem dX7_isPortion_16 : decode cX7_isPortion 16 = .ok (.ireturn, 1) := by decide +kernel
theorem dX8_in_0 : decode cX8_in 0 = .ok (.lload_n 0, 1) := by decide +kernel
theorem dX8_in_1 : decode cX8_in 1 = .ok (.lload_n 2, 1) := by decide +kernel
theorem dX8_in_2 : decode cX8_in 2 = .ok (.lcmp, 1) := by decide +kernel
theorem dX8_in_3 : decode cX8_in 3 = .ok (.ifCond .lt 14, 3) := by decide +kernel
theorem dX8_in_6 : decode cX8_in 6 = .ok (.lload_n 0, 1) := by decide +kernel
theorem dX8_in_7 : decode cX8_in 7 = .ok (.lload 4, 2) := by decide +kernel
theorem dX8_in_9 : decode cX8_in 9 = .ok (.lcmp, 1) := by decide +kernel
theorem dX8_in_10 : decode cX8_in 10 = .ok (.ifCond .gt 7, 3) := by decide +kernel
theorem dX8_in_13 : decode cX8_in 13 = .ok (.iconst 1, 1) := by decide +kernel
theorem dX8_in_14 : decode cX8_in 14 = .ok (.goto 4, 3) := by decide +kernel
theorem dX8_in_17 : decode cX8_in 17 = .ok (.iconst 0, 1) := by decide +kernel
theorem dX8_in_18 : decode cX8_in 18 = .ok (.ireturn, 1) := by decide +kernel
theorem dX8_init_0 : decode cX8_init 0 = .ok (.aload_n 0, 1) := by decide +kernel
theorem dX8_init_1 : decode cX8_init 1 = .ok (.invokespecial 1, 3) := by decide +kernel
theorem dX8_init_4 : decode cX8_init 4 = .ok (.aload_n 0, 1) := by decide +kernel
theorem dX8_init_5 : decode cX8_init 5 = .ok (.sipush 263, 3) := by decide +kernel
theorem dX8_init_8 : decode cX8_init 8 = .ok (.newarray .int, 2) := by decide +kernel
theorem dX8_init_10 : decode cX8_init 10 = .ok (.putfield 7, 3) := by decide +kernel
theorem dX8_init_13 : decode cX8_init 13 = .ok (.aload_n 0, 1) := by decide +kernel
theorem dX8_init_14 : decode cX8_init 14 = .ok (.sipush 496, 3) := by decide +kernel
theorem dX8_init_17 : decode cX8_init 17 = .ok (.newarray .int, 2) := by decide +kernel
theorem dX8_init_19 : decode cX8_init 19 = .ok (.putfield 13, 3) := by decide +kernel
theorem dX8_init_22 : decode cX8_init 22 = .ok (.aload_n 0, 1) := by decide +kernel
theorem dX8_init_23 : decode cX8_init 23 = .ok (.bipush 30, 2) := by decide +kernel
theorem dX8_init_25 : decode cX8_init 25 = .ok (.newarray .int, 2) := by decide +kernel
theorem dX8_init_27 : decode cX8_init 27 = .ok (.putfield 16, 3) := by decide +kernel
theorem dX8_init_30 : decode cX8_init 30 = .ok (.aload_n 0, 1) := by decide +kernel
theorem dX8_init_31 : decode cX8_init 31 = .ok (.bipush 60, 2) := by decide +kernel
theorem dX8_init_33 : decode cX8_init 33 = .ok (.newarray .int, 2) := by decide +kernel
theorem dX8_init_35 : decode cX8_init 35 = .ok (.putfield 19, 3) := by decide +kernel
theorem dX8_init_38 : decode cX8_init 38 = .ok (.aload_n 0, 1) := by decide +kernel
theorem dX8_init_39 : decode cX8_init 39 = .ok (.bipush 60, 2) := by decide +kernel
theorem dX8_init_41 : decode cX8_init 41 = .ok (.newarray .int, 2) := by decide +kernel
theorem dX8_init_43 : decode cX8_init 43 = .ok (.putfield 22, 3) := by decide +kernel
theorem dX8_init_46 : decode cX8_init 46 = .ok (.aload_n 0, 1) := by decide +kernel
theorem dX8_init_47 : decode cX8_init 47 = .ok (.bipush 60, 2) := by decide +kernel
theorem dX8_init_49 : decode cX8_init 49 = .ok (.newarray .int, 2) := by decide +kernel
theorem dX8_init_51 : decode cX8_init 51 = .ok (.putfield 25, 3) := by decide +kernel
theorem dX8_init_54 : decode cX8_init 54 = .ok (.aload_n 0, 1) := by decide +kernel
theorem dX8_init_55 : decode cX8_init 55 = .ok (.bipush 60, 2) := by decide +kernel
theorem dX8_init_57 : decode cX8_init 57 = .ok (.newarray .int, 2) := by decide +kernel
theorem dX8_init_59 : decode cX8_init 59 = .ok (.putfield 28, 3) := by decide +kernel
theorem dX8_init_62 : decode cX8_init 62 = .ok (.aload_n 0, 1) := by decide +kernel
theorem dX8_init_63 : decode cX8_init 63 = .ok (.sipush 263, 3) := by decide +kernel
theorem dX8_init_66 : decode cX8_init 66 = .ok (.newarray .int, 2) := by decide +kernel
theorem dX8_init_68 : decode cX8_init 68 = .ok (.putfield 31, 3) := by decide +kernel
theorem dX8_init_71 : decode cX8_init 71 = .ok (.aload_n 0, 1) := by decide +kernel
theorem dX8_init_72 : decode cX8_init 72 = .ok (.sipush 496, 3) := by decide +kernel
theorem dX8_init_75 : decode cX8_init 75 = .ok (.newarray .int, 2) := by decide +kernel
theorem dX8_init_77 : decode cX8_init 77 = .ok (.putfield 34, 3) := by decide +kernel
theorem dX8_init_80 : decode cX8_init 80 = .ok (.aload_n 0, 1) := by decide +kernel
theorem dX8_init_81 : decode cX8_init 81 = .ok (.iconst (-1), 1) := by decide +kernel
theorem dX8_init_82 : decode cX8_init 82 = .ok (.putfield 37, 3) := by decide +kernel
theorem dX8_init_85 : decode cX8_init 85 = .ok (.aload_n 0, 1) := by decide +kernel
theorem dX8_init_86 : decode cX8_init 86 = .ok (.iconst 4, 1) := by decide +kernel
theorem dX8_init_87 : decode cX8_init 87 = .ok (.newarray .int, 2) := by decide +kernel
theorem dX8_init_89 : decode cX8_init 89 = .ok (.putfield 41, 3) := by decide +kernel
theorem dX8_init_92 : decode cX8_init 92 = .ok (.aload_n 0, 1) := by decide +kernel
theorem dX8_init_93 : decode cX8_init 93 = .ok (.iconst 4, 1) := by decide +kernel
theorem dX8_init_94 : decode cX8_init 94 = .ok (.newarray .int, 2) := by decide +kernel
theorem dX8_init_96 : decode cX8_init 96 = .ok (.putfield 44, 3) := by decide +kernel
theorem dX8_init_99 : decode cX8_init 99 = .ok (.aload_n 0, 1) := by decide +kernel
theorem dX8_init_100 : decode cX8_init 100 = .ok (.bipush 96, 2) := by decide +kernel
theorem dX8_init_102 : decode cX8_init 102 = .ok (.newarray .long, 2) := by decide +kernel
theorem dX8_init_104 : decode cX8_init 104 = .ok (.putfield 47, 3) := by decide +kernel
theorem dX8_init_107 : decode cX8_init 107 = .ok (.aload_n 0, 1) := by decide +kernel
theorem dX8_init_108 : decode cX8_init 108 = .ok (.bipush 24, 2) := by decide +kernel
theorem dX8_init_110 : decode cX8_init 110 = .ok (.newarray .long, 2) := by decide +kernel
theorem dX8_init_112 : decode cX8_init 112 = .ok (.putfield 51, 3) := by decide +kernel
theorem dX8_init_115 : decode cX8_init 115 = .ok (.iconst 0, 1) := by decide +kernel
theorem dX8_init_116 : decode cX8_init 116 = .ok (.istore_n 1, 1) := by decide +kernel
theorem dX8_init_117 : decode cX8_init 117 = .ok (.iload_n 1, 1) := by decide +kernel
theorem dX8_init_118 : decode cX8_init 118 = .ok (.iconst 4, 1) := by decide +kernel
theorem dX8_init_119 : decode cX8_init 119 = .ok (.if_icmp .ge 27, 3) := by decide +kernel
theorem dX8_init_122 : decode cX8_init 122 = .ok (.aload_n 0, 1) := by decide +kernel
theorem dX8_init_123 : decode cX8_init 123 = .ok (.getfield 7, 3) := by decide +kernel
theorem dX8_init_126 : decode cX8_init 126 = .ok (.bipush 124, 2) := by decide +kernel
theorem dX8_init_128 : decode cX8_init 128 = .ok (.iload_n 1, 1) := by decide +kernel
theorem dX8_init_129 : decode cX8_init 129 = .ok (.iadd, 1) := by decide +kernel
theorem dX8_init_130 : decode cX8_init 130 = .ok (.bipush (-4), 2) := by decide +kernel
theorem dX8_init_132 : decode cX8_init 132 = .ok (.iastore, 1) := by decide +kernel
theorem dX8_init_133 : decode cX8_init 133 = .ok (.aload_n 0, 1) := by decide +kernel
theorem dX8_init_134 : decode cX8_init 134 = .ok (.getfield 41, 3) := by decide +kernel
theorem dX8_init_137 : decode cX8_init 137 = .ok (.iload_n 1, 1) := by decide +kernel
theorem dX8_init_138 : decode cX8_init 138 = .ok (.iconst (-1), 1) := by decide +kernel
theorem dX8_init_139 : decode cX8_init 139 = .ok (.iastore, 1) := by decide +kernel
theorem dX8_init_140 : decode cX8_init 140 = .ok (.iinc 1 1, 3) := by decide +kernel
theorem dX8_init_143 : decode cX8_init 143 = .ok (.goto (-26), 3) := by decide +kernel
theorem dX8_init_146 : decode cX8_init 146 = .ok (.iconst 0, 1) := by decide +kernel
theorem dX8_init_147 : decode cX8_init 147 = .ok (.istore_n 1, 1) := by decide +kernel
theorem dX8_init_148 : decode cX8_init 148 = .ok (.iload_n 1, 1) := by decide +kernel
theorem dX8_init_149 : decode cX8_init 149 = .ok (.bipush 7, 2) := by decide +kernel
theorem dX8_init_151 : decode cX8_init 151 = .ok (.if_icmp .ge 20, 3) := by decide +kernel
theorem dX8_init_154 : decode cX8_init 154 = .ok (.aload_n 0, 1) := by decide +kernel
theorem dX8_init_155 : decode cX8_init 155 = .ok (.getfield 7, 3) := by decide +kernel
theorem dX8_init_158 : decode cX8_init 158 = .ok (.sipush 256, 3) := by decide +kernel
theorem dX8_init_161 : decode cX8_init 161 = .ok (.iload_n 1, 1) := by decide +kernel
theorem dX8_init_162 : decode cX8_init 162 = .ok (.iadd, 1) := by decide +kernel
theorem dX8_init_163 : decode cX8_init 163 = .ok (.iconst 1, 1) := by decide +kernel
theorem dX8_init_164 : decode cX8_init 164 = .ok (.iastore, 1) := by decide +kernel
theorem dX8_init_165 : decode cX8_init 165 = .ok (.iinc 1 1, 3) := by decide +kernel
theorem dX8_init_168 : decode cX8_init 168 = .ok (.goto (-20), 3) := by decide +kernel
theorem dX8_init_171 : decode cX8_init 171 = .ok (.return_, 1) := by decide +kernel
theorem dX8_lesser_0 : decode cX8_lesser 0 = .ok (.iload_n 0, 1) := by decide +kernel
theorem dX8_lesser_1 : decode cX8_lesser 1 = .ok (.iload_n 1, 1) := by decide +kernel
theorem dX8_lesser_2 : decode cX8_lesser 2 = .ok (.if_icmp .ge 7, 3) := by decide +kernel
theorem dX8_lesser_5 : decode cX8_lesser 5 = .ok (.iload_n 0, 1) := by decide +kernel
theorem dX8_lesser_6 : decode cX8_lesser 6 = .ok (.goto 4, 3) := by decide +kernel
theorem dX8_lesser_9 : decode cX8_lesser 9 = .ok (.iload_n 1, 1) := by decide +kernel
theorem dX8_lesser_10 : decode cX8_lesser 10 = .ok (.ireturn, 1) := by decide +kernel
theorem dX8_last_0 : decode cX8_last 0 = .ok (.aload_n 0, 1) := by decide +kernel
theorem dX8_last_1 : decode cX8_last 1 = .ok (.getfield 7, 3) := by decide +kernel
theorem dX8_last_4 : decode cX8_last 4 = .ok (.iconst 0, 1) := by decide +kernel
theorem dX8_last_5 : decode cX8_last 5 = .ok (.iaload, 1) := by decide +kernel
theorem dX8_last_6 : decode cX8_last 6 = .ok (.ifCond .ne 7, 3) := by decide +kernel
theorem dX8_last_9 : decode cX8_last 9 = .ok (.iconst 0, 1) := by decide +kernel
theorem dX8_last_10 : decode cX8_last 10 = .ok (.goto 11, 3) := by decide +kernel
theorem dX8_last_13 : decode cX8_last 13 = .ok (.aload_n 0, 1) := by decide +kernel
theorem dX8_last_14 : decode cX8_last 14 = .ok (.getfield 7, 3) := by decide +kernel
theorem dX8_last_17 : decode cX8_last 17 = .ok (.iconst 0, 1) := by decide +kernel
theorem dX8_last_18 : decode cX8_last 18 = .ok (.iaload, 1) := by decide +kernel
theorem dX8_last_19 : decode cX8_last 19 = .ok (.iconst 1, 1) := by decide +kernel
theorem dX8_last_20 : decode cX8_last 20 = .ok (.isub, 1) := by decide +kernel
theorem dX8_last_21 : decode cX8_last 21 = .ok (.ireturn, 1) := by decide +kernel
theorem dX8_classOf_0 : decode cX8_classOf 0 = .ok (.iload_n 0, 1) := by decide +kernel
theorem dX8_classOf_1 : decode cX8_classOf 1 = .ok (.i2l, 1) := by decide +kernel
theorem dX8_classOf_2 : decode cX8_classOf 2 = .ok (.ldc2_w 54, 3) := by decide +kernel
theorem dX8_classOf_5 : decode cX8_classOf 5 = .ok (.ldc2_w 56, 3) := by decide +kernel
theorem dX8_classOf_8 : decode cX8_classOf 8 = .ok (.invokestatic 58, 3) := by decide +kernel
theorem dX8_classOf_11 : decode cX8_classOf 11 = .ok (.ifCond .ne 31, 3) := by decide +kernel
theorem dX8_classOf_14 : decode cX8_classOf 14 = .ok (.iload_n 0, 1) := by decide +kernel
theorem dX8_classOf_15 : decode cX8_classOf 15 = .ok (.i2l, 1) := by decide +kernel
theorem dX8_classOf_16 : decode cX8_classOf 16 = .ok (.ldc2_w 62, 3) := by decide +kernel
theorem dX8_classOf_19 : decode cX8_classOf 19 = .ok (.ldc2_w 64, 3) := by decide +kernel
theorem dX8_classOf_22 : decode cX8_classOf 22 = .ok (.invokestatic 58, 3) := by decide +kernel
theorem dX8_classOf_25 : decode cX8_classOf 25 = .ok (.ifCond .ne 17, 3) := by decide +kernel
theorem dX8_classOf_28 : decode cX8_classOf 28 = .ok (.iload_n 0, 1) := by decide +kernel
theorem dX8_classOf_29 : decode cX8_classOf 29 = .ok (.i2l, 1) := by decide +kernel
theorem dX8_classOf_30 : decode cX8_classOf 30 = .ok (.ldc2_w 66, 3) := by decide +kernel
theorem dX8_classOf_33 : decode cX8_classOf 33 = .ok (.ldc2_w 68, 3) := by decide +kernel
theorem dX8_classOf_36 : decode cX8_classOf 36 = .ok (.invokestatic 58, 3) := by decide +kernel
theorem dX8_classOf_39 : decode cX8_classOf 39 = .ok (.ifCond .eq 7, 3) := by decide +kernel
theorem dX8_classOf_42 : decode cX8_classOf 42 = .ok (.iconst 1, 1) := by decide +kernel
theorem dX8_classOf_43 : decode cX8_classOf 43 = .ok (.goto 4, 3) := by decide +kernel
theorem dX8_classOf_46 : decode cX8_classOf 46 = .ok (.iconst 0, 1) := by decide +kernel
theorem dX8_classOf_47 : decode cX8_classOf 47 = .ok (.istore_n 1, 1) := by decide +kernel
theorem dX8_classOf_48 : decode cX8_classOf 48 = .ok (.iload_n 0, 1) := by decide +kernel
theorem dX8_classOf_49 : decode cX8_classOf 49 = .ok (.bipush 32, 2) := by decide +kernel
theorem dX8_classOf_51 : decode cX8_classOf 51 = .ok (.if_icmp .ne 7, 3) := by decide +kernel
theorem dX8_classOf_54 : decode cX8_classOf 54 = .ok (.iconst 0, 1) := by decide +kernel
theorem dX8_classOf_55 : decode cX8_classOf 55 = .ok (.goto 12, 3) := by decide +kernel
theorem dX8_classOf_58 : decode cX8_classOf 58 = .ok (.iload_n 1, 1) := by decide +kernel
theorem dX8_classOf_59 : decode cX8_classOf 59 = .ok (.ifCond .eq 7, 3) := by decide +kernel
theorem dX8_classOf_62 : decode cX8_classOf 62 = .ok (.iconst 1, 1) := by decide +kernel
theorem dX8_classOf_63 : decode cX8_classOf 63 = .ok (.goto 4, 3) := by decide +kernel
theorem dX8_classOf_66 : decode cX8_classOf 66 = .ok (.iconst 2, 1) := by decide +kernel
theorem dX8_classOf_67 : decode cX8_classOf 67 = .ok (.ireturn, 1) := by decide +kernel
theorem dX8_classAt_0 : decode cX8_classAt 0 = .ok (.iload_n 1, 1) := by decide +kernel
theorem dX8_classAt_1 : decode cX8_classAt 1 = .ok (.i2l, 1) := by decide +kernel
theorem dX8_classAt_2 : decode cX8_classAt 2 = .ok (.lconst 0, 1) := by decide +kernel
theorem dX8_classAt_3 : decode cX8_classAt 3 = .ok (.aload_n 0, 1) := by decide +kernel
theorem dX8_classAt_4 : decode cX8_classAt 4 = .ok (.getfield 7, 3) := by decide +kernel
theorem dX8_classAt_7 : decode cX8_classAt 7 = .ok (.iconst 0, 1) := by decide +kernel
theorem dX8_classAt_8 : decode cX8_classAt 8 = .ok (.iaload, 1) := by decide +kernel
theorem dX8_classAt_9 : decode cX8_classAt 9 = .ok (.iconst 1, 1) := by decide +kernel
theorem dX8_classAt_10 : decode cX8_classAt 10 = .ok (.isub, 1) := by decide +kernel
theorem dX8_classAt_11 : decode cX8_classAt 11 = .ok (.i2l, 1) := by decide +kernel
theorem dX8_classAt_12 : decode cX8_classAt 12 = .ok (.invokestatic 58, 3) := by decide +kernel
theorem dX8_classAt_15 : decode cX8_classAt 15 = .ok (.ifCond .eq 17, 3) := by decide +kernel
theorem dX8_classAt_18 : decode cX8_classAt 18 = .ok (.aload_n 0, 1) := by decide +kernel
theorem dX8_classAt_19 : decode cX8_classAt 19 = .ok (.getfield 7, 3) := by decide +kernel
theorem dX8_classAt_22 : decode cX8_classAt 22 = .ok (.iconst 1, 1) := by decide +kernel
theorem dX8_classAt_23 : decode cX8_classAt 23 = .ok (.iload_n 1, 1) := by decide +kernel
theorem dX8_classAt_24 : decode cX8_classAt 24 = .ok (.iadd, 1) := by decide +kernel
theorem dX8_classAt_25 : decode cX8_classAt 25 = .ok (.iaload, 1) := by decide +kernel
theorem dX8_classAt_26 : decode cX8_classAt 26 = .ok (.invokestatic 70, 3) := by decide +kernel
theorem dX8_classAt_29 : decode cX8_classAt 29 = .ok (.goto 4, 3) := by decide +kernel
theorem dX8_classAt_32 : decode cX8_classAt 32 = .ok (.iconst (-1), 1) := by decide +kernel
theorem dX8_classAt_33 : decode cX8_classAt 33 = .ok (.ireturn, 1) := by decide +kernel
theorem dX8_wordOn_0 : decode cX8_wordOn 0 = .ok (.iload_n 1, 1) := by decide +kernel
theorem dX8_wordOn_1 : decode cX8_wordOn 1 = .ok (.istore_n 2, 1) := by decide +kernel
theorem dX8_wordOn_2 : decode cX8_wordOn 2 = .ok (.aload_n 0, 1) := by decide +kernel
theorem dX8_wordOn_3 : decode cX8_wordOn 3 = .ok (.iload_n 1, 1) := by decide +kernel
theorem dX8_wordOn_4 : decode cX8_wordOn 4 = .ok (.invokevirtual 74, 3) := by decide +kernel
theorem dX8_wordOn_7 : decode cX8_wordOn 7 = .ok (.istore_n 3, 1) := by decide +kernel
theorem dX8_wordOn_8 : decode cX8_wordOn 8 = .ok (.iload_n 3, 1) := by decide +kernel
theorem dX8_wordOn_9 : decode cX8_wordOn 9 = .ok (.ifCond .le 18, 3) := by decide +kernel
theorem dX8_wordOn_12 : decode cX8_wordOn 12 = .ok (.aload_n 0, 1) := by decide +kernel
theorem dX8_wordOn_13 : decode cX8_wordOn 13 = .ok (.iload_n 2, 1) := by decide +kernel
theorem dX8_wordOn_14 : decode cX8_wordOn 14 = .ok (.invokevirtual 74, 3) := by decide +kernel
theorem dX8_wordOn_17 : decode cX8_wordOn 17 = .ok (.iload_n 3, 1) := by decide +kernel
theorem dX8_wordOn_18 : decode cX8_wordOn 18 = .ok (.if_icmp .ne 9, 3) := by decide +kernel
theorem dX8_wordOn_21 : decode cX8_wordOn 21 = .ok (.iinc 2 1, 3) := by decide +kernel
theorem dX8_wordOn_24 : decode cX8_wordOn 24 = .ok (.goto (-16), 3) := by decide +kernel
theorem dX8_wordOn_27 : decode cX8_wordOn 27 = .ok (.aload_n 0, 1) := by decide +kernel
theorem dX8_wordOn_28 : decode cX8_wordOn 28 = .ok (.iload_n 2, 1) := by decide +kernel
theorem dX8_wordOn_29 : decode cX8_wordOn 29 = .ok (.invokevirtual 74, 3) := by decide +kernel
theorem dX8_wordOn_32 : decode cX8_wordOn 32 = .ok (.ifCond .ne 9, 3) := by decide +kernel
theorem dX8_wordOn_35 : decode cX8_wordOn 35 = .ok (.iinc 2 1, 3) := by decide +kernel
theorem dX8_wordOn_38 : decode cX8_wordOn 38 = .ok (.goto (-11), 3) := by decide +kernel
theorem dX8_wordOn_41 : decode cX8_wordOn 41 = .ok (.iload_n 2, 1) := by decide +kernel
theorem dX8_wordOn_42 : decode cX8_wordOn 42 = .ok (.ireturn, 1) := by decide +kernel
theorem dX8_wordBack_0 : decode cX8_wordBack 0 = .ok (.iload_n 1, 1) := by decide +kernel
theorem dX8_wordBack_1 : decode cX8_wordBack 1 = .ok (.istore_n 2, 1) := by decide +kernel
theorem dX8_wordBack_2 : decode cX8_wordBack 2 = .ok (.aload_n 0, 1) := by decide +kernel
theorem dX8_wordBack_3 : decode cX8_wordBack 3 = .ok (.iload_n 2, 1) := by decide +kernel
theorem dX8_wordBack_4 : decode cX8_wordBack 4 = .ok (.iconst 1, 1) := by decide +kernel
theorem dX8_wordBack_5 : decode cX8_wordBack 5 = .ok (.isub, 1) := by decide +kernel
theorem dX8_wordBack_6 : decode cX8_wordBack 6 = .ok (.invokevirtual 74, 3) := by decide +kernel
theorem dX8_wordBack_9 : decode cX8_wordBack 9 = .ok (.ifCond .ne 9, 3) := by decide +kernel
theorem dX8_wordBack_12 : decode cX8_wordBack 12 = .ok (.iinc 2 (-1), 3) := by decide +kernel
theorem dX8_wordBack_15 : decode cX8_wordBack 15 = .ok (.goto (-13), 3) := by decide +kernel
theorem dX8_wordBack_18 : decode cX8_wordBack 18 = .ok (.aload_n 0, 1) := by decide +kernel
theorem dX8_wordBack_19 : decode cX8_wordBack 19 = .ok (.iload_n 2, 1) := by decide +kernel
theorem dX8_wordBack_20 : decode cX8_wordBack 20 = .ok (.iconst 1, 1) := by decide +kernel
theorem dX8_wordBack_21 : decode cX8_wordBack 21 = .ok (.isub, 1) := by decide +kernel
theorem dX8_wordBack_22 : decode cX8_wordBack 22 = .ok (.invokevirtual 74, 3) := by decide +kernel
theorem dX8_wordBack_25 : decode cX8_wordBack 25 = .ok (.istore_n 3, 1) := by decide +kernel
theorem dX8_wordBack_26 : decode cX8_wordBack 26 = .ok (.iload_n 2, 1) := by decide +kernel
theorem dX8_wordBack_27 : decode cX8_wordBack 27 = .ok (.ifCond .le 20, 3) := by decide +kernel
theorem dX8_wordBack_30 : decode cX8_wordBack 30 = .ok (.aload_n 0, 1) := by decide +kernel
theorem dX8_wordBack_31 : decode cX8_wordBack 31 = .ok (.iload_n 2, 1) := by decide +kernel
theorem dX8_wordBack_32 : decode cX8_wordBack 32 = .ok (.iconst 1, 1) := by decide +kernel
theorem dX8_wordBack_33 : decode cX8_wordBack 33 = .ok (.isub, 1) := by decide +kernel
theorem dX8_wordBack_34 : decode cX8_wordBack 34 = .ok (.invokevirtual 74, 3) := by decide +kernel
theorem dX8_wordBack_37 : decode cX8_wordBack 37 = .ok (.iload_n 3, 1) := by decide +kernel
theorem dX8_wordBack_38 : decode cX8_wordBack 38 = .ok (.if_icmp .ne 9, 3) := by decide +kernel
theorem dX8_wordBack_41 : decode cX8_wordBack 41 = .ok (.iinc 2 (-1), 3) := by decide +kernel
theorem dX8_wordBack_44 : decode cX8_wordBack 44 = .ok (.goto (-18), 3) := by decide +kernel
theorem dX8_wordBack_47 : decode cX8_wordBack 47 = .ok (.iload_n 2, 1) := by decide +kernel
theorem dX8_wordBack_48 : decode cX8_wordBack 48 = .ok (.ireturn, 1) := by decide +kernel
theorem dX8_wordEnd_0 : decode cX8_wordEnd 0 = .ok (.iload_n 1, 1) := by decide +kernel
theorem dX8_wordEnd_1 : decode cX8_wordEnd 1 = .ok (.iconst 1, 1) := by decide +kernel
theorem dX8_wordEnd_2 : decode cX8_wordEnd 2 = .ok (.iadd, 1) := by decide +kernel
theorem dX8_wordEnd_3 : decode cX8_wordEnd 3 = .ok (.istore_n 2, 1) := by decide +kernel
theorem dX8_wordEnd_4 : decode cX8_wordEnd 4 = .ok (.aload_n 0, 1) := by decide +kernel
theorem dX8_wordEnd_5 : decode cX8_wordEnd 5 = .ok (.iload_n 2, 1) := by decide +kernel
theorem dX8_wordEnd_6 : decode cX8_wordEnd 6 = .ok (.invokevirtual 74, 3) := by decide +kernel
theorem dX8_wordEnd_9 : decode cX8_wordEnd 9 = .ok (.ifCond .ne 9, 3) := by decide +kernel
theorem dX8_wordEnd_12 : decode cX8_wordEnd 12 = .ok (.iinc 2 1, 3) := by decide +kernel
theorem dX8_wordEnd_15 : decode cX8_wordEnd 15 = .ok (.goto (-11), 3) := by decide +kernel
theorem dX8_wordEnd_18 : decode cX8_wordEnd 18 = .ok (.iload_n 2, 1) := by decide +kernel
theorem dX8_wordEnd_19 : decode cX8_wordEnd 19 = .ok (.aload_n 0, 1) := by decide +kernel
theorem dX8_wordEnd_20 : decode cX8_wordEnd 20 = .ok (.getfield 7, 3) := by decide +kernel
theorem dX8_wordEnd_23 : decode cX8_wordEnd 23 = .ok (.iconst 0, 1) := by decide +kernel
theorem dX8_wordEnd_24 : decode cX8_wordEnd 24 = .ok (.iaload, 1) := by decide +kernel
theorem dX8_wordEnd_25 : decode cX8_wordEnd 25 = .ok (.if_icmp .lt 8, 3) := by decide +kernel
theorem dX8_wordEnd_28 : decode cX8_wordEnd 28 = .ok (.aload_n 0, 1) := by decide +kernel
theorem dX8_wordEnd_29 : decode cX8_wordEnd 29 = .ok (.invokevirtual 77, 3) := by decide +kernel
theorem dX8_wordEnd_32 : decode cX8_wordEnd 32 = .ok (.ireturn, 1) := by decide +kernel
theorem dX8_wordEnd_33 : decode cX8_wordEnd 33 = .ok (.aload_n 0, 1) := by decide +kernel
theorem dX8_wordEnd_34 : decode cX8_wordEnd 34 = .ok (.iload_n 2, 1) := by decide +kernel
theorem dX8_wordEnd_35 : decode cX8_wordEnd 35 = .ok (.invokevirtual 74, 3) := by decide +kernel
theorem dX8_wordEnd_38 : decode cX8_wordEnd 38 = .ok (.istore_n 3, 1) := by decide +kernel
theorem dX8_wordEnd_39 : decode cX8_wordEnd 39 = .ok (.aload_n 0, 1) := by decide +kernel
theorem dX8_wordEnd_40 : decode cX8_wordEnd 40 = .ok (.iload_n 2, 1) := by decide +kernel
theorem dX8_wordEnd_41 : decode cX8_wordEnd 41 = .ok (.iconst 1, 1) := by decide +kernel
theorem dX8_wordEnd_42 : decode cX8_wordEnd 42 = .ok (.iadd, 1) := by decide +kernel
theorem dX8_wordEnd_43 : decode cX8_wordEnd 43 = .ok (.invokevirtual 74, 3) := by decide +kernel
theorem dX8_wordEnd_46 : decode cX8_wordEnd 46 = .ok (.iload_n 3, 1) := by decide +kernel
theorem dX8_wordEnd_47 : decode cX8_wordEnd 47 = .ok (.if_icmp .ne 9, 3) := by decide +kernel
theorem dX8_wordEnd_50 : decode cX8_wordEnd 50 = .ok (.iinc 2 1, 3) := by decide +kernel
theorem dX8_wordEnd_53 : decode cX8_wordEnd 53 = .ok (.goto (-14), 3) := by decide +kernel
theorem dX8_wordEnd_56 : decode cX8_wordEnd 56 = .ok (.iload_n 2, 1) := by decide +kernel
theorem dX8_wordEnd_57 : decode cX8_wordEnd 57 = .ok (.ireturn, 1) := by decide +kernel
theorem dX8_leadsTo_0 : decode cX8_leadsTo 0 = .ok (.iload_n 1, 1) := by decide +kernel
theorem dX8_leadsTo_1 : decode cX8_leadsTo 1 = .ok (.tableswitch 88 0 5 #[39, 51, 69, 71, 76, 82], 39) := by decide +kernel
theorem dX8_leadsTo_40 : decode cX8_leadsTo 40 = .ok (.iload_n 2, 1) := by decide +kernel
theorem dX8_leadsTo_41 : decode cX8_leadsTo 41 = .ok (.ifCond .ne 7, 3) := by decide +kernel
theorem dX8_leadsTo_44 : decode cX8_leadsTo 44 = .ok (.iconst 0, 1) := by decide +kernel
theorem dX8_leadsTo_45 : decode cX8_leadsTo 45 = .ok (.goto 6, 3) := by decide +kernel
theorem dX8_leadsTo_48 : decode cX8_leadsTo 48 = .ok (.iload_n 2, 1) := by decide +kernel
theorem dX8_leadsTo_49 : decode cX8_leadsTo 49 = .ok (.iconst 1, 1) := by decide +kernel
theorem dX8_leadsTo_50 : decode cX8_leadsTo 50 = .ok (.isub, 1) := by decide +kernel
theorem dX8_leadsTo_51 : decode cX8_leadsTo 51 = .ok (.ireturn, 1) := by decide +kernel
theorem dX8_leadsTo_52 : decode cX8_leadsTo 52 = .ok (.iload_n 2, 1) := by decide +kernel
theorem dX8_leadsTo_53 : decode cX8_leadsTo 53 = .ok (.aload_n 0, 1) := by decide +kernel
theorem dX8_leadsTo_54 : decode cX8_leadsTo 54 = .ok (.getfield 7, 3) := by decide +kernel
theorem dX8_leadsTo_57 : decode cX8_leadsTo 57 = .ok (.iconst 0, 1) := by decide +kernel
theorem dX8_leadsTo_58 : decode cX8_leadsTo 58 = .ok (.iaload, 1) := by decide +kernel
theorem dX8_leadsTo_59 : decode cX8_leadsTo 59 = .ok (.if_icmp .ne 7, 3) := by decide +kernel
theorem dX8_leadsTo_62 : decode cX8_leadsTo 62 = .ok (.iload_n 2, 1) := by decide +kernel
theorem dX8_leadsTo_63 : decode cX8_leadsTo 63 = .ok (.goto 6, 3) := by decide +kernel
theorem dX8_leadsTo_66 : decode cX8_leadsTo 66 = .ok (.iload_n 2, 1) := by decide +kernel
theorem dX8_leadsTo_67 : decode cX8_leadsTo 67 = .ok (.iconst 1, 1) := by decide +kernel
theorem dX8_leadsTo_68 : decode cX8_leadsTo 68 = .ok (.iadd, 1) := by decide +kernel
theorem dX8_leadsTo_69 : decode cX8_leadsTo 69 = .ok (.ireturn, 1) := by decide +kernel
theorem dX8_leadsTo_70 : decode cX8_leadsTo 70 = .ok (.iconst 0, 1) := by decide +kernel
theorem dX8_leadsTo_71 : decode cX8_leadsTo 71 = .ok (.ireturn, 1) := by decide +kernel
theorem dX8_leadsTo_72 : decode cX8_leadsTo 72 = .ok (.aload_n 0, 1) := by decide +kernel
theorem dX8_leadsTo_73 : decode cX8_leadsTo 73 = .ok (.invokevirtual 77, 3) := by decide +kernel
theorem dX8_leadsTo_76 : decode cX8_leadsTo 76 = .ok (.ireturn, 1) := by decide +kernel
theorem dX8_leadsTo_77 : decode cX8_leadsTo 77 = .ok (.aload_n 0, 1) := by decide +kernel
theorem dX8_leadsTo_78 : decode cX8_leadsTo 78 = .ok (.iload_n 2, 1) := by decide +kernel
theorem dX8_leadsTo_79 : decode cX8_leadsTo 79 = .ok (.invokevirtual 81, 3) := by decide +kernel
theorem dX8_leadsTo_82 : decode cX8_leadsTo 82 = .ok (.ireturn, 1) := by decide +kernel
theorem dX8_leadsTo_83 : decode cX8_leadsTo 83 = .ok (.aload_n 0, 1) := by decide +kernel
theorem dX8_leadsTo_84 : decode cX8_leadsTo 84 = .ok (.iload_n 2, 1) := by decide +kernel
theorem dX8_leadsTo_85 : decode cX8_leadsTo 85 = .ok (.invokevirtual 84, 3) := by decide +kernel
theorem dX8_leadsTo_88 : decode cX8_leadsTo 88 = .ok (.ireturn, 1) := by decide +kernel
theorem dX8_leadsTo_89 : decode cX8_leadsTo 89 = .ok (.aload_n 0, 1) := by decide +kernel
theorem dX8_leadsTo_90 : decode cX8_leadsTo 90 = .ok (.iload_n 2, 1) := by decide +kernel
theorem dX8_leadsTo_91 : decode cX8_leadsTo 91 = .ok (.invokevirtual 87, 3) := by decide +kernel
theorem dX8_leadsTo_94 : decode cX8_leadsTo 94 = .ok (.ireturn, 1) := by decide +kernel
theorem dX8_nextOf_0 : decode cX8_nextOf 0 = .ok (.bipush (-4), 2) := by decide +kernel
theorem dX8_nextOf_2 : decode cX8_nextOf 2 = .ok (.istore_n 3, 1) := by decide +kernel
theorem dX8_nextOf_3 : decode cX8_nextOf 3 = .ok (.aload_n 0, 1) := by decide +kernel
theorem dX8_nextOf_4 : decode cX8_nextOf 4 = .ok (.getfield 7, 3) := by decide +kernel
theorem dX8_nextOf_7 : decode cX8_nextOf 7 = .ok (.iconst 0, 1) := by decide +kernel
theorem dX8_nextOf_8 : decode cX8_nextOf 8 = .ok (.iaload, 1) := by decide +kernel
theorem dX8_nextOf_9 : decode cX8_nextOf 9 = .ok (.iconst 1, 1) := by decide +kernel
theorem dX8_nextOf_10 : decode cX8_nextOf 10 = .ok (.isub, 1) := by decide +kernel
theorem dX8_nextOf_11 : decode cX8_nextOf 11 = .ok (.istore 4, 2) := by decide +kernel
theorem dX8_nextOf_13 : decode cX8_nextOf 13 = .ok (.iload 4, 2) := by decide +kernel
theorem dX8_nextOf_15 : decode cX8_nextOf 15 = .ok (.iload_n 1, 1) := by decide +kernel
theorem dX8_nextOf_16 : decode cX8_nextOf 16 = .ok (.if_icmp .le 29, 3) := by decide +kernel
theorem dX8_nextOf_19 : decode cX8_nextOf 19 = .ok (.aload_n 0, 1) := by decide +kernel
theorem dX8_nextOf_20 : decode cX8_nextOf 20 = .ok (.getfield 7, 3) := by decide +kernel
theorem dX8_nextOf_23 : decode cX8_nextOf 23 = .ok (.iconst 1, 1) := by decide +kernel
theorem dX8_nextOf_24 : decode cX8_nextOf 24 = .ok (.iload 4, 2) := by decide +kernel
theorem dX8_nextOf_26 : decode cX8_nextOf 26 = .ok (.iadd, 1) := by decide +kernel
theorem dX8_nextOf_27 : decode cX8_nextOf 27 = .ok (.iaload, 1) := by decide +kernel
theorem dX8_nextOf_28 : decode cX8_nextOf 28 = .ok (.iload_n 2, 1) := by decide +kernel
theorem dX8_nextOf_29 : decode cX8_nextOf 29 = .ok (.if_icmp .ne 8, 3) := by decide +kernel
theorem dX8_nextOf_32 : decode cX8_nextOf 32 = .ok (.iload 4, 2) := by decide +kernel
theorem dX8_nextOf_34 : decode cX8_nextOf 34 = .ok (.goto 4, 3) := by decide +kernel
theorem dX8_nextOf_37 : decode cX8_nextOf 37 = .ok (.iload_n 3, 1) := by decide +kernel
theorem dX8_nextOf_38 : decode cX8_nextOf 38 = .ok (.istore_n 3, 1) := by decide +kernel
theorem dX8_nextOf_39 : decode cX8_nextOf 39 = .ok (.iinc 4 (-1), 3) := by decide +kernel
theorem dX8_nextOf_42 : decode cX8_nextOf 42 = .ok (.goto (-29), 3) := by decide +kernel
theorem dX8_nextOf_45 : decode cX8_nextOf 45 = .ok (.iload_n 3, 1) := by decide +kernel
theorem dX8_nextOf_46 : decode cX8_nextOf 46 = .ok (.ireturn, 1) := by decide +kernel
theorem dX8_findsTo_0 : decode cX8_findsTo 0 = .ok (.aload_n 0, 1) := by decide +kernel
theorem dX8_findsTo_1 : decode cX8_findsTo 1 = .ok (.getfield 7, 3) := by decide +kernel
theorem dX8_findsTo_4 : decode cX8_findsTo 4 = .ok (.bipush 61, 2) := by decide +kernel
theorem dX8_findsTo_6 : decode cX8_findsTo 6 = .ok (.iaload, 1) := by decide +kernel
theorem dX8_findsTo_7 : decode cX8_findsTo 7 = .ok (.istore_n 3, 1) := by decide +kernel
theorem dX8_findsTo_8 : decode cX8_findsTo 8 = .ok (.iconst 0, 1) := by decide +kernel
theorem dX8_findsTo_9 : decode cX8_findsTo 9 = .ok (.istore 4, 2) := by decide +kernel
theorem dX8_findsTo_11 : decode cX8_findsTo 11 = .ok (.iload 4, 2) := by decide +kernel
theorem dX8_findsTo_13 : decode cX8_findsTo 13 = .ok (.iload_n 2, 1) := by decide +kernel
theorem dX8_findsTo_14 : decode cX8_findsTo 14 = .ok (.if_icmp .ge 22, 3) := by decide +kernel
theorem dX8_findsTo_17 : decode cX8_findsTo 17 = .ok (.iload_n 3, 1) := by decide +kernel
theorem dX8_findsTo_18 : decode cX8_findsTo 18 = .ok (.bipush (-4), 2) := by decide +kernel
theorem dX8_findsTo_20 : decode cX8_findsTo 20 = .ok (.if_icmp .eq 16, 3) := by decide +kernel
theorem dX8_findsTo_23 : decode cX8_findsTo 23 = .ok (.aload_n 0, 1) := by decide +kernel
theorem dX8_findsTo_24 : decode cX8_findsTo 24 = .ok (.iload_n 3, 1) := by decide +kernel
theorem dX8_findsTo_25 : decode cX8_findsTo 25 = .ok (.iload_n 1, 1) := by decide +kernel
theorem dX8_findsTo_26 : decode cX8_findsTo 26 = .ok (.invokevirtual 90, 3) := by decide +kernel
theorem dX8_findsTo_29 : decode cX8_findsTo 29 = .ok (.istore_n 3, 1) := by decide +kernel
theorem dX8_findsTo_30 : decode cX8_findsTo 30 = .ok (.iinc 4 1, 3) := by decide +kernel
theorem dX8_findsTo_33 : decode cX8_findsTo 33 = .ok (.goto (-22), 3) := by decide +kernel
theorem dX8_findsTo_36 : decode cX8_findsTo 36 = .ok (.iload_n 3, 1) := by decide +kernel
theorem dX8_findsTo_37 : decode cX8_findsTo 37 = .ok (.ireturn, 1) := by decide +kernel
theorem dX8_often_0 : decode cX8_often 0 = .ok (.aload_n 0, 1) := by decide +kernel
theorem dX8_often_1 : decode cX8_often 1 = .ok (.getfield 7, 3) := by decide +kernel
theorem dX8_often_4 : decode cX8_often 4 = .ok (.sipush 191, 3) := by decide +kernel
theorem dX8_often_7 : decode cX8_often 7 = .ok (.iaload, 1) := by decide +kernel
theorem dX8_often_8 : decode cX8_often 8 = .ok (.ifCond .ne 7, 3) := by decide +kernel
theorem dX8_often_11 : decode cX8_often 11 = .ok (.iconst 1, 1) := by decide +kernel
theorem dX8_often_12 : decode cX8_often 12 = .ok (.goto 11, 3) := by decide +kernel
theorem dX8_often_15 : decode cX8_often 15 = .ok (.aload_n 0, 1) := by decide +kernel
theorem dX8_often_16 : decode cX8_often 16 = .ok (.getfield 7, 3) := by decide +kernel
theorem dX8_often_19 : decode cX8_often 19 = .ok (.sipush 191, 3) := by decide +kernel
theorem dX8_often_22 : decode cX8_often 22 = .ok (.iaload, 1) := by decide +kernel
theorem dX8_often_23 : decode cX8_often 23 = .ok (.istore_n 1, 1) := by decide +kernel
theorem dX8_often_24 : decode cX8_often 24 = .ok (.aload_n 0, 1) := by decide +kernel
theorem dX8_often_25 : decode cX8_often 25 = .ok (.getfield 7, 3) := by decide +kernel
theorem dX8_often_28 : decode cX8_often 28 = .ok (.sipush 192, 3) := by decide +kernel
theorem dX8_often_31 : decode cX8_often 31 = .ok (.iaload, 1) := by decide +kernel
theorem dX8_often_32 : decode cX8_often 32 = .ok (.ifCond .ne 7, 3) := by decide +kernel
theorem dX8_often_35 : decode cX8_often 35 = .ok (.iconst 1, 1) := by decide +kernel
theorem dX8_often_36 : decode cX8_often 36 = .ok (.goto 11, 3) := by decide +kernel
theorem dX8_often_39 : decode cX8_often 39 = .ok (.aload_n 0, 1) := by decide +kernel
theorem dX8_often_40 : decode cX8_often 40 = .ok (.getfield 7, 3) := by decide +kernel
theorem dX8_often_43 : decode cX8_often 43 = .ok (.sipush 192, 3) := by decide +kernel
theorem dX8_often_46 : decode cX8_often 46 = .ok (.iaload, 1) := by decide +kernel
theorem dX8_often_47 : decode cX8_often 47 = .ok (.istore_n 2, 1) := by decide +kernel
theorem dX8_often_48 : decode cX8_often 48 = .ok (.iload_n 1, 1) := by decide +kernel
theorem dX8_often_49 : decode cX8_often 49 = .ok (.iload_n 2, 1) := by decide +kernel
theorem dX8_often_50 : decode cX8_often 50 = .ok (.imul, 1) := by decide +kernel
theorem dX8_often_51 : decode cX8_often 51 = .ok (.bipush 99, 2) := by decide +kernel
theorem dX8_often_53 : decode cX8_often 53 = .ok (.invokestatic 94, 3) := by decide +kernel
theorem dX8_often_56 : decode cX8_often 56 = .ok (.ireturn, 1) := by decide +kernel
theorem dX8_ends_0 : decode cX8_ends 0 = .ok (.aload_n 0, 1) := by decide +kernel
theorem dX8_ends_1 : decode cX8_ends 1 = .ok (.getfield 7, 3) := by decide +kernel
theorem dX8_ends_4 : decode cX8_ends 4 = .ok (.sipush 159, 3) := by decide +kernel
theorem dX8_ends_7 : decode cX8_ends 7 = .ok (.iconst 0, 1) := by decide +kernel
theorem dX8_ends_8 : decode cX8_ends 8 = .ok (.iastore, 1) := by decide +kernel
theorem dX8_ends_9 : decode cX8_ends 9 = .ok (.aload_n 0, 1) := by decide +kernel
theorem dX8_ends_10 : decode cX8_ends 10 = .ok (.getfield 7, 3) := by decide +kernel
theorem dX8_ends_13 : decode cX8_ends 13 = .ok (.sipush 190, 3) := by decide +kernel
theorem dX8_ends_16 : decode cX8_ends 16 = .ok (.iconst 0, 1) := by decide +kernel
theorem dX8_ends_17 : decode cX8_ends 17 = .ok (.iastore, 1) := by decide +kernel
theorem dX8_ends_18 : decode cX8_ends 18 = .ok (.aload_n 0, 1) := by decide +kernel
theorem dX8_ends_19 : decode cX8_ends 19 = .ok (.getfield 7, 3) := by decide +kernel
theorem dX8_ends_22 : decode cX8_ends 22 = .ok (.sipush 191, 3) := by decide +kernel
theorem dX8_ends_25 : decode cX8_ends 25 = .ok (.iconst 0, 1) := by decide +kernel
theorem dX8_ends_26 : decode cX8_ends 26 = .ok (.iastore, 1) := by decide +kernel
theorem dX8_ends_27 : decode cX8_ends 27 = .ok (.aload_n 0, 1) := by decide +kernel
theorem dX8_ends_28 : decode cX8_ends 28 = .ok (.getfield 7, 3) := by decide +kernel
theorem dX8_ends_31 : decode cX8_ends 31 = .ok (.sipush 192, 3) := by decide +kernel
theorem dX8_ends_34 : decode cX8_ends 34 = .ok (.iconst 0, 1) := by decide +kernel
theorem dX8_ends_35 : decode cX8_ends 35 = .ok (.iastore, 1) := by decide +kernel
theorem dX8_ends_36 : decode cX8_ends 36 = .ok (.aload_n 0, 1) := by decide +kernel
theorem dX8_ends_37 : decode cX8_ends 37 = .ok (.getfield 7, 3) := by decide +kernel
theorem dX8_ends_40 : decode cX8_ends 40 = .ok (.sipush 193, 3) := by decide +kernel
theorem dX8_ends_43 : decode cX8_ends 43 = .ok (.iconst 0, 1) := by decide +kernel
theorem dX8_ends_44 : decode cX8_ends 44 = .ok (.iastore, 1) := by decide +kernel
theorem dX8_ends_45 : decode cX8_ends 45 = .ok (.return_, 1) := by decide +kernel
theorem dX8_records_0 : decode cX8_records 0 = .ok (.aload_n 0, 1) := by decide +kernel
theorem dX8_records_1 : decode cX8_records 1 = .ok (.getfield 7, 3) := by decide +kernel
theorem dX8_records_4 : decode cX8_records 4 = .ok (.sipush 159, 3) := by decide +kernel
theorem dX8_records_7 : decode cX8_records 7 = .ok (.iaload, 1) := by decide +kernel
theorem dX8_records_8 : decode cX8_records 8 = .ok (.bipush 30, 2) := by decide +kernel
theorem dX8_records_10 : decode cX8_records 10 = .ok (.if_icmp .ge 21, 3) := by decide +kernel
theorem dX8_records_13 : decode cX8_records 13 = .ok (.aload_n 0, 1) := by decide +kernel
theorem dX8_records_14 : decode cX8_records 14 = .ok (.getfield 7, 3) := by decide +kernel
theorem dX8_records_17 : decode cX8_records 17 = .ok (.sipush 160, 3) := by decide +kernel
theorem dX8_records_20 : decode cX8_records 20 = .ok (.aload_n 0, 1) := by decide +kernel
theorem dX8_records_21 : decode cX8_records 21 = .ok (.getfield 7, 3) := by decide +kernel
theorem dX8_records_24 : decode cX8_records 24 = .ok (.sipush 159, 3) := by decide +kernel
theorem dX8_records_27 : decode cX8_records 27 = .ok (.iaload, 1) := by decide +kernel
theorem dX8_records_28 : decode cX8_records 28 = .ok (.iadd, 1) := by decide +kernel
theorem dX8_records_29 : decode cX8_records 29 = .ok (.iload_n 1, 1) := by decide +kernel
theorem dX8_records_30 : decode cX8_records 30 = .ok (.iastore, 1) := by decide +kernel
theorem dX8_records_31 : decode cX8_records 31 = .ok (.aload_n 0, 1) := by decide +kernel
theorem dX8_records_32 : decode cX8_records 32 = .ok (.getfield 7, 3) := by decide +kernel
theorem dX8_records_35 : decode cX8_records 35 = .ok (.sipush 159, 3) := by decide +kernel
theorem dX8_records_38 : decode cX8_records 38 = .ok (.aload_n 0, 1) := by decide +kernel
theorem dX8_records_39 : decode cX8_records 39 = .ok (.getfield 7, 3) := by decide +kernel
theorem dX8_records_42 : decode cX8_records 42 = .ok (.sipush 159, 3) := by decide +kernel
theorem dX8_records_45 : decode cX8_records 45 = .ok (.iaload, 1) := by decide +kernel
theorem dX8_records_46 : decode cX8_records 46 = .ok (.iconst 1, 1) := by decide +kernel
theorem dX8_records_47 : decode cX8_records 47 = .ok (.iadd, 1) := by decide +kernel
theorem dX8_records_48 : decode cX8_records 48 = .ok (.bipush 31, 2) := by decide +kernel
theorem dX8_records_50 : decode cX8_records 50 = .ok (.invokestatic 94, 3) := by decide +kernel
theorem dX8_records_53 : decode cX8_records 53 = .ok (.iastore, 1) := by decide +kernel
theorem dX8_records_54 : decode cX8_records 54 = .ok (.return_, 1) := by decide +kernel
theorem dX8_changes_0 : decode cX8_changes 0 = .ok (.aload_n 0, 1) := by decide +kernel
theorem dX8_changes_1 : decode cX8_changes 1 = .ok (.getfield 97, 3) := by decide +kernel
theorem dX8_changes_4 : decode cX8_changes 4 = .ok (.bipush 8, 2) := by decide +kernel
theorem dX8_changes_6 : decode cX8_changes 6 = .ok (.if_icmp .ne 40, 3) := by decide +kernel
theorem dX8_changes_9 : decode cX8_changes 9 = .ok (.bipush 62, 2) := by decide +kernel
theorem dX8_changes_11 : decode cX8_changes 11 = .ok (.istore_n 1, 1) := by decide +kernel
theorem dX8_changes_12 : decode cX8_changes 12 = .ok (.iload_n 1, 1) := by decide +kernel
theorem dX8_changes_13 : decode cX8_changes 13 = .ok (.sipush 496, 3) := by decide +kernel
theorem dX8_changes_16 : decode cX8_changes 16 = .ok (.if_icmp .ge 24, 3) := by decide +kernel
theorem dX8_changes_19 : decode cX8_changes 19 = .ok (.aload_n 0, 1) := by decide +kernel
theorem dX8_changes_20 : decode cX8_changes 20 = .ok (.getfield 13, 3) := by decide +kernel
theorem dX8_changes_23 : decode cX8_changes 23 = .ok (.iload_n 1, 1) := by decide +kernel
theorem dX8_changes_24 : decode cX8_changes 24 = .ok (.bipush 62, 2) := by decide +kernel
theorem dX8_changes_26 : decode cX8_changes 26 = .ok (.isub, 1) := by decide +kernel
theorem dX8_changes_27 : decode cX8_changes 27 = .ok (.aload_n 0, 1) := by decide +kernel
theorem dX8_changes_28 : decode cX8_changes 28 = .ok (.getfield 13, 3) := by decide +kernel
theorem dX8_changes_31 : decode cX8_changes 31 = .ok (.iload_n 1, 1) := by decide +kernel
theorem dX8_changes_32 : decode cX8_changes 32 = .ok (.iaload, 1) := by decide +kernel
theorem dX8_changes_33 : decode cX8_changes 33 = .ok (.iastore, 1) := by decide +kernel
theorem dX8_changes_34 : decode cX8_changes 34 = .ok (.iinc 1 1, 3) := by decide +kernel
theorem dX8_changes_37 : decode cX8_changes 37 = .ok (.goto (-25), 3) := by decide +kernel
theorem dX8_changes_40 : decode cX8_changes 40 = .ok (.aload_n 0, 1) := by decide +kernel
theorem dX8_changes_41 : decode cX8_changes 41 = .ok (.bipush 7, 2) := by decide +kernel
theorem dX8_changes_43 : decode cX8_changes 43 = .ok (.putfield 97, 3) := by decide +kernel
theorem dX8_changes_46 : decode cX8_changes 46 = .ok (.iconst 0, 1) := by decide +kernel
theorem dX8_changes_47 : decode cX8_changes 47 = .ok (.istore_n 1, 1) := by decide +kernel
theorem dX8_changes_48 : decode cX8_changes 48 = .ok (.iload_n 1, 1) := by decide +kernel
theorem dX8_changes_49 : decode cX8_changes 49 = .ok (.bipush 62, 2) := by decide +kernel
theorem dX8_changes_51 : decode cX8_changes 51 = .ok (.if_icmp .ge 33, 3) := by decide +kernel
theorem dX8_changes_54 : decode cX8_changes 54 = .ok (.aload_n 0, 1) := by decide +kernel
theorem dX8_changes_55 : decode cX8_changes 55 = .ok (.getfield 13, 3) := by decide +kernel
theorem dX8_changes_58 : decode cX8_changes 58 = .ok (.bipush 62, 2) := by decide +kernel
theorem dX8_changes_60 : decode cX8_changes 60 = .ok (.aload_n 0, 1) := by decide +kernel
theorem dX8_changes_61 : decode cX8_changes 61 = .ok (.getfield 97, 3) := by decide +kernel
theorem dX8_changes_64 : decode cX8_changes 64 = .ok (.imul, 1) := by decide +kernel
theorem dX8_changes_65 : decode cX8_changes 65 = .ok (.iload_n 1, 1) := by decide +kernel
theorem dX8_changes_66 : decode cX8_changes 66 = .ok (.iadd, 1) := by decide +kernel
theorem dX8_changes_67 : decode cX8_changes 67 = .ok (.aload_n 0, 1) := by decide +kernel
theorem dX8_changes_68 : decode cX8_changes 68 = .ok (.getfield 7, 3) := by decide +kernel
theorem dX8_changes_71 : decode cX8_changes 71 = .ok (.sipush 194, 3) := by decide +kernel
