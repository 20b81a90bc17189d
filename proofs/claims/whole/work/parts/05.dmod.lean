theorem dX10_isIn_0 : decode cX10_isIn 0 = .ok (.iload_n 1, 1) := by decide +kernel
theorem dX10_isIn_1 : decode cX10_isIn 1 = .ok (.iload_n 2, 1) := by decide +kernel
theorem dX10_isIn_2 : decode cX10_isIn 2 = .ok (.if_icmp .lt 12, 3) := by decide +kernel
theorem dX10_isIn_5 : decode cX10_isIn 5 = .ok (.iload_n 1, 1) := by decide +kernel
theorem dX10_isIn_6 : decode cX10_isIn 6 = .ok (.iload_n 3, 1) := by decide +kernel
theorem dX10_isIn_7 : decode cX10_isIn 7 = .ok (.if_icmp .gt 7, 3) := by decide +kernel
theorem dX10_isIn_10 : decode cX10_isIn 10 = .ok (.iconst 1, 1) := by decide +kernel
theorem dX10_isIn_11 : decode cX10_isIn 11 = .ok (.goto 4, 3) := by decide +kernel
theorem dX10_isIn_14 : decode cX10_isIn 14 = .ok (.iconst 0, 1) := by decide +kernel
theorem dX10_isIn_15 : decode cX10_isIn 15 = .ok (.ireturn, 1) := by decide +kernel
theorem dX10_ones_0 : decode cX10_ones 0 = .ok (.iconst 0, 1) := by decide +kernel
theorem dX10_ones_1 : decode cX10_ones 1 = .ok (.istore_n 2, 1) := by decide +kernel
theorem dX10_ones_2 : decode cX10_ones 2 = .ok (.iload_n 1, 1) := by decide +kernel
theorem dX10_ones_3 : decode cX10_ones 3 = .ok (.istore_n 3, 1) := by decide +kernel
theorem dX10_ones_4 : decode cX10_ones 4 = .ok (.iload_n 3, 1) := by decide +kernel
theorem dX10_ones_5 : decode cX10_ones 5 = .ok (.ifCond .eq 16, 3) := by decide +kernel
theorem dX10_ones_8 : decode cX10_ones 8 = .ok (.iload_n 2, 1) := by decide +kernel
theorem dX10_ones_9 : decode cX10_ones 9 = .ok (.iconst 1, 1) := by decide +kernel
theorem dX10_ones_10 : decode cX10_ones 10 = .ok (.iadd, 1) := by decide +kernel
theorem dX10_ones_11 : decode cX10_ones 11 = .ok (.istore_n 2, 1) := by decide +kernel
theorem dX10_ones_12 : decode cX10_ones 12 = .ok (.iload_n 3, 1) := by decide +kernel
theorem dX10_ones_13 : decode cX10_ones 13 = .ok (.iload_n 3, 1) := by decide +kernel
theorem dX10_ones_14 : decode cX10_ones 14 = .ok (.iconst 1, 1) := by decide +kernel
theorem dX10_ones_15 : decode cX10_ones 15 = .ok (.isub, 1) := by decide +kernel
theorem dX10_ones_16 : decode cX10_ones 16 = .ok (.iand, 1) := by decide +kernel
theorem dX10_ones_17 : decode cX10_ones 17 = .ok (.istore_n 3, 1) := by decide +kernel
theorem dX10_ones_18 : decode cX10_ones 18 = .ok (.goto (-14), 3) := by decide +kernel
theorem dX10_ones_21 : decode cX10_ones 21 = .ok (.iload_n 2, 1) := by decide +kernel
theorem dX10_ones_22 : decode cX10_ones 22 = .ok (.ireturn, 1) := by decide +kernel
theorem dX10_without_0 : decode cX10_without 0 = .ok (.iload_n 1, 1) := by decide +kernel
theorem dX10_without_1 : decode cX10_without 1 = .ok (.ifCond .ge 8, 3) := by decide +kernel
theorem dX10_without_4 : decode cX10_without 4 = .ok (.iload_n 1, 1) := by decide +kernel
theorem dX10_without_5 : decode cX10_without 5 = .ok (.ineg, 1) := by decide +kernel
theorem dX10_without_6 : decode cX10_without 6 = .ok (.goto 4, 3) := by decide +kernel
theorem dX10_without_9 : decode cX10_without 9 = .ok (.iload_n 1, 1) := by decide +kernel
theorem dX10_without_10 : decode cX10_without 10 = .ok (.ireturn, 1) := by decide +kernel
theorem dX10_isSquare_0 : decode cX10_isSquare 0 = .ok (.iload_n 1, 1) := by decide +kernel
theorem dX10_isSquare_1 : decode cX10_isSquare 1 = .ok (.ifCond .lt 27, 3) := by decide +kernel
theorem dX10_isSquare_4 : decode cX10_isSquare 4 = .ok (.iload_n 1, 1) := by decide +kernel
theorem dX10_isSquare_5 : decode cX10_isSquare 5 = .ok (.aload_n 0, 1) := by decide +kernel
theorem dX10_isSquare_6 : decode cX10_isSquare 6 = .ok (.getfield 7, 3) := by decide +kernel
theorem dX10_isSquare_9 : decode cX10_isSquare 9 = .ok (.if_icmp .ge 19, 3) := by decide +kernel
theorem dX10_isSquare_12 : decode cX10_isSquare 12 = .ok (.iload_n 2, 1) := by decide +kernel
theorem dX10_isSquare_13 : decode cX10_isSquare 13 = .ok (.ifCond .lt 15, 3) := by decide +kernel
theorem dX10_isSquare_16 : decode cX10_isSquare 16 = .ok (.iload_n 2, 1) := by decide +kernel
theorem dX10_isSquare_17 : decode cX10_isSquare 17 = .ok (.aload_n 0, 1) := by decide +kernel
theorem dX10_isSquare_18 : decode cX10_isSquare 18 = .ok (.getfield 7, 3) := by decide +kernel
theorem dX10_isSquare_21 : decode cX10_isSquare 21 = .ok (.if_icmp .ge 7, 3) := by decide +kernel
theorem dX10_isSquare_24 : decode cX10_isSquare 24 = .ok (.iconst 1, 1) := by decide +kernel
theorem dX10_isSquare_25 : decode cX10_isSquare 25 = .ok (.goto 4, 3) := by decide +kernel
theorem dX10_isSquare_28 : decode cX10_isSquare 28 = .ok (.iconst 0, 1) := by decide +kernel
theorem dX10_isSquare_29 : decode cX10_isSquare 29 = .ok (.ireturn, 1) := by decide +kernel
theorem dX10_isPin_0 : decode cX10_isPin 0 = .ok (.iload_n 1, 1) := by decide +kernel
theorem dX10_isPin_1 : decode cX10_isPin 1 = .ok (.ifCond .lt 15, 3) := by decide +kernel
theorem dX10_isPin_4 : decode cX10_isPin 4 = .ok (.iload_n 1, 1) := by decide +kernel
theorem dX10_isPin_5 : decode cX10_isPin 5 = .ok (.aload_n 0, 1) := by decide +kernel
theorem dX10_isPin_6 : decode cX10_isPin 6 = .ok (.getfield 101, 3) := by decide +kernel
theorem dX10_isPin_9 : decode cX10_isPin 9 = .ok (.if_icmp .ge 7, 3) := by decide +kernel
theorem dX10_isPin_12 : decode cX10_isPin 12 = .ok (.iconst 1, 1) := by decide +kernel
theorem dX10_isPin_13 : decode cX10_isPin 13 = .ok (.goto 4, 3) := by decide +kernel
theorem dX10_isPin_16 : decode cX10_isPin 16 = .ok (.iconst 0, 1) := by decide +kernel
theorem dX10_isPin_17 : decode cX10_isPin 17 = .ok (.ireturn, 1) := by decide +kernel
theorem dX10_isThread_0 : decode cX10_isThread 0 = .ok (.iload_n 1, 1) := by decide +kernel
theorem dX10_isThread_1 : decode cX10_isThread 1 = .ok (.ifCond .lt 12, 3) := by decide +kernel
theorem dX10_isThread_4 : decode cX10_isThread 4 = .ok (.iload_n 1, 1) := by decide +kernel
theorem dX10_isThread_5 : decode cX10_isThread 5 = .ok (.iconst 3, 1) := by decide +kernel
theorem dX10_isThread_6 : decode cX10_isThread 6 = .ok (.if_icmp .ge 7, 3) := by decide +kernel
theorem dX10_isThread_9 : decode cX10_isThread 9 = .ok (.iconst 1, 1) := by decide +kernel
theorem dX10_isThread_10 : decode cX10_isThread 10 = .ok (.goto 4, 3) := by decide +kernel
theorem dX10_isThread_13 : decode cX10_isThread 13 = .ok (.iconst 0, 1) := by decide +kernel
theorem dX10_isThread_14 : decode cX10_isThread 14 = .ok (.ireturn, 1) := by decide +kernel
theorem dX10_isPicture_0 : decode cX10_isPicture 0 = .ok (.iload_n 1, 1) := by decide +kernel
theorem dX10_isPicture_1 : decode cX10_isPicture 1 = .ok (.ifCond .lt 12, 3) := by decide +kernel
theorem dX10_isPicture_4 : decode cX10_isPicture 4 = .ok (.iload_n 1, 1) := by decide +kernel
theorem dX10_isPicture_5 : decode cX10_isPicture 5 = .ok (.iconst 4, 1) := by decide +kernel
theorem dX10_isPicture_6 : decode cX10_isPicture 6 = .ok (.if_icmp .ge 7, 3) := by decide +kernel
theorem dX10_isPicture_9 : decode cX10_isPicture 9 = .ok (.iconst 1, 1) := by decide +kernel
theorem dX10_isPicture_10 : decode cX10_isPicture 10 = .ok (.goto 4, 3) := by decide +kernel
theorem dX10_isPicture_13 : decode cX10_isPicture 13 = .ok (.iconst 0, 1) := by decide +kernel
theorem dX10_isPicture_14 : decode cX10_isPicture 14 = .ok (.ireturn, 1) := by decide +kernel
theorem dX10_board_0 : decode cX10_board 0 = .ok (.aload_n 0, 1) := by decide +kernel
theorem dX10_board_1 : decode cX10_board 1 = .ok (.iconst 0, 1) := by decide +kernel
theorem dX10_board_2 : decode cX10_board 2 = .ok (.putfield 98, 3) := by decide +kernel
theorem dX10_board_5 : decode cX10_board 5 = .ok (.aload_n 0, 1) := by decide +kernel
theorem dX10_board_6 : decode cX10_board 6 = .ok (.iload_n 1, 1) := by decide +kernel
theorem dX10_board_7 : decode cX10_board 7 = .ok (.iconst 2, 1) := by decide +kernel
theorem dX10_board_8 : decode cX10_board 8 = .ok (.bipush 8, 2) := by decide +kernel
theorem dX10_board_10 : decode cX10_board 10 = .ok (.invokevirtual 104, 3) := by decide +kernel
theorem dX10_board_13 : decode cX10_board 13 = .ok (.ifCond .ne 5, 3) := by decide +kernel
theorem dX10_board_16 : decode cX10_board 16 = .ok (.iconst 0, 1) := by decide +kernel
theorem dX10_board_17 : decode cX10_board 17 = .ok (.ireturn, 1) := by decide +kernel
theorem dX10_board_18 : decode cX10_board 18 = .ok (.aload_n 0, 1) := by decide +kernel
theorem dX10_board_19 : decode cX10_board 19 = .ok (.iload_n 1, 1) := by decide +kernel
theorem dX10_board_20 : decode cX10_board 20 = .ok (.putfield 7, 3) := by decide +kernel
theorem dX10_board_23 : decode cX10_board 23 = .ok (.aload_n 0, 1) := by decide +kernel
theorem dX10_board_24 : decode cX10_board 24 = .ok (.iconst 0, 1) := by decide +kernel
theorem dX10_board_25 : decode cX10_board 25 = .ok (.putfield 101, 3) := by decide +kernel
theorem dX10_board_28 : decode cX10_board 28 = .ok (.iconst 0, 1) := by decide +kernel
theorem dX10_board_29 : decode cX10_board 29 = .ok (.istore_n 2, 1) := by decide +kernel
theorem dX10_board_30 : decode cX10_board 30 = .ok (.iload_n 2, 1) := by decide +kernel
theorem dX10_board_31 : decode cX10_board 31 = .ok (.iconst 3, 1) := by decide +kernel
theorem dX10_board_32 : decode cX10_board 32 = .ok (.if_icmp .ge 25, 3) := by decide +kernel
theorem dX10_board_35 : decode cX10_board 35 = .ok (.aload_n 0, 1) := by decide +kernel
theorem dX10_board_36 : decode cX10_board 36 = .ok (.getfield 20, 3) := by decide +kernel
theorem dX10_board_39 : decode cX10_board 39 = .ok (.iload_n 2, 1) := by decide +kernel
theorem dX10_board_40 : decode cX10_board 40 = .ok (.iload_n 2, 1) := by decide +kernel
theorem dX10_board_41 : decode cX10_board 41 = .ok (.iconst 1, 1) := by decide +kernel
theorem dX10_board_42 : decode cX10_board 42 = .ok (.iadd, 1) := by decide +kernel
theorem dX10_board_43 : decode cX10_board 43 = .ok (.iastore, 1) := by decide +kernel
theorem dX10_board_44 : decode cX10_board 44 = .ok (.aload_n 0, 1) := by decide +kernel
theorem dX10_board_45 : decode cX10_board 45 = .ok (.getfield 23, 3) := by decide +kernel
theorem dX10_board_48 : decode cX10_board 48 = .ok (.iload_n 2, 1) := by decide +kernel
theorem dX10_board_49 : decode cX10_board 49 = .ok (.iconst 0, 1) := by decide +kernel
theorem dX10_board_50 : decode cX10_board 50 = .ok (.iastore, 1) := by decide +kernel
theorem dX10_board_51 : decode cX10_board 51 = .ok (.iinc 2 1, 3) := by decide +kernel
theorem dX10_board_54 : decode cX10_board 54 = .ok (.goto (-24), 3) := by decide +kernel
theorem dX10_board_57 : decode cX10_board 57 = .ok (.iconst 0, 1) := by decide +kernel
theorem dX10_board_58 : decode cX10_board 58 = .ok (.istore_n 2, 1) := by decide +kernel
theorem dX10_board_59 : decode cX10_board 59 = .ok (.iload_n 2, 1) := by decide +kernel
theorem dX10_board_60 : decode cX10_board 60 = .ok (.sipush 256, 3) := by decide +kernel
theorem dX10_board_63 : decode cX10_board 63 = .ok (.if_icmp .ge 16, 3) := by decide +kernel
theorem dX10_board_66 : decode cX10_board 66 = .ok (.aload_n 0, 1) := by decide +kernel
theorem dX10_board_67 : decode cX10_board 67 = .ok (.getfield 29, 3) := by decide +kernel
theorem dX10_board_70 : decode cX10_board 70 = .ok (.iload_n 2, 1) := by decide +kernel
theorem dX10_board_71 : decode cX10_board 71 = .ok (.iconst 0, 1) := by decide +kernel
theorem dX10_board_72 : decode cX10_board 72 = .ok (.iastore, 1) := by decide +kernel
theorem dX10_board_73 : decode cX10_board 73 = .ok (.iinc 2 1, 3) := by decide +kernel
theorem dX10_board_76 : decode cX10_board 76 = .ok (.goto (-17), 3) := by decide +kernel
theorem dX10_board_79 : decode cX10_board 79 = .ok (.iconst 0, 1) := by decide +kernel
theorem dX10_board_80 : decode cX10_board 80 = .ok (.istore_n 2, 1) := by decide +kernel
theorem dX10_board_81 : decode cX10_board 81 = .ok (.iload_n 2, 1) := by decide +kernel
theorem dX10_board_82 : decode cX10_board 82 = .ok (.bipush 64, 2) := by decide +kernel
theorem dX10_board_84 : decode cX10_board 84 = .ok (.if_icmp .ge 23, 3) := by decide +kernel
theorem dX10_board_87 : decode cX10_board 87 = .ok (.aload_n 0, 1) := by decide +kernel
theorem dX10_board_88 : decode cX10_board 88 = .ok (.getfield 32, 3) := by decide +kernel
theorem dX10_board_91 : decode cX10_board 91 = .ok (.iload_n 2, 1) := by decide +kernel
theorem dX10_board_92 : decode cX10_board 92 = .ok (.iconst 0, 1) := by decide +kernel
theorem dX10_board_93 : decode cX10_board 93 = .ok (.iastore, 1) := by decide +kernel
theorem dX10_board_94 : decode cX10_board 94 = .ok (.aload_n 0, 1) := by decide +kernel
theorem dX10_board_95 : decode cX10_board 95 = .ok (.getfield 35, 3) := by decide +kernel
theorem dX10_board_98 : decode cX10_board 98 = .ok (.iload_n 2, 1) := by decide +kernel
theorem dX10_board_99 : decode cX10_board 99 = .ok (.iconst 0, 1) := by decide +kernel
theorem dX10_board_100 : decode cX10_board 100 = .ok (.iastore, 1) := by decide +kernel
theorem dX10_board_101 : decode cX10_board 101 = .ok (.iinc 2 1, 3) := by decide +kernel
theorem dX10_board_104 : decode cX10_board 104 = .ok (.goto (-23), 3) := by decide +kernel
theorem dX10_board_107 : decode cX10_board 107 = .ok (.aload_n 0, 1) := by decide +kernel
theorem dX10_board_108 : decode cX10_board 108 = .ok (.iconst 0, 1) := by decide +kernel
theorem dX10_board_109 : decode cX10_board 109 = .ok (.putfield 108, 3) := by decide +kernel
theorem dX10_board_112 : decode cX10_board 112 = .ok (.aload_n 0, 1) := by decide +kernel
theorem dX10_board_113 : decode cX10_board 113 = .ok (.iconst 0, 1) := by decide +kernel
theorem dX10_board_114 : decode cX10_board 114 = .ok (.putfield 111, 3) := by decide +kernel
theorem dX10_board_117 : decode cX10_board 117 = .ok (.aload_n 0, 1) := by decide +kernel
theorem dX10_board_118 : decode cX10_board 118 = .ok (.iconst 0, 1) := by decide +kernel
theorem dX10_board_119 : decode cX10_board 119 = .ok (.putfield 114, 3) := by decide +kernel
theorem dX10_board_122 : decode cX10_board 122 = .ok (.iconst 1, 1) := by decide +kernel
theorem dX10_board_123 : decode cX10_board 123 = .ok (.ireturn, 1) := by decide +kernel
theorem dX10_pin_0 : decode cX10_pin 0 = .ok (.aload_n 0, 1) := by decide +kernel
theorem dX10_pin_1 : decode cX10_pin 1 = .ok (.iconst 0, 1) := by decide +kernel
theorem dX10_pin_2 : decode cX10_pin 2 = .ok (.putfield 98, 3) := by decide +kernel
theorem dX10_pin_5 : decode cX10_pin 5 = .ok (.aload_n 0, 1) := by decide +kernel
theorem dX10_pin_6 : decode cX10_pin 6 = .ok (.iload_n 1, 1) := by decide +kernel
theorem dX10_pin_7 : decode cX10_pin 7 = .ok (.iconst 0, 1) := by decide +kernel
theorem dX10_pin_8 : decode cX10_pin 8 = .ok (.aload_n 0, 1) := by decide +kernel
theorem dX10_pin_9 : decode cX10_pin 9 = .ok (.getfield 7, 3) := by decide +kernel
theorem dX10_pin_12 : decode cX10_pin 12 = .ok (.invokevirtual 104, 3) := by decide +kernel
theorem dX10_pin_15 : decode cX10_pin 15 = .ok (.ifCond .eq 25, 3) := by decide +kernel
theorem dX10_pin_18 : decode cX10_pin 18 = .ok (.aload_n 0, 1) := by decide +kernel
theorem dX10_pin_19 : decode cX10_pin 19 = .ok (.iload_n 2, 1) := by decide +kernel
theorem dX10_pin_20 : decode cX10_pin 20 = .ok (.iconst 0, 1) := by decide +kernel
theorem dX10_pin_21 : decode cX10_pin 21 = .ok (.aload_n 0, 1) := by decide +kernel
theorem dX10_pin_22 : decode cX10_pin 22 = .ok (.getfield 7, 3) := by decide +kernel
theorem dX10_pin_25 : decode cX10_pin 25 = .ok (.invokevirtual 104, 3) := by decide +kernel
theorem dX10_pin_28 : decode cX10_pin 28 = .ok (.ifCond .eq 12, 3) := by decide +kernel
theorem dX10_pin_31 : decode cX10_pin 31 = .ok (.aload_n 0, 1) := by decide +kernel
theorem dX10_pin_32 : decode cX10_pin 32 = .ok (.getfield 101, 3) := by decide +kernel
theorem dX10_pin_35 : decode cX10_pin 35 = .ok (.bipush 24, 2) := by decide +kernel
theorem dX10_pin_37 : decode cX10_pin 37 = .ok (.if_icmp .ne 5, 3) := by decide +kernel
theorem dX10_pin_40 : decode cX10_pin 40 = .ok (.iconst (-1), 1) := by decide +kernel
theorem dX10_pin_41 : decode cX10_pin 41 = .ok (.ireturn, 1) := by decide +kernel
theorem dX10_pin_42 : decode cX10_pin 42 = .ok (.iconst 0, 1) := by decide +kernel
theorem dX10_pin_43 : decode cX10_pin 43 = .ok (.istore_n 3, 1) := by decide +kernel
theorem dX10_pin_44 : decode cX10_pin 44 = .ok (.iload_n 3, 1) := by decide +kernel
theorem dX10_pin_45 : decode cX10_pin 45 = .ok (.aload_n 0, 1) := by decide +kernel
theorem dX10_pin_46 : decode cX10_pin 46 = .ok (.getfield 101, 3) := by decide +kernel
theorem dX10_pin_49 : decode cX10_pin 49 = .ok (.if_icmp .ge 31, 3) := by decide +kernel
theorem dX10_pin_52 : decode cX10_pin 52 = .ok (.aload_n 0, 1) := by decide +kernel
theorem dX10_pin_53 : decode cX10_pin 53 = .ok (.getfield 13, 3) := by decide +kernel
theorem dX10_pin_56 : decode cX10_pin 56 = .ok (.iload_n 3, 1) := by decide +kernel
theorem dX10_pin_57 : decode cX10_pin 57 = .ok (.iaload, 1) := by decide +kernel
theorem dX10_pin_58 : decode cX10_pin 58 = .ok (.iload_n 1, 1) := by decide +kernel
theorem dX10_pin_59 : decode cX10_pin 59 = .ok (.if_icmp .ne 15, 3) := by decide +kernel
theorem dX10_pin_62 : decode cX10_pin 62 = .ok (.aload_n 0, 1) := by decide +kernel
theorem dX10_pin_63 : decode cX10_pin 63 = .ok (.getfield 17, 3) := by decide +kernel
theorem dX10_pin_66 : decode cX10_pin 66 = .ok (.iload_n 3, 1) := by decide +kernel
theorem dX10_pin_67 : decode cX10_pin 67 = .ok (.iaload, 1) := by decide +kernel
theorem dX10_pin_68 : decode cX10_pin 68 = .ok (.iload_n 2, 1) := by decide +kernel
theorem dX10_pin_69 : decode cX10_pin 69 = .ok (.if_icmp .ne 5, 3) := by decide +kernel
theorem dX10_pin_72 : decode cX10_pin 72 = .ok (.iconst (-1), 1) := by decide +kernel
theorem dX10_pin_73 : decode cX10_pin 73 = .ok (.ireturn, 1) := by decide +kernel
theorem dX10_pin_74 : decode cX10_pin 74 = .ok (.iinc 3 1, 3) := by decide +kernel
theorem dX10_pin_77 : decode cX10_pin 77 = .ok (.goto (-33), 3) := by decide +kernel
theorem dX10_pin_80 : decode cX10_pin 80 = .ok (.aload_n 0, 1) := by decide +kernel
theorem dX10_pin_81 : decode cX10_pin 81 = .ok (.getfield 13, 3) := by decide +kernel
theorem dX10_pin_84 : decode cX10_pin 84 = .ok (.aload_n 0, 1) := by decide +kernel
theorem dX10_pin_85 : decode cX10_pin 85 = .ok (.getfield 101, 3) := by decide +kernel
theorem dX10_pin_88 : decode cX10_pin 88 = .ok (.iload_n 1, 1) := by decide +kernel
theorem dX10_pin_89 : decode cX10_pin 89 = .ok (.iastore, 1) := by decide +kernel
theorem dX10_pin_90 : decode cX10_pin 90 = .ok (.aload_n 0, 1) := by decide +kernel
theorem dX10_pin_91 : decode cX10_pin 91 = .ok (.getfield 17, 3) := by decide +kernel
theorem dX10_pin_94 : decode cX10_pin 94 = .ok (.aload_n 0, 1) := by decide +kernel
theorem dX10_pin_95 : decode cX10_pin 95 = .ok (.getfield 101, 3) := by decide +kernel
theorem dX10_pin_98 : decode cX10_pin 98 = .ok (.iload_n 2, 1) := by decide +kernel
theorem dX10_pin_99 : decode cX10_pin 99 = .ok (.iastore, 1) := by decide +kernel
theorem dX10_pin_100 : decode cX10_pin 100 = .ok (.aload_n 0, 1) := by decide +kernel
theorem dX10_pin_101 : decode cX10_pin 101 = .ok (.aload_n 0, 1) := by decide +kernel
theorem dX10_pin_102 : decode cX10_pin 102 = .ok (.getfield 101, 3) := by decide +kernel
theorem dX10_pin_105 : decode cX10_pin 105 = .ok (.iconst 1, 1) := by decide +kernel
theorem dX10_pin_106 : decode cX10_pin 106 = .ok (.iadd, 1) := by decide +kernel
theorem dX10_pin_107 : decode cX10_pin 107 = .ok (.putfield 101, 3) := by decide +kernel
theorem dX10_pin_110 : decode cX10_pin 110 = .ok (.aload_n 0, 1) := by decide +kernel
theorem dX10_pin_111 : decode cX10_pin 111 = .ok (.iconst 0, 1) := by decide +kernel
theorem dX10_pin_112 : decode cX10_pin 112 = .ok (.putfield 111, 3) := by decide +kernel
theorem dX10_pin_115 : decode cX10_pin 115 = .ok (.aload_n 0, 1) := by decide +kernel
theorem dX10_pin_116 : decode cX10_pin 116 = .ok (.getfield 101, 3) := by decide +kernel
theorem dX10_pin_119 : decode cX10_pin 119 = .ok (.iconst 1, 1) := by decide +kernel
theorem dX10_pin_120 : decode cX10_pin 120 = .ok (.isub, 1) := by decide +kernel
theorem dX10_pin_121 : decode cX10_pin 121 = .ok (.ireturn, 1) := by decide +kernel
theorem dX10_want_0 : decode cX10_want 0 = .ok (.aload_n 0, 1) := by decide +kernel
theorem dX10_want_1 : decode cX10_want 1 = .ok (.iconst 0, 1) := by decide +kernel
theorem dX10_want_2 : decode cX10_want 2 = .ok (.putfield 98, 3) := by decide +kernel
theorem dX10_want_5 : decode cX10_want 5 = .ok (.aload_n 0, 1) := by decide +kernel
theorem dX10_want_6 : decode cX10_want 6 = .ok (.iload_n 1, 1) := by decide +kernel
theorem dX10_want_7 : decode cX10_want 7 = .ok (.invokevirtual 117, 3) := by decide +kernel
theorem dX10_want_10 : decode cX10_want 10 = .ok (.ifCond .eq 25, 3) := by decide +kernel
theorem dX10_want_13 : decode cX10_want 13 = .ok (.aload_n 0, 1) := by decide +kernel
theorem dX10_want_14 : decode cX10_want 14 = .ok (.iload_n 2, 1) := by decide +kernel
theorem dX10_want_15 : decode cX10_want 15 = .ok (.iload_n 3, 1) := by decide +kernel
theorem dX10_want_16 : decode cX10_want 16 = .ok (.invokevirtual 121, 3) := by decide +kernel
theorem dX10_want_19 : decode cX10_want 19 = .ok (.ifCond .eq 16, 3) := by decide +kernel
theorem dX10_want_22 : decode cX10_want 22 = .ok (.aload_n 0, 1) := by decide +kernel
theorem dX10_want_23 : decode cX10_want 23 = .ok (.iload 4, 2) := by decide +kernel
theorem dX10_want_25 : decode cX10_want 25 = .ok (.iconst 0, 1) := by decide +kernel
theorem dX10_want_26 : decode cX10_want 26 = .ok (.sipush 999, 3) := by decide +kernel
theorem dX10_want_29 : decode cX10_want 29 = .ok (.invokevirtual 104, 3) := by decide +kernel
theorem dX10_want_32 : decode cX10_want 32 = .ok (.ifCond .ne 5, 3) := by decide +kernel
theorem dX10_want_35 : decode cX10_want 35 = .ok (.iconst 0, 1) := by decide +kernel
theorem dX10_want_36 : decode cX10_want 36 = .ok (.ireturn, 1) := by decide +kernel
theorem dX10_want_37 : decode cX10_want 37 = .ok (.aload_n 0, 1) := by decide +kernel
theorem dX10_want_38 : decode cX10_want 38 = .ok (.getfield 29, 3) := by decide +kernel
theorem dX10_want_41 : decode cX10_want 41 = .ok (.bipush 64, 2) := by decide +kernel
theorem dX10_want_43 : decode cX10_want 43 = .ok (.iload_n 1, 1) := by decide +kernel
theorem dX10_want_44 : decode cX10_want 44 = .ok (.imul, 1) := by decide +kernel
theorem dX10_want_45 : decode cX10_want 45 = .ok (.bipush 8, 2) := by decide +kernel
theorem dX10_want_47 : decode cX10_want 47 = .ok (.iload_n 3, 1) := by decide +kernel
theorem dX10_want_48 : decode cX10_want 48 = .ok (.imul, 1) := by decide +kernel
theorem dX10_want_49 : decode cX10_want 49 = .ok (.iadd, 1) := by decide +kernel
theorem dX10_want_50 : decode cX10_want 50 = .ok (.iload_n 2, 1) := by decide +kernel
theorem dX10_want_51 : decode cX10_want 51 = .ok (.iadd, 1) := by decide +kernel
theorem dX10_want_52 : decode cX10_want 52 = .ok (.iload 4, 2) := by decide +kernel
theorem dX10_want_54 : decode cX10_want 54 = .ok (.iastore, 1) := by decide +kernel
theorem dX10_want_55 : decode cX10_want 55 = .ok (.iconst 1, 1) := by decide +kernel
theorem dX10_want_56 : decode cX10_want 56 = .ok (.ireturn, 1) := by decide +kernel
theorem dX10_weight_0 : decode cX10_weight 0 = .ok (.aload_n 0, 1) := by decide +kernel
theorem dX10_weight_1 : decode cX10_weight 1 = .ok (.iconst 0, 1) := by decide +kernel
theorem dX10_weight_2 : decode cX10_weight 2 = .ok (.putfield 98, 3) := by decide +kernel
theorem dX10_weight_5 : decode cX10_weight 5 = .ok (.aload_n 0, 1) := by decide +kernel
theorem dX10_weight_6 : decode cX10_weight 6 = .ok (.iload_n 1, 1) := by decide +kernel
theorem dX10_weight_7 : decode cX10_weight 7 = .ok (.iload_n 2, 1) := by decide +kernel
theorem dX10_weight_8 : decode cX10_weight 8 = .ok (.invokevirtual 121, 3) := by decide +kernel
theorem dX10_weight_11 : decode cX10_weight 11 = .ok (.ifCond .eq 14, 3) := by decide +kernel
theorem dX10_weight_14 : decode cX10_weight 14 = .ok (.aload_n 0, 1) := by decide +kernel
theorem dX10_weight_15 : decode cX10_weight 15 = .ok (.iload_n 3, 1) := by decide +kernel
theorem dX10_weight_16 : decode cX10_weight 16 = .ok (.iconst 0, 1) := by decide +kernel
theorem dX10_weight_17 : decode cX10_weight 17 = .ok (.bipush 9, 2) := by decide +kernel
theorem dX10_weight_19 : decode cX10_weight 19 = .ok (.invokevirtual 104, 3) := by decide +kernel
theorem dX10_weight_22 : decode cX10_weight 22 = .ok (.ifCond .ne 5, 3) := by decide +kernel
theorem dX10_weight_25 : decode cX10_weight 25 = .ok (.iconst 0, 1) := by decide +kernel
theorem dX10_weight_26 : decode cX10_weight 26 = .ok (.ireturn, 1) := by decide +kernel
theorem dX10_weight_27 : decode cX10_weight 27 = .ok (.aload_n 0, 1) := by decide +kernel
theorem dX10_weight_28 : decode cX10_weight 28 = .ok (.getfield 32, 3) := by decide +kernel
theorem dX10_weight_31 : decode cX10_weight 31 = .ok (.bipush 8, 2) := by decide +kernel
theorem dX10_weight_33 : decode cX10_weight 33 = .ok (.iload_n 2, 1) := by decide +kernel
theorem dX10_weight_34 : decode cX10_weight 34 = .ok (.imul, 1) := by decide +kernel
theorem dX10_weight_35 : decode cX10_weight 35 = .ok (.iload_n 1, 1) := by decide +kernel
theorem dX10_weight_36 : decode cX10_weight 36 = .ok (.iadd, 1) := by decide +kernel
theorem dX10_weight_37 : decode cX10_weight 37 = .ok (.iload_n 3, 1) := by decide +kernel
theorem dX10_weight_38 : decode cX10_weight 38 = .ok (.iconst 1, 1) := by decide +kernel
theorem dX10_weight_39 : decode cX10_weight 39 = .ok (.isub, 1) := by decide +kernel
theorem dX10_weight_40 : decode cX10_weight 40 = .ok (.iastore, 1) := by decide +kernel
theorem dX10_weight_41 : decode cX10_weight 41 = .ok (.iconst 1, 1) := by decide +kernel
theorem dX10_weight_42 : decode cX10_weight 42 = .ok (.ireturn, 1) := by decide +kernel
theorem dX10_shade_0 : decode cX10_shade 0 = .ok (.aload_n 0, 1) := by decide +kernel
theorem dX10_shade_1 : decode cX10_shade 1 = .ok (.iconst 0, 1) := by decide +kernel
theorem dX10_shade_2 : decode cX10_shade 2 = .ok (.putfield 98, 3) := by decide +kernel
theorem dX10_shade_5 : decode cX10_shade 5 = .ok (.aload_n 0, 1) := by decide +kernel
theorem dX10_shade_6 : decode cX10_shade 6 = .ok (.iload_n 1, 1) := by decide +kernel
theorem dX10_shade_7 : decode cX10_shade 7 = .ok (.invokevirtual 125, 3) := by decide +kernel
theorem dX10_shade_10 : decode cX10_shade 10 = .ok (.ifCond .eq 14, 3) := by decide +kernel
theorem dX10_shade_13 : decode cX10_shade 13 = .ok (.aload_n 0, 1) := by decide +kernel
theorem dX10_shade_14 : decode cX10_shade 14 = .ok (.iload_n 2, 1) := by decide +kernel
theorem dX10_shade_15 : decode cX10_shade 15 = .ok (.iconst 0, 1) := by decide +kernel
theorem dX10_shade_16 : decode cX10_shade 16 = .ok (.bipush 9, 2) := by decide +kernel
theorem dX10_shade_18 : decode cX10_shade 18 = .ok (.invokevirtual 104, 3) := by decide +kernel
theorem dX10_shade_21 : decode cX10_shade 21 = .ok (.ifCond .ne 5, 3) := by decide +kernel
theorem dX10_shade_24 : decode cX10_shade 24 = .ok (.iconst 0, 1) := by decide +kernel
theorem dX10_shade_25 : decode cX10_shade 25 = .ok (.ireturn, 1) := by decide +kernel
theorem dX10_shade_26 : decode cX10_shade 26 = .ok (.aload_n 0, 1) := by decide +kernel
theorem dX10_shade_27 : decode cX10_shade 27 = .ok (.getfield 20, 3) := by decide +kernel
theorem dX10_shade_30 : decode cX10_shade 30 = .ok (.iload_n 1, 1) := by decide +kernel
theorem dX10_shade_31 : decode cX10_shade 31 = .ok (.iload_n 2, 1) := by decide +kernel
theorem dX10_shade_32 : decode cX10_shade 32 = .ok (.iastore, 1) := by decide +kernel
theorem dX10_shade_33 : decode cX10_shade 33 = .ok (.aload_n 0, 1) := by decide +kernel
theorem dX10_shade_34 : decode cX10_shade 34 = .ok (.iconst 0, 1) := by decide +kernel
theorem dX10_shade_35 : decode cX10_shade 35 = .ok (.putfield 111, 3) := by decide +kernel
theorem dX10_shade_38 : decode cX10_shade 38 = .ok (.iconst 1, 1) := by decide +kernel
theorem dX10_shade_39 : decode cX10_shade 39 = .ok (.ireturn, 1) := by decide +kernel
theorem dX10_tell_0 : decode cX10_tell 0 = .ok (.aload_n 0, 1) := by decide +kernel
theorem dX10_tell_1 : decode cX10_tell 1 = .ok (.iconst 0, 1) := by decide +kernel
theorem dX10_tell_2 : decode cX10_tell 2 = .ok (.putfield 98, 3) := by decide +kernel
theorem dX10_tell_5 : decode cX10_tell 5 = .ok (.aload_n 0, 1) := by decide +kernel
theorem dX10_tell_6 : decode cX10_tell 6 = .ok (.iload_n 1, 1) := by decide +kernel
theorem dX10_tell_7 : decode cX10_tell 7 = .ok (.iload_n 2, 1) := by decide +kernel
theorem dX10_tell_8 : decode cX10_tell 8 = .ok (.invokevirtual 121, 3) := by decide +kernel
theorem dX10_tell_11 : decode cX10_tell 11 = .ok (.ifCond .eq 15, 3) := by decide +kernel
theorem dX10_tell_14 : decode cX10_tell 14 = .ok (.aload_n 0, 1) := by decide +kernel
theorem dX10_tell_15 : decode cX10_tell 15 = .ok (.iload_n 3, 1) := by decide +kernel
theorem dX10_tell_16 : decode cX10_tell 16 = .ok (.iconst (-1), 1) := by decide +kernel
theorem dX10_tell_17 : decode cX10_tell 17 = .ok (.sipush 9999, 3) := by decide +kernel
theorem dX10_tell_20 : decode cX10_tell 20 = .ok (.invokevirtual 104, 3) := by decide +kernel
theorem dX10_tell_23 : decode cX10_tell 23 = .ok (.ifCond .ne 5, 3) := by decide +kernel
theorem dX10_tell_26 : decode cX10_tell 26 = .ok (.iconst 0, 1) := by decide +kernel
theorem dX10_tell_27 : decode cX10_tell 27 = .ok (.ireturn, 1) := by decide +kernel
theorem dX10_tell_28 : decode cX10_tell 28 = .ok (.aload_n 0, 1) := by decide +kernel
theorem dX10_tell_29 : decode cX10_tell 29 = .ok (.getfield 35, 3) := by decide +kernel
theorem dX10_tell_32 : decode cX10_tell 32 = .ok (.bipush 8, 2) := by decide +kernel
theorem dX10_tell_34 : decode cX10_tell 34 = .ok (.iload_n 2, 1) := by decide +kernel
theorem dX10_tell_35 : decode cX10_tell 35 = .ok (.imul, 1) := by decide +kernel
theorem dX10_tell_36 : decode cX10_tell 36 = .ok (.iload_n 1, 1) := by decide +kernel
theorem dX10_tell_37 : decode cX10_tell 37 = .ok (.iadd, 1) := by decide +kernel
theorem dX10_tell_38 : decode cX10_tell 38 = .ok (.iload_n 3, 1) := by decide +kernel
theorem dX10_tell_39 : decode cX10_tell 39 = .ok (.iconst 1, 1) := by decide +kernel
theorem dX10_tell_40 : decode cX10_tell 40 = .ok (.iadd, 1) := by decide +kernel
theorem dX10_tell_41 : decode cX10_tell 41 = .ok (.iastore, 1) := by decide +kernel
theorem dX10_tell_42 : decode cX10_tell 42 = .ok (.iconst 1, 1) := by decide +kernel
theorem dX10_tell_43 : decode cX10_tell 43 = .ok (.ireturn, 1) := by decide +kernel
theorem dX10_types_0 : decode cX10_types 0 = .ok (.bipush 24, 2) := by decide +kernel
theorem dX10_types_2 : decode cX10_types 2 = .ok (.istore_n 2, 1) := by decide +kernel
theorem dX10_types_3 : decode cX10_types 3 = .ok (.iload_n 2, 1) := by decide +kernel
theorem dX10_types_4 : decode cX10_types 4 = .ok (.ifCond .lt 35, 3) := by decide +kernel
theorem dX10_types_7 : decode cX10_types 7 = .ok (.aload_n 0, 1) := by decide +kernel
theorem dX10_types_8 : decode cX10_types 8 = .ok (.getfield 47, 3) := by decide +kernel
theorem dX10_types_11 : decode cX10_types 11 = .ok (.aload_n 0, 1) := by decide +kernel
theorem dX10_types_12 : decode cX10_types 12 = .ok (.getfield 128, 3) := by decide +kernel
theorem dX10_types_15 : decode cX10_types 15 = .ok (.iload_n 1, 1) := by decide +kernel
theorem dX10_types_16 : decode cX10_types 16 = .ok (.iload_n 2, 1) := by decide +kernel
theorem dX10_types_17 : decode cX10_types 17 = .ok (.ishr, 1) := by decide +kernel
theorem dX10_types_18 : decode cX10_types 18 = .ok (.sipush 255, 3) := by decide +kernel
theorem dX10_types_21 : decode cX10_types 21 = .ok (.iand, 1) := by decide +kernel
theorem dX10_types_22 : decode cX10_types 22 = .ok (.iastore, 1) := by decide +kernel
theorem dX10_types_23 : decode cX10_types 23 = .ok (.aload_n 0, 1) := by decide +kernel
theorem dX10_types_24 : decode cX10_types 24 = .ok (.aload_n 0, 1) := by decide +kernel
theorem dX10_types_25 : decode cX10_types 25 = .ok (.getfield 128, 3) := by decide +kernel
theorem dX10_types_28 : decode cX10_types 28 = .ok (.iconst 1, 1) := by decide +kernel
theorem dX10_types_29 : decode cX10_types 29 = .ok (.iadd, 1) := by decide +kernel
theorem dX10_types_30 : decode cX10_types 30 = .ok (.putfield 128, 3) := by decide +kernel
theorem dX10_types_33 : decode cX10_types 33 = .ok (.iinc 2 (-8), 3) := by decide +kernel
theorem dX10_types_36 : decode cX10_types 36 = .ok (.goto (-33), 3) := by decide +kernel
theorem dX10_types_39 : decode cX10_types 39 = .ok (.return_, 1) := by decide +kernel
theorem dX10_feed_0 : decode cX10_feed 0 = .ok (.aload_n 0, 1) := by decide +kernel
theorem dX10_feed_1 : decode cX10_feed 1 = .ok (.iconst 0, 1) := by decide +kernel
theorem dX10_feed_2 : decode cX10_feed 2 = .ok (.putfield 98, 3) := by decide +kernel
theorem dX10_feed_5 : decode cX10_feed 5 = .ok (.aload_n 0, 1) := by decide +kernel
theorem dX10_feed_6 : decode cX10_feed 6 = .ok (.getfield 128, 3) := by decide +kernel
theorem dX10_feed_9 : decode cX10_feed 9 = .ok (.sipush 380, 3) := by decide +kernel
theorem dX10_feed_12 : decode cX10_feed 12 = .ok (.if_icmp .le 5, 3) := by decide +kernel
theorem dX10_feed_15 : decode cX10_feed 15 = .ok (.iconst (-1), 1) := by decide +kernel
theorem dX10_feed_16 : decode cX10_feed 16 = .ok (.ireturn, 1) := by decide +kernel
theorem dX10_feed_17 : decode cX10_feed 17 = .ok (.aload_n 0, 1) := by decide +kernel
theorem dX10_feed_18 : decode cX10_feed 18 = .ok (.iload_n 1, 1) := by decide +kernel
theorem dX10_feed_19 : decode cX10_feed 19 = .ok (.invokevirtual 131, 3) := by decide +kernel
theorem dX10_feed_22 : decode cX10_feed 22 = .ok (.aload_n 0, 1) := by decide +kernel
theorem dX10_feed_23 : decode cX10_feed 23 = .ok (.iload_n 2, 1) := by decide +kernel
theorem dX10_feed_24 : decode cX10_feed 24 = .ok (.invokevirtual 131, 3) := by decide +kernel
theorem dX10_feed_27 : decode cX10_feed 27 = .ok (.aload_n 0, 1) := by decide +kernel
theorem dX10_feed_28 : decode cX10_feed 28 = .ok (.iload_n 3, 1) := by decide +kernel
theorem dX10_feed_29 : decode cX10_feed 29 = .ok (.invokevirtual 131, 3) := by decide +kernel
theorem dX10_feed_32 : decode cX10_feed 32 = .ok (.aload_n 0, 1) := by decide +kernel
theorem dX10_feed_33 : decode cX10_feed 33 = .ok (.iload 4, 2) := by decide +kernel
theorem dX10_feed_35 : decode cX10_feed 35 = .ok (.invokevirtual 131, 3) := by decide +kernel
theorem dX10_feed_38 : decode cX10_feed 38 = .ok (.aload_n 0, 1) := by decide +kernel
theorem dX10_feed_39 : decode cX10_feed 39 = .ok (.iload 5, 2) := by decide +kernel
theorem dX10_feed_41 : decode cX10_feed 41 = .ok (.invokevirtual 131, 3) := by decide +kernel
theorem dX10_feed_44 : decode cX10_feed 44 = .ok (.aload_n 0, 1) := by decide +kernel
theorem dX10_feed_45 : decode cX10_feed 45 = .ok (.getfield 128, 3) := by decide +kernel
theorem dX10_feed_48 : decode cX10_feed 48 = .ok (.ireturn, 1) := by decide +kernel
theorem dX10_end_0 : decode cX10_end 0 = .ok (.aload_n 0, 1) := by decide +kernel
theorem dX10_end_1 : decode cX10_end 1 = .ok (.iconst 0, 1) := by decide +kernel
theorem dX10_end_2 : decode cX10_end 2 = .ok (.putfield 98, 3) := by decide +kernel
theorem dX10_end_5 : decode cX10_end 5 = .ok (.aload_n 0, 1) := by decide +kernel
theorem dX10_end_6 : decode cX10_end 6 = .ok (.iload_n 1, 1) := by decide +kernel
theorem dX10_end_7 : decode cX10_end 7 = .ok (.iconst 0, 1) := by decide +kernel
theorem dX10_end_8 : decode cX10_end 8 = .ok (.aload_n 0, 1) := by decide +kernel
theorem dX10_end_9 : decode cX10_end 9 = .ok (.getfield 128, 3) := by decide +kernel
theorem dX10_end_12 : decode cX10_end 12 = .ok (.invokevirtual 104, 3) := by decide +kernel
theorem dX10_end_15 : decode cX10_end 15 = .ok (.ifCond .ne 5, 3) := by decide +kernel
theorem dX10_end_18 : decode cX10_end 18 = .ok (.iconst 0, 1) := by decide +kernel
theorem dX10_end_19 : decode cX10_end 19 = .ok (.ireturn, 1) := by decide +kernel
theorem dX10_end_20 : decode cX10_end 20 = .ok (.aload_n 0, 1) := by decide +kernel
theorem dX10_end_21 : decode cX10_end 21 = .ok (.iload_n 1, 1) := by decide +kernel
theorem dX10_end_22 : decode cX10_end 22 = .ok (.putfield 128, 3) := by decide +kernel
theorem dX10_end_25 : decode cX10_end 25 = .ok (.iconst 1, 1) := by decide +kernel
theorem dX10_end_26 : decode cX10_end 26 = .ok (.ireturn, 1) := by decide +kernel
theorem dX10_raw_0 : decode cX10_raw 0 = .ok (.iload_n 1, 1) := by decide +kernel
theorem dX10_raw_1 : decode cX10_raw 1 = .ok (.aload_n 0, 1) := by decide +kernel
theorem dX10_raw_2 : decode cX10_raw 2 = .ok (.getfield 128, 3) := by decide +kernel
theorem dX10_raw_5 : decode cX10_raw 5 = .ok (.if_icmp .ge 12, 3) := by decide +kernel
theorem dX10_raw_8 : decode cX10_raw 8 = .ok (.aload_n 0, 1) := by decide +kernel
theorem dX10_raw_9 : decode cX10_raw 9 = .ok (.getfield 47, 3) := by decide +kernel
theorem dX10_raw_12 : decode cX10_raw 12 = .ok (.iload_n 1, 1) := by decide +kernel
theorem dX10_raw_13 : decode cX10_raw 13 = .ok (.iaload, 1) := by decide +kernel
theorem dX10_raw_14 : decode cX10_raw 14 = .ok (.goto 4, 3) := by decide +kernel
theorem dX10_raw_17 : decode cX10_raw 17 = .ok (.iconst (-1), 1) := by decide +kernel
theorem dX10_raw_18 : decode cX10_raw 18 = .ok (.ireturn, 1) := by decide +kernel
theorem dX10_isLetter_0 : decode cX10_isLetter 0 = .ok (.aload_n 0, 1) := by decide +kernel
theorem dX10_isLetter_1 : decode cX10_isLetter 1 = .ok (.iload_n 1, 1) := by decide +kernel
theorem dX10_isLetter_2 : decode cX10_isLetter 2 = .ok (.bipush 97, 2) := by decide +kernel
theorem dX10_isLetter_4 : decode cX10_isLetter 4 = .ok (.bipush 122, 2) := by decide +kernel
theorem dX10_isLetter_6 : decode cX10_isLetter 6 = .ok (.invokevirtual 104, 3) := by decide +kernel
theorem dX10_isLetter_9 : decode cX10_isLetter 9 = .ok (.ifCond .ne 15, 3) := by decide +kernel
theorem dX10_isLetter_12 : decode cX10_isLetter 12 = .ok (.aload_n 0, 1) := by decide +kernel
theorem dX10_isLetter_13 : decode cX10_isLetter 13 = .ok (.iload_n 1, 1) := by decide +kernel
theorem dX10_isLetter_14 : decode cX10_isLetter 14 = .ok (.bipush 65, 2) := by decide +kernel
theorem dX10_isLetter_16 : decode cX10_isLetter 16 = .ok (.bipush 90, 2) := by decide +kernel
theorem dX10_isLetter_18 : decode cX10_isLetter 18 = .ok (.invokevirtual 104, 3) := by decide +kernel
theorem dX10_isLetter_21 : decode cX10_isLetter 21 = .ok (.ifCond .eq 7, 3) := by decide +kernel
theorem dX10_isLetter_24 : decode cX10_isLetter 24 = .ok (.iconst 1, 1) := by decide +kernel
theorem dX10_isLetter_25 : decode cX10_isLetter 25 = .ok (.goto 4, 3) := by decide +kernel
theorem dX10_isLetter_28 : decode cX10_isLetter 28 = .ok (.iconst 0, 1) := by decide +kernel
theorem dX10_isLetter_29 : decode cX10_isLetter 29 = .ok (.ireturn, 1) := by decide +kernel
theorem dX10_isDigit_0 : decode cX10_isDigit 0 = .ok (.aload_n 0, 1) := by decide +kernel
theorem dX10_isDigit_1 : decode cX10_isDigit 1 = .ok (.iload_n 1, 1) := by decide +kernel
theorem dX10_isDigit_2 : decode cX10_isDigit 2 = .ok (.bipush 48, 2) := by decide +kernel
theorem dX10_isDigit_4 : decode cX10_isDigit 4 = .ok (.bipush 57, 2) := by decide +kernel
theorem dX10_isDigit_6 : decode cX10_isDigit 6 = .ok (.invokevirtual 104, 3) := by decide +kernel
theorem dX10_isDigit_9 : decode cX10_isDigit 9 = .ok (.ireturn, 1) := by decide +kernel
theorem dX10_isMarkSign_0 : decode cX10_isMarkSign 0 = .ok (.iload_n 1, 1) := by decide +kernel
theorem dX10_isMarkSign_1 : decode cX10_isMarkSign 1 = .ok (.bipush 59, 2) := by decide +kernel
theorem dX10_isMarkSign_3 : decode cX10_isMarkSign 3 = .ok (.if_icmp .eq 57, 3) := by decide +kernel
theorem dX10_isMarkSign_6 : decode cX10_isMarkSign 6 = .ok (.iload_n 1, 1) := by decide +kernel
theorem dX10_isMarkSign_7 : decode cX10_isMarkSign 7 = .ok (.bipush 43, 2) := by decide +kernel
theorem dX10_isMarkSign_9 : decode cX10_isMarkSign 9 = .ok (.if_icmp .eq 51, 3) := by decide +kernel
theorem dX10_isMarkSign_12 : decode cX10_isMarkSign 12 = .ok (.iload_n 1, 1) := by decide +kernel
theorem dX10_isMarkSign_13 : decode cX10_isMarkSign 13 = .ok (.bipush 45, 2) := by decide +kernel
theorem dX10_isMarkSign_15 : decode cX10_isMarkSign 15 = .ok (.if_icmp .eq 45, 3) := by decide +kernel
theorem dX10_isMarkSign_18 : decode cX10_isMarkSign 18 = .ok (.iload_n 1, 1) := by decide +kernel
theorem dX10_isMarkSign_19 : decode cX10_isMarkSign 19 = .ok (.bipush 42, 2) := by decide +kernel
theorem dX10_isMarkSign_21 : decode cX10_isMarkSign 21 = .ok (.if_icmp .eq 39, 3) := by decide +kernel
theorem dX10_isMarkSign_24 : decode cX10_isMarkSign 24 = .ok (.iload_n 1, 1) := by decide +kernel
theorem dX10_isMarkSign_25 : decode cX10_isMarkSign 25 = .ok (.bipush 47, 2) := by decide +kernel
theorem dX10_isMarkSign_27 : decode cX10_isMarkSign 27 = .ok (.if_icmp .eq 33, 3) := by decide +kernel
theorem dX10_isMarkSign_30 : decode cX10_isMarkSign 30 = .ok (.iload_n 1, 1) := by decide +kernel
theorem dX10_isMarkSign_31 : decode cX10_isMarkSign 31 = .ok (.bipush 40, 2) := by decide +kernel
theorem dX10_isMarkSign_33 : decode cX10_isMarkSign 33 = .ok (.if_icmp .eq 27, 3) := by decide +kernel
theorem dX10_isMarkSign_36 : decode cX10_isMarkSign 36 = .ok (.iload_n 1, 1) := by decide +kernel
theorem dX10_isMarkSign_37 : decode cX10_isMarkSign 37 = .ok (.bipush 41, 2) := by decide +kernel
theorem dX10_isMarkSign_39 : decode cX10_isMarkSign 39 = .ok (.if_icmp .eq 21, 3) := by decide +kernel
theorem dX10_isMarkSign_42 : decode cX10_isMarkSign 42 = .ok (.iload_n 1, 1) := by decide +kernel
theorem dX10_isMarkSign_43 : decode cX10_isMarkSign 43 = .ok (.bipush 60, 2) := by decide +kernel
theorem dX10_isMarkSign_45 : decode cX10_isMarkSign 45 = .ok (.if_icmp .eq 15, 3) := by decide +kernel
theorem dX10_isMarkSign_48 : decode cX10_isMarkSign 48 = .ok (.iload_n 1, 1) := by decide +kernel
theorem dX10_isMarkSign_49 : decode cX10_isMarkSign 49 = .ok (.bipush 61, 2) := by decide +kernel
theorem dX10_isMarkSign_51 : decode cX10_isMarkSign 51 = .ok (.if_icmp .eq 9, 3) := by decide +kernel
theorem dX10_isMarkSign_54 : decode cX10_isMarkSign 54 = .ok (.iload_n 1, 1) := by decide +kernel
theorem dX10_isMarkSign_55 : decode cX10_isMarkSign 55 = .ok (.bipush 62, 2) := by decide +kernel
theorem dX10_isMarkSign_57 : decode cX10_isMarkSign 57 = .ok (.if_icmp .ne 7, 3) := by decide +kernel
theorem dX10_isMarkSign_60 : decode cX10_isMarkSign 60 = .ok (.iconst 1, 1) := by decide +kernel
theorem dX10_isMarkSign_61 : decode cX10_isMarkSign 61 = .ok (.goto 4, 3) := by decide +kernel
theorem dX10_isMarkSign_64 : decode cX10_isMarkSign 64 = .ok (.iconst 0, 1) := by decide +kernel
theorem dX10_isMarkSign_65 : decode cX10_isMarkSign 65 = .ok (.ireturn, 1) := by decide +kernel
theorem dX10_wordAt_0 : decode cX10_wordAt 0 = .ok (.iconst (-1), 1) := by decide +kernel
theorem dX10_wordAt_1 : decode cX10_wordAt 1 = .ok (.istore_n 3, 1) := by decide +kernel
theorem dX10_wordAt_2 : decode cX10_wordAt 2 = .ok (.iconst 0, 1) := by decide +kernel
theorem dX10_wordAt_3 : decode cX10_wordAt 3 = .ok (.istore 4, 2) := by decide +kernel
theorem dX10_wordAt_5 : decode cX10_wordAt 5 = .ok (.iload 4, 2) := by decide +kernel
theorem dX10_wordAt_7 : decode cX10_wordAt 7 = .ok (.bipush 68, 2) := by decide +kernel
theorem dX10_wordAt_9 : decode cX10_wordAt 9 = .ok (.if_icmp .ge 108, 3) := by decide +kernel
theorem dX10_wordAt_12 : decode cX10_wordAt 12 = .ok (.iconst 0, 1) := by decide +kernel
theorem dX10_wordAt_13 : decode cX10_wordAt 13 = .ok (.istore 5, 2) := by decide +kernel
theorem dX10_wordAt_15 : decode cX10_wordAt 15 = .ok (.iload_n 3, 1) := by decide +kernel
theorem dX10_wordAt_16 : decode cX10_wordAt 16 = .ok (.iconst 1, 1) := by decide +kernel
theorem dX10_wordAt_17 : decode cX10_wordAt 17 = .ok (.iadd, 1) := by decide +kernel
theorem dX10_wordAt_18 : decode cX10_wordAt 18 = .ok (.istore_n 3, 1) := by decide +kernel
theorem dX10_wordAt_19 : decode cX10_wordAt 19 = .ok (.iload_n 1, 1) := by decide +kernel
theorem dX10_wordAt_20 : decode cX10_wordAt 20 = .ok (.iload 5, 2) := by decide +kernel
theorem dX10_wordAt_22 : decode cX10_wordAt 22 = .ok (.iadd, 1) := by decide +kernel
theorem dX10_wordAt_23 : decode cX10_wordAt 23 = .ok (.iload_n 2, 1) := by decide +kernel
theorem dX10_wordAt_24 : decode cX10_wordAt 24 = .ok (.if_icmp .ge 36, 3) := by decide +kernel
theorem dX10_wordAt_27 : decode cX10_wordAt 27 = .ok (.aload_n 0, 1) := by decide +kernel
theorem dX10_wordAt_28 : decode cX10_wordAt 28 = .ok (.getfield 50, 3) := by decide +kernel
theorem dX10_wordAt_31 : decode cX10_wordAt 31 = .ok (.iload 4, 2) := by decide +kernel
theorem dX10_wordAt_33 : decode cX10_wordAt 33 = .ok (.iconst 1, 1) := by decide +kernel
theorem dX10_wordAt_34 : decode cX10_wordAt 34 = .ok (.iadd, 1) := by decide +kernel
theorem dX10_wordAt_35 : decode cX10_wordAt 35 = .ok (.iload 5, 2) := by decide +kernel
theorem dX10_wordAt_37 : decode cX10_wordAt 37 = .ok (.iadd, 1) := by decide +kernel
theorem dX10_wordAt_38 : decode cX10_wordAt 38 = .ok (.iaload, 1) := by decide +kernel
theorem dX10_wordAt_39 : decode cX10_wordAt 39 = .ok (.aload_n 0, 1) := by decide +kernel
theorem dX10_wordAt_40 : decode cX10_wordAt 40 = .ok (.getfield 47, 3) := by decide +kernel
theorem dX10_wordAt_43 : decode cX10_wordAt 43 = .ok (.iload_n 1, 1) := by decide +kernel
theorem dX10_wordAt_44 : decode cX10_wordAt 44 = .ok (.iload 5, 2) := by decide +kernel
theorem dX10_wordAt_46 : decode cX10_wordAt 46 = .ok (.iadd, 1) := by decide +kernel
theorem dX10_wordAt_47 : decode cX10_wordAt 47 = .ok (.iaload, 1) := by decide +kernel
theorem dX10_wordAt_48 : decode cX10_wordAt 48 = .ok (.if_icmp .ne 12, 3) := by decide +kernel
theorem dX10_wordAt_51 : decode cX10_wordAt 51 = .ok (.iload 5, 2) := by decide +kernel
theorem dX10_wordAt_53 : decode cX10_wordAt 53 = .ok (.iconst 1, 1) := by decide +kernel
theorem dX10_wordAt_54 : decode cX10_wordAt 54 = .ok (.iadd, 1) := by decide +kernel
theorem dX10_wordAt_55 : decode cX10_wordAt 55 = .ok (.istore 5, 2) := by decide +kernel
theorem dX10_wordAt_57 : decode cX10_wordAt 57 = .ok (.goto (-38), 3) := by decide +kernel
theorem dX10_wordAt_60 : decode cX10_wordAt 60 = .ok (.iload_n 1, 1) := by decide +kernel
theorem dX10_wordAt_61 : decode cX10_wordAt 61 = .ok (.iload 5, 2) := by decide +kernel
theorem dX10_wordAt_63 : decode cX10_wordAt 63 = .ok (.iadd, 1) := by decide +kernel
theorem dX10_wordAt_64 : decode cX10_wordAt 64 = .ok (.iload_n 2, 1) := by decide +kernel
theorem dX10_wordAt_65 : decode cX10_wordAt 65 = .ok (.if_icmp .ne 22, 3) := by decide +kernel
theorem dX10_wordAt_68 : decode cX10_wordAt 68 = .ok (.aload_n 0, 1) := by decide +kernel
theorem dX10_wordAt_69 : decode cX10_wordAt 69 = .ok (.getfield 50, 3) := by decide +kernel
theorem dX10_wordAt_72 : decode cX10_wordAt 72 = .ok (.iload 4, 2) := by decide +kernel
theorem dX10_wordAt_74 : decode cX10_wordAt 74 = .ok (.iconst 1, 1) := by decide +kernel
theorem dX10_wordAt_75 : decode cX10_wordAt 75 = .ok (.iadd, 1) := by decide +kernel
theorem dX10_wordAt_76 : decode cX10_wordAt 76 = .ok (.iload 5, 2) := by decide +kernel
theorem dX10_wordAt_78 : decode cX10_wordAt 78 = .ok (.iadd, 1) := by decide +kernel
theorem dX10_wordAt_79 : decode cX10_wordAt 79 = .ok (.iaload, 1) := by decide +kernel
theorem dX10_wordAt_80 : decode cX10_wordAt 80 = .ok (.bipush 32, 2) := by decide +kernel
theorem dX10_wordAt_82 : decode cX10_wordAt 82 = .ok (.if_icmp .ne 5, 3) := by decide +kernel
theorem dX10_wordAt_85 : decode cX10_wordAt 85 = .ok (.iload_n 3, 1) := by decide +kernel
theorem dX10_wordAt_86 : decode cX10_wordAt 86 = .ok (.ireturn, 1) := by decide +kernel
theorem dX10_wordAt_87 : decode cX10_wordAt 87 = .ok (.iload 4, 2) := by decide +kernel
theorem dX10_wordAt_89 : decode cX10_wordAt 89 = .ok (.iconst 1, 1) := by decide +kernel
theorem dX10_wordAt_90 : decode cX10_wordAt 90 = .ok (.iadd, 1) := by decide +kernel
theorem dX10_wordAt_91 : decode cX10_wordAt 91 = .ok (.istore 4, 2) := by decide +kernel
theorem dX10_wordAt_93 : decode cX10_wordAt 93 = .ok (.aload_n 0, 1) := by decide +kernel
theorem dX10_wordAt_94 : decode cX10_wordAt 94 = .ok (.getfield 50, 3) := by decide +kernel
theorem dX10_wordAt_97 : decode cX10_wordAt 97 = .ok (.iload 4, 2) := by decide +kernel
theorem dX10_wordAt_99 : decode cX10_wordAt 99 = .ok (.iaload, 1) := by decide +kernel
theorem dX10_wordAt_100 : decode cX10_wordAt 100 = .ok (.bipush 32, 2) := by decide +kernel
theorem dX10_wordAt_102 : decode cX10_wordAt 102 = .ok (.if_icmp .eq 12, 3) := by decide +kernel
theorem dX10_wordAt_105 : decode cX10_wordAt 105 = .ok (.iload 4, 2) := by decide +kernel
theorem dX10_wordAt_107 : decode cX10_wordAt 107 = .ok (.iconst 1, 1) := by decide +kernel
theorem dX10_wordAt_108 : decode cX10_wordAt 108 = .ok (.iadd, 1) := by decide +kernel
theorem dX10_wordAt_109 : decode cX10_wordAt 109 = .ok (.istore 4, 2) := by decide +kernel
theorem dX10_wordAt_111 : decode cX10_wordAt 111 = .ok (.goto (-18), 3) := by decide +kernel
theorem dX10_wordAt_114 : decode cX10_wordAt 114 = .ok (.goto (-109), 3) := by decide +kernel
theorem dX10_wordAt_117 : decode cX10_wordAt 117 = .ok (.iconst (-1), 1) := by decide +kernel
theorem dX10_wordAt_118 : decode cX10_wordAt 118 = .ok (.ireturn, 1) := by decide +kernel
theorem dX10_reads_0 : decode cX10_reads 0 = .ok (.aload_n 0, 1) := by decide +kernel
theorem dX10_reads_1 : decode cX10_reads 1 = .ok (.aload_n 0, 1) := by decide +kernel
theorem dX10_reads_2 : decode cX10_reads 2 = .ok (.getfield 135, 3) := by decide +kernel
theorem dX10_reads_5 : decode cX10_reads 5 = .ok (.invokevirtual 138, 3) := by decide +kernel
theorem dX10_reads_8 : decode cX10_reads 8 = .ok (.bipush 32, 2) := by decide +kernel
theorem dX10_reads_10 : decode cX10_reads 10 = .ok (.if_icmp .eq 16, 3) := by decide +kernel
theorem dX10_reads_13 : decode cX10_reads 13 = .ok (.aload_n 0, 1) := by decide +kernel
theorem dX10_reads_14 : decode cX10_reads 14 = .ok (.aload_n 0, 1) := by decide +kernel
theorem dX10_reads_15 : decode cX10_reads 15 = .ok (.getfield 135, 3) := by decide +kernel
theorem dX10_reads_18 : decode cX10_reads 18 = .ok (.invokevirtual 138, 3) := by decide +kernel
theorem dX10_reads_21 : decode cX10_reads 21 = .ok (.bipush 10, 2) := by decide +kernel
theorem dX10_reads_23 : decode cX10_reads 23 = .ok (.if_icmp .ne 16, 3) := by decide +kernel
theorem dX10_reads_26 : decode cX10_reads 26 = .ok (.aload_n 0, 1) := by decide +kernel
theorem dX10_reads_27 : decode cX10_reads 27 = .ok (.aload_n 0, 1) := by decide +kernel
theorem dX10_reads_28 : decode cX10_reads 28 = .ok (.getfield 135, 3) := by decide +kernel
theorem dX10_reads_31 : decode cX10_reads 31 = .ok (.iconst 1, 1) := by decide +kernel
theorem dX10_reads_32 : decode cX10_reads 32 = .ok (.iadd, 1) := by decide +kernel
theorem dX10_reads_33 : decode cX10_reads 33 = .ok (.putfield 135, 3) := by decide +kernel
theorem dX10_reads_36 : decode cX10_reads 36 = .ok (.goto (-36), 3) := by decide +kernel
theorem dX10_reads_39 : decode cX10_reads 39 = .ok (.aload_n 0, 1) := by decide +kernel
theorem dX10_reads_40 : decode cX10_reads 40 = .ok (.aload_n 0, 1) := by decide +kernel
theorem dX10_reads_41 : decode cX10_reads 41 = .ok (.getfield 135, 3) := by decide +kernel
theorem dX10_reads_44 : decode cX10_reads 44 = .ok (.putfield 142, 3) := by decide +kernel
theorem dX10_reads_47 : decode cX10_reads 47 = .ok (.aload_n 0, 1) := by decide +kernel
theorem dX10_reads_48 : decode cX10_reads 48 = .ok (.iconst 1, 1) := by decide +kernel
theorem dX10_reads_49 : decode cX10_reads 49 = .ok (.putfield 145, 3) := by decide +kernel
theorem dX10_reads_52 : decode cX10_reads 52 = .ok (.aload_n 0, 1) := by decide +kernel
theorem dX10_reads_53 : decode cX10_reads 53 = .ok (.aload_n 0, 1) := by decide +kernel
theorem dX10_reads_54 : decode cX10_reads 54 = .ok (.getfield 135, 3) := by decide +kernel
theorem dX10_reads_57 : decode cX10_reads 57 = .ok (.invokevirtual 138, 3) := by decide +kernel
theorem dX10_reads_60 : decode cX10_reads 60 = .ok (.istore_n 1, 1) := by decide +kernel
theorem dX10_reads_61 : decode cX10_reads 61 = .ok (.iload_n 1, 1) := by decide +kernel
theorem dX10_reads_62 : decode cX10_reads 62 = .ok (.iconst (-1), 1) := by decide +kernel
theorem dX10_reads_63 : decode cX10_reads 63 = .ok (.if_icmp .ne 9, 3) := by decide +kernel
theorem dX10_reads_66 : decode cX10_reads 66 = .ok (.aload_n 0, 1) := by decide +kernel
theorem dX10_reads_67 : decode cX10_reads 67 = .ok (.iconst 0, 1) := by decide +kernel
theorem dX10_reads_68 : decode cX10_reads 68 = .ok (.putfield 145, 3) := by decide +kernel
theorem dX10_reads_71 : decode cX10_reads 71 = .ok (.return_, 1) := by decide +kernel
theorem dX10_reads_72 : decode cX10_reads 72 = .ok (.aload_n 0, 1) := by decide +kernel
theorem dX10_reads_73 : decode cX10_reads 73 = .ok (.aload_n 0, 1) := by decide +kernel
theorem dX10_reads_74 : decode cX10_reads 74 = .ok (.getfield 135, 3) := by decide +kernel
theorem dX10_reads_77 : decode cX10_reads 77 = .ok (.iconst 1, 1) := by decide +kernel
theorem dX10_reads_78 : decode cX10_reads 78 = .ok (.iadd, 1) := by decide +kernel
theorem dX10_reads_79 : decode cX10_reads 79 = .ok (.putfield 135, 3) := by decide +kernel
theorem dX10_reads_82 : decode cX10_reads 82 = .ok (.aload_n 0, 1) := by decide +kernel
theorem dX10_reads_83 : decode cX10_reads 83 = .ok (.iload_n 1, 1) := by decide +kernel
theorem dX10_reads_84 : decode cX10_reads 84 = .ok (.putfield 148, 3) := by decide +kernel
theorem dX10_reads_87 : decode cX10_reads 87 = .ok (.aload_n 0, 1) := by decide +kernel
theorem dX10_reads_88 : decode cX10_reads 88 = .ok (.iload_n 1, 1) := by decide +kernel
theorem dX10_reads_89 : decode cX10_reads 89 = .ok (.invokevirtual 151, 3) := by decide +kernel
theorem dX10_reads_92 : decode cX10_reads 92 = .ok (.ifCond .eq 63, 3) := by decide +kernel
theorem dX10_reads_95 : decode cX10_reads 95 = .ok (.aload_n 0, 1) := by decide +kernel
theorem dX10_reads_96 : decode cX10_reads 96 = .ok (.aload_n 0, 1) := by decide +kernel
theorem dX10_reads_97 : decode cX10_reads 97 = .ok (.aload_n 0, 1) := by decide +kernel
theorem dX10_reads_98 : decode cX10_reads 98 = .ok (.getfield 135, 3) := by decide +kernel
theorem dX10_reads_101 : decode cX10_reads 101 = .ok (.invokevirtual 138, 3) := by decide +kernel
theorem dX10_reads_104 : decode cX10_reads 104 = .ok (.invokevirtual 151, 3) := by decide +kernel
theorem dX10_reads_107 : decode cX10_reads 107 = .ok (.ifCond .eq 16, 3) := by decide +kernel
theorem dX10_reads_110 : decode cX10_reads 110 = .ok (.aload_n 0, 1) := by decide +kernel
theorem dX10_reads_111 : decode cX10_reads 111 = .ok (.aload_n 0, 1) := by decide +kernel
theorem dX10_reads_112 : decode cX10_reads 112 = .ok (.getfield 135, 3) := by decide +kernel
theorem dX10_reads_115 : decode cX10_reads 115 = .ok (.iconst 1, 1) := by decide +kernel
theorem dX10_reads_116 : decode cX10_reads 116 = .ok (.iadd, 1) := by decide +kernel
theorem dX10_reads_117 : decode cX10_reads 117 = .ok (.putfield 135, 3) := by decide +kernel
theorem dX10_reads_120 : decode cX10_reads 120 = .ok (.goto (-25), 3) := by decide +kernel
theorem dX10_reads_123 : decode cX10_reads 123 = .ok (.aload_n 0, 1) := by decide +kernel
theorem dX10_reads_124 : decode cX10_reads 124 = .ok (.aload_n 0, 1) := by decide +kernel
theorem dX10_reads_125 : decode cX10_reads 125 = .ok (.aload_n 0, 1) := by decide +kernel
theorem dX10_reads_126 : decode cX10_reads 126 = .ok (.getfield 142, 3) := by decide +kernel
theorem dX10_reads_129 : decode cX10_reads 129 = .ok (.aload_n 0, 1) := by decide +kernel
theorem dX10_reads_130 : decode cX10_reads 130 = .ok (.getfield 135, 3) := by decide +kernel
theorem dX10_reads_133 : decode cX10_reads 133 = .ok (.invokevirtual 154, 3) := by decide +kernel
theorem dX10_reads_136 : decode cX10_reads 136 = .ok (.putfield 148, 3) := by decide +kernel
theorem dX10_reads_139 : decode cX10_reads 139 = .ok (.aload_n 0, 1) := by decide +kernel
theorem dX10_reads_140 : decode cX10_reads 140 = .ok (.getfield 148, 3) := by decide +kernel
theorem dX10_reads_143 : decode cX10_reads 143 = .ok (.iconst (-1), 1) := by decide +kernel
theorem dX10_reads_144 : decode cX10_reads 144 = .ok (.if_icmp .eq 129, 3) := by decide +kernel
theorem dX10_reads_147 : decode cX10_reads 147 = .ok (.aload_n 0, 1) := by decide +kernel
theorem dX10_reads_148 : decode cX10_reads 148 = .ok (.iconst 2, 1) := by decide +kernel
theorem dX10_reads_149 : decode cX10_reads 149 = .ok (.putfield 145, 3) := by decide +kernel
theorem dX10_reads_152 : decode cX10_reads 152 = .ok (.goto 121, 3) := by decide +kernel
theorem dX10_reads_155 : decode cX10_reads 155 = .ok (.aload_n 0, 1) := by decide +kernel
theorem dX10_reads_156 : decode cX10_reads 156 = .ok (.iload_n 1, 1) := by decide +kernel
theorem dX10_reads_157 : decode cX10_reads 157 = .ok (.invokevirtual 158, 3) := by decide +kernel
theorem dX10_reads_160 : decode cX10_reads 160 = .ok (.ifCond .eq 100, 3) := by decide +kernel
theorem dX10_reads_163 : decode cX10_reads 163 = .ok (.aload_n 0, 1) := by decide +kernel
theorem dX10_reads_164 : decode cX10_reads 164 = .ok (.iload_n 1, 1) := by decide +kernel
theorem dX10_reads_165 : decode cX10_reads 165 = .ok (.bipush 48, 2) := by decide +kernel
theorem dX10_reads_167 : decode cX10_reads 167 = .ok (.isub, 1) := by decide +kernel
theorem dX10_reads_168 : decode cX10_reads 168 = .ok (.putfield 148, 3) := by decide +kernel
theorem dX10_reads_171 : decode cX10_reads 171 = .ok (.aload_n 0, 1) := by decide +kernel
theorem dX10_reads_172 : decode cX10_reads 172 = .ok (.aload_n 0, 1) := by decide +kernel
theorem dX10_reads_173 : decode cX10_reads 173 = .ok (.aload_n 0, 1) := by decide +kernel
theorem dX10_reads_174 : decode cX10_reads 174 = .ok (.getfield 135, 3) := by decide +kernel
theorem dX10_reads_177 : decode cX10_reads 177 = .ok (.invokevirtual 138, 3) := by decide +kernel
theorem dX10_reads_180 : decode cX10_reads 180 = .ok (.invokevirtual 158, 3) := by decide +kernel
theorem dX10_reads_183 : decode cX10_reads 183 = .ok (.ifCond .eq 56, 3) := by decide +kernel
theorem dX10_reads_186 : decode cX10_reads 186 = .ok (.aload_n 0, 1) := by decide +kernel
theorem dX10_reads_187 : decode cX10_reads 187 = .ok (.aload_n 0, 1) := by decide +kernel
theorem dX10_reads_188 : decode cX10_reads 188 = .ok (.getfield 148, 3) := by decide +kernel
theorem dX10_reads_191 : decode cX10_reads 191 = .ok (.sipush 10000, 3) := by decide +kernel
theorem dX10_reads_194 : decode cX10_reads 194 = .ok (.if_icmp .ge 25, 3) := by decide +kernel
theorem dX10_reads_197 : decode cX10_reads 197 = .ok (.bipush 10, 2) := by decide +kernel
theorem dX10_reads_199 : decode cX10_reads 199 = .ok (.aload_n 0, 1) := by decide +kernel
theorem dX10_reads_200 : decode cX10_reads 200 = .ok (.getfield 148, 3) := by decide +kernel
theorem dX10_reads_203 : decode cX10_reads 203 = .ok (.imul, 1) := by decide +kernel
theorem dX10_reads_204 : decode cX10_reads 204 = .ok (.aload_n 0, 1) := by decide +kernel
theorem dX10_reads_205 : decode cX10_reads 205 = .ok (.aload_n 0, 1) := by decide +kernel
theorem dX10_reads_206 : decode cX10_reads 206 = .ok (.getfield 135, 3) := by decide +kernel
theorem dX10_reads_209 : decode cX10_reads 209 = .ok (.invokevirtual 138, 3) := by decide +kernel
theorem dX10_reads_212 : decode cX10_reads 212 = .ok (.iadd, 1) := by decide +kernel
theorem dX10_reads_213 : decode cX10_reads 213 = .ok (.bipush 48, 2) := by decide +kernel
theorem dX10_reads_215 : decode cX10_reads 215 = .ok (.isub, 1) := by decide +kernel
theorem dX10_reads_216 : decode cX10_reads 216 = .ok (.goto 7, 3) := by decide +kernel
theorem dX10_reads_219 : decode cX10_reads 219 = .ok (.aload_n 0, 1) := by decide +kernel
theorem dX10_reads_220 : decode cX10_reads 220 = .ok (.getfield 148, 3) := by decide +kernel
theorem dX10_reads_223 : decode cX10_reads 223 = .ok (.putfield 148, 3) := by decide +kernel
theorem dX10_reads_226 : decode cX10_reads 226 = .ok (.aload_n 0, 1) := by decide +kernel
theorem dX10_reads_227 : decode cX10_reads 227 = .ok (.aload_n 0, 1) := by decide +kernel
theorem dX10_reads_228 : decode cX10_reads 228 = .ok (.getfield 135, 3) := by decide +kernel
theorem dX10_reads_231 : decode cX10_reads 231 = .ok (.iconst 1, 1) := by decide +kernel
theorem dX10_reads_232 : decode cX10_reads 232 = .ok (.iadd, 1) := by decide +kernel
theorem dX10_reads_233 : decode cX10_reads 233 = .ok (.putfield 135, 3) := by decide +kernel
theorem dX10_reads_236 : decode cX10_reads 236 = .ok (.goto (-65), 3) := by decide +kernel
theorem dX10_reads_239 : decode cX10_reads 239 = .ok (.aload_n 0, 1) := by decide +kernel
theorem dX10_reads_240 : decode cX10_reads 240 = .ok (.getfield 135, 3) := by decide +kernel
theorem dX10_reads_243 : decode cX10_reads 243 = .ok (.aload_n 0, 1) := by decide +kernel
theorem dX10_reads_244 : decode cX10_reads 244 = .ok (.getfield 142, 3) := by decide +kernel
theorem dX10_reads_247 : decode cX10_reads 247 = .ok (.isub, 1) := by decide +kernel
theorem dX10_reads_248 : decode cX10_reads 248 = .ok (.iconst 5, 1) := by decide +kernel
theorem dX10_reads_249 : decode cX10_reads 249 = .ok (.if_icmp .ge 24, 3) := by decide +kernel
theorem dX10_reads_252 : decode cX10_reads 252 = .ok (.aload_n 0, 1) := by decide +kernel
theorem dX10_reads_253 : decode cX10_reads 253 = .ok (.iconst 3, 1) := by decide +kernel
theorem dX10_reads_254 : decode cX10_reads 254 = .ok (.putfield 145, 3) := by decide +kernel
theorem dX10_reads_257 : decode cX10_reads 257 = .ok (.goto 16, 3) := by decide +kernel
theorem dX10_reads_260 : decode cX10_reads 260 = .ok (.aload_n 0, 1) := by decide +kernel
theorem dX10_reads_261 : decode cX10_reads 261 = .ok (.iload_n 1, 1) := by decide +kernel
theorem dX10_reads_262 : decode cX10_reads 262 = .ok (.invokevirtual 161, 3) := by decide +kernel
theorem dX10_reads_265 : decode cX10_reads 265 = .ok (.ifCond .eq 8, 3) := by decide +kernel
theorem dX10_reads_268 : decode cX10_reads 268 = .ok (.aload_n 0, 1) := by decide +kernel
theorem dX10_reads_269 : decode cX10_reads 269 = .ok (.iconst 4, 1) := by decide +kernel
theorem dX10_reads_270 : decode cX10_reads 270 = .ok (.putfield 145, 3) := by decide +kernel
theorem dX10_reads_273 : decode cX10_reads 273 = .ok (.return_, 1) := by decide +kernel
theorem dX10_errs_0 : decode cX10_errs 0 = .ok (.aload_n 0, 1) := by decide +kernel
theorem dX10_errs_1 : decode cX10_errs 1 = .ok (.iload_n 1, 1) := by decide +kernel
theorem dX10_errs_2 : decode cX10_errs 2 = .ok (.putfield 164, 3) := by decide +kernel
theorem dX10_errs_5 : decode cX10_errs 5 = .ok (.aload_n 0, 1) := by decide +kernel
theorem dX10_errs_6 : decode cX10_errs 6 = .ok (.aload_n 0, 1) := by decide +kernel
theorem dX10_errs_7 : decode cX10_errs 7 = .ok (.getfield 142, 3) := by decide +kernel
theorem dX10_errs_10 : decode cX10_errs 10 = .ok (.putfield 167, 3) := by decide +kernel
theorem dX10_errs_13 : decode cX10_errs 13 = .ok (.iconst (-1), 1) := by decide +kernel
theorem dX10_errs_14 : decode cX10_errs 14 = .ok (.ireturn, 1) := by decide +kernel
theorem dX10_isWord_0 : decode cX10_isWord 0 = .ok (.aload_n 0, 1) := by decide +kernel
theorem dX10_isWord_1 : decode cX10_isWord 1 = .ok (.getfield 145, 3) := by decide +kernel
theorem dX10_isWord_4 : decode cX10_isWord 4 = .ok (.iconst 2, 1) := by decide +kernel
theorem dX10_isWord_5 : decode cX10_isWord 5 = .ok (.if_icmp .ne 15, 3) := by decide +kernel
theorem dX10_isWord_8 : decode cX10_isWord 8 = .ok (.aload_n 0, 1) := by decide +kernel
theorem dX10_isWord_9 : decode cX10_isWord 9 = .ok (.getfield 148, 3) := by decide +kernel
theorem dX10_isWord_12 : decode cX10_isWord 12 = .ok (.iload_n 1, 1) := by decide +kernel
theorem dX10_isWord_13 : decode cX10_isWord 13 = .ok (.if_icmp .ne 7, 3) := by decide +kernel
theorem dX10_isWord_16 : decode cX10_isWord 16 = .ok (.iconst 1, 1) := by decide +kernel
theorem dX10_isWord_17 : decode cX10_isWord 17 = .ok (.goto 4, 3) := by decide +kernel
theorem dX10_isWord_20 : decode cX10_isWord 20 = .ok (.iconst 0, 1) := by decide +kernel
theorem dX10_isWord_21 : decode cX10_isWord 21 = .ok (.ireturn, 1) := by decide +kernel
theorem dX10_isSign_0 : decode cX10_isSign 0 = .ok (.aload_n 0, 1) := by decide +kernel
theorem dX10_isSign_1 : decode cX10_isSign 1 = .ok (.getfield 145, 3) := by decide +kernel
theorem dX10_isSign_4 : decode cX10_isSign 4 = .ok (.iconst 4, 1) := by decide +kernel
theorem dX10_isSign_5 : decode cX10_isSign 5 = .ok (.if_icmp .ne 15, 3) := by decide +kernel
theorem dX10_isSign_8 : decode cX10_isSign 8 = .ok (.aload_n 0, 1) := by decide +kernel
theorem dX10_isSign_9 : decode cX10_isSign 9 = .ok (.getfield 148, 3) := by decide +kernel
theorem dX10_isSign_12 : decode cX10_isSign 12 = .ok (.iload_n 1, 1) := by decide +kernel
theorem dX10_isSign_13 : decode cX10_isSign 13 = .ok (.if_icmp .ne 7, 3) := by decide +kernel
theorem dX10_isSign_16 : decode cX10_isSign 16 = .ok (.iconst 1, 1) := by decide +kernel
theorem dX10_isSign_17 : decode cX10_isSign 17 = .ok (.goto 4, 3) := by decide +kernel
theorem dX10_isSign_20 : decode cX10_isSign 20 = .ok (.iconst 0, 1) := by decide +kernel
theorem dX10_isSign_21 : decode cX10_isSign 21 = .ok (.ireturn, 1) := by decide +kernel
theorem dX10_emits_0 : decode cX10_emits 0 = .ok (.aload_n 0, 1) := by decide +kernel
theorem dX10_emits_1 : decode cX10_emits 1 = .ok (.getfield 62, 3) := by decide +kernel
theorem dX10_emits_4 : decode cX10_emits 4 = .ok (.sipush 400, 3) := by decide +kernel
theorem dX10_emits_7 : decode cX10_emits 7 = .ok (.aload_n 0, 1) := by decide +kernel
theorem dX10_emits_8 : decode cX10_emits 8 = .ok (.getfield 170, 3) := by decide +kernel
theorem dX10_emits_11 : decode cX10_emits 11 = .ok (.iadd, 1) := by decide +kernel
theorem dX10_emits_12 : decode cX10_emits 12 = .ok (.iload_n 1, 1) := by decide +kernel
theorem dX10_emits_13 : decode cX10_emits 13 = .ok (.iastore, 1) := by decide +kernel
theorem dX10_emits_14 : decode cX10_emits 14 = .ok (.aload_n 0, 1) := by decide +kernel
theorem dX10_emits_15 : decode cX10_emits 15 = .ok (.getfield 65, 3) := by decide +kernel
theorem dX10_emits_18 : decode cX10_emits 18 = .ok (.sipush 400, 3) := by decide +kernel
theorem dX10_emits_21 : decode cX10_emits 21 = .ok (.aload_n 0, 1) := by decide +kernel
theorem dX10_emits_22 : decode cX10_emits 22 = .ok (.getfield 170, 3) := by decide +kernel
theorem dX10_emits_25 : decode cX10_emits 25 = .ok (.iadd, 1) := by decide +kernel
theorem dX10_emits_26 : decode cX10_emits 26 = .ok (.iload_n 2, 1) := by decide +kernel
theorem dX10_emits_27 : decode cX10_emits 27 = .ok (.iastore, 1) := by decide +kernel
theorem dX10_emits_28 : decode cX10_emits 28 = .ok (.aload_n 0, 1) := by decide +kernel
theorem dX10_emits_29 : decode cX10_emits 29 = .ok (.aload_n 0, 1) := by decide +kernel
theorem dX10_emits_30 : decode cX10_emits 30 = .ok (.getfield 170, 3) := by decide +kernel
theorem dX10_emits_33 : decode cX10_emits 33 = .ok (.iconst 1, 1) := by decide +kernel
theorem dX10_emits_34 : decode cX10_emits 34 = .ok (.iadd, 1) := by decide +kernel
theorem dX10_emits_35 : decode cX10_emits 35 = .ok (.putfield 170, 3) := by decide +kernel
theorem dX10_emits_38 : decode cX10_emits 38 = .ok (.return_, 1) := by decide +kernel
theorem dX10_readUnit_0 : decode cX10_readUnit 0 = .ok (.aload_n 0, 1) := by decide +kernel
theorem dX10_readUnit_1 : decode cX10_readUnit 1 = .ok (.getfield 145, 3) := by decide +kernel
theorem dX10_readUnit_4 : decode cX10_readUnit 4 = .ok (.iconst 2, 1) := by decide +kernel
theorem dX10_readUnit_5 : decode cX10_readUnit 5 = .ok (.if_icmp .ne 16, 3) := by decide +kernel
theorem dX10_readUnit_8 : decode cX10_readUnit 8 = .ok (.aload_n 0, 1) := by decide +kernel
theorem dX10_readUnit_9 : decode cX10_readUnit 9 = .ok (.getfield 148, 3) := by decide +kernel
theorem dX10_readUnit_12 : decode cX10_readUnit 12 = .ok (.bipush 6, 2) := by decide +kernel
theorem dX10_readUnit_14 : decode cX10_readUnit 14 = .ok (.if_icmp .lt 7, 3) := by decide +kernel
theorem dX10_readUnit_17 : decode cX10_readUnit 17 = .ok (.iconst 1, 1) := by decide +kernel
theorem dX10_readUnit_18 : decode cX10_readUnit 18 = .ok (.goto 4, 3) := by decide +kernel
theorem dX10_readUnit_21 : decode cX10_readUnit 21 = .ok (.iconst 0, 1) := by decide +kernel
theorem dX10_readUnit_22 : decode cX10_readUnit 22 = .ok (.istore_n 1, 1) := by decide +kernel
theorem dX10_readUnit_23 : decode cX10_readUnit 23 = .ok (.iload_n 1, 1) := by decide +kernel
theorem dX10_readUnit_24 : decode cX10_readUnit 24 = .ok (.ifCond .ne 17, 3) := by decide +kernel
theorem dX10_readUnit_27 : decode cX10_readUnit 27 = .ok (.aload_n 0, 1) := by decide +kernel
theorem dX10_readUnit_28 : decode cX10_readUnit 28 = .ok (.getfield 145, 3) := by decide +kernel
theorem dX10_readUnit_31 : decode cX10_readUnit 31 = .ok (.iconst 3, 1) := by decide +kernel
theorem dX10_readUnit_32 : decode cX10_readUnit 32 = .ok (.if_icmp .eq 9, 3) := by decide +kernel
theorem dX10_readUnit_35 : decode cX10_readUnit 35 = .ok (.aload_n 0, 1) := by decide +kernel
theorem dX10_readUnit_36 : decode cX10_readUnit 36 = .ok (.iconst 1, 1) := by decide +kernel
theorem dX10_readUnit_37 : decode cX10_readUnit 37 = .ok (.invokevirtual 173, 3) := by decide +kernel
theorem dX10_readUnit_40 : decode cX10_readUnit 40 = .ok (.ireturn, 1) := by decide +kernel
theorem dX10_readUnit_41 : decode cX10_readUnit 41 = .ok (.aload_n 0, 1) := by decide +kernel
theorem dX10_readUnit_42 : decode cX10_readUnit 42 = .ok (.iload_n 1, 1) := by decide +kernel
theorem dX10_readUnit_43 : decode cX10_readUnit 43 = .ok (.ifCond .eq 7, 3) := by decide +kernel
theorem dX10_readUnit_46 : decode cX10_readUnit 46 = .ok (.iconst 1, 1) := by decide +kernel
theorem dX10_readUnit_47 : decode cX10_readUnit 47 = .ok (.goto 4, 3) := by decide +kernel
theorem dX10_readUnit_50 : decode cX10_readUnit 50 = .ok (.iconst 0, 1) := by decide +kernel
theorem dX10_readUnit_51 : decode cX10_readUnit 51 = .ok (.iload_n 1, 1) := by decide +kernel
theorem dX10_readUnit_52 : decode cX10_readUnit 52 = .ok (.ifCond .eq 13, 3) := by decide +kernel
theorem dX10_readUnit_55 : decode cX10_readUnit 55 = .ok (.aload_n 0, 1) := by decide +kernel
theorem dX10_readUnit_56 : decode cX10_readUnit 56 = .ok (.getfield 148, 3) := by decide +kernel
theorem dX10_readUnit_59 : decode cX10_readUnit 59 = .ok (.bipush 6, 2) := by decide +kernel
theorem dX10_readUnit_61 : decode cX10_readUnit 61 = .ok (.isub, 1) := by decide +kernel
theorem dX10_readUnit_62 : decode cX10_readUnit 62 = .ok (.goto 7, 3) := by decide +kernel
theorem dX10_readUnit_65 : decode cX10_readUnit 65 = .ok (.aload_n 0, 1) := by decide +kernel
theorem dX10_readUnit_66 : decode cX10_readUnit 66 = .ok (.getfield 148, 3) := by decide +kernel
theorem dX10_readUnit_69 : decode cX10_readUnit 69 = .ok (.invokevirtual 176, 3) := by decide +kernel
theorem dX10_readUnit_72 : decode cX10_readUnit 72 = .ok (.aload_n 0, 1) := by decide +kernel
theorem dX10_readUnit_73 : decode cX10_readUnit 73 = .ok (.invokevirtual 180, 3) := by decide +kernel
theorem dX10_readUnit_76 : decode cX10_readUnit 76 = .ok (.iconst 0, 1) := by decide +kernel
theorem dX10_readUnit_77 : decode cX10_readUnit 77 = .ok (.ireturn, 1) := by decide +kernel
theorem dX10_readProduct_0 : decode cX10_readProduct 0 = .ok (.aload_n 0, 1) := by decide +kernel
theorem dX10_readProduct_1 : decode cX10_readProduct 1 = .ok (.invokevirtual 183, 3) := by decide +kernel
theorem dX10_readProduct_4 : decode cX10_readProduct 4 = .ok (.iconst (-1), 1) := by decide +kernel
theorem dX10_readProduct_5 : decode cX10_readProduct 5 = .ok (.if_icmp .ne 5, 3) := by decide +kernel
theorem dX10_readProduct_8 : decode cX10_readProduct 8 = .ok (.iconst (-1), 1) := by decide +kernel
theorem dX10_readProduct_9 : decode cX10_readProduct 9 = .ok (.ireturn, 1) := by decide +kernel
theorem dX10_readProduct_10 : decode cX10_readProduct 10 = .ok (.aload_n 0, 1) := by decide +kernel
theorem dX10_readProduct_11 : decode cX10_readProduct 11 = .ok (.bipush 42, 2) := by decide +kernel
theorem dX10_readProduct_13 : decode cX10_readProduct 13 = .ok (.invokevirtual 187, 3) := by decide +kernel
theorem dX10_readProduct_16 : decode cX10_readProduct 16 = .ok (.ifCond .ne 12, 3) := by decide +kernel
theorem dX10_readProduct_19 : decode cX10_readProduct 19 = .ok (.aload_n 0, 1) := by decide +kernel
theorem dX10_readProduct_20 : decode cX10_readProduct 20 = .ok (.bipush 47, 2) := by decide +kernel
theorem dX10_readProduct_22 : decode cX10_readProduct 22 = .ok (.invokevirtual 187, 3) := by decide +kernel
theorem dX10_readProduct_25 : decode cX10_readProduct 25 = .ok (.ifCond .eq 76, 3) := by decide +kernel
theorem dX10_readProduct_28 : decode cX10_readProduct 28 = .ok (.aload_n 0, 1) := by decide +kernel
theorem dX10_readProduct_29 : decode cX10_readProduct 29 = .ok (.bipush 42, 2) := by decide +kernel
theorem dX10_readProduct_31 : decode cX10_readProduct 31 = .ok (.invokevirtual 187, 3) := by decide +kernel
theorem dX10_readProduct_34 : decode cX10_readProduct 34 = .ok (.istore_n 1, 1) := by decide +kernel
theorem dX10_readProduct_35 : decode cX10_readProduct 35 = .ok (.aload_n 0, 1) := by decide +kernel
theorem dX10_readProduct_36 : decode cX10_readProduct 36 = .ok (.invokevirtual 180, 3) := by decide +kernel
theorem dX10_readProduct_39 : decode cX10_readProduct 39 = .ok (.iload_n 1, 1) := by decide +kernel
theorem dX10_readProduct_40 : decode cX10_readProduct 40 = .ok (.ifCond .ne 17, 3) := by decide +kernel
theorem dX10_readProduct_43 : decode cX10_readProduct 43 = .ok (.aload_n 0, 1) := by decide +kernel
theorem dX10_readProduct_44 : decode cX10_readProduct 44 = .ok (.getfield 145, 3) := by decide +kernel
theorem dX10_readProduct_47 : decode cX10_readProduct 47 = .ok (.iconst 3, 1) := by decide +kernel
theorem dX10_readProduct_48 : decode cX10_readProduct 48 = .ok (.if_icmp .eq 9, 3) := by decide +kernel
theorem dX10_readProduct_51 : decode cX10_readProduct 51 = .ok (.aload_n 0, 1) := by decide +kernel
theorem dX10_readProduct_52 : decode cX10_readProduct 52 = .ok (.iconst 1, 1) := by decide +kernel
theorem dX10_readProduct_53 : decode cX10_readProduct 53 = .ok (.invokevirtual 173, 3) := by decide +kernel
theorem dX10_readProduct_56 : decode cX10_readProduct 56 = .ok (.ireturn, 1) := by decide +kernel
theorem dX10_readProduct_57 : decode cX10_readProduct 57 = .ok (.iload_n 1, 1) := by decide +kernel
theorem dX10_readProduct_58 : decode cX10_readProduct 58 = .ok (.ifCond .ne 16, 3) := by decide +kernel
theorem dX10_readProduct_61 : decode cX10_readProduct 61 = .ok (.aload_n 0, 1) := by decide +kernel
theorem dX10_readProduct_62 : decode cX10_readProduct 62 = .ok (.getfield 148, 3) := by decide +kernel
theorem dX10_readProduct_65 : decode cX10_readProduct 65 = .ok (.ifCond .ne 9, 3) := by decide +kernel
theorem dX10_readProduct_68 : decode cX10_readProduct 68 = .ok (.aload_n 0, 1) := by decide +kernel
theorem dX10_readProduct_69 : decode cX10_readProduct 69 = .ok (.iconst 2, 1) := by decide +kernel
theorem dX10_readProduct_70 : decode cX10_readProduct 70 = .ok (.invokevirtual 173, 3) := by decide +kernel
theorem dX10_readProduct_73 : decode cX10_readProduct 73 = .ok (.ireturn, 1) := by decide +kernel
theorem dX10_readProduct_74 : decode cX10_readProduct 74 = .ok (.aload_n 0, 1) := by decide +kernel
theorem dX10_readProduct_75 : decode cX10_readProduct 75 = .ok (.invokevirtual 183, 3) := by decide +kernel
theorem dX10_readProduct_78 : decode cX10_readProduct 78 = .ok (.iconst (-1), 1) := by decide +kernel
theorem dX10_readProduct_79 : decode cX10_readProduct 79 = .ok (.if_icmp .ne 5, 3) := by decide +kernel
theorem dX10_readProduct_82 : decode cX10_readProduct 82 = .ok (.iconst (-1), 1) := by decide +kernel
theorem dX10_readProduct_83 : decode cX10_readProduct 83 = .ok (.ireturn, 1) := by decide +kernel
theorem dX10_readProduct_84 : decode cX10_readProduct 84 = .ok (.aload_n 0, 1) := by decide +kernel
theorem dX10_readProduct_85 : decode cX10_readProduct 85 = .ok (.iload_n 1, 1) := by decide +kernel
theorem dX10_readProduct_86 : decode cX10_readProduct 86 = .ok (.ifCond .eq 7, 3) := by decide +kernel
theorem dX10_readProduct_89 : decode cX10_readProduct 89 = .ok (.iconst 4, 1) := by decide +kernel
theorem dX10_readProduct_90 : decode cX10_readProduct 90 = .ok (.goto 4, 3) := by decide +kernel
theorem dX10_readProduct_93 : decode cX10_readProduct 93 = .ok (.iconst 5, 1) := by decide +kernel
theorem dX10_readProduct_94 : decode cX10_readProduct 94 = .ok (.iconst 0, 1) := by decide +kernel
theorem dX10_readProduct_95 : decode cX10_readProduct 95 = .ok (.invokevirtual 176, 3) := by decide +kernel
theorem dX10_readProduct_98 : decode cX10_readProduct 98 = .ok (.goto (-88), 3) := by decide +kernel
theorem dX10_readProduct_101 : decode cX10_readProduct 101 = .ok (.iconst 0, 1) := by decide +kernel
theorem dX10_readProduct_102 : decode cX10_readProduct 102 = .ok (.ireturn, 1) := by decide +kernel
theorem dX10_readSum_0 : decode cX10_readSum 0 = .ok (.aload_n 0, 1) := by decide +kernel
theorem dX10_readSum_1 : decode cX10_readSum 1 = .ok (.invokevirtual 190, 3) := by decide +kernel
theorem dX10_readSum_4 : decode cX10_readSum 4 = .ok (.iconst (-1), 1) := by decide +kernel
theorem dX10_readSum_5 : decode cX10_readSum 5 = .ok (.if_icmp .ne 5, 3) := by decide +kernel
theorem dX10_readSum_8 : decode cX10_readSum 8 = .ok (.iconst (-1), 1) := by decide +kernel
theorem dX10_readSum_9 : decode cX10_readSum 9 = .ok (.ireturn, 1) := by decide +kernel
theorem dX10_readSum_10 : decode cX10_readSum 10 = .ok (.aload_n 0, 1) := by decide +kernel
theorem dX10_readSum_11 : decode cX10_readSum 11 = .ok (.bipush 43, 2) := by decide +kernel
theorem dX10_readSum_13 : decode cX10_readSum 13 = .ok (.invokevirtual 187, 3) := by decide +kernel
theorem dX10_readSum_16 : decode cX10_readSum 16 = .ok (.ifCond .ne 12, 3) := by decide +kernel
theorem dX10_readSum_19 : decode cX10_readSum 19 = .ok (.aload_n 0, 1) := by decide +kernel
theorem dX10_readSum_20 : decode cX10_readSum 20 = .ok (.bipush 45, 2) := by decide +kernel
theorem dX10_readSum_22 : decode cX10_readSum 22 = .ok (.invokevirtual 187, 3) := by decide +kernel
theorem dX10_readSum_25 : decode cX10_readSum 25 = .ok (.ifCond .eq 41, 3) := by decide +kernel
theorem dX10_readSum_28 : decode cX10_readSum 28 = .ok (.aload_n 0, 1) := by decide +kernel
theorem dX10_readSum_29 : decode cX10_readSum 29 = .ok (.getfield 148, 3) := by decide +kernel
theorem dX10_readSum_32 : decode cX10_readSum 32 = .ok (.bipush 43, 2) := by decide +kernel
theorem dX10_readSum_34 : decode cX10_readSum 34 = .ok (.if_icmp .ne 7, 3) := by decide +kernel
theorem dX10_readSum_37 : decode cX10_readSum 37 = .ok (.iconst 2, 1) := by decide +kernel
theorem dX10_readSum_38 : decode cX10_readSum 38 = .ok (.goto 4, 3) := by decide +kernel
theorem dX10_readSum_41 : decode cX10_readSum 41 = .ok (.iconst 3, 1) := by decide +kernel
theorem dX10_readSum_42 : decode cX10_readSum 42 = .ok (.istore_n 1, 1) := by decide +kernel
theorem dX10_readSum_43 : decode cX10_readSum 43 = .ok (.aload_n 0, 1) := by decide +kernel
theorem dX10_readSum_44 : decode cX10_readSum 44 = .ok (.invokevirtual 180, 3) := by decide +kernel
theorem dX10_readSum_47 : decode cX10_readSum 47 = .ok (.aload_n 0, 1) := by decide +kernel
theorem dX10_readSum_48 : decode cX10_readSum 48 = .ok (.invokevirtual 190, 3) := by decide +kernel
theorem dX10_readSum_51 : decode cX10_readSum 51 = .ok (.iconst (-1), 1) := by decide +kernel
theorem dX10_readSum_52 : decode cX10_readSum 52 = .ok (.if_icmp .ne 5, 3) := by decide +kernel
theorem dX10_readSum_55 : decode cX10_readSum 55 = .ok (.iconst (-1), 1) := by decide +kernel
theorem dX10_readSum_56 : decode cX10_readSum 56 = .ok (.ireturn, 1) := by decide +kernel
theorem dX10_readSum_57 : decode cX10_readSum 57 = .ok (.aload_n 0, 1) := by decide +kernel
theorem dX10_readSum_58 : decode cX10_readSum 58 = .ok (.iload_n 1, 1) := by decide +kernel
theorem dX10_readSum_59 : decode cX10_readSum 59 = .ok (.iconst 0, 1) := by decide +kernel
theorem dX10_readSum_60 : decode cX10_readSum 60 = .ok (.invokevirtual 176, 3) := by decide +kernel
theorem dX10_readSum_63 : decode cX10_readSum 63 = .ok (.goto (-53), 3) := by decide +kernel
theorem dX10_readSum_66 : decode cX10_readSum 66 = .ok (.iconst 0, 1) := by decide +kernel
theorem dX10_readSum_67 : decode cX10_readSum 67 = .ok (.ireturn, 1) := by decide +kernel
theorem dX10_readCompared_0 : decode cX10_readCompared 0 = .ok (.aload_n 0, 1) := by decide +kernel
theorem dX10_readCompared_1 : decode cX10_readCompared 1 = .ok (.invokevirtual 193, 3) := by decide +kernel
theorem dX10_readCompared_4 : decode cX10_readCompared 4 = .ok (.iconst (-1), 1) := by decide +kernel
theorem dX10_readCompared_5 : decode cX10_readCompared 5 = .ok (.if_icmp .ne 5, 3) := by decide +kernel
theorem dX10_readCompared_8 : decode cX10_readCompared 8 = .ok (.iconst (-1), 1) := by decide +kernel
theorem dX10_readCompared_9 : decode cX10_readCompared 9 = .ok (.ireturn, 1) := by decide +kernel
theorem dX10_readCompared_10 : decode cX10_readCompared 10 = .ok (.aload_n 0, 1) := by decide +kernel
theorem dX10_readCompared_11 : decode cX10_readCompared 11 = .ok (.bipush 60, 2) := by decide +kernel
theorem dX10_readCompared_13 : decode cX10_readCompared 13 = .ok (.invokevirtual 187, 3) := by decide +kernel
theorem dX10_readCompared_16 : decode cX10_readCompared 16 = .ok (.ifCond .ne 27, 3) := by decide +kernel
theorem dX10_readCompared_19 : decode cX10_readCompared 19 = .ok (.aload_n 0, 1) := by decide +kernel
theorem dX10_readCompared_20 : decode cX10_readCompared 20 = .ok (.bipush 61, 2) := by decide +kernel
theorem dX10_readCompared_22 : decode cX10_readCompared 22 = .ok (.invokevirtual 187, 3) := by decide +kernel
theorem dX10_readCompared_25 : decode cX10_readCompared 25 = .ok (.ifCond .ne 18, 3) := by decide +kernel
theorem dX10_readCompared_28 : decode cX10_readCompared 28 = .ok (.aload_n 0, 1) := by decide +kernel
theorem dX10_readCompared_29 : decode cX10_readCompared 29 = .ok (.bipush 62, 2) := by decide +kernel
theorem dX10_readCompared_31 : decode cX10_readCompared 31 = .ok (.invokevirtual 187, 3) := by decide +kernel
theorem dX10_readCompared_34 : decode cX10_readCompared 34 = .ok (.ifCond .ne 9, 3) := by decide +kernel
theorem dX10_readCompared_37 : decode cX10_readCompared 37 = .ok (.aload_n 0, 1) := by decide +kernel
theorem dX10_readCompared_38 : decode cX10_readCompared 38 = .ok (.iconst 1, 1) := by decide +kernel
theorem dX10_readCompared_39 : decode cX10_readCompared 39 = .ok (.invokevirtual 173, 3) := by decide +kernel
theorem dX10_readCompared_42 : decode cX10_readCompared 42 = .ok (.ireturn, 1) := by decide +kernel
theorem dX10_readCompared_43 : decode cX10_readCompared 43 = .ok (.aload_n 0, 1) := by decide +kernel
theorem dX10_readCompared_44 : decode cX10_readCompared 44 = .ok (.getfield 148, 3) := by decide +kernel
theorem dX10_readCompared_47 : decode cX10_readCompared 47 = .ok (.bipush 60, 2) := by decide +kernel
theorem dX10_readCompared_49 : decode cX10_readCompared 49 = .ok (.if_icmp .ne 8, 3) := by decide +kernel
theorem dX10_readCompared_52 : decode cX10_readCompared 52 = .ok (.bipush 6, 2) := by decide +kernel
theorem dX10_readCompared_54 : decode cX10_readCompared 54 = .ok (.goto 19, 3) := by decide +kernel
theorem dX10_readCompared_57 : decode cX10_readCompared 57 = .ok (.aload_n 0, 1) := by decide +kernel
theorem dX10_readCompared_58 : decode cX10_readCompared 58 = .ok (.getfield 148, 3) := by decide +kernel
theorem dX10_readCompared_61 : decode cX10_readCompared 61 = .ok (.bipush 61, 2) := by decide +kernel
theorem dX10_readCompared_63 : decode cX10_readCompared 63 = .ok (.if_icmp .ne 8, 3) := by decide +kernel
theorem dX10_readCompared_66 : decode cX10_readCompared 66 = .ok (.bipush 7, 2) := by decide +kernel
theorem dX10_readCompared_68 : decode cX10_readCompared 68 = .ok (.goto 5, 3) := by decide +kernel
theorem dX10_readCompared_71 : decode cX10_readCompared 71 = .ok (.bipush 8, 2) := by decide +kernel
theorem dX10_readCompared_73 : decode cX10_readCompared 73 = .ok (.istore_n 1, 1) := by decide +kernel
theorem dX10_readCompared_74 : decode cX10_readCompared 74 = .ok (.aload_n 0, 1) := by decide +kernel
theorem dX10_readCompared_75 : decode cX10_readCompared 75 = .ok (.invokevirtual 180, 3) := by decide +kernel
theorem dX10_readCompared_78 : decode cX10_readCompared 78 = .ok (.aload_n 0, 1) := by decide +kernel
theorem dX10_readCompared_79 : decode cX10_readCompared 79 = .ok (.invokevirtual 193, 3) := by decide +kernel
theorem dX10_readCompared_82 : decode cX10_readCompared 82 = .ok (.iconst (-1), 1) := by decide +kernel
theorem dX10_readCompared_83 : decode cX10_readCompared 83 = .ok (.if_icmp .ne 5, 3) := by decide +kernel
theorem dX10_readCompared_86 : decode cX10_readCompared 86 = .ok (.iconst (-1), 1) := by decide +kernel
theorem dX10_readCompared_87 : decode cX10_readCompared 87 = .ok (.ireturn, 1) := by decide +kernel
theorem dX10_readCompared_88 : decode cX10_readCompared 88 = .ok (.aload_n 0, 1) := by decide +kernel
theorem dX10_readCompared_89 : decode cX10_readCompared 89 = .ok (.iload_n 1, 1) := by decide +kernel
theorem dX10_readCompared_90 : decode cX10_readCompared 90 = .ok (.iconst 0, 1) := by decide +kernel
theorem dX10_readCompared_91 : decode cX10_readCompared 91 = .ok (.invokevirtual 176, 3) := by decide +kernel
theorem dX10_readCompared_94 : decode cX10_readCompared 94 = .ok (.iconst 0, 1) := by decide +kernel
theorem dX10_readCompared_95 : decode cX10_readCompared 95 = .ok (.ireturn, 1) := by decide +kernel
theorem dX10_waits_0 : decode cX10_waits 0 = .ok (.aload_n 0, 1) := by decide +kernel
theorem dX10_waits_1 : decode cX10_waits 1 = .ok (.getfield 68, 3) := by decide +kernel
theorem dX10_waits_4 : decode cX10_waits 4 = .ok (.aload_n 0, 1) := by decide +kernel
theorem dX10_waits_5 : decode cX10_waits 5 = .ok (.getfield 196, 3) := by decide +kernel
theorem dX10_waits_8 : decode cX10_waits 8 = .ok (.iload_n 1, 1) := by decide +kernel
theorem dX10_waits_9 : decode cX10_waits 9 = .ok (.iastore, 1) := by decide +kernel
theorem dX10_waits_10 : decode cX10_waits 10 = .ok (.aload_n 0, 1) := by decide +kernel
theorem dX10_waits_11 : decode cX10_waits 11 = .ok (.aload_n 0, 1) := by decide +kernel
theorem dX10_waits_12 : decode cX10_waits 12 = .ok (.getfield 196, 3) := by decide +kernel
theorem dX10_waits_15 : decode cX10_waits 15 = .ok (.iconst 1, 1) := by decide +kernel
theorem dX10_waits_16 : decode cX10_waits 16 = .ok (.iadd, 1) := by decide +kernel
theorem dX10_waits_17 : decode cX10_waits 17 = .ok (.putfield 196, 3) := by decide +kernel
theorem dX10_waits_20 : decode cX10_waits 20 = .ok (.return_, 1) := by decide +kernel
theorem dX10_settles_0 : decode cX10_settles 0 = .ok (.aload_n 0, 1) := by decide +kernel
theorem dX10_settles_1 : decode cX10_settles 1 = .ok (.getfield 196, 3) := by decide +kernel
theorem dX10_settles_4 : decode cX10_settles 4 = .ok (.ifCond .le 53, 3) := by decide +kernel
theorem dX10_settles_7 : decode cX10_settles 7 = .ok (.aload_n 0, 1) := by decide +kernel
theorem dX10_settles_8 : decode cX10_settles 8 = .ok (.getfield 68, 3) := by decide +kernel
theorem dX10_settles_11 : decode cX10_settles 11 = .ok (.aload_n 0, 1) := by decide +kernel
theorem dX10_settles_12 : decode cX10_settles 12 = .ok (.getfield 196, 3) := by decide +kernel
theorem dX10_settles_15 : decode cX10_settles 15 = .ok (.iconst 1, 1) := by decide +kernel
theorem dX10_settles_16 : decode cX10_settles 16 = .ok (.isub, 1) := by decide +kernel
theorem dX10_settles_17 : decode cX10_settles 17 = .ok (.iaload, 1) := by decide +kernel
theorem dX10_settles_18 : decode cX10_settles 18 = .ok (.iload_n 1, 1) := by decide +kernel
theorem dX10_settles_19 : decode cX10_settles 19 = .ok (.if_icmp .ne 38, 3) := by decide +kernel
theorem dX10_settles_22 : decode cX10_settles 22 = .ok (.aload_n 0, 1) := by decide +kernel
theorem dX10_settles_23 : decode cX10_settles 23 = .ok (.aload_n 0, 1) := by decide +kernel
theorem dX10_settles_24 : decode cX10_settles 24 = .ok (.getfield 196, 3) := by decide +kernel
theorem dX10_settles_27 : decode cX10_settles 27 = .ok (.iconst 1, 1) := by decide +kernel
theorem dX10_settles_28 : decode cX10_settles 28 = .ok (.isub, 1) := by decide +kernel
theorem dX10_settles_29 : decode cX10_settles 29 = .ok (.putfield 196, 3) := by decide +kernel
theorem dX10_settles_32 : decode cX10_settles 32 = .ok (.aload_n 0, 1) := by decide +kernel
theorem dX10_settles_33 : decode cX10_settles 33 = .ok (.iload_n 1, 1) := by decide +kernel
theorem dX10_settles_34 : decode cX10_settles 34 = .ok (.iconst 0, 1) := by decide +kernel
theorem dX10_settles_35 : decode cX10_settles 35 = .ok (.invokevirtual 176, 3) := by decide +kernel
theorem dX10_settles_38 : decode cX10_settles 38 = .ok (.iload_n 1, 1) := by decide +kernel
theorem dX10_settles_39 : decode cX10_settles 39 = .ok (.bipush 9, 2) := by decide +kernel
theorem dX10_settles_41 : decode cX10_settles 41 = .ok (.if_icmp .ne (-41), 3) := by decide +kernel
theorem dX10_settles_44 : decode cX10_settles 44 = .ok (.aload_n 0, 1) := by decide +kernel
theorem dX10_settles_45 : decode cX10_settles 45 = .ok (.aload_n 0, 1) := by decide +kernel
theorem dX10_settles_46 : decode cX10_settles 46 = .ok (.getfield 199, 3) := by decide +kernel
theorem dX10_settles_49 : decode cX10_settles 49 = .ok (.iconst 1, 1) := by decide +kernel
theorem dX10_settles_50 : decode cX10_settles 50 = .ok (.isub, 1) := by decide +kernel
theorem dX10_settles_51 : decode cX10_settles 51 = .ok (.putfield 199, 3) := by decide +kernel
theorem dX10_settles_54 : decode cX10_settles 54 = .ok (.goto (-54), 3) := by decide +kernel
theorem dX10_settles_57 : decode cX10_settles 57 = .ok (.return_, 1) := by decide +kernel
theorem dX10_readAny_0 : decode cX10_readAny 0 = .ok (.iconst 0, 1) := by decide +kernel
theorem dX10_readAny_1 : decode cX10_readAny 1 = .ok (.istore_n 1, 1) := by decide +kernel
theorem dX10_readAny_2 : decode cX10_readAny 2 = .ok (.aload_n 0, 1) := by decide +kernel
theorem dX10_readAny_3 : decode cX10_readAny 3 = .ok (.iconst 0, 1) := by decide +kernel
theorem dX10_readAny_4 : decode cX10_readAny 4 = .ok (.putfield 196, 3) := by decide +kernel
theorem dX10_readAny_7 : decode cX10_readAny 7 = .ok (.iconst 1, 1) := by decide +kernel
theorem dX10_readAny_8 : decode cX10_readAny 8 = .ok (.istore_n 2, 1) := by decide +kernel
theorem dX10_readAny_9 : decode cX10_readAny 9 = .ok (.iload_n 2, 1) := by decide +kernel
theorem dX10_readAny_10 : decode cX10_readAny 10 = .ok (.ifCond .eq 98, 3) := by decide +kernel
theorem dX10_readAny_13 : decode cX10_readAny 13 = .ok (.aload_n 0, 1) := by decide +kernel
theorem dX10_readAny_14 : decode cX10_readAny 14 = .ok (.iconst 5, 1) := by decide +kernel
theorem dX10_readAny_15 : decode cX10_readAny 15 = .ok (.invokevirtual 202, 3) := by decide +kernel
theorem dX10_readAny_18 : decode cX10_readAny 18 = .ok (.istore_n 3, 1) := by decide +kernel
theorem dX10_readAny_19 : decode cX10_readAny 19 = .ok (.iload_n 3, 1) := by decide +kernel
theorem dX10_readAny_20 : decode cX10_readAny 20 = .ok (.ifCond .ne 12, 3) := by decide +kernel
theorem dX10_readAny_23 : decode cX10_readAny 23 = .ok (.aload_n 0, 1) := by decide +kernel
theorem dX10_readAny_24 : decode cX10_readAny 24 = .ok (.bipush 40, 2) := by decide +kernel
theorem dX10_readAny_26 : decode cX10_readAny 26 = .ok (.invokevirtual 187, 3) := by decide +kernel
theorem dX10_readAny_29 : decode cX10_readAny 29 = .ok (.ifCond .eq 58, 3) := by decide +kernel
theorem dX10_readAny_32 : decode cX10_readAny 32 = .ok (.aload_n 0, 1) := by decide +kernel
theorem dX10_readAny_33 : decode cX10_readAny 33 = .ok (.getfield 199, 3) := by decide +kernel
theorem dX10_readAny_36 : decode cX10_readAny 36 = .ok (.bipush 8, 2) := by decide +kernel
theorem dX10_readAny_38 : decode cX10_readAny 38 = .ok (.if_icmp .ne 9, 3) := by decide +kernel
theorem dX10_readAny_41 : decode cX10_readAny 41 = .ok (.aload_n 0, 1) := by decide +kernel
theorem dX10_readAny_42 : decode cX10_readAny 42 = .ok (.iconst 3, 1) := by decide +kernel
theorem dX10_readAny_43 : decode cX10_readAny 43 = .ok (.invokevirtual 173, 3) := by decide +kernel
theorem dX10_readAny_46 : decode cX10_readAny 46 = .ok (.ireturn, 1) := by decide +kernel
theorem dX10_readAny_47 : decode cX10_readAny 47 = .ok (.aload_n 0, 1) := by decide +kernel
theorem dX10_readAny_48 : decode cX10_readAny 48 = .ok (.aload_n 0, 1) := by decide +kernel
theorem dX10_readAny_49 : decode cX10_readAny 49 = .ok (.getfield 199, 3) := by decide +kernel
theorem dX10_readAny_52 : decode cX10_readAny 52 = .ok (.iconst 1, 1) := by decide +kernel
theorem dX10_readAny_53 : decode cX10_readAny 53 = .ok (.iadd, 1) := by decide +kernel
theorem dX10_readAny_54 : decode cX10_readAny 54 = .ok (.putfield 199, 3) := by decide +kernel
theorem dX10_readAny_57 : decode cX10_readAny 57 = .ok (.iload_n 3, 1) := by decide +kernel
theorem dX10_readAny_58 : decode cX10_readAny 58 = .ok (.ifCond .ne 7, 3) := by decide +kernel
theorem dX10_readAny_61 : decode cX10_readAny 61 = .ok (.iload_n 1, 1) := by decide +kernel
theorem dX10_readAny_62 : decode cX10_readAny 62 = .ok (.iconst 1, 1) := by decide +kernel
theorem dX10_readAny_63 : decode cX10_readAny 63 = .ok (.iadd, 1) := by decide +kernel
theorem dX10_readAny_64 : decode cX10_readAny 64 = .ok (.istore_n 1, 1) := by decide +kernel
theorem dX10_readAny_65 : decode cX10_readAny 65 = .ok (.aload_n 0, 1) := by decide +kernel
theorem dX10_readAny_66 : decode cX10_readAny 66 = .ok (.iload_n 3, 1) := by decide +kernel
theorem dX10_readAny_67 : decode cX10_readAny 67 = .ok (.ifCond .eq 8, 3) := by decide +kernel
theorem dX10_readAny_70 : decode cX10_readAny 70 = .ok (.bipush 9, 2) := by decide +kernel
theorem dX10_readAny_72 : decode cX10_readAny 72 = .ok (.goto 5, 3) := by decide +kernel
theorem dX10_readAny_75 : decode cX10_readAny 75 = .ok (.bipush 12, 2) := by decide +kernel
theorem dX10_readAny_77 : decode cX10_readAny 77 = .ok (.invokevirtual 205, 3) := by decide +kernel
theorem dX10_readAny_80 : decode cX10_readAny 80 = .ok (.aload_n 0, 1) := by decide +kernel
theorem dX10_readAny_81 : decode cX10_readAny 81 = .ok (.invokevirtual 180, 3) := by decide +kernel
theorem dX10_readAny_84 : decode cX10_readAny 84 = .ok (.goto (-75), 3) := by decide +kernel
theorem dX10_readAny_87 : decode cX10_readAny 87 = .ok (.aload_n 0, 1) := by decide +kernel
theorem dX10_readAny_88 : decode cX10_readAny 88 = .ok (.invokevirtual 208, 3) := by decide +kernel
theorem dX10_readAny_91 : decode cX10_readAny 91 = .ok (.iconst (-1), 1) := by decide +kernel
theorem dX10_readAny_92 : decode cX10_readAny 92 = .ok (.if_icmp .ne 5, 3) := by decide +kernel
theorem dX10_readAny_95 : decode cX10_readAny 95 = .ok (.iconst (-1), 1) := by decide +kernel
theorem dX10_readAny_96 : decode cX10_readAny 96 = .ok (.ireturn, 1) := by decide +kernel
theorem dX10_readAny_97 : decode cX10_readAny 97 = .ok (.aload_n 0, 1) := by decide +kernel
theorem dX10_readAny_98 : decode cX10_readAny 98 = .ok (.bipush 9, 2) := by decide +kernel
theorem dX10_readAny_100 : decode cX10_readAny 100 = .ok (.invokevirtual 211, 3) := by decide +kernel
theorem dX10_readAny_103 : decode cX10_readAny 103 = .ok (.iconst 0, 1) := by decide +kernel
theorem dX10_readAny_104 : decode cX10_readAny 104 = .ok (.istore_n 2, 1) := by decide +kernel
theorem dX10_readAny_105 : decode cX10_readAny 105 = .ok (.goto (-96), 3) := by decide +kernel
theorem dX10_readAny_108 : decode cX10_readAny 108 = .ok (.aload_n 0, 1) := by decide +kernel
theorem dX10_readAny_109 : decode cX10_readAny 109 = .ok (.iconst 4, 1) := by decide +kernel
theorem dX10_readAny_110 : decode cX10_readAny 110 = .ok (.invokevirtual 202, 3) := by decide +kernel
theorem dX10_readAny_113 : decode cX10_readAny 113 = .ok (.ifCond .eq 24, 3) := by decide +kernel
theorem dX10_readAny_116 : decode cX10_readAny 116 = .ok (.aload_n 0, 1) := by decide +kernel
theorem dX10_readAny_117 : decode cX10_readAny 117 = .ok (.bipush 10, 2) := by decide +kernel
theorem dX10_readAny_119 : decode cX10_readAny 119 = .ok (.invokevirtual 211, 3) := by decide +kernel
theorem dX10_readAny_122 : decode cX10_readAny 122 = .ok (.aload_n 0, 1) := by decide +kernel
theorem dX10_readAny_123 : decode cX10_readAny 123 = .ok (.bipush 10, 2) := by decide +kernel
theorem dX10_readAny_125 : decode cX10_readAny 125 = .ok (.invokevirtual 205, 3) := by decide +kernel
theorem dX10_readAny_128 : decode cX10_readAny 128 = .ok (.aload_n 0, 1) := by decide +kernel
theorem dX10_readAny_129 : decode cX10_readAny 129 = .ok (.invokevirtual 180, 3) := by decide +kernel
theorem dX10_readAny_132 : decode cX10_readAny 132 = .ok (.iconst 1, 1) := by decide +kernel
theorem dX10_readAny_133 : decode cX10_readAny 133 = .ok (.istore_n 2, 1) := by decide +kernel
theorem dX10_readAny_134 : decode cX10_readAny 134 = .ok (.goto (-125), 3) := by decide +kernel
theorem dX10_readAny_137 : decode cX10_readAny 137 = .ok (.aload_n 0, 1) := by decide +kernel
theorem dX10_readAny_138 : decode cX10_readAny 138 = .ok (.iconst 3, 1) := by decide +kernel
theorem dX10_readAny_139 : decode cX10_readAny 139 = .ok (.invokevirtual 202, 3) := by decide +kernel
theorem dX10_readAny_142 : decode cX10_readAny 142 = .ok (.ifCond .eq 30, 3) := by decide +kernel
theorem dX10_readAny_145 : decode cX10_readAny 145 = .ok (.aload_n 0, 1) := by decide +kernel
theorem dX10_readAny_146 : decode cX10_readAny 146 = .ok (.bipush 10, 2) := by decide +kernel
theorem dX10_readAny_148 : decode cX10_readAny 148 = .ok (.invokevirtual 211, 3) := by decide +kernel
theorem dX10_readAny_151 : decode cX10_readAny 151 = .ok (.aload_n 0, 1) := by decide +kernel
theorem dX10_readAny_152 : decode cX10_readAny 152 = .ok (.bipush 11, 2) := by decide +kernel
theorem dX10_readAny_154 : decode cX10_readAny 154 = .ok (.invokevirtual 211, 3) := by decide +kernel
theorem dX10_readAny_157 : decode cX10_readAny 157 = .ok (.aload_n 0, 1) := by decide +kernel
theorem dX10_readAny_158 : decode cX10_readAny 158 = .ok (.bipush 11, 2) := by decide +kernel
theorem dX10_readAny_160 : decode cX10_readAny 160 = .ok (.invokevirtual 205, 3) := by decide +kernel
theorem dX10_readAny_163 : decode cX10_readAny 163 = .ok (.aload_n 0, 1) := by decide +kernel
theorem dX10_readAny_164 : decode cX10_readAny 164 = .ok (.invokevirtual 180, 3) := by decide +kernel
theorem dX10_readAny_167 : decode cX10_readAny 167 = .ok (.iconst 1, 1) := by decide +kernel
theorem dX10_readAny_168 : decode cX10_readAny 168 = .ok (.istore_n 2, 1) := by decide +kernel
theorem dX10_readAny_169 : decode cX10_readAny 169 = .ok (.goto (-160), 3) := by decide +kernel
theorem dX10_readAny_172 : decode cX10_readAny 172 = .ok (.aload_n 0, 1) := by decide +kernel
theorem dX10_readAny_173 : decode cX10_readAny 173 = .ok (.bipush 10, 2) := by decide +kernel
theorem dX10_readAny_175 : decode cX10_readAny 175 = .ok (.invokevirtual 211, 3) := by decide +kernel
theorem dX10_readAny_178 : decode cX10_readAny 178 = .ok (.aload_n 0, 1) := by decide +kernel
theorem dX10_readAny_179 : decode cX10_readAny 179 = .ok (.bipush 11, 2) := by decide +kernel
theorem dX10_readAny_181 : decode cX10_readAny 181 = .ok (.invokevirtual 211, 3) := by decide +kernel
theorem dX10_readAny_184 : decode cX10_readAny 184 = .ok (.iload_n 1, 1) := by decide +kernel
theorem dX10_readAny_185 : decode cX10_readAny 185 = .ok (.ifCond .ne 5, 3) := by decide +kernel
theorem dX10_readAny_188 : decode cX10_readAny 188 = .ok (.iconst 0, 1) := by decide +kernel
theorem dX10_readAny_189 : decode cX10_readAny 189 = .ok (.ireturn, 1) := by decide +kernel
theorem dX10_readAny_190 : decode cX10_readAny 190 = .ok (.aload_n 0, 1) := by decide +kernel
theorem dX10_readAny_191 : decode cX10_readAny 191 = .ok (.bipush 41, 2) := by decide +kernel
theorem dX10_readAny_193 : decode cX10_readAny 193 = .ok (.invokevirtual 187, 3) := by decide +kernel
theorem dX10_readAny_196 : decode cX10_readAny 196 = .ok (.ifCond .ne 9, 3) := by decide +kernel
theorem dX10_readAny_199 : decode cX10_readAny 199 = .ok (.aload_n 0, 1) := by decide +kernel
theorem dX10_readAny_200 : decode cX10_readAny 200 = .ok (.iconst 1, 1) := by decide +kernel
theorem dX10_readAny_201 : decode cX10_readAny 201 = .ok (.invokevirtual 173, 3) := by decide +kernel
theorem dX10_readAny_204 : decode cX10_readAny 204 = .ok (.ireturn, 1) := by decide +kernel
theorem dX10_readAny_205 : decode cX10_readAny 205 = .ok (.aload_n 0, 1) := by decide +kernel
theorem dX10_readAny_206 : decode cX10_readAny 206 = .ok (.aload_n 0, 1) := by decide +kernel
theorem dX10_readAny_207 : decode cX10_readAny 207 = .ok (.getfield 196, 3) := by decide +kernel
theorem dX10_readAny_210 : decode cX10_readAny 210 = .ok (.iconst 1, 1) := by decide +kernel
theorem dX10_readAny_211 : decode cX10_readAny 211 = .ok (.isub, 1) := by decide +kernel
theorem dX10_readAny_212 : decode cX10_readAny 212 = .ok (.putfield 196, 3) := by decide +kernel
theorem dX10_readAny_215 : decode cX10_readAny 215 = .ok (.iload_n 1, 1) := by decide +kernel
theorem dX10_readAny_216 : decode cX10_readAny 216 = .ok (.iconst 1, 1) := by decide +kernel
theorem dX10_readAny_217 : decode cX10_readAny 217 = .ok (.isub, 1) := by decide +kernel
theorem dX10_readAny_218 : decode cX10_readAny 218 = .ok (.istore_n 1, 1) := by decide +kernel
theorem dX10_readAny_219 : decode cX10_readAny 219 = .ok (.aload_n 0, 1) := by decide +kernel
theorem dX10_readAny_220 : decode cX10_readAny 220 = .ok (.aload_n 0, 1) := by decide +kernel
theorem dX10_readAny_221 : decode cX10_readAny 221 = .ok (.getfield 199, 3) := by decide +kernel
theorem dX10_readAny_224 : decode cX10_readAny 224 = .ok (.iconst 1, 1) := by decide +kernel
theorem dX10_readAny_225 : decode cX10_readAny 225 = .ok (.isub, 1) := by decide +kernel
theorem dX10_readAny_226 : decode cX10_readAny 226 = .ok (.putfield 199, 3) := by decide +kernel
theorem dX10_readAny_229 : decode cX10_readAny 229 = .ok (.aload_n 0, 1) := by decide +kernel
theorem dX10_readAny_230 : decode cX10_readAny 230 = .ok (.bipush 9, 2) := by decide +kernel
theorem dX10_readAny_232 : decode cX10_readAny 232 = .ok (.invokevirtual 211, 3) := by decide +kernel
theorem dX10_readAny_235 : decode cX10_readAny 235 = .ok (.aload_n 0, 1) := by decide +kernel
theorem dX10_readAny_236 : decode cX10_readAny 236 = .ok (.invokevirtual 180, 3) := by decide +kernel
theorem dX10_readAny_239 : decode cX10_readAny 239 = .ok (.goto (-230), 3) := by decide +kernel
theorem dX10_readText_0 : decode cX10_readText 0 = .ok (.iconst 0, 1) := by decide +kernel
theorem dX10_readText_1 : decode cX10_readText 1 = .ok (.istore_n 1, 1) := by decide +kernel
theorem dX10_readText_2 : decode cX10_readText 2 = .ok (.aload_n 0, 1) := by decide +kernel
theorem dX10_readText_3 : decode cX10_readText 3 = .ok (.getfield 145, 3) := by decide +kernel
theorem dX10_readText_6 : decode cX10_readText 6 = .ok (.iconst 2, 1) := by decide +kernel
theorem dX10_readText_7 : decode cX10_readText 7 = .ok (.if_icmp .ne 110, 3) := by decide +kernel
theorem dX10_readText_10 : decode cX10_readText 10 = .ok (.aload_n 0, 1) := by decide +kernel
theorem dX10_readText_11 : decode cX10_readText 11 = .ok (.getfield 148, 3) := by decide +kernel
theorem dX10_readText_14 : decode cX10_readText 14 = .ok (.iconst 1, 1) := by decide +kernel
theorem dX10_readText_15 : decode cX10_readText 15 = .ok (.if_icmp .gt 102, 3) := by decide +kernel
theorem dX10_readText_18 : decode cX10_readText 18 = .ok (.iload_n 1, 1) := by decide +kernel
theorem dX10_readText_19 : decode cX10_readText 19 = .ok (.bipush 16, 2) := by decide +kernel
theorem dX10_readText_21 : decode cX10_readText 21 = .ok (.if_icmp .ne 9, 3) := by decide +kernel
theorem dX10_readText_24 : decode cX10_readText 24 = .ok (.aload_n 0, 1) := by decide +kernel
theorem dX10_readText_25 : decode cX10_readText 25 = .ok (.iconst 3, 1) := by decide +kernel
theorem dX10_readText_26 : decode cX10_readText 26 = .ok (.invokevirtual 173, 3) := by decide +kernel
theorem dX10_readText_29 : decode cX10_readText 29 = .ok (.ireturn, 1) := by decide +kernel
theorem dX10_readText_30 : decode cX10_readText 30 = .ok (.bipush 16, 2) := by decide +kernel
theorem dX10_readText_32 : decode cX10_readText 32 = .ok (.iload_n 1, 1) := by decide +kernel
theorem dX10_readText_33 : decode cX10_readText 33 = .ok (.iadd, 1) := by decide +kernel
theorem dX10_readText_34 : decode cX10_readText 34 = .ok (.istore_n 2, 1) := by decide +kernel
theorem dX10_readText_35 : decode cX10_readText 35 = .ok (.aload_n 0, 1) := by decide +kernel
theorem dX10_readText_36 : decode cX10_readText 36 = .ok (.getfield 53, 3) := by decide +kernel
theorem dX10_readText_39 : decode cX10_readText 39 = .ok (.iload_n 2, 1) := by decide +kernel
theorem dX10_readText_40 : decode cX10_readText 40 = .ok (.aload_n 0, 1) := by decide +kernel
theorem dX10_readText_41 : decode cX10_readText 41 = .ok (.getfield 148, 3) := by decide +kernel
theorem dX10_readText_44 : decode cX10_readText 44 = .ok (.iastore, 1) := by decide +kernel
theorem dX10_readText_45 : decode cX10_readText 45 = .ok (.aload_n 0, 1) := by decide +kernel
theorem dX10_readText_46 : decode cX10_readText 46 = .ok (.invokevirtual 180, 3) := by decide +kernel
theorem dX10_readText_49 : decode cX10_readText 49 = .ok (.aload_n 0, 1) := by decide +kernel
theorem dX10_readText_50 : decode cX10_readText 50 = .ok (.getfield 56, 3) := by decide +kernel
theorem dX10_readText_53 : decode cX10_readText 53 = .ok (.iload_n 2, 1) := by decide +kernel
theorem dX10_readText_54 : decode cX10_readText 54 = .ok (.aload_n 0, 1) := by decide +kernel
theorem dX10_readText_55 : decode cX10_readText 55 = .ok (.getfield 170, 3) := by decide +kernel
theorem dX10_readText_58 : decode cX10_readText 58 = .ok (.iastore, 1) := by decide +kernel
theorem dX10_readText_59 : decode cX10_readText 59 = .ok (.aload_n 0, 1) := by decide +kernel
theorem dX10_readText_60 : decode cX10_readText 60 = .ok (.iconst 2, 1) := by decide +kernel
theorem dX10_readText_61 : decode cX10_readText 61 = .ok (.invokevirtual 202, 3) := by decide +kernel
theorem dX10_readText_64 : decode cX10_readText 64 = .ok (.ifCond .eq 17, 3) := by decide +kernel
theorem dX10_readText_67 : decode cX10_readText 67 = .ok (.aload_n 0, 1) := by decide +kernel
theorem dX10_readText_68 : decode cX10_readText 68 = .ok (.invokevirtual 180, 3) := by decide +kernel
theorem dX10_readText_71 : decode cX10_readText 71 = .ok (.aload_n 0, 1) := by decide +kernel
theorem dX10_readText_72 : decode cX10_readText 72 = .ok (.invokevirtual 214, 3) := by decide +kernel
theorem dX10_readText_75 : decode cX10_readText 75 = .ok (.iconst (-1), 1) := by decide +kernel
theorem dX10_readText_76 : decode cX10_readText 76 = .ok (.if_icmp .ne 5, 3) := by decide +kernel
theorem dX10_readText_79 : decode cX10_readText 79 = .ok (.iconst (-1), 1) := by decide +kernel
theorem dX10_readText_80 : decode cX10_readText 80 = .ok (.ireturn, 1) := by decide +kernel
theorem dX10_readText_81 : decode cX10_readText 81 = .ok (.aload_n 0, 1) := by decide +kernel
theorem dX10_readText_82 : decode cX10_readText 82 = .ok (.getfield 59, 3) := by decide +kernel
theorem dX10_readText_85 : decode cX10_readText 85 = .ok (.iload_n 2, 1) := by decide +kernel
theorem dX10_readText_86 : decode cX10_readText 86 = .ok (.aload_n 0, 1) := by decide +kernel
theorem dX10_readText_87 : decode cX10_readText 87 = .ok (.getfield 170, 3) := by decide +kernel
theorem dX10_readText_90 : decode cX10_readText 90 = .ok (.iastore, 1) := by decide +kernel
theorem dX10_readText_91 : decode cX10_readText 91 = .ok (.aload_n 0, 1) := by decide +kernel
theorem dX10_readText_92 : decode cX10_readText 92 = .ok (.bipush 59, 2) := by decide +kernel
theorem dX10_readText_94 : decode cX10_readText 94 = .ok (.invokevirtual 187, 3) := by decide +kernel
theorem dX10_readText_97 : decode cX10_readText 97 = .ok (.ifCond .ne 9, 3) := by decide +kernel
theorem dX10_readText_100 : decode cX10_readText 100 = .ok (.aload_n 0, 1) := by decide +kernel
theorem dX10_readText_101 : decode cX10_readText 101 = .ok (.iconst 1, 1) := by decide +kernel
theorem dX10_readText_102 : decode cX10_readText 102 = .ok (.invokevirtual 173, 3) := by decide +kernel
theorem dX10_readText_105 : decode cX10_readText 105 = .ok (.ireturn, 1) := by decide +kernel
theorem dX10_readText_106 : decode cX10_readText 106 = .ok (.aload_n 0, 1) := by decide +kernel
theorem dX10_readText_107 : decode cX10_readText 107 = .ok (.invokevirtual 180, 3) := by decide +kernel
theorem dX10_readText_110 : decode cX10_readText 110 = .ok (.iload_n 1, 1) := by decide +kernel
theorem dX10_readText_111 : decode cX10_readText 111 = .ok (.iconst 1, 1) := by decide +kernel
theorem dX10_readText_112 : decode cX10_readText 112 = .ok (.iadd, 1) := by decide +kernel
theorem dX10_readText_113 : decode cX10_readText 113 = .ok (.istore_n 1, 1) := by decide +kernel
theorem dX10_readText_114 : decode cX10_readText 114 = .ok (.goto (-112), 3) := by decide +kernel
theorem dX10_readText_117 : decode cX10_readText 117 = .ok (.aload_n 0, 1) := by decide +kernel
theorem dX10_readText_118 : decode cX10_readText 118 = .ok (.getfield 145, 3) := by decide +kernel
theorem dX10_readText_121 : decode cX10_readText 121 = .ok (.ifCond .ne 7, 3) := by decide +kernel
theorem dX10_readText_124 : decode cX10_readText 124 = .ok (.iload_n 1, 1) := by decide +kernel
theorem dX10_readText_125 : decode cX10_readText 125 = .ok (.goto 8, 3) := by decide +kernel
theorem dX10_readText_128 : decode cX10_readText 128 = .ok (.aload_n 0, 1) := by decide +kernel
theorem dX10_readText_129 : decode cX10_readText 129 = .ok (.iconst 1, 1) := by decide +kernel
theorem dX10_readText_130 : decode cX10_readText 130 = .ok (.invokevirtual 173, 3) := by decide +kernel
theorem dX10_readText_133 : decode cX10_readText 133 = .ok (.ireturn, 1) := by decide +kernel
theorem dX10_text_0 : decode cX10_text 0 = .ok (.aload_n 0, 1) := by decide +kernel
theorem dX10_text_1 : decode cX10_text 1 = .ok (.iconst 0, 1) := by decide +kernel
theorem dX10_text_2 : decode cX10_text 2 = .ok (.putfield 98, 3) := by decide +kernel
theorem dX10_text_5 : decode cX10_text 5 = .ok (.aload_n 0, 1) := by decide +kernel
theorem dX10_text_6 : decode cX10_text 6 = .ok (.iconst 0, 1) := by decide +kernel
theorem dX10_text_7 : decode cX10_text 7 = .ok (.putfield 217, 3) := by decide +kernel
theorem dX10_text_10 : decode cX10_text 10 = .ok (.aload_n 0, 1) := by decide +kernel
theorem dX10_text_11 : decode cX10_text 11 = .ok (.iconst (-1), 1) := by decide +kernel
theorem dX10_text_12 : decode cX10_text 12 = .ok (.putfield 71, 3) := by decide +kernel
theorem dX10_text_15 : decode cX10_text 15 = .ok (.aload_n 0, 1) := by decide +kernel
theorem dX10_text_16 : decode cX10_text 16 = .ok (.iconst 0, 1) := by decide +kernel
theorem dX10_text_17 : decode cX10_text 17 = .ok (.putfield 135, 3) := by decide +kernel
theorem dX10_text_20 : decode cX10_text 20 = .ok (.aload_n 0, 1) := by decide +kernel
theorem dX10_text_21 : decode cX10_text 21 = .ok (.iconst 0, 1) := by decide +kernel
theorem dX10_text_22 : decode cX10_text 22 = .ok (.putfield 170, 3) := by decide +kernel
theorem dX10_text_25 : decode cX10_text 25 = .ok (.aload_n 0, 1) := by decide +kernel
theorem dX10_text_26 : decode cX10_text 26 = .ok (.iconst 0, 1) := by decide +kernel
theorem dX10_text_27 : decode cX10_text 27 = .ok (.putfield 199, 3) := by decide +kernel
theorem dX10_text_30 : decode cX10_text 30 = .ok (.aload_n 0, 1) := by decide +kernel
theorem dX10_text_31 : decode cX10_text 31 = .ok (.invokevirtual 180, 3) := by decide +kernel
theorem dX10_text_34 : decode cX10_text 34 = .ok (.aload_n 0, 1) := by decide +kernel
theorem dX10_text_35 : decode cX10_text 35 = .ok (.invokevirtual 220, 3) := by decide +kernel
theorem dX10_text_38 : decode cX10_text 38 = .ok (.istore_n 1, 1) := by decide +kernel
theorem dX10_text_39 : decode cX10_text 39 = .ok (.aload_n 0, 1) := by decide +kernel
theorem dX10_text_40 : decode cX10_text 40 = .ok (.iconst 0, 1) := by decide +kernel
theorem dX10_text_41 : decode cX10_text 41 = .ok (.putfield 128, 3) := by decide +kernel
theorem dX10_text_44 : decode cX10_text 44 = .ok (.iload_n 1, 1) := by decide +kernel
theorem dX10_text_45 : decode cX10_text 45 = .ok (.iconst (-1), 1) := by decide +kernel
theorem dX10_text_46 : decode cX10_text 46 = .ok (.if_icmp .ne 21, 3) := by decide +kernel
theorem dX10_text_49 : decode cX10_text 49 = .ok (.aload_n 0, 1) := by decide +kernel
theorem dX10_text_50 : decode cX10_text 50 = .ok (.aload_n 0, 1) := by decide +kernel
theorem dX10_text_51 : decode cX10_text 51 = .ok (.getfield 164, 3) := by decide +kernel
theorem dX10_text_54 : decode cX10_text 54 = .ok (.putfield 217, 3) := by decide +kernel
theorem dX10_text_57 : decode cX10_text 57 = .ok (.aload_n 0, 1) := by decide +kernel
theorem dX10_text_58 : decode cX10_text 58 = .ok (.aload_n 0, 1) := by decide +kernel
theorem dX10_text_59 : decode cX10_text 59 = .ok (.getfield 167, 3) := by decide +kernel
theorem dX10_text_62 : decode cX10_text 62 = .ok (.putfield 71, 3) := by decide +kernel
theorem dX10_text_65 : decode cX10_text 65 = .ok (.iconst (-1), 1) := by decide +kernel
theorem dX10_text_66 : decode cX10_text 66 = .ok (.ireturn, 1) := by decide +kernel
theorem dX10_text_67 : decode cX10_text 67 = .ok (.iconst 0, 1) := by decide +kernel
theorem dX10_text_68 : decode cX10_text 68 = .ok (.istore_n 2, 1) := by decide +kernel
theorem dX10_text_69 : decode cX10_text 69 = .ok (.iload_n 2, 1) := by decide +kernel
theorem dX10_text_70 : decode cX10_text 70 = .ok (.iload_n 1, 1) := by decide +kernel
theorem dX10_text_71 : decode cX10_text 71 = .ok (.if_icmp .ge 54, 3) := by decide +kernel
theorem dX10_text_74 : decode cX10_text 74 = .ok (.aload_n 0, 1) := by decide +kernel
theorem dX10_text_75 : decode cX10_text 75 = .ok (.getfield 53, 3) := by decide +kernel
theorem dX10_text_78 : decode cX10_text 78 = .ok (.iload_n 2, 1) := by decide +kernel
theorem dX10_text_79 : decode cX10_text 79 = .ok (.aload_n 0, 1) := by decide +kernel
theorem dX10_text_80 : decode cX10_text 80 = .ok (.getfield 53, 3) := by decide +kernel
theorem dX10_text_83 : decode cX10_text 83 = .ok (.bipush 16, 2) := by decide +kernel
theorem dX10_text_85 : decode cX10_text 85 = .ok (.iload_n 2, 1) := by decide +kernel
theorem dX10_text_86 : decode cX10_text 86 = .ok (.iadd, 1) := by decide +kernel
theorem dX10_text_87 : decode cX10_text 87 = .ok (.iaload, 1) := by decide +kernel
theorem dX10_text_88 : decode cX10_text 88 = .ok (.iastore, 1) := by decide +kernel
theorem dX10_text_89 : decode cX10_text 89 = .ok (.aload_n 0, 1) := by decide +kernel
theorem dX10_text_90 : decode cX10_text 90 = .ok (.getfield 56, 3) := by decide +kernel
theorem dX10_text_93 : decode cX10_text 93 = .ok (.iload_n 2, 1) := by decide +kernel
theorem dX10_text_94 : decode cX10_text 94 = .ok (.aload_n 0, 1) := by decide +kernel
theorem dX10_text_95 : decode cX10_text 95 = .ok (.getfield 56, 3) := by decide +kernel
theorem dX10_text_98 : decode cX10_text 98 = .ok (.bipush 16, 2) := by decide +kernel
theorem dX10_text_100 : decode cX10_text 100 = .ok (.iload_n 2, 1) := by decide +kernel
theorem dX10_text_101 : decode cX10_text 101 = .ok (.iadd, 1) := by decide +kernel
theorem dX10_text_102 : decode cX10_text 102 = .ok (.iaload, 1) := by decide +kernel
theorem dX10_text_103 : decode cX10_text 103 = .ok (.iastore, 1) := by decide +kernel
theorem dX10_text_104 : decode cX10_text 104 = .ok (.aload_n 0, 1) := by decide +kernel
theorem dX10_text_105 : decode cX10_text 105 = .ok (.getfield 59, 3) := by decide +kernel
theorem dX10_text_108 : decode cX10_text 108 = .ok (.iload_n 2, 1) := by decide +kernel
theorem dX10_text_109 : decode cX10_text 109 = .ok (.aload_n 0, 1) := by decide +kernel
theorem dX10_text_110 : decode cX10_text 110 = .ok (.getfield 59, 3) := by decide +kernel
theorem dX10_text_113 : decode cX10_text 113 = .ok (.bipush 16, 2) := by decide +kernel
theorem dX10_text_115 : decode cX10_text 115 = .ok (.iload_n 2, 1) := by decide +kernel
theorem dX10_text_116 : decode cX10_text 116 = .ok (.iadd, 1) := by decide +kernel
theorem dX10_text_117 : decode cX10_text 117 = .ok (.iaload, 1) := by decide +kernel
theorem dX10_text_118 : decode cX10_text 118 = .ok (.iastore, 1) := by decide +kernel
theorem dX10_text_119 : decode cX10_text 119 = .ok (.iinc 2 1, 3) := by decide +kernel
theorem dX10_text_122 : decode cX10_text 122 = .ok (.goto (-53), 3) := by decide +kernel
theorem dX10_text_125 : decode cX10_text 125 = .ok (.iconst 0, 1) := by decide +kernel
theorem dX10_text_126 : decode cX10_text 126 = .ok (.istore_n 2, 1) := by decide +kernel
theorem dX10_text_127 : decode cX10_text 127 = .ok (.iload_n 2, 1) := by decide +kernel
theorem dX10_text_128 : decode cX10_text 128 = .ok (.aload_n 0, 1) := by decide +kernel
theorem dX10_text_129 : decode cX10_text 129 = .ok (.getfield 170, 3) := by decide +kernel
theorem dX10_text_132 : decode cX10_text 132 = .ok (.if_icmp .ge 41, 3) := by decide +kernel
theorem dX10_text_135 : decode cX10_text 135 = .ok (.aload_n 0, 1) := by decide +kernel
theorem dX10_text_136 : decode cX10_text 136 = .ok (.getfield 62, 3) := by decide +kernel
theorem dX10_text_139 : decode cX10_text 139 = .ok (.iload_n 2, 1) := by decide +kernel
theorem dX10_text_140 : decode cX10_text 140 = .ok (.aload_n 0, 1) := by decide +kernel
theorem dX10_text_141 : decode cX10_text 141 = .ok (.getfield 62, 3) := by decide +kernel
theorem dX10_text_144 : decode cX10_text 144 = .ok (.sipush 400, 3) := by decide +kernel
theorem dX10_text_147 : decode cX10_text 147 = .ok (.iload_n 2, 1) := by decide +kernel
theorem dX10_text_148 : decode cX10_text 148 = .ok (.iadd, 1) := by decide +kernel
theorem dX10_text_149 : decode cX10_text 149 = .ok (.iaload, 1) := by decide +kernel
theorem dX10_text_150 : decode cX10_text 150 = .ok (.iastore, 1) := by decide +kernel
theorem dX10_text_151 : decode cX10_text 151 = .ok (.aload_n 0, 1) := by decide +kernel
theorem dX10_text_152 : decode cX10_text 152 = .ok (.getfield 65, 3) := by decide +kernel
theorem dX10_text_155 : decode cX10_text 155 = .ok (.iload_n 2, 1) := by decide +kernel
theorem dX10_text_156 : decode cX10_text 156 = .ok (.aload_n 0, 1) := by decide +kernel
theorem dX10_text_157 : decode cX10_text 157 = .ok (.getfield 65, 3) := by decide +kernel
theorem dX10_text_160 : decode cX10_text 160 = .ok (.sipush 400, 3) := by decide +kernel
theorem dX10_text_163 : decode cX10_text 163 = .ok (.iload_n 2, 1) := by decide +kernel
theorem dX10_text_164 : decode cX10_text 164 = .ok (.iadd, 1) := by decide +kernel
theorem dX10_text_165 : decode cX10_text 165 = .ok (.iaload, 1) := by decide +kernel
theorem dX10_text_166 : decode cX10_text 166 = .ok (.iastore, 1) := by decide +kernel
theorem dX10_text_167 : decode cX10_text 167 = .ok (.iinc 2 1, 3) := by decide +kernel
theorem dX10_text_170 : decode cX10_text 170 = .ok (.goto (-43), 3) := by decide +kernel
theorem dX10_text_173 : decode cX10_text 173 = .ok (.aload_n 0, 1) := by decide +kernel
theorem dX10_text_174 : decode cX10_text 174 = .ok (.iload_n 1, 1) := by decide +kernel
theorem dX10_text_175 : decode cX10_text 175 = .ok (.putfield 114, 3) := by decide +kernel
theorem dX10_text_178 : decode cX10_text 178 = .ok (.iload_n 1, 1) := by decide +kernel
theorem dX10_text_179 : decode cX10_text 179 = .ok (.ireturn, 1) := by decide +kernel
theorem dX10_fault_0 : decode cX10_fault 0 = .ok (.aload_n 0, 1) := by decide +kernel
theorem dX10_fault_1 : decode cX10_fault 1 = .ok (.iconst 0, 1) := by decide +kernel
theorem dX10_fault_2 : decode cX10_fault 2 = .ok (.putfield 98, 3) := by decide +kernel
theorem dX10_fault_5 : decode cX10_fault 5 = .ok (.iload_n 1, 1) := by decide +kernel
theorem dX10_fault_6 : decode cX10_fault 6 = .ok (.ifCond .ne 10, 3) := by decide +kernel
theorem dX10_fault_9 : decode cX10_fault 9 = .ok (.aload_n 0, 1) := by decide +kernel
theorem dX10_fault_10 : decode cX10_fault 10 = .ok (.getfield 217, 3) := by decide +kernel
theorem dX10_fault_13 : decode cX10_fault 13 = .ok (.goto 16, 3) := by decide +kernel
theorem dX10_fault_16 : decode cX10_fault 16 = .ok (.iload_n 1, 1) := by decide +kernel
theorem dX10_fault_17 : decode cX10_fault 17 = .ok (.iconst 1, 1) := by decide +kernel
theorem dX10_fault_18 : decode cX10_fault 18 = .ok (.if_icmp .ne 10, 3) := by decide +kernel
theorem dX10_fault_21 : decode cX10_fault 21 = .ok (.aload_n 0, 1) := by decide +kernel
theorem dX10_fault_22 : decode cX10_fault 22 = .ok (.getfield 71, 3) := by decide +kernel
theorem dX10_fault_25 : decode cX10_fault 25 = .ok (.goto 4, 3) := by decide +kernel
theorem dX10_fault_28 : decode cX10_fault 28 = .ok (.iconst (-1), 1) := by decide +kernel
theorem dX10_fault_29 : decode cX10_fault 29 = .ok (.ireturn, 1) := by decide +kernel
theorem dX10_twoOf_0 : decode cX10_twoOf 0 = .ok (.iload_n 1, 1) := by decide +kernel
theorem dX10_twoOf_1 : decode cX10_twoOf 1 = .ok (.iconst 2, 1) := by decide +kernel
theorem dX10_twoOf_2 : decode cX10_twoOf 2 = .ok (.if_icmp .ne 7, 3) := by decide +kernel
theorem dX10_twoOf_5 : decode cX10_twoOf 5 = .ok (.iload_n 2, 1) := by decide +kernel
theorem dX10_twoOf_6 : decode cX10_twoOf 6 = .ok (.iload_n 3, 1) := by decide +kernel
theorem dX10_twoOf_7 : decode cX10_twoOf 7 = .ok (.iadd, 1) := by decide +kernel
theorem dX10_twoOf_8 : decode cX10_twoOf 8 = .ok (.ireturn, 1) := by decide +kernel
theorem dX10_twoOf_9 : decode cX10_twoOf 9 = .ok (.iload_n 1, 1) := by decide +kernel
theorem dX10_twoOf_10 : decode cX10_twoOf 10 = .ok (.iconst 3, 1) := by decide +kernel
theorem dX10_twoOf_11 : decode cX10_twoOf 11 = .ok (.if_icmp .ne 7, 3) := by decide +kernel
theorem dX10_twoOf_14 : decode cX10_twoOf 14 = .ok (.iload_n 2, 1) := by decide +kernel
theorem dX10_twoOf_15 : decode cX10_twoOf 15 = .ok (.iload_n 3, 1) := by decide +kernel
theorem dX10_twoOf_16 : decode cX10_twoOf 16 = .ok (.isub, 1) := by decide +kernel
theorem dX10_twoOf_17 : decode cX10_twoOf 17 = .ok (.ireturn, 1) := by decide +kernel
theorem dX10_twoOf_18 : decode cX10_twoOf 18 = .ok (.iload_n 1, 1) := by decide +kernel
theorem dX10_twoOf_19 : decode cX10_twoOf 19 = .ok (.iconst 4, 1) := by decide +kernel
theorem dX10_twoOf_20 : decode cX10_twoOf 20 = .ok (.if_icmp .ne 7, 3) := by decide +kernel
theorem dX10_twoOf_23 : decode cX10_twoOf 23 = .ok (.iload_n 2, 1) := by decide +kernel
theorem dX10_twoOf_24 : decode cX10_twoOf 24 = .ok (.iload_n 3, 1) := by decide +kernel
theorem dX10_twoOf_25 : decode cX10_twoOf 25 = .ok (.imul, 1) := by decide +kernel
theorem dX10_twoOf_26 : decode cX10_twoOf 26 = .ok (.ireturn, 1) := by decide +kernel
theorem dX10_twoOf_27 : decode cX10_twoOf 27 = .ok (.iload_n 1, 1) := by decide +kernel
theorem dX10_twoOf_28 : decode cX10_twoOf 28 = .ok (.iconst 5, 1) := by decide +kernel
theorem dX10_twoOf_29 : decode cX10_twoOf 29 = .ok (.if_icmp .ne 7, 3) := by decide +kernel
theorem dX10_twoOf_32 : decode cX10_twoOf 32 = .ok (.iload_n 2, 1) := by decide +kernel
theorem dX10_twoOf_33 : decode cX10_twoOf 33 = .ok (.iload_n 3, 1) := by decide +kernel
theorem dX10_twoOf_34 : decode cX10_twoOf 34 = .ok (.idiv, 1) := by decide +kernel
theorem dX10_twoOf_35 : decode cX10_twoOf 35 = .ok (.ireturn, 1) := by decide +kernel
theorem dX10_twoOf_36 : decode cX10_twoOf 36 = .ok (.iload_n 1, 1) := by decide +kernel
theorem dX10_twoOf_37 : decode cX10_twoOf 37 = .ok (.bipush 6, 2) := by decide +kernel
theorem dX10_twoOf_39 : decode cX10_twoOf 39 = .ok (.if_icmp .ne 14, 3) := by decide +kernel
theorem dX10_twoOf_42 : decode cX10_twoOf 42 = .ok (.iload_n 2, 1) := by decide +kernel
theorem dX10_twoOf_43 : decode cX10_twoOf 43 = .ok (.iload_n 3, 1) := by decide +kernel
theorem dX10_twoOf_44 : decode cX10_twoOf 44 = .ok (.if_icmp .ge 7, 3) := by decide +kernel
theorem dX10_twoOf_47 : decode cX10_twoOf 47 = .ok (.iconst 1, 1) := by decide +kernel
theorem dX10_twoOf_48 : decode cX10_twoOf 48 = .ok (.goto 4, 3) := by decide +kernel
theorem dX10_twoOf_51 : decode cX10_twoOf 51 = .ok (.iconst 0, 1) := by decide +kernel
theorem dX10_twoOf_52 : decode cX10_twoOf 52 = .ok (.ireturn, 1) := by decide +kernel
theorem dX10_twoOf_53 : decode cX10_twoOf 53 = .ok (.iload_n 1, 1) := by decide +kernel
theorem dX10_twoOf_54 : decode cX10_twoOf 54 = .ok (.bipush 7, 2) := by decide +kernel
theorem dX10_twoOf_56 : decode cX10_twoOf 56 = .ok (.if_icmp .ne 14, 3) := by decide +kernel
theorem dX10_twoOf_59 : decode cX10_twoOf 59 = .ok (.iload_n 2, 1) := by decide +kernel
theorem dX10_twoOf_60 : decode cX10_twoOf 60 = .ok (.iload_n 3, 1) := by decide +kernel
theorem dX10_twoOf_61 : decode cX10_twoOf 61 = .ok (.if_icmp .ne 7, 3) := by decide +kernel
theorem dX10_twoOf_64 : decode cX10_twoOf 64 = .ok (.iconst 1, 1) := by decide +kernel
theorem dX10_twoOf_65 : decode cX10_twoOf 65 = .ok (.goto 4, 3) := by decide +kernel
theorem dX10_twoOf_68 : decode cX10_twoOf 68 = .ok (.iconst 0, 1) := by decide +kernel
theorem dX10_twoOf_69 : decode cX10_twoOf 69 = .ok (.ireturn, 1) := by decide +kernel
theorem dX10_twoOf_70 : decode cX10_twoOf 70 = .ok (.iload_n 1, 1) := by decide +kernel
theorem dX10_twoOf_71 : decode cX10_twoOf 71 = .ok (.bipush 8, 2) := by decide +kernel
theorem dX10_twoOf_73 : decode cX10_twoOf 73 = .ok (.if_icmp .ne 14, 3) := by decide +kernel
theorem dX10_twoOf_76 : decode cX10_twoOf 76 = .ok (.iload_n 2, 1) := by decide +kernel
theorem dX10_twoOf_77 : decode cX10_twoOf 77 = .ok (.iload_n 3, 1) := by decide +kernel
theorem dX10_twoOf_78 : decode cX10_twoOf 78 = .ok (.if_icmp .le 7, 3) := by decide +kernel
theorem dX10_twoOf_81 : decode cX10_twoOf 81 = .ok (.iconst 1, 1) := by decide +kernel
theorem dX10_twoOf_82 : decode cX10_twoOf 82 = .ok (.goto 4, 3) := by decide +kernel
theorem dX10_twoOf_85 : decode cX10_twoOf 85 = .ok (.iconst 0, 1) := by decide +kernel
theorem dX10_twoOf_86 : decode cX10_twoOf 86 = .ok (.ireturn, 1) := by decide +kernel
theorem dX10_twoOf_87 : decode cX10_twoOf 87 = .ok (.iload_n 1, 1) := by decide +kernel
theorem dX10_twoOf_88 : decode cX10_twoOf 88 = .ok (.bipush 10, 2) := by decide +kernel
theorem dX10_twoOf_90 : decode cX10_twoOf 90 = .ok (.if_icmp .ne 9, 3) := by decide +kernel
theorem dX10_twoOf_93 : decode cX10_twoOf 93 = .ok (.iload_n 2, 1) := by decide +kernel
theorem dX10_twoOf_94 : decode cX10_twoOf 94 = .ok (.iload_n 3, 1) := by decide +kernel
theorem dX10_twoOf_95 : decode cX10_twoOf 95 = .ok (.imul, 1) := by decide +kernel
theorem dX10_twoOf_96 : decode cX10_twoOf 96 = .ok (.goto 14, 3) := by decide +kernel
theorem dX10_twoOf_99 : decode cX10_twoOf 99 = .ok (.iload_n 2, 1) := by decide +kernel
theorem dX10_twoOf_100 : decode cX10_twoOf 100 = .ok (.iload_n 3, 1) := by decide +kernel
theorem dX10_twoOf_101 : decode cX10_twoOf 101 = .ok (.iadd, 1) := by decide +kernel
theorem dX10_twoOf_102 : decode cX10_twoOf 102 = .ok (.ifCond .le 7, 3) := by decide +kernel
theorem dX10_twoOf_105 : decode cX10_twoOf 105 = .ok (.iconst 1, 1) := by decide +kernel
theorem dX10_twoOf_106 : decode cX10_twoOf 106 = .ok (.goto 4, 3) := by decide +kernel
theorem dX10_twoOf_109 : decode cX10_twoOf 109 = .ok (.iconst 0, 1) := by decide +kernel
theorem dX10_twoOf_110 : decode cX10_twoOf 110 = .ok (.ireturn, 1) := by decide +kernel
theorem dX10_isSo_0 : decode cX10_isSo 0 = .ok (.aload_n 0, 1) := by decide +kernel
theorem dX10_isSo_1 : decode cX10_isSo 1 = .ok (.getfield 56, 3) := by decide +kernel
theorem dX10_isSo_4 : decode cX10_isSo 4 = .ok (.iload_n 2, 1) := by decide +kernel
theorem dX10_isSo_5 : decode cX10_isSo 5 = .ok (.iaload, 1) := by decide +kernel
theorem dX10_isSo_6 : decode cX10_isSo 6 = .ok (.aload_n 0, 1) := by decide +kernel
theorem dX10_isSo_7 : decode cX10_isSo 7 = .ok (.getfield 59, 3) := by decide +kernel
theorem dX10_isSo_10 : decode cX10_isSo 10 = .ok (.iload_n 2, 1) := by decide +kernel
theorem dX10_isSo_11 : decode cX10_isSo 11 = .ok (.iaload, 1) := by decide +kernel
theorem dX10_isSo_12 : decode cX10_isSo 12 = .ok (.if_icmp .ne 5, 3) := by decide +kernel
theorem dX10_isSo_15 : decode cX10_isSo 15 = .ok (.iconst 1, 1) := by decide +kernel
theorem dX10_isSo_16 : decode cX10_isSo 16 = .ok (.ireturn, 1) := by decide +kernel
theorem dX10_isSo_17 : decode cX10_isSo 17 = .ok (.iconst 0, 1) := by decide +kernel
theorem dX10_isSo_18 : decode cX10_isSo 18 = .ok (.istore_n 3, 1) := by decide +kernel
theorem dX10_isSo_19 : decode cX10_isSo 19 = .ok (.sipush 400, 3) := by decide +kernel
theorem dX10_isSo_22 : decode cX10_isSo 22 = .ok (.iload_n 1, 1) := by decide +kernel
theorem dX10_isSo_23 : decode cX10_isSo 23 = .ok (.imul, 1) := by decide +kernel
theorem dX10_isSo_24 : decode cX10_isSo 24 = .ok (.aload_n 0, 1) := by decide +kernel
theorem dX10_isSo_25 : decode cX10_isSo 25 = .ok (.getfield 56, 3) := by decide +kernel
theorem dX10_isSo_28 : decode cX10_isSo 28 = .ok (.iload_n 2, 1) := by decide +kernel
theorem dX10_isSo_29 : decode cX10_isSo 29 = .ok (.iaload, 1) := by decide +kernel
theorem dX10_isSo_30 : decode cX10_isSo 30 = .ok (.iadd, 1) := by decide +kernel
theorem dX10_isSo_31 : decode cX10_isSo 31 = .ok (.istore 4, 2) := by decide +kernel
theorem dX10_isSo_33 : decode cX10_isSo 33 = .ok (.iload 4, 2) := by decide +kernel
theorem dX10_isSo_35 : decode cX10_isSo 35 = .ok (.sipush 400, 3) := by decide +kernel
theorem dX10_isSo_38 : decode cX10_isSo 38 = .ok (.iload_n 1, 1) := by decide +kernel
theorem dX10_isSo_39 : decode cX10_isSo 39 = .ok (.imul, 1) := by decide +kernel
theorem dX10_isSo_40 : decode cX10_isSo 40 = .ok (.aload_n 0, 1) := by decide +kernel
theorem dX10_isSo_41 : decode cX10_isSo 41 = .ok (.getfield 59, 3) := by decide +kernel
theorem dX10_isSo_44 : decode cX10_isSo 44 = .ok (.iload_n 2, 1) := by decide +kernel
theorem dX10_isSo_45 : decode cX10_isSo 45 = .ok (.iaload, 1) := by decide +kernel
theorem dX10_isSo_46 : decode cX10_isSo 46 = .ok (.iadd, 1) := by decide +kernel
theorem dX10_isSo_47 : decode cX10_isSo 47 = .ok (.if_icmp .ge 145, 3) := by decide +kernel
theorem dX10_isSo_50 : decode cX10_isSo 50 = .ok (.aload_n 0, 1) := by decide +kernel
theorem dX10_isSo_51 : decode cX10_isSo 51 = .ok (.getfield 62, 3) := by decide +kernel
theorem dX10_isSo_54 : decode cX10_isSo 54 = .ok (.iload 4, 2) := by decide +kernel
theorem dX10_isSo_56 : decode cX10_isSo 56 = .ok (.iaload, 1) := by decide +kernel
theorem dX10_isSo_57 : decode cX10_isSo 57 = .ok (.ifCond .eq 14, 3) := by decide +kernel
theorem dX10_isSo_60 : decode cX10_isSo 60 = .ok (.aload_n 0, 1) := by decide +kernel
theorem dX10_isSo_61 : decode cX10_isSo 61 = .ok (.getfield 62, 3) := by decide +kernel
theorem dX10_isSo_64 : decode cX10_isSo 64 = .ok (.iload 4, 2) := by decide +kernel
theorem dX10_isSo_66 : decode cX10_isSo 66 = .ok (.iaload, 1) := by decide +kernel
theorem dX10_isSo_67 : decode cX10_isSo 67 = .ok (.iconst 1, 1) := by decide +kernel
theorem dX10_isSo_68 : decode cX10_isSo 68 = .ok (.if_icmp .ne 48, 3) := by decide +kernel
theorem dX10_isSo_71 : decode cX10_isSo 71 = .ok (.aload_n 0, 1) := by decide +kernel
theorem dX10_isSo_72 : decode cX10_isSo 72 = .ok (.getfield 77, 3) := by decide +kernel
theorem dX10_isSo_75 : decode cX10_isSo 75 = .ok (.iload_n 3, 1) := by decide +kernel
theorem dX10_isSo_76 : decode cX10_isSo 76 = .ok (.aload_n 0, 1) := by decide +kernel
theorem dX10_isSo_77 : decode cX10_isSo 77 = .ok (.getfield 62, 3) := by decide +kernel
theorem dX10_isSo_80 : decode cX10_isSo 80 = .ok (.iload 4, 2) := by decide +kernel
theorem dX10_isSo_82 : decode cX10_isSo 82 = .ok (.iaload, 1) := by decide +kernel
theorem dX10_isSo_83 : decode cX10_isSo 83 = .ok (.ifCond .ne 13, 3) := by decide +kernel
theorem dX10_isSo_86 : decode cX10_isSo 86 = .ok (.aload_n 0, 1) := by decide +kernel
theorem dX10_isSo_87 : decode cX10_isSo 87 = .ok (.getfield 65, 3) := by decide +kernel
theorem dX10_isSo_90 : decode cX10_isSo 90 = .ok (.iload 4, 2) := by decide +kernel
theorem dX10_isSo_92 : decode cX10_isSo 92 = .ok (.iaload, 1) := by decide +kernel
theorem dX10_isSo_93 : decode cX10_isSo 93 = .ok (.goto 15, 3) := by decide +kernel
theorem dX10_isSo_96 : decode cX10_isSo 96 = .ok (.aload_n 0, 1) := by decide +kernel
theorem dX10_isSo_97 : decode cX10_isSo 97 = .ok (.getfield 74, 3) := by decide +kernel
theorem dX10_isSo_100 : decode cX10_isSo 100 = .ok (.aload_n 0, 1) := by decide +kernel
theorem dX10_isSo_101 : decode cX10_isSo 101 = .ok (.getfield 65, 3) := by decide +kernel
theorem dX10_isSo_104 : decode cX10_isSo 104 = .ok (.iload 4, 2) := by decide +kernel
theorem dX10_isSo_106 : decode cX10_isSo 106 = .ok (.iaload, 1) := by decide +kernel
theorem dX10_isSo_107 : decode cX10_isSo 107 = .ok (.iaload, 1) := by decide +kernel
theorem dX10_isSo_108 : decode cX10_isSo 108 = .ok (.iastore, 1) := by decide +kernel
theorem dX10_isSo_109 : decode cX10_isSo 109 = .ok (.iload_n 3, 1) := by decide +kernel
theorem dX10_isSo_110 : decode cX10_isSo 110 = .ok (.iconst 1, 1) := by decide +kernel
theorem dX10_isSo_111 : decode cX10_isSo 111 = .ok (.iadd, 1) := by decide +kernel
theorem dX10_isSo_112 : decode cX10_isSo 112 = .ok (.istore_n 3, 1) := by decide +kernel
theorem dX10_isSo_113 : decode cX10_isSo 113 = .ok (.goto 73, 3) := by decide +kernel
theorem dX10_isSo_116 : decode cX10_isSo 116 = .ok (.aload_n 0, 1) := by decide +kernel
theorem dX10_isSo_117 : decode cX10_isSo 117 = .ok (.getfield 62, 3) := by decide +kernel
theorem dX10_isSo_120 : decode cX10_isSo 120 = .ok (.iload 4, 2) := by decide +kernel
theorem dX10_isSo_122 : decode cX10_isSo 122 = .ok (.iaload, 1) := by decide +kernel
theorem dX10_isSo_123 : decode cX10_isSo 123 = .ok (.bipush 9, 2) := by decide +kernel
theorem dX10_isSo_125 : decode cX10_isSo 125 = .ok (.if_icmp .ne 24, 3) := by decide +kernel
theorem dX10_isSo_128 : decode cX10_isSo 128 = .ok (.aload_n 0, 1) := by decide +kernel
theorem dX10_isSo_129 : decode cX10_isSo 129 = .ok (.getfield 77, 3) := by decide +kernel
theorem dX10_isSo_132 : decode cX10_isSo 132 = .ok (.iload_n 3, 1) := by decide +kernel
theorem dX10_isSo_133 : decode cX10_isSo 133 = .ok (.iconst 1, 1) := by decide +kernel
theorem dX10_isSo_134 : decode cX10_isSo 134 = .ok (.isub, 1) := by decide +kernel
theorem dX10_isSo_135 : decode cX10_isSo 135 = .ok (.iconst 1, 1) := by decide +kernel
theorem dX10_isSo_136 : decode cX10_isSo 136 = .ok (.aload_n 0, 1) := by decide +kernel
theorem dX10_isSo_137 : decode cX10_isSo 137 = .ok (.getfield 77, 3) := by decide +kernel
theorem dX10_isSo_140 : decode cX10_isSo 140 = .ok (.iload_n 3, 1) := by decide +kernel
theorem dX10_isSo_141 : decode cX10_isSo 141 = .ok (.iconst 1, 1) := by decide +kernel
theorem dX10_isSo_142 : decode cX10_isSo 142 = .ok (.isub, 1) := by decide +kernel
theorem dX10_isSo_143 : decode cX10_isSo 143 = .ok (.iaload, 1) := by decide +kernel
theorem dX10_isSo_144 : decode cX10_isSo 144 = .ok (.isub, 1) := by decide +kernel
theorem dX10_isSo_145 : decode cX10_isSo 145 = .ok (.iastore, 1) := by decide +kernel
theorem dX10_isSo_146 : decode cX10_isSo 146 = .ok (.goto 40, 3) := by decide +kernel
theorem dX10_isSo_149 : decode cX10_isSo 149 = .ok (.iload_n 3, 1) := by decide +kernel
theorem dX10_isSo_150 : decode cX10_isSo 150 = .ok (.iconst 1, 1) := by decide +kernel
theorem dX10_isSo_151 : decode cX10_isSo 151 = .ok (.isub, 1) := by decide +kernel
theorem dX10_isSo_152 : decode cX10_isSo 152 = .ok (.istore_n 3, 1) := by decide +kernel
theorem dX10_isSo_153 : decode cX10_isSo 153 = .ok (.aload_n 0, 1) := by decide +kernel
theorem dX10_isSo_154 : decode cX10_isSo 154 = .ok (.getfield 77, 3) := by decide +kernel
theorem dX10_isSo_157 : decode cX10_isSo 157 = .ok (.iload_n 3, 1) := by decide +kernel
theorem dX10_isSo_158 : decode cX10_isSo 158 = .ok (.iconst 1, 1) := by decide +kernel
theorem dX10_isSo_159 : decode cX10_isSo 159 = .ok (.isub, 1) := by decide +kernel
theorem dX10_isSo_160 : decode cX10_isSo 160 = .ok (.aload_n 0, 1) := by decide +kernel
theorem dX10_isSo_161 : decode cX10_isSo 161 = .ok (.aload_n 0, 1) := by decide +kernel
theorem dX10_isSo_162 : decode cX10_isSo 162 = .ok (.getfield 62, 3) := by decide +kernel
theorem dX10_isSo_165 : decode cX10_isSo 165 = .ok (.iload 4, 2) := by decide +kernel
theorem dX10_isSo_167 : decode cX10_isSo 167 = .ok (.iaload, 1) := by decide +kernel
theorem dX10_isSo_168 : decode cX10_isSo 168 = .ok (.aload_n 0, 1) := by decide +kernel
theorem dX10_isSo_169 : decode cX10_isSo 169 = .ok (.getfield 77, 3) := by decide +kernel
theorem dX10_isSo_172 : decode cX10_isSo 172 = .ok (.iload_n 3, 1) := by decide +kernel
theorem dX10_isSo_173 : decode cX10_isSo 173 = .ok (.iconst 1, 1) := by decide +kernel
theorem dX10_isSo_174 : decode cX10_isSo 174 = .ok (.isub, 1) := by decide +kernel
theorem dX10_isSo_175 : decode cX10_isSo 175 = .ok (.iaload, 1) := by decide +kernel
theorem dX10_isSo_176 : decode cX10_isSo 176 = .ok (.aload_n 0, 1) := by decide +kernel
theorem dX10_isSo_177 : decode cX10_isSo 177 = .ok (.getfield 77, 3) := by decide +kernel
theorem dX10_isSo_180 : decode cX10_isSo 180 = .ok (.iload_n 3, 1) := by decide +kernel
theorem dX10_isSo_181 : decode cX10_isSo 181 = .ok (.iaload, 1) := by decide +kernel
theorem dX10_isSo_182 : decode cX10_isSo 182 = .ok (.invokevirtual 223, 3) := by decide +kernel
theorem dX10_isSo_185 : decode cX10_isSo 185 = .ok (.iastore, 1) := by decide +kernel
theorem dX10_isSo_186 : decode cX10_isSo 186 = .ok (.iinc 4 1, 3) := by decide +kernel
theorem dX10_isSo_189 : decode cX10_isSo 189 = .ok (.goto (-156), 3) := by decide +kernel
theorem dX10_isSo_192 : decode cX10_isSo 192 = .ok (.aload_n 0, 1) := by decide +kernel
theorem dX10_isSo_193 : decode cX10_isSo 193 = .ok (.getfield 77, 3) := by decide +kernel
theorem dX10_isSo_196 : decode cX10_isSo 196 = .ok (.iconst 0, 1) := by decide +kernel
theorem dX10_isSo_197 : decode cX10_isSo 197 = .ok (.iaload, 1) := by decide +kernel
theorem dX10_isSo_198 : decode cX10_isSo 198 = .ok (.ifCond .eq 7, 3) := by decide +kernel
theorem dX10_isSo_201 : decode cX10_isSo 201 = .ok (.iconst 1, 1) := by decide +kernel
theorem dX10_isSo_202 : decode cX10_isSo 202 = .ok (.goto 4, 3) := by decide +kernel
theorem dX10_isSo_205 : decode cX10_isSo 205 = .ok (.iconst 0, 1) := by decide +kernel
theorem dX10_isSo_206 : decode cX10_isSo 206 = .ok (.ireturn, 1) := by decide +kernel
theorem dX10_lengthOf_0 : decode cX10_lengthOf 0 = .ok (.aload_n 0, 1) := by decide +kernel
theorem dX10_lengthOf_1 : decode cX10_lengthOf 1 = .ok (.aload_n 0, 1) := by decide +kernel
theorem dX10_lengthOf_2 : decode cX10_lengthOf 2 = .ok (.getfield 13, 3) := by decide +kernel
theorem dX10_lengthOf_5 : decode cX10_lengthOf 5 = .ok (.iload_n 1, 1) := by decide +kernel
theorem dX10_lengthOf_6 : decode cX10_lengthOf 6 = .ok (.iaload, 1) := by decide +kernel
theorem dX10_lengthOf_7 : decode cX10_lengthOf 7 = .ok (.aload_n 0, 1) := by decide +kernel
theorem dX10_lengthOf_8 : decode cX10_lengthOf 8 = .ok (.getfield 13, 3) := by decide +kernel
theorem dX10_lengthOf_11 : decode cX10_lengthOf 11 = .ok (.iload_n 2, 1) := by decide +kernel
theorem dX10_lengthOf_12 : decode cX10_lengthOf 12 = .ok (.iaload, 1) := by decide +kernel
theorem dX10_lengthOf_13 : decode cX10_lengthOf 13 = .ok (.isub, 1) := by decide +kernel
theorem dX10_lengthOf_14 : decode cX10_lengthOf 14 = .ok (.invokevirtual 227, 3) := by decide +kernel
theorem dX10_lengthOf_17 : decode cX10_lengthOf 17 = .ok (.istore_n 3, 1) := by decide +kernel
theorem dX10_lengthOf_18 : decode cX10_lengthOf 18 = .ok (.aload_n 0, 1) := by decide +kernel
theorem dX10_lengthOf_19 : decode cX10_lengthOf 19 = .ok (.aload_n 0, 1) := by decide +kernel
theorem dX10_lengthOf_20 : decode cX10_lengthOf 20 = .ok (.getfield 17, 3) := by decide +kernel
theorem dX10_lengthOf_23 : decode cX10_lengthOf 23 = .ok (.iload_n 1, 1) := by decide +kernel
theorem dX10_lengthOf_24 : decode cX10_lengthOf 24 = .ok (.iaload, 1) := by decide +kernel
theorem dX10_lengthOf_25 : decode cX10_lengthOf 25 = .ok (.aload_n 0, 1) := by decide +kernel
theorem dX10_lengthOf_26 : decode cX10_lengthOf 26 = .ok (.getfield 17, 3) := by decide +kernel
theorem dX10_lengthOf_29 : decode cX10_lengthOf 29 = .ok (.iload_n 2, 1) := by decide +kernel
theorem dX10_lengthOf_30 : decode cX10_lengthOf 30 = .ok (.iaload, 1) := by decide +kernel
theorem dX10_lengthOf_31 : decode cX10_lengthOf 31 = .ok (.isub, 1) := by decide +kernel
theorem dX10_lengthOf_32 : decode cX10_lengthOf 32 = .ok (.invokevirtual 227, 3) := by decide +kernel
theorem dX10_lengthOf_35 : decode cX10_lengthOf 35 = .ok (.istore 4, 2) := by decide +kernel
theorem dX10_lengthOf_37 : decode cX10_lengthOf 37 = .ok (.iload_n 3, 1) := by decide +kernel
theorem dX10_lengthOf_38 : decode cX10_lengthOf 38 = .ok (.iload 4, 2) := by decide +kernel
theorem dX10_lengthOf_40 : decode cX10_lengthOf 40 = .ok (.if_icmp .le 7, 3) := by decide +kernel
theorem dX10_lengthOf_43 : decode cX10_lengthOf 43 = .ok (.iload_n 3, 1) := by decide +kernel
theorem dX10_lengthOf_44 : decode cX10_lengthOf 44 = .ok (.goto 5, 3) := by decide +kernel
theorem dX10_lengthOf_47 : decode cX10_lengthOf 47 = .ok (.iload 4, 2) := by decide +kernel
theorem dX10_lengthOf_49 : decode cX10_lengthOf 49 = .ok (.ireturn, 1) := by decide +kernel
theorem dX10_inSquare_0 : decode cX10_inSquare 0 = .ok (.iload_n 1, 1) := by decide +kernel
theorem dX10_inSquare_1 : decode cX10_inSquare 1 = .ok (.iload_n 2, 1) := by decide +kernel
theorem dX10_inSquare_2 : decode cX10_inSquare 2 = .ok (.idiv, 1) := by decide +kernel
theorem dX10_inSquare_3 : decode cX10_inSquare 3 = .ok (.aload_n 0, 1) := by decide +kernel
theorem dX10_inSquare_4 : decode cX10_inSquare 4 = .ok (.getfield 7, 3) := by decide +kernel
theorem dX10_inSquare_7 : decode cX10_inSquare 7 = .ok (.if_icmp .ge 9, 3) := by decide +kernel
theorem dX10_inSquare_10 : decode cX10_inSquare 10 = .ok (.iload_n 1, 1) := by decide +kernel
theorem dX10_inSquare_11 : decode cX10_inSquare 11 = .ok (.iload_n 2, 1) := by decide +kernel
theorem dX10_inSquare_12 : decode cX10_inSquare 12 = .ok (.idiv, 1) := by decide +kernel
theorem dX10_inSquare_13 : decode cX10_inSquare 13 = .ok (.goto 9, 3) := by decide +kernel
theorem dX10_inSquare_16 : decode cX10_inSquare 16 = .ok (.aload_n 0, 1) := by decide +kernel
theorem dX10_inSquare_17 : decode cX10_inSquare 17 = .ok (.getfield 7, 3) := by decide +kernel
theorem dX10_inSquare_20 : decode cX10_inSquare 20 = .ok (.iconst 1, 1) := by decide +kernel
theorem dX10_inSquare_21 : decode cX10_inSquare 21 = .ok (.isub, 1) := by decide +kernel
theorem dX10_inSquare_22 : decode cX10_inSquare 22 = .ok (.ireturn, 1) := by decide +kernel
theorem dX10_findsSamples_0 : decode cX10_findsSamples 0 = .ok (.iconst 0, 1) := by decide +kernel
theorem dX10_findsSamples_1 : decode cX10_findsSamples 1 = .ok (.istore_n 3, 1) := by decide +kernel
theorem dX10_findsSamples_2 : decode cX10_findsSamples 2 = .ok (.iload_n 3, 1) := by decide +kernel
theorem dX10_findsSamples_3 : decode cX10_findsSamples 3 = .ok (.bipush 64, 2) := by decide +kernel
theorem dX10_findsSamples_5 : decode cX10_findsSamples 5 = .ok (.if_icmp .ge 16, 3) := by decide +kernel
theorem dX10_findsSamples_8 : decode cX10_findsSamples 8 = .ok (.aload_n 0, 1) := by decide +kernel
theorem dX10_findsSamples_9 : decode cX10_findsSamples 9 = .ok (.getfield 80, 3) := by decide +kernel
theorem dX10_findsSamples_12 : decode cX10_findsSamples 12 = .ok (.iload_n 3, 1) := by decide +kernel
theorem dX10_findsSamples_13 : decode cX10_findsSamples 13 = .ok (.iconst 0, 1) := by decide +kernel
theorem dX10_findsSamples_14 : decode cX10_findsSamples 14 = .ok (.iastore, 1) := by decide +kernel
theorem dX10_findsSamples_15 : decode cX10_findsSamples 15 = .ok (.iinc 3 1, 3) := by decide +kernel
theorem dX10_findsSamples_18 : decode cX10_findsSamples 18 = .ok (.goto (-16), 3) := by decide +kernel
theorem dX10_findsSamples_21 : decode cX10_findsSamples 21 = .ok (.iload_n 1, 1) := by decide +kernel
theorem dX10_findsSamples_22 : decode cX10_findsSamples 22 = .ok (.iload_n 2, 1) := by decide +kernel
theorem dX10_findsSamples_23 : decode cX10_findsSamples 23 = .ok (.if_icmp .ge 7, 3) := by decide +kernel
theorem dX10_findsSamples_26 : decode cX10_findsSamples 26 = .ok (.iload_n 1, 1) := by decide +kernel
theorem dX10_findsSamples_27 : decode cX10_findsSamples 27 = .ok (.goto 4, 3) := by decide +kernel
theorem dX10_findsSamples_30 : decode cX10_findsSamples 30 = .ok (.iload_n 2, 1) := by decide +kernel
theorem dX10_findsSamples_31 : decode cX10_findsSamples 31 = .ok (.istore_n 3, 1) := by decide +kernel
theorem dX10_findsSamples_32 : decode cX10_findsSamples 32 = .ok (.iload_n 1, 1) := by decide +kernel
theorem dX10_findsSamples_33 : decode cX10_findsSamples 33 = .ok (.iload_n 2, 1) := by decide +kernel
theorem dX10_findsSamples_34 : decode cX10_findsSamples 34 = .ok (.if_icmp .ge 7, 3) := by decide +kernel
theorem dX10_findsSamples_37 : decode cX10_findsSamples 37 = .ok (.iload_n 2, 1) := by decide +kernel
theorem dX10_findsSamples_38 : decode cX10_findsSamples 38 = .ok (.goto 4, 3) := by decide +kernel
theorem dX10_findsSamples_41 : decode cX10_findsSamples 41 = .ok (.iload_n 1, 1) := by decide +kernel
theorem dX10_findsSamples_42 : decode cX10_findsSamples 42 = .ok (.istore 4, 2) := by decide +kernel
theorem dX10_findsSamples_44 : decode cX10_findsSamples 44 = .ok (.bipush 8, 2) := by decide +kernel
theorem dX10_findsSamples_46 : decode cX10_findsSamples 46 = .ok (.aload_n 0, 1) := by decide +kernel
theorem dX10_findsSamples_47 : decode cX10_findsSamples 47 = .ok (.iload_n 3, 1) := by decide +kernel
theorem dX10_findsSamples_48 : decode cX10_findsSamples 48 = .ok (.iload 4, 2) := by decide +kernel
theorem dX10_findsSamples_50 : decode cX10_findsSamples 50 = .ok (.invokevirtual 230, 3) := by decide +kernel
theorem dX10_findsSamples_53 : decode cX10_findsSamples 53 = .ok (.imul, 1) := by decide +kernel
theorem dX10_findsSamples_54 : decode cX10_findsSamples 54 = .ok (.istore 5, 2) := by decide +kernel
theorem dX10_findsSamples_56 : decode cX10_findsSamples 56 = .ok (.iconst 0, 1) := by decide +kernel
theorem dX10_findsSamples_57 : decode cX10_findsSamples 57 = .ok (.istore 6, 2) := by decide +kernel
theorem dX10_findsSamples_59 : decode cX10_findsSamples 59 = .ok (.iload 6, 2) := by decide +kernel
theorem dX10_findsSamples_61 : decode cX10_findsSamples 61 = .ok (.iload 5, 2) := by decide +kernel
theorem dX10_findsSamples_63 : decode cX10_findsSamples 63 = .ok (.if_icmp .ge 123, 3) := by decide +kernel
theorem dX10_findsSamples_66 : decode cX10_findsSamples 66 = .ok (.aload_n 0, 1) := by decide +kernel
theorem dX10_findsSamples_67 : decode cX10_findsSamples 67 = .ok (.iconst 2, 1) := by decide +kernel
theorem dX10_findsSamples_68 : decode cX10_findsSamples 68 = .ok (.iload 5, 2) := by decide +kernel
theorem dX10_findsSamples_70 : decode cX10_findsSamples 70 = .ok (.imul, 1) := by decide +kernel
theorem dX10_findsSamples_71 : decode cX10_findsSamples 71 = .ok (.aload_n 0, 1) := by decide +kernel
theorem dX10_findsSamples_72 : decode cX10_findsSamples 72 = .ok (.getfield 13, 3) := by decide +kernel
theorem dX10_findsSamples_75 : decode cX10_findsSamples 75 = .ok (.iload_n 3, 1) := by decide +kernel
theorem dX10_findsSamples_76 : decode cX10_findsSamples 76 = .ok (.iaload, 1) := by decide +kernel
theorem dX10_findsSamples_77 : decode cX10_findsSamples 77 = .ok (.imul, 1) := by decide +kernel
theorem dX10_findsSamples_78 : decode cX10_findsSamples 78 = .ok (.aload_n 0, 1) := by decide +kernel
theorem dX10_findsSamples_79 : decode cX10_findsSamples 79 = .ok (.getfield 13, 3) := by decide +kernel
theorem dX10_findsSamples_82 : decode cX10_findsSamples 82 = .ok (.iload 4, 2) := by decide +kernel
theorem dX10_findsSamples_84 : decode cX10_findsSamples 84 = .ok (.iaload, 1) := by decide +kernel
theorem dX10_findsSamples_85 : decode cX10_findsSamples 85 = .ok (.aload_n 0, 1) := by decide +kernel
theorem dX10_findsSamples_86 : decode cX10_findsSamples 86 = .ok (.getfield 13, 3) := by decide +kernel
theorem dX10_findsSamples_89 : decode cX10_findsSamples 89 = .ok (.iload_n 3, 1) := by decide +kernel
theorem dX10_findsSamples_90 : decode cX10_findsSamples 90 = .ok (.iaload, 1) := by decide +kernel
theorem dX10_findsSamples_91 : decode cX10_findsSamples 91 = .ok (.isub, 1) := by decide +kernel
theorem dX10_findsSamples_92 : decode cX10_findsSamples 92 = .ok (.iconst 2, 1) := by decide +kernel
theorem dX10_findsSamples_93 : decode cX10_findsSamples 93 = .ok (.iload 6, 2) := by decide +kernel
theorem dX10_findsSamples_95 : decode cX10_findsSamples 95 = .ok (.imul, 1) := by decide +kernel
theorem dX10_findsSamples_96 : decode cX10_findsSamples 96 = .ok (.iconst 1, 1) := by decide +kernel
theorem dX10_findsSamples_97 : decode cX10_findsSamples 97 = .ok (.iadd, 1) := by decide +kernel
theorem dX10_findsSamples_98 : decode cX10_findsSamples 98 = .ok (.imul, 1) := by decide +kernel
theorem dX10_findsSamples_99 : decode cX10_findsSamples 99 = .ok (.iadd, 1) := by decide +kernel
theorem dX10_findsSamples_100 : decode cX10_findsSamples 100 = .ok (.iconst 2, 1) := by decide +kernel
theorem dX10_findsSamples_101 : decode cX10_findsSamples 101 = .ok (.iload 5, 2) := by decide +kernel
theorem dX10_findsSamples_103 : decode cX10_findsSamples 103 = .ok (.imul, 1) := by decide +kernel
theorem dX10_findsSamples_104 : decode cX10_findsSamples 104 = .ok (.invokevirtual 233, 3) := by decide +kernel
theorem dX10_findsSamples_107 : decode cX10_findsSamples 107 = .ok (.istore 7, 2) := by decide +kernel
theorem dX10_findsSamples_109 : decode cX10_findsSamples 109 = .ok (.aload_n 0, 1) := by decide +kernel
theorem dX10_findsSamples_110 : decode cX10_findsSamples 110 = .ok (.iconst 2, 1) := by decide +kernel
theorem dX10_findsSamples_111 : decode cX10_findsSamples 111 = .ok (.iload 5, 2) := by decide +kernel
theorem dX10_findsSamples_113 : decode cX10_findsSamples 113 = .ok (.imul, 1) := by decide +kernel
theorem dX10_findsSamples_114 : decode cX10_findsSamples 114 = .ok (.aload_n 0, 1) := by decide +kernel
theorem dX10_findsSamples_115 : decode cX10_findsSamples 115 = .ok (.getfield 17, 3) := by decide +kernel
theorem dX10_findsSamples_118 : decode cX10_findsSamples 118 = .ok (.iload_n 3, 1) := by decide +kernel
theorem dX10_findsSamples_119 : decode cX10_findsSamples 119 = .ok (.iaload, 1) := by decide +kernel
theorem dX10_findsSamples_120 : decode cX10_findsSamples 120 = .ok (.imul, 1) := by decide +kernel
theorem dX10_findsSamples_121 : decode cX10_findsSamples 121 = .ok (.aload_n 0, 1) := by decide +kernel
theorem dX10_findsSamples_122 : decode cX10_findsSamples 122 = .ok (.getfield 17, 3) := by decide +kernel
theorem dX10_findsSamples_125 : decode cX10_findsSamples 125 = .ok (.iload 4, 2) := by decide +kernel
theorem dX10_findsSamples_127 : decode cX10_findsSamples 127 = .ok (.iaload, 1) := by decide +kernel
theorem dX10_findsSamples_128 : decode cX10_findsSamples 128 = .ok (.aload_n 0, 1) := by decide +kernel
theorem dX10_findsSamples_129 : decode cX10_findsSamples 129 = .ok (.getfield 17, 3) := by decide +kernel
theorem dX10_findsSamples_132 : decode cX10_findsSamples 132 = .ok (.iload_n 3, 1) := by decide +kernel
theorem dX10_findsSamples_133 : decode cX10_findsSamples 133 = .ok (.iaload, 1) := by decide +kernel
theorem dX10_findsSamples_134 : decode cX10_findsSamples 134 = .ok (.isub, 1) := by decide +kernel
theorem dX10_findsSamples_135 : decode cX10_findsSamples 135 = .ok (.iconst 2, 1) := by decide +kernel
theorem dX10_findsSamples_136 : decode cX10_findsSamples 136 = .ok (.iload 6, 2) := by decide +kernel
theorem dX10_findsSamples_138 : decode cX10_findsSamples 138 = .ok (.imul, 1) := by decide +kernel
theorem dX10_findsSamples_139 : decode cX10_findsSamples 139 = .ok (.iconst 1, 1) := by decide +kernel
theorem dX10_findsSamples_140 : decode cX10_findsSamples 140 = .ok (.iadd, 1) := by decide +kernel
theorem dX10_findsSamples_141 : decode cX10_findsSamples 141 = .ok (.imul, 1) := by decide +kernel
theorem dX10_findsSamples_142 : decode cX10_findsSamples 142 = .ok (.iadd, 1) := by decide +kernel
theorem dX10_findsSamples_143 : decode cX10_findsSamples 143 = .ok (.iconst 2, 1) := by decide +kernel
theorem dX10_findsSamples_144 : decode cX10_findsSamples 144 = .ok (.iload 5, 2) := by decide +kernel
theorem dX10_findsSamples_146 : decode cX10_findsSamples 146 = .ok (.imul, 1) := by decide +kernel
theorem dX10_findsSamples_147 : decode cX10_findsSamples 147 = .ok (.invokevirtual 233, 3) := by decide +kernel
theorem dX10_findsSamples_150 : decode cX10_findsSamples 150 = .ok (.istore 8, 2) := by decide +kernel
theorem dX10_findsSamples_152 : decode cX10_findsSamples 152 = .ok (.aload_n 0, 1) := by decide +kernel
theorem dX10_findsSamples_153 : decode cX10_findsSamples 153 = .ok (.getfield 80, 3) := by decide +kernel
theorem dX10_findsSamples_156 : decode cX10_findsSamples 156 = .ok (.bipush 8, 2) := by decide +kernel
theorem dX10_findsSamples_158 : decode cX10_findsSamples 158 = .ok (.iload 8, 2) := by decide +kernel
theorem dX10_findsSamples_160 : decode cX10_findsSamples 160 = .ok (.imul, 1) := by decide +kernel
theorem dX10_findsSamples_161 : decode cX10_findsSamples 161 = .ok (.iload 7, 2) := by decide +kernel
theorem dX10_findsSamples_163 : decode cX10_findsSamples 163 = .ok (.iadd, 1) := by decide +kernel
theorem dX10_findsSamples_164 : decode cX10_findsSamples 164 = .ok (.aload_n 0, 1) := by decide +kernel
theorem dX10_findsSamples_165 : decode cX10_findsSamples 165 = .ok (.getfield 80, 3) := by decide +kernel
theorem dX10_findsSamples_168 : decode cX10_findsSamples 168 = .ok (.bipush 8, 2) := by decide +kernel
theorem dX10_findsSamples_170 : decode cX10_findsSamples 170 = .ok (.iload 8, 2) := by decide +kernel
theorem dX10_findsSamples_172 : decode cX10_findsSamples 172 = .ok (.imul, 1) := by decide +kernel
theorem dX10_findsSamples_173 : decode cX10_findsSamples 173 = .ok (.iload 7, 2) := by decide +kernel
theorem dX10_findsSamples_175 : decode cX10_findsSamples 175 = .ok (.iadd, 1) := by decide +kernel
theorem dX10_findsSamples_176 : decode cX10_findsSamples 176 = .ok (.iaload, 1) := by decide +kernel
theorem dX10_findsSamples_177 : decode cX10_findsSamples 177 = .ok (.iconst 1, 1) := by decide +kernel
theorem dX10_findsSamples_178 : decode cX10_findsSamples 178 = .ok (.iadd, 1) := by decide +kernel
theorem dX10_findsSamples_179 : decode cX10_findsSamples 179 = .ok (.iastore, 1) := by decide +kernel
theorem dX10_findsSamples_180 : decode cX10_findsSamples 180 = .ok (.iinc 6 1, 3) := by decide +kernel
theorem dX10_findsSamples_183 : decode cX10_findsSamples 183 = .ok (.goto (-124), 3) := by decide +kernel
theorem dX10_findsSamples_186 : decode cX10_findsSamples 186 = .ok (.return_, 1) := by decide +kernel
theorem dX10_darkens_0 : decode cX10_darkens 0 = .ok (.aload_n 0, 1) := by decide +kernel
theorem dX10_darkens_1 : decode cX10_darkens 1 = .ok (.iload_n 1, 1) := by decide +kernel
theorem dX10_darkens_2 : decode cX10_darkens 2 = .ok (.iload_n 2, 1) := by decide +kernel
theorem dX10_darkens_3 : decode cX10_darkens 3 = .ok (.invokevirtual 236, 3) := by decide +kernel
theorem dX10_darkens_6 : decode cX10_darkens 6 = .ok (.iconst 0, 1) := by decide +kernel
theorem dX10_darkens_7 : decode cX10_darkens 7 = .ok (.istore 4, 2) := by decide +kernel
theorem dX10_darkens_9 : decode cX10_darkens 9 = .ok (.iload 4, 2) := by decide +kernel
theorem dX10_darkens_11 : decode cX10_darkens 11 = .ok (.bipush 64, 2) := by decide +kernel
theorem dX10_darkens_13 : decode cX10_darkens 13 = .ok (.if_icmp .ge 33, 3) := by decide +kernel
theorem dX10_darkens_16 : decode cX10_darkens 16 = .ok (.aload_n 0, 1) := by decide +kernel
theorem dX10_darkens_17 : decode cX10_darkens 17 = .ok (.getfield 83, 3) := by decide +kernel
theorem dX10_darkens_20 : decode cX10_darkens 20 = .ok (.iload 4, 2) := by decide +kernel
theorem dX10_darkens_22 : decode cX10_darkens 22 = .ok (.aload_n 0, 1) := by decide +kernel
theorem dX10_darkens_23 : decode cX10_darkens 23 = .ok (.getfield 83, 3) := by decide +kernel
theorem dX10_darkens_26 : decode cX10_darkens 26 = .ok (.iload 4, 2) := by decide +kernel
theorem dX10_darkens_28 : decode cX10_darkens 28 = .ok (.iaload, 1) := by decide +kernel
theorem dX10_darkens_29 : decode cX10_darkens 29 = .ok (.iload_n 3, 1) := by decide +kernel
theorem dX10_darkens_30 : decode cX10_darkens 30 = .ok (.aload_n 0, 1) := by decide +kernel
theorem dX10_darkens_31 : decode cX10_darkens 31 = .ok (.getfield 80, 3) := by decide +kernel
theorem dX10_darkens_34 : decode cX10_darkens 34 = .ok (.iload 4, 2) := by decide +kernel
theorem dX10_darkens_36 : decode cX10_darkens 36 = .ok (.iaload, 1) := by decide +kernel
theorem dX10_darkens_37 : decode cX10_darkens 37 = .ok (.imul, 1) := by decide +kernel
theorem dX10_darkens_38 : decode cX10_darkens 38 = .ok (.iadd, 1) := by decide +kernel
theorem dX10_darkens_39 : decode cX10_darkens 39 = .ok (.iastore, 1) := by decide +kernel
theorem dX10_darkens_40 : decode cX10_darkens 40 = .ok (.iinc 4 1, 3) := by decide +kernel
theorem dX10_darkens_43 : decode cX10_darkens 43 = .ok (.goto (-34), 3) := by decide +kernel
theorem dX10_darkens_46 : decode cX10_darkens 46 = .ok (.return_, 1) := by decide +kernel
theorem dX10_woundAt_0 : decode cX10_woundAt 0 = .ok (.aload_n 0, 1) := by decide +kernel
theorem dX10_woundAt_1 : decode cX10_woundAt 1 = .ok (.getfield 26, 3) := by decide +kernel
theorem dX10_woundAt_4 : decode cX10_woundAt 4 = .ok (.bipush 120, 2) := by decide +kernel
theorem dX10_woundAt_6 : decode cX10_woundAt 6 = .ok (.iload_n 1, 1) := by decide +kernel
theorem dX10_woundAt_7 : decode cX10_woundAt 7 = .ok (.imul, 1) := by decide +kernel
theorem dX10_woundAt_8 : decode cX10_woundAt 8 = .ok (.iload_n 2, 1) := by decide +kernel
theorem dX10_woundAt_9 : decode cX10_woundAt 9 = .ok (.iadd, 1) := by decide +kernel
theorem dX10_woundAt_10 : decode cX10_woundAt 10 = .ok (.iaload, 1) := by decide +kernel
theorem dX10_woundAt_11 : decode cX10_woundAt 11 = .ok (.ireturn, 1) := by decide +kernel
theorem dX10_findsDark_0 : decode cX10_findsDark 0 = .ok (.iconst 0, 1) := by decide +kernel
theorem dX10_findsDark_1 : decode cX10_findsDark 1 = .ok (.istore_n 1, 1) := by decide +kernel
theorem dX10_findsDark_2 : decode cX10_findsDark 2 = .ok (.iload_n 1, 1) := by decide +kernel
theorem dX10_findsDark_3 : decode cX10_findsDark 3 = .ok (.bipush 64, 2) := by decide +kernel
theorem dX10_findsDark_5 : decode cX10_findsDark 5 = .ok (.if_icmp .ge 16, 3) := by decide +kernel
theorem dX10_findsDark_8 : decode cX10_findsDark 8 = .ok (.aload_n 0, 1) := by decide +kernel
theorem dX10_findsDark_9 : decode cX10_findsDark 9 = .ok (.getfield 83, 3) := by decide +kernel
theorem dX10_findsDark_12 : decode cX10_findsDark 12 = .ok (.iload_n 1, 1) := by decide +kernel
theorem dX10_findsDark_13 : decode cX10_findsDark 13 = .ok (.iconst 0, 1) := by decide +kernel
theorem dX10_findsDark_14 : decode cX10_findsDark 14 = .ok (.iastore, 1) := by decide +kernel
theorem dX10_findsDark_15 : decode cX10_findsDark 15 = .ok (.iinc 1 1, 3) := by decide +kernel
theorem dX10_findsDark_18 : decode cX10_findsDark 18 = .ok (.goto (-16), 3) := by decide +kernel
theorem dX10_findsDark_21 : decode cX10_findsDark 21 = .ok (.iconst 0, 1) := by decide +kernel
theorem dX10_findsDark_22 : decode cX10_findsDark 22 = .ok (.istore_n 1, 1) := by decide +kernel
theorem dX10_findsDark_23 : decode cX10_findsDark 23 = .ok (.iload_n 1, 1) := by decide +kernel
theorem dX10_findsDark_24 : decode cX10_findsDark 24 = .ok (.iconst 3, 1) := by decide +kernel
theorem dX10_findsDark_25 : decode cX10_findsDark 25 = .ok (.if_icmp .ge 53, 3) := by decide +kernel
theorem dX10_findsDark_28 : decode cX10_findsDark 28 = .ok (.iconst 0, 1) := by decide +kernel
theorem dX10_findsDark_29 : decode cX10_findsDark 29 = .ok (.istore_n 2, 1) := by decide +kernel
theorem dX10_findsDark_30 : decode cX10_findsDark 30 = .ok (.iload_n 2, 1) := by decide +kernel
theorem dX10_findsDark_31 : decode cX10_findsDark 31 = .ok (.iconst 1, 1) := by decide +kernel
theorem dX10_findsDark_32 : decode cX10_findsDark 32 = .ok (.iadd, 1) := by decide +kernel
theorem dX10_findsDark_33 : decode cX10_findsDark 33 = .ok (.aload_n 0, 1) := by decide +kernel
theorem dX10_findsDark_34 : decode cX10_findsDark 34 = .ok (.getfield 23, 3) := by decide +kernel
theorem dX10_findsDark_37 : decode cX10_findsDark 37 = .ok (.iload_n 1, 1) := by decide +kernel
theorem dX10_findsDark_38 : decode cX10_findsDark 38 = .ok (.iaload, 1) := by decide +kernel
theorem dX10_findsDark_39 : decode cX10_findsDark 39 = .ok (.if_icmp .ge 33, 3) := by decide +kernel
theorem dX10_findsDark_42 : decode cX10_findsDark 42 = .ok (.aload_n 0, 1) := by decide +kernel
theorem dX10_findsDark_43 : decode cX10_findsDark 43 = .ok (.aload_n 0, 1) := by decide +kernel
theorem dX10_findsDark_44 : decode cX10_findsDark 44 = .ok (.iload_n 1, 1) := by decide +kernel
theorem dX10_findsDark_45 : decode cX10_findsDark 45 = .ok (.iload_n 2, 1) := by decide +kernel
theorem dX10_findsDark_46 : decode cX10_findsDark 46 = .ok (.invokevirtual 239, 3) := by decide +kernel
theorem dX10_findsDark_49 : decode cX10_findsDark 49 = .ok (.aload_n 0, 1) := by decide +kernel
theorem dX10_findsDark_50 : decode cX10_findsDark 50 = .ok (.iload_n 1, 1) := by decide +kernel
theorem dX10_findsDark_51 : decode cX10_findsDark 51 = .ok (.iload_n 2, 1) := by decide +kernel
theorem dX10_findsDark_52 : decode cX10_findsDark 52 = .ok (.iconst 1, 1) := by decide +kernel
theorem dX10_findsDark_53 : decode cX10_findsDark 53 = .ok (.iadd, 1) := by decide +kernel
theorem dX10_findsDark_54 : decode cX10_findsDark 54 = .ok (.invokevirtual 239, 3) := by decide +kernel
theorem dX10_findsDark_57 : decode cX10_findsDark 57 = .ok (.aload_n 0, 1) := by decide +kernel
theorem dX10_findsDark_58 : decode cX10_findsDark 58 = .ok (.getfield 20, 3) := by decide +kernel
theorem dX10_findsDark_61 : decode cX10_findsDark 61 = .ok (.iload_n 1, 1) := by decide +kernel
theorem dX10_findsDark_62 : decode cX10_findsDark 62 = .ok (.iaload, 1) := by decide +kernel
theorem dX10_findsDark_63 : decode cX10_findsDark 63 = .ok (.invokevirtual 242, 3) := by decide +kernel
theorem dX10_findsDark_66 : decode cX10_findsDark 66 = .ok (.iinc 2 1, 3) := by decide +kernel
theorem dX10_findsDark_69 : decode cX10_findsDark 69 = .ok (.goto (-39), 3) := by decide +kernel
theorem dX10_findsDark_72 : decode cX10_findsDark 72 = .ok (.iinc 1 1, 3) := by decide +kernel
theorem dX10_findsDark_75 : decode cX10_findsDark 75 = .ok (.goto (-52), 3) := by decide +kernel
theorem dX10_findsDark_78 : decode cX10_findsDark 78 = .ok (.return_, 1) := by decide +kernel
theorem dX10_farOf_0 : decode cX10_farOf 0 = .ok (.iconst 0, 1) := by decide +kernel
theorem dX10_farOf_1 : decode cX10_farOf 1 = .ok (.istore_n 2, 1) := by decide +kernel
theorem dX10_farOf_2 : decode cX10_farOf 2 = .ok (.iconst 0, 1) := by decide +kernel
theorem dX10_farOf_3 : decode cX10_farOf 3 = .ok (.istore_n 3, 1) := by decide +kernel
theorem dX10_farOf_4 : decode cX10_farOf 4 = .ok (.iload_n 3, 1) := by decide +kernel
theorem dX10_farOf_5 : decode cX10_farOf 5 = .ok (.bipush 64, 2) := by decide +kernel
theorem dX10_farOf_7 : decode cX10_farOf 7 = .ok (.if_icmp .ge 65, 3) := by decide +kernel
theorem dX10_farOf_10 : decode cX10_farOf 10 = .ok (.iload_n 3, 1) := by decide +kernel
theorem dX10_farOf_11 : decode cX10_farOf 11 = .ok (.bipush 8, 2) := by decide +kernel
theorem dX10_farOf_13 : decode cX10_farOf 13 = .ok (.irem, 1) := by decide +kernel
theorem dX10_farOf_14 : decode cX10_farOf 14 = .ok (.aload_n 0, 1) := by decide +kernel
theorem dX10_farOf_15 : decode cX10_farOf 15 = .ok (.getfield 7, 3) := by decide +kernel
theorem dX10_farOf_18 : decode cX10_farOf 18 = .ok (.if_icmp .ge 48, 3) := by decide +kernel
theorem dX10_farOf_21 : decode cX10_farOf 21 = .ok (.iload_n 3, 1) := by decide +kernel
theorem dX10_farOf_22 : decode cX10_farOf 22 = .ok (.bipush 8, 2) := by decide +kernel
theorem dX10_farOf_24 : decode cX10_farOf 24 = .ok (.idiv, 1) := by decide +kernel
theorem dX10_farOf_25 : decode cX10_farOf 25 = .ok (.aload_n 0, 1) := by decide +kernel
theorem dX10_farOf_26 : decode cX10_farOf 26 = .ok (.getfield 7, 3) := by decide +kernel
theorem dX10_farOf_29 : decode cX10_farOf 29 = .ok (.if_icmp .ge 37, 3) := by decide +kernel
theorem dX10_farOf_32 : decode cX10_farOf 32 = .ok (.iload_n 2, 1) := by decide +kernel
theorem dX10_farOf_33 : decode cX10_farOf 33 = .ok (.aload_n 0, 1) := by decide +kernel
theorem dX10_farOf_34 : decode cX10_farOf 34 = .ok (.getfield 32, 3) := by decide +kernel
theorem dX10_farOf_37 : decode cX10_farOf 37 = .ok (.iload_n 3, 1) := by decide +kernel
theorem dX10_farOf_38 : decode cX10_farOf 38 = .ok (.iaload, 1) := by decide +kernel
theorem dX10_farOf_39 : decode cX10_farOf 39 = .ok (.iconst 1, 1) := by decide +kernel
theorem dX10_farOf_40 : decode cX10_farOf 40 = .ok (.iadd, 1) := by decide +kernel
theorem dX10_farOf_41 : decode cX10_farOf 41 = .ok (.aload_n 0, 1) := by decide +kernel
theorem dX10_farOf_42 : decode cX10_farOf 42 = .ok (.aload_n 0, 1) := by decide +kernel
theorem dX10_farOf_43 : decode cX10_farOf 43 = .ok (.getfield 29, 3) := by decide +kernel
theorem dX10_farOf_46 : decode cX10_farOf 46 = .ok (.bipush 64, 2) := by decide +kernel
theorem dX10_farOf_48 : decode cX10_farOf 48 = .ok (.iload_n 1, 1) := by decide +kernel
theorem dX10_farOf_49 : decode cX10_farOf 49 = .ok (.imul, 1) := by decide +kernel
theorem dX10_farOf_50 : decode cX10_farOf 50 = .ok (.iload_n 3, 1) := by decide +kernel
theorem dX10_farOf_51 : decode cX10_farOf 51 = .ok (.iadd, 1) := by decide +kernel
theorem dX10_farOf_52 : decode cX10_farOf 52 = .ok (.iaload, 1) := by decide +kernel
theorem dX10_farOf_53 : decode cX10_farOf 53 = .ok (.aload_n 0, 1) := by decide +kernel
theorem dX10_farOf_54 : decode cX10_farOf 54 = .ok (.getfield 83, 3) := by decide +kernel
theorem dX10_farOf_57 : decode cX10_farOf 57 = .ok (.iload_n 3, 1) := by decide +kernel
theorem dX10_farOf_58 : decode cX10_farOf 58 = .ok (.iaload, 1) := by decide +kernel
theorem dX10_farOf_59 : decode cX10_farOf 59 = .ok (.isub, 1) := by decide +kernel
theorem dX10_farOf_60 : decode cX10_farOf 60 = .ok (.invokevirtual 227, 3) := by decide +kernel
theorem dX10_farOf_63 : decode cX10_farOf 63 = .ok (.imul, 1) := by decide +kernel
theorem dX10_farOf_64 : decode cX10_farOf 64 = .ok (.iadd, 1) := by decide +kernel
theorem dX10_farOf_65 : decode cX10_farOf 65 = .ok (.istore_n 2, 1) := by decide +kernel
theorem dX10_farOf_66 : decode cX10_farOf 66 = .ok (.iinc 3 1, 3) := by decide +kernel
theorem dX10_farOf_69 : decode cX10_farOf 69 = .ok (.goto (-65), 3) := by decide +kernel
theorem dX10_farOf_72 : decode cX10_farOf 72 = .ok (.iload_n 2, 1) := by decide +kernel
theorem dX10_farOf_73 : decode cX10_farOf 73 = .ok (.ireturn, 1) := by decide +kernel
theorem dX10_usedOf_0 : decode cX10_usedOf 0 = .ok (.iconst 0, 1) := by decide +kernel
theorem dX10_usedOf_1 : decode cX10_usedOf 1 = .ok (.istore_n 3, 1) := by decide +kernel
theorem dX10_usedOf_2 : decode cX10_usedOf 2 = .ok (.iconst 0, 1) := by decide +kernel
theorem dX10_usedOf_3 : decode cX10_usedOf 3 = .ok (.istore 4, 2) := by decide +kernel
theorem dX10_usedOf_5 : decode cX10_usedOf 5 = .ok (.iload 4, 2) := by decide +kernel
theorem dX10_usedOf_7 : decode cX10_usedOf 7 = .ok (.iconst 3, 1) := by decide +kernel
theorem dX10_usedOf_8 : decode cX10_usedOf 8 = .ok (.if_icmp .ge 82, 3) := by decide +kernel
theorem dX10_usedOf_11 : decode cX10_usedOf 11 = .ok (.iconst 0, 1) := by decide +kernel
theorem dX10_usedOf_12 : decode cX10_usedOf 12 = .ok (.istore 5, 2) := by decide +kernel
theorem dX10_usedOf_14 : decode cX10_usedOf 14 = .ok (.iload 5, 2) := by decide +kernel
theorem dX10_usedOf_16 : decode cX10_usedOf 16 = .ok (.iconst 1, 1) := by decide +kernel
theorem dX10_usedOf_17 : decode cX10_usedOf 17 = .ok (.iadd, 1) := by decide +kernel
theorem dX10_usedOf_18 : decode cX10_usedOf 18 = .ok (.aload_n 0, 1) := by decide +kernel
theorem dX10_usedOf_19 : decode cX10_usedOf 19 = .ok (.getfield 23, 3) := by decide +kernel
theorem dX10_usedOf_22 : decode cX10_usedOf 22 = .ok (.iload 4, 2) := by decide +kernel
theorem dX10_usedOf_24 : decode cX10_usedOf 24 = .ok (.iaload, 1) := by decide +kernel
theorem dX10_usedOf_25 : decode cX10_usedOf 25 = .ok (.if_icmp .ge 59, 3) := by decide +kernel
theorem dX10_usedOf_28 : decode cX10_usedOf 28 = .ok (.aload_n 0, 1) := by decide +kernel
theorem dX10_usedOf_29 : decode cX10_usedOf 29 = .ok (.iload 4, 2) := by decide +kernel
theorem dX10_usedOf_31 : decode cX10_usedOf 31 = .ok (.iload 5, 2) := by decide +kernel
theorem dX10_usedOf_33 : decode cX10_usedOf 33 = .ok (.invokevirtual 239, 3) := by decide +kernel
theorem dX10_usedOf_36 : decode cX10_usedOf 36 = .ok (.istore 6, 2) := by decide +kernel
theorem dX10_usedOf_38 : decode cX10_usedOf 38 = .ok (.aload_n 0, 1) := by decide +kernel
theorem dX10_usedOf_39 : decode cX10_usedOf 39 = .ok (.iload 4, 2) := by decide +kernel
theorem dX10_usedOf_41 : decode cX10_usedOf 41 = .ok (.iload 5, 2) := by decide +kernel
theorem dX10_usedOf_43 : decode cX10_usedOf 43 = .ok (.iconst 1, 1) := by decide +kernel
theorem dX10_usedOf_44 : decode cX10_usedOf 44 = .ok (.iadd, 1) := by decide +kernel
theorem dX10_usedOf_45 : decode cX10_usedOf 45 = .ok (.invokevirtual 239, 3) := by decide +kernel
theorem dX10_usedOf_48 : decode cX10_usedOf 48 = .ok (.istore 7, 2) := by decide +kernel
theorem dX10_usedOf_50 : decode cX10_usedOf 50 = .ok (.iload 6, 2) := by decide +kernel
theorem dX10_usedOf_52 : decode cX10_usedOf 52 = .ok (.iload_n 1, 1) := by decide +kernel
theorem dX10_usedOf_53 : decode cX10_usedOf 53 = .ok (.if_icmp .ne 9, 3) := by decide +kernel
theorem dX10_usedOf_56 : decode cX10_usedOf 56 = .ok (.iload 7, 2) := by decide +kernel
theorem dX10_usedOf_58 : decode cX10_usedOf 58 = .ok (.iload_n 2, 1) := by decide +kernel
theorem dX10_usedOf_59 : decode cX10_usedOf 59 = .ok (.if_icmp .eq 15, 3) := by decide +kernel
theorem dX10_usedOf_62 : decode cX10_usedOf 62 = .ok (.iload 6, 2) := by decide +kernel
theorem dX10_usedOf_64 : decode cX10_usedOf 64 = .ok (.iload_n 2, 1) := by decide +kernel
theorem dX10_usedOf_65 : decode cX10_usedOf 65 = .ok (.if_icmp .ne 13, 3) := by decide +kernel
theorem dX10_usedOf_68 : decode cX10_usedOf 68 = .ok (.iload 7, 2) := by decide +kernel
theorem dX10_usedOf_70 : decode cX10_usedOf 70 = .ok (.iload_n 1, 1) := by decide +kernel
theorem dX10_usedOf_71 : decode cX10_usedOf 71 = .ok (.if_icmp .ne 7, 3) := by decide +kernel
theorem dX10_usedOf_74 : decode cX10_usedOf 74 = .ok (.iload_n 3, 1) := by decide +kernel
theorem dX10_usedOf_75 : decode cX10_usedOf 75 = .ok (.iconst 1, 1) := by decide +kernel
theorem dX10_usedOf_76 : decode cX10_usedOf 76 = .ok (.iadd, 1) := by decide +kernel
theorem dX10_usedOf_77 : decode cX10_usedOf 77 = .ok (.istore_n 3, 1) := by decide +kernel
theorem dX10_usedOf_78 : decode cX10_usedOf 78 = .ok (.iinc 5 1, 3) := by decide +kernel
theorem dX10_usedOf_81 : decode cX10_usedOf 81 = .ok (.goto (-67), 3) := by decide +kernel
theorem dX10_usedOf_84 : decode cX10_usedOf 84 = .ok (.iinc 4 1, 3) := by decide +kernel
theorem dX10_usedOf_87 : decode cX10_usedOf 87 = .ok (.goto (-82), 3) := by decide +kernel
theorem dX10_usedOf_90 : decode cX10_usedOf 90 = .ok (.iload_n 3, 1) := by decide +kernel
theorem dX10_usedOf_91 : decode cX10_usedOf 91 = .ok (.ireturn, 1) := by decide +kernel
theorem dX10_lets_0 : decode cX10_lets 0 = .ok (.aload_n 0, 1) := by decide +kernel
theorem dX10_lets_1 : decode cX10_lets 1 = .ok (.getfield 23, 3) := by decide +kernel
theorem dX10_lets_4 : decode cX10_lets 4 = .ok (.iload_n 1, 1) := by decide +kernel
theorem dX10_lets_5 : decode cX10_lets 5 = .ok (.iaload, 1) := by decide +kernel
theorem dX10_lets_6 : decode cX10_lets 6 = .ok (.istore_n 3, 1) := by decide +kernel
theorem dX10_lets_7 : decode cX10_lets 7 = .ok (.aload_n 0, 1) := by decide +kernel
theorem dX10_lets_8 : decode cX10_lets 8 = .ok (.iload_n 1, 1) := by decide +kernel
theorem dX10_lets_9 : decode cX10_lets 9 = .ok (.iload_n 3, 1) := by decide +kernel
theorem dX10_lets_10 : decode cX10_lets 10 = .ok (.iconst 1, 1) := by decide +kernel
theorem dX10_lets_11 : decode cX10_lets 11 = .ok (.isub, 1) := by decide +kernel
theorem dX10_lets_12 : decode cX10_lets 12 = .ok (.invokevirtual 239, 3) := by decide +kernel
theorem dX10_lets_15 : decode cX10_lets 15 = .ok (.istore 4, 2) := by decide +kernel
theorem dX10_lets_17 : decode cX10_lets 17 = .ok (.aload_n 0, 1) := by decide +kernel
theorem dX10_lets_18 : decode cX10_lets 18 = .ok (.getfield 74, 3) := by decide +kernel
theorem dX10_lets_21 : decode cX10_lets 21 = .ok (.iconst 0, 1) := by decide +kernel
theorem dX10_lets_22 : decode cX10_lets 22 = .ok (.iload 4, 2) := by decide +kernel
theorem dX10_lets_24 : decode cX10_lets 24 = .ok (.iastore, 1) := by decide +kernel
theorem dX10_lets_25 : decode cX10_lets 25 = .ok (.aload_n 0, 1) := by decide +kernel
theorem dX10_lets_26 : decode cX10_lets 26 = .ok (.getfield 74, 3) := by decide +kernel
theorem dX10_lets_29 : decode cX10_lets 29 = .ok (.iconst 1, 1) := by decide +kernel
theorem dX10_lets_30 : decode cX10_lets 30 = .ok (.iload_n 2, 1) := by decide +kernel
theorem dX10_lets_31 : decode cX10_lets 31 = .ok (.iastore, 1) := by decide +kernel
theorem dX10_lets_32 : decode cX10_lets 32 = .ok (.aload_n 0, 1) := by decide +kernel
theorem dX10_lets_33 : decode cX10_lets 33 = .ok (.getfield 74, 3) := by decide +kernel
theorem dX10_lets_36 : decode cX10_lets 36 = .ok (.iconst 2, 1) := by decide +kernel
theorem dX10_lets_37 : decode cX10_lets 37 = .ok (.aload_n 0, 1) := by decide +kernel
theorem dX10_lets_38 : decode cX10_lets 38 = .ok (.iload 4, 2) := by decide +kernel
theorem dX10_lets_40 : decode cX10_lets 40 = .ok (.iload_n 2, 1) := by decide +kernel
theorem dX10_lets_41 : decode cX10_lets 41 = .ok (.invokevirtual 230, 3) := by decide +kernel
theorem dX10_lets_44 : decode cX10_lets 44 = .ok (.iastore, 1) := by decide +kernel
theorem dX10_lets_45 : decode cX10_lets 45 = .ok (.aload_n 0, 1) := by decide +kernel
theorem dX10_lets_46 : decode cX10_lets 46 = .ok (.getfield 74, 3) := by decide +kernel
theorem dX10_lets_49 : decode cX10_lets 49 = .ok (.iconst 3, 1) := by decide +kernel
theorem dX10_lets_50 : decode cX10_lets 50 = .ok (.aload_n 0, 1) := by decide +kernel
theorem dX10_lets_51 : decode cX10_lets 51 = .ok (.iload 4, 2) := by decide +kernel
theorem dX10_lets_53 : decode cX10_lets 53 = .ok (.iload_n 2, 1) := by decide +kernel
theorem dX10_lets_54 : decode cX10_lets 54 = .ok (.invokevirtual 246, 3) := by decide +kernel
theorem dX10_lets_57 : decode cX10_lets 57 = .ok (.iastore, 1) := by decide +kernel
theorem dX10_lets_58 : decode cX10_lets 58 = .ok (.aload_n 0, 1) := by decide +kernel
theorem dX10_lets_59 : decode cX10_lets 59 = .ok (.getfield 74, 3) := by decide +kernel
theorem dX10_lets_62 : decode cX10_lets 62 = .ok (.iconst 4, 1) := by decide +kernel
theorem dX10_lets_63 : decode cX10_lets 63 = .ok (.iload_n 1, 1) := by decide +kernel
theorem dX10_lets_64 : decode cX10_lets 64 = .ok (.iastore, 1) := by decide +kernel
theorem dX10_lets_65 : decode cX10_lets 65 = .ok (.aload_n 0, 1) := by decide +kernel
theorem dX10_lets_66 : decode cX10_lets 66 = .ok (.getfield 74, 3) := by decide +kernel
theorem dX10_lets_69 : decode cX10_lets 69 = .ok (.iconst 5, 1) := by decide +kernel
theorem dX10_lets_70 : decode cX10_lets 70 = .ok (.iload_n 3, 1) := by decide +kernel
theorem dX10_lets_71 : decode cX10_lets 71 = .ok (.iastore, 1) := by decide +kernel
theorem dX10_lets_72 : decode cX10_lets 72 = .ok (.aload_n 0, 1) := by decide +kernel
theorem dX10_lets_73 : decode cX10_lets 73 = .ok (.getfield 74, 3) := by decide +kernel
theorem dX10_lets_76 : decode cX10_lets 76 = .ok (.bipush 6, 2) := by decide +kernel
theorem dX10_lets_78 : decode cX10_lets 78 = .ok (.iload_n 3, 1) := by decide +kernel
theorem dX10_lets_79 : decode cX10_lets 79 = .ok (.iconst 1, 1) := by decide +kernel
theorem dX10_lets_80 : decode cX10_lets 80 = .ok (.if_icmp .le 19, 3) := by decide +kernel
theorem dX10_lets_83 : decode cX10_lets 83 = .ok (.aload_n 0, 1) := by decide +kernel
theorem dX10_lets_84 : decode cX10_lets 84 = .ok (.iload_n 1, 1) := by decide +kernel
theorem dX10_lets_85 : decode cX10_lets 85 = .ok (.iload_n 3, 1) := by decide +kernel
theorem dX10_lets_86 : decode cX10_lets 86 = .ok (.iconst 2, 1) := by decide +kernel
theorem dX10_lets_87 : decode cX10_lets 87 = .ok (.isub, 1) := by decide +kernel
theorem dX10_lets_88 : decode cX10_lets 88 = .ok (.invokevirtual 239, 3) := by decide +kernel
theorem dX10_lets_91 : decode cX10_lets 91 = .ok (.iload_n 2, 1) := by decide +kernel
theorem dX10_lets_92 : decode cX10_lets 92 = .ok (.if_icmp .ne 7, 3) := by decide +kernel
theorem dX10_lets_95 : decode cX10_lets 95 = .ok (.iconst 1, 1) := by decide +kernel
theorem dX10_lets_96 : decode cX10_lets 96 = .ok (.goto 4, 3) := by decide +kernel
theorem dX10_lets_99 : decode cX10_lets 99 = .ok (.iconst 0, 1) := by decide +kernel
theorem dX10_lets_100 : decode cX10_lets 100 = .ok (.iastore, 1) := by decide +kernel
theorem dX10_lets_101 : decode cX10_lets 101 = .ok (.aload_n 0, 1) := by decide +kernel
theorem dX10_lets_102 : decode cX10_lets 102 = .ok (.getfield 74, 3) := by decide +kernel
theorem dX10_lets_105 : decode cX10_lets 105 = .ok (.bipush 7, 2) := by decide +kernel
theorem dX10_lets_107 : decode cX10_lets 107 = .ok (.aload_n 0, 1) := by decide +kernel
theorem dX10_lets_108 : decode cX10_lets 108 = .ok (.getfield 20, 3) := by decide +kernel
theorem dX10_lets_111 : decode cX10_lets 111 = .ok (.iload_n 1, 1) := by decide +kernel
theorem dX10_lets_112 : decode cX10_lets 112 = .ok (.iaload, 1) := by decide +kernel
theorem dX10_lets_113 : decode cX10_lets 113 = .ok (.iastore, 1) := by decide +kernel
theorem dX10_lets_114 : decode cX10_lets 114 = .ok (.iconst 0, 1) := by decide +kernel
theorem dX10_lets_115 : decode cX10_lets 115 = .ok (.istore 5, 2) := by decide +kernel
theorem dX10_lets_117 : decode cX10_lets 117 = .ok (.iload 5, 2) := by decide +kernel
theorem dX10_lets_119 : decode cX10_lets 119 = .ok (.aload_n 0, 1) := by decide +kernel
theorem dX10_lets_120 : decode cX10_lets 120 = .ok (.getfield 114, 3) := by decide +kernel
theorem dX10_lets_123 : decode cX10_lets 123 = .ok (.if_icmp .ge 35, 3) := by decide +kernel
theorem dX10_lets_126 : decode cX10_lets 126 = .ok (.aload_n 0, 1) := by decide +kernel
theorem dX10_lets_127 : decode cX10_lets 127 = .ok (.iconst 0, 1) := by decide +kernel
theorem dX10_lets_128 : decode cX10_lets 128 = .ok (.iload 5, 2) := by decide +kernel
theorem dX10_lets_130 : decode cX10_lets 130 = .ok (.invokevirtual 249, 3) := by decide +kernel
theorem dX10_lets_133 : decode cX10_lets 133 = .ok (.ifCond .eq 19, 3) := by decide +kernel
theorem dX10_lets_136 : decode cX10_lets 136 = .ok (.aload_n 0, 1) := by decide +kernel
theorem dX10_lets_137 : decode cX10_lets 137 = .ok (.getfield 53, 3) := by decide +kernel
theorem dX10_lets_140 : decode cX10_lets 140 = .ok (.iload 5, 2) := by decide +kernel
theorem dX10_lets_142 : decode cX10_lets 142 = .ok (.iaload, 1) := by decide +kernel
theorem dX10_lets_143 : decode cX10_lets 143 = .ok (.ifCond .ne 7, 3) := by decide +kernel
theorem dX10_lets_146 : decode cX10_lets 146 = .ok (.iconst 1, 1) := by decide +kernel
theorem dX10_lets_147 : decode cX10_lets 147 = .ok (.goto 4, 3) := by decide +kernel
theorem dX10_lets_150 : decode cX10_lets 150 = .ok (.iconst 0, 1) := by decide +kernel
theorem dX10_lets_151 : decode cX10_lets 151 = .ok (.ireturn, 1) := by decide +kernel
theorem dX10_lets_152 : decode cX10_lets 152 = .ok (.iinc 5 1, 3) := by decide +kernel
theorem dX10_lets_155 : decode cX10_lets 155 = .ok (.goto (-38), 3) := by decide +kernel
theorem dX10_lets_158 : decode cX10_lets 158 = .ok (.iconst 1, 1) := by decide +kernel
theorem dX10_lets_159 : decode cX10_lets 159 = .ok (.ireturn, 1) := by decide +kernel
theorem dX10_goesOn_0 : decode cX10_goesOn 0 = .ok (.aload_n 0, 1) := by decide +kernel
theorem dX10_goesOn_1 : decode cX10_goesOn 1 = .ok (.getfield 26, 3) := by decide +kernel
theorem dX10_goesOn_4 : decode cX10_goesOn 4 = .ok (.bipush 120, 2) := by decide +kernel
theorem dX10_goesOn_6 : decode cX10_goesOn 6 = .ok (.iload_n 1, 1) := by decide +kernel
theorem dX10_goesOn_7 : decode cX10_goesOn 7 = .ok (.imul, 1) := by decide +kernel
theorem dX10_goesOn_8 : decode cX10_goesOn 8 = .ok (.aload_n 0, 1) := by decide +kernel
theorem dX10_goesOn_9 : decode cX10_goesOn 9 = .ok (.getfield 23, 3) := by decide +kernel
theorem dX10_goesOn_12 : decode cX10_goesOn 12 = .ok (.iload_n 1, 1) := by decide +kernel
theorem dX10_goesOn_13 : decode cX10_goesOn 13 = .ok (.iaload, 1) := by decide +kernel
theorem dX10_goesOn_14 : decode cX10_goesOn 14 = .ok (.iadd, 1) := by decide +kernel
theorem dX10_goesOn_15 : decode cX10_goesOn 15 = .ok (.iload_n 2, 1) := by decide +kernel
theorem dX10_goesOn_16 : decode cX10_goesOn 16 = .ok (.iastore, 1) := by decide +kernel
theorem dX10_goesOn_17 : decode cX10_goesOn 17 = .ok (.aload_n 0, 1) := by decide +kernel
theorem dX10_goesOn_18 : decode cX10_goesOn 18 = .ok (.getfield 23, 3) := by decide +kernel
theorem dX10_goesOn_21 : decode cX10_goesOn 21 = .ok (.iload_n 1, 1) := by decide +kernel
theorem dX10_goesOn_22 : decode cX10_goesOn 22 = .ok (.aload_n 0, 1) := by decide +kernel
theorem dX10_goesOn_23 : decode cX10_goesOn 23 = .ok (.getfield 23, 3) := by decide +kernel
theorem dX10_goesOn_26 : decode cX10_goesOn 26 = .ok (.iload_n 1, 1) := by decide +kernel
theorem dX10_goesOn_27 : decode cX10_goesOn 27 = .ok (.iaload, 1) := by decide +kernel
theorem dX10_goesOn_28 : decode cX10_goesOn 28 = .ok (.iconst 1, 1) := by decide +kernel
theorem dX10_goesOn_29 : decode cX10_goesOn 29 = .ok (.iadd, 1) := by decide +kernel
theorem dX10_goesOn_30 : decode cX10_goesOn 30 = .ok (.iastore, 1) := by decide +kernel
theorem dX10_goesOn_31 : decode cX10_goesOn 31 = .ok (.return_, 1) := by decide +kernel
theorem dX10_canGo_0 : decode cX10_canGo 0 = .ok (.aload_n 0, 1) := by decide +kernel
theorem dX10_canGo_1 : decode cX10_canGo 1 = .ok (.getfield 23, 3) := by decide +kernel
theorem dX10_canGo_4 : decode cX10_canGo 4 = .ok (.iload_n 1, 1) := by decide +kernel
theorem dX10_canGo_5 : decode cX10_canGo 5 = .ok (.iaload, 1) := by decide +kernel
theorem dX10_canGo_6 : decode cX10_canGo 6 = .ok (.bipush 120, 2) := by decide +kernel
theorem dX10_canGo_8 : decode cX10_canGo 8 = .ok (.if_icmp .ge 33, 3) := by decide +kernel
theorem dX10_canGo_11 : decode cX10_canGo 11 = .ok (.aload_n 0, 1) := by decide +kernel
theorem dX10_canGo_12 : decode cX10_canGo 12 = .ok (.getfield 23, 3) := by decide +kernel
theorem dX10_canGo_15 : decode cX10_canGo 15 = .ok (.iload_n 1, 1) := by decide +kernel
theorem dX10_canGo_16 : decode cX10_canGo 16 = .ok (.iaload, 1) := by decide +kernel
theorem dX10_canGo_17 : decode cX10_canGo 17 = .ok (.ifCond .eq 20, 3) := by decide +kernel
theorem dX10_canGo_20 : decode cX10_canGo 20 = .ok (.aload_n 0, 1) := by decide +kernel
theorem dX10_canGo_21 : decode cX10_canGo 21 = .ok (.iload_n 1, 1) := by decide +kernel
theorem dX10_canGo_22 : decode cX10_canGo 22 = .ok (.aload_n 0, 1) := by decide +kernel
theorem dX10_canGo_23 : decode cX10_canGo 23 = .ok (.getfield 23, 3) := by decide +kernel
theorem dX10_canGo_26 : decode cX10_canGo 26 = .ok (.iload_n 1, 1) := by decide +kernel
theorem dX10_canGo_27 : decode cX10_canGo 27 = .ok (.iaload, 1) := by decide +kernel
theorem dX10_canGo_28 : decode cX10_canGo 28 = .ok (.iconst 1, 1) := by decide +kernel
theorem dX10_canGo_29 : decode cX10_canGo 29 = .ok (.isub, 1) := by decide +kernel
theorem dX10_canGo_30 : decode cX10_canGo 30 = .ok (.invokevirtual 239, 3) := by decide +kernel
theorem dX10_canGo_33 : decode cX10_canGo 33 = .ok (.iload_n 2, 1) := by decide +kernel
theorem dX10_canGo_34 : decode cX10_canGo 34 = .ok (.if_icmp .eq 7, 3) := by decide +kernel
theorem dX10_canGo_37 : decode cX10_canGo 37 = .ok (.iconst 1, 1) := by decide +kernel
theorem dX10_canGo_38 : decode cX10_canGo 38 = .ok (.goto 4, 3) := by decide +kernel
theorem dX10_canGo_41 : decode cX10_canGo 41 = .ok (.iconst 0, 1) := by decide +kernel
theorem dX10_canGo_42 : decode cX10_canGo 42 = .ok (.ireturn, 1) := by decide +kernel
theorem dX10_winding_0 : decode cX10_winding 0 = .ok (.aload_n 0, 1) := by decide +kernel
theorem dX10_winding_1 : decode cX10_winding 1 = .ok (.iconst 0, 1) := by decide +kernel
theorem dX10_winding_2 : decode cX10_winding 2 = .ok (.putfield 98, 3) := by decide +kernel
theorem dX10_winding_5 : decode cX10_winding 5 = .ok (.aload_n 0, 1) := by decide +kernel
theorem dX10_winding_6 : decode cX10_winding 6 = .ok (.iload_n 1, 1) := by decide +kernel
theorem dX10_winding_7 : decode cX10_winding 7 = .ok (.invokevirtual 125, 3) := by decide +kernel
theorem dX10_winding_10 : decode cX10_winding 10 = .ok (.ifCond .eq 20, 3) := by decide +kernel
theorem dX10_winding_13 : decode cX10_winding 13 = .ok (.aload_n 0, 1) := by decide +kernel
theorem dX10_winding_14 : decode cX10_winding 14 = .ok (.iload_n 2, 1) := by decide +kernel
theorem dX10_winding_15 : decode cX10_winding 15 = .ok (.invokevirtual 252, 3) := by decide +kernel
theorem dX10_winding_18 : decode cX10_winding 18 = .ok (.ifCond .eq 12, 3) := by decide +kernel
theorem dX10_winding_21 : decode cX10_winding 21 = .ok (.aload_n 0, 1) := by decide +kernel
theorem dX10_winding_22 : decode cX10_winding 22 = .ok (.iload_n 1, 1) := by decide +kernel
theorem dX10_winding_23 : decode cX10_winding 23 = .ok (.iload_n 2, 1) := by decide +kernel
theorem dX10_winding_24 : decode cX10_winding 24 = .ok (.invokevirtual 255, 3) := by decide +kernel
theorem dX10_winding_27 : decode cX10_winding 27 = .ok (.ifCond .ne 5, 3) := by decide +kernel
theorem dX10_winding_30 : decode cX10_winding 30 = .ok (.iconst (-1), 1) := by decide +kernel
theorem dX10_winding_31 : decode cX10_winding 31 = .ok (.ireturn, 1) := by decide +kernel
theorem dX10_winding_32 : decode cX10_winding 32 = .ok (.aload_n 0, 1) := by decide +kernel
theorem dX10_winding_33 : decode cX10_winding 33 = .ok (.getfield 23, 3) := by decide +kernel
theorem dX10_winding_36 : decode cX10_winding 36 = .ok (.iload_n 1, 1) := by decide +kernel
theorem dX10_winding_37 : decode cX10_winding 37 = .ok (.iaload, 1) := by decide +kernel
theorem dX10_winding_38 : decode cX10_winding 38 = .ok (.ifCond .le 15, 3) := by decide +kernel
theorem dX10_winding_41 : decode cX10_winding 41 = .ok (.aload_n 0, 1) := by decide +kernel
theorem dX10_winding_42 : decode cX10_winding 42 = .ok (.iload_n 1, 1) := by decide +kernel
theorem dX10_winding_43 : decode cX10_winding 43 = .ok (.iload_n 2, 1) := by decide +kernel
theorem dX10_winding_44 : decode cX10_winding 44 = .ok (.invokevirtual 258, 3) := by decide +kernel
theorem dX10_winding_47 : decode cX10_winding 47 = .ok (.ifCond .ne 6, 3) := by decide +kernel
theorem dX10_winding_50 : decode cX10_winding 50 = .ok (.bipush (-2), 2) := by decide +kernel
theorem dX10_winding_52 : decode cX10_winding 52 = .ok (.ireturn, 1) := by decide +kernel
theorem dX10_winding_53 : decode cX10_winding 53 = .ok (.aload_n 0, 1) := by decide +kernel
theorem dX10_winding_54 : decode cX10_winding 54 = .ok (.iload_n 1, 1) := by decide +kernel
theorem dX10_winding_55 : decode cX10_winding 55 = .ok (.iload_n 2, 1) := by decide +kernel
theorem dX10_winding_56 : decode cX10_winding 56 = .ok (.invokevirtual 261, 3) := by decide +kernel
theorem dX10_winding_59 : decode cX10_winding 59 = .ok (.aload_n 0, 1) := by decide +kernel
theorem dX10_winding_60 : decode cX10_winding 60 = .ok (.getfield 111, 3) := by decide +kernel
theorem dX10_winding_63 : decode cX10_winding 63 = .ok (.bipush 40, 2) := by decide +kernel
theorem dX10_winding_65 : decode cX10_winding 65 = .ok (.if_icmp .ne 43, 3) := by decide +kernel
theorem dX10_winding_68 : decode cX10_winding 68 = .ok (.aload_n 0, 1) := by decide +kernel
theorem dX10_winding_69 : decode cX10_winding 69 = .ok (.aload_n 0, 1) := by decide +kernel
theorem dX10_winding_70 : decode cX10_winding 70 = .ok (.getfield 111, 3) := by decide +kernel
theorem dX10_winding_73 : decode cX10_winding 73 = .ok (.iconst 1, 1) := by decide +kernel
theorem dX10_winding_74 : decode cX10_winding 74 = .ok (.isub, 1) := by decide +kernel
theorem dX10_winding_75 : decode cX10_winding 75 = .ok (.putfield 111, 3) := by decide +kernel
theorem dX10_winding_78 : decode cX10_winding 78 = .ok (.iconst 0, 1) := by decide +kernel
theorem dX10_winding_79 : decode cX10_winding 79 = .ok (.istore_n 3, 1) := by decide +kernel
theorem dX10_winding_80 : decode cX10_winding 80 = .ok (.iload_n 3, 1) := by decide +kernel
theorem dX10_winding_81 : decode cX10_winding 81 = .ok (.aload_n 0, 1) := by decide +kernel
theorem dX10_winding_82 : decode cX10_winding 82 = .ok (.getfield 111, 3) := by decide +kernel
theorem dX10_winding_85 : decode cX10_winding 85 = .ok (.if_icmp .ge 23, 3) := by decide +kernel
theorem dX10_winding_88 : decode cX10_winding 88 = .ok (.aload_n 0, 1) := by decide +kernel
theorem dX10_winding_89 : decode cX10_winding 89 = .ok (.getfield 44, 3) := by decide +kernel
theorem dX10_winding_92 : decode cX10_winding 92 = .ok (.iload_n 3, 1) := by decide +kernel
theorem dX10_winding_93 : decode cX10_winding 93 = .ok (.aload_n 0, 1) := by decide +kernel
theorem dX10_winding_94 : decode cX10_winding 94 = .ok (.getfield 44, 3) := by decide +kernel
theorem dX10_winding_97 : decode cX10_winding 97 = .ok (.iload_n 3, 1) := by decide +kernel
theorem dX10_winding_98 : decode cX10_winding 98 = .ok (.iconst 1, 1) := by decide +kernel
theorem dX10_winding_99 : decode cX10_winding 99 = .ok (.iadd, 1) := by decide +kernel
theorem dX10_winding_100 : decode cX10_winding 100 = .ok (.iaload, 1) := by decide +kernel
theorem dX10_winding_101 : decode cX10_winding 101 = .ok (.iastore, 1) := by decide +kernel
theorem dX10_winding_102 : decode cX10_winding 102 = .ok (.iinc 3 1, 3) := by decide +kernel
theorem dX10_winding_105 : decode cX10_winding 105 = .ok (.goto (-25), 3) := by decide +kernel
theorem dX10_winding_108 : decode cX10_winding 108 = .ok (.aload_n 0, 1) := by decide +kernel
theorem dX10_winding_109 : decode cX10_winding 109 = .ok (.getfield 44, 3) := by decide +kernel
theorem dX10_winding_112 : decode cX10_winding 112 = .ok (.aload_n 0, 1) := by decide +kernel
theorem dX10_winding_113 : decode cX10_winding 113 = .ok (.getfield 111, 3) := by decide +kernel
theorem dX10_winding_116 : decode cX10_winding 116 = .ok (.iload_n 1, 1) := by decide +kernel
theorem dX10_winding_117 : decode cX10_winding 117 = .ok (.iastore, 1) := by decide +kernel
theorem dX10_winding_118 : decode cX10_winding 118 = .ok (.aload_n 0, 1) := by decide +kernel
theorem dX10_winding_119 : decode cX10_winding 119 = .ok (.aload_n 0, 1) := by decide +kernel
theorem dX10_winding_120 : decode cX10_winding 120 = .ok (.getfield 111, 3) := by decide +kernel
theorem dX10_winding_123 : decode cX10_winding 123 = .ok (.iconst 1, 1) := by decide +kernel
theorem dX10_winding_124 : decode cX10_winding 124 = .ok (.iadd, 1) := by decide +kernel
theorem dX10_winding_125 : decode cX10_winding 125 = .ok (.putfield 111, 3) := by decide +kernel
theorem dX10_winding_128 : decode cX10_winding 128 = .ok (.aload_n 0, 1) := by decide +kernel
theorem dX10_winding_129 : decode cX10_winding 129 = .ok (.getfield 23, 3) := by decide +kernel
theorem dX10_winding_132 : decode cX10_winding 132 = .ok (.iload_n 1, 1) := by decide +kernel
theorem dX10_winding_133 : decode cX10_winding 133 = .ok (.iaload, 1) := by decide +kernel
theorem dX10_winding_134 : decode cX10_winding 134 = .ok (.ireturn, 1) := by decide +kernel
theorem dX10_undo_0 : decode cX10_undo 0 = .ok (.aload_n 0, 1) := by decide +kernel
theorem dX10_undo_1 : decode cX10_undo 1 = .ok (.iconst 0, 1) := by decide +kernel
theorem dX10_undo_2 : decode cX10_undo 2 = .ok (.putfield 98, 3) := by decide +kernel
theorem dX10_undo_5 : decode cX10_undo 5 = .ok (.aload_n 0, 1) := by decide +kernel
theorem dX10_undo_6 : decode cX10_undo 6 = .ok (.getfield 111, 3) := by decide +kernel
theorem dX10_undo_9 : decode cX10_undo 9 = .ok (.ifCond .ne 5, 3) := by decide +kernel
theorem dX10_undo_12 : decode cX10_undo 12 = .ok (.iconst 0, 1) := by decide +kernel
theorem dX10_undo_13 : decode cX10_undo 13 = .ok (.ireturn, 1) := by decide +kernel
theorem dX10_undo_14 : decode cX10_undo 14 = .ok (.aload_n 0, 1) := by decide +kernel
theorem dX10_undo_15 : decode cX10_undo 15 = .ok (.aload_n 0, 1) := by decide +kernel
theorem dX10_undo_16 : decode cX10_undo 16 = .ok (.getfield 111, 3) := by decide +kernel
theorem dX10_undo_19 : decode cX10_undo 19 = .ok (.iconst 1, 1) := by decide +kernel
theorem dX10_undo_20 : decode cX10_undo 20 = .ok (.isub, 1) := by decide +kernel
theorem dX10_undo_21 : decode cX10_undo 21 = .ok (.putfield 111, 3) := by decide +kernel
theorem dX10_undo_24 : decode cX10_undo 24 = .ok (.aload_n 0, 1) := by decide +kernel
theorem dX10_undo_25 : decode cX10_undo 25 = .ok (.getfield 23, 3) := by decide +kernel
theorem dX10_undo_28 : decode cX10_undo 28 = .ok (.aload_n 0, 1) := by decide +kernel
theorem dX10_undo_29 : decode cX10_undo 29 = .ok (.getfield 44, 3) := by decide +kernel
theorem dX10_undo_32 : decode cX10_undo 32 = .ok (.aload_n 0, 1) := by decide +kernel
theorem dX10_undo_33 : decode cX10_undo 33 = .ok (.getfield 111, 3) := by decide +kernel
theorem dX10_undo_36 : decode cX10_undo 36 = .ok (.iaload, 1) := by decide +kernel
theorem dX10_undo_37 : decode cX10_undo 37 = .ok (.aload_n 0, 1) := by decide +kernel
theorem dX10_undo_38 : decode cX10_undo 38 = .ok (.getfield 23, 3) := by decide +kernel
theorem dX10_undo_41 : decode cX10_undo 41 = .ok (.aload_n 0, 1) := by decide +kernel
theorem dX10_undo_42 : decode cX10_undo 42 = .ok (.getfield 44, 3) := by decide +kernel
theorem dX10_undo_45 : decode cX10_undo 45 = .ok (.aload_n 0, 1) := by decide +kernel
theorem dX10_undo_46 : decode cX10_undo 46 = .ok (.getfield 111, 3) := by decide +kernel
theorem dX10_undo_49 : decode cX10_undo 49 = .ok (.iaload, 1) := by decide +kernel
theorem dX10_undo_50 : decode cX10_undo 50 = .ok (.iaload, 1) := by decide +kernel
theorem dX10_undo_51 : decode cX10_undo 51 = .ok (.iconst 1, 1) := by decide +kernel
theorem dX10_undo_52 : decode cX10_undo 52 = .ok (.isub, 1) := by decide +kernel
theorem dX10_undo_53 : decode cX10_undo 53 = .ok (.iastore, 1) := by decide +kernel
theorem dX10_undo_54 : decode cX10_undo 54 = .ok (.iconst 1, 1) := by decide +kernel
theorem dX10_undo_55 : decode cX10_undo 55 = .ok (.ireturn, 1) := by decide +kernel
theorem dX10_rub_0 : decode cX10_rub 0 = .ok (.aload_n 0, 1) := by decide +kernel
theorem dX10_rub_1 : decode cX10_rub 1 = .ok (.iconst 0, 1) := by decide +kernel
theorem dX10_rub_2 : decode cX10_rub 2 = .ok (.putfield 98, 3) := by decide +kernel
theorem dX10_rub_5 : decode cX10_rub 5 = .ok (.aload_n 0, 1) := by decide +kernel
theorem dX10_rub_6 : decode cX10_rub 6 = .ok (.iload_n 1, 1) := by decide +kernel
theorem dX10_rub_7 : decode cX10_rub 7 = .ok (.invokevirtual 125, 3) := by decide +kernel
theorem dX10_rub_10 : decode cX10_rub 10 = .ok (.ifCond .eq 18, 3) := by decide +kernel
theorem dX10_rub_13 : decode cX10_rub 13 = .ok (.aload_n 0, 1) := by decide +kernel
theorem dX10_rub_14 : decode cX10_rub 14 = .ok (.iload_n 2, 1) := by decide +kernel
theorem dX10_rub_15 : decode cX10_rub 15 = .ok (.iconst 0, 1) := by decide +kernel
theorem dX10_rub_16 : decode cX10_rub 16 = .ok (.aload_n 0, 1) := by decide +kernel
theorem dX10_rub_17 : decode cX10_rub 17 = .ok (.getfield 23, 3) := by decide +kernel
theorem dX10_rub_20 : decode cX10_rub 20 = .ok (.iload_n 1, 1) := by decide +kernel
theorem dX10_rub_21 : decode cX10_rub 21 = .ok (.iaload, 1) := by decide +kernel
theorem dX10_rub_22 : decode cX10_rub 22 = .ok (.invokevirtual 104, 3) := by decide +kernel
theorem dX10_rub_25 : decode cX10_rub 25 = .ok (.ifCond .ne 5, 3) := by decide +kernel
theorem dX10_rub_28 : decode cX10_rub 28 = .ok (.iconst (-1), 1) := by decide +kernel
theorem dX10_rub_29 : decode cX10_rub 29 = .ok (.ireturn, 1) := by decide +kernel
theorem dX10_rub_30 : decode cX10_rub 30 = .ok (.aload_n 0, 1) := by decide +kernel
theorem dX10_rub_31 : decode cX10_rub 31 = .ok (.getfield 23, 3) := by decide +kernel
theorem dX10_rub_34 : decode cX10_rub 34 = .ok (.iload_n 1, 1) := by decide +kernel
theorem dX10_rub_35 : decode cX10_rub 35 = .ok (.aload_n 0, 1) := by decide +kernel
theorem dX10_rub_36 : decode cX10_rub 36 = .ok (.getfield 23, 3) := by decide +kernel
theorem dX10_rub_39 : decode cX10_rub 39 = .ok (.iload_n 1, 1) := by decide +kernel
theorem dX10_rub_40 : decode cX10_rub 40 = .ok (.iaload, 1) := by decide +kernel
theorem dX10_rub_41 : decode cX10_rub 41 = .ok (.iload_n 2, 1) := by decide +kernel
theorem dX10_rub_42 : decode cX10_rub 42 = .ok (.isub, 1) := by decide +kernel
theorem dX10_rub_43 : decode cX10_rub 43 = .ok (.iastore, 1) := by decide +kernel
theorem dX10_rub_44 : decode cX10_rub 44 = .ok (.aload_n 0, 1) := by decide +kernel
theorem dX10_rub_45 : decode cX10_rub 45 = .ok (.iconst 0, 1) := by decide +kernel
theorem dX10_rub_46 : decode cX10_rub 46 = .ok (.putfield 111, 3) := by decide +kernel
theorem dX10_rub_49 : decode cX10_rub 49 = .ok (.aload_n 0, 1) := by decide +kernel
theorem dX10_rub_50 : decode cX10_rub 50 = .ok (.getfield 23, 3) := by decide +kernel
theorem dX10_rub_53 : decode cX10_rub 53 = .ok (.iload_n 1, 1) := by decide +kernel
theorem dX10_rub_54 : decode cX10_rub 54 = .ok (.iaload, 1) := by decide +kernel
theorem dX10_rub_55 : decode cX10_rub 55 = .ok (.ireturn, 1) := by decide +kernel
theorem dX10_wound_0 : decode cX10_wound 0 = .ok (.aload_n 0, 1) := by decide +kernel
theorem dX10_wound_1 : decode cX10_wound 1 = .ok (.iconst 0, 1) := by decide +kernel
theorem dX10_wound_2 : decode cX10_wound 2 = .ok (.putfield 98, 3) := by decide +kernel
theorem dX10_wound_5 : decode cX10_wound 5 = .ok (.aload_n 0, 1) := by decide +kernel
theorem dX10_wound_6 : decode cX10_wound 6 = .ok (.iload_n 1, 1) := by decide +kernel
theorem dX10_wound_7 : decode cX10_wound 7 = .ok (.invokevirtual 125, 3) := by decide +kernel
theorem dX10_wound_10 : decode cX10_wound 10 = .ok (.ifCond .ne 5, 3) := by decide +kernel
theorem dX10_wound_13 : decode cX10_wound 13 = .ok (.iconst (-1), 1) := by decide +kernel
theorem dX10_wound_14 : decode cX10_wound 14 = .ok (.ireturn, 1) := by decide +kernel
theorem dX10_wound_15 : decode cX10_wound 15 = .ok (.iload_n 2, 1) := by decide +kernel
theorem dX10_wound_16 : decode cX10_wound 16 = .ok (.iconst (-1), 1) := by decide +kernel
theorem dX10_wound_17 : decode cX10_wound 17 = .ok (.if_icmp .ne 12, 3) := by decide +kernel
theorem dX10_wound_20 : decode cX10_wound 20 = .ok (.aload_n 0, 1) := by decide +kernel
theorem dX10_wound_21 : decode cX10_wound 21 = .ok (.getfield 23, 3) := by decide +kernel
theorem dX10_wound_24 : decode cX10_wound 24 = .ok (.iload_n 1, 1) := by decide +kernel
theorem dX10_wound_25 : decode cX10_wound 25 = .ok (.iaload, 1) := by decide +kernel
theorem dX10_wound_26 : decode cX10_wound 26 = .ok (.goto 30, 3) := by decide +kernel
theorem dX10_wound_29 : decode cX10_wound 29 = .ok (.aload_n 0, 1) := by decide +kernel
theorem dX10_wound_30 : decode cX10_wound 30 = .ok (.iload_n 2, 1) := by decide +kernel
theorem dX10_wound_31 : decode cX10_wound 31 = .ok (.iconst 0, 1) := by decide +kernel
theorem dX10_wound_32 : decode cX10_wound 32 = .ok (.aload_n 0, 1) := by decide +kernel
theorem dX10_wound_33 : decode cX10_wound 33 = .ok (.getfield 23, 3) := by decide +kernel
theorem dX10_wound_36 : decode cX10_wound 36 = .ok (.iload_n 1, 1) := by decide +kernel
theorem dX10_wound_37 : decode cX10_wound 37 = .ok (.iaload, 1) := by decide +kernel
theorem dX10_wound_38 : decode cX10_wound 38 = .ok (.iconst 1, 1) := by decide +kernel
theorem dX10_wound_39 : decode cX10_wound 39 = .ok (.isub, 1) := by decide +kernel
theorem dX10_wound_40 : decode cX10_wound 40 = .ok (.invokevirtual 104, 3) := by decide +kernel
theorem dX10_wound_43 : decode cX10_wound 43 = .ok (.ifCond .eq 12, 3) := by decide +kernel
theorem dX10_wound_46 : decode cX10_wound 46 = .ok (.aload_n 0, 1) := by decide +kernel
theorem dX10_wound_47 : decode cX10_wound 47 = .ok (.iload_n 1, 1) := by decide +kernel
theorem dX10_wound_48 : decode cX10_wound 48 = .ok (.iload_n 2, 1) := by decide +kernel
theorem dX10_wound_49 : decode cX10_wound 49 = .ok (.invokevirtual 239, 3) := by decide +kernel
theorem dX10_wound_52 : decode cX10_wound 52 = .ok (.goto 4, 3) := by decide +kernel
theorem dX10_wound_55 : decode cX10_wound 55 = .ok (.iconst (-1), 1) := by decide +kernel
theorem dX10_wound_56 : decode cX10_wound 56 = .ok (.ireturn, 1) := by decide +kernel
theorem dX10_dark_0 : decode cX10_dark 0 = .ok (.aload_n 0, 1) := by decide +kernel
theorem dX10_dark_1 : decode cX10_dark 1 = .ok (.iconst 0, 1) := by decide +kernel
theorem dX10_dark_2 : decode cX10_dark 2 = .ok (.putfield 98, 3) := by decide +kernel
theorem dX10_dark_5 : decode cX10_dark 5 = .ok (.aload_n 0, 1) := by decide +kernel
theorem dX10_dark_6 : decode cX10_dark 6 = .ok (.iload_n 1, 1) := by decide +kernel
theorem dX10_dark_7 : decode cX10_dark 7 = .ok (.iload_n 2, 1) := by decide +kernel
theorem dX10_dark_8 : decode cX10_dark 8 = .ok (.invokevirtual 121, 3) := by decide +kernel
theorem dX10_dark_11 : decode cX10_dark 11 = .ok (.ifCond .ne 5, 3) := by decide +kernel
theorem dX10_dark_14 : decode cX10_dark 14 = .ok (.iconst (-1), 1) := by decide +kernel
theorem dX10_dark_15 : decode cX10_dark 15 = .ok (.ireturn, 1) := by decide +kernel
theorem dX10_dark_16 : decode cX10_dark 16 = .ok (.aload_n 0, 1) := by decide +kernel
theorem dX10_dark_17 : decode cX10_dark 17 = .ok (.invokevirtual 264, 3) := by decide +kernel
theorem dX10_dark_20 : decode cX10_dark 20 = .ok (.aload_n 0, 1) := by decide +kernel
theorem dX10_dark_21 : decode cX10_dark 21 = .ok (.getfield 83, 3) := by decide +kernel
theorem dX10_dark_24 : decode cX10_dark 24 = .ok (.bipush 8, 2) := by decide +kernel
theorem dX10_dark_26 : decode cX10_dark 26 = .ok (.iload_n 2, 1) := by decide +kernel
theorem dX10_dark_27 : decode cX10_dark 27 = .ok (.imul, 1) := by decide +kernel
theorem dX10_dark_28 : decode cX10_dark 28 = .ok (.iload_n 1, 1) := by decide +kernel
theorem dX10_dark_29 : decode cX10_dark 29 = .ok (.iadd, 1) := by decide +kernel
theorem dX10_dark_30 : decode cX10_dark 30 = .ok (.iaload, 1) := by decide +kernel
theorem dX10_dark_31 : decode cX10_dark 31 = .ok (.ireturn, 1) := by decide +kernel
theorem dX10_samples_0 : decode cX10_samples 0 = .ok (.aload_n 0, 1) := by decide +kernel
theorem dX10_samples_1 : decode cX10_samples 1 = .ok (.iconst 0, 1) := by decide +kernel
theorem dX10_samples_2 : decode cX10_samples 2 = .ok (.putfield 98, 3) := by decide +kernel
theorem dX10_samples_5 : decode cX10_samples 5 = .ok (.aload_n 0, 1) := by decide +kernel
theorem dX10_samples_6 : decode cX10_samples 6 = .ok (.iload_n 1, 1) := by decide +kernel
theorem dX10_samples_7 : decode cX10_samples 7 = .ok (.invokevirtual 252, 3) := by decide +kernel
theorem dX10_samples_10 : decode cX10_samples 10 = .ok (.ifCond .eq 26, 3) := by decide +kernel
theorem dX10_samples_13 : decode cX10_samples 13 = .ok (.aload_n 0, 1) := by decide +kernel
theorem dX10_samples_14 : decode cX10_samples 14 = .ok (.iload_n 2, 1) := by decide +kernel
theorem dX10_samples_15 : decode cX10_samples 15 = .ok (.invokevirtual 252, 3) := by decide +kernel
theorem dX10_samples_18 : decode cX10_samples 18 = .ok (.ifCond .eq 18, 3) := by decide +kernel
theorem dX10_samples_21 : decode cX10_samples 21 = .ok (.iload_n 1, 1) := by decide +kernel
theorem dX10_samples_22 : decode cX10_samples 22 = .ok (.iload_n 2, 1) := by decide +kernel
theorem dX10_samples_23 : decode cX10_samples 23 = .ok (.if_icmp .eq 13, 3) := by decide +kernel
theorem dX10_samples_26 : decode cX10_samples 26 = .ok (.aload_n 0, 1) := by decide +kernel
theorem dX10_samples_27 : decode cX10_samples 27 = .ok (.iload_n 3, 1) := by decide +kernel
theorem dX10_samples_28 : decode cX10_samples 28 = .ok (.iload 4, 2) := by decide +kernel
theorem dX10_samples_30 : decode cX10_samples 30 = .ok (.invokevirtual 121, 3) := by decide +kernel
theorem dX10_samples_33 : decode cX10_samples 33 = .ok (.ifCond .ne 5, 3) := by decide +kernel
theorem dX10_samples_36 : decode cX10_samples 36 = .ok (.iconst (-1), 1) := by decide +kernel
theorem dX10_samples_37 : decode cX10_samples 37 = .ok (.ireturn, 1) := by decide +kernel
theorem dX10_samples_38 : decode cX10_samples 38 = .ok (.aload_n 0, 1) := by decide +kernel
theorem dX10_samples_39 : decode cX10_samples 39 = .ok (.iload_n 1, 1) := by decide +kernel
theorem dX10_samples_40 : decode cX10_samples 40 = .ok (.iload_n 2, 1) := by decide +kernel
theorem dX10_samples_41 : decode cX10_samples 41 = .ok (.invokevirtual 236, 3) := by decide +kernel
theorem dX10_samples_44 : decode cX10_samples 44 = .ok (.aload_n 0, 1) := by decide +kernel
theorem dX10_samples_45 : decode cX10_samples 45 = .ok (.getfield 80, 3) := by decide +kernel
theorem dX10_samples_48 : decode cX10_samples 48 = .ok (.bipush 8, 2) := by decide +kernel
theorem dX10_samples_50 : decode cX10_samples 50 = .ok (.iload 4, 2) := by decide +kernel
theorem dX10_samples_52 : decode cX10_samples 52 = .ok (.imul, 1) := by decide +kernel
theorem dX10_samples_53 : decode cX10_samples 53 = .ok (.iload_n 3, 1) := by decide +kernel
theorem dX10_samples_54 : decode cX10_samples 54 = .ok (.iadd, 1) := by decide +kernel
theorem dX10_samples_55 : decode cX10_samples 55 = .ok (.iaload, 1) := by decide +kernel
theorem dX10_samples_56 : decode cX10_samples 56 = .ok (.ireturn, 1) := by decide +kernel
theorem dX10_far_0 : decode cX10_far 0 = .ok (.aload_n 0, 1) := by decide +kernel
theorem dX10_far_1 : decode cX10_far 1 = .ok (.iconst 0, 1) := by decide +kernel
theorem dX10_far_2 : decode cX10_far 2 = .ok (.putfield 98, 3) := by decide +kernel
theorem dX10_far_5 : decode cX10_far 5 = .ok (.aload_n 0, 1) := by decide +kernel
theorem dX10_far_6 : decode cX10_far 6 = .ok (.iload_n 1, 1) := by decide +kernel
theorem dX10_far_7 : decode cX10_far 7 = .ok (.invokevirtual 117, 3) := by decide +kernel
theorem dX10_far_10 : decode cX10_far 10 = .ok (.ifCond .ne 5, 3) := by decide +kernel
theorem dX10_far_13 : decode cX10_far 13 = .ok (.iconst (-1), 1) := by decide +kernel
theorem dX10_far_14 : decode cX10_far 14 = .ok (.ireturn, 1) := by decide +kernel
theorem dX10_far_15 : decode cX10_far 15 = .ok (.aload_n 0, 1) := by decide +kernel
theorem dX10_far_16 : decode cX10_far 16 = .ok (.invokevirtual 264, 3) := by decide +kernel
theorem dX10_far_19 : decode cX10_far 19 = .ok (.aload_n 0, 1) := by decide +kernel
theorem dX10_far_20 : decode cX10_far 20 = .ok (.iload_n 1, 1) := by decide +kernel
theorem dX10_far_21 : decode cX10_far 21 = .ok (.invokevirtual 267, 3) := by decide +kernel
theorem dX10_far_24 : decode cX10_far 24 = .ok (.ireturn, 1) := by decide +kernel
theorem dX10_nextOf_0 : decode cX10_nextOf 0 = .ok (.iconst (-1), 1) := by decide +kernel
theorem dX10_nextOf_1 : decode cX10_nextOf 1 = .ok (.istore_n 3, 1) := by decide +kernel
theorem dX10_nextOf_2 : decode cX10_nextOf 2 = .ok (.aload_n 0, 1) := by decide +kernel
theorem dX10_nextOf_3 : decode cX10_nextOf 3 = .ok (.ldc_w 270, 3) := by decide +kernel
theorem dX10_nextOf_6 : decode cX10_nextOf 6 = .ok (.putfield 271, 3) := by decide +kernel
theorem dX10_nextOf_9 : decode cX10_nextOf 9 = .ok (.aload_n 0, 1) := by decide +kernel
theorem dX10_nextOf_10 : decode cX10_nextOf 10 = .ok (.getfield 23, 3) := by decide +kernel
theorem dX10_nextOf_13 : decode cX10_nextOf 13 = .ok (.iload_n 1, 1) := by decide +kernel
theorem dX10_nextOf_14 : decode cX10_nextOf 14 = .ok (.iaload, 1) := by decide +kernel
theorem dX10_nextOf_15 : decode cX10_nextOf 15 = .ok (.ifCond .ne 5, 3) := by decide +kernel
theorem dX10_nextOf_18 : decode cX10_nextOf 18 = .ok (.iconst (-1), 1) := by decide +kernel
theorem dX10_nextOf_19 : decode cX10_nextOf 19 = .ok (.ireturn, 1) := by decide +kernel
theorem dX10_nextOf_20 : decode cX10_nextOf 20 = .ok (.aload_n 0, 1) := by decide +kernel
theorem dX10_nextOf_21 : decode cX10_nextOf 21 = .ok (.iload_n 1, 1) := by decide +kernel
theorem dX10_nextOf_22 : decode cX10_nextOf 22 = .ok (.aload_n 0, 1) := by decide +kernel
theorem dX10_nextOf_23 : decode cX10_nextOf 23 = .ok (.getfield 23, 3) := by decide +kernel
theorem dX10_nextOf_26 : decode cX10_nextOf 26 = .ok (.iload_n 1, 1) := by decide +kernel
theorem dX10_nextOf_27 : decode cX10_nextOf 27 = .ok (.iaload, 1) := by decide +kernel
theorem dX10_nextOf_28 : decode cX10_nextOf 28 = .ok (.iconst 1, 1) := by decide +kernel
theorem dX10_nextOf_29 : decode cX10_nextOf 29 = .ok (.isub, 1) := by decide +kernel
theorem dX10_nextOf_30 : decode cX10_nextOf 30 = .ok (.invokevirtual 239, 3) := by decide +kernel
theorem dX10_nextOf_33 : decode cX10_nextOf 33 = .ok (.istore 4, 2) := by decide +kernel
theorem dX10_nextOf_35 : decode cX10_nextOf 35 = .ok (.iconst 0, 1) := by decide +kernel
theorem dX10_nextOf_36 : decode cX10_nextOf 36 = .ok (.istore 5, 2) := by decide +kernel
theorem dX10_nextOf_38 : decode cX10_nextOf 38 = .ok (.iload 5, 2) := by decide +kernel
theorem dX10_nextOf_40 : decode cX10_nextOf 40 = .ok (.aload_n 0, 1) := by decide +kernel
theorem dX10_nextOf_41 : decode cX10_nextOf 41 = .ok (.getfield 101, 3) := by decide +kernel
theorem dX10_nextOf_44 : decode cX10_nextOf 44 = .ok (.if_icmp .ge 89, 3) := by decide +kernel
theorem dX10_nextOf_47 : decode cX10_nextOf 47 = .ok (.aload_n 0, 1) := by decide +kernel
theorem dX10_nextOf_48 : decode cX10_nextOf 48 = .ok (.iload_n 1, 1) := by decide +kernel
theorem dX10_nextOf_49 : decode cX10_nextOf 49 = .ok (.iload 5, 2) := by decide +kernel
theorem dX10_nextOf_51 : decode cX10_nextOf 51 = .ok (.invokevirtual 255, 3) := by decide +kernel
theorem dX10_nextOf_54 : decode cX10_nextOf 54 = .ok (.ifCond .eq 73, 3) := by decide +kernel
theorem dX10_nextOf_57 : decode cX10_nextOf 57 = .ok (.aload_n 0, 1) := by decide +kernel
theorem dX10_nextOf_58 : decode cX10_nextOf 58 = .ok (.iload_n 1, 1) := by decide +kernel
theorem dX10_nextOf_59 : decode cX10_nextOf 59 = .ok (.iload 5, 2) := by decide +kernel
theorem dX10_nextOf_61 : decode cX10_nextOf 61 = .ok (.invokevirtual 258, 3) := by decide +kernel
theorem dX10_nextOf_64 : decode cX10_nextOf 64 = .ok (.ifCond .ne 6, 3) := by decide +kernel
theorem dX10_nextOf_67 : decode cX10_nextOf 67 = .ok (.goto 60, 3) := by decide +kernel
theorem dX10_nextOf_70 : decode cX10_nextOf 70 = .ok (.aload_n 0, 1) := by decide +kernel
theorem dX10_nextOf_71 : decode cX10_nextOf 71 = .ok (.iload 4, 2) := by decide +kernel
theorem dX10_nextOf_73 : decode cX10_nextOf 73 = .ok (.iload 5, 2) := by decide +kernel
theorem dX10_nextOf_75 : decode cX10_nextOf 75 = .ok (.aload_n 0, 1) := by decide +kernel
theorem dX10_nextOf_76 : decode cX10_nextOf 76 = .ok (.getfield 20, 3) := by decide +kernel
theorem dX10_nextOf_79 : decode cX10_nextOf 79 = .ok (.iload_n 1, 1) := by decide +kernel
theorem dX10_nextOf_80 : decode cX10_nextOf 80 = .ok (.iaload, 1) := by decide +kernel
theorem dX10_nextOf_81 : decode cX10_nextOf 81 = .ok (.invokevirtual 242, 3) := by decide +kernel
theorem dX10_nextOf_84 : decode cX10_nextOf 84 = .ok (.aload_n 0, 1) := by decide +kernel
theorem dX10_nextOf_85 : decode cX10_nextOf 85 = .ok (.iload_n 2, 1) := by decide +kernel
theorem dX10_nextOf_86 : decode cX10_nextOf 86 = .ok (.invokevirtual 267, 3) := by decide +kernel
theorem dX10_nextOf_89 : decode cX10_nextOf 89 = .ok (.istore 6, 2) := by decide +kernel
theorem dX10_nextOf_91 : decode cX10_nextOf 91 = .ok (.aload_n 0, 1) := by decide +kernel
theorem dX10_nextOf_92 : decode cX10_nextOf 92 = .ok (.iload 4, 2) := by decide +kernel
theorem dX10_nextOf_94 : decode cX10_nextOf 94 = .ok (.iload 5, 2) := by decide +kernel
theorem dX10_nextOf_96 : decode cX10_nextOf 96 = .ok (.aload_n 0, 1) := by decide +kernel
theorem dX10_nextOf_97 : decode cX10_nextOf 97 = .ok (.getfield 20, 3) := by decide +kernel
theorem dX10_nextOf_100 : decode cX10_nextOf 100 = .ok (.iload_n 1, 1) := by decide +kernel
theorem dX10_nextOf_101 : decode cX10_nextOf 101 = .ok (.iaload, 1) := by decide +kernel
theorem dX10_nextOf_102 : decode cX10_nextOf 102 = .ok (.ineg, 1) := by decide +kernel
theorem dX10_nextOf_103 : decode cX10_nextOf 103 = .ok (.invokevirtual 242, 3) := by decide +kernel
theorem dX10_nextOf_106 : decode cX10_nextOf 106 = .ok (.iload 6, 2) := by decide +kernel
theorem dX10_nextOf_108 : decode cX10_nextOf 108 = .ok (.aload_n 0, 1) := by decide +kernel
theorem dX10_nextOf_109 : decode cX10_nextOf 109 = .ok (.getfield 271, 3) := by decide +kernel
theorem dX10_nextOf_112 : decode cX10_nextOf 112 = .ok (.if_icmp .lt 6, 3) := by decide +kernel
theorem dX10_nextOf_115 : decode cX10_nextOf 115 = .ok (.goto 12, 3) := by decide +kernel
theorem dX10_nextOf_118 : decode cX10_nextOf 118 = .ok (.iload 5, 2) := by decide +kernel
theorem dX10_nextOf_120 : decode cX10_nextOf 120 = .ok (.istore_n 3, 1) := by decide +kernel
theorem dX10_nextOf_121 : decode cX10_nextOf 121 = .ok (.aload_n 0, 1) := by decide +kernel
theorem dX10_nextOf_122 : decode cX10_nextOf 122 = .ok (.iload 6, 2) := by decide +kernel
theorem dX10_nextOf_124 : decode cX10_nextOf 124 = .ok (.putfield 271, 3) := by decide +kernel
theorem dX10_nextOf_127 : decode cX10_nextOf 127 = .ok (.iinc 5 1, 3) := by decide +kernel
theorem dX10_nextOf_130 : decode cX10_nextOf 130 = .ok (.goto (-92), 3) := by decide +kernel
theorem dX10_nextOf_133 : decode cX10_nextOf 133 = .ok (.iload_n 3, 1) := by decide +kernel
theorem dX10_nextOf_134 : decode cX10_nextOf 134 = .ok (.ireturn, 1) := by decide +kernel
theorem dX10_next_0 : decode cX10_next 0 = .ok (.aload_n 0, 1) := by decide +kernel
theorem dX10_next_1 : decode cX10_next 1 = .ok (.iconst 0, 1) := by decide +kernel
theorem dX10_next_2 : decode cX10_next 2 = .ok (.putfield 98, 3) := by decide +kernel
theorem dX10_next_5 : decode cX10_next 5 = .ok (.aload_n 0, 1) := by decide +kernel
theorem dX10_next_6 : decode cX10_next 6 = .ok (.iload_n 1, 1) := by decide +kernel
theorem dX10_next_7 : decode cX10_next 7 = .ok (.invokevirtual 125, 3) := by decide +kernel
theorem dX10_next_10 : decode cX10_next 10 = .ok (.ifCond .eq 21, 3) := by decide +kernel
theorem dX10_next_13 : decode cX10_next 13 = .ok (.aload_n 0, 1) := by decide +kernel
theorem dX10_next_14 : decode cX10_next 14 = .ok (.iload_n 2, 1) := by decide +kernel
theorem dX10_next_15 : decode cX10_next 15 = .ok (.invokevirtual 117, 3) := by decide +kernel
theorem dX10_next_18 : decode cX10_next 18 = .ok (.ifCond .eq 13, 3) := by decide +kernel
theorem dX10_next_21 : decode cX10_next 21 = .ok (.aload_n 0, 1) := by decide +kernel
theorem dX10_next_22 : decode cX10_next 22 = .ok (.iload_n 3, 1) := by decide +kernel
theorem dX10_next_23 : decode cX10_next 23 = .ok (.iconst 0, 1) := by decide +kernel
theorem dX10_next_24 : decode cX10_next 24 = .ok (.iconst 1, 1) := by decide +kernel
theorem dX10_next_25 : decode cX10_next 25 = .ok (.invokevirtual 104, 3) := by decide +kernel
theorem dX10_next_28 : decode cX10_next 28 = .ok (.ifCond .ne 7, 3) := by decide +kernel
theorem dX10_next_31 : decode cX10_next 31 = .ok (.ldc_w 274, 3) := by decide +kernel
theorem dX10_next_34 : decode cX10_next 34 = .ok (.ireturn, 1) := by decide +kernel
theorem dX10_next_35 : decode cX10_next 35 = .ok (.aload_n 0, 1) := by decide +kernel
theorem dX10_next_36 : decode cX10_next 36 = .ok (.invokevirtual 264, 3) := by decide +kernel
theorem dX10_next_39 : decode cX10_next 39 = .ok (.aload_n 0, 1) := by decide +kernel
theorem dX10_next_40 : decode cX10_next 40 = .ok (.iload_n 1, 1) := by decide +kernel
theorem dX10_next_41 : decode cX10_next 41 = .ok (.iload_n 2, 1) := by decide +kernel
theorem dX10_next_42 : decode cX10_next 42 = .ok (.invokevirtual 275, 3) := by decide +kernel
theorem dX10_next_45 : decode cX10_next 45 = .ok (.istore 4, 2) := by decide +kernel
theorem dX10_next_47 : decode cX10_next 47 = .ok (.iload_n 3, 1) := by decide +kernel
theorem dX10_next_48 : decode cX10_next 48 = .ok (.ifCond .ne 6, 3) := by decide +kernel
theorem dX10_next_51 : decode cX10_next 51 = .ok (.iload 4, 2) := by decide +kernel
theorem dX10_next_53 : decode cX10_next 53 = .ok (.ireturn, 1) := by decide +kernel
theorem dX10_next_54 : decode cX10_next 54 = .ok (.iload 4, 2) := by decide +kernel
theorem dX10_next_56 : decode cX10_next 56 = .ok (.iconst (-1), 1) := by decide +kernel
theorem dX10_next_57 : decode cX10_next 57 = .ok (.if_icmp .ne 7, 3) := by decide +kernel
theorem dX10_next_60 : decode cX10_next 60 = .ok (.iconst 0, 1) := by decide +kernel
theorem dX10_next_61 : decode cX10_next 61 = .ok (.goto 13, 3) := by decide +kernel
theorem dX10_next_64 : decode cX10_next 64 = .ok (.aload_n 0, 1) := by decide +kernel
theorem dX10_next_65 : decode cX10_next 65 = .ok (.iload_n 2, 1) := by decide +kernel
theorem dX10_next_66 : decode cX10_next 66 = .ok (.invokevirtual 267, 3) := by decide +kernel
theorem dX10_next_69 : decode cX10_next 69 = .ok (.aload_n 0, 1) := by decide +kernel
theorem dX10_next_70 : decode cX10_next 70 = .ok (.getfield 271, 3) := by decide +kernel
theorem dX10_next_73 : decode cX10_next 73 = .ok (.isub, 1) := by decide +kernel
theorem dX10_next_74 : decode cX10_next 74 = .ok (.ireturn, 1) := by decide +kernel
theorem dX10_greedy_0 : decode cX10_greedy 0 = .ok (.aload_n 0, 1) := by decide +kernel
theorem dX10_greedy_1 : decode cX10_greedy 1 = .ok (.iconst 0, 1) := by decide +kernel
theorem dX10_greedy_2 : decode cX10_greedy 2 = .ok (.putfield 98, 3) := by decide +kernel
theorem dX10_greedy_5 : decode cX10_greedy 5 = .ok (.aload_n 0, 1) := by decide +kernel
theorem dX10_greedy_6 : decode cX10_greedy 6 = .ok (.iload_n 1, 1) := by decide +kernel
theorem dX10_greedy_7 : decode cX10_greedy 7 = .ok (.invokevirtual 125, 3) := by decide +kernel
theorem dX10_greedy_10 : decode cX10_greedy 10 = .ok (.ifCond .eq 33, 3) := by decide +kernel
theorem dX10_greedy_13 : decode cX10_greedy 13 = .ok (.aload_n 0, 1) := by decide +kernel
theorem dX10_greedy_14 : decode cX10_greedy 14 = .ok (.iload_n 2, 1) := by decide +kernel
theorem dX10_greedy_15 : decode cX10_greedy 15 = .ok (.invokevirtual 117, 3) := by decide +kernel
theorem dX10_greedy_18 : decode cX10_greedy 18 = .ok (.ifCond .eq 25, 3) := by decide +kernel
theorem dX10_greedy_21 : decode cX10_greedy 21 = .ok (.aload_n 0, 1) := by decide +kernel
theorem dX10_greedy_22 : decode cX10_greedy 22 = .ok (.iload_n 3, 1) := by decide +kernel
theorem dX10_greedy_23 : decode cX10_greedy 23 = .ok (.iconst 1, 1) := by decide +kernel
theorem dX10_greedy_24 : decode cX10_greedy 24 = .ok (.bipush 40, 2) := by decide +kernel
theorem dX10_greedy_26 : decode cX10_greedy 26 = .ok (.invokevirtual 104, 3) := by decide +kernel
theorem dX10_greedy_29 : decode cX10_greedy 29 = .ok (.ifCond .eq 14, 3) := by decide +kernel
theorem dX10_greedy_32 : decode cX10_greedy 32 = .ok (.aload_n 0, 1) := by decide +kernel
theorem dX10_greedy_33 : decode cX10_greedy 33 = .ok (.iload 4, 2) := by decide +kernel
theorem dX10_greedy_35 : decode cX10_greedy 35 = .ok (.iconst 0, 1) := by decide +kernel
theorem dX10_greedy_36 : decode cX10_greedy 36 = .ok (.iconst 2, 1) := by decide +kernel
theorem dX10_greedy_37 : decode cX10_greedy 37 = .ok (.invokevirtual 104, 3) := by decide +kernel
theorem dX10_greedy_40 : decode cX10_greedy 40 = .ok (.ifCond .ne 5, 3) := by decide +kernel
theorem dX10_greedy_43 : decode cX10_greedy 43 = .ok (.iconst (-1), 1) := by decide +kernel
theorem dX10_greedy_44 : decode cX10_greedy 44 = .ok (.ireturn, 1) := by decide +kernel
theorem dX10_greedy_45 : decode cX10_greedy 45 = .ok (.aload_n 0, 1) := by decide +kernel
theorem dX10_greedy_46 : decode cX10_greedy 46 = .ok (.getfield 23, 3) := by decide +kernel
theorem dX10_greedy_49 : decode cX10_greedy 49 = .ok (.iload_n 1, 1) := by decide +kernel
theorem dX10_greedy_50 : decode cX10_greedy 50 = .ok (.iaload, 1) := by decide +kernel
theorem dX10_greedy_51 : decode cX10_greedy 51 = .ok (.istore 5, 2) := by decide +kernel
theorem dX10_greedy_53 : decode cX10_greedy 53 = .ok (.aload_n 0, 1) := by decide +kernel
theorem dX10_greedy_54 : decode cX10_greedy 54 = .ok (.invokevirtual 264, 3) := by decide +kernel
theorem dX10_greedy_57 : decode cX10_greedy 57 = .ok (.iconst 0, 1) := by decide +kernel
theorem dX10_greedy_58 : decode cX10_greedy 58 = .ok (.istore 6, 2) := by decide +kernel
theorem dX10_greedy_60 : decode cX10_greedy 60 = .ok (.iconst 1, 1) := by decide +kernel
theorem dX10_greedy_61 : decode cX10_greedy 61 = .ok (.istore 7, 2) := by decide +kernel
theorem dX10_greedy_63 : decode cX10_greedy 63 = .ok (.iload 6, 2) := by decide +kernel
theorem dX10_greedy_65 : decode cX10_greedy 65 = .ok (.iload_n 3, 1) := by decide +kernel
theorem dX10_greedy_66 : decode cX10_greedy 66 = .ok (.if_icmp .ge 87, 3) := by decide +kernel
theorem dX10_greedy_69 : decode cX10_greedy 69 = .ok (.iload 7, 2) := by decide +kernel
theorem dX10_greedy_71 : decode cX10_greedy 71 = .ok (.ifCond .eq 82, 3) := by decide +kernel
theorem dX10_greedy_74 : decode cX10_greedy 74 = .ok (.aload_n 0, 1) := by decide +kernel
theorem dX10_greedy_75 : decode cX10_greedy 75 = .ok (.iload_n 1, 1) := by decide +kernel
theorem dX10_greedy_76 : decode cX10_greedy 76 = .ok (.iload_n 2, 1) := by decide +kernel
theorem dX10_greedy_77 : decode cX10_greedy 77 = .ok (.invokevirtual 275, 3) := by decide +kernel
theorem dX10_greedy_80 : decode cX10_greedy 80 = .ok (.istore 8, 2) := by decide +kernel
theorem dX10_greedy_82 : decode cX10_greedy 82 = .ok (.iload 8, 2) := by decide +kernel
theorem dX10_greedy_84 : decode cX10_greedy 84 = .ok (.iconst (-1), 1) := by decide +kernel
theorem dX10_greedy_85 : decode cX10_greedy 85 = .ok (.if_icmp .eq 19, 3) := by decide +kernel
theorem dX10_greedy_88 : decode cX10_greedy 88 = .ok (.aload_n 0, 1) := by decide +kernel
theorem dX10_greedy_89 : decode cX10_greedy 89 = .ok (.getfield 271, 3) := by decide +kernel
theorem dX10_greedy_92 : decode cX10_greedy 92 = .ok (.aload_n 0, 1) := by decide +kernel
theorem dX10_greedy_93 : decode cX10_greedy 93 = .ok (.iload_n 2, 1) := by decide +kernel
theorem dX10_greedy_94 : decode cX10_greedy 94 = .ok (.invokevirtual 267, 3) := by decide +kernel
theorem dX10_greedy_97 : decode cX10_greedy 97 = .ok (.if_icmp .ge 7, 3) := by decide +kernel
theorem dX10_greedy_100 : decode cX10_greedy 100 = .ok (.iconst 1, 1) := by decide +kernel
theorem dX10_greedy_101 : decode cX10_greedy 101 = .ok (.goto 4, 3) := by decide +kernel
theorem dX10_greedy_104 : decode cX10_greedy 104 = .ok (.iconst 0, 1) := by decide +kernel
theorem dX10_greedy_105 : decode cX10_greedy 105 = .ok (.istore 7, 2) := by decide +kernel
theorem dX10_greedy_107 : decode cX10_greedy 107 = .ok (.iload 7, 2) := by decide +kernel
theorem dX10_greedy_109 : decode cX10_greedy 109 = .ok (.ifCond .eq 41, 3) := by decide +kernel
theorem dX10_greedy_112 : decode cX10_greedy 112 = .ok (.aload_n 0, 1) := by decide +kernel
theorem dX10_greedy_113 : decode cX10_greedy 113 = .ok (.aload_n 0, 1) := by decide +kernel
theorem dX10_greedy_114 : decode cX10_greedy 114 = .ok (.iload_n 1, 1) := by decide +kernel
theorem dX10_greedy_115 : decode cX10_greedy 115 = .ok (.aload_n 0, 1) := by decide +kernel
theorem dX10_greedy_116 : decode cX10_greedy 116 = .ok (.getfield 23, 3) := by decide +kernel
theorem dX10_greedy_119 : decode cX10_greedy 119 = .ok (.iload_n 1, 1) := by decide +kernel
theorem dX10_greedy_120 : decode cX10_greedy 120 = .ok (.iaload, 1) := by decide +kernel
theorem dX10_greedy_121 : decode cX10_greedy 121 = .ok (.iconst 1, 1) := by decide +kernel
theorem dX10_greedy_122 : decode cX10_greedy 122 = .ok (.isub, 1) := by decide +kernel
theorem dX10_greedy_123 : decode cX10_greedy 123 = .ok (.invokevirtual 239, 3) := by decide +kernel
theorem dX10_greedy_126 : decode cX10_greedy 126 = .ok (.iload 8, 2) := by decide +kernel
theorem dX10_greedy_128 : decode cX10_greedy 128 = .ok (.aload_n 0, 1) := by decide +kernel
theorem dX10_greedy_129 : decode cX10_greedy 129 = .ok (.getfield 20, 3) := by decide +kernel
theorem dX10_greedy_132 : decode cX10_greedy 132 = .ok (.iload_n 1, 1) := by decide +kernel
theorem dX10_greedy_133 : decode cX10_greedy 133 = .ok (.iaload, 1) := by decide +kernel
theorem dX10_greedy_134 : decode cX10_greedy 134 = .ok (.invokevirtual 242, 3) := by decide +kernel
theorem dX10_greedy_137 : decode cX10_greedy 137 = .ok (.aload_n 0, 1) := by decide +kernel
theorem dX10_greedy_138 : decode cX10_greedy 138 = .ok (.iload_n 1, 1) := by decide +kernel
theorem dX10_greedy_139 : decode cX10_greedy 139 = .ok (.iload 8, 2) := by decide +kernel
theorem dX10_greedy_141 : decode cX10_greedy 141 = .ok (.invokevirtual 261, 3) := by decide +kernel
theorem dX10_greedy_144 : decode cX10_greedy 144 = .ok (.iload 6, 2) := by decide +kernel
theorem dX10_greedy_146 : decode cX10_greedy 146 = .ok (.iconst 1, 1) := by decide +kernel
theorem dX10_greedy_147 : decode cX10_greedy 147 = .ok (.iadd, 1) := by decide +kernel
theorem dX10_greedy_148 : decode cX10_greedy 148 = .ok (.istore 6, 2) := by decide +kernel
theorem dX10_greedy_150 : decode cX10_greedy 150 = .ok (.goto (-87), 3) := by decide +kernel
theorem dX10_greedy_153 : decode cX10_greedy 153 = .ok (.aload_n 0, 1) := by decide +kernel
theorem dX10_greedy_154 : decode cX10_greedy 154 = .ok (.iload_n 2, 1) := by decide +kernel
theorem dX10_greedy_155 : decode cX10_greedy 155 = .ok (.invokevirtual 267, 3) := by decide +kernel
theorem dX10_greedy_158 : decode cX10_greedy 158 = .ok (.istore 8, 2) := by decide +kernel
theorem dX10_greedy_160 : decode cX10_greedy 160 = .ok (.aload_n 0, 1) := by decide +kernel
theorem dX10_greedy_161 : decode cX10_greedy 161 = .ok (.getfield 23, 3) := by decide +kernel
theorem dX10_greedy_164 : decode cX10_greedy 164 = .ok (.iload_n 1, 1) := by decide +kernel
theorem dX10_greedy_165 : decode cX10_greedy 165 = .ok (.iaload, 1) := by decide +kernel
theorem dX10_greedy_166 : decode cX10_greedy 166 = .ok (.ifCond .ne 7, 3) := by decide +kernel
theorem dX10_greedy_169 : decode cX10_greedy 169 = .ok (.iconst (-1), 1) := by decide +kernel
theorem dX10_greedy_170 : decode cX10_greedy 170 = .ok (.goto 16, 3) := by decide +kernel
theorem dX10_greedy_173 : decode cX10_greedy 173 = .ok (.aload_n 0, 1) := by decide +kernel
theorem dX10_greedy_174 : decode cX10_greedy 174 = .ok (.iload_n 1, 1) := by decide +kernel
theorem dX10_greedy_175 : decode cX10_greedy 175 = .ok (.aload_n 0, 1) := by decide +kernel
theorem dX10_greedy_176 : decode cX10_greedy 176 = .ok (.getfield 23, 3) := by decide +kernel
theorem dX10_greedy_179 : decode cX10_greedy 179 = .ok (.iload_n 1, 1) := by decide +kernel
theorem dX10_greedy_180 : decode cX10_greedy 180 = .ok (.iaload, 1) := by decide +kernel
theorem dX10_greedy_181 : decode cX10_greedy 181 = .ok (.iconst 1, 1) := by decide +kernel
theorem dX10_greedy_182 : decode cX10_greedy 182 = .ok (.isub, 1) := by decide +kernel
theorem dX10_greedy_183 : decode cX10_greedy 183 = .ok (.invokevirtual 239, 3) := by decide +kernel
theorem dX10_greedy_186 : decode cX10_greedy 186 = .ok (.istore 9, 2) := by decide +kernel
theorem dX10_greedy_188 : decode cX10_greedy 188 = .ok (.aload_n 0, 1) := by decide +kernel
theorem dX10_greedy_189 : decode cX10_greedy 189 = .ok (.getfield 23, 3) := by decide +kernel
theorem dX10_greedy_192 : decode cX10_greedy 192 = .ok (.iload_n 1, 1) := by decide +kernel
theorem dX10_greedy_193 : decode cX10_greedy 193 = .ok (.iload 5, 2) := by decide +kernel
theorem dX10_greedy_195 : decode cX10_greedy 195 = .ok (.iastore, 1) := by decide +kernel
theorem dX10_greedy_196 : decode cX10_greedy 196 = .ok (.iload 4, 2) := by decide +kernel
theorem dX10_greedy_198 : decode cX10_greedy 198 = .ok (.ifCond .ne 8, 3) := by decide +kernel
theorem dX10_greedy_201 : decode cX10_greedy 201 = .ok (.iload 6, 2) := by decide +kernel
theorem dX10_greedy_203 : decode cX10_greedy 203 = .ok (.goto 16, 3) := by decide +kernel
theorem dX10_greedy_206 : decode cX10_greedy 206 = .ok (.iload 4, 2) := by decide +kernel
theorem dX10_greedy_208 : decode cX10_greedy 208 = .ok (.iconst 1, 1) := by decide +kernel
theorem dX10_greedy_209 : decode cX10_greedy 209 = .ok (.if_icmp .ne 8, 3) := by decide +kernel
theorem dX10_greedy_212 : decode cX10_greedy 212 = .ok (.iload 8, 2) := by decide +kernel
theorem dX10_greedy_214 : decode cX10_greedy 214 = .ok (.goto 5, 3) := by decide +kernel
theorem dX10_greedy_217 : decode cX10_greedy 217 = .ok (.iload 9, 2) := by decide +kernel
theorem dX10_greedy_219 : decode cX10_greedy 219 = .ok (.ireturn, 1) := by decide +kernel
theorem dX10_worst_0 : decode cX10_worst 0 = .ok (.aload_n 0, 1) := by decide +kernel
theorem dX10_worst_1 : decode cX10_worst 1 = .ok (.iconst 0, 1) := by decide +kernel
theorem dX10_worst_2 : decode cX10_worst 2 = .ok (.putfield 98, 3) := by decide +kernel
theorem dX10_worst_5 : decode cX10_worst 5 = .ok (.aload_n 0, 1) := by decide +kernel
theorem dX10_worst_6 : decode cX10_worst 6 = .ok (.iload_n 1, 1) := by decide +kernel
theorem dX10_worst_7 : decode cX10_worst 7 = .ok (.invokevirtual 117, 3) := by decide +kernel
theorem dX10_worst_10 : decode cX10_worst 10 = .ok (.ifCond .eq 13, 3) := by decide +kernel
theorem dX10_worst_13 : decode cX10_worst 13 = .ok (.aload_n 0, 1) := by decide +kernel
theorem dX10_worst_14 : decode cX10_worst 14 = .ok (.iload_n 2, 1) := by decide +kernel
theorem dX10_worst_15 : decode cX10_worst 15 = .ok (.iconst 0, 1) := by decide +kernel
theorem dX10_worst_16 : decode cX10_worst 16 = .ok (.iconst 2, 1) := by decide +kernel
theorem dX10_worst_17 : decode cX10_worst 17 = .ok (.invokevirtual 104, 3) := by decide +kernel
theorem dX10_worst_20 : decode cX10_worst 20 = .ok (.ifCond .ne 5, 3) := by decide +kernel
theorem dX10_worst_23 : decode cX10_worst 23 = .ok (.iconst (-1), 1) := by decide +kernel
theorem dX10_worst_24 : decode cX10_worst 24 = .ok (.ireturn, 1) := by decide +kernel
theorem dX10_worst_25 : decode cX10_worst 25 = .ok (.aload_n 0, 1) := by decide +kernel
theorem dX10_worst_26 : decode cX10_worst 26 = .ok (.invokevirtual 264, 3) := by decide +kernel
theorem dX10_worst_29 : decode cX10_worst 29 = .ok (.aload_n 0, 1) := by decide +kernel
theorem dX10_worst_30 : decode cX10_worst 30 = .ok (.iload_n 1, 1) := by decide +kernel
theorem dX10_worst_31 : decode cX10_worst 31 = .ok (.invokevirtual 267, 3) := by decide +kernel
theorem dX10_worst_34 : decode cX10_worst 34 = .ok (.istore_n 3, 1) := by decide +kernel
theorem dX10_worst_35 : decode cX10_worst 35 = .ok (.iload_n 3, 1) := by decide +kernel
theorem dX10_worst_36 : decode cX10_worst 36 = .ok (.istore 4, 2) := by decide +kernel
theorem dX10_worst_38 : decode cX10_worst 38 = .ok (.iconst (-1), 1) := by decide +kernel
theorem dX10_worst_39 : decode cX10_worst 39 = .ok (.istore 5, 2) := by decide +kernel
theorem dX10_worst_41 : decode cX10_worst 41 = .ok (.iconst 0, 1) := by decide +kernel
theorem dX10_worst_42 : decode cX10_worst 42 = .ok (.istore 6, 2) := by decide +kernel
theorem dX10_worst_44 : decode cX10_worst 44 = .ok (.iload 6, 2) := by decide +kernel
theorem dX10_worst_46 : decode cX10_worst 46 = .ok (.iconst 3, 1) := by decide +kernel
theorem dX10_worst_47 : decode cX10_worst 47 = .ok (.if_icmp .ge 122, 3) := by decide +kernel
theorem dX10_worst_50 : decode cX10_worst 50 = .ok (.iconst 0, 1) := by decide +kernel
theorem dX10_worst_51 : decode cX10_worst 51 = .ok (.istore 7, 2) := by decide +kernel
theorem dX10_worst_53 : decode cX10_worst 53 = .ok (.iload 7, 2) := by decide +kernel
theorem dX10_worst_55 : decode cX10_worst 55 = .ok (.iconst 1, 1) := by decide +kernel
theorem dX10_worst_56 : decode cX10_worst 56 = .ok (.iadd, 1) := by decide +kernel
theorem dX10_worst_57 : decode cX10_worst 57 = .ok (.aload_n 0, 1) := by decide +kernel
theorem dX10_worst_58 : decode cX10_worst 58 = .ok (.getfield 23, 3) := by decide +kernel
theorem dX10_worst_61 : decode cX10_worst 61 = .ok (.iload 6, 2) := by decide +kernel
theorem dX10_worst_63 : decode cX10_worst 63 = .ok (.iaload, 1) := by decide +kernel
theorem dX10_worst_64 : decode cX10_worst 64 = .ok (.if_icmp .ge 99, 3) := by decide +kernel
theorem dX10_worst_67 : decode cX10_worst 67 = .ok (.aload_n 0, 1) := by decide +kernel
theorem dX10_worst_68 : decode cX10_worst 68 = .ok (.aload_n 0, 1) := by decide +kernel
theorem dX10_worst_69 : decode cX10_worst 69 = .ok (.iload 6, 2) := by decide +kernel
theorem dX10_worst_71 : decode cX10_worst 71 = .ok (.iload 7, 2) := by decide +kernel
theorem dX10_worst_73 : decode cX10_worst 73 = .ok (.invokevirtual 239, 3) := by decide +kernel
theorem dX10_worst_76 : decode cX10_worst 76 = .ok (.aload_n 0, 1) := by decide +kernel
theorem dX10_worst_77 : decode cX10_worst 77 = .ok (.iload 6, 2) := by decide +kernel
theorem dX10_worst_79 : decode cX10_worst 79 = .ok (.iload 7, 2) := by decide +kernel
theorem dX10_worst_81 : decode cX10_worst 81 = .ok (.iconst 1, 1) := by decide +kernel
theorem dX10_worst_82 : decode cX10_worst 82 = .ok (.iadd, 1) := by decide +kernel
theorem dX10_worst_83 : decode cX10_worst 83 = .ok (.invokevirtual 239, 3) := by decide +kernel
theorem dX10_worst_86 : decode cX10_worst 86 = .ok (.aload_n 0, 1) := by decide +kernel
theorem dX10_worst_87 : decode cX10_worst 87 = .ok (.getfield 20, 3) := by decide +kernel
theorem dX10_worst_90 : decode cX10_worst 90 = .ok (.iload 6, 2) := by decide +kernel
theorem dX10_worst_92 : decode cX10_worst 92 = .ok (.iaload, 1) := by decide +kernel
theorem dX10_worst_93 : decode cX10_worst 93 = .ok (.ineg, 1) := by decide +kernel
theorem dX10_worst_94 : decode cX10_worst 94 = .ok (.invokevirtual 242, 3) := by decide +kernel
theorem dX10_worst_97 : decode cX10_worst 97 = .ok (.aload_n 0, 1) := by decide +kernel
theorem dX10_worst_98 : decode cX10_worst 98 = .ok (.iload_n 1, 1) := by decide +kernel
theorem dX10_worst_99 : decode cX10_worst 99 = .ok (.invokevirtual 267, 3) := by decide +kernel
theorem dX10_worst_102 : decode cX10_worst 102 = .ok (.istore 8, 2) := by decide +kernel
theorem dX10_worst_104 : decode cX10_worst 104 = .ok (.aload_n 0, 1) := by decide +kernel
theorem dX10_worst_105 : decode cX10_worst 105 = .ok (.aload_n 0, 1) := by decide +kernel
theorem dX10_worst_106 : decode cX10_worst 106 = .ok (.iload 6, 2) := by decide +kernel
theorem dX10_worst_108 : decode cX10_worst 108 = .ok (.iload 7, 2) := by decide +kernel
theorem dX10_worst_110 : decode cX10_worst 110 = .ok (.invokevirtual 239, 3) := by decide +kernel
theorem dX10_worst_113 : decode cX10_worst 113 = .ok (.aload_n 0, 1) := by decide +kernel
theorem dX10_worst_114 : decode cX10_worst 114 = .ok (.iload 6, 2) := by decide +kernel
theorem dX10_worst_116 : decode cX10_worst 116 = .ok (.iload 7, 2) := by decide +kernel
theorem dX10_worst_118 : decode cX10_worst 118 = .ok (.iconst 1, 1) := by decide +kernel
theorem dX10_worst_119 : decode cX10_worst 119 = .ok (.iadd, 1) := by decide +kernel
theorem dX10_worst_120 : decode cX10_worst 120 = .ok (.invokevirtual 239, 3) := by decide +kernel
theorem dX10_worst_123 : decode cX10_worst 123 = .ok (.aload_n 0, 1) := by decide +kernel
theorem dX10_worst_124 : decode cX10_worst 124 = .ok (.getfield 20, 3) := by decide +kernel
theorem dX10_worst_127 : decode cX10_worst 127 = .ok (.iload 6, 2) := by decide +kernel
theorem dX10_worst_129 : decode cX10_worst 129 = .ok (.iaload, 1) := by decide +kernel
theorem dX10_worst_130 : decode cX10_worst 130 = .ok (.invokevirtual 242, 3) := by decide +kernel
theorem dX10_worst_133 : decode cX10_worst 133 = .ok (.iload 8, 2) := by decide +kernel
theorem dX10_worst_135 : decode cX10_worst 135 = .ok (.iload 4, 2) := by decide +kernel
theorem dX10_worst_137 : decode cX10_worst 137 = .ok (.if_icmp .lt 6, 3) := by decide +kernel
theorem dX10_worst_140 : decode cX10_worst 140 = .ok (.goto 17, 3) := by decide +kernel
theorem dX10_worst_143 : decode cX10_worst 143 = .ok (.iload 8, 2) := by decide +kernel
theorem dX10_worst_145 : decode cX10_worst 145 = .ok (.istore 4, 2) := by decide +kernel
theorem dX10_worst_147 : decode cX10_worst 147 = .ok (.bipush 120, 2) := by decide +kernel
theorem dX10_worst_149 : decode cX10_worst 149 = .ok (.iload 6, 2) := by decide +kernel
theorem dX10_worst_151 : decode cX10_worst 151 = .ok (.imul, 1) := by decide +kernel
theorem dX10_worst_152 : decode cX10_worst 152 = .ok (.iload 7, 2) := by decide +kernel
theorem dX10_worst_154 : decode cX10_worst 154 = .ok (.iadd, 1) := by decide +kernel
theorem dX10_worst_155 : decode cX10_worst 155 = .ok (.istore 5, 2) := by decide +kernel
theorem dX10_worst_157 : decode cX10_worst 157 = .ok (.iinc 7 1, 3) := by decide +kernel
theorem dX10_worst_160 : decode cX10_worst 160 = .ok (.goto (-107), 3) := by decide +kernel
theorem dX10_worst_163 : decode cX10_worst 163 = .ok (.iinc 6 1, 3) := by decide +kernel
theorem dX10_worst_166 : decode cX10_worst 166 = .ok (.goto (-122), 3) := by decide +kernel
theorem dX10_worst_169 : decode cX10_worst 169 = .ok (.iload 5, 2) := by decide +kernel
theorem dX10_worst_171 : decode cX10_worst 171 = .ok (.iconst (-1), 1) := by decide +kernel
theorem dX10_worst_172 : decode cX10_worst 172 = .ok (.if_icmp .ne 5, 3) := by decide +kernel
theorem dX10_worst_175 : decode cX10_worst 175 = .ok (.iconst (-1), 1) := by decide +kernel
theorem dX10_worst_176 : decode cX10_worst 176 = .ok (.ireturn, 1) := by decide +kernel
theorem dX10_worst_177 : decode cX10_worst 177 = .ok (.iload_n 2, 1) := by decide +kernel
theorem dX10_worst_178 : decode cX10_worst 178 = .ok (.ifCond .ne 11, 3) := by decide +kernel
theorem dX10_worst_181 : decode cX10_worst 181 = .ok (.iload 5, 2) := by decide +kernel
theorem dX10_worst_183 : decode cX10_worst 183 = .ok (.bipush 120, 2) := by decide +kernel
theorem dX10_worst_185 : decode cX10_worst 185 = .ok (.idiv, 1) := by decide +kernel
theorem dX10_worst_186 : decode cX10_worst 186 = .ok (.goto 20, 3) := by decide +kernel
theorem dX10_worst_189 : decode cX10_worst 189 = .ok (.iload_n 2, 1) := by decide +kernel
theorem dX10_worst_190 : decode cX10_worst 190 = .ok (.iconst 1, 1) := by decide +kernel
theorem dX10_worst_191 : decode cX10_worst 191 = .ok (.if_icmp .ne 11, 3) := by decide +kernel
theorem dX10_worst_194 : decode cX10_worst 194 = .ok (.iload 5, 2) := by decide +kernel
theorem dX10_worst_196 : decode cX10_worst 196 = .ok (.bipush 120, 2) := by decide +kernel
theorem dX10_worst_198 : decode cX10_worst 198 = .ok (.irem, 1) := by decide +kernel
theorem dX10_worst_199 : decode cX10_worst 199 = .ok (.goto 7, 3) := by decide +kernel
theorem dX10_worst_202 : decode cX10_worst 202 = .ok (.iload_n 3, 1) := by decide +kernel
theorem dX10_worst_203 : decode cX10_worst 203 = .ok (.iload 4, 2) := by decide +kernel
theorem dX10_worst_205 : decode cX10_worst 205 = .ok (.isub, 1) := by decide +kernel
theorem dX10_worst_206 : decode cX10_worst 206 = .ok (.ireturn, 1) := by decide +kernel
theorem dX10_line_0 : decode cX10_line 0 = .ok (.aload_n 0, 1) := by decide +kernel
theorem dX10_line_1 : decode cX10_line 1 = .ok (.iconst 0, 1) := by decide +kernel
theorem dX10_line_2 : decode cX10_line 2 = .ok (.putfield 98, 3) := by decide +kernel
theorem dX10_line_5 : decode cX10_line 5 = .ok (.aload_n 0, 1) := by decide +kernel
theorem dX10_line_6 : decode cX10_line 6 = .ok (.iload_n 1, 1) := by decide +kernel
theorem dX10_line_7 : decode cX10_line 7 = .ok (.invokevirtual 252, 3) := by decide +kernel
theorem dX10_line_10 : decode cX10_line 10 = .ok (.ifCond .eq 25, 3) := by decide +kernel
theorem dX10_line_13 : decode cX10_line 13 = .ok (.aload_n 0, 1) := by decide +kernel
theorem dX10_line_14 : decode cX10_line 14 = .ok (.iload_n 2, 1) := by decide +kernel
theorem dX10_line_15 : decode cX10_line 15 = .ok (.invokevirtual 252, 3) := by decide +kernel
theorem dX10_line_18 : decode cX10_line 18 = .ok (.ifCond .eq 17, 3) := by decide +kernel
theorem dX10_line_21 : decode cX10_line 21 = .ok (.iload_n 1, 1) := by decide +kernel
theorem dX10_line_22 : decode cX10_line 22 = .ok (.iload_n 2, 1) := by decide +kernel
theorem dX10_line_23 : decode cX10_line 23 = .ok (.if_icmp .eq 12, 3) := by decide +kernel
theorem dX10_line_26 : decode cX10_line 26 = .ok (.aload_n 0, 1) := by decide +kernel
theorem dX10_line_27 : decode cX10_line 27 = .ok (.getfield 108, 3) := by decide +kernel
theorem dX10_line_30 : decode cX10_line 30 = .ok (.bipush 20, 2) := by decide +kernel
theorem dX10_line_32 : decode cX10_line 32 = .ok (.if_icmp .ne 5, 3) := by decide +kernel
theorem dX10_line_35 : decode cX10_line 35 = .ok (.iconst (-1), 1) := by decide +kernel
theorem dX10_line_36 : decode cX10_line 36 = .ok (.ireturn, 1) := by decide +kernel
theorem dX10_line_37 : decode cX10_line 37 = .ok (.iconst 0, 1) := by decide +kernel
theorem dX10_line_38 : decode cX10_line 38 = .ok (.istore_n 3, 1) := by decide +kernel
theorem dX10_line_39 : decode cX10_line 39 = .ok (.iload_n 3, 1) := by decide +kernel
theorem dX10_line_40 : decode cX10_line 40 = .ok (.aload_n 0, 1) := by decide +kernel
theorem dX10_line_41 : decode cX10_line 41 = .ok (.getfield 108, 3) := by decide +kernel
theorem dX10_line_44 : decode cX10_line 44 = .ok (.if_icmp .ge 51, 3) := by decide +kernel
theorem dX10_line_47 : decode cX10_line 47 = .ok (.aload_n 0, 1) := by decide +kernel
theorem dX10_line_48 : decode cX10_line 48 = .ok (.getfield 38, 3) := by decide +kernel
theorem dX10_line_51 : decode cX10_line 51 = .ok (.iload_n 3, 1) := by decide +kernel
theorem dX10_line_52 : decode cX10_line 52 = .ok (.iaload, 1) := by decide +kernel
theorem dX10_line_53 : decode cX10_line 53 = .ok (.iload_n 1, 1) := by decide +kernel
theorem dX10_line_54 : decode cX10_line 54 = .ok (.if_icmp .ne 13, 3) := by decide +kernel
theorem dX10_line_57 : decode cX10_line 57 = .ok (.aload_n 0, 1) := by decide +kernel
theorem dX10_line_58 : decode cX10_line 58 = .ok (.getfield 41, 3) := by decide +kernel
theorem dX10_line_61 : decode cX10_line 61 = .ok (.iload_n 3, 1) := by decide +kernel
theorem dX10_line_62 : decode cX10_line 62 = .ok (.iaload, 1) := by decide +kernel
theorem dX10_line_63 : decode cX10_line 63 = .ok (.iload_n 2, 1) := by decide +kernel
theorem dX10_line_64 : decode cX10_line 64 = .ok (.if_icmp .eq 23, 3) := by decide +kernel
theorem dX10_line_67 : decode cX10_line 67 = .ok (.aload_n 0, 1) := by decide +kernel
theorem dX10_line_68 : decode cX10_line 68 = .ok (.getfield 38, 3) := by decide +kernel
theorem dX10_line_71 : decode cX10_line 71 = .ok (.iload_n 3, 1) := by decide +kernel
theorem dX10_line_72 : decode cX10_line 72 = .ok (.iaload, 1) := by decide +kernel
theorem dX10_line_73 : decode cX10_line 73 = .ok (.iload_n 2, 1) := by decide +kernel
theorem dX10_line_74 : decode cX10_line 74 = .ok (.if_icmp .ne 15, 3) := by decide +kernel
theorem dX10_line_77 : decode cX10_line 77 = .ok (.aload_n 0, 1) := by decide +kernel
theorem dX10_line_78 : decode cX10_line 78 = .ok (.getfield 41, 3) := by decide +kernel
theorem dX10_line_81 : decode cX10_line 81 = .ok (.iload_n 3, 1) := by decide +kernel
theorem dX10_line_82 : decode cX10_line 82 = .ok (.iaload, 1) := by decide +kernel
theorem dX10_line_83 : decode cX10_line 83 = .ok (.iload_n 1, 1) := by decide +kernel
theorem dX10_line_84 : decode cX10_line 84 = .ok (.if_icmp .ne 5, 3) := by decide +kernel
theorem dX10_line_87 : decode cX10_line 87 = .ok (.iconst (-1), 1) := by decide +kernel
theorem dX10_line_88 : decode cX10_line 88 = .ok (.ireturn, 1) := by decide +kernel
theorem dX10_line_89 : decode cX10_line 89 = .ok (.iinc 3 1, 3) := by decide +kernel
theorem dX10_line_92 : decode cX10_line 92 = .ok (.goto (-53), 3) := by decide +kernel
theorem dX10_line_95 : decode cX10_line 95 = .ok (.aload_n 0, 1) := by decide +kernel
theorem dX10_line_96 : decode cX10_line 96 = .ok (.getfield 38, 3) := by decide +kernel
theorem dX10_line_99 : decode cX10_line 99 = .ok (.aload_n 0, 1) := by decide +kernel
theorem dX10_line_100 : decode cX10_line 100 = .ok (.getfield 108, 3) := by decide +kernel
theorem dX10_line_103 : decode cX10_line 103 = .ok (.iload_n 1, 1) := by decide +kernel
theorem dX10_line_104 : decode cX10_line 104 = .ok (.iastore, 1) := by decide +kernel
theorem dX10_line_105 : decode cX10_line 105 = .ok (.aload_n 0, 1) := by decide +kernel
theorem dX10_line_106 : decode cX10_line 106 = .ok (.getfield 41, 3) := by decide +kernel
theorem dX10_line_109 : decode cX10_line 109 = .ok (.aload_n 0, 1) := by decide +kernel
theorem dX10_line_110 : decode cX10_line 110 = .ok (.getfield 108, 3) := by decide +kernel
theorem dX10_line_113 : decode cX10_line 113 = .ok (.iload_n 2, 1) := by decide +kernel
theorem dX10_line_114 : decode cX10_line 114 = .ok (.iastore, 1) := by decide +kernel
theorem dX10_line_115 : decode cX10_line 115 = .ok (.aload_n 0, 1) := by decide +kernel
theorem dX10_line_116 : decode cX10_line 116 = .ok (.aload_n 0, 1) := by decide +kernel
theorem dX10_line_117 : decode cX10_line 117 = .ok (.getfield 108, 3) := by decide +kernel
theorem dX10_line_120 : decode cX10_line 120 = .ok (.iconst 1, 1) := by decide +kernel
theorem dX10_line_121 : decode cX10_line 121 = .ok (.iadd, 1) := by decide +kernel
theorem dX10_line_122 : decode cX10_line 122 = .ok (.putfield 108, 3) := by decide +kernel
theorem dX10_line_125 : decode cX10_line 125 = .ok (.aload_n 0, 1) := by decide +kernel
theorem dX10_line_126 : decode cX10_line 126 = .ok (.getfield 108, 3) := by decide +kernel
theorem dX10_line_129 : decode cX10_line 129 = .ok (.iconst 1, 1) := by decide +kernel
theorem dX10_line_130 : decode cX10_line 130 = .ok (.isub, 1) := by decide +kernel
theorem dX10_line_131 : decode cX10_line 131 = .ok (.ireturn, 1) := by decide +kernel
theorem dX10_clear_0 : decode cX10_clear 0 = .ok (.aload_n 0, 1) := by decide +kernel
theorem dX10_clear_1 : decode cX10_clear 1 = .ok (.iconst 0, 1) := by decide +kernel
theorem dX10_clear_2 : decode cX10_clear 2 = .ok (.putfield 98, 3) := by decide +kernel
theorem dX10_clear_5 : decode cX10_clear 5 = .ok (.aload_n 0, 1) := by decide +kernel
theorem dX10_clear_6 : decode cX10_clear 6 = .ok (.getfield 108, 3) := by decide +kernel
theorem dX10_clear_9 : decode cX10_clear 9 = .ok (.istore_n 1, 1) := by decide +kernel
theorem dX10_clear_10 : decode cX10_clear 10 = .ok (.aload_n 0, 1) := by decide +kernel
theorem dX10_clear_11 : decode cX10_clear 11 = .ok (.iconst 0, 1) := by decide +kernel
theorem dX10_clear_12 : decode cX10_clear 12 = .ok (.putfield 108, 3) := by decide +kernel
theorem dX10_clear_15 : decode cX10_clear 15 = .ok (.iload_n 1, 1) := by decide +kernel
theorem dX10_clear_16 : decode cX10_clear 16 = .ok (.ireturn, 1) := by decide +kernel
theorem dX10_oddOf_0 : decode cX10_oddOf 0 = .ok (.iconst 0, 1) := by decide +kernel
theorem dX10_oddOf_1 : decode cX10_oddOf 1 = .ok (.istore_n 2, 1) := by decide +kernel
theorem dX10_oddOf_2 : decode cX10_oddOf 2 = .ok (.iconst 0, 1) := by decide +kernel
theorem dX10_oddOf_3 : decode cX10_oddOf 3 = .ok (.istore_n 3, 1) := by decide +kernel
theorem dX10_oddOf_4 : decode cX10_oddOf 4 = .ok (.iload_n 3, 1) := by decide +kernel
theorem dX10_oddOf_5 : decode cX10_oddOf 5 = .ok (.aload_n 0, 1) := by decide +kernel
theorem dX10_oddOf_6 : decode cX10_oddOf 6 = .ok (.getfield 108, 3) := by decide +kernel
theorem dX10_oddOf_9 : decode cX10_oddOf 9 = .ok (.if_icmp .ge 38, 3) := by decide +kernel
theorem dX10_oddOf_12 : decode cX10_oddOf 12 = .ok (.iload_n 1, 1) := by decide +kernel
theorem dX10_oddOf_13 : decode cX10_oddOf 13 = .ok (.iload_n 3, 1) := by decide +kernel
theorem dX10_oddOf_14 : decode cX10_oddOf 14 = .ok (.ishr, 1) := by decide +kernel
theorem dX10_oddOf_15 : decode cX10_oddOf 15 = .ok (.iconst 1, 1) := by decide +kernel
theorem dX10_oddOf_16 : decode cX10_oddOf 16 = .ok (.iand, 1) := by decide +kernel
theorem dX10_oddOf_17 : decode cX10_oddOf 17 = .ok (.iconst 1, 1) := by decide +kernel
theorem dX10_oddOf_18 : decode cX10_oddOf 18 = .ok (.if_icmp .ne 23, 3) := by decide +kernel
theorem dX10_oddOf_21 : decode cX10_oddOf 21 = .ok (.iload_n 2, 1) := by decide +kernel
theorem dX10_oddOf_22 : decode cX10_oddOf 22 = .ok (.iconst 1, 1) := by decide +kernel
theorem dX10_oddOf_23 : decode cX10_oddOf 23 = .ok (.aload_n 0, 1) := by decide +kernel
theorem dX10_oddOf_24 : decode cX10_oddOf 24 = .ok (.getfield 38, 3) := by decide +kernel
theorem dX10_oddOf_27 : decode cX10_oddOf 27 = .ok (.iload_n 3, 1) := by decide +kernel
theorem dX10_oddOf_28 : decode cX10_oddOf 28 = .ok (.iaload, 1) := by decide +kernel
theorem dX10_oddOf_29 : decode cX10_oddOf 29 = .ok (.ishl, 1) := by decide +kernel
theorem dX10_oddOf_30 : decode cX10_oddOf 30 = .ok (.ixor, 1) := by decide +kernel
theorem dX10_oddOf_31 : decode cX10_oddOf 31 = .ok (.iconst 1, 1) := by decide +kernel
theorem dX10_oddOf_32 : decode cX10_oddOf 32 = .ok (.aload_n 0, 1) := by decide +kernel
theorem dX10_oddOf_33 : decode cX10_oddOf 33 = .ok (.getfield 41, 3) := by decide +kernel
theorem dX10_oddOf_36 : decode cX10_oddOf 36 = .ok (.iload_n 3, 1) := by decide +kernel
theorem dX10_oddOf_37 : decode cX10_oddOf 37 = .ok (.iaload, 1) := by decide +kernel
theorem dX10_oddOf_38 : decode cX10_oddOf 38 = .ok (.ishl, 1) := by decide +kernel
theorem dX10_oddOf_39 : decode cX10_oddOf 39 = .ok (.ixor, 1) := by decide +kernel
theorem dX10_oddOf_40 : decode cX10_oddOf 40 = .ok (.istore_n 2, 1) := by decide +kernel
theorem dX10_oddOf_41 : decode cX10_oddOf 41 = .ok (.iinc 3 1, 3) := by decide +kernel
theorem dX10_oddOf_44 : decode cX10_oddOf 44 = .ok (.goto (-40), 3) := by decide +kernel
theorem dX10_oddOf_47 : decode cX10_oddOf 47 = .ok (.iload_n 2, 1) := by decide +kernel
theorem dX10_oddOf_48 : decode cX10_oddOf 48 = .ok (.ireturn, 1) := by decide +kernel
theorem dX10_reachedFrom_0 : decode cX10_reachedFrom 0 = .ok (.iload_n 1, 1) := by decide +kernel
theorem dX10_reachedFrom_1 : decode cX10_reachedFrom 1 = .ok (.istore_n 3, 1) := by decide +kernel
theorem dX10_reachedFrom_2 : decode cX10_reachedFrom 2 = .ok (.iconst 0, 1) := by decide +kernel
theorem dX10_reachedFrom_3 : decode cX10_reachedFrom 3 = .ok (.istore 4, 2) := by decide +kernel
theorem dX10_reachedFrom_5 : decode cX10_reachedFrom 5 = .ok (.iload 4, 2) := by decide +kernel
theorem dX10_reachedFrom_7 : decode cX10_reachedFrom 7 = .ok (.aload_n 0, 1) := by decide +kernel
theorem dX10_reachedFrom_8 : decode cX10_reachedFrom 8 = .ok (.getfield 108, 3) := by decide +kernel
theorem dX10_reachedFrom_11 : decode cX10_reachedFrom 11 = .ok (.if_icmp .ge 70, 3) := by decide +kernel
theorem dX10_reachedFrom_14 : decode cX10_reachedFrom 14 = .ok (.iconst 0, 1) := by decide +kernel
theorem dX10_reachedFrom_15 : decode cX10_reachedFrom 15 = .ok (.istore 5, 2) := by decide +kernel
theorem dX10_reachedFrom_17 : decode cX10_reachedFrom 17 = .ok (.iload 5, 2) := by decide +kernel
theorem dX10_reachedFrom_19 : decode cX10_reachedFrom 19 = .ok (.aload_n 0, 1) := by decide +kernel
theorem dX10_reachedFrom_20 : decode cX10_reachedFrom 20 = .ok (.getfield 108, 3) := by decide +kernel
theorem dX10_reachedFrom_23 : decode cX10_reachedFrom 23 = .ok (.if_icmp .ge 52, 3) := by decide +kernel
theorem dX10_reachedFrom_26 : decode cX10_reachedFrom 26 = .ok (.iconst 1, 1) := by decide +kernel
theorem dX10_reachedFrom_27 : decode cX10_reachedFrom 27 = .ok (.aload_n 0, 1) := by decide +kernel
theorem dX10_reachedFrom_28 : decode cX10_reachedFrom 28 = .ok (.getfield 38, 3) := by decide +kernel
theorem dX10_reachedFrom_31 : decode cX10_reachedFrom 31 = .ok (.iload 5, 2) := by decide +kernel
theorem dX10_reachedFrom_33 : decode cX10_reachedFrom 33 = .ok (.iaload, 1) := by decide +kernel
theorem dX10_reachedFrom_34 : decode cX10_reachedFrom 34 = .ok (.ishl, 1) := by decide +kernel
theorem dX10_reachedFrom_35 : decode cX10_reachedFrom 35 = .ok (.iconst 1, 1) := by decide +kernel
theorem dX10_reachedFrom_36 : decode cX10_reachedFrom 36 = .ok (.aload_n 0, 1) := by decide +kernel
theorem dX10_reachedFrom_37 : decode cX10_reachedFrom 37 = .ok (.getfield 41, 3) := by decide +kernel
theorem dX10_reachedFrom_40 : decode cX10_reachedFrom 40 = .ok (.iload 5, 2) := by decide +kernel
theorem dX10_reachedFrom_42 : decode cX10_reachedFrom 42 = .ok (.iaload, 1) := by decide +kernel
theorem dX10_reachedFrom_43 : decode cX10_reachedFrom 43 = .ok (.ishl, 1) := by decide +kernel
theorem dX10_reachedFrom_44 : decode cX10_reachedFrom 44 = .ok (.ior, 1) := by decide +kernel
theorem dX10_reachedFrom_45 : decode cX10_reachedFrom 45 = .ok (.istore 6, 2) := by decide +kernel
theorem dX10_reachedFrom_47 : decode cX10_reachedFrom 47 = .ok (.iload_n 2, 1) := by decide +kernel
theorem dX10_reachedFrom_48 : decode cX10_reachedFrom 48 = .ok (.iload 5, 2) := by decide +kernel
theorem dX10_reachedFrom_50 : decode cX10_reachedFrom 50 = .ok (.ishr, 1) := by decide +kernel
theorem dX10_reachedFrom_51 : decode cX10_reachedFrom 51 = .ok (.iconst 1, 1) := by decide +kernel
theorem dX10_reachedFrom_52 : decode cX10_reachedFrom 52 = .ok (.iand, 1) := by decide +kernel
theorem dX10_reachedFrom_53 : decode cX10_reachedFrom 53 = .ok (.iconst 1, 1) := by decide +kernel
theorem dX10_reachedFrom_54 : decode cX10_reachedFrom 54 = .ok (.if_icmp .ne 15, 3) := by decide +kernel
theorem dX10_reachedFrom_57 : decode cX10_reachedFrom 57 = .ok (.iload_n 3, 1) := by decide +kernel
theorem dX10_reachedFrom_58 : decode cX10_reachedFrom 58 = .ok (.iload 6, 2) := by decide +kernel
theorem dX10_reachedFrom_60 : decode cX10_reachedFrom 60 = .ok (.iand, 1) := by decide +kernel
theorem dX10_reachedFrom_61 : decode cX10_reachedFrom 61 = .ok (.ifCond .eq 8, 3) := by decide +kernel
theorem dX10_reachedFrom_64 : decode cX10_reachedFrom 64 = .ok (.iload_n 3, 1) := by decide +kernel
theorem dX10_reachedFrom_65 : decode cX10_reachedFrom 65 = .ok (.iload 6, 2) := by decide +kernel
theorem dX10_reachedFrom_67 : decode cX10_reachedFrom 67 = .ok (.ior, 1) := by decide +kernel
theorem dX10_reachedFrom_68 : decode cX10_reachedFrom 68 = .ok (.istore_n 3, 1) := by decide +kernel
theorem dX10_reachedFrom_69 : decode cX10_reachedFrom 69 = .ok (.iinc 5 1, 3) := by decide +kernel
theorem dX10_reachedFrom_72 : decode cX10_reachedFrom 72 = .ok (.goto (-55), 3) := by decide +kernel
theorem dX10_reachedFrom_75 : decode cX10_reachedFrom 75 = .ok (.iinc 4 1, 3) := by decide +kernel
theorem dX10_reachedFrom_78 : decode cX10_reachedFrom 78 = .ok (.goto (-73), 3) := by decide +kernel
theorem dX10_reachedFrom_81 : decode cX10_reachedFrom 81 = .ok (.iload_n 3, 1) := by decide +kernel
theorem dX10_reachedFrom_82 : decode cX10_reachedFrom 82 = .ok (.ireturn, 1) := by decide +kernel
theorem dX10_pinsOf_0 : decode cX10_pinsOf 0 = .ok (.iconst 0, 1) := by decide +kernel
theorem dX10_pinsOf_1 : decode cX10_pinsOf 1 = .ok (.istore_n 2, 1) := by decide +kernel
theorem dX10_pinsOf_2 : decode cX10_pinsOf 2 = .ok (.iconst 0, 1) := by decide +kernel
theorem dX10_pinsOf_3 : decode cX10_pinsOf 3 = .ok (.istore_n 3, 1) := by decide +kernel
theorem dX10_pinsOf_4 : decode cX10_pinsOf 4 = .ok (.iload_n 3, 1) := by decide +kernel
theorem dX10_pinsOf_5 : decode cX10_pinsOf 5 = .ok (.aload_n 0, 1) := by decide +kernel
theorem dX10_pinsOf_6 : decode cX10_pinsOf 6 = .ok (.getfield 108, 3) := by decide +kernel
theorem dX10_pinsOf_9 : decode cX10_pinsOf 9 = .ok (.if_icmp .ge 38, 3) := by decide +kernel
theorem dX10_pinsOf_12 : decode cX10_pinsOf 12 = .ok (.iload_n 1, 1) := by decide +kernel
theorem dX10_pinsOf_13 : decode cX10_pinsOf 13 = .ok (.iload_n 3, 1) := by decide +kernel
theorem dX10_pinsOf_14 : decode cX10_pinsOf 14 = .ok (.ishr, 1) := by decide +kernel
theorem dX10_pinsOf_15 : decode cX10_pinsOf 15 = .ok (.iconst 1, 1) := by decide +kernel
theorem dX10_pinsOf_16 : decode cX10_pinsOf 16 = .ok (.iand, 1) := by decide +kernel
theorem dX10_pinsOf_17 : decode cX10_pinsOf 17 = .ok (.iconst 1, 1) := by decide +kernel
theorem dX10_pinsOf_18 : decode cX10_pinsOf 18 = .ok (.if_icmp .ne 23, 3) := by decide +kernel
theorem dX10_pinsOf_21 : decode cX10_pinsOf 21 = .ok (.iload_n 2, 1) := by decide +kernel
theorem dX10_pinsOf_22 : decode cX10_pinsOf 22 = .ok (.iconst 1, 1) := by decide +kernel
theorem dX10_pinsOf_23 : decode cX10_pinsOf 23 = .ok (.aload_n 0, 1) := by decide +kernel
theorem dX10_pinsOf_24 : decode cX10_pinsOf 24 = .ok (.getfield 38, 3) := by decide +kernel
theorem dX10_pinsOf_27 : decode cX10_pinsOf 27 = .ok (.iload_n 3, 1) := by decide +kernel
theorem dX10_pinsOf_28 : decode cX10_pinsOf 28 = .ok (.iaload, 1) := by decide +kernel
theorem dX10_pinsOf_29 : decode cX10_pinsOf 29 = .ok (.ishl, 1) := by decide +kernel
theorem dX10_pinsOf_30 : decode cX10_pinsOf 30 = .ok (.ior, 1) := by decide +kernel
theorem dX10_pinsOf_31 : decode cX10_pinsOf 31 = .ok (.iconst 1, 1) := by decide +kernel
theorem dX10_pinsOf_32 : decode cX10_pinsOf 32 = .ok (.aload_n 0, 1) := by decide +kernel
theorem dX10_pinsOf_33 : decode cX10_pinsOf 33 = .ok (.getfield 41, 3) := by decide +kernel
theorem dX10_pinsOf_36 : decode cX10_pinsOf 36 = .ok (.iload_n 3, 1) := by decide +kernel
theorem dX10_pinsOf_37 : decode cX10_pinsOf 37 = .ok (.iaload, 1) := by decide +kernel
theorem dX10_pinsOf_38 : decode cX10_pinsOf 38 = .ok (.ishl, 1) := by decide +kernel
theorem dX10_pinsOf_39 : decode cX10_pinsOf 39 = .ok (.ior, 1) := by decide +kernel
theorem dX10_pinsOf_40 : decode cX10_pinsOf 40 = .ok (.istore_n 2, 1) := by decide +kernel
theorem dX10_pinsOf_41 : decode cX10_pinsOf 41 = .ok (.iinc 3 1, 3) := by decide +kernel
theorem dX10_pinsOf_44 : decode cX10_pinsOf 44 = .ok (.goto (-40), 3) := by decide +kernel
theorem dX10_pinsOf_47 : decode cX10_pinsOf 47 = .ok (.iload_n 2, 1) := by decide +kernel
theorem dX10_pinsOf_48 : decode cX10_pinsOf 48 = .ok (.ireturn, 1) := by decide +kernel
theorem dX10_leastIn_0 : decode cX10_leastIn 0 = .ok (.iconst 0, 1) := by decide +kernel
theorem dX10_leastIn_1 : decode cX10_leastIn 1 = .ok (.istore_n 2, 1) := by decide +kernel
theorem dX10_leastIn_2 : decode cX10_leastIn 2 = .ok (.iload_n 1, 1) := by decide +kernel
theorem dX10_leastIn_3 : decode cX10_leastIn 3 = .ok (.iload_n 2, 1) := by decide +kernel
theorem dX10_leastIn_4 : decode cX10_leastIn 4 = .ok (.ishr, 1) := by decide +kernel
theorem dX10_leastIn_5 : decode cX10_leastIn 5 = .ok (.iconst 1, 1) := by decide +kernel
theorem dX10_leastIn_6 : decode cX10_leastIn 6 = .ok (.iand, 1) := by decide +kernel
theorem dX10_leastIn_7 : decode cX10_leastIn 7 = .ok (.ifCond .ne 10, 3) := by decide +kernel
theorem dX10_leastIn_10 : decode cX10_leastIn 10 = .ok (.iload_n 2, 1) := by decide +kernel
theorem dX10_leastIn_11 : decode cX10_leastIn 11 = .ok (.iconst 1, 1) := by decide +kernel
theorem dX10_leastIn_12 : decode cX10_leastIn 12 = .ok (.iadd, 1) := by decide +kernel
theorem dX10_leastIn_13 : decode cX10_leastIn 13 = .ok (.istore_n 2, 1) := by decide +kernel
theorem dX10_leastIn_14 : decode cX10_leastIn 14 = .ok (.goto (-12), 3) := by decide +kernel
theorem dX10_leastIn_17 : decode cX10_leastIn 17 = .ok (.iload_n 2, 1) := by decide +kernel
theorem dX10_leastIn_18 : decode cX10_leastIn 18 = .ok (.ireturn, 1) := by decide +kernel
theorem dX10_allLines_0 : decode cX10_allLines 0 = .ok (.iconst 1, 1) := by decide +kernel
theorem dX10_allLines_1 : decode cX10_allLines 1 = .ok (.aload_n 0, 1) := by decide +kernel
theorem dX10_allLines_2 : decode cX10_allLines 2 = .ok (.getfield 108, 3) := by decide +kernel
theorem dX10_allLines_5 : decode cX10_allLines 5 = .ok (.ishl, 1) := by decide +kernel
theorem dX10_allLines_6 : decode cX10_allLines 6 = .ok (.iconst 1, 1) := by decide +kernel
theorem dX10_allLines_7 : decode cX10_allLines 7 = .ok (.isub, 1) := by decide +kernel
theorem dX10_allLines_8 : decode cX10_allLines 8 = .ok (.ireturn, 1) := by decide +kernel
theorem dX10_parts_0 : decode cX10_parts 0 = .ok (.aload_n 0, 1) := by decide +kernel
theorem dX10_parts_1 : decode cX10_parts 1 = .ok (.aload_n 0, 1) := by decide +kernel
theorem dX10_parts_2 : decode cX10_parts 2 = .ok (.invokevirtual 278, 3) := by decide +kernel
theorem dX10_parts_5 : decode cX10_parts 5 = .ok (.invokevirtual 281, 3) := by decide +kernel
theorem dX10_parts_8 : decode cX10_parts 8 = .ok (.istore_n 1, 1) := by decide +kernel
theorem dX10_parts_9 : decode cX10_parts 9 = .ok (.iconst 0, 1) := by decide +kernel
theorem dX10_parts_10 : decode cX10_parts 10 = .ok (.istore_n 2, 1) := by decide +kernel
theorem dX10_parts_11 : decode cX10_parts 11 = .ok (.iload_n 1, 1) := by decide +kernel
theorem dX10_parts_12 : decode cX10_parts 12 = .ok (.ifCond .eq 30, 3) := by decide +kernel
theorem dX10_parts_15 : decode cX10_parts 15 = .ok (.iload_n 1, 1) := by decide +kernel
theorem dX10_parts_16 : decode cX10_parts 16 = .ok (.aload_n 0, 1) := by decide +kernel
theorem dX10_parts_17 : decode cX10_parts 17 = .ok (.iconst 1, 1) := by decide +kernel
theorem dX10_parts_18 : decode cX10_parts 18 = .ok (.aload_n 0, 1) := by decide +kernel
theorem dX10_parts_19 : decode cX10_parts 19 = .ok (.iload_n 1, 1) := by decide +kernel
theorem dX10_parts_20 : decode cX10_parts 20 = .ok (.invokevirtual 284, 3) := by decide +kernel
theorem dX10_parts_23 : decode cX10_parts 23 = .ok (.ishl, 1) := by decide +kernel
theorem dX10_parts_24 : decode cX10_parts 24 = .ok (.aload_n 0, 1) := by decide +kernel
theorem dX10_parts_25 : decode cX10_parts 25 = .ok (.invokevirtual 278, 3) := by decide +kernel
theorem dX10_parts_28 : decode cX10_parts 28 = .ok (.invokevirtual 287, 3) := by decide +kernel
theorem dX10_parts_31 : decode cX10_parts 31 = .ok (.iconst (-1), 1) := by decide +kernel
theorem dX10_parts_32 : decode cX10_parts 32 = .ok (.ixor, 1) := by decide +kernel
theorem dX10_parts_33 : decode cX10_parts 33 = .ok (.iand, 1) := by decide +kernel
theorem dX10_parts_34 : decode cX10_parts 34 = .ok (.istore_n 1, 1) := by decide +kernel
theorem dX10_parts_35 : decode cX10_parts 35 = .ok (.iload_n 2, 1) := by decide +kernel
theorem dX10_parts_36 : decode cX10_parts 36 = .ok (.iconst 1, 1) := by decide +kernel
theorem dX10_parts_37 : decode cX10_parts 37 = .ok (.iadd, 1) := by decide +kernel
theorem dX10_parts_38 : decode cX10_parts 38 = .ok (.istore_n 2, 1) := by decide +kernel
theorem dX10_parts_39 : decode cX10_parts 39 = .ok (.goto (-28), 3) := by decide +kernel
theorem dX10_parts_42 : decode cX10_parts 42 = .ok (.iload_n 2, 1) := by decide +kernel
theorem dX10_parts_43 : decode cX10_parts 43 = .ok (.ireturn, 1) := by decide +kernel
theorem dX10_threadsNeeded_0 : decode cX10_threadsNeeded 0 = .ok (.aload_n 0, 1) := by decide +kernel
theorem dX10_threadsNeeded_1 : decode cX10_threadsNeeded 1 = .ok (.aload_n 0, 1) := by decide +kernel
theorem dX10_threadsNeeded_2 : decode cX10_threadsNeeded 2 = .ok (.invokevirtual 278, 3) := by decide +kernel
theorem dX10_threadsNeeded_5 : decode cX10_threadsNeeded 5 = .ok (.invokevirtual 281, 3) := by decide +kernel
theorem dX10_threadsNeeded_8 : decode cX10_threadsNeeded 8 = .ok (.istore_n 1, 1) := by decide +kernel
theorem dX10_threadsNeeded_9 : decode cX10_threadsNeeded 9 = .ok (.aload_n 0, 1) := by decide +kernel
theorem dX10_threadsNeeded_10 : decode cX10_threadsNeeded 10 = .ok (.aload_n 0, 1) := by decide +kernel
theorem dX10_threadsNeeded_11 : decode cX10_threadsNeeded 11 = .ok (.invokevirtual 278, 3) := by decide +kernel
theorem dX10_threadsNeeded_14 : decode cX10_threadsNeeded 14 = .ok (.invokevirtual 290, 3) := by decide +kernel
theorem dX10_threadsNeeded_17 : decode cX10_threadsNeeded 17 = .ok (.istore_n 2, 1) := by decide +kernel
theorem dX10_threadsNeeded_18 : decode cX10_threadsNeeded 18 = .ok (.iconst 0, 1) := by decide +kernel
theorem dX10_threadsNeeded_19 : decode cX10_threadsNeeded 19 = .ok (.istore_n 3, 1) := by decide +kernel
theorem dX10_threadsNeeded_20 : decode cX10_threadsNeeded 20 = .ok (.iload_n 1, 1) := by decide +kernel
theorem dX10_threadsNeeded_21 : decode cX10_threadsNeeded 21 = .ok (.ifCond .eq 57, 3) := by decide +kernel
theorem dX10_threadsNeeded_24 : decode cX10_threadsNeeded 24 = .ok (.aload_n 0, 1) := by decide +kernel
theorem dX10_threadsNeeded_25 : decode cX10_threadsNeeded 25 = .ok (.iconst 1, 1) := by decide +kernel
theorem dX10_threadsNeeded_26 : decode cX10_threadsNeeded 26 = .ok (.aload_n 0, 1) := by decide +kernel
theorem dX10_threadsNeeded_27 : decode cX10_threadsNeeded 27 = .ok (.iload_n 1, 1) := by decide +kernel
theorem dX10_threadsNeeded_28 : decode cX10_threadsNeeded 28 = .ok (.invokevirtual 284, 3) := by decide +kernel
theorem dX10_threadsNeeded_31 : decode cX10_threadsNeeded 31 = .ok (.ishl, 1) := by decide +kernel
theorem dX10_threadsNeeded_32 : decode cX10_threadsNeeded 32 = .ok (.aload_n 0, 1) := by decide +kernel
theorem dX10_threadsNeeded_33 : decode cX10_threadsNeeded 33 = .ok (.invokevirtual 278, 3) := by decide +kernel
theorem dX10_threadsNeeded_36 : decode cX10_threadsNeeded 36 = .ok (.invokevirtual 287, 3) := by decide +kernel
theorem dX10_threadsNeeded_39 : decode cX10_threadsNeeded 39 = .ok (.istore 4, 2) := by decide +kernel
theorem dX10_threadsNeeded_41 : decode cX10_threadsNeeded 41 = .ok (.aload_n 0, 1) := by decide +kernel
theorem dX10_threadsNeeded_42 : decode cX10_threadsNeeded 42 = .ok (.iload 4, 2) := by decide +kernel
theorem dX10_threadsNeeded_44 : decode cX10_threadsNeeded 44 = .ok (.iload_n 2, 1) := by decide +kernel
theorem dX10_threadsNeeded_45 : decode cX10_threadsNeeded 45 = .ok (.iand, 1) := by decide +kernel
theorem dX10_threadsNeeded_46 : decode cX10_threadsNeeded 46 = .ok (.invokevirtual 293, 3) := by decide +kernel
theorem dX10_threadsNeeded_49 : decode cX10_threadsNeeded 49 = .ok (.iconst 2, 1) := by decide +kernel
theorem dX10_threadsNeeded_50 : decode cX10_threadsNeeded 50 = .ok (.idiv, 1) := by decide +kernel
theorem dX10_threadsNeeded_51 : decode cX10_threadsNeeded 51 = .ok (.istore 5, 2) := by decide +kernel
theorem dX10_threadsNeeded_53 : decode cX10_threadsNeeded 53 = .ok (.iload_n 3, 1) := by decide +kernel
theorem dX10_threadsNeeded_54 : decode cX10_threadsNeeded 54 = .ok (.iload 5, 2) := by decide +kernel
theorem dX10_threadsNeeded_56 : decode cX10_threadsNeeded 56 = .ok (.iconst 1, 1) := by decide +kernel
theorem dX10_threadsNeeded_57 : decode cX10_threadsNeeded 57 = .ok (.if_icmp .le 8, 3) := by decide +kernel
theorem dX10_threadsNeeded_60 : decode cX10_threadsNeeded 60 = .ok (.iload 5, 2) := by decide +kernel
theorem dX10_threadsNeeded_62 : decode cX10_threadsNeeded 62 = .ok (.goto 4, 3) := by decide +kernel
theorem dX10_threadsNeeded_65 : decode cX10_threadsNeeded 65 = .ok (.iconst 1, 1) := by decide +kernel
theorem dX10_threadsNeeded_66 : decode cX10_threadsNeeded 66 = .ok (.iadd, 1) := by decide +kernel
theorem dX10_threadsNeeded_67 : decode cX10_threadsNeeded 67 = .ok (.istore_n 3, 1) := by decide +kernel
theorem dX10_threadsNeeded_68 : decode cX10_threadsNeeded 68 = .ok (.iload_n 1, 1) := by decide +kernel
theorem dX10_threadsNeeded_69 : decode cX10_threadsNeeded 69 = .ok (.iload 4, 2) := by decide +kernel
theorem dX10_threadsNeeded_71 : decode cX10_threadsNeeded 71 = .ok (.iconst (-1), 1) := by decide +kernel
theorem dX10_threadsNeeded_72 : decode cX10_threadsNeeded 72 = .ok (.ixor, 1) := by decide +kernel
theorem dX10_threadsNeeded_73 : decode cX10_threadsNeeded 73 = .ok (.iand, 1) := by decide +kernel
theorem dX10_threadsNeeded_74 : decode cX10_threadsNeeded 74 = .ok (.istore_n 1, 1) := by decide +kernel
theorem dX10_threadsNeeded_75 : decode cX10_threadsNeeded 75 = .ok (.goto (-55), 3) := by decide +kernel
theorem dX10_threadsNeeded_78 : decode cX10_threadsNeeded 78 = .ok (.iload_n 3, 1) := by decide +kernel
theorem dX10_threadsNeeded_79 : decode cX10_threadsNeeded 79 = .ok (.ireturn, 1) := by decide +kernel
theorem dX10_shortest_0 : decode cX10_shortest 0 = .ok (.aload_n 0, 1) := by decide +kernel
theorem dX10_shortest_1 : decode cX10_shortest 1 = .ok (.aload_n 0, 1) := by decide +kernel
theorem dX10_shortest_2 : decode cX10_shortest 2 = .ok (.invokevirtual 278, 3) := by decide +kernel
theorem dX10_shortest_5 : decode cX10_shortest 5 = .ok (.invokevirtual 290, 3) := by decide +kernel
theorem dX10_shortest_8 : decode cX10_shortest 8 = .ok (.istore_n 1, 1) := by decide +kernel
theorem dX10_shortest_9 : decode cX10_shortest 9 = .ok (.aload_n 0, 1) := by decide +kernel
theorem dX10_shortest_10 : decode cX10_shortest 10 = .ok (.iload_n 1, 1) := by decide +kernel
theorem dX10_shortest_11 : decode cX10_shortest 11 = .ok (.invokevirtual 293, 3) := by decide +kernel
theorem dX10_shortest_14 : decode cX10_shortest 14 = .ok (.istore_n 2, 1) := by decide +kernel
theorem dX10_shortest_15 : decode cX10_shortest 15 = .ok (.aload_n 0, 1) := by decide +kernel
theorem dX10_shortest_16 : decode cX10_shortest 16 = .ok (.invokevirtual 296, 3) := by decide +kernel
theorem dX10_shortest_19 : decode cX10_shortest 19 = .ok (.iconst 1, 1) := by decide +kernel
theorem dX10_shortest_20 : decode cX10_shortest 20 = .ok (.if_icmp .ne 9, 3) := by decide +kernel
theorem dX10_shortest_23 : decode cX10_shortest 23 = .ok (.iload_n 2, 1) := by decide +kernel
theorem dX10_shortest_24 : decode cX10_shortest 24 = .ok (.bipush 12, 2) := by decide +kernel
theorem dX10_shortest_26 : decode cX10_shortest 26 = .ok (.if_icmp .le 5, 3) := by decide +kernel
theorem dX10_shortest_29 : decode cX10_shortest 29 = .ok (.iconst (-1), 1) := by decide +kernel
theorem dX10_shortest_30 : decode cX10_shortest 30 = .ok (.ireturn, 1) := by decide +kernel
theorem dX10_shortest_31 : decode cX10_shortest 31 = .ok (.iconst 0, 1) := by decide +kernel
theorem dX10_shortest_32 : decode cX10_shortest 32 = .ok (.istore_n 3, 1) := by decide +kernel
theorem dX10_shortest_33 : decode cX10_shortest 33 = .ok (.iconst 0, 1) := by decide +kernel
theorem dX10_shortest_34 : decode cX10_shortest 34 = .ok (.istore 4, 2) := by decide +kernel
theorem dX10_shortest_36 : decode cX10_shortest 36 = .ok (.iload 4, 2) := by decide +kernel
theorem dX10_shortest_38 : decode cX10_shortest 38 = .ok (.aload_n 0, 1) := by decide +kernel
theorem dX10_shortest_39 : decode cX10_shortest 39 = .ok (.getfield 101, 3) := by decide +kernel
theorem dX10_shortest_42 : decode cX10_shortest 42 = .ok (.if_icmp .ge 33, 3) := by decide +kernel
theorem dX10_shortest_45 : decode cX10_shortest 45 = .ok (.iload_n 1, 1) := by decide +kernel
theorem dX10_shortest_46 : decode cX10_shortest 46 = .ok (.iload 4, 2) := by decide +kernel
theorem dX10_shortest_48 : decode cX10_shortest 48 = .ok (.ishr, 1) := by decide +kernel
theorem dX10_shortest_49 : decode cX10_shortest 49 = .ok (.iconst 1, 1) := by decide +kernel
theorem dX10_shortest_50 : decode cX10_shortest 50 = .ok (.iand, 1) := by decide +kernel
theorem dX10_shortest_51 : decode cX10_shortest 51 = .ok (.ifCond .ne 6, 3) := by decide +kernel
theorem dX10_shortest_54 : decode cX10_shortest 54 = .ok (.goto 15, 3) := by decide +kernel
theorem dX10_shortest_57 : decode cX10_shortest 57 = .ok (.aload_n 0, 1) := by decide +kernel
theorem dX10_shortest_58 : decode cX10_shortest 58 = .ok (.getfield 89, 3) := by decide +kernel
theorem dX10_shortest_61 : decode cX10_shortest 61 = .ok (.iload_n 3, 1) := by decide +kernel
theorem dX10_shortest_62 : decode cX10_shortest 62 = .ok (.iload 4, 2) := by decide +kernel
theorem dX10_shortest_64 : decode cX10_shortest 64 = .ok (.iastore, 1) := by decide +kernel
theorem dX10_shortest_65 : decode cX10_shortest 65 = .ok (.iload_n 3, 1) := by decide +kernel
theorem dX10_shortest_66 : decode cX10_shortest 66 = .ok (.iconst 1, 1) := by decide +kernel
theorem dX10_shortest_67 : decode cX10_shortest 67 = .ok (.iadd, 1) := by decide +kernel
theorem dX10_shortest_68 : decode cX10_shortest 68 = .ok (.istore_n 3, 1) := by decide +kernel
theorem dX10_shortest_69 : decode cX10_shortest 69 = .ok (.iinc 4 1, 3) := by decide +kernel
theorem dX10_shortest_72 : decode cX10_shortest 72 = .ok (.goto (-36), 3) := by decide +kernel
theorem dX10_shortest_75 : decode cX10_shortest 75 = .ok (.aload_n 0, 1) := by decide +kernel
theorem dX10_shortest_76 : decode cX10_shortest 76 = .ok (.getfield 86, 3) := by decide +kernel
theorem dX10_shortest_79 : decode cX10_shortest 79 = .ok (.iconst 0, 1) := by decide +kernel
theorem dX10_shortest_80 : decode cX10_shortest 80 = .ok (.iconst 0, 1) := by decide +kernel
theorem dX10_shortest_81 : decode cX10_shortest 81 = .ok (.iastore, 1) := by decide +kernel
theorem dX10_shortest_82 : decode cX10_shortest 82 = .ok (.iload_n 2, 1) := by decide +kernel
theorem dX10_shortest_83 : decode cX10_shortest 83 = .ok (.ifCond .ne 7, 3) := by decide +kernel
theorem dX10_shortest_86 : decode cX10_shortest 86 = .ok (.iconst 0, 1) := by decide +kernel
theorem dX10_shortest_87 : decode cX10_shortest 87 = .ok (.goto 6, 3) := by decide +kernel
theorem dX10_shortest_90 : decode cX10_shortest 90 = .ok (.ldc_w 270, 3) := by decide +kernel
theorem dX10_shortest_93 : decode cX10_shortest 93 = .ok (.istore 4, 2) := by decide +kernel
theorem dX10_shortest_95 : decode cX10_shortest 95 = .ok (.iconst 1, 1) := by decide +kernel
theorem dX10_shortest_96 : decode cX10_shortest 96 = .ok (.istore 5, 2) := by decide +kernel
theorem dX10_shortest_98 : decode cX10_shortest 98 = .ok (.iload 5, 2) := by decide +kernel
theorem dX10_shortest_100 : decode cX10_shortest 100 = .ok (.iconst 1, 1) := by decide +kernel
theorem dX10_shortest_101 : decode cX10_shortest 101 = .ok (.iload_n 2, 1) := by decide +kernel
theorem dX10_shortest_102 : decode cX10_shortest 102 = .ok (.ishl, 1) := by decide +kernel
theorem dX10_shortest_103 : decode cX10_shortest 103 = .ok (.if_icmp .ge 131, 3) := by decide +kernel
theorem dX10_shortest_106 : decode cX10_shortest 106 = .ok (.aload_n 0, 1) := by decide +kernel
theorem dX10_shortest_107 : decode cX10_shortest 107 = .ok (.getfield 86, 3) := by decide +kernel
theorem dX10_shortest_110 : decode cX10_shortest 110 = .ok (.iload 5, 2) := by decide +kernel
theorem dX10_shortest_112 : decode cX10_shortest 112 = .ok (.ldc_w 270, 3) := by decide +kernel
theorem dX10_shortest_115 : decode cX10_shortest 115 = .ok (.iastore, 1) := by decide +kernel
theorem dX10_shortest_116 : decode cX10_shortest 116 = .ok (.aload_n 0, 1) := by decide +kernel
theorem dX10_shortest_117 : decode cX10_shortest 117 = .ok (.iload 5, 2) := by decide +kernel
theorem dX10_shortest_119 : decode cX10_shortest 119 = .ok (.invokevirtual 284, 3) := by decide +kernel
theorem dX10_shortest_122 : decode cX10_shortest 122 = .ok (.istore 6, 2) := by decide +kernel
theorem dX10_shortest_124 : decode cX10_shortest 124 = .ok (.iload 6, 2) := by decide +kernel
theorem dX10_shortest_126 : decode cX10_shortest 126 = .ok (.iconst 1, 1) := by decide +kernel
theorem dX10_shortest_127 : decode cX10_shortest 127 = .ok (.iadd, 1) := by decide +kernel
theorem dX10_shortest_128 : decode cX10_shortest 128 = .ok (.istore 7, 2) := by decide +kernel
theorem dX10_shortest_130 : decode cX10_shortest 130 = .ok (.iload 7, 2) := by decide +kernel
theorem dX10_shortest_132 : decode cX10_shortest 132 = .ok (.iload_n 2, 1) := by decide +kernel
theorem dX10_shortest_133 : decode cX10_shortest 133 = .ok (.if_icmp .ge 95, 3) := by decide +kernel
theorem dX10_shortest_136 : decode cX10_shortest 136 = .ok (.iload 5, 2) := by decide +kernel
theorem dX10_shortest_138 : decode cX10_shortest 138 = .ok (.iload 7, 2) := by decide +kernel
theorem dX10_shortest_140 : decode cX10_shortest 140 = .ok (.ishr, 1) := by decide +kernel
theorem dX10_shortest_141 : decode cX10_shortest 141 = .ok (.iconst 1, 1) := by decide +kernel
theorem dX10_shortest_142 : decode cX10_shortest 142 = .ok (.iand, 1) := by decide +kernel
theorem dX10_shortest_143 : decode cX10_shortest 143 = .ok (.ifCond .ne 6, 3) := by decide +kernel
theorem dX10_shortest_146 : decode cX10_shortest 146 = .ok (.goto 76, 3) := by decide +kernel
theorem dX10_shortest_149 : decode cX10_shortest 149 = .ok (.aload_n 0, 1) := by decide +kernel
theorem dX10_shortest_150 : decode cX10_shortest 150 = .ok (.getfield 86, 3) := by decide +kernel
theorem dX10_shortest_153 : decode cX10_shortest 153 = .ok (.iload 5, 2) := by decide +kernel
theorem dX10_shortest_155 : decode cX10_shortest 155 = .ok (.iconst 1, 1) := by decide +kernel
theorem dX10_shortest_156 : decode cX10_shortest 156 = .ok (.iload 6, 2) := by decide +kernel
theorem dX10_shortest_158 : decode cX10_shortest 158 = .ok (.ishl, 1) := by decide +kernel
theorem dX10_shortest_159 : decode cX10_shortest 159 = .ok (.iconst (-1), 1) := by decide +kernel
theorem dX10_shortest_160 : decode cX10_shortest 160 = .ok (.ixor, 1) := by decide +kernel
theorem dX10_shortest_161 : decode cX10_shortest 161 = .ok (.iand, 1) := by decide +kernel
theorem dX10_shortest_162 : decode cX10_shortest 162 = .ok (.iconst 1, 1) := by decide +kernel
theorem dX10_shortest_163 : decode cX10_shortest 163 = .ok (.iload 7, 2) := by decide +kernel
theorem dX10_shortest_165 : decode cX10_shortest 165 = .ok (.ishl, 1) := by decide +kernel
theorem dX10_shortest_166 : decode cX10_shortest 166 = .ok (.iconst (-1), 1) := by decide +kernel
theorem dX10_shortest_167 : decode cX10_shortest 167 = .ok (.ixor, 1) := by decide +kernel
theorem dX10_shortest_168 : decode cX10_shortest 168 = .ok (.iand, 1) := by decide +kernel
theorem dX10_shortest_169 : decode cX10_shortest 169 = .ok (.iaload, 1) := by decide +kernel
theorem dX10_shortest_170 : decode cX10_shortest 170 = .ok (.aload_n 0, 1) := by decide +kernel
theorem dX10_shortest_171 : decode cX10_shortest 171 = .ok (.aload_n 0, 1) := by decide +kernel
theorem dX10_shortest_172 : decode cX10_shortest 172 = .ok (.getfield 89, 3) := by decide +kernel
theorem dX10_shortest_175 : decode cX10_shortest 175 = .ok (.iload 6, 2) := by decide +kernel
theorem dX10_shortest_177 : decode cX10_shortest 177 = .ok (.iaload, 1) := by decide +kernel
theorem dX10_shortest_178 : decode cX10_shortest 178 = .ok (.aload_n 0, 1) := by decide +kernel
theorem dX10_shortest_179 : decode cX10_shortest 179 = .ok (.getfield 89, 3) := by decide +kernel
theorem dX10_shortest_182 : decode cX10_shortest 182 = .ok (.iload 7, 2) := by decide +kernel
theorem dX10_shortest_184 : decode cX10_shortest 184 = .ok (.iaload, 1) := by decide +kernel
theorem dX10_shortest_185 : decode cX10_shortest 185 = .ok (.invokevirtual 230, 3) := by decide +kernel
theorem dX10_shortest_188 : decode cX10_shortest 188 = .ok (.iadd, 1) := by decide +kernel
theorem dX10_shortest_189 : decode cX10_shortest 189 = .ok (.istore 8, 2) := by decide +kernel
theorem dX10_shortest_191 : decode cX10_shortest 191 = .ok (.aload_n 0, 1) := by decide +kernel
theorem dX10_shortest_192 : decode cX10_shortest 192 = .ok (.getfield 86, 3) := by decide +kernel
theorem dX10_shortest_195 : decode cX10_shortest 195 = .ok (.iload 5, 2) := by decide +kernel
theorem dX10_shortest_197 : decode cX10_shortest 197 = .ok (.iload 8, 2) := by decide +kernel
theorem dX10_shortest_199 : decode cX10_shortest 199 = .ok (.aload_n 0, 1) := by decide +kernel
theorem dX10_shortest_200 : decode cX10_shortest 200 = .ok (.getfield 86, 3) := by decide +kernel
theorem dX10_shortest_203 : decode cX10_shortest 203 = .ok (.iload 5, 2) := by decide +kernel
theorem dX10_shortest_205 : decode cX10_shortest 205 = .ok (.iaload, 1) := by decide +kernel
theorem dX10_shortest_206 : decode cX10_shortest 206 = .ok (.if_icmp .ge 8, 3) := by decide +kernel
theorem dX10_shortest_209 : decode cX10_shortest 209 = .ok (.iload 8, 2) := by decide +kernel
theorem dX10_shortest_211 : decode cX10_shortest 211 = .ok (.goto 10, 3) := by decide +kernel
theorem dX10_shortest_214 : decode cX10_shortest 214 = .ok (.aload_n 0, 1) := by decide +kernel
theorem dX10_shortest_215 : decode cX10_shortest 215 = .ok (.getfield 86, 3) := by decide +kernel
theorem dX10_shortest_218 : decode cX10_shortest 218 = .ok (.iload 5, 2) := by decide +kernel
theorem dX10_shortest_220 : decode cX10_shortest 220 = .ok (.iaload, 1) := by decide +kernel
theorem dX10_shortest_221 : decode cX10_shortest 221 = .ok (.iastore, 1) := by decide +kernel
theorem dX10_shortest_222 : decode cX10_shortest 222 = .ok (.iinc 7 1, 3) := by decide +kernel
theorem dX10_shortest_225 : decode cX10_shortest 225 = .ok (.goto (-95), 3) := by decide +kernel
theorem dX10_shortest_228 : decode cX10_shortest 228 = .ok (.iinc 5 1, 3) := by decide +kernel
theorem dX10_shortest_231 : decode cX10_shortest 231 = .ok (.goto (-133), 3) := by decide +kernel
theorem dX10_shortest_234 : decode cX10_shortest 234 = .ok (.iconst 0, 1) := by decide +kernel
theorem dX10_shortest_235 : decode cX10_shortest 235 = .ok (.istore 5, 2) := by decide +kernel
theorem dX10_shortest_237 : decode cX10_shortest 237 = .ok (.iload 5, 2) := by decide +kernel
theorem dX10_shortest_239 : decode cX10_shortest 239 = .ok (.iconst 1, 1) := by decide +kernel
theorem dX10_shortest_240 : decode cX10_shortest 240 = .ok (.iload_n 2, 1) := by decide +kernel
theorem dX10_shortest_241 : decode cX10_shortest 241 = .ok (.ishl, 1) := by decide +kernel
theorem dX10_shortest_242 : decode cX10_shortest 242 = .ok (.if_icmp .ge 42, 3) := by decide +kernel
theorem dX10_shortest_245 : decode cX10_shortest 245 = .ok (.aload_n 0, 1) := by decide +kernel
theorem dX10_shortest_246 : decode cX10_shortest 246 = .ok (.iload 5, 2) := by decide +kernel
theorem dX10_shortest_248 : decode cX10_shortest 248 = .ok (.invokevirtual 293, 3) := by decide +kernel
theorem dX10_shortest_251 : decode cX10_shortest 251 = .ok (.iload_n 2, 1) := by decide +kernel
theorem dX10_shortest_252 : decode cX10_shortest 252 = .ok (.iconst 2, 1) := by decide +kernel
theorem dX10_shortest_253 : decode cX10_shortest 253 = .ok (.isub, 1) := by decide +kernel
theorem dX10_shortest_254 : decode cX10_shortest 254 = .ok (.if_icmp .ne 24, 3) := by decide +kernel
theorem dX10_shortest_257 : decode cX10_shortest 257 = .ok (.aload_n 0, 1) := by decide +kernel
theorem dX10_shortest_258 : decode cX10_shortest 258 = .ok (.getfield 86, 3) := by decide +kernel
theorem dX10_shortest_261 : decode cX10_shortest 261 = .ok (.iload 5, 2) := by decide +kernel
theorem dX10_shortest_263 : decode cX10_shortest 263 = .ok (.iaload, 1) := by decide +kernel
theorem dX10_shortest_264 : decode cX10_shortest 264 = .ok (.iload 4, 2) := by decide +kernel
theorem dX10_shortest_266 : decode cX10_shortest 266 = .ok (.if_icmp .ge 12, 3) := by decide +kernel
theorem dX10_shortest_269 : decode cX10_shortest 269 = .ok (.aload_n 0, 1) := by decide +kernel
theorem dX10_shortest_270 : decode cX10_shortest 270 = .ok (.getfield 86, 3) := by decide +kernel
theorem dX10_shortest_273 : decode cX10_shortest 273 = .ok (.iload 5, 2) := by decide +kernel
theorem dX10_shortest_275 : decode cX10_shortest 275 = .ok (.iaload, 1) := by decide +kernel
theorem dX10_shortest_276 : decode cX10_shortest 276 = .ok (.istore 4, 2) := by decide +kernel
theorem dX10_shortest_278 : decode cX10_shortest 278 = .ok (.iinc 5 1, 3) := by decide +kernel
theorem dX10_shortest_281 : decode cX10_shortest 281 = .ok (.goto (-44), 3) := by decide +kernel
theorem dX10_shortest_284 : decode cX10_shortest 284 = .ok (.iload 4, 2) := by decide +kernel
theorem dX10_shortest_286 : decode cX10_shortest 286 = .ok (.ireturn, 1) := by decide +kernel
theorem dX10_thread_0 : decode cX10_thread 0 = .ok (.aload_n 0, 1) := by decide +kernel
theorem dX10_thread_1 : decode cX10_thread 1 = .ok (.iconst 0, 1) := by decide +kernel
theorem dX10_thread_2 : decode cX10_thread 2 = .ok (.putfield 98, 3) := by decide +kernel
theorem dX10_thread_5 : decode cX10_thread 5 = .ok (.iload_n 1, 1) := by decide +kernel
theorem dX10_thread_6 : decode cX10_thread 6 = .ok (.ifCond .ne 8, 3) := by decide +kernel
theorem dX10_thread_9 : decode cX10_thread 9 = .ok (.aload_n 0, 1) := by decide +kernel
theorem dX10_thread_10 : decode cX10_thread 10 = .ok (.invokevirtual 299, 3) := by decide +kernel
theorem dX10_thread_13 : decode cX10_thread 13 = .ok (.ireturn, 1) := by decide +kernel
theorem dX10_thread_14 : decode cX10_thread 14 = .ok (.iload_n 1, 1) := by decide +kernel
theorem dX10_thread_15 : decode cX10_thread 15 = .ok (.iconst 1, 1) := by decide +kernel
theorem dX10_thread_16 : decode cX10_thread 16 = .ok (.if_icmp .ne 21, 3) := by decide +kernel
theorem dX10_thread_19 : decode cX10_thread 19 = .ok (.aload_n 0, 1) := by decide +kernel
theorem dX10_thread_20 : decode cX10_thread 20 = .ok (.getfield 108, 3) := by decide +kernel
theorem dX10_thread_23 : decode cX10_thread 23 = .ok (.ifCond .ne 7, 3) := by decide +kernel
theorem dX10_thread_26 : decode cX10_thread 26 = .ok (.iconst 0, 1) := by decide +kernel
theorem dX10_thread_27 : decode cX10_thread 27 = .ok (.goto 9, 3) := by decide +kernel
theorem dX10_thread_30 : decode cX10_thread 30 = .ok (.aload_n 0, 1) := by decide +kernel
theorem dX10_thread_31 : decode cX10_thread 31 = .ok (.invokevirtual 299, 3) := by decide +kernel
theorem dX10_thread_34 : decode cX10_thread 34 = .ok (.iconst 1, 1) := by decide +kernel
theorem dX10_thread_35 : decode cX10_thread 35 = .ok (.isub, 1) := by decide +kernel
theorem dX10_thread_36 : decode cX10_thread 36 = .ok (.ireturn, 1) := by decide +kernel
theorem dX10_thread_37 : decode cX10_thread 37 = .ok (.iload_n 1, 1) := by decide +kernel
theorem dX10_thread_38 : decode cX10_thread 38 = .ok (.iconst 2, 1) := by decide +kernel
theorem dX10_thread_39 : decode cX10_thread 39 = .ok (.if_icmp .ne 8, 3) := by decide +kernel
theorem dX10_thread_42 : decode cX10_thread 42 = .ok (.aload_n 0, 1) := by decide +kernel
theorem dX10_thread_43 : decode cX10_thread 43 = .ok (.invokevirtual 302, 3) := by decide +kernel
theorem dX10_thread_46 : decode cX10_thread 46 = .ok (.ireturn, 1) := by decide +kernel
theorem dX10_thread_47 : decode cX10_thread 47 = .ok (.iload_n 1, 1) := by decide +kernel
theorem dX10_thread_48 : decode cX10_thread 48 = .ok (.iconst 3, 1) := by decide +kernel
theorem dX10_thread_49 : decode cX10_thread 49 = .ok (.if_icmp .ne 18, 3) := by decide +kernel
theorem dX10_thread_52 : decode cX10_thread 52 = .ok (.aload_n 0, 1) := by decide +kernel
theorem dX10_thread_53 : decode cX10_thread 53 = .ok (.aload_n 0, 1) := by decide +kernel
theorem dX10_thread_54 : decode cX10_thread 54 = .ok (.aload_n 0, 1) := by decide +kernel
theorem dX10_thread_55 : decode cX10_thread 55 = .ok (.invokevirtual 278, 3) := by decide +kernel
theorem dX10_thread_58 : decode cX10_thread 58 = .ok (.invokevirtual 290, 3) := by decide +kernel
theorem dX10_thread_61 : decode cX10_thread 61 = .ok (.invokevirtual 293, 3) := by decide +kernel
theorem dX10_thread_64 : decode cX10_thread 64 = .ok (.goto 16, 3) := by decide +kernel
theorem dX10_thread_67 : decode cX10_thread 67 = .ok (.iload_n 1, 1) := by decide +kernel
theorem dX10_thread_68 : decode cX10_thread 68 = .ok (.iconst 4, 1) := by decide +kernel
theorem dX10_thread_69 : decode cX10_thread 69 = .ok (.if_icmp .ne 10, 3) := by decide +kernel
theorem dX10_thread_72 : decode cX10_thread 72 = .ok (.aload_n 0, 1) := by decide +kernel
theorem dX10_thread_73 : decode cX10_thread 73 = .ok (.invokevirtual 296, 3) := by decide +kernel
theorem dX10_thread_76 : decode cX10_thread 76 = .ok (.goto 4, 3) := by decide +kernel
theorem dX10_thread_79 : decode cX10_thread 79 = .ok (.iconst (-1), 1) := by decide +kernel
theorem dX10_thread_80 : decode cX10_thread 80 = .ok (.ireturn, 1) := by decide +kernel
theorem dX10_canGoAll_0 : decode cX10_canGoAll 0 = .ok (.iload_n 2, 1) := by decide +kernel
theorem dX10_canGoAll_1 : decode cX10_canGoAll 1 = .ok (.ifCond .ne 5, 3) := by decide +kernel
theorem dX10_canGoAll_4 : decode cX10_canGoAll 4 = .ok (.iconst 1, 1) := by decide +kernel
theorem dX10_canGoAll_5 : decode cX10_canGoAll 5 = .ok (.ireturn, 1) := by decide +kernel
theorem dX10_canGoAll_6 : decode cX10_canGoAll 6 = .ok (.aload_n 0, 1) := by decide +kernel
theorem dX10_canGoAll_7 : decode cX10_canGoAll 7 = .ok (.iload_n 2, 1) := by decide +kernel
theorem dX10_canGoAll_8 : decode cX10_canGoAll 8 = .ok (.invokevirtual 290, 3) := by decide +kernel
theorem dX10_canGoAll_11 : decode cX10_canGoAll 11 = .ok (.istore_n 3, 1) := by decide +kernel
theorem dX10_canGoAll_12 : decode cX10_canGoAll 12 = .ok (.aload_n 0, 1) := by decide +kernel
theorem dX10_canGoAll_13 : decode cX10_canGoAll 13 = .ok (.iload_n 2, 1) := by decide +kernel
theorem dX10_canGoAll_14 : decode cX10_canGoAll 14 = .ok (.invokevirtual 281, 3) := by decide +kernel
theorem dX10_canGoAll_17 : decode cX10_canGoAll 17 = .ok (.aload_n 0, 1) := by decide +kernel
theorem dX10_canGoAll_18 : decode cX10_canGoAll 18 = .ok (.iconst 1, 1) := by decide +kernel
theorem dX10_canGoAll_19 : decode cX10_canGoAll 19 = .ok (.iload_n 1, 1) := by decide +kernel
theorem dX10_canGoAll_20 : decode cX10_canGoAll 20 = .ok (.ishl, 1) := by decide +kernel
theorem dX10_canGoAll_21 : decode cX10_canGoAll 21 = .ok (.iload_n 2, 1) := by decide +kernel
theorem dX10_canGoAll_22 : decode cX10_canGoAll 22 = .ok (.invokevirtual 287, 3) := by decide +kernel
theorem dX10_canGoAll_25 : decode cX10_canGoAll 25 = .ok (.iconst (-1), 1) := by decide +kernel
theorem dX10_canGoAll_26 : decode cX10_canGoAll 26 = .ok (.ixor, 1) := by decide +kernel
theorem dX10_canGoAll_27 : decode cX10_canGoAll 27 = .ok (.iand, 1) := by decide +kernel
theorem dX10_canGoAll_28 : decode cX10_canGoAll 28 = .ok (.ifCond .eq 5, 3) := by decide +kernel
theorem dX10_canGoAll_31 : decode cX10_canGoAll 31 = .ok (.iconst 0, 1) := by decide +kernel
theorem dX10_canGoAll_32 : decode cX10_canGoAll 32 = .ok (.ireturn, 1) := by decide +kernel
theorem dX10_canGoAll_33 : decode cX10_canGoAll 33 = .ok (.iload_n 3, 1) := by decide +kernel
theorem dX10_canGoAll_34 : decode cX10_canGoAll 34 = .ok (.ifCond .eq 21, 3) := by decide +kernel
theorem dX10_canGoAll_37 : decode cX10_canGoAll 37 = .ok (.aload_n 0, 1) := by decide +kernel
theorem dX10_canGoAll_38 : decode cX10_canGoAll 38 = .ok (.iload_n 3, 1) := by decide +kernel
theorem dX10_canGoAll_39 : decode cX10_canGoAll 39 = .ok (.invokevirtual 293, 3) := by decide +kernel
theorem dX10_canGoAll_42 : decode cX10_canGoAll 42 = .ok (.iconst 2, 1) := by decide +kernel
theorem dX10_canGoAll_43 : decode cX10_canGoAll 43 = .ok (.if_icmp .ne 16, 3) := by decide +kernel
theorem dX10_canGoAll_46 : decode cX10_canGoAll 46 = .ok (.iload_n 3, 1) := by decide +kernel
theorem dX10_canGoAll_47 : decode cX10_canGoAll 47 = .ok (.iload_n 1, 1) := by decide +kernel
theorem dX10_canGoAll_48 : decode cX10_canGoAll 48 = .ok (.ishr, 1) := by decide +kernel
theorem dX10_canGoAll_49 : decode cX10_canGoAll 49 = .ok (.iconst 1, 1) := by decide +kernel
theorem dX10_canGoAll_50 : decode cX10_canGoAll 50 = .ok (.iand, 1) := by decide +kernel
theorem dX10_canGoAll_51 : decode cX10_canGoAll 51 = .ok (.iconst 1, 1) := by decide +kernel
theorem dX10_canGoAll_52 : decode cX10_canGoAll 52 = .ok (.if_icmp .ne 7, 3) := by decide +kernel
theorem dX10_canGoAll_55 : decode cX10_canGoAll 55 = .ok (.iconst 1, 1) := by decide +kernel
theorem dX10_canGoAll_56 : decode cX10_canGoAll 56 = .ok (.goto 4, 3) := by decide +kernel
theorem dX10_canGoAll_59 : decode cX10_canGoAll 59 = .ok (.iconst 0, 1) := by decide +kernel
theorem dX10_canGoAll_60 : decode cX10_canGoAll 60 = .ok (.ireturn, 1) := by decide +kernel
theorem dX10_lineBetween_0 : decode cX10_lineBetween 0 = .ok (.iconst 0, 1) := by decide +kernel
theorem dX10_lineBetween_1 : decode cX10_lineBetween 1 = .ok (.istore 4, 2) := by decide +kernel
theorem dX10_lineBetween_3 : decode cX10_lineBetween 3 = .ok (.iload 4, 2) := by decide +kernel
theorem dX10_lineBetween_5 : decode cX10_lineBetween 5 = .ok (.aload_n 0, 1) := by decide +kernel
theorem dX10_lineBetween_6 : decode cX10_lineBetween 6 = .ok (.getfield 108, 3) := by decide +kernel
theorem dX10_lineBetween_9 : decode cX10_lineBetween 9 = .ok (.if_icmp .ge 66, 3) := by decide +kernel
theorem dX10_lineBetween_12 : decode cX10_lineBetween 12 = .ok (.iload_n 3, 1) := by decide +kernel
theorem dX10_lineBetween_13 : decode cX10_lineBetween 13 = .ok (.iload 4, 2) := by decide +kernel
theorem dX10_lineBetween_15 : decode cX10_lineBetween 15 = .ok (.ishr, 1) := by decide +kernel
theorem dX10_lineBetween_16 : decode cX10_lineBetween 16 = .ok (.iconst 1, 1) := by decide +kernel
theorem dX10_lineBetween_17 : decode cX10_lineBetween 17 = .ok (.iand, 1) := by decide +kernel
theorem dX10_lineBetween_18 : decode cX10_lineBetween 18 = .ok (.iconst 1, 1) := by decide +kernel
theorem dX10_lineBetween_19 : decode cX10_lineBetween 19 = .ok (.if_icmp .ne 50, 3) := by decide +kernel
theorem dX10_lineBetween_22 : decode cX10_lineBetween 22 = .ok (.aload_n 0, 1) := by decide +kernel
theorem dX10_lineBetween_23 : decode cX10_lineBetween 23 = .ok (.getfield 38, 3) := by decide +kernel
theorem dX10_lineBetween_26 : decode cX10_lineBetween 26 = .ok (.iload 4, 2) := by decide +kernel
theorem dX10_lineBetween_28 : decode cX10_lineBetween 28 = .ok (.iaload, 1) := by decide +kernel
theorem dX10_lineBetween_29 : decode cX10_lineBetween 29 = .ok (.iload_n 1, 1) := by decide +kernel
theorem dX10_lineBetween_30 : decode cX10_lineBetween 30 = .ok (.if_icmp .ne 14, 3) := by decide +kernel
theorem dX10_lineBetween_33 : decode cX10_lineBetween 33 = .ok (.aload_n 0, 1) := by decide +kernel
theorem dX10_lineBetween_34 : decode cX10_lineBetween 34 = .ok (.getfield 41, 3) := by decide +kernel
theorem dX10_lineBetween_37 : decode cX10_lineBetween 37 = .ok (.iload 4, 2) := by decide +kernel
theorem dX10_lineBetween_39 : decode cX10_lineBetween 39 = .ok (.iaload, 1) := by decide +kernel
theorem dX10_lineBetween_40 : decode cX10_lineBetween 40 = .ok (.iload_n 2, 1) := by decide +kernel
theorem dX10_lineBetween_41 : decode cX10_lineBetween 41 = .ok (.if_icmp .eq 25, 3) := by decide +kernel
theorem dX10_lineBetween_44 : decode cX10_lineBetween 44 = .ok (.aload_n 0, 1) := by decide +kernel
theorem dX10_lineBetween_45 : decode cX10_lineBetween 45 = .ok (.getfield 38, 3) := by decide +kernel
theorem dX10_lineBetween_48 : decode cX10_lineBetween 48 = .ok (.iload 4, 2) := by decide +kernel
theorem dX10_lineBetween_50 : decode cX10_lineBetween 50 = .ok (.iaload, 1) := by decide +kernel
theorem dX10_lineBetween_51 : decode cX10_lineBetween 51 = .ok (.iload_n 2, 1) := by decide +kernel
theorem dX10_lineBetween_52 : decode cX10_lineBetween 52 = .ok (.if_icmp .ne 17, 3) := by decide +kernel
theorem dX10_lineBetween_55 : decode cX10_lineBetween 55 = .ok (.aload_n 0, 1) := by decide +kernel
theorem dX10_lineBetween_56 : decode cX10_lineBetween 56 = .ok (.getfield 41, 3) := by decide +kernel
theorem dX10_lineBetween_59 : decode cX10_lineBetween 59 = .ok (.iload 4, 2) := by decide +kernel
theorem dX10_lineBetween_61 : decode cX10_lineBetween 61 = .ok (.iaload, 1) := by decide +kernel
theorem dX10_lineBetween_62 : decode cX10_lineBetween 62 = .ok (.iload_n 1, 1) := by decide +kernel
theorem dX10_lineBetween_63 : decode cX10_lineBetween 63 = .ok (.if_icmp .ne 6, 3) := by decide +kernel
theorem dX10_lineBetween_66 : decode cX10_lineBetween 66 = .ok (.iload 4, 2) := by decide +kernel
theorem dX10_lineBetween_68 : decode cX10_lineBetween 68 = .ok (.ireturn, 1) := by decide +kernel
theorem dX10_lineBetween_69 : decode cX10_lineBetween 69 = .ok (.iinc 4 1, 3) := by decide +kernel
theorem dX10_lineBetween_72 : decode cX10_lineBetween 72 = .ok (.goto (-69), 3) := by decide +kernel
theorem dX10_lineBetween_75 : decode cX10_lineBetween 75 = .ok (.iconst (-1), 1) := by decide +kernel
theorem dX10_lineBetween_76 : decode cX10_lineBetween 76 = .ok (.ireturn, 1) := by decide +kernel
theorem dX10_order_0 : decode cX10_order 0 = .ok (.aload_n 0, 1) := by decide +kernel
theorem dX10_order_1 : decode cX10_order 1 = .ok (.iconst 0, 1) := by decide +kernel
theorem dX10_order_2 : decode cX10_order 2 = .ok (.putfield 98, 3) := by decide +kernel
theorem dX10_order_5 : decode cX10_order 5 = .ok (.aload_n 0, 1) := by decide +kernel
theorem dX10_order_6 : decode cX10_order 6 = .ok (.getfield 108, 3) := by decide +kernel
theorem dX10_order_9 : decode cX10_order 9 = .ok (.ifCond .eq 24, 3) := by decide +kernel
theorem dX10_order_12 : decode cX10_order 12 = .ok (.aload_n 0, 1) := by decide +kernel
theorem dX10_order_13 : decode cX10_order 13 = .ok (.invokevirtual 299, 3) := by decide +kernel
theorem dX10_order_16 : decode cX10_order 16 = .ok (.iconst 1, 1) := by decide +kernel
theorem dX10_order_17 : decode cX10_order 17 = .ok (.if_icmp .ne 16, 3) := by decide +kernel
theorem dX10_order_20 : decode cX10_order 20 = .ok (.aload_n 0, 1) := by decide +kernel
theorem dX10_order_21 : decode cX10_order 21 = .ok (.iload_n 1, 1) := by decide +kernel
theorem dX10_order_22 : decode cX10_order 22 = .ok (.iconst 0, 1) := by decide +kernel
theorem dX10_order_23 : decode cX10_order 23 = .ok (.aload_n 0, 1) := by decide +kernel
theorem dX10_order_24 : decode cX10_order 24 = .ok (.getfield 108, 3) := by decide +kernel
theorem dX10_order_27 : decode cX10_order 27 = .ok (.invokevirtual 104, 3) := by decide +kernel
theorem dX10_order_30 : decode cX10_order 30 = .ok (.ifCond .ne 5, 3) := by decide +kernel
theorem dX10_order_33 : decode cX10_order 33 = .ok (.iconst (-1), 1) := by decide +kernel
theorem dX10_order_34 : decode cX10_order 34 = .ok (.ireturn, 1) := by decide +kernel
theorem dX10_order_35 : decode cX10_order 35 = .ok (.aload_n 0, 1) := by decide +kernel
theorem dX10_order_36 : decode cX10_order 36 = .ok (.invokevirtual 278, 3) := by decide +kernel
theorem dX10_order_39 : decode cX10_order 39 = .ok (.istore_n 2, 1) := by decide +kernel
theorem dX10_order_40 : decode cX10_order 40 = .ok (.iconst 0, 1) := by decide +kernel
theorem dX10_order_41 : decode cX10_order 41 = .ok (.istore_n 3, 1) := by decide +kernel
theorem dX10_order_42 : decode cX10_order 42 = .ok (.aload_n 0, 1) := by decide +kernel
theorem dX10_order_43 : decode cX10_order 43 = .ok (.iload_n 2, 1) := by decide +kernel
theorem dX10_order_44 : decode cX10_order 44 = .ok (.invokevirtual 281, 3) := by decide +kernel
theorem dX10_order_47 : decode cX10_order 47 = .ok (.iload_n 3, 1) := by decide +kernel
theorem dX10_order_48 : decode cX10_order 48 = .ok (.ishr, 1) := by decide +kernel
theorem dX10_order_49 : decode cX10_order 49 = .ok (.iconst 1, 1) := by decide +kernel
theorem dX10_order_50 : decode cX10_order 50 = .ok (.iand, 1) := by decide +kernel
theorem dX10_order_51 : decode cX10_order 51 = .ok (.ifCond .eq 12, 3) := by decide +kernel
theorem dX10_order_54 : decode cX10_order 54 = .ok (.aload_n 0, 1) := by decide +kernel
theorem dX10_order_55 : decode cX10_order 55 = .ok (.iload_n 3, 1) := by decide +kernel
theorem dX10_order_56 : decode cX10_order 56 = .ok (.iload_n 2, 1) := by decide +kernel
theorem dX10_order_57 : decode cX10_order 57 = .ok (.invokevirtual 305, 3) := by decide +kernel
theorem dX10_order_60 : decode cX10_order 60 = .ok (.ifCond .ne 10, 3) := by decide +kernel
theorem dX10_order_63 : decode cX10_order 63 = .ok (.iload_n 3, 1) := by decide +kernel
theorem dX10_order_64 : decode cX10_order 64 = .ok (.iconst 1, 1) := by decide +kernel
theorem dX10_order_65 : decode cX10_order 65 = .ok (.iadd, 1) := by decide +kernel
theorem dX10_order_66 : decode cX10_order 66 = .ok (.istore_n 3, 1) := by decide +kernel
theorem dX10_order_67 : decode cX10_order 67 = .ok (.goto (-25), 3) := by decide +kernel
theorem dX10_order_70 : decode cX10_order 70 = .ok (.iconst 0, 1) := by decide +kernel
theorem dX10_order_71 : decode cX10_order 71 = .ok (.istore 4, 2) := by decide +kernel
theorem dX10_order_73 : decode cX10_order 73 = .ok (.iload 4, 2) := by decide +kernel
theorem dX10_order_75 : decode cX10_order 75 = .ok (.iload_n 1, 1) := by decide +kernel
theorem dX10_order_76 : decode cX10_order 76 = .ok (.if_icmp .ge 74, 3) := by decide +kernel
theorem dX10_order_79 : decode cX10_order 79 = .ok (.iconst 0, 1) := by decide +kernel
theorem dX10_order_80 : decode cX10_order 80 = .ok (.istore 5, 2) := by decide +kernel
theorem dX10_order_82 : decode cX10_order 82 = .ok (.aload_n 0, 1) := by decide +kernel
theorem dX10_order_83 : decode cX10_order 83 = .ok (.iload_n 3, 1) := by decide +kernel
theorem dX10_order_84 : decode cX10_order 84 = .ok (.iload 5, 2) := by decide +kernel
theorem dX10_order_86 : decode cX10_order 86 = .ok (.iload_n 2, 1) := by decide +kernel
theorem dX10_order_87 : decode cX10_order 87 = .ok (.invokevirtual 308, 3) := by decide +kernel
theorem dX10_order_90 : decode cX10_order 90 = .ok (.iconst (-1), 1) := by decide +kernel
theorem dX10_order_91 : decode cX10_order 91 = .ok (.if_icmp .eq 26, 3) := by decide +kernel
theorem dX10_order_94 : decode cX10_order 94 = .ok (.aload_n 0, 1) := by decide +kernel
theorem dX10_order_95 : decode cX10_order 95 = .ok (.iload 5, 2) := by decide +kernel
theorem dX10_order_97 : decode cX10_order 97 = .ok (.iload_n 2, 1) := by decide +kernel
theorem dX10_order_98 : decode cX10_order 98 = .ok (.iconst 1, 1) := by decide +kernel
theorem dX10_order_99 : decode cX10_order 99 = .ok (.aload_n 0, 1) := by decide +kernel
theorem dX10_order_100 : decode cX10_order 100 = .ok (.iload_n 3, 1) := by decide +kernel
theorem dX10_order_101 : decode cX10_order 101 = .ok (.iload 5, 2) := by decide +kernel
theorem dX10_order_103 : decode cX10_order 103 = .ok (.iload_n 2, 1) := by decide +kernel
theorem dX10_order_104 : decode cX10_order 104 = .ok (.invokevirtual 308, 3) := by decide +kernel
theorem dX10_order_107 : decode cX10_order 107 = .ok (.ishl, 1) := by decide +kernel
theorem dX10_order_108 : decode cX10_order 108 = .ok (.iconst (-1), 1) := by decide +kernel
theorem dX10_order_109 : decode cX10_order 109 = .ok (.ixor, 1) := by decide +kernel
theorem dX10_order_110 : decode cX10_order 110 = .ok (.iand, 1) := by decide +kernel
theorem dX10_order_111 : decode cX10_order 111 = .ok (.invokevirtual 305, 3) := by decide +kernel
theorem dX10_order_114 : decode cX10_order 114 = .ok (.ifCond .ne 12, 3) := by decide +kernel
theorem dX10_order_117 : decode cX10_order 117 = .ok (.iload 5, 2) := by decide +kernel
theorem dX10_order_119 : decode cX10_order 119 = .ok (.iconst 1, 1) := by decide +kernel
theorem dX10_order_120 : decode cX10_order 120 = .ok (.iadd, 1) := by decide +kernel
theorem dX10_order_121 : decode cX10_order 121 = .ok (.istore 5, 2) := by decide +kernel
theorem dX10_order_123 : decode cX10_order 123 = .ok (.goto (-41), 3) := by decide +kernel
theorem dX10_order_126 : decode cX10_order 126 = .ok (.iload_n 2, 1) := by decide +kernel
theorem dX10_order_127 : decode cX10_order 127 = .ok (.iconst 1, 1) := by decide +kernel
theorem dX10_order_128 : decode cX10_order 128 = .ok (.aload_n 0, 1) := by decide +kernel
theorem dX10_order_129 : decode cX10_order 129 = .ok (.iload_n 3, 1) := by decide +kernel
theorem dX10_order_130 : decode cX10_order 130 = .ok (.iload 5, 2) := by decide +kernel
theorem dX10_order_132 : decode cX10_order 132 = .ok (.iload_n 2, 1) := by decide +kernel
theorem dX10_order_133 : decode cX10_order 133 = .ok (.invokevirtual 308, 3) := by decide +kernel
theorem dX10_order_136 : decode cX10_order 136 = .ok (.ishl, 1) := by decide +kernel
theorem dX10_order_137 : decode cX10_order 137 = .ok (.iconst (-1), 1) := by decide +kernel
theorem dX10_order_138 : decode cX10_order 138 = .ok (.ixor, 1) := by decide +kernel
theorem dX10_order_139 : decode cX10_order 139 = .ok (.iand, 1) := by decide +kernel
theorem dX10_order_140 : decode cX10_order 140 = .ok (.istore_n 2, 1) := by decide +kernel
theorem dX10_order_141 : decode cX10_order 141 = .ok (.iload 5, 2) := by decide +kernel
theorem dX10_order_143 : decode cX10_order 143 = .ok (.istore_n 3, 1) := by decide +kernel
theorem dX10_order_144 : decode cX10_order 144 = .ok (.iinc 4 1, 3) := by decide +kernel
theorem dX10_order_147 : decode cX10_order 147 = .ok (.goto (-74), 3) := by decide +kernel
theorem dX10_order_150 : decode cX10_order 150 = .ok (.iload_n 3, 1) := by decide +kernel
theorem dX10_order_151 : decode cX10_order 151 = .ok (.ireturn, 1) := by decide +kernel
theorem dX10_areAsTold_0 : decode cX10_areAsTold 0 = .ok (.iconst 0, 1) := by decide +kernel
theorem dX10_areAsTold_1 : decode cX10_areAsTold 1 = .ok (.istore_n 2, 1) := by decide +kernel
theorem dX10_areAsTold_2 : decode cX10_areAsTold 2 = .ok (.iload_n 2, 1) := by decide +kernel
theorem dX10_areAsTold_3 : decode cX10_areAsTold 3 = .ok (.bipush 64, 2) := by decide +kernel
theorem dX10_areAsTold_5 : decode cX10_areAsTold 5 = .ok (.if_icmp .ge 16, 3) := by decide +kernel
theorem dX10_areAsTold_8 : decode cX10_areAsTold 8 = .ok (.aload_n 0, 1) := by decide +kernel
theorem dX10_areAsTold_9 : decode cX10_areAsTold 9 = .ok (.getfield 83, 3) := by decide +kernel
theorem dX10_areAsTold_12 : decode cX10_areAsTold 12 = .ok (.iload_n 2, 1) := by decide +kernel
theorem dX10_areAsTold_13 : decode cX10_areAsTold 13 = .ok (.iconst 0, 1) := by decide +kernel
theorem dX10_areAsTold_14 : decode cX10_areAsTold 14 = .ok (.iastore, 1) := by decide +kernel
theorem dX10_areAsTold_15 : decode cX10_areAsTold 15 = .ok (.iinc 2 1, 3) := by decide +kernel
theorem dX10_areAsTold_18 : decode cX10_areAsTold 18 = .ok (.goto (-16), 3) := by decide +kernel
theorem dX10_areAsTold_21 : decode cX10_areAsTold 21 = .ok (.iconst 0, 1) := by decide +kernel
theorem dX10_areAsTold_22 : decode cX10_areAsTold 22 = .ok (.istore_n 2, 1) := by decide +kernel
theorem dX10_areAsTold_23 : decode cX10_areAsTold 23 = .ok (.iload_n 2, 1) := by decide +kernel
theorem dX10_areAsTold_24 : decode cX10_areAsTold 24 = .ok (.aload_n 0, 1) := by decide +kernel
theorem dX10_areAsTold_25 : decode cX10_areAsTold 25 = .ok (.getfield 108, 3) := by decide +kernel
theorem dX10_areAsTold_28 : decode cX10_areAsTold 28 = .ok (.if_icmp .ge 35, 3) := by decide +kernel
theorem dX10_areAsTold_31 : decode cX10_areAsTold 31 = .ok (.iload_n 1, 1) := by decide +kernel
theorem dX10_areAsTold_32 : decode cX10_areAsTold 32 = .ok (.iload_n 2, 1) := by decide +kernel
theorem dX10_areAsTold_33 : decode cX10_areAsTold 33 = .ok (.ishr, 1) := by decide +kernel
theorem dX10_areAsTold_34 : decode cX10_areAsTold 34 = .ok (.iconst 1, 1) := by decide +kernel
theorem dX10_areAsTold_35 : decode cX10_areAsTold 35 = .ok (.iand, 1) := by decide +kernel
theorem dX10_areAsTold_36 : decode cX10_areAsTold 36 = .ok (.iconst 1, 1) := by decide +kernel
theorem dX10_areAsTold_37 : decode cX10_areAsTold 37 = .ok (.if_icmp .ne 20, 3) := by decide +kernel
theorem dX10_areAsTold_40 : decode cX10_areAsTold 40 = .ok (.aload_n 0, 1) := by decide +kernel
theorem dX10_areAsTold_41 : decode cX10_areAsTold 41 = .ok (.aload_n 0, 1) := by decide +kernel
theorem dX10_areAsTold_42 : decode cX10_areAsTold 42 = .ok (.getfield 38, 3) := by decide +kernel
theorem dX10_areAsTold_45 : decode cX10_areAsTold 45 = .ok (.iload_n 2, 1) := by decide +kernel
theorem dX10_areAsTold_46 : decode cX10_areAsTold 46 = .ok (.iaload, 1) := by decide +kernel
theorem dX10_areAsTold_47 : decode cX10_areAsTold 47 = .ok (.aload_n 0, 1) := by decide +kernel
theorem dX10_areAsTold_48 : decode cX10_areAsTold 48 = .ok (.getfield 41, 3) := by decide +kernel
theorem dX10_areAsTold_51 : decode cX10_areAsTold 51 = .ok (.iload_n 2, 1) := by decide +kernel
theorem dX10_areAsTold_52 : decode cX10_areAsTold 52 = .ok (.iaload, 1) := by decide +kernel
theorem dX10_areAsTold_53 : decode cX10_areAsTold 53 = .ok (.iconst 1, 1) := by decide +kernel
theorem dX10_areAsTold_54 : decode cX10_areAsTold 54 = .ok (.invokevirtual 242, 3) := by decide +kernel
theorem dX10_areAsTold_57 : decode cX10_areAsTold 57 = .ok (.iinc 2 1, 3) := by decide +kernel
theorem dX10_areAsTold_60 : decode cX10_areAsTold 60 = .ok (.goto (-37), 3) := by decide +kernel
theorem dX10_areAsTold_63 : decode cX10_areAsTold 63 = .ok (.iconst 0, 1) := by decide +kernel
theorem dX10_areAsTold_64 : decode cX10_areAsTold 64 = .ok (.istore_n 2, 1) := by decide +kernel
theorem dX10_areAsTold_65 : decode cX10_areAsTold 65 = .ok (.iload_n 2, 1) := by decide +kernel
theorem dX10_areAsTold_66 : decode cX10_areAsTold 66 = .ok (.bipush 64, 2) := by decide +kernel
theorem dX10_areAsTold_68 : decode cX10_areAsTold 68 = .ok (.if_icmp .ge 37, 3) := by decide +kernel
theorem dX10_areAsTold_71 : decode cX10_areAsTold 71 = .ok (.aload_n 0, 1) := by decide +kernel
theorem dX10_areAsTold_72 : decode cX10_areAsTold 72 = .ok (.getfield 35, 3) := by decide +kernel
theorem dX10_areAsTold_75 : decode cX10_areAsTold 75 = .ok (.iload_n 2, 1) := by decide +kernel
theorem dX10_areAsTold_76 : decode cX10_areAsTold 76 = .ok (.iaload, 1) := by decide +kernel
theorem dX10_areAsTold_77 : decode cX10_areAsTold 77 = .ok (.ifCond .le 22, 3) := by decide +kernel
theorem dX10_areAsTold_80 : decode cX10_areAsTold 80 = .ok (.aload_n 0, 1) := by decide +kernel
theorem dX10_areAsTold_81 : decode cX10_areAsTold 81 = .ok (.getfield 83, 3) := by decide +kernel
theorem dX10_areAsTold_84 : decode cX10_areAsTold 84 = .ok (.iload_n 2, 1) := by decide +kernel
theorem dX10_areAsTold_85 : decode cX10_areAsTold 85 = .ok (.iaload, 1) := by decide +kernel
theorem dX10_areAsTold_86 : decode cX10_areAsTold 86 = .ok (.aload_n 0, 1) := by decide +kernel
theorem dX10_areAsTold_87 : decode cX10_areAsTold 87 = .ok (.getfield 35, 3) := by decide +kernel
theorem dX10_areAsTold_90 : decode cX10_areAsTold 90 = .ok (.iload_n 2, 1) := by decide +kernel
theorem dX10_areAsTold_91 : decode cX10_areAsTold 91 = .ok (.iaload, 1) := by decide +kernel
theorem dX10_areAsTold_92 : decode cX10_areAsTold 92 = .ok (.iconst 1, 1) := by decide +kernel
theorem dX10_areAsTold_93 : decode cX10_areAsTold 93 = .ok (.isub, 1) := by decide +kernel
theorem dX10_areAsTold_94 : decode cX10_areAsTold 94 = .ok (.if_icmp .eq 5, 3) := by decide +kernel
theorem dX10_areAsTold_97 : decode cX10_areAsTold 97 = .ok (.iconst 0, 1) := by decide +kernel
theorem dX10_areAsTold_98 : decode cX10_areAsTold 98 = .ok (.ireturn, 1) := by decide +kernel
theorem dX10_areAsTold_99 : decode cX10_areAsTold 99 = .ok (.iinc 2 1, 3) := by decide +kernel
theorem dX10_areAsTold_102 : decode cX10_areAsTold 102 = .ok (.goto (-37), 3) := by decide +kernel
theorem dX10_areAsTold_105 : decode cX10_areAsTold 105 = .ok (.iconst 1, 1) := by decide +kernel
theorem dX10_areAsTold_106 : decode cX10_areAsTold 106 = .ok (.ireturn, 1) := by decide +kernel
theorem dX10_back_0 : decode cX10_back 0 = .ok (.aload_n 0, 1) := by decide +kernel
theorem dX10_back_1 : decode cX10_back 1 = .ok (.iconst 0, 1) := by decide +kernel
theorem dX10_back_2 : decode cX10_back 2 = .ok (.putfield 98, 3) := by decide +kernel
theorem dX10_back_5 : decode cX10_back 5 = .ok (.aload_n 0, 1) := by decide +kernel
theorem dX10_back_6 : decode cX10_back 6 = .ok (.getfield 108, 3) := by decide +kernel
theorem dX10_back_9 : decode cX10_back 9 = .ok (.bipush 12, 2) := by decide +kernel
theorem dX10_back_11 : decode cX10_back 11 = .ok (.if_icmp .gt 13, 3) := by decide +kernel
theorem dX10_back_14 : decode cX10_back 14 = .ok (.aload_n 0, 1) := by decide +kernel
theorem dX10_back_15 : decode cX10_back 15 = .ok (.iload_n 1, 1) := by decide +kernel
theorem dX10_back_16 : decode cX10_back 16 = .ok (.iconst 0, 1) := by decide +kernel
theorem dX10_back_17 : decode cX10_back 17 = .ok (.iconst 2, 1) := by decide +kernel
theorem dX10_back_18 : decode cX10_back 18 = .ok (.invokevirtual 104, 3) := by decide +kernel
theorem dX10_back_21 : decode cX10_back 21 = .ok (.ifCond .ne 6, 3) := by decide +kernel
theorem dX10_back_24 : decode cX10_back 24 = .ok (.bipush (-2), 2) := by decide +kernel
theorem dX10_back_26 : decode cX10_back 26 = .ok (.ireturn, 1) := by decide +kernel
theorem dX10_back_27 : decode cX10_back 27 = .ok (.iconst 0, 1) := by decide +kernel
theorem dX10_back_28 : decode cX10_back 28 = .ok (.istore_n 2, 1) := by decide +kernel
theorem dX10_back_29 : decode cX10_back 29 = .ok (.iconst (-1), 1) := by decide +kernel
theorem dX10_back_30 : decode cX10_back 30 = .ok (.istore_n 3, 1) := by decide +kernel
theorem dX10_back_31 : decode cX10_back 31 = .ok (.aload_n 0, 1) := by decide +kernel
theorem dX10_back_32 : decode cX10_back 32 = .ok (.invokevirtual 278, 3) := by decide +kernel
theorem dX10_back_35 : decode cX10_back 35 = .ok (.istore 4, 2) := by decide +kernel
theorem dX10_back_37 : decode cX10_back 37 = .ok (.iconst 0, 1) := by decide +kernel
theorem dX10_back_38 : decode cX10_back 38 = .ok (.istore 5, 2) := by decide +kernel
theorem dX10_back_40 : decode cX10_back 40 = .ok (.iload 5, 2) := by decide +kernel
theorem dX10_back_42 : decode cX10_back 42 = .ok (.aload_n 0, 1) := by decide +kernel
theorem dX10_back_43 : decode cX10_back 43 = .ok (.invokevirtual 278, 3) := by decide +kernel
theorem dX10_back_46 : decode cX10_back 46 = .ok (.if_icmp .gt 43, 3) := by decide +kernel
theorem dX10_back_49 : decode cX10_back 49 = .ok (.aload_n 0, 1) := by decide +kernel
theorem dX10_back_50 : decode cX10_back 50 = .ok (.iload 5, 2) := by decide +kernel
theorem dX10_back_52 : decode cX10_back 52 = .ok (.invokevirtual 311, 3) := by decide +kernel
theorem dX10_back_55 : decode cX10_back 55 = .ok (.ifCond .ne 6, 3) := by decide +kernel
theorem dX10_back_58 : decode cX10_back 58 = .ok (.goto 25, 3) := by decide +kernel
theorem dX10_back_61 : decode cX10_back 61 = .ok (.iload_n 2, 1) := by decide +kernel
theorem dX10_back_62 : decode cX10_back 62 = .ok (.ifCond .ne 8, 3) := by decide +kernel
theorem dX10_back_65 : decode cX10_back 65 = .ok (.iload 5, 2) := by decide +kernel
theorem dX10_back_67 : decode cX10_back 67 = .ok (.goto 4, 3) := by decide +kernel
theorem dX10_back_70 : decode cX10_back 70 = .ok (.iload_n 3, 1) := by decide +kernel
theorem dX10_back_71 : decode cX10_back 71 = .ok (.istore_n 3, 1) := by decide +kernel
theorem dX10_back_72 : decode cX10_back 72 = .ok (.iload 4, 2) := by decide +kernel
theorem dX10_back_74 : decode cX10_back 74 = .ok (.iload 5, 2) := by decide +kernel
theorem dX10_back_76 : decode cX10_back 76 = .ok (.iand, 1) := by decide +kernel
theorem dX10_back_77 : decode cX10_back 77 = .ok (.istore 4, 2) := by decide +kernel
theorem dX10_back_79 : decode cX10_back 79 = .ok (.iload_n 2, 1) := by decide +kernel
theorem dX10_back_80 : decode cX10_back 80 = .ok (.iconst 1, 1) := by decide +kernel
theorem dX10_back_81 : decode cX10_back 81 = .ok (.iadd, 1) := by decide +kernel
theorem dX10_back_82 : decode cX10_back 82 = .ok (.istore_n 2, 1) := by decide +kernel
theorem dX10_back_83 : decode cX10_back 83 = .ok (.iinc 5 1, 3) := by decide +kernel
theorem dX10_back_86 : decode cX10_back 86 = .ok (.goto (-46), 3) := by decide +kernel
theorem dX10_back_89 : decode cX10_back 89 = .ok (.iload_n 1, 1) := by decide +kernel
theorem dX10_back_90 : decode cX10_back 90 = .ok (.ifCond .ne 7, 3) := by decide +kernel
theorem dX10_back_93 : decode cX10_back 93 = .ok (.iload_n 2, 1) := by decide +kernel
theorem dX10_back_94 : decode cX10_back 94 = .ok (.goto 22, 3) := by decide +kernel
theorem dX10_back_97 : decode cX10_back 97 = .ok (.iload_n 1, 1) := by decide +kernel
theorem dX10_back_98 : decode cX10_back 98 = .ok (.iconst 1, 1) := by decide +kernel
theorem dX10_back_99 : decode cX10_back 99 = .ok (.if_icmp .ne 7, 3) := by decide +kernel
theorem dX10_back_102 : decode cX10_back 102 = .ok (.iload_n 3, 1) := by decide +kernel
theorem dX10_back_103 : decode cX10_back 103 = .ok (.goto 13, 3) := by decide +kernel
theorem dX10_back_106 : decode cX10_back 106 = .ok (.iload_n 2, 1) := by decide +kernel
theorem dX10_back_107 : decode cX10_back 107 = .ok (.ifCond .ne 7, 3) := by decide +kernel
theorem dX10_back_110 : decode cX10_back 110 = .ok (.iconst 0, 1) := by decide +kernel
theorem dX10_back_111 : decode cX10_back 111 = .ok (.goto 5, 3) := by decide +kernel
theorem dX10_back_114 : decode cX10_back 114 = .ok (.iload 4, 2) := by decide +kernel
theorem dX10_back_116 : decode cX10_back 116 = .ok (.ireturn, 1) := by decide +kernel
theorem dX10_like_0 : decode cX10_like 0 = .ok (.aload_n 0, 1) := by decide +kernel
theorem dX10_like_1 : decode cX10_like 1 = .ok (.iconst 0, 1) := by decide +kernel
theorem dX10_like_2 : decode cX10_like 2 = .ok (.putfield 98, 3) := by decide +kernel
theorem dX10_like_5 : decode cX10_like 5 = .ok (.aload_n 0, 1) := by decide +kernel
theorem dX10_like_6 : decode cX10_like 6 = .ok (.invokevirtual 264, 3) := by decide +kernel
theorem dX10_like_9 : decode cX10_like 9 = .ok (.iconst 0, 1) := by decide +kernel
theorem dX10_like_10 : decode cX10_like 10 = .ok (.istore_n 1, 1) := by decide +kernel
theorem dX10_like_11 : decode cX10_like 11 = .ok (.iconst 1, 1) := by decide +kernel
theorem dX10_like_12 : decode cX10_like 12 = .ok (.istore_n 2, 1) := by decide +kernel
theorem dX10_like_13 : decode cX10_like 13 = .ok (.iload_n 2, 1) := by decide +kernel
theorem dX10_like_14 : decode cX10_like 14 = .ok (.iconst 4, 1) := by decide +kernel
theorem dX10_like_15 : decode cX10_like 15 = .ok (.if_icmp .ge 24, 3) := by decide +kernel
theorem dX10_like_18 : decode cX10_like 18 = .ok (.aload_n 0, 1) := by decide +kernel
theorem dX10_like_19 : decode cX10_like 19 = .ok (.iload_n 2, 1) := by decide +kernel
theorem dX10_like_20 : decode cX10_like 20 = .ok (.invokevirtual 267, 3) := by decide +kernel
theorem dX10_like_23 : decode cX10_like 23 = .ok (.aload_n 0, 1) := by decide +kernel
theorem dX10_like_24 : decode cX10_like 24 = .ok (.iload_n 1, 1) := by decide +kernel
theorem dX10_like_25 : decode cX10_like 25 = .ok (.invokevirtual 267, 3) := by decide +kernel
theorem dX10_like_28 : decode cX10_like 28 = .ok (.if_icmp .ge 5, 3) := by decide +kernel
theorem dX10_like_31 : decode cX10_like 31 = .ok (.iload_n 2, 1) := by decide +kernel
theorem dX10_like_32 : decode cX10_like 32 = .ok (.istore_n 1, 1) := by decide +kernel
theorem dX10_like_33 : decode cX10_like 33 = .ok (.iinc 2 1, 3) := by decide +kernel
theorem dX10_like_36 : decode cX10_like 36 = .ok (.goto (-23), 3) := by decide +kernel
theorem dX10_like_39 : decode cX10_like 39 = .ok (.iload_n 1, 1) := by decide +kernel
theorem dX10_like_40 : decode cX10_like 40 = .ok (.ireturn, 1) := by decide +kernel
theorem dX10_findsRule_0 : decode cX10_findsRule 0 = .ok (.iconst 0, 1) := by decide +kernel
theorem dX10_findsRule_1 : decode cX10_findsRule 1 = .ok (.istore_n 3, 1) := by decide +kernel
theorem dX10_findsRule_2 : decode cX10_findsRule 2 = .ok (.iload_n 3, 1) := by decide +kernel
theorem dX10_findsRule_3 : decode cX10_findsRule 3 = .ok (.aload_n 0, 1) := by decide +kernel
theorem dX10_findsRule_4 : decode cX10_findsRule 4 = .ok (.getfield 101, 3) := by decide +kernel
theorem dX10_findsRule_7 : decode cX10_findsRule 7 = .ok (.if_icmp .ge 16, 3) := by decide +kernel
theorem dX10_findsRule_10 : decode cX10_findsRule 10 = .ok (.aload_n 0, 1) := by decide +kernel
theorem dX10_findsRule_11 : decode cX10_findsRule 11 = .ok (.getfield 92, 3) := by decide +kernel
theorem dX10_findsRule_14 : decode cX10_findsRule 14 = .ok (.iload_n 3, 1) := by decide +kernel
theorem dX10_findsRule_15 : decode cX10_findsRule 15 = .ok (.iconst 0, 1) := by decide +kernel
theorem dX10_findsRule_16 : decode cX10_findsRule 16 = .ok (.iastore, 1) := by decide +kernel
theorem dX10_findsRule_17 : decode cX10_findsRule 17 = .ok (.iinc 3 1, 3) := by decide +kernel
theorem dX10_findsRule_20 : decode cX10_findsRule 20 = .ok (.goto (-18), 3) := by decide +kernel
theorem dX10_findsRule_23 : decode cX10_findsRule 23 = .ok (.iconst 0, 1) := by decide +kernel
theorem dX10_findsRule_24 : decode cX10_findsRule 24 = .ok (.istore_n 3, 1) := by decide +kernel
theorem dX10_findsRule_25 : decode cX10_findsRule 25 = .ok (.iload_n 3, 1) := by decide +kernel
theorem dX10_findsRule_26 : decode cX10_findsRule 26 = .ok (.aload_n 0, 1) := by decide +kernel
theorem dX10_findsRule_27 : decode cX10_findsRule 27 = .ok (.getfield 101, 3) := by decide +kernel
theorem dX10_findsRule_30 : decode cX10_findsRule 30 = .ok (.if_icmp .ge 65, 3) := by decide +kernel
theorem dX10_findsRule_33 : decode cX10_findsRule 33 = .ok (.iload_n 1, 1) := by decide +kernel
theorem dX10_findsRule_34 : decode cX10_findsRule 34 = .ok (.iload_n 3, 1) := by decide +kernel
theorem dX10_findsRule_35 : decode cX10_findsRule 35 = .ok (.imul, 1) := by decide +kernel
theorem dX10_findsRule_36 : decode cX10_findsRule 36 = .ok (.iload_n 2, 1) := by decide +kernel
theorem dX10_findsRule_37 : decode cX10_findsRule 37 = .ok (.iadd, 1) := by decide +kernel
theorem dX10_findsRule_38 : decode cX10_findsRule 38 = .ok (.aload_n 0, 1) := by decide +kernel
theorem dX10_findsRule_39 : decode cX10_findsRule 39 = .ok (.getfield 101, 3) := by decide +kernel
theorem dX10_findsRule_42 : decode cX10_findsRule 42 = .ok (.irem, 1) := by decide +kernel
theorem dX10_findsRule_43 : decode cX10_findsRule 43 = .ok (.istore 4, 2) := by decide +kernel
theorem dX10_findsRule_45 : decode cX10_findsRule 45 = .ok (.iload 4, 2) := by decide +kernel
theorem dX10_findsRule_47 : decode cX10_findsRule 47 = .ok (.iload_n 3, 1) := by decide +kernel
theorem dX10_findsRule_48 : decode cX10_findsRule 48 = .ok (.if_icmp .ne 6, 3) := by decide +kernel
theorem dX10_findsRule_51 : decode cX10_findsRule 51 = .ok (.goto 38, 3) := by decide +kernel
theorem dX10_findsRule_54 : decode cX10_findsRule 54 = .ok (.aload_n 0, 1) := by decide +kernel
theorem dX10_findsRule_55 : decode cX10_findsRule 55 = .ok (.getfield 92, 3) := by decide +kernel
theorem dX10_findsRule_58 : decode cX10_findsRule 58 = .ok (.iload_n 3, 1) := by decide +kernel
theorem dX10_findsRule_59 : decode cX10_findsRule 59 = .ok (.aload_n 0, 1) := by decide +kernel
theorem dX10_findsRule_60 : decode cX10_findsRule 60 = .ok (.getfield 92, 3) := by decide +kernel
theorem dX10_findsRule_63 : decode cX10_findsRule 63 = .ok (.iload_n 3, 1) := by decide +kernel
theorem dX10_findsRule_64 : decode cX10_findsRule 64 = .ok (.iaload, 1) := by decide +kernel
theorem dX10_findsRule_65 : decode cX10_findsRule 65 = .ok (.iconst 1, 1) := by decide +kernel
theorem dX10_findsRule_66 : decode cX10_findsRule 66 = .ok (.iload 4, 2) := by decide +kernel
theorem dX10_findsRule_68 : decode cX10_findsRule 68 = .ok (.ishl, 1) := by decide +kernel
theorem dX10_findsRule_69 : decode cX10_findsRule 69 = .ok (.ior, 1) := by decide +kernel
theorem dX10_findsRule_70 : decode cX10_findsRule 70 = .ok (.iastore, 1) := by decide +kernel
theorem dX10_findsRule_71 : decode cX10_findsRule 71 = .ok (.aload_n 0, 1) := by decide +kernel
theorem dX10_findsRule_72 : decode cX10_findsRule 72 = .ok (.getfield 92, 3) := by decide +kernel
theorem dX10_findsRule_75 : decode cX10_findsRule 75 = .ok (.iload 4, 2) := by decide +kernel
theorem dX10_findsRule_77 : decode cX10_findsRule 77 = .ok (.aload_n 0, 1) := by decide +kernel
theorem dX10_findsRule_78 : decode cX10_findsRule 78 = .ok (.getfield 92, 3) := by decide +kernel
theorem dX10_findsRule_81 : decode cX10_findsRule 81 = .ok (.iload 4, 2) := by decide +kernel
theorem dX10_findsRule_83 : decode cX10_findsRule 83 = .ok (.iaload, 1) := by decide +kernel
theorem dX10_findsRule_84 : decode cX10_findsRule 84 = .ok (.iconst 1, 1) := by decide +kernel
theorem dX10_findsRule_85 : decode cX10_findsRule 85 = .ok (.iload_n 3, 1) := by decide +kernel
theorem dX10_findsRule_86 : decode cX10_findsRule 86 = .ok (.ishl, 1) := by decide +kernel
theorem dX10_findsRule_87 : decode cX10_findsRule 87 = .ok (.ior, 1) := by decide +kernel
theorem dX10_findsRule_88 : decode cX10_findsRule 88 = .ok (.iastore, 1) := by decide +kernel
theorem dX10_findsRule_89 : decode cX10_findsRule 89 = .ok (.iinc 3 1, 3) := by decide +kernel
theorem dX10_findsRule_92 : decode cX10_findsRule 92 = .ok (.goto (-67), 3) := by decide +kernel
theorem dX10_findsRule_95 : decode cX10_findsRule 95 = .ok (.return_, 1) := by decide +kernel
theorem dX10_areSame_0 : decode cX10_areSame 0 = .ok (.iconst 0, 1) := by decide +kernel
theorem dX10_areSame_1 : decode cX10_areSame 1 = .ok (.istore_n 2, 1) := by decide +kernel
theorem dX10_areSame_2 : decode cX10_areSame 2 = .ok (.iload_n 2, 1) := by decide +kernel
theorem dX10_areSame_3 : decode cX10_areSame 3 = .ok (.aload_n 0, 1) := by decide +kernel
theorem dX10_areSame_4 : decode cX10_areSame 4 = .ok (.getfield 101, 3) := by decide +kernel
theorem dX10_areSame_7 : decode cX10_areSame 7 = .ok (.if_icmp .ge 64, 3) := by decide +kernel
theorem dX10_areSame_10 : decode cX10_areSame 10 = .ok (.iconst 0, 1) := by decide +kernel
theorem dX10_areSame_11 : decode cX10_areSame 11 = .ok (.istore_n 3, 1) := by decide +kernel
theorem dX10_areSame_12 : decode cX10_areSame 12 = .ok (.iload_n 3, 1) := by decide +kernel
theorem dX10_areSame_13 : decode cX10_areSame 13 = .ok (.aload_n 0, 1) := by decide +kernel
theorem dX10_areSame_14 : decode cX10_areSame 14 = .ok (.getfield 101, 3) := by decide +kernel
theorem dX10_areSame_17 : decode cX10_areSame 17 = .ok (.if_icmp .ge 48, 3) := by decide +kernel
theorem dX10_areSame_20 : decode cX10_areSame 20 = .ok (.aload_n 0, 1) := by decide +kernel
theorem dX10_areSame_21 : decode cX10_areSame 21 = .ok (.getfield 92, 3) := by decide +kernel
theorem dX10_areSame_24 : decode cX10_areSame 24 = .ok (.iload_n 2, 1) := by decide +kernel
theorem dX10_areSame_25 : decode cX10_areSame 25 = .ok (.iaload, 1) := by decide +kernel
theorem dX10_areSame_26 : decode cX10_areSame 26 = .ok (.iload_n 3, 1) := by decide +kernel
theorem dX10_areSame_27 : decode cX10_areSame 27 = .ok (.ishr, 1) := by decide +kernel
theorem dX10_areSame_28 : decode cX10_areSame 28 = .ok (.iconst 1, 1) := by decide +kernel
theorem dX10_areSame_29 : decode cX10_areSame 29 = .ok (.iand, 1) := by decide +kernel
theorem dX10_areSame_30 : decode cX10_areSame 30 = .ok (.aload_n 0, 1) := by decide +kernel
theorem dX10_areSame_31 : decode cX10_areSame 31 = .ok (.getfield 92, 3) := by decide +kernel
theorem dX10_areSame_34 : decode cX10_areSame 34 = .ok (.iload_n 2, 1) := by decide +kernel
theorem dX10_areSame_35 : decode cX10_areSame 35 = .ok (.iload_n 1, 1) := by decide +kernel
theorem dX10_areSame_36 : decode cX10_areSame 36 = .ok (.iadd, 1) := by decide +kernel
theorem dX10_areSame_37 : decode cX10_areSame 37 = .ok (.aload_n 0, 1) := by decide +kernel
theorem dX10_areSame_38 : decode cX10_areSame 38 = .ok (.getfield 101, 3) := by decide +kernel
theorem dX10_areSame_41 : decode cX10_areSame 41 = .ok (.irem, 1) := by decide +kernel
theorem dX10_areSame_42 : decode cX10_areSame 42 = .ok (.iaload, 1) := by decide +kernel
theorem dX10_areSame_43 : decode cX10_areSame 43 = .ok (.iload_n 3, 1) := by decide +kernel
theorem dX10_areSame_44 : decode cX10_areSame 44 = .ok (.iload_n 1, 1) := by decide +kernel
theorem dX10_areSame_45 : decode cX10_areSame 45 = .ok (.iadd, 1) := by decide +kernel
theorem dX10_areSame_46 : decode cX10_areSame 46 = .ok (.aload_n 0, 1) := by decide +kernel
theorem dX10_areSame_47 : decode cX10_areSame 47 = .ok (.getfield 101, 3) := by decide +kernel
theorem dX10_areSame_50 : decode cX10_areSame 50 = .ok (.irem, 1) := by decide +kernel
theorem dX10_areSame_51 : decode cX10_areSame 51 = .ok (.ishr, 1) := by decide +kernel
theorem dX10_areSame_52 : decode cX10_areSame 52 = .ok (.iconst 1, 1) := by decide +kernel
theorem dX10_areSame_53 : decode cX10_areSame 53 = .ok (.iand, 1) := by decide +kernel
theorem dX10_areSame_54 : decode cX10_areSame 54 = .ok (.if_icmp .eq 5, 3) := by decide +kernel
theorem dX10_areSame_57 : decode cX10_areSame 57 = .ok (.iconst 0, 1) := by decide +kernel
theorem dX10_areSame_58 : decode cX10_areSame 58 = .ok (.ireturn, 1) := by decide +kernel
theorem dX10_areSame_59 : decode cX10_areSame 59 = .ok (.iinc 3 1, 3) := by decide +kernel
theorem dX10_areSame_62 : decode cX10_areSame 62 = .ok (.goto (-50), 3) := by decide +kernel
theorem dX10_areSame_65 : decode cX10_areSame 65 = .ok (.iinc 2 1, 3) := by decide +kernel
theorem dX10_areSame_68 : decode cX10_areSame 68 = .ok (.goto (-66), 3) := by decide +kernel
theorem dX10_areSame_71 : decode cX10_areSame 71 = .ok (.iconst 1, 1) := by decide +kernel
theorem dX10_areSame_72 : decode cX10_areSame 72 = .ok (.ireturn, 1) := by decide +kernel
theorem dX10_isRule_0 : decode cX10_isRule 0 = .ok (.aload_n 0, 1) := by decide +kernel
theorem dX10_isRule_1 : decode cX10_isRule 1 = .ok (.getfield 101, 3) := by decide +kernel
theorem dX10_isRule_4 : decode cX10_isRule 4 = .ok (.ifCond .le 29, 3) := by decide +kernel
theorem dX10_isRule_7 : decode cX10_isRule 7 = .ok (.aload_n 0, 1) := by decide +kernel
theorem dX10_isRule_8 : decode cX10_isRule 8 = .ok (.iload_n 1, 1) := by decide +kernel
theorem dX10_isRule_9 : decode cX10_isRule 9 = .ok (.iconst 0, 1) := by decide +kernel
theorem dX10_isRule_10 : decode cX10_isRule 10 = .ok (.bipush 99, 2) := by decide +kernel
theorem dX10_isRule_12 : decode cX10_isRule 12 = .ok (.invokevirtual 104, 3) := by decide +kernel
theorem dX10_isRule_15 : decode cX10_isRule 15 = .ok (.ifCond .eq 18, 3) := by decide +kernel
theorem dX10_isRule_18 : decode cX10_isRule 18 = .ok (.aload_n 0, 1) := by decide +kernel
theorem dX10_isRule_19 : decode cX10_isRule 19 = .ok (.iload_n 2, 1) := by decide +kernel
theorem dX10_isRule_20 : decode cX10_isRule 20 = .ok (.iconst 0, 1) := by decide +kernel
theorem dX10_isRule_21 : decode cX10_isRule 21 = .ok (.bipush 99, 2) := by decide +kernel
theorem dX10_isRule_23 : decode cX10_isRule 23 = .ok (.invokevirtual 104, 3) := by decide +kernel
theorem dX10_isRule_26 : decode cX10_isRule 26 = .ok (.ifCond .eq 7, 3) := by decide +kernel
theorem dX10_isRule_29 : decode cX10_isRule 29 = .ok (.iconst 1, 1) := by decide +kernel
theorem dX10_isRule_30 : decode cX10_isRule 30 = .ok (.goto 4, 3) := by decide +kernel
theorem dX10_isRule_33 : decode cX10_isRule 33 = .ok (.iconst 0, 1) := by decide +kernel
theorem dX10_isRule_34 : decode cX10_isRule 34 = .ok (.ireturn, 1) := by decide +kernel
theorem dX10_rule_0 : decode cX10_rule 0 = .ok (.aload_n 0, 1) := by decide +kernel
theorem dX10_rule_1 : decode cX10_rule 1 = .ok (.iconst 0, 1) := by decide +kernel
theorem dX10_rule_2 : decode cX10_rule 2 = .ok (.putfield 98, 3) := by decide +kernel
theorem dX10_rule_5 : decode cX10_rule 5 = .ok (.aload_n 0, 1) := by decide +kernel
theorem dX10_rule_6 : decode cX10_rule 6 = .ok (.iload_n 1, 1) := by decide +kernel
theorem dX10_rule_7 : decode cX10_rule 7 = .ok (.iload_n 2, 1) := by decide +kernel
theorem dX10_rule_8 : decode cX10_rule 8 = .ok (.invokevirtual 314, 3) := by decide +kernel
theorem dX10_rule_11 : decode cX10_rule 11 = .ok (.ifCond .eq 13, 3) := by decide +kernel
theorem dX10_rule_14 : decode cX10_rule 14 = .ok (.aload_n 0, 1) := by decide +kernel
theorem dX10_rule_15 : decode cX10_rule 15 = .ok (.iload_n 3, 1) := by decide +kernel
theorem dX10_rule_16 : decode cX10_rule 16 = .ok (.iconst 0, 1) := by decide +kernel
theorem dX10_rule_17 : decode cX10_rule 17 = .ok (.iconst 1, 1) := by decide +kernel
theorem dX10_rule_18 : decode cX10_rule 18 = .ok (.invokevirtual 104, 3) := by decide +kernel
theorem dX10_rule_21 : decode cX10_rule 21 = .ok (.ifCond .ne 5, 3) := by decide +kernel
theorem dX10_rule_24 : decode cX10_rule 24 = .ok (.iconst (-1), 1) := by decide +kernel
theorem dX10_rule_25 : decode cX10_rule 25 = .ok (.ireturn, 1) := by decide +kernel
theorem dX10_rule_26 : decode cX10_rule 26 = .ok (.aload_n 0, 1) := by decide +kernel
theorem dX10_rule_27 : decode cX10_rule 27 = .ok (.iload_n 1, 1) := by decide +kernel
theorem dX10_rule_28 : decode cX10_rule 28 = .ok (.iload_n 2, 1) := by decide +kernel
theorem dX10_rule_29 : decode cX10_rule 29 = .ok (.invokevirtual 317, 3) := by decide +kernel
theorem dX10_rule_32 : decode cX10_rule 32 = .ok (.iload_n 3, 1) := by decide +kernel
theorem dX10_rule_33 : decode cX10_rule 33 = .ok (.ifCond .ne 45, 3) := by decide +kernel
theorem dX10_rule_36 : decode cX10_rule 36 = .ok (.iconst 0, 1) := by decide +kernel
theorem dX10_rule_37 : decode cX10_rule 37 = .ok (.istore 4, 2) := by decide +kernel
theorem dX10_rule_39 : decode cX10_rule 39 = .ok (.iconst 0, 1) := by decide +kernel
theorem dX10_rule_40 : decode cX10_rule 40 = .ok (.istore 5, 2) := by decide +kernel
theorem dX10_rule_42 : decode cX10_rule 42 = .ok (.iload 5, 2) := by decide +kernel
theorem dX10_rule_44 : decode cX10_rule 44 = .ok (.aload_n 0, 1) := by decide +kernel
theorem dX10_rule_45 : decode cX10_rule 45 = .ok (.getfield 101, 3) := by decide +kernel
theorem dX10_rule_48 : decode cX10_rule 48 = .ok (.if_icmp .ge 25, 3) := by decide +kernel
theorem dX10_rule_51 : decode cX10_rule 51 = .ok (.iload 4, 2) := by decide +kernel
theorem dX10_rule_53 : decode cX10_rule 53 = .ok (.aload_n 0, 1) := by decide +kernel
theorem dX10_rule_54 : decode cX10_rule 54 = .ok (.aload_n 0, 1) := by decide +kernel
theorem dX10_rule_55 : decode cX10_rule 55 = .ok (.getfield 92, 3) := by decide +kernel
theorem dX10_rule_58 : decode cX10_rule 58 = .ok (.iload 5, 2) := by decide +kernel
theorem dX10_rule_60 : decode cX10_rule 60 = .ok (.iaload, 1) := by decide +kernel
theorem dX10_rule_61 : decode cX10_rule 61 = .ok (.invokevirtual 293, 3) := by decide +kernel
theorem dX10_rule_64 : decode cX10_rule 64 = .ok (.iadd, 1) := by decide +kernel
theorem dX10_rule_65 : decode cX10_rule 65 = .ok (.istore 4, 2) := by decide +kernel
theorem dX10_rule_67 : decode cX10_rule 67 = .ok (.iinc 5 1, 3) := by decide +kernel
theorem dX10_rule_70 : decode cX10_rule 70 = .ok (.goto (-28), 3) := by decide +kernel
theorem dX10_rule_73 : decode cX10_rule 73 = .ok (.iload 4, 2) := by decide +kernel
theorem dX10_rule_75 : decode cX10_rule 75 = .ok (.iconst 2, 1) := by decide +kernel
theorem dX10_rule_76 : decode cX10_rule 76 = .ok (.idiv, 1) := by decide +kernel
theorem dX10_rule_77 : decode cX10_rule 77 = .ok (.ireturn, 1) := by decide +kernel
theorem dX10_rule_78 : decode cX10_rule 78 = .ok (.iconst 1, 1) := by decide +kernel
theorem dX10_rule_79 : decode cX10_rule 79 = .ok (.istore 4, 2) := by decide +kernel
theorem dX10_rule_81 : decode cX10_rule 81 = .ok (.aload_n 0, 1) := by decide +kernel
theorem dX10_rule_82 : decode cX10_rule 82 = .ok (.iload 4, 2) := by decide +kernel
theorem dX10_rule_84 : decode cX10_rule 84 = .ok (.invokevirtual 320, 3) := by decide +kernel
theorem dX10_rule_87 : decode cX10_rule 87 = .ok (.ifCond .ne 12, 3) := by decide +kernel
theorem dX10_rule_90 : decode cX10_rule 90 = .ok (.iload 4, 2) := by decide +kernel
theorem dX10_rule_92 : decode cX10_rule 92 = .ok (.iconst 1, 1) := by decide +kernel
theorem dX10_rule_93 : decode cX10_rule 93 = .ok (.iadd, 1) := by decide +kernel
theorem dX10_rule_94 : decode cX10_rule 94 = .ok (.istore 4, 2) := by decide +kernel
theorem dX10_rule_96 : decode cX10_rule 96 = .ok (.goto (-15), 3) := by decide +kernel
theorem dX10_rule_99 : decode cX10_rule 99 = .ok (.iload 4, 2) := by decide +kernel
theorem dX10_rule_101 : decode cX10_rule 101 = .ok (.ireturn, 1) := by decide +kernel
theorem dX10_drawn_0 : decode cX10_drawn 0 = .ok (.aload_n 0, 1) := by decide +kernel
theorem dX10_drawn_1 : decode cX10_drawn 1 = .ok (.iconst 0, 1) := by decide +kernel
theorem dX10_drawn_2 : decode cX10_drawn 2 = .ok (.putfield 98, 3) := by decide +kernel
theorem dX10_drawn_5 : decode cX10_drawn 5 = .ok (.aload_n 0, 1) := by decide +kernel
theorem dX10_drawn_6 : decode cX10_drawn 6 = .ok (.iload_n 1, 1) := by decide +kernel
theorem dX10_drawn_7 : decode cX10_drawn 7 = .ok (.iload_n 2, 1) := by decide +kernel
theorem dX10_drawn_8 : decode cX10_drawn 8 = .ok (.invokevirtual 314, 3) := by decide +kernel
theorem dX10_drawn_11 : decode cX10_drawn 11 = .ok (.ifCond .eq 13, 3) := by decide +kernel
theorem dX10_drawn_14 : decode cX10_drawn 14 = .ok (.aload_n 0, 1) := by decide +kernel
theorem dX10_drawn_15 : decode cX10_drawn 15 = .ok (.iload_n 3, 1) := by decide +kernel
theorem dX10_drawn_16 : decode cX10_drawn 16 = .ok (.iload 4, 2) := by decide +kernel
theorem dX10_drawn_18 : decode cX10_drawn 18 = .ok (.invokevirtual 121, 3) := by decide +kernel
theorem dX10_drawn_21 : decode cX10_drawn 21 = .ok (.ifCond .ne 5, 3) := by decide +kernel
theorem dX10_drawn_24 : decode cX10_drawn 24 = .ok (.iconst (-1), 1) := by decide +kernel
theorem dX10_drawn_25 : decode cX10_drawn 25 = .ok (.ireturn, 1) := by decide +kernel
theorem dX10_drawn_26 : decode cX10_drawn 26 = .ok (.aload_n 0, 1) := by decide +kernel
theorem dX10_drawn_27 : decode cX10_drawn 27 = .ok (.iload_n 1, 1) := by decide +kernel
theorem dX10_drawn_28 : decode cX10_drawn 28 = .ok (.iload_n 2, 1) := by decide +kernel
theorem dX10_drawn_29 : decode cX10_drawn 29 = .ok (.invokevirtual 317, 3) := by decide +kernel
theorem dX10_drawn_32 : decode cX10_drawn 32 = .ok (.iconst 0, 1) := by decide +kernel
theorem dX10_drawn_33 : decode cX10_drawn 33 = .ok (.istore 5, 2) := by decide +kernel
theorem dX10_drawn_35 : decode cX10_drawn 35 = .ok (.iload 5, 2) := by decide +kernel
theorem dX10_drawn_37 : decode cX10_drawn 37 = .ok (.bipush 64, 2) := by decide +kernel
theorem dX10_drawn_39 : decode cX10_drawn 39 = .ok (.if_icmp .ge 17, 3) := by decide +kernel
theorem dX10_drawn_42 : decode cX10_drawn 42 = .ok (.aload_n 0, 1) := by decide +kernel
theorem dX10_drawn_43 : decode cX10_drawn 43 = .ok (.getfield 83, 3) := by decide +kernel
theorem dX10_drawn_46 : decode cX10_drawn 46 = .ok (.iload 5, 2) := by decide +kernel
theorem dX10_drawn_48 : decode cX10_drawn 48 = .ok (.iconst 0, 1) := by decide +kernel
theorem dX10_drawn_49 : decode cX10_drawn 49 = .ok (.iastore, 1) := by decide +kernel
theorem dX10_drawn_50 : decode cX10_drawn 50 = .ok (.iinc 5 1, 3) := by decide +kernel
theorem dX10_drawn_53 : decode cX10_drawn 53 = .ok (.goto (-18), 3) := by decide +kernel
theorem dX10_drawn_56 : decode cX10_drawn 56 = .ok (.iconst 0, 1) := by decide +kernel
theorem dX10_drawn_57 : decode cX10_drawn 57 = .ok (.istore 5, 2) := by decide +kernel
theorem dX10_drawn_59 : decode cX10_drawn 59 = .ok (.iload 5, 2) := by decide +kernel
theorem dX10_drawn_61 : decode cX10_drawn 61 = .ok (.aload_n 0, 1) := by decide +kernel
theorem dX10_drawn_62 : decode cX10_drawn 62 = .ok (.getfield 101, 3) := by decide +kernel
theorem dX10_drawn_65 : decode cX10_drawn 65 = .ok (.if_icmp .ge 50, 3) := by decide +kernel
theorem dX10_drawn_68 : decode cX10_drawn 68 = .ok (.iconst 0, 1) := by decide +kernel
theorem dX10_drawn_69 : decode cX10_drawn 69 = .ok (.istore 6, 2) := by decide +kernel
theorem dX10_drawn_71 : decode cX10_drawn 71 = .ok (.iload 6, 2) := by decide +kernel
theorem dX10_drawn_73 : decode cX10_drawn 73 = .ok (.iload 5, 2) := by decide +kernel
theorem dX10_drawn_75 : decode cX10_drawn 75 = .ok (.if_icmp .ge 34, 3) := by decide +kernel
theorem dX10_drawn_78 : decode cX10_drawn 78 = .ok (.aload_n 0, 1) := by decide +kernel
theorem dX10_drawn_79 : decode cX10_drawn 79 = .ok (.getfield 92, 3) := by decide +kernel
theorem dX10_drawn_82 : decode cX10_drawn 82 = .ok (.iload 5, 2) := by decide +kernel
theorem dX10_drawn_84 : decode cX10_drawn 84 = .ok (.iaload, 1) := by decide +kernel
theorem dX10_drawn_85 : decode cX10_drawn 85 = .ok (.iload 6, 2) := by decide +kernel
theorem dX10_drawn_87 : decode cX10_drawn 87 = .ok (.ishr, 1) := by decide +kernel
theorem dX10_drawn_88 : decode cX10_drawn 88 = .ok (.iconst 1, 1) := by decide +kernel
theorem dX10_drawn_89 : decode cX10_drawn 89 = .ok (.iand, 1) := by decide +kernel
theorem dX10_drawn_90 : decode cX10_drawn 90 = .ok (.iconst 1, 1) := by decide +kernel
theorem dX10_drawn_91 : decode cX10_drawn 91 = .ok (.if_icmp .ne 12, 3) := by decide +kernel
theorem dX10_drawn_94 : decode cX10_drawn 94 = .ok (.aload_n 0, 1) := by decide +kernel
theorem dX10_drawn_95 : decode cX10_drawn 95 = .ok (.iload 5, 2) := by decide +kernel
theorem dX10_drawn_97 : decode cX10_drawn 97 = .ok (.iload 6, 2) := by decide +kernel
theorem dX10_drawn_99 : decode cX10_drawn 99 = .ok (.iconst 1, 1) := by decide +kernel
theorem dX10_drawn_100 : decode cX10_drawn 100 = .ok (.invokevirtual 242, 3) := by decide +kernel
theorem dX10_drawn_103 : decode cX10_drawn 103 = .ok (.iinc 6 1, 3) := by decide +kernel
theorem dX10_drawn_106 : decode cX10_drawn 106 = .ok (.goto (-35), 3) := by decide +kernel
theorem dX10_drawn_109 : decode cX10_drawn 109 = .ok (.iinc 5 1, 3) := by decide +kernel
theorem dX10_drawn_112 : decode cX10_drawn 112 = .ok (.goto (-53), 3) := by decide +kernel
theorem dX10_drawn_115 : decode cX10_drawn 115 = .ok (.aload_n 0, 1) := by decide +kernel
theorem dX10_drawn_116 : decode cX10_drawn 116 = .ok (.getfield 83, 3) := by decide +kernel
theorem dX10_drawn_119 : decode cX10_drawn 119 = .ok (.bipush 8, 2) := by decide +kernel
theorem dX10_drawn_121 : decode cX10_drawn 121 = .ok (.iload 4, 2) := by decide +kernel
theorem dX10_drawn_123 : decode cX10_drawn 123 = .ok (.imul, 1) := by decide +kernel
theorem dX10_drawn_124 : decode cX10_drawn 124 = .ok (.iload_n 3, 1) := by decide +kernel
theorem dX10_drawn_125 : decode cX10_drawn 125 = .ok (.iadd, 1) := by decide +kernel
theorem dX10_drawn_126 : decode cX10_drawn 126 = .ok (.iaload, 1) := by decide +kernel
theorem dX10_drawn_127 : decode cX10_drawn 127 = .ok (.ireturn, 1) := by decide +kernel
theorem dX10_kept_0 : decode cX10_kept 0 = .ok (.aload_n 0, 1) := by decide +kernel
theorem dX10_kept_1 : decode cX10_kept 1 = .ok (.aload_n 0, 1) := by decide +kernel
theorem dX10_kept_2 : decode cX10_kept 2 = .ok (.getfield 323, 3) := by decide +kernel
theorem dX10_kept_5 : decode cX10_kept 5 = .ok (.iconst 1, 1) := by decide +kernel
theorem dX10_kept_6 : decode cX10_kept 6 = .ok (.iadd, 1) := by decide +kernel
theorem dX10_kept_7 : decode cX10_kept 7 = .ok (.putfield 323, 3) := by decide +kernel
theorem dX10_kept_10 : decode cX10_kept 10 = .ok (.aload_n 0, 1) := by decide +kernel
theorem dX10_kept_11 : decode cX10_kept 11 = .ok (.getfield 326, 3) := by decide +kernel
theorem dX10_kept_14 : decode cX10_kept 14 = .ok (.ifCond .ne 15, 3) := by decide +kernel
theorem dX10_kept_17 : decode cX10_kept 17 = .ok (.aload_n 0, 1) := by decide +kernel
theorem dX10_kept_18 : decode cX10_kept 18 = .ok (.getfield 95, 3) := by decide +kernel
theorem dX10_kept_21 : decode cX10_kept 21 = .ok (.aload_n 0, 1) := by decide +kernel
theorem dX10_kept_22 : decode cX10_kept 22 = .ok (.getfield 323, 3) := by decide +kernel
theorem dX10_kept_25 : decode cX10_kept 25 = .ok (.iconst 1, 1) := by decide +kernel
theorem dX10_kept_26 : decode cX10_kept 26 = .ok (.isub, 1) := by decide +kernel
theorem dX10_kept_27 : decode cX10_kept 27 = .ok (.iaload, 1) := by decide +kernel
theorem dX10_kept_28 : decode cX10_kept 28 = .ok (.ireturn, 1) := by decide +kernel
theorem dX10_kept_29 : decode cX10_kept 29 = .ok (.aload_n 0, 1) := by decide +kernel
theorem dX10_kept_30 : decode cX10_kept 30 = .ok (.getfield 95, 3) := by decide +kernel
theorem dX10_kept_33 : decode cX10_kept 33 = .ok (.aload_n 0, 1) := by decide +kernel
theorem dX10_kept_34 : decode cX10_kept 34 = .ok (.getfield 323, 3) := by decide +kernel
theorem dX10_kept_37 : decode cX10_kept 37 = .ok (.iconst 1, 1) := by decide +kernel
theorem dX10_kept_38 : decode cX10_kept 38 = .ok (.isub, 1) := by decide +kernel
theorem dX10_kept_39 : decode cX10_kept 39 = .ok (.iload_n 1, 1) := by decide +kernel
theorem dX10_kept_40 : decode cX10_kept 40 = .ok (.iastore, 1) := by decide +kernel
theorem dX10_kept_41 : decode cX10_kept 41 = .ok (.iload_n 1, 1) := by decide +kernel
theorem dX10_kept_42 : decode cX10_kept 42 = .ok (.ireturn, 1) := by decide +kernel
theorem dX10_keepsLaw_0 : decode cX10_keepsLaw 0 = .ok (.aload_n 0, 1) := by decide +kernel
theorem dX10_keepsLaw_1 : decode cX10_keepsLaw 1 = .ok (.aload_n 0, 1) := by decide +kernel
theorem dX10_keepsLaw_2 : decode cX10_keepsLaw 2 = .ok (.aload_n 0, 1) := by decide +kernel
theorem dX10_keepsLaw_3 : decode cX10_keepsLaw 3 = .ok (.getfield 114, 3) := by decide +kernel
theorem dX10_keepsLaw_6 : decode cX10_keepsLaw 6 = .ok (.invokevirtual 330, 3) := by decide +kernel
theorem dX10_keepsLaw_9 : decode cX10_keepsLaw 9 = .ok (.putfield 114, 3) := by decide +kernel
theorem dX10_keepsLaw_12 : decode cX10_keepsLaw 12 = .ok (.iconst 0, 1) := by decide +kernel
theorem dX10_keepsLaw_13 : decode cX10_keepsLaw 13 = .ok (.istore_n 1, 1) := by decide +kernel
theorem dX10_keepsLaw_14 : decode cX10_keepsLaw 14 = .ok (.iload_n 1, 1) := by decide +kernel
theorem dX10_keepsLaw_15 : decode cX10_keepsLaw 15 = .ok (.bipush 16, 2) := by decide +kernel
theorem dX10_keepsLaw_17 : decode cX10_keepsLaw 17 = .ok (.if_icmp .ge 57, 3) := by decide +kernel
theorem dX10_keepsLaw_20 : decode cX10_keepsLaw 20 = .ok (.aload_n 0, 1) := by decide +kernel
theorem dX10_keepsLaw_21 : decode cX10_keepsLaw 21 = .ok (.getfield 53, 3) := by decide +kernel
theorem dX10_keepsLaw_24 : decode cX10_keepsLaw 24 = .ok (.iload_n 1, 1) := by decide +kernel
theorem dX10_keepsLaw_25 : decode cX10_keepsLaw 25 = .ok (.aload_n 0, 1) := by decide +kernel
theorem dX10_keepsLaw_26 : decode cX10_keepsLaw 26 = .ok (.aload_n 0, 1) := by decide +kernel
theorem dX10_keepsLaw_27 : decode cX10_keepsLaw 27 = .ok (.getfield 53, 3) := by decide +kernel
theorem dX10_keepsLaw_30 : decode cX10_keepsLaw 30 = .ok (.iload_n 1, 1) := by decide +kernel
theorem dX10_keepsLaw_31 : decode cX10_keepsLaw 31 = .ok (.iaload, 1) := by decide +kernel
theorem dX10_keepsLaw_32 : decode cX10_keepsLaw 32 = .ok (.invokevirtual 330, 3) := by decide +kernel
theorem dX10_keepsLaw_35 : decode cX10_keepsLaw 35 = .ok (.iastore, 1) := by decide +kernel
theorem dX10_keepsLaw_36 : decode cX10_keepsLaw 36 = .ok (.aload_n 0, 1) := by decide +kernel
theorem dX10_keepsLaw_37 : decode cX10_keepsLaw 37 = .ok (.getfield 56, 3) := by decide +kernel
theorem dX10_keepsLaw_40 : decode cX10_keepsLaw 40 = .ok (.iload_n 1, 1) := by decide +kernel
theorem dX10_keepsLaw_41 : decode cX10_keepsLaw 41 = .ok (.aload_n 0, 1) := by decide +kernel
theorem dX10_keepsLaw_42 : decode cX10_keepsLaw 42 = .ok (.aload_n 0, 1) := by decide +kernel
theorem dX10_keepsLaw_43 : decode cX10_keepsLaw 43 = .ok (.getfield 56, 3) := by decide +kernel
theorem dX10_keepsLaw_46 : decode cX10_keepsLaw 46 = .ok (.iload_n 1, 1) := by decide +kernel
theorem dX10_keepsLaw_47 : decode cX10_keepsLaw 47 = .ok (.iaload, 1) := by decide +kernel
theorem dX10_keepsLaw_48 : decode cX10_keepsLaw 48 = .ok (.invokevirtual 330, 3) := by decide +kernel
theorem dX10_keepsLaw_51 : decode cX10_keepsLaw 51 = .ok (.iastore, 1) := by decide +kernel
theorem dX10_keepsLaw_52 : decode cX10_keepsLaw 52 = .ok (.aload_n 0, 1) := by decide +kernel
theorem dX10_keepsLaw_53 : decode cX10_keepsLaw 53 = .ok (.getfield 59, 3) := by decide +kernel
theorem dX10_keepsLaw_56 : decode cX10_keepsLaw 56 = .ok (.iload_n 1, 1) := by decide +kernel
theorem dX10_keepsLaw_57 : decode cX10_keepsLaw 57 = .ok (.aload_n 0, 1) := by decide +kernel
theorem dX10_keepsLaw_58 : decode cX10_keepsLaw 58 = .ok (.aload_n 0, 1) := by decide +kernel
theorem dX10_keepsLaw_59 : decode cX10_keepsLaw 59 = .ok (.getfield 59, 3) := by decide +kernel
theorem dX10_keepsLaw_62 : decode cX10_keepsLaw 62 = .ok (.iload_n 1, 1) := by decide +kernel
theorem dX10_keepsLaw_63 : decode cX10_keepsLaw 63 = .ok (.iaload, 1) := by decide +kernel
theorem dX10_keepsLaw_64 : decode cX10_keepsLaw 64 = .ok (.invokevirtual 330, 3) := by decide +kernel
theorem dX10_keepsLaw_67 : decode cX10_keepsLaw 67 = .ok (.iastore, 1) := by decide +kernel
theorem dX10_keepsLaw_68 : decode cX10_keepsLaw 68 = .ok (.iinc 1 1, 3) := by decide +kernel
theorem dX10_keepsLaw_71 : decode cX10_keepsLaw 71 = .ok (.goto (-57), 3) := by decide +kernel
theorem dX10_keepsLaw_74 : decode cX10_keepsLaw 74 = .ok (.iconst 0, 1) := by decide +kernel
theorem dX10_keepsLaw_75 : decode cX10_keepsLaw 75 = .ok (.istore_n 1, 1) := by decide +kernel
theorem dX10_keepsLaw_76 : decode cX10_keepsLaw 76 = .ok (.iload_n 1, 1) := by decide +kernel
theorem dX10_keepsLaw_77 : decode cX10_keepsLaw 77 = .ok (.sipush 400, 3) := by decide +kernel
theorem dX10_keepsLaw_80 : decode cX10_keepsLaw 80 = .ok (.if_icmp .ge 41, 3) := by decide +kernel
theorem dX10_keepsLaw_83 : decode cX10_keepsLaw 83 = .ok (.aload_n 0, 1) := by decide +kernel
theorem dX10_keepsLaw_84 : decode cX10_keepsLaw 84 = .ok (.getfield 62, 3) := by decide +kernel
theorem dX10_keepsLaw_87 : decode cX10_keepsLaw 87 = .ok (.iload_n 1, 1) := by decide +kernel
theorem dX10_keepsLaw_88 : decode cX10_keepsLaw 88 = .ok (.aload_n 0, 1) := by decide +kernel
theorem dX10_keepsLaw_89 : decode cX10_keepsLaw 89 = .ok (.aload_n 0, 1) := by decide +kernel
theorem dX10_keepsLaw_90 : decode cX10_keepsLaw 90 = .ok (.getfield 62, 3) := by decide +kernel
theorem dX10_keepsLaw_93 : decode cX10_keepsLaw 93 = .ok (.iload_n 1, 1) := by decide +kernel
theorem dX10_keepsLaw_94 : decode cX10_keepsLaw 94 = .ok (.iaload, 1) := by decide +kernel
theorem dX10_keepsLaw_95 : decode cX10_keepsLaw 95 = .ok (.invokevirtual 330, 3) := by decide +kernel
theorem dX10_keepsLaw_98 : decode cX10_keepsLaw 98 = .ok (.iastore, 1) := by decide +kernel
theorem dX10_keepsLaw_99 : decode cX10_keepsLaw 99 = .ok (.aload_n 0, 1) := by decide +kernel
theorem dX10_keepsLaw_100 : decode cX10_keepsLaw 100 = .ok (.getfield 65, 3) := by decide +kernel
theorem dX10_keepsLaw_103 : decode cX10_keepsLaw 103 = .ok (.iload_n 1, 1) := by decide +kernel
theorem dX10_keepsLaw_104 : decode cX10_keepsLaw 104 = .ok (.aload_n 0, 1) := by decide +kernel
theorem dX10_keepsLaw_105 : decode cX10_keepsLaw 105 = .ok (.aload_n 0, 1) := by decide +kernel
theorem dX10_keepsLaw_106 : decode cX10_keepsLaw 106 = .ok (.getfield 65, 3) := by decide +kernel
theorem dX10_keepsLaw_109 : decode cX10_keepsLaw 109 = .ok (.iload_n 1, 1) := by decide +kernel
theorem dX10_keepsLaw_110 : decode cX10_keepsLaw 110 = .ok (.iaload, 1) := by decide +kernel
theorem dX10_keepsLaw_111 : decode cX10_keepsLaw 111 = .ok (.invokevirtual 330, 3) := by decide +kernel
theorem dX10_keepsLaw_114 : decode cX10_keepsLaw 114 = .ok (.iastore, 1) := by decide +kernel
theorem dX10_keepsLaw_115 : decode cX10_keepsLaw 115 = .ok (.iinc 1 1, 3) := by decide +kernel
theorem dX10_keepsLaw_118 : decode cX10_keepsLaw 118 = .ok (.goto (-42), 3) := by decide +kernel
theorem dX10_keepsLaw_121 : decode cX10_keepsLaw 121 = .ok (.return_, 1) := by decide +kernel
theorem dX10_image_0 : decode cX10_image 0 = .ok (.aload_n 0, 1) := by decide +kernel
theorem dX10_image_1 : decode cX10_image 1 = .ok (.iconst 0, 1) := by decide +kernel
theorem dX10_image_2 : decode cX10_image 2 = .ok (.putfield 98, 3) := by decide +kernel
theorem dX10_image_5 : decode cX10_image 5 = .ok (.iload_n 1, 1) := by decide +kernel
theorem dX10_image_6 : decode cX10_image 6 = .ok (.ifCond .ne 12, 3) := by decide +kernel
theorem dX10_image_9 : decode cX10_image 9 = .ok (.aload_n 0, 1) := by decide +kernel
theorem dX10_image_10 : decode cX10_image 10 = .ok (.getfield 333, 3) := by decide +kernel
theorem dX10_image_13 : decode cX10_image 13 = .ok (.ifCond .ne 5, 3) := by decide +kernel
theorem dX10_image_16 : decode cX10_image 16 = .ok (.iconst 0, 1) := by decide +kernel
theorem dX10_image_17 : decode cX10_image 17 = .ok (.ireturn, 1) := by decide +kernel
theorem dX10_image_18 : decode cX10_image 18 = .ok (.aload_n 0, 1) := by decide +kernel
theorem dX10_image_19 : decode cX10_image 19 = .ok (.iload_n 1, 1) := by decide +kernel
theorem dX10_image_20 : decode cX10_image 20 = .ok (.putfield 326, 3) := by decide +kernel
theorem dX10_image_23 : decode cX10_image 23 = .ok (.aload_n 0, 1) := by decide +kernel
theorem dX10_image_24 : decode cX10_image 24 = .ok (.iconst 1, 1) := by decide +kernel
theorem dX10_image_25 : decode cX10_image 25 = .ok (.putfield 333, 3) := by decide +kernel
theorem dX10_image_28 : decode cX10_image 28 = .ok (.aload_n 0, 1) := by decide +kernel
theorem dX10_image_29 : decode cX10_image 29 = .ok (.iconst 0, 1) := by decide +kernel
theorem dX10_image_30 : decode cX10_image 30 = .ok (.putfield 323, 3) := by decide +kernel
theorem dX10_image_33 : decode cX10_image 33 = .ok (.aload_n 0, 1) := by decide +kernel
theorem dX10_image_34 : decode cX10_image 34 = .ok (.aload_n 0, 1) := by decide +kernel
theorem dX10_image_35 : decode cX10_image 35 = .ok (.aload_n 0, 1) := by decide +kernel
theorem dX10_image_36 : decode cX10_image 36 = .ok (.getfield 7, 3) := by decide +kernel
theorem dX10_image_39 : decode cX10_image 39 = .ok (.invokevirtual 330, 3) := by decide +kernel
theorem dX10_image_42 : decode cX10_image 42 = .ok (.putfield 7, 3) := by decide +kernel
theorem dX10_image_45 : decode cX10_image 45 = .ok (.aload_n 0, 1) := by decide +kernel
theorem dX10_image_46 : decode cX10_image 46 = .ok (.aload_n 0, 1) := by decide +kernel
theorem dX10_image_47 : decode cX10_image 47 = .ok (.aload_n 0, 1) := by decide +kernel
theorem dX10_image_48 : decode cX10_image 48 = .ok (.getfield 101, 3) := by decide +kernel
theorem dX10_image_51 : decode cX10_image 51 = .ok (.invokevirtual 330, 3) := by decide +kernel
theorem dX10_image_54 : decode cX10_image 54 = .ok (.putfield 101, 3) := by decide +kernel
theorem dX10_image_57 : decode cX10_image 57 = .ok (.iconst 0, 1) := by decide +kernel
theorem dX10_image_58 : decode cX10_image 58 = .ok (.istore_n 2, 1) := by decide +kernel
theorem dX10_image_59 : decode cX10_image 59 = .ok (.iload_n 2, 1) := by decide +kernel
theorem dX10_image_60 : decode cX10_image 60 = .ok (.bipush 24, 2) := by decide +kernel
theorem dX10_image_62 : decode cX10_image 62 = .ok (.if_icmp .ge 41, 3) := by decide +kernel
theorem dX10_image_65 : decode cX10_image 65 = .ok (.aload_n 0, 1) := by decide +kernel
theorem dX10_image_66 : decode cX10_image 66 = .ok (.getfield 13, 3) := by decide +kernel
theorem dX10_image_69 : decode cX10_image 69 = .ok (.iload_n 2, 1) := by decide +kernel
theorem dX10_image_70 : decode cX10_image 70 = .ok (.aload_n 0, 1) := by decide +kernel
theorem dX10_image_71 : decode cX10_image 71 = .ok (.aload_n 0, 1) := by decide +kernel
theorem dX10_image_72 : decode cX10_image 72 = .ok (.getfield 13, 3) := by decide +kernel
theorem dX10_image_75 : decode cX10_image 75 = .ok (.iload_n 2, 1) := by decide +kernel
theorem dX10_image_76 : decode cX10_image 76 = .ok (.iaload, 1) := by decide +kernel
theorem dX10_image_77 : decode cX10_image 77 = .ok (.invokevirtual 330, 3) := by decide +kernel
theorem dX10_image_80 : decode cX10_image 80 = .ok (.iastore, 1) := by decide +kernel
theorem dX10_image_81 : decode cX10_image 81 = .ok (.aload_n 0, 1) := by decide +kernel
theorem dX10_image_82 : decode cX10_image 82 = .ok (.getfield 17, 3) := by decide +kernel
theorem dX10_image_85 : decode cX10_image 85 = .ok (.iload_n 2, 1) := by decide +kernel
theorem dX10_image_86 : decode cX10_image 86 = .ok (.aload_n 0, 1) := by decide +kernel
theorem dX10_image_87 : decode cX10_image 87 = .ok (.aload_n 0, 1) := by decide +kernel
theorem dX10_image_88 : decode cX10_image 88 = .ok (.getfield 17, 3) := by decide +kernel
theorem dX10_image_91 : decode cX10_image 91 = .ok (.iload_n 2, 1) := by decide +kernel
theorem dX10_image_92 : decode cX10_image 92 = .ok (.iaload, 1) := by decide +kernel
theorem dX10_image_93 : decode cX10_image 93 = .ok (.invokevirtual 330, 3) := by decide +kernel
theorem dX10_image_96 : decode cX10_image 96 = .ok (.iastore, 1) := by decide +kernel
theorem dX10_image_97 : decode cX10_image 97 = .ok (.iinc 2 1, 3) := by decide +kernel
theorem dX10_image_100 : decode cX10_image 100 = .ok (.goto (-41), 3) := by decide +kernel
theorem dX10_image_103 : decode cX10_image 103 = .ok (.iconst 0, 1) := by decide +kernel
theorem dX10_image_104 : decode cX10_image 104 = .ok (.istore_n 2, 1) := by decide +kernel
theorem dX10_image_105 : decode cX10_image 105 = .ok (.iload_n 2, 1) := by decide +kernel
theorem dX10_image_106 : decode cX10_image 106 = .ok (.iconst 3, 1) := by decide +kernel
theorem dX10_image_107 : decode cX10_image 107 = .ok (.if_icmp .ge 41, 3) := by decide +kernel
theorem dX10_image_110 : decode cX10_image 110 = .ok (.aload_n 0, 1) := by decide +kernel
theorem dX10_image_111 : decode cX10_image 111 = .ok (.getfield 20, 3) := by decide +kernel
theorem dX10_image_114 : decode cX10_image 114 = .ok (.iload_n 2, 1) := by decide +kernel
theorem dX10_image_115 : decode cX10_image 115 = .ok (.aload_n 0, 1) := by decide +kernel
theorem dX10_image_116 : decode cX10_image 116 = .ok (.aload_n 0, 1) := by decide +kernel
theorem dX10_image_117 : decode cX10_image 117 = .ok (.getfield 20, 3) := by decide +kernel
theorem dX10_image_120 : decode cX10_image 120 = .ok (.iload_n 2, 1) := by decide +kernel
theorem dX10_image_121 : decode cX10_image 121 = .ok (.iaload, 1) := by decide +kernel
theorem dX10_image_122 : decode cX10_image 122 = .ok (.invokevirtual 330, 3) := by decide +kernel
theorem dX10_image_125 : decode cX10_image 125 = .ok (.iastore, 1) := by decide +kernel
theorem dX10_image_126 : decode cX10_image 126 = .ok (.aload_n 0, 1) := by decide +kernel
theorem dX10_image_127 : decode cX10_image 127 = .ok (.getfield 23, 3) := by decide +kernel
theorem dX10_image_130 : decode cX10_image 130 = .ok (.iload_n 2, 1) := by decide +kernel
theorem dX10_image_131 : decode cX10_image 131 = .ok (.aload_n 0, 1) := by decide +kernel
theorem dX10_image_132 : decode cX10_image 132 = .ok (.aload_n 0, 1) := by decide +kernel
theorem dX10_image_133 : decode cX10_image 133 = .ok (.getfield 23, 3) := by decide +kernel
theorem dX10_image_136 : decode cX10_image 136 = .ok (.iload_n 2, 1) := by decide +kernel
theorem dX10_image_137 : decode cX10_image 137 = .ok (.iaload, 1) := by decide +kernel
theorem dX10_image_138 : decode cX10_image 138 = .ok (.invokevirtual 330, 3) := by decide +kernel
theorem dX10_image_141 : decode cX10_image 141 = .ok (.iastore, 1) := by decide +kernel
theorem dX10_image_142 : decode cX10_image 142 = .ok (.iinc 2 1, 3) := by decide +kernel
theorem dX10_image_145 : decode cX10_image 145 = .ok (.goto (-40), 3) := by decide +kernel
theorem dX10_image_148 : decode cX10_image 148 = .ok (.iconst 0, 1) := by decide +kernel
theorem dX10_image_149 : decode cX10_image 149 = .ok (.istore_n 2, 1) := by decide +kernel
theorem dX10_image_150 : decode cX10_image 150 = .ok (.iload_n 2, 1) := by decide +kernel
theorem dX10_image_151 : decode cX10_image 151 = .ok (.sipush 360, 3) := by decide +kernel
theorem dX10_image_154 : decode cX10_image 154 = .ok (.if_icmp .ge 25, 3) := by decide +kernel
theorem dX10_image_157 : decode cX10_image 157 = .ok (.aload_n 0, 1) := by decide +kernel
theorem dX10_image_158 : decode cX10_image 158 = .ok (.getfield 26, 3) := by decide +kernel
theorem dX10_image_161 : decode cX10_image 161 = .ok (.iload_n 2, 1) := by decide +kernel
theorem dX10_image_162 : decode cX10_image 162 = .ok (.aload_n 0, 1) := by decide +kernel
theorem dX10_image_163 : decode cX10_image 163 = .ok (.aload_n 0, 1) := by decide +kernel
theorem dX10_image_164 : decode cX10_image 164 = .ok (.getfield 26, 3) := by decide +kernel
theorem dX10_image_167 : decode cX10_image 167 = .ok (.iload_n 2, 1) := by decide +kernel
theorem dX10_image_168 : decode cX10_image 168 = .ok (.iaload, 1) := by decide +kernel
theorem dX10_image_169 : decode cX10_image 169 = .ok (.invokevirtual 330, 3) := by decide +kernel
theorem dX10_image_172 : decode cX10_image 172 = .ok (.iastore, 1) := by decide +kernel
theorem dX10_image_173 : decode cX10_image 173 = .ok (.iinc 2 1, 3) := by decide +kernel
theorem dX10_image_176 : decode cX10_image 176 = .ok (.goto (-26), 3) := by decide +kernel
theorem dX10_image_179 : decode cX10_image 179 = .ok (.iconst 0, 1) := by decide +kernel
theorem dX10_image_180 : decode cX10_image 180 = .ok (.istore_n 2, 1) := by decide +kernel
theorem dX10_image_181 : decode cX10_image 181 = .ok (.iload_n 2, 1) := by decide +kernel
theorem dX10_image_182 : decode cX10_image 182 = .ok (.sipush 256, 3) := by decide +kernel
theorem dX10_image_185 : decode cX10_image 185 = .ok (.if_icmp .ge 25, 3) := by decide +kernel
theorem dX10_image_188 : decode cX10_image 188 = .ok (.aload_n 0, 1) := by decide +kernel
theorem dX10_image_189 : decode cX10_image 189 = .ok (.getfield 29, 3) := by decide +kernel
theorem dX10_image_192 : decode cX10_image 192 = .ok (.iload_n 2, 1) := by decide +kernel
theorem dX10_image_193 : decode cX10_image 193 = .ok (.aload_n 0, 1) := by decide +kernel
theorem dX10_image_194 : decode cX10_image 194 = .ok (.aload_n 0, 1) := by decide +kernel
theorem dX10_image_195 : decode cX10_image 195 = .ok (.getfield 29, 3) := by decide +kernel
theorem dX10_image_198 : decode cX10_image 198 = .ok (.iload_n 2, 1) := by decide +kernel
theorem dX10_image_199 : decode cX10_image 199 = .ok (.iaload, 1) := by decide +kernel
theorem dX10_image_200 : decode cX10_image 200 = .ok (.invokevirtual 330, 3) := by decide +kernel
theorem dX10_image_203 : decode cX10_image 203 = .ok (.iastore, 1) := by decide +kernel
theorem dX10_image_204 : decode cX10_image 204 = .ok (.iinc 2 1, 3) := by decide +kernel
theorem dX10_image_207 : decode cX10_image 207 = .ok (.goto (-26), 3) := by decide +kernel
theorem dX10_image_210 : decode cX10_image 210 = .ok (.iconst 0, 1) := by decide +kernel
theorem dX10_image_211 : decode cX10_image 211 = .ok (.istore_n 2, 1) := by decide +kernel
theorem dX10_image_212 : decode cX10_image 212 = .ok (.iload_n 2, 1) := by decide +kernel
theorem dX10_image_213 : decode cX10_image 213 = .ok (.bipush 64, 2) := by decide +kernel
theorem dX10_image_215 : decode cX10_image 215 = .ok (.if_icmp .ge 41, 3) := by decide +kernel
theorem dX10_image_218 : decode cX10_image 218 = .ok (.aload_n 0, 1) := by decide +kernel
theorem dX10_image_219 : decode cX10_image 219 = .ok (.getfield 32, 3) := by decide +kernel
theorem dX10_image_222 : decode cX10_image 222 = .ok (.iload_n 2, 1) := by decide +kernel
theorem dX10_image_223 : decode cX10_image 223 = .ok (.aload_n 0, 1) := by decide +kernel
theorem dX10_image_224 : decode cX10_image 224 = .ok (.aload_n 0, 1) := by decide +kernel
theorem dX10_image_225 : decode cX10_image 225 = .ok (.getfield 32, 3) := by decide +kernel
theorem dX10_image_228 : decode cX10_image 228 = .ok (.iload_n 2, 1) := by decide +kernel
theorem dX10_image_229 : decode cX10_image 229 = .ok (.iaload, 1) := by decide +kernel
theorem dX10_image_230 : decode cX10_image 230 = .ok (.invokevirtual 330, 3) := by decide +kernel
theorem dX10_image_233 : decode cX10_image 233 = .ok (.iastore, 1) := by decide +kernel
theorem dX10_image_234 : decode cX10_image 234 = .ok (.aload_n 0, 1) := by decide +kernel
theorem dX10_image_235 : decode cX10_image 235 = .ok (.getfield 35, 3) := by decide +kernel
theorem dX10_image_238 : decode cX10_image 238 = .ok (.iload_n 2, 1) := by decide +kernel
theorem dX10_image_239 : decode cX10_image 239 = .ok (.aload_n 0, 1) := by decide +kernel
theorem dX10_image_240 : decode cX10_image 240 = .ok (.aload_n 0, 1) := by decide +kernel
theorem dX10_image_241 : decode cX10_image 241 = .ok (.getfield 35, 3) := by decide +kernel
theorem dX10_image_244 : decode cX10_image 244 = .ok (.iload_n 2, 1) := by decide +kernel
theorem dX10_image_245 : decode cX10_image 245 = .ok (.iaload, 1) := by decide +kernel
theorem dX10_image_246 : decode cX10_image 246 = .ok (.invokevirtual 330, 3) := by decide +kernel
theorem dX10_image_249 : decode cX10_image 249 = .ok (.iastore, 1) := by decide +kernel
theorem dX10_image_250 : decode cX10_image 250 = .ok (.iinc 2 1, 3) := by decide +kernel
theorem dX10_image_253 : decode cX10_image 253 = .ok (.goto (-41), 3) := by decide +kernel
theorem dX10_image_256 : decode cX10_image 256 = .ok (.aload_n 0, 1) := by decide +kernel
theorem dX10_image_257 : decode cX10_image 257 = .ok (.aload_n 0, 1) := by decide +kernel
theorem dX10_image_258 : decode cX10_image 258 = .ok (.aload_n 0, 1) := by decide +kernel
theorem dX10_image_259 : decode cX10_image 259 = .ok (.getfield 108, 3) := by decide +kernel
theorem dX10_image_262 : decode cX10_image 262 = .ok (.invokevirtual 330, 3) := by decide +kernel
theorem dX10_image_265 : decode cX10_image 265 = .ok (.putfield 108, 3) := by decide +kernel
theorem dX10_image_268 : decode cX10_image 268 = .ok (.iconst 0, 1) := by decide +kernel
theorem dX10_image_269 : decode cX10_image 269 = .ok (.istore_n 2, 1) := by decide +kernel
theorem dX10_image_270 : decode cX10_image 270 = .ok (.iload_n 2, 1) := by decide +kernel
theorem dX10_image_271 : decode cX10_image 271 = .ok (.bipush 20, 2) := by decide +kernel
theorem dX10_image_273 : decode cX10_image 273 = .ok (.if_icmp .ge 41, 3) := by decide +kernel
theorem dX10_image_276 : decode cX10_image 276 = .ok (.aload_n 0, 1) := by decide +kernel
theorem dX10_image_277 : decode cX10_image 277 = .ok (.getfield 38, 3) := by decide +kernel
theorem dX10_image_280 : decode cX10_image 280 = .ok (.iload_n 2, 1) := by decide +kernel
theorem dX10_image_281 : decode cX10_image 281 = .ok (.aload_n 0, 1) := by decide +kernel
theorem dX10_image_282 : decode cX10_image 282 = .ok (.aload_n 0, 1) := by decide +kernel
theorem dX10_image_283 : decode cX10_image 283 = .ok (.getfield 38, 3) := by decide +kernel
theorem dX10_image_286 : decode cX10_image 286 = .ok (.iload_n 2, 1) := by decide +kernel
theorem dX10_image_287 : decode cX10_image 287 = .ok (.iaload, 1) := by decide +kernel
theorem dX10_image_288 : decode cX10_image 288 = .ok (.invokevirtual 330, 3) := by decide +kernel
theorem dX10_image_291 : decode cX10_image 291 = .ok (.iastore, 1) := by decide +kernel
theorem dX10_image_292 : decode cX10_image 292 = .ok (.aload_n 0, 1) := by decide +kernel
theorem dX10_image_293 : decode cX10_image 293 = .ok (.getfield 41, 3) := by decide +kernel
theorem dX10_image_296 : decode cX10_image 296 = .ok (.iload_n 2, 1) := by decide +kernel
theorem dX10_image_297 : decode cX10_image 297 = .ok (.aload_n 0, 1) := by decide +kernel
theorem dX10_image_298 : decode cX10_image 298 = .ok (.aload_n 0, 1) := by decide +kernel
theorem dX10_image_299 : decode cX10_image 299 = .ok (.getfield 41, 3) := by decide +kernel
theorem dX10_image_302 : decode cX10_image 302 = .ok (.iload_n 2, 1) := by decide +kernel
theorem dX10_image_303 : decode cX10_image 303 = .ok (.iaload, 1) := by decide +kernel
theorem dX10_image_304 : decode cX10_image 304 = .ok (.invokevirtual 330, 3) := by decide +kernel
theorem dX10_image_307 : decode cX10_image 307 = .ok (.iastore, 1) := by decide +kernel
theorem dX10_image_308 : decode cX10_image 308 = .ok (.iinc 2 1, 3) := by decide +kernel
theorem dX10_image_311 : decode cX10_image 311 = .ok (.goto (-41), 3) := by decide +kernel
theorem dX10_image_314 : decode cX10_image 314 = .ok (.aload_n 0, 1) := by decide +kernel
theorem dX10_image_315 : decode cX10_image 315 = .ok (.invokevirtual 336, 3) := by decide +kernel
theorem dX10_image_318 : decode cX10_image 318 = .ok (.iload_n 1, 1) := by decide +kernel
theorem dX10_image_319 : decode cX10_image 319 = .ok (.ifCond .ne 8, 3) := by decide +kernel
theorem dX10_image_322 : decode cX10_image 322 = .ok (.aload_n 0, 1) := by decide +kernel
theorem dX10_image_323 : decode cX10_image 323 = .ok (.iconst 0, 1) := by decide +kernel
theorem dX10_image_324 : decode cX10_image 324 = .ok (.putfield 111, 3) := by decide +kernel
theorem dX10_image_327 : decode cX10_image 327 = .ok (.iconst 1, 1) := by decide +kernel
theorem dX10_image_328 : decode cX10_image 328 = .ok (.ireturn, 1) := by decide +kernel
theorem dX10_lengthOfAll_0 : decode cX10_lengthOfAll 0 = .ok (.iconst 0, 1) := by decide +kernel
theorem dX10_lengthOfAll_1 : decode cX10_lengthOfAll 1 = .ok (.istore_n 1, 1) := by decide +kernel
theorem dX10_lengthOfAll_2 : decode cX10_lengthOfAll 2 = .ok (.iconst 0, 1) := by decide +kernel
theorem dX10_lengthOfAll_3 : decode cX10_lengthOfAll 3 = .ok (.istore_n 2, 1) := by decide +kernel
theorem dX10_lengthOfAll_4 : decode cX10_lengthOfAll 4 = .ok (.iload_n 2, 1) := by decide +kernel
theorem dX10_lengthOfAll_5 : decode cX10_lengthOfAll 5 = .ok (.iconst 3, 1) := by decide +kernel
theorem dX10_lengthOfAll_6 : decode cX10_lengthOfAll 6 = .ok (.if_icmp .ge 50, 3) := by decide +kernel
theorem dX10_lengthOfAll_9 : decode cX10_lengthOfAll 9 = .ok (.iconst 0, 1) := by decide +kernel
theorem dX10_lengthOfAll_10 : decode cX10_lengthOfAll 10 = .ok (.istore_n 3, 1) := by decide +kernel
theorem dX10_lengthOfAll_11 : decode cX10_lengthOfAll 11 = .ok (.iload_n 3, 1) := by decide +kernel
theorem dX10_lengthOfAll_12 : decode cX10_lengthOfAll 12 = .ok (.iconst 1, 1) := by decide +kernel
theorem dX10_lengthOfAll_13 : decode cX10_lengthOfAll 13 = .ok (.iadd, 1) := by decide +kernel
theorem dX10_lengthOfAll_14 : decode cX10_lengthOfAll 14 = .ok (.aload_n 0, 1) := by decide +kernel
theorem dX10_lengthOfAll_15 : decode cX10_lengthOfAll 15 = .ok (.getfield 23, 3) := by decide +kernel
theorem dX10_lengthOfAll_18 : decode cX10_lengthOfAll 18 = .ok (.iload_n 2, 1) := by decide +kernel
theorem dX10_lengthOfAll_19 : decode cX10_lengthOfAll 19 = .ok (.iaload, 1) := by decide +kernel
theorem dX10_lengthOfAll_20 : decode cX10_lengthOfAll 20 = .ok (.if_icmp .ge 30, 3) := by decide +kernel
theorem dX10_lengthOfAll_23 : decode cX10_lengthOfAll 23 = .ok (.iload_n 1, 1) := by decide +kernel
theorem dX10_lengthOfAll_24 : decode cX10_lengthOfAll 24 = .ok (.aload_n 0, 1) := by decide +kernel
theorem dX10_lengthOfAll_25 : decode cX10_lengthOfAll 25 = .ok (.aload_n 0, 1) := by decide +kernel
theorem dX10_lengthOfAll_26 : decode cX10_lengthOfAll 26 = .ok (.iload_n 2, 1) := by decide +kernel
theorem dX10_lengthOfAll_27 : decode cX10_lengthOfAll 27 = .ok (.iload_n 3, 1) := by decide +kernel
theorem dX10_lengthOfAll_28 : decode cX10_lengthOfAll 28 = .ok (.invokevirtual 239, 3) := by decide +kernel
theorem dX10_lengthOfAll_31 : decode cX10_lengthOfAll 31 = .ok (.aload_n 0, 1) := by decide +kernel
theorem dX10_lengthOfAll_32 : decode cX10_lengthOfAll 32 = .ok (.iload_n 2, 1) := by decide +kernel
theorem dX10_lengthOfAll_33 : decode cX10_lengthOfAll 33 = .ok (.iload_n 3, 1) := by decide +kernel
theorem dX10_lengthOfAll_34 : decode cX10_lengthOfAll 34 = .ok (.iconst 1, 1) := by decide +kernel
theorem dX10_lengthOfAll_35 : decode cX10_lengthOfAll 35 = .ok (.iadd, 1) := by decide +kernel
theorem dX10_lengthOfAll_36 : decode cX10_lengthOfAll 36 = .ok (.invokevirtual 239, 3) := by decide +kernel
theorem dX10_lengthOfAll_39 : decode cX10_lengthOfAll 39 = .ok (.invokevirtual 230, 3) := by decide +kernel
theorem dX10_lengthOfAll_42 : decode cX10_lengthOfAll 42 = .ok (.iadd, 1) := by decide +kernel
theorem dX10_lengthOfAll_43 : decode cX10_lengthOfAll 43 = .ok (.istore_n 1, 1) := by decide +kernel
theorem dX10_lengthOfAll_44 : decode cX10_lengthOfAll 44 = .ok (.iinc 3 1, 3) := by decide +kernel
theorem dX10_lengthOfAll_47 : decode cX10_lengthOfAll 47 = .ok (.goto (-36), 3) := by decide +kernel
theorem dX10_lengthOfAll_50 : decode cX10_lengthOfAll 50 = .ok (.iinc 2 1, 3) := by decide +kernel
theorem dX10_lengthOfAll_53 : decode cX10_lengthOfAll 53 = .ok (.goto (-49), 3) := by decide +kernel
theorem dX10_lengthOfAll_56 : decode cX10_lengthOfAll 56 = .ok (.iload_n 1, 1) := by decide +kernel
theorem dX10_lengthOfAll_57 : decode cX10_lengthOfAll 57 = .ok (.ireturn, 1) := by decide +kernel
theorem dX10_look_0 : decode cX10_look 0 = .ok (.aload_n 0, 1) := by decide +kernel
theorem dX10_look_1 : decode cX10_look 1 = .ok (.iconst 0, 1) := by decide +kernel
theorem dX10_look_2 : decode cX10_look 2 = .ok (.putfield 98, 3) := by decide +kernel
theorem dX10_look_5 : decode cX10_look 5 = .ok (.iload_n 1, 1) := by decide +kernel
theorem dX10_look_6 : decode cX10_look 6 = .ok (.ifCond .ne 8, 3) := by decide +kernel
theorem dX10_look_9 : decode cX10_look 9 = .ok (.aload_n 0, 1) := by decide +kernel
theorem dX10_look_10 : decode cX10_look 10 = .ok (.getfield 7, 3) := by decide +kernel
theorem dX10_look_13 : decode cX10_look 13 = .ok (.ireturn, 1) := by decide +kernel
theorem dX10_look_14 : decode cX10_look 14 = .ok (.iload_n 1, 1) := by decide +kernel
theorem dX10_look_15 : decode cX10_look 15 = .ok (.iconst 1, 1) := by decide +kernel
theorem dX10_look_16 : decode cX10_look 16 = .ok (.if_icmp .ne 8, 3) := by decide +kernel
theorem dX10_look_19 : decode cX10_look 19 = .ok (.aload_n 0, 1) := by decide +kernel
theorem dX10_look_20 : decode cX10_look 20 = .ok (.getfield 101, 3) := by decide +kernel
theorem dX10_look_23 : decode cX10_look 23 = .ok (.ireturn, 1) := by decide +kernel
theorem dX10_look_24 : decode cX10_look 24 = .ok (.iload_n 1, 1) := by decide +kernel
theorem dX10_look_25 : decode cX10_look 25 = .ok (.iconst 2, 1) := by decide +kernel
theorem dX10_look_26 : decode cX10_look 26 = .ok (.if_icmp .ne 8, 3) := by decide +kernel
theorem dX10_look_29 : decode cX10_look 29 = .ok (.aload_n 0, 1) := by decide +kernel
theorem dX10_look_30 : decode cX10_look 30 = .ok (.getfield 108, 3) := by decide +kernel
theorem dX10_look_33 : decode cX10_look 33 = .ok (.ireturn, 1) := by decide +kernel
theorem dX10_look_34 : decode cX10_look 34 = .ok (.iload_n 1, 1) := by decide +kernel
theorem dX10_look_35 : decode cX10_look 35 = .ok (.iconst 3, 1) := by decide +kernel
theorem dX10_look_36 : decode cX10_look 36 = .ok (.if_icmp .ne 8, 3) := by decide +kernel
theorem dX10_look_39 : decode cX10_look 39 = .ok (.aload_n 0, 1) := by decide +kernel
theorem dX10_look_40 : decode cX10_look 40 = .ok (.getfield 114, 3) := by decide +kernel
theorem dX10_look_43 : decode cX10_look 43 = .ok (.ireturn, 1) := by decide +kernel
theorem dX10_look_44 : decode cX10_look 44 = .ok (.iload_n 1, 1) := by decide +kernel
theorem dX10_look_45 : decode cX10_look 45 = .ok (.iconst 4, 1) := by decide +kernel
theorem dX10_look_46 : decode cX10_look 46 = .ok (.if_icmp .ne 8, 3) := by decide +kernel
theorem dX10_look_49 : decode cX10_look 49 = .ok (.aload_n 0, 1) := by decide +kernel
theorem dX10_look_50 : decode cX10_look 50 = .ok (.getfield 111, 3) := by decide +kernel
theorem dX10_look_53 : decode cX10_look 53 = .ok (.ireturn, 1) := by decide +kernel
theorem dX10_look_54 : decode cX10_look 54 = .ok (.iload_n 1, 1) := by decide +kernel
theorem dX10_look_55 : decode cX10_look 55 = .ok (.iconst 5, 1) := by decide +kernel
theorem dX10_look_56 : decode cX10_look 56 = .ok (.if_icmp .ne 8, 3) := by decide +kernel
theorem dX10_look_59 : decode cX10_look 59 = .ok (.aload_n 0, 1) := by decide +kernel
theorem dX10_look_60 : decode cX10_look 60 = .ok (.invokevirtual 339, 3) := by decide +kernel
theorem dX10_look_63 : decode cX10_look 63 = .ok (.ireturn, 1) := by decide +kernel
theorem dX10_look_64 : decode cX10_look 64 = .ok (.aload_n 0, 1) := by decide +kernel
theorem dX10_look_65 : decode cX10_look 65 = .ok (.iload_n 1, 1) := by decide +kernel
theorem dX10_look_66 : decode cX10_look 66 = .ok (.bipush 10, 2) := by decide +kernel
theorem dX10_look_68 : decode cX10_look 68 = .ok (.bipush 12, 2) := by decide +kernel
theorem dX10_look_70 : decode cX10_look 70 = .ok (.invokevirtual 104, 3) := by decide +kernel
theorem dX10_look_73 : decode cX10_look 73 = .ok (.ifCond .eq 13, 3) := by decide +kernel
theorem dX10_look_76 : decode cX10_look 76 = .ok (.aload_n 0, 1) := by decide +kernel
theorem dX10_look_77 : decode cX10_look 77 = .ok (.getfield 20, 3) := by decide +kernel
theorem dX10_look_80 : decode cX10_look 80 = .ok (.iload_n 1, 1) := by decide +kernel
theorem dX10_look_81 : decode cX10_look 81 = .ok (.bipush 10, 2) := by decide +kernel
theorem dX10_look_83 : decode cX10_look 83 = .ok (.isub, 1) := by decide +kernel
theorem dX10_look_84 : decode cX10_look 84 = .ok (.iaload, 1) := by decide +kernel
theorem dX10_look_85 : decode cX10_look 85 = .ok (.ireturn, 1) := by decide +kernel
theorem dX10_look_86 : decode cX10_look 86 = .ok (.aload_n 0, 1) := by decide +kernel
theorem dX10_look_87 : decode cX10_look 87 = .ok (.iload_n 1, 1) := by decide +kernel
theorem dX10_look_88 : decode cX10_look 88 = .ok (.bipush 20, 2) := by decide +kernel
theorem dX10_look_90 : decode cX10_look 90 = .ok (.bipush 19, 2) := by decide +kernel
theorem dX10_look_92 : decode cX10_look 92 = .ok (.aload_n 0, 1) := by decide +kernel
theorem dX10_look_93 : decode cX10_look 93 = .ok (.getfield 101, 3) := by decide +kernel
theorem dX10_look_96 : decode cX10_look 96 = .ok (.iadd, 1) := by decide +kernel
theorem dX10_look_97 : decode cX10_look 97 = .ok (.invokevirtual 104, 3) := by decide +kernel
theorem dX10_look_100 : decode cX10_look 100 = .ok (.ifCond .eq 28, 3) := by decide +kernel
theorem dX10_look_103 : decode cX10_look 103 = .ok (.bipush 10, 2) := by decide +kernel
theorem dX10_look_105 : decode cX10_look 105 = .ok (.aload_n 0, 1) := by decide +kernel
theorem dX10_look_106 : decode cX10_look 106 = .ok (.getfield 17, 3) := by decide +kernel
theorem dX10_look_109 : decode cX10_look 109 = .ok (.iload_n 1, 1) := by decide +kernel
theorem dX10_look_110 : decode cX10_look 110 = .ok (.bipush 20, 2) := by decide +kernel
theorem dX10_look_112 : decode cX10_look 112 = .ok (.isub, 1) := by decide +kernel
theorem dX10_look_113 : decode cX10_look 113 = .ok (.iaload, 1) := by decide +kernel
theorem dX10_look_114 : decode cX10_look 114 = .ok (.imul, 1) := by decide +kernel
theorem dX10_look_115 : decode cX10_look 115 = .ok (.aload_n 0, 1) := by decide +kernel
theorem dX10_look_116 : decode cX10_look 116 = .ok (.getfield 13, 3) := by decide +kernel
theorem dX10_look_119 : decode cX10_look 119 = .ok (.iload_n 1, 1) := by decide +kernel
theorem dX10_look_120 : decode cX10_look 120 = .ok (.bipush 20, 2) := by decide +kernel
theorem dX10_look_122 : decode cX10_look 122 = .ok (.isub, 1) := by decide +kernel
theorem dX10_look_123 : decode cX10_look 123 = .ok (.iaload, 1) := by decide +kernel
theorem dX10_look_124 : decode cX10_look 124 = .ok (.iadd, 1) := by decide +kernel
theorem dX10_look_125 : decode cX10_look 125 = .ok (.goto 4, 3) := by decide +kernel
theorem dX10_look_128 : decode cX10_look 128 = .ok (.iconst (-1), 1) := by decide +kernel
theorem dX10_look_129 : decode cX10_look 129 = .ok (.ireturn, 1) := by decide +kernel
