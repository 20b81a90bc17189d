theorem dX9_init_0 : decode cX9_init 0 = .ok (.aload_n 0, 1) := by decide +kernel
theorem dX9_init_1 : decode cX9_init 1 = .ok (.invokespecial 3, 3) := by decide +kernel
theorem dX9_init_4 : decode cX9_init 4 = .ok (.aload_n 0, 1) := by decide +kernel
theorem dX9_init_5 : decode cX9_init 5 = .ok (.new 9, 3) := by decide +kernel
theorem dX9_init_8 : decode cX9_init 8 = .ok (.dup, 1) := by decide +kernel
theorem dX9_init_9 : decode cX9_init 9 = .ok (.invokespecial 11, 3) := by decide +kernel
theorem dX9_init_12 : decode cX9_init 12 = .ok (.putfield 12, 3) := by decide +kernel
theorem dX9_init_15 : decode cX9_init 15 = .ok (.aload_n 0, 1) := by decide +kernel
theorem dX9_init_16 : decode cX9_init 16 = .ok (.new 9, 3) := by decide +kernel
theorem dX9_init_19 : decode cX9_init 19 = .ok (.dup, 1) := by decide +kernel
theorem dX9_init_20 : decode cX9_init 20 = .ok (.invokespecial 11, 3) := by decide +kernel
theorem dX9_init_23 : decode cX9_init 23 = .ok (.putfield 16, 3) := by decide +kernel
theorem dX9_init_26 : decode cX9_init 26 = .ok (.aload_n 0, 1) := by decide +kernel
theorem dX9_init_27 : decode cX9_init 27 = .ok (.new 19, 3) := by decide +kernel
theorem dX9_init_30 : decode cX9_init 30 = .ok (.dup, 1) := by decide +kernel
theorem dX9_init_31 : decode cX9_init 31 = .ok (.aload_n 0, 1) := by decide +kernel
theorem dX9_init_32 : decode cX9_init 32 = .ok (.getfield 12, 3) := by decide +kernel
theorem dX9_init_35 : decode cX9_init 35 = .ok (.invokespecial 21, 3) := by decide +kernel
theorem dX9_init_38 : decode cX9_init 38 = .ok (.putfield 24, 3) := by decide +kernel
theorem dX9_init_41 : decode cX9_init 41 = .ok (.aload_n 0, 1) := by decide +kernel
theorem dX9_init_42 : decode cX9_init 42 = .ok (.new 28, 3) := by decide +kernel
theorem dX9_init_45 : decode cX9_init 45 = .ok (.dup, 1) := by decide +kernel
theorem dX9_init_46 : decode cX9_init 46 = .ok (.aload_n 0, 1) := by decide +kernel
theorem dX9_init_47 : decode cX9_init 47 = .ok (.getfield 12, 3) := by decide +kernel
theorem dX9_init_50 : decode cX9_init 50 = .ok (.aload_n 0, 1) := by decide +kernel
theorem dX9_init_51 : decode cX9_init 51 = .ok (.getfield 24, 3) := by decide +kernel
theorem dX9_init_54 : decode cX9_init 54 = .ok (.invokespecial 30, 3) := by decide +kernel
theorem dX9_init_57 : decode cX9_init 57 = .ok (.putfield 33, 3) := by decide +kernel
theorem dX9_init_60 : decode cX9_init 60 = .ok (.aload_n 0, 1) := by decide +kernel
theorem dX9_init_61 : decode cX9_init 61 = .ok (.new 37, 3) := by decide +kernel
theorem dX9_init_64 : decode cX9_init 64 = .ok (.dup, 1) := by decide +kernel
theorem dX9_init_65 : decode cX9_init 65 = .ok (.aload_n 0, 1) := by decide +kernel
theorem dX9_init_66 : decode cX9_init 66 = .ok (.getfield 12, 3) := by decide +kernel
theorem dX9_init_69 : decode cX9_init 69 = .ok (.invokespecial 39, 3) := by decide +kernel
theorem dX9_init_72 : decode cX9_init 72 = .ok (.putfield 40, 3) := by decide +kernel
theorem dX9_init_75 : decode cX9_init 75 = .ok (.aload_n 0, 1) := by decide +kernel
theorem dX9_init_76 : decode cX9_init 76 = .ok (.new 44, 3) := by decide +kernel
theorem dX9_init_79 : decode cX9_init 79 = .ok (.dup, 1) := by decide +kernel
theorem dX9_init_80 : decode cX9_init 80 = .ok (.aload_n 0, 1) := by decide +kernel
theorem dX9_init_81 : decode cX9_init 81 = .ok (.getfield 12, 3) := by decide +kernel
theorem dX9_init_84 : decode cX9_init 84 = .ok (.aload_n 0, 1) := by decide +kernel
theorem dX9_init_85 : decode cX9_init 85 = .ok (.getfield 24, 3) := by decide +kernel
theorem dX9_init_88 : decode cX9_init 88 = .ok (.getfield 46, 3) := by decide +kernel
theorem dX9_init_91 : decode cX9_init 91 = .ok (.invokespecial 50, 3) := by decide +kernel
theorem dX9_init_94 : decode cX9_init 94 = .ok (.putfield 53, 3) := by decide +kernel
theorem dX9_init_97 : decode cX9_init 97 = .ok (.aload_n 0, 1) := by decide +kernel
theorem dX9_init_98 : decode cX9_init 98 = .ok (.new 57, 3) := by decide +kernel
theorem dX9_init_101 : decode cX9_init 101 = .ok (.dup, 1) := by decide +kernel
theorem dX9_init_102 : decode cX9_init 102 = .ok (.aload_n 0, 1) := by decide +kernel
theorem dX9_init_103 : decode cX9_init 103 = .ok (.getfield 12, 3) := by decide +kernel
theorem dX9_init_106 : decode cX9_init 106 = .ok (.aload_n 0, 1) := by decide +kernel
theorem dX9_init_107 : decode cX9_init 107 = .ok (.getfield 24, 3) := by decide +kernel
theorem dX9_init_110 : decode cX9_init 110 = .ok (.getfield 46, 3) := by decide +kernel
theorem dX9_init_113 : decode cX9_init 113 = .ok (.invokespecial 59, 3) := by decide +kernel
theorem dX9_init_116 : decode cX9_init 116 = .ok (.putfield 60, 3) := by decide +kernel
theorem dX9_init_119 : decode cX9_init 119 = .ok (.aload_n 0, 1) := by decide +kernel
theorem dX9_init_120 : decode cX9_init 120 = .ok (.new 64, 3) := by decide +kernel
theorem dX9_init_123 : decode cX9_init 123 = .ok (.dup, 1) := by decide +kernel
theorem dX9_init_124 : decode cX9_init 124 = .ok (.invokespecial 66, 3) := by decide +kernel
theorem dX9_init_127 : decode cX9_init 127 = .ok (.putfield 67, 3) := by decide +kernel
theorem dX9_init_130 : decode cX9_init 130 = .ok (.aload_n 0, 1) := by decide +kernel
theorem dX9_init_131 : decode cX9_init 131 = .ok (.sipush 400, 3) := by decide +kernel
theorem dX9_init_134 : decode cX9_init 134 = .ok (.newarray .int, 2) := by decide +kernel
theorem dX9_init_136 : decode cX9_init 136 = .ok (.putfield 71, 3) := by decide +kernel
theorem dX9_init_139 : decode cX9_init 139 = .ok (.aload_n 0, 1) := by decide +kernel
theorem dX9_init_140 : decode cX9_init 140 = .ok (.iconst (-1), 1) := by decide +kernel
theorem dX9_init_141 : decode cX9_init 141 = .ok (.putfield 75, 3) := by decide +kernel
theorem dX9_init_144 : decode cX9_init 144 = .ok (.aload_n 0, 1) := by decide +kernel
theorem dX9_init_145 : decode cX9_init 145 = .ok (.bipush 40, 2) := by decide +kernel
theorem dX9_init_147 : decode cX9_init 147 = .ok (.newarray .int, 2) := by decide +kernel
theorem dX9_init_149 : decode cX9_init 149 = .ok (.putfield 79, 3) := by decide +kernel
theorem dX9_init_152 : decode cX9_init 152 = .ok (.return_, 1) := by decide +kernel
theorem dX9_board_0 : decode cX9_board 0 = .ok (.iload_n 1, 1) := by decide +kernel
theorem dX9_board_1 : decode cX9_board 1 = .ok (.iconst 2, 1) := by decide +kernel
theorem dX9_board_2 : decode cX9_board 2 = .ok (.if_icmp .lt 9, 3) := by decide +kernel
theorem dX9_board_5 : decode cX9_board 5 = .ok (.iload_n 1, 1) := by decide +kernel
theorem dX9_board_6 : decode cX9_board 6 = .ok (.bipush 8, 2) := by decide +kernel
theorem dX9_board_8 : decode cX9_board 8 = .ok (.if_icmp .le 5, 3) := by decide +kernel
theorem dX9_board_11 : decode cX9_board 11 = .ok (.iconst 0, 1) := by decide +kernel
theorem dX9_board_12 : decode cX9_board 12 = .ok (.ireturn, 1) := by decide +kernel
theorem dX9_board_13 : decode cX9_board 13 = .ok (.aload_n 0, 1) := by decide +kernel
theorem dX9_board_14 : decode cX9_board 14 = .ok (.getfield 12, 3) := by decide +kernel
theorem dX9_board_17 : decode cX9_board 17 = .ok (.iload_n 1, 1) := by decide +kernel
theorem dX9_board_18 : decode cX9_board 18 = .ok (.invokevirtual 82, 3) := by decide +kernel
theorem dX9_board_21 : decode cX9_board 21 = .ok (.aload_n 0, 1) := by decide +kernel
theorem dX9_board_22 : decode cX9_board 22 = .ok (.getfield 24, 3) := by decide +kernel
theorem dX9_board_25 : decode cX9_board 25 = .ok (.invokevirtual 86, 3) := by decide +kernel
theorem dX9_board_28 : decode cX9_board 28 = .ok (.aload_n 0, 1) := by decide +kernel
theorem dX9_board_29 : decode cX9_board 29 = .ok (.iconst 0, 1) := by decide +kernel
theorem dX9_board_30 : decode cX9_board 30 = .ok (.putfield 89, 3) := by decide +kernel
theorem dX9_board_33 : decode cX9_board 33 = .ok (.iconst 1, 1) := by decide +kernel
theorem dX9_board_34 : decode cX9_board 34 = .ok (.ireturn, 1) := by decide +kernel
theorem dX9_pin_0 : decode cX9_pin 0 = .ok (.aload_n 0, 1) := by decide +kernel
theorem dX9_pin_1 : decode cX9_pin 1 = .ok (.getfield 12, 3) := by decide +kernel
theorem dX9_pin_4 : decode cX9_pin 4 = .ok (.iload_n 1, 1) := by decide +kernel
theorem dX9_pin_5 : decode cX9_pin 5 = .ok (.iload_n 2, 1) := by decide +kernel
theorem dX9_pin_6 : decode cX9_pin 6 = .ok (.invokevirtual 92, 3) := by decide +kernel
theorem dX9_pin_9 : decode cX9_pin 9 = .ok (.ifCond .eq 27, 3) := by decide +kernel
theorem dX9_pin_12 : decode cX9_pin 12 = .ok (.aload_n 0, 1) := by decide +kernel
theorem dX9_pin_13 : decode cX9_pin 13 = .ok (.getfield 12, 3) := by decide +kernel
theorem dX9_pin_16 : decode cX9_pin 16 = .ok (.iload_n 1, 1) := by decide +kernel
theorem dX9_pin_17 : decode cX9_pin 17 = .ok (.iload_n 2, 1) := by decide +kernel
theorem dX9_pin_18 : decode cX9_pin 18 = .ok (.invokevirtual 96, 3) := by decide +kernel
theorem dX9_pin_21 : decode cX9_pin 21 = .ok (.ifCond .ne 15, 3) := by decide +kernel
theorem dX9_pin_24 : decode cX9_pin 24 = .ok (.aload_n 0, 1) := by decide +kernel
theorem dX9_pin_25 : decode cX9_pin 25 = .ok (.getfield 12, 3) := by decide +kernel
theorem dX9_pin_28 : decode cX9_pin 28 = .ok (.getfield 99, 3) := by decide +kernel
theorem dX9_pin_31 : decode cX9_pin 31 = .ok (.bipush 24, 2) := by decide +kernel
theorem dX9_pin_33 : decode cX9_pin 33 = .ok (.if_icmp .lt 5, 3) := by decide +kernel
theorem dX9_pin_36 : decode cX9_pin 36 = .ok (.iconst (-1), 1) := by decide +kernel
theorem dX9_pin_37 : decode cX9_pin 37 = .ok (.ireturn, 1) := by decide +kernel
theorem dX9_pin_38 : decode cX9_pin 38 = .ok (.aload_n 0, 1) := by decide +kernel
theorem dX9_pin_39 : decode cX9_pin 39 = .ok (.getfield 12, 3) := by decide +kernel
theorem dX9_pin_42 : decode cX9_pin 42 = .ok (.getfield 99, 3) := by decide +kernel
theorem dX9_pin_45 : decode cX9_pin 45 = .ok (.istore_n 3, 1) := by decide +kernel
theorem dX9_pin_46 : decode cX9_pin 46 = .ok (.aload_n 0, 1) := by decide +kernel
theorem dX9_pin_47 : decode cX9_pin 47 = .ok (.getfield 12, 3) := by decide +kernel
theorem dX9_pin_50 : decode cX9_pin 50 = .ok (.getfield 102, 3) := by decide +kernel
theorem dX9_pin_53 : decode cX9_pin 53 = .ok (.iload_n 3, 1) := by decide +kernel
theorem dX9_pin_54 : decode cX9_pin 54 = .ok (.iload_n 1, 1) := by decide +kernel
theorem dX9_pin_55 : decode cX9_pin 55 = .ok (.iastore, 1) := by decide +kernel
theorem dX9_pin_56 : decode cX9_pin 56 = .ok (.aload_n 0, 1) := by decide +kernel
theorem dX9_pin_57 : decode cX9_pin 57 = .ok (.getfield 12, 3) := by decide +kernel
theorem dX9_pin_60 : decode cX9_pin 60 = .ok (.getfield 105, 3) := by decide +kernel
theorem dX9_pin_63 : decode cX9_pin 63 = .ok (.iload_n 3, 1) := by decide +kernel
theorem dX9_pin_64 : decode cX9_pin 64 = .ok (.iload_n 2, 1) := by decide +kernel
theorem dX9_pin_65 : decode cX9_pin 65 = .ok (.iastore, 1) := by decide +kernel
theorem dX9_pin_66 : decode cX9_pin 66 = .ok (.aload_n 0, 1) := by decide +kernel
theorem dX9_pin_67 : decode cX9_pin 67 = .ok (.getfield 12, 3) := by decide +kernel
theorem dX9_pin_70 : decode cX9_pin 70 = .ok (.iload_n 3, 1) := by decide +kernel
theorem dX9_pin_71 : decode cX9_pin 71 = .ok (.iconst 1, 1) := by decide +kernel
theorem dX9_pin_72 : decode cX9_pin 72 = .ok (.iadd, 1) := by decide +kernel
theorem dX9_pin_73 : decode cX9_pin 73 = .ok (.putfield 99, 3) := by decide +kernel
theorem dX9_pin_76 : decode cX9_pin 76 = .ok (.aload_n 0, 1) := by decide +kernel
theorem dX9_pin_77 : decode cX9_pin 77 = .ok (.iconst 0, 1) := by decide +kernel
theorem dX9_pin_78 : decode cX9_pin 78 = .ok (.putfield 89, 3) := by decide +kernel
theorem dX9_pin_81 : decode cX9_pin 81 = .ok (.iload_n 3, 1) := by decide +kernel
theorem dX9_pin_82 : decode cX9_pin 82 = .ok (.ireturn, 1) := by decide +kernel
theorem dX9_want_0 : decode cX9_want 0 = .ok (.aload_n 0, 1) := by decide +kernel
theorem dX9_want_1 : decode cX9_want 1 = .ok (.getfield 12, 3) := by decide +kernel
theorem dX9_want_4 : decode cX9_want 4 = .ok (.iload_n 2, 1) := by decide +kernel
theorem dX9_want_5 : decode cX9_want 5 = .ok (.iload_n 3, 1) := by decide +kernel
theorem dX9_want_6 : decode cX9_want 6 = .ok (.invokevirtual 108, 3) := by decide +kernel
theorem dX9_want_9 : decode cX9_want 9 = .ok (.istore 5, 2) := by decide +kernel
theorem dX9_want_11 : decode cX9_want 11 = .ok (.iload_n 1, 1) := by decide +kernel
theorem dX9_want_12 : decode cX9_want 12 = .ok (.invokestatic 112, 3) := by decide +kernel
theorem dX9_want_15 : decode cX9_want 15 = .ok (.ifCond .eq 22, 3) := by decide +kernel
theorem dX9_want_18 : decode cX9_want 18 = .ok (.iload 5, 2) := by decide +kernel
theorem dX9_want_20 : decode cX9_want 20 = .ok (.iconst (-1), 1) := by decide +kernel
theorem dX9_want_21 : decode cX9_want 21 = .ok (.if_icmp .eq 16, 3) := by decide +kernel
theorem dX9_want_24 : decode cX9_want 24 = .ok (.iload 4, 2) := by decide +kernel
theorem dX9_want_26 : decode cX9_want 26 = .ok (.ifCond .lt 11, 3) := by decide +kernel
theorem dX9_want_29 : decode cX9_want 29 = .ok (.iload 4, 2) := by decide +kernel
theorem dX9_want_31 : decode cX9_want 31 = .ok (.sipush 999, 3) := by decide +kernel
theorem dX9_want_34 : decode cX9_want 34 = .ok (.if_icmp .le 5, 3) := by decide +kernel
theorem dX9_want_37 : decode cX9_want 37 = .ok (.iconst 0, 1) := by decide +kernel
theorem dX9_want_38 : decode cX9_want 38 = .ok (.ireturn, 1) := by decide +kernel
theorem dX9_want_39 : decode cX9_want 39 = .ok (.aload_n 0, 1) := by decide +kernel
theorem dX9_want_40 : decode cX9_want 40 = .ok (.getfield 12, 3) := by decide +kernel
theorem dX9_want_43 : decode cX9_want 43 = .ok (.getfield 116, 3) := by decide +kernel
theorem dX9_want_46 : decode cX9_want 46 = .ok (.iload_n 1, 1) := by decide +kernel
theorem dX9_want_47 : decode cX9_want 47 = .ok (.bipush 64, 2) := by decide +kernel
theorem dX9_want_49 : decode cX9_want 49 = .ok (.imul, 1) := by decide +kernel
theorem dX9_want_50 : decode cX9_want 50 = .ok (.iload 5, 2) := by decide +kernel
theorem dX9_want_52 : decode cX9_want 52 = .ok (.iadd, 1) := by decide +kernel
theorem dX9_want_53 : decode cX9_want 53 = .ok (.iload 4, 2) := by decide +kernel
theorem dX9_want_55 : decode cX9_want 55 = .ok (.iastore, 1) := by decide +kernel
theorem dX9_want_56 : decode cX9_want 56 = .ok (.iconst 1, 1) := by decide +kernel
theorem dX9_want_57 : decode cX9_want 57 = .ok (.ireturn, 1) := by decide +kernel
theorem dX9_weight_0 : decode cX9_weight 0 = .ok (.aload_n 0, 1) := by decide +kernel
theorem dX9_weight_1 : decode cX9_weight 1 = .ok (.getfield 12, 3) := by decide +kernel
theorem dX9_weight_4 : decode cX9_weight 4 = .ok (.iload_n 1, 1) := by decide +kernel
theorem dX9_weight_5 : decode cX9_weight 5 = .ok (.iload_n 2, 1) := by decide +kernel
theorem dX9_weight_6 : decode cX9_weight 6 = .ok (.invokevirtual 108, 3) := by decide +kernel
theorem dX9_weight_9 : decode cX9_weight 9 = .ok (.istore 4, 2) := by decide +kernel
theorem dX9_weight_11 : decode cX9_weight 11 = .ok (.iload 4, 2) := by decide +kernel
theorem dX9_weight_13 : decode cX9_weight 13 = .ok (.iconst (-1), 1) := by decide +kernel
theorem dX9_weight_14 : decode cX9_weight 14 = .ok (.if_icmp .eq 13, 3) := by decide +kernel
theorem dX9_weight_17 : decode cX9_weight 17 = .ok (.iload_n 3, 1) := by decide +kernel
theorem dX9_weight_18 : decode cX9_weight 18 = .ok (.ifCond .lt 9, 3) := by decide +kernel
theorem dX9_weight_21 : decode cX9_weight 21 = .ok (.iload_n 3, 1) := by decide +kernel
theorem dX9_weight_22 : decode cX9_weight 22 = .ok (.bipush 9, 2) := by decide +kernel
theorem dX9_weight_24 : decode cX9_weight 24 = .ok (.if_icmp .le 5, 3) := by decide +kernel
theorem dX9_weight_27 : decode cX9_weight 27 = .ok (.iconst 0, 1) := by decide +kernel
theorem dX9_weight_28 : decode cX9_weight 28 = .ok (.ireturn, 1) := by decide +kernel
theorem dX9_weight_29 : decode cX9_weight 29 = .ok (.aload_n 0, 1) := by decide +kernel
theorem dX9_weight_30 : decode cX9_weight 30 = .ok (.getfield 12, 3) := by decide +kernel
theorem dX9_weight_33 : decode cX9_weight 33 = .ok (.getfield 119, 3) := by decide +kernel
theorem dX9_weight_36 : decode cX9_weight 36 = .ok (.iload 4, 2) := by decide +kernel
theorem dX9_weight_38 : decode cX9_weight 38 = .ok (.iload_n 3, 1) := by decide +kernel
theorem dX9_weight_39 : decode cX9_weight 39 = .ok (.iastore, 1) := by decide +kernel
theorem dX9_weight_40 : decode cX9_weight 40 = .ok (.iconst 1, 1) := by decide +kernel
theorem dX9_weight_41 : decode cX9_weight 41 = .ok (.ireturn, 1) := by decide +kernel
theorem dX9_shade_0 : decode cX9_shade 0 = .ok (.iload_n 1, 1) := by decide +kernel
theorem dX9_shade_1 : decode cX9_shade 1 = .ok (.invokestatic 122, 3) := by decide +kernel
theorem dX9_shade_4 : decode cX9_shade 4 = .ok (.ifCond .eq 13, 3) := by decide +kernel
theorem dX9_shade_7 : decode cX9_shade 7 = .ok (.iload_n 2, 1) := by decide +kernel
theorem dX9_shade_8 : decode cX9_shade 8 = .ok (.ifCond .lt 9, 3) := by decide +kernel
theorem dX9_shade_11 : decode cX9_shade 11 = .ok (.iload_n 2, 1) := by decide +kernel
theorem dX9_shade_12 : decode cX9_shade 12 = .ok (.bipush 9, 2) := by decide +kernel
theorem dX9_shade_14 : decode cX9_shade 14 = .ok (.if_icmp .le 5, 3) := by decide +kernel
theorem dX9_shade_17 : decode cX9_shade 17 = .ok (.iconst 0, 1) := by decide +kernel
theorem dX9_shade_18 : decode cX9_shade 18 = .ok (.ireturn, 1) := by decide +kernel
theorem dX9_shade_19 : decode cX9_shade 19 = .ok (.aload_n 0, 1) := by decide +kernel
theorem dX9_shade_20 : decode cX9_shade 20 = .ok (.getfield 12, 3) := by decide +kernel
theorem dX9_shade_23 : decode cX9_shade 23 = .ok (.getfield 125, 3) := by decide +kernel
theorem dX9_shade_26 : decode cX9_shade 26 = .ok (.iload_n 1, 1) := by decide +kernel
theorem dX9_shade_27 : decode cX9_shade 27 = .ok (.iload_n 2, 1) := by decide +kernel
theorem dX9_shade_28 : decode cX9_shade 28 = .ok (.iastore, 1) := by decide +kernel
theorem dX9_shade_29 : decode cX9_shade 29 = .ok (.aload_n 0, 1) := by decide +kernel
theorem dX9_shade_30 : decode cX9_shade 30 = .ok (.getfield 24, 3) := by decide +kernel
theorem dX9_shade_33 : decode cX9_shade 33 = .ok (.invokevirtual 128, 3) := by decide +kernel
theorem dX9_shade_36 : decode cX9_shade 36 = .ok (.aload_n 0, 1) := by decide +kernel
theorem dX9_shade_37 : decode cX9_shade 37 = .ok (.iconst 0, 1) := by decide +kernel
theorem dX9_shade_38 : decode cX9_shade 38 = .ok (.putfield 89, 3) := by decide +kernel
theorem dX9_shade_41 : decode cX9_shade 41 = .ok (.iconst 1, 1) := by decide +kernel
theorem dX9_shade_42 : decode cX9_shade 42 = .ok (.ireturn, 1) := by decide +kernel
theorem dX9_winding_0 : decode cX9_winding 0 = .ok (.iload_n 1, 1) := by decide +kernel
theorem dX9_winding_1 : decode cX9_winding 1 = .ok (.invokestatic 122, 3) := by decide +kernel
theorem dX9_winding_4 : decode cX9_winding 4 = .ok (.ifCond .eq 37, 3) := by decide +kernel
theorem dX9_winding_7 : decode cX9_winding 7 = .ok (.aload_n 0, 1) := by decide +kernel
theorem dX9_winding_8 : decode cX9_winding 8 = .ok (.getfield 12, 3) := by decide +kernel
theorem dX9_winding_11 : decode cX9_winding 11 = .ok (.iload_n 2, 1) := by decide +kernel
theorem dX9_winding_12 : decode cX9_winding 12 = .ok (.invokevirtual 131, 3) := by decide +kernel
theorem dX9_winding_15 : decode cX9_winding 15 = .ok (.ifCond .eq 26, 3) := by decide +kernel
theorem dX9_winding_18 : decode cX9_winding 18 = .ok (.aload_n 0, 1) := by decide +kernel
theorem dX9_winding_19 : decode cX9_winding 19 = .ok (.getfield 12, 3) := by decide +kernel
theorem dX9_winding_22 : decode cX9_winding 22 = .ok (.iload_n 1, 1) := by decide +kernel
theorem dX9_winding_23 : decode cX9_winding 23 = .ok (.invokevirtual 134, 3) := by decide +kernel
theorem dX9_winding_26 : decode cX9_winding 26 = .ok (.ifCond .ne 15, 3) := by decide +kernel
theorem dX9_winding_29 : decode cX9_winding 29 = .ok (.aload_n 0, 1) := by decide +kernel
theorem dX9_winding_30 : decode cX9_winding 30 = .ok (.getfield 12, 3) := by decide +kernel
theorem dX9_winding_33 : decode cX9_winding 33 = .ok (.iload_n 1, 1) := by decide +kernel
theorem dX9_winding_34 : decode cX9_winding 34 = .ok (.invokevirtual 137, 3) := by decide +kernel
theorem dX9_winding_37 : decode cX9_winding 37 = .ok (.iload_n 2, 1) := by decide +kernel
theorem dX9_winding_38 : decode cX9_winding 38 = .ok (.if_icmp .ne 5, 3) := by decide +kernel
theorem dX9_winding_41 : decode cX9_winding 41 = .ok (.iconst (-1), 1) := by decide +kernel
theorem dX9_winding_42 : decode cX9_winding 42 = .ok (.ireturn, 1) := by decide +kernel
theorem dX9_winding_43 : decode cX9_winding 43 = .ok (.aload_n 0, 1) := by decide +kernel
theorem dX9_winding_44 : decode cX9_winding 44 = .ok (.getfield 24, 3) := by decide +kernel
theorem dX9_winding_47 : decode cX9_winding 47 = .ok (.iload_n 1, 1) := by decide +kernel
theorem dX9_winding_48 : decode cX9_winding 48 = .ok (.iload_n 2, 1) := by decide +kernel
theorem dX9_winding_49 : decode cX9_winding 49 = .ok (.invokevirtual 141, 3) := by decide +kernel
theorem dX9_winding_52 : decode cX9_winding 52 = .ok (.ifCond .ne 6, 3) := by decide +kernel
theorem dX9_winding_55 : decode cX9_winding 55 = .ok (.bipush (-2), 2) := by decide +kernel
theorem dX9_winding_57 : decode cX9_winding 57 = .ok (.ireturn, 1) := by decide +kernel
theorem dX9_winding_58 : decode cX9_winding 58 = .ok (.aload_n 0, 1) := by decide +kernel
theorem dX9_winding_59 : decode cX9_winding 59 = .ok (.getfield 24, 3) := by decide +kernel
theorem dX9_winding_62 : decode cX9_winding 62 = .ok (.iload_n 1, 1) := by decide +kernel
theorem dX9_winding_63 : decode cX9_winding 63 = .ok (.iload_n 2, 1) := by decide +kernel
theorem dX9_winding_64 : decode cX9_winding 64 = .ok (.invokevirtual 144, 3) := by decide +kernel
theorem dX9_winding_67 : decode cX9_winding 67 = .ok (.aload_n 0, 1) := by decide +kernel
theorem dX9_winding_68 : decode cX9_winding 68 = .ok (.iload_n 1, 1) := by decide +kernel
theorem dX9_winding_69 : decode cX9_winding 69 = .ok (.invokevirtual 148, 3) := by decide +kernel
theorem dX9_winding_72 : decode cX9_winding 72 = .ok (.aload_n 0, 1) := by decide +kernel
theorem dX9_winding_73 : decode cX9_winding 73 = .ok (.getfield 12, 3) := by decide +kernel
theorem dX9_winding_76 : decode cX9_winding 76 = .ok (.getfield 151, 3) := by decide +kernel
theorem dX9_winding_79 : decode cX9_winding 79 = .ok (.iload_n 1, 1) := by decide +kernel
theorem dX9_winding_80 : decode cX9_winding 80 = .ok (.iaload, 1) := by decide +kernel
theorem dX9_winding_81 : decode cX9_winding 81 = .ok (.ireturn, 1) := by decide +kernel
theorem dX9_rub_0 : decode cX9_rub 0 = .ok (.iload_n 1, 1) := by decide +kernel
theorem dX9_rub_1 : decode cX9_rub 1 = .ok (.invokestatic 122, 3) := by decide +kernel
theorem dX9_rub_4 : decode cX9_rub 4 = .ok (.ifCond .eq 20, 3) := by decide +kernel
theorem dX9_rub_7 : decode cX9_rub 7 = .ok (.iload_n 2, 1) := by decide +kernel
theorem dX9_rub_8 : decode cX9_rub 8 = .ok (.ifCond .lt 16, 3) := by decide +kernel
theorem dX9_rub_11 : decode cX9_rub 11 = .ok (.iload_n 2, 1) := by decide +kernel
theorem dX9_rub_12 : decode cX9_rub 12 = .ok (.aload_n 0, 1) := by decide +kernel
theorem dX9_rub_13 : decode cX9_rub 13 = .ok (.getfield 12, 3) := by decide +kernel
theorem dX9_rub_16 : decode cX9_rub 16 = .ok (.getfield 151, 3) := by decide +kernel
theorem dX9_rub_19 : decode cX9_rub 19 = .ok (.iload_n 1, 1) := by decide +kernel
theorem dX9_rub_20 : decode cX9_rub 20 = .ok (.iaload, 1) := by decide +kernel
theorem dX9_rub_21 : decode cX9_rub 21 = .ok (.if_icmp .le 5, 3) := by decide +kernel
theorem dX9_rub_24 : decode cX9_rub 24 = .ok (.iconst (-1), 1) := by decide +kernel
theorem dX9_rub_25 : decode cX9_rub 25 = .ok (.ireturn, 1) := by decide +kernel
theorem dX9_rub_26 : decode cX9_rub 26 = .ok (.iconst 0, 1) := by decide +kernel
theorem dX9_rub_27 : decode cX9_rub 27 = .ok (.istore_n 3, 1) := by decide +kernel
theorem dX9_rub_28 : decode cX9_rub 28 = .ok (.iload_n 3, 1) := by decide +kernel
theorem dX9_rub_29 : decode cX9_rub 29 = .ok (.iload_n 2, 1) := by decide +kernel
theorem dX9_rub_30 : decode cX9_rub 30 = .ok (.if_icmp .ge 17, 3) := by decide +kernel
theorem dX9_rub_33 : decode cX9_rub 33 = .ok (.aload_n 0, 1) := by decide +kernel
theorem dX9_rub_34 : decode cX9_rub 34 = .ok (.getfield 24, 3) := by decide +kernel
theorem dX9_rub_37 : decode cX9_rub 37 = .ok (.iload_n 1, 1) := by decide +kernel
theorem dX9_rub_38 : decode cX9_rub 38 = .ok (.invokevirtual 154, 3) := by decide +kernel
theorem dX9_rub_41 : decode cX9_rub 41 = .ok (.iinc 3 1, 3) := by decide +kernel
theorem dX9_rub_44 : decode cX9_rub 44 = .ok (.goto (-16), 3) := by decide +kernel
theorem dX9_rub_47 : decode cX9_rub 47 = .ok (.aload_n 0, 1) := by decide +kernel
theorem dX9_rub_48 : decode cX9_rub 48 = .ok (.iconst 0, 1) := by decide +kernel
theorem dX9_rub_49 : decode cX9_rub 49 = .ok (.putfield 89, 3) := by decide +kernel
theorem dX9_rub_52 : decode cX9_rub 52 = .ok (.aload_n 0, 1) := by decide +kernel
theorem dX9_rub_53 : decode cX9_rub 53 = .ok (.getfield 12, 3) := by decide +kernel
theorem dX9_rub_56 : decode cX9_rub 56 = .ok (.getfield 151, 3) := by decide +kernel
theorem dX9_rub_59 : decode cX9_rub 59 = .ok (.iload_n 1, 1) := by decide +kernel
theorem dX9_rub_60 : decode cX9_rub 60 = .ok (.iaload, 1) := by decide +kernel
theorem dX9_rub_61 : decode cX9_rub 61 = .ok (.ireturn, 1) := by decide +kernel
theorem dX9_feed_0 : decode cX9_feed 0 = .ok (.aload_n 0, 1) := by decide +kernel
theorem dX9_feed_1 : decode cX9_feed 1 = .ok (.getfield 157, 3) := by decide +kernel
theorem dX9_feed_4 : decode cX9_feed 4 = .ok (.bipush 20, 2) := by decide +kernel
theorem dX9_feed_6 : decode cX9_feed 6 = .ok (.iadd, 1) := by decide +kernel
theorem dX9_feed_7 : decode cX9_feed 7 = .ok (.sipush 400, 3) := by decide +kernel
theorem dX9_feed_10 : decode cX9_feed 10 = .ok (.if_icmp .le 5, 3) := by decide +kernel
theorem dX9_feed_13 : decode cX9_feed 13 = .ok (.iconst (-1), 1) := by decide +kernel
theorem dX9_feed_14 : decode cX9_feed 14 = .ok (.ireturn, 1) := by decide +kernel
theorem dX9_feed_15 : decode cX9_feed 15 = .ok (.aload_n 0, 1) := by decide +kernel
theorem dX9_feed_16 : decode cX9_feed 16 = .ok (.iload_n 1, 1) := by decide +kernel
theorem dX9_feed_17 : decode cX9_feed 17 = .ok (.invokevirtual 160, 3) := by decide +kernel
theorem dX9_feed_20 : decode cX9_feed 20 = .ok (.aload_n 0, 1) := by decide +kernel
theorem dX9_feed_21 : decode cX9_feed 21 = .ok (.iload_n 2, 1) := by decide +kernel
theorem dX9_feed_22 : decode cX9_feed 22 = .ok (.invokevirtual 160, 3) := by decide +kernel
theorem dX9_feed_25 : decode cX9_feed 25 = .ok (.aload_n 0, 1) := by decide +kernel
theorem dX9_feed_26 : decode cX9_feed 26 = .ok (.iload_n 3, 1) := by decide +kernel
theorem dX9_feed_27 : decode cX9_feed 27 = .ok (.invokevirtual 160, 3) := by decide +kernel
theorem dX9_feed_30 : decode cX9_feed 30 = .ok (.aload_n 0, 1) := by decide +kernel
theorem dX9_feed_31 : decode cX9_feed 31 = .ok (.iload 4, 2) := by decide +kernel
theorem dX9_feed_33 : decode cX9_feed 33 = .ok (.invokevirtual 160, 3) := by decide +kernel
theorem dX9_feed_36 : decode cX9_feed 36 = .ok (.aload_n 0, 1) := by decide +kernel
theorem dX9_feed_37 : decode cX9_feed 37 = .ok (.iload 5, 2) := by decide +kernel
theorem dX9_feed_39 : decode cX9_feed 39 = .ok (.invokevirtual 160, 3) := by decide +kernel
theorem dX9_feed_42 : decode cX9_feed 42 = .ok (.aload_n 0, 1) := by decide +kernel
theorem dX9_feed_43 : decode cX9_feed 43 = .ok (.getfield 157, 3) := by decide +kernel
theorem dX9_feed_46 : decode cX9_feed 46 = .ok (.ireturn, 1) := by decide +kernel
theorem dX9_end_0 : decode cX9_end 0 = .ok (.iload_n 1, 1) := by decide +kernel
theorem dX9_end_1 : decode cX9_end 1 = .ok (.ifCond .lt 11, 3) := by decide +kernel
theorem dX9_end_4 : decode cX9_end 4 = .ok (.iload_n 1, 1) := by decide +kernel
theorem dX9_end_5 : decode cX9_end 5 = .ok (.aload_n 0, 1) := by decide +kernel
theorem dX9_end_6 : decode cX9_end 6 = .ok (.getfield 157, 3) := by decide +kernel
theorem dX9_end_9 : decode cX9_end 9 = .ok (.if_icmp .le 5, 3) := by decide +kernel
theorem dX9_end_12 : decode cX9_end 12 = .ok (.iconst 0, 1) := by decide +kernel
theorem dX9_end_13 : decode cX9_end 13 = .ok (.ireturn, 1) := by decide +kernel
theorem dX9_end_14 : decode cX9_end 14 = .ok (.aload_n 0, 1) := by decide +kernel
theorem dX9_end_15 : decode cX9_end 15 = .ok (.iload_n 1, 1) := by decide +kernel
theorem dX9_end_16 : decode cX9_end 16 = .ok (.putfield 157, 3) := by decide +kernel
theorem dX9_end_19 : decode cX9_end 19 = .ok (.iconst 1, 1) := by decide +kernel
theorem dX9_end_20 : decode cX9_end 20 = .ok (.ireturn, 1) := by decide +kernel
theorem dX9_text_0 : decode cX9_text 0 = .ok (.aload_n 0, 1) := by decide +kernel
theorem dX9_text_1 : decode cX9_text 1 = .ok (.getfield 67, 3) := by decide +kernel
theorem dX9_text_4 : decode cX9_text 4 = .ok (.aload_n 0, 1) := by decide +kernel
theorem dX9_text_5 : decode cX9_text 5 = .ok (.getfield 71, 3) := by decide +kernel
theorem dX9_text_8 : decode cX9_text 8 = .ok (.aload_n 0, 1) := by decide +kernel
theorem dX9_text_9 : decode cX9_text 9 = .ok (.getfield 157, 3) := by decide +kernel
theorem dX9_text_12 : decode cX9_text 12 = .ok (.invokevirtual 163, 3) := by decide +kernel
theorem dX9_text_15 : decode cX9_text 15 = .ok (.aload_n 0, 1) := by decide +kernel
theorem dX9_text_16 : decode cX9_text 16 = .ok (.iconst 0, 1) := by decide +kernel
theorem dX9_text_17 : decode cX9_text 17 = .ok (.putfield 157, 3) := by decide +kernel
theorem dX9_text_20 : decode cX9_text 20 = .ok (.aload_n 0, 1) := by decide +kernel
theorem dX9_text_21 : decode cX9_text 21 = .ok (.aload_n 0, 1) := by decide +kernel
theorem dX9_text_22 : decode cX9_text 22 = .ok (.getfield 67, 3) := by decide +kernel
theorem dX9_text_25 : decode cX9_text 25 = .ok (.getfield 167, 3) := by decide +kernel
theorem dX9_text_28 : decode cX9_text 28 = .ok (.putfield 170, 3) := by decide +kernel
theorem dX9_text_31 : decode cX9_text 31 = .ok (.aload_n 0, 1) := by decide +kernel
theorem dX9_text_32 : decode cX9_text 32 = .ok (.aload_n 0, 1) := by decide +kernel
theorem dX9_text_33 : decode cX9_text 33 = .ok (.getfield 67, 3) := by decide +kernel
theorem dX9_text_36 : decode cX9_text 36 = .ok (.getfield 173, 3) := by decide +kernel
theorem dX9_text_39 : decode cX9_text 39 = .ok (.putfield 75, 3) := by decide +kernel
theorem dX9_text_42 : decode cX9_text 42 = .ok (.aload_n 0, 1) := by decide +kernel
theorem dX9_text_43 : decode cX9_text 43 = .ok (.getfield 170, 3) := by decide +kernel
theorem dX9_text_46 : decode cX9_text 46 = .ok (.ifCond .eq 5, 3) := by decide +kernel
theorem dX9_text_49 : decode cX9_text 49 = .ok (.iconst (-1), 1) := by decide +kernel
theorem dX9_text_50 : decode cX9_text 50 = .ok (.ireturn, 1) := by decide +kernel
theorem dX9_text_51 : decode cX9_text 51 = .ok (.aload_n 0, 1) := by decide +kernel
theorem dX9_text_52 : decode cX9_text 52 = .ok (.getfield 12, 3) := by decide +kernel
theorem dX9_text_55 : decode cX9_text 55 = .ok (.getfield 176, 3) := by decide +kernel
theorem dX9_text_58 : decode cX9_text 58 = .ok (.aload_n 0, 1) := by decide +kernel
theorem dX9_text_59 : decode cX9_text 59 = .ok (.getfield 67, 3) := by decide +kernel
theorem dX9_text_62 : decode cX9_text 62 = .ok (.getfield 180, 3) := by decide +kernel
theorem dX9_text_65 : decode cX9_text 65 = .ok (.invokevirtual 183, 3) := by decide +kernel
theorem dX9_text_68 : decode cX9_text 68 = .ok (.aload_n 0, 1) := by decide +kernel
theorem dX9_text_69 : decode cX9_text 69 = .ok (.getfield 12, 3) := by decide +kernel
theorem dX9_text_72 : decode cX9_text 72 = .ok (.getfield 176, 3) := by decide +kernel
theorem dX9_text_75 : decode cX9_text 75 = .ok (.getfield 189, 3) := by decide +kernel
theorem dX9_text_78 : decode cX9_text 78 = .ok (.ireturn, 1) := by decide +kernel
theorem dX9_fault_0 : decode cX9_fault 0 = .ok (.iload_n 1, 1) := by decide +kernel
theorem dX9_fault_1 : decode cX9_fault 1 = .ok (.lookupswitch 37 #[(0, 27), (1, 32)], 27) := by decide +kernel
theorem dX9_fault_28 : decode cX9_fault 28 = .ok (.aload_n 0, 1) := by decide +kernel
theorem dX9_fault_29 : decode cX9_fault 29 = .ok (.getfield 170, 3) := by decide +kernel
theorem dX9_fault_32 : decode cX9_fault 32 = .ok (.ireturn, 1) := by decide +kernel
theorem dX9_fault_33 : decode cX9_fault 33 = .ok (.aload_n 0, 1) := by decide +kernel
theorem dX9_fault_34 : decode cX9_fault 34 = .ok (.getfield 75, 3) := by decide +kernel
theorem dX9_fault_37 : decode cX9_fault 37 = .ok (.ireturn, 1) := by decide +kernel
theorem dX9_fault_38 : decode cX9_fault 38 = .ok (.iconst (-1), 1) := by decide +kernel
theorem dX9_fault_39 : decode cX9_fault 39 = .ok (.ireturn, 1) := by decide +kernel
theorem dX9_wound_0 : decode cX9_wound 0 = .ok (.iload_n 1, 1) := by decide +kernel
theorem dX9_wound_1 : decode cX9_wound 1 = .ok (.invokestatic 122, 3) := by decide +kernel
theorem dX9_wound_4 : decode cX9_wound 4 = .ok (.ifCond .ne 5, 3) := by decide +kernel
theorem dX9_wound_7 : decode cX9_wound 7 = .ok (.iconst (-1), 1) := by decide +kernel
theorem dX9_wound_8 : decode cX9_wound 8 = .ok (.ireturn, 1) := by decide +kernel
theorem dX9_wound_9 : decode cX9_wound 9 = .ok (.iload_n 2, 1) := by decide +kernel
theorem dX9_wound_10 : decode cX9_wound 10 = .ok (.iconst (-1), 1) := by decide +kernel
theorem dX9_wound_11 : decode cX9_wound 11 = .ok (.if_icmp .ne 13, 3) := by decide +kernel
theorem dX9_wound_14 : decode cX9_wound 14 = .ok (.aload_n 0, 1) := by decide +kernel
theorem dX9_wound_15 : decode cX9_wound 15 = .ok (.getfield 12, 3) := by decide +kernel
theorem dX9_wound_18 : decode cX9_wound 18 = .ok (.getfield 151, 3) := by decide +kernel
theorem dX9_wound_21 : decode cX9_wound 21 = .ok (.iload_n 1, 1) := by decide +kernel
theorem dX9_wound_22 : decode cX9_wound 22 = .ok (.iaload, 1) := by decide +kernel
theorem dX9_wound_23 : decode cX9_wound 23 = .ok (.ireturn, 1) := by decide +kernel
theorem dX9_wound_24 : decode cX9_wound 24 = .ok (.iload_n 2, 1) := by decide +kernel
theorem dX9_wound_25 : decode cX9_wound 25 = .ok (.ifCond .lt 33, 3) := by decide +kernel
theorem dX9_wound_28 : decode cX9_wound 28 = .ok (.iload_n 2, 1) := by decide +kernel
theorem dX9_wound_29 : decode cX9_wound 29 = .ok (.aload_n 0, 1) := by decide +kernel
theorem dX9_wound_30 : decode cX9_wound 30 = .ok (.getfield 12, 3) := by decide +kernel
theorem dX9_wound_33 : decode cX9_wound 33 = .ok (.getfield 151, 3) := by decide +kernel
theorem dX9_wound_36 : decode cX9_wound 36 = .ok (.iload_n 1, 1) := by decide +kernel
theorem dX9_wound_37 : decode cX9_wound 37 = .ok (.iaload, 1) := by decide +kernel
theorem dX9_wound_38 : decode cX9_wound 38 = .ok (.if_icmp .ge 20, 3) := by decide +kernel
theorem dX9_wound_41 : decode cX9_wound 41 = .ok (.aload_n 0, 1) := by decide +kernel
theorem dX9_wound_42 : decode cX9_wound 42 = .ok (.getfield 12, 3) := by decide +kernel
theorem dX9_wound_45 : decode cX9_wound 45 = .ok (.getfield 192, 3) := by decide +kernel
theorem dX9_wound_48 : decode cX9_wound 48 = .ok (.iload_n 1, 1) := by decide +kernel
theorem dX9_wound_49 : decode cX9_wound 49 = .ok (.bipush 120, 2) := by decide +kernel
theorem dX9_wound_51 : decode cX9_wound 51 = .ok (.imul, 1) := by decide +kernel
theorem dX9_wound_52 : decode cX9_wound 52 = .ok (.iload_n 2, 1) := by decide +kernel
theorem dX9_wound_53 : decode cX9_wound 53 = .ok (.iadd, 1) := by decide +kernel
theorem dX9_wound_54 : decode cX9_wound 54 = .ok (.iaload, 1) := by decide +kernel
theorem dX9_wound_55 : decode cX9_wound 55 = .ok (.goto 4, 3) := by decide +kernel
theorem dX9_wound_58 : decode cX9_wound 58 = .ok (.iconst (-1), 1) := by decide +kernel
theorem dX9_wound_59 : decode cX9_wound 59 = .ok (.ireturn, 1) := by decide +kernel
theorem dX9_dark_0 : decode cX9_dark 0 = .ok (.aload_n 0, 1) := by decide +kernel
theorem dX9_dark_1 : decode cX9_dark 1 = .ok (.getfield 12, 3) := by decide +kernel
theorem dX9_dark_4 : decode cX9_dark 4 = .ok (.iload_n 1, 1) := by decide +kernel
theorem dX9_dark_5 : decode cX9_dark 5 = .ok (.iload_n 2, 1) := by decide +kernel
theorem dX9_dark_6 : decode cX9_dark 6 = .ok (.invokevirtual 108, 3) := by decide +kernel
theorem dX9_dark_9 : decode cX9_dark 9 = .ok (.istore_n 3, 1) := by decide +kernel
theorem dX9_dark_10 : decode cX9_dark 10 = .ok (.iload_n 3, 1) := by decide +kernel
theorem dX9_dark_11 : decode cX9_dark 11 = .ok (.iconst (-1), 1) := by decide +kernel
theorem dX9_dark_12 : decode cX9_dark 12 = .ok (.if_icmp .ne 7, 3) := by decide +kernel
theorem dX9_dark_15 : decode cX9_dark 15 = .ok (.iconst (-1), 1) := by decide +kernel
theorem dX9_dark_16 : decode cX9_dark 16 = .ok (.goto 12, 3) := by decide +kernel
theorem dX9_dark_19 : decode cX9_dark 19 = .ok (.aload_n 0, 1) := by decide +kernel
theorem dX9_dark_20 : decode cX9_dark 20 = .ok (.getfield 24, 3) := by decide +kernel
theorem dX9_dark_23 : decode cX9_dark 23 = .ok (.getfield 195, 3) := by decide +kernel
theorem dX9_dark_26 : decode cX9_dark 26 = .ok (.iload_n 3, 1) := by decide +kernel
theorem dX9_dark_27 : decode cX9_dark 27 = .ok (.iaload, 1) := by decide +kernel
theorem dX9_dark_28 : decode cX9_dark 28 = .ok (.ireturn, 1) := by decide +kernel
theorem dX9_samples_0 : decode cX9_samples 0 = .ok (.aload_n 0, 1) := by decide +kernel
theorem dX9_samples_1 : decode cX9_samples 1 = .ok (.getfield 12, 3) := by decide +kernel
theorem dX9_samples_4 : decode cX9_samples 4 = .ok (.iload_n 3, 1) := by decide +kernel
theorem dX9_samples_5 : decode cX9_samples 5 = .ok (.iload 4, 2) := by decide +kernel
theorem dX9_samples_7 : decode cX9_samples 7 = .ok (.invokevirtual 108, 3) := by decide +kernel
theorem dX9_samples_10 : decode cX9_samples 10 = .ok (.istore 5, 2) := by decide +kernel
theorem dX9_samples_12 : decode cX9_samples 12 = .ok (.aload_n 0, 1) := by decide +kernel
theorem dX9_samples_13 : decode cX9_samples 13 = .ok (.getfield 12, 3) := by decide +kernel
theorem dX9_samples_16 : decode cX9_samples 16 = .ok (.iload_n 1, 1) := by decide +kernel
theorem dX9_samples_17 : decode cX9_samples 17 = .ok (.iload_n 2, 1) := by decide +kernel
theorem dX9_samples_18 : decode cX9_samples 18 = .ok (.invokevirtual 198, 3) := by decide +kernel
theorem dX9_samples_21 : decode cX9_samples 21 = .ok (.ifCond .eq 9, 3) := by decide +kernel
theorem dX9_samples_24 : decode cX9_samples 24 = .ok (.iload 5, 2) := by decide +kernel
theorem dX9_samples_26 : decode cX9_samples 26 = .ok (.iconst (-1), 1) := by decide +kernel
theorem dX9_samples_27 : decode cX9_samples 27 = .ok (.if_icmp .ne 5, 3) := by decide +kernel
theorem dX9_samples_30 : decode cX9_samples 30 = .ok (.iconst (-1), 1) := by decide +kernel
theorem dX9_samples_31 : decode cX9_samples 31 = .ok (.ireturn, 1) := by decide +kernel
theorem dX9_samples_32 : decode cX9_samples 32 = .ok (.aload_n 0, 1) := by decide +kernel
theorem dX9_samples_33 : decode cX9_samples 33 = .ok (.getfield 24, 3) := by decide +kernel
theorem dX9_samples_36 : decode cX9_samples 36 = .ok (.getfield 46, 3) := by decide +kernel
theorem dX9_samples_39 : decode cX9_samples 39 = .ok (.iload_n 1, 1) := by decide +kernel
theorem dX9_samples_40 : decode cX9_samples 40 = .ok (.iload_n 2, 1) := by decide +kernel
theorem dX9_samples_41 : decode cX9_samples 41 = .ok (.iload 5, 2) := by decide +kernel
theorem dX9_samples_43 : decode cX9_samples 43 = .ok (.invokevirtual 201, 3) := by decide +kernel
theorem dX9_samples_46 : decode cX9_samples 46 = .ok (.ireturn, 1) := by decide +kernel
theorem dX9_far_0 : decode cX9_far 0 = .ok (.iload_n 1, 1) := by decide +kernel
theorem dX9_far_1 : decode cX9_far 1 = .ok (.invokestatic 112, 3) := by decide +kernel
theorem dX9_far_4 : decode cX9_far 4 = .ok (.ifCond .eq 14, 3) := by decide +kernel
theorem dX9_far_7 : decode cX9_far 7 = .ok (.aload_n 0, 1) := by decide +kernel
theorem dX9_far_8 : decode cX9_far 8 = .ok (.getfield 24, 3) := by decide +kernel
theorem dX9_far_11 : decode cX9_far 11 = .ok (.iload_n 1, 1) := by decide +kernel
theorem dX9_far_12 : decode cX9_far 12 = .ok (.invokevirtual 207, 3) := by decide +kernel
theorem dX9_far_15 : decode cX9_far 15 = .ok (.goto 4, 3) := by decide +kernel
theorem dX9_far_18 : decode cX9_far 18 = .ok (.iconst (-1), 1) := by decide +kernel
theorem dX9_far_19 : decode cX9_far 19 = .ok (.ireturn, 1) := by decide +kernel
theorem dX9_next_0 : decode cX9_next 0 = .ok (.iload_n 1, 1) := by decide +kernel
theorem dX9_next_1 : decode cX9_next 1 = .ok (.invokestatic 122, 3) := by decide +kernel
theorem dX9_next_4 : decode cX9_next 4 = .ok (.ifCond .eq 19, 3) := by decide +kernel
theorem dX9_next_7 : decode cX9_next 7 = .ok (.iload_n 2, 1) := by decide +kernel
theorem dX9_next_8 : decode cX9_next 8 = .ok (.invokestatic 112, 3) := by decide +kernel
theorem dX9_next_11 : decode cX9_next 11 = .ok (.ifCond .eq 12, 3) := by decide +kernel
theorem dX9_next_14 : decode cX9_next 14 = .ok (.iload_n 3, 1) := by decide +kernel
theorem dX9_next_15 : decode cX9_next 15 = .ok (.ifCond .lt 8, 3) := by decide +kernel
theorem dX9_next_18 : decode cX9_next 18 = .ok (.iload_n 3, 1) := by decide +kernel
theorem dX9_next_19 : decode cX9_next 19 = .ok (.iconst 1, 1) := by decide +kernel
theorem dX9_next_20 : decode cX9_next 20 = .ok (.if_icmp .le 6, 3) := by decide +kernel
theorem dX9_next_23 : decode cX9_next 23 = .ok (.ldc 210, 2) := by decide +kernel
theorem dX9_next_25 : decode cX9_next 25 = .ok (.ireturn, 1) := by decide +kernel
theorem dX9_next_26 : decode cX9_next 26 = .ok (.aload_n 0, 1) := by decide +kernel
theorem dX9_next_27 : decode cX9_next 27 = .ok (.getfield 33, 3) := by decide +kernel
theorem dX9_next_30 : decode cX9_next 30 = .ok (.iload_n 1, 1) := by decide +kernel
theorem dX9_next_31 : decode cX9_next 31 = .ok (.iload_n 2, 1) := by decide +kernel
theorem dX9_next_32 : decode cX9_next 32 = .ok (.invokevirtual 211, 3) := by decide +kernel
theorem dX9_next_35 : decode cX9_next 35 = .ok (.iload_n 3, 1) := by decide +kernel
theorem dX9_next_36 : decode cX9_next 36 = .ok (.ifCond .ne 13, 3) := by decide +kernel
theorem dX9_next_39 : decode cX9_next 39 = .ok (.aload_n 0, 1) := by decide +kernel
theorem dX9_next_40 : decode cX9_next 40 = .ok (.getfield 33, 3) := by decide +kernel
theorem dX9_next_43 : decode cX9_next 43 = .ok (.getfield 214, 3) := by decide +kernel
theorem dX9_next_46 : decode cX9_next 46 = .ok (.goto 10, 3) := by decide +kernel
theorem dX9_next_49 : decode cX9_next 49 = .ok (.aload_n 0, 1) := by decide +kernel
theorem dX9_next_50 : decode cX9_next 50 = .ok (.getfield 33, 3) := by decide +kernel
theorem dX9_next_53 : decode cX9_next 53 = .ok (.getfield 217, 3) := by decide +kernel
theorem dX9_next_56 : decode cX9_next 56 = .ok (.ireturn, 1) := by decide +kernel
theorem dX9_greedy_0 : decode cX9_greedy 0 = .ok (.iload_n 1, 1) := by decide +kernel
theorem dX9_greedy_1 : decode cX9_greedy 1 = .ok (.invokestatic 122, 3) := by decide +kernel
theorem dX9_greedy_4 : decode cX9_greedy 4 = .ok (.ifCond .eq 21, 3) := by decide +kernel
theorem dX9_greedy_7 : decode cX9_greedy 7 = .ok (.iload_n 2, 1) := by decide +kernel
theorem dX9_greedy_8 : decode cX9_greedy 8 = .ok (.invokestatic 112, 3) := by decide +kernel
theorem dX9_greedy_11 : decode cX9_greedy 11 = .ok (.ifCond .eq 14, 3) := by decide +kernel
theorem dX9_greedy_14 : decode cX9_greedy 14 = .ok (.iload_n 3, 1) := by decide +kernel
theorem dX9_greedy_15 : decode cX9_greedy 15 = .ok (.iconst 1, 1) := by decide +kernel
theorem dX9_greedy_16 : decode cX9_greedy 16 = .ok (.if_icmp .lt 9, 3) := by decide +kernel
theorem dX9_greedy_19 : decode cX9_greedy 19 = .ok (.iload_n 3, 1) := by decide +kernel
theorem dX9_greedy_20 : decode cX9_greedy 20 = .ok (.bipush 40, 2) := by decide +kernel
theorem dX9_greedy_22 : decode cX9_greedy 22 = .ok (.if_icmp .le 5, 3) := by decide +kernel
theorem dX9_greedy_25 : decode cX9_greedy 25 = .ok (.iconst (-1), 1) := by decide +kernel
theorem dX9_greedy_26 : decode cX9_greedy 26 = .ok (.ireturn, 1) := by decide +kernel
theorem dX9_greedy_27 : decode cX9_greedy 27 = .ok (.iload 4, 2) := by decide +kernel
theorem dX9_greedy_29 : decode cX9_greedy 29 = .ok (.ifCond .lt 9, 3) := by decide +kernel
theorem dX9_greedy_32 : decode cX9_greedy 32 = .ok (.iload 4, 2) := by decide +kernel
theorem dX9_greedy_34 : decode cX9_greedy 34 = .ok (.iconst 2, 1) := by decide +kernel
theorem dX9_greedy_35 : decode cX9_greedy 35 = .ok (.if_icmp .le 5, 3) := by decide +kernel
theorem dX9_greedy_38 : decode cX9_greedy 38 = .ok (.iconst (-1), 1) := by decide +kernel
theorem dX9_greedy_39 : decode cX9_greedy 39 = .ok (.ireturn, 1) := by decide +kernel
theorem dX9_greedy_40 : decode cX9_greedy 40 = .ok (.aload_n 0, 1) := by decide +kernel
theorem dX9_greedy_41 : decode cX9_greedy 41 = .ok (.getfield 33, 3) := by decide +kernel
theorem dX9_greedy_44 : decode cX9_greedy 44 = .ok (.iload_n 1, 1) := by decide +kernel
theorem dX9_greedy_45 : decode cX9_greedy 45 = .ok (.iload_n 2, 1) := by decide +kernel
theorem dX9_greedy_46 : decode cX9_greedy 46 = .ok (.iload_n 3, 1) := by decide +kernel
theorem dX9_greedy_47 : decode cX9_greedy 47 = .ok (.iload 4, 2) := by decide +kernel
theorem dX9_greedy_49 : decode cX9_greedy 49 = .ok (.invokevirtual 220, 3) := by decide +kernel
theorem dX9_greedy_52 : decode cX9_greedy 52 = .ok (.ireturn, 1) := by decide +kernel
theorem dX9_worst_0 : decode cX9_worst 0 = .ok (.iload_n 1, 1) := by decide +kernel
theorem dX9_worst_1 : decode cX9_worst 1 = .ok (.invokestatic 112, 3) := by decide +kernel
theorem dX9_worst_4 : decode cX9_worst 4 = .ok (.ifCond .ne 5, 3) := by decide +kernel
theorem dX9_worst_7 : decode cX9_worst 7 = .ok (.iconst (-1), 1) := by decide +kernel
theorem dX9_worst_8 : decode cX9_worst 8 = .ok (.ireturn, 1) := by decide +kernel
theorem dX9_worst_9 : decode cX9_worst 9 = .ok (.aload_n 0, 1) := by decide +kernel
theorem dX9_worst_10 : decode cX9_worst 10 = .ok (.getfield 33, 3) := by decide +kernel
theorem dX9_worst_13 : decode cX9_worst 13 = .ok (.iload_n 1, 1) := by decide +kernel
theorem dX9_worst_14 : decode cX9_worst 14 = .ok (.invokevirtual 224, 3) := by decide +kernel
theorem dX9_worst_17 : decode cX9_worst 17 = .ok (.aload_n 0, 1) := by decide +kernel
theorem dX9_worst_18 : decode cX9_worst 18 = .ok (.getfield 33, 3) := by decide +kernel
theorem dX9_worst_21 : decode cX9_worst 21 = .ok (.getfield 227, 3) := by decide +kernel
theorem dX9_worst_24 : decode cX9_worst 24 = .ok (.iconst (-1), 1) := by decide +kernel
theorem dX9_worst_25 : decode cX9_worst 25 = .ok (.if_icmp .ne 5, 3) := by decide +kernel
theorem dX9_worst_28 : decode cX9_worst 28 = .ok (.iconst (-1), 1) := by decide +kernel
theorem dX9_worst_29 : decode cX9_worst 29 = .ok (.ireturn, 1) := by decide +kernel
theorem dX9_worst_30 : decode cX9_worst 30 = .ok (.iload_n 2, 1) := by decide +kernel
theorem dX9_worst_31 : decode cX9_worst 31 = .ok (.tableswitch 49 0 2 #[25, 33, 41], 25) := by decide +kernel
theorem dX9_worst_56 : decode cX9_worst 56 = .ok (.aload_n 0, 1) := by decide +kernel
theorem dX9_worst_57 : decode cX9_worst 57 = .ok (.getfield 33, 3) := by decide +kernel
theorem dX9_worst_60 : decode cX9_worst 60 = .ok (.getfield 227, 3) := by decide +kernel
theorem dX9_worst_63 : decode cX9_worst 63 = .ok (.ireturn, 1) := by decide +kernel
theorem dX9_worst_64 : decode cX9_worst 64 = .ok (.aload_n 0, 1) := by decide +kernel
theorem dX9_worst_65 : decode cX9_worst 65 = .ok (.getfield 33, 3) := by decide +kernel
theorem dX9_worst_68 : decode cX9_worst 68 = .ok (.getfield 230, 3) := by decide +kernel
theorem dX9_worst_71 : decode cX9_worst 71 = .ok (.ireturn, 1) := by decide +kernel
theorem dX9_worst_72 : decode cX9_worst 72 = .ok (.aload_n 0, 1) := by decide +kernel
theorem dX9_worst_73 : decode cX9_worst 73 = .ok (.getfield 33, 3) := by decide +kernel
theorem dX9_worst_76 : decode cX9_worst 76 = .ok (.getfield 217, 3) := by decide +kernel
theorem dX9_worst_79 : decode cX9_worst 79 = .ok (.ireturn, 1) := by decide +kernel
theorem dX9_worst_80 : decode cX9_worst 80 = .ok (.iconst (-1), 1) := by decide +kernel
theorem dX9_worst_81 : decode cX9_worst 81 = .ok (.ireturn, 1) := by decide +kernel
theorem dX9_line_0 : decode cX9_line 0 = .ok (.aload_n 0, 1) := by decide +kernel
theorem dX9_line_1 : decode cX9_line 1 = .ok (.getfield 12, 3) := by decide +kernel
theorem dX9_line_4 : decode cX9_line 4 = .ok (.iload_n 1, 1) := by decide +kernel
theorem dX9_line_5 : decode cX9_line 5 = .ok (.iload_n 2, 1) := by decide +kernel
theorem dX9_line_6 : decode cX9_line 6 = .ok (.invokevirtual 198, 3) := by decide +kernel
theorem dX9_line_9 : decode cX9_line 9 = .ok (.ifCond .eq 27, 3) := by decide +kernel
theorem dX9_line_12 : decode cX9_line 12 = .ok (.aload_n 0, 1) := by decide +kernel
theorem dX9_line_13 : decode cX9_line 13 = .ok (.getfield 12, 3) := by decide +kernel
theorem dX9_line_16 : decode cX9_line 16 = .ok (.getfield 233, 3) := by decide +kernel
theorem dX9_line_19 : decode cX9_line 19 = .ok (.bipush 20, 2) := by decide +kernel
theorem dX9_line_21 : decode cX9_line 21 = .ok (.if_icmp .ge 15, 3) := by decide +kernel
theorem dX9_line_24 : decode cX9_line 24 = .ok (.aload_n 0, 1) := by decide +kernel
theorem dX9_line_25 : decode cX9_line 25 = .ok (.getfield 12, 3) := by decide +kernel
theorem dX9_line_28 : decode cX9_line 28 = .ok (.iload_n 1, 1) := by decide +kernel
theorem dX9_line_29 : decode cX9_line 29 = .ok (.iload_n 2, 1) := by decide +kernel
theorem dX9_line_30 : decode cX9_line 30 = .ok (.invokevirtual 234, 3) := by decide +kernel
theorem dX9_line_33 : decode cX9_line 33 = .ok (.ifCond .eq 5, 3) := by decide +kernel
theorem dX9_line_36 : decode cX9_line 36 = .ok (.iconst (-1), 1) := by decide +kernel
theorem dX9_line_37 : decode cX9_line 37 = .ok (.ireturn, 1) := by decide +kernel
theorem dX9_line_38 : decode cX9_line 38 = .ok (.aload_n 0, 1) := by decide +kernel
theorem dX9_line_39 : decode cX9_line 39 = .ok (.getfield 12, 3) := by decide +kernel
theorem dX9_line_42 : decode cX9_line 42 = .ok (.getfield 233, 3) := by decide +kernel
theorem dX9_line_45 : decode cX9_line 45 = .ok (.istore_n 3, 1) := by decide +kernel
theorem dX9_line_46 : decode cX9_line 46 = .ok (.aload_n 0, 1) := by decide +kernel
theorem dX9_line_47 : decode cX9_line 47 = .ok (.getfield 12, 3) := by decide +kernel
theorem dX9_line_50 : decode cX9_line 50 = .ok (.getfield 237, 3) := by decide +kernel
theorem dX9_line_53 : decode cX9_line 53 = .ok (.iload_n 3, 1) := by decide +kernel
theorem dX9_line_54 : decode cX9_line 54 = .ok (.iload_n 1, 1) := by decide +kernel
theorem dX9_line_55 : decode cX9_line 55 = .ok (.iastore, 1) := by decide +kernel
theorem dX9_line_56 : decode cX9_line 56 = .ok (.aload_n 0, 1) := by decide +kernel
theorem dX9_line_57 : decode cX9_line 57 = .ok (.getfield 12, 3) := by decide +kernel
theorem dX9_line_60 : decode cX9_line 60 = .ok (.getfield 240, 3) := by decide +kernel
theorem dX9_line_63 : decode cX9_line 63 = .ok (.iload_n 3, 1) := by decide +kernel
theorem dX9_line_64 : decode cX9_line 64 = .ok (.iload_n 2, 1) := by decide +kernel
theorem dX9_line_65 : decode cX9_line 65 = .ok (.iastore, 1) := by decide +kernel
theorem dX9_line_66 : decode cX9_line 66 = .ok (.aload_n 0, 1) := by decide +kernel
theorem dX9_line_67 : decode cX9_line 67 = .ok (.getfield 12, 3) := by decide +kernel
theorem dX9_line_70 : decode cX9_line 70 = .ok (.iload_n 3, 1) := by decide +kernel
theorem dX9_line_71 : decode cX9_line 71 = .ok (.iconst 1, 1) := by decide +kernel
theorem dX9_line_72 : decode cX9_line 72 = .ok (.iadd, 1) := by decide +kernel
theorem dX9_line_73 : decode cX9_line 73 = .ok (.putfield 233, 3) := by decide +kernel
theorem dX9_line_76 : decode cX9_line 76 = .ok (.iload_n 3, 1) := by decide +kernel
theorem dX9_line_77 : decode cX9_line 77 = .ok (.ireturn, 1) := by decide +kernel
theorem dX9_clear_0 : decode cX9_clear 0 = .ok (.aload_n 0, 1) := by decide +kernel
theorem dX9_clear_1 : decode cX9_clear 1 = .ok (.getfield 12, 3) := by decide +kernel
theorem dX9_clear_4 : decode cX9_clear 4 = .ok (.getfield 233, 3) := by decide +kernel
theorem dX9_clear_7 : decode cX9_clear 7 = .ok (.istore_n 1, 1) := by decide +kernel
theorem dX9_clear_8 : decode cX9_clear 8 = .ok (.aload_n 0, 1) := by decide +kernel
theorem dX9_clear_9 : decode cX9_clear 9 = .ok (.getfield 12, 3) := by decide +kernel
theorem dX9_clear_12 : decode cX9_clear 12 = .ok (.iconst 0, 1) := by decide +kernel
theorem dX9_clear_13 : decode cX9_clear 13 = .ok (.putfield 233, 3) := by decide +kernel
theorem dX9_clear_16 : decode cX9_clear 16 = .ok (.iload_n 1, 1) := by decide +kernel
theorem dX9_clear_17 : decode cX9_clear 17 = .ok (.ireturn, 1) := by decide +kernel
theorem dX9_thread_0 : decode cX9_thread 0 = .ok (.aload_n 0, 1) := by decide +kernel
theorem dX9_thread_1 : decode cX9_thread 1 = .ok (.getfield 40, 3) := by decide +kernel
theorem dX9_thread_4 : decode cX9_thread 4 = .ok (.invokevirtual 243, 3) := by decide +kernel
theorem dX9_thread_7 : decode cX9_thread 7 = .ok (.iload_n 1, 1) := by decide +kernel
theorem dX9_thread_8 : decode cX9_thread 8 = .ok (.tableswitch 82 0 4 #[36, 44, 58, 66, 74], 36) := by decide +kernel
theorem dX9_thread_44 : decode cX9_thread 44 = .ok (.aload_n 0, 1) := by decide +kernel
theorem dX9_thread_45 : decode cX9_thread 45 = .ok (.getfield 40, 3) := by decide +kernel
theorem dX9_thread_48 : decode cX9_thread 48 = .ok (.getfield 246, 3) := by decide +kernel
theorem dX9_thread_51 : decode cX9_thread 51 = .ok (.ireturn, 1) := by decide +kernel
theorem dX9_thread_52 : decode cX9_thread 52 = .ok (.aload_n 0, 1) := by decide +kernel
theorem dX9_thread_53 : decode cX9_thread 53 = .ok (.getfield 40, 3) := by decide +kernel
theorem dX9_thread_56 : decode cX9_thread 56 = .ok (.getfield 246, 3) := by decide +kernel
theorem dX9_thread_59 : decode cX9_thread 59 = .ok (.iconst 1, 1) := by decide +kernel
theorem dX9_thread_60 : decode cX9_thread 60 = .ok (.isub, 1) := by decide +kernel
theorem dX9_thread_61 : decode cX9_thread 61 = .ok (.iconst 0, 1) := by decide +kernel
theorem dX9_thread_62 : decode cX9_thread 62 = .ok (.invokestatic 249, 3) := by decide +kernel
theorem dX9_thread_65 : decode cX9_thread 65 = .ok (.ireturn, 1) := by decide +kernel
theorem dX9_thread_66 : decode cX9_thread 66 = .ok (.aload_n 0, 1) := by decide +kernel
theorem dX9_thread_67 : decode cX9_thread 67 = .ok (.getfield 40, 3) := by decide +kernel
theorem dX9_thread_70 : decode cX9_thread 70 = .ok (.invokevirtual 254, 3) := by decide +kernel
theorem dX9_thread_73 : decode cX9_thread 73 = .ok (.ireturn, 1) := by decide +kernel
theorem dX9_thread_74 : decode cX9_thread 74 = .ok (.aload_n 0, 1) := by decide +kernel
theorem dX9_thread_75 : decode cX9_thread 75 = .ok (.getfield 40, 3) := by decide +kernel
theorem dX9_thread_78 : decode cX9_thread 78 = .ok (.getfield 258, 3) := by decide +kernel
theorem dX9_thread_81 : decode cX9_thread 81 = .ok (.ireturn, 1) := by decide +kernel
theorem dX9_thread_82 : decode cX9_thread 82 = .ok (.aload_n 0, 1) := by decide +kernel
theorem dX9_thread_83 : decode cX9_thread 83 = .ok (.getfield 40, 3) := by decide +kernel
theorem dX9_thread_86 : decode cX9_thread 86 = .ok (.getfield 261, 3) := by decide +kernel
theorem dX9_thread_89 : decode cX9_thread 89 = .ok (.ireturn, 1) := by decide +kernel
theorem dX9_thread_90 : decode cX9_thread 90 = .ok (.iconst (-1), 1) := by decide +kernel
theorem dX9_thread_91 : decode cX9_thread 91 = .ok (.ireturn, 1) := by decide +kernel
theorem dX9_order_0 : decode cX9_order 0 = .ok (.aload_n 0, 1) := by decide +kernel
theorem dX9_order_1 : decode cX9_order 1 = .ok (.getfield 40, 3) := by decide +kernel
theorem dX9_order_4 : decode cX9_order 4 = .ok (.invokevirtual 243, 3) := by decide +kernel
theorem dX9_order_7 : decode cX9_order 7 = .ok (.aload_n 0, 1) := by decide +kernel
theorem dX9_order_8 : decode cX9_order 8 = .ok (.getfield 40, 3) := by decide +kernel
theorem dX9_order_11 : decode cX9_order 11 = .ok (.getfield 246, 3) := by decide +kernel
theorem dX9_order_14 : decode cX9_order 14 = .ok (.iconst 1, 1) := by decide +kernel
theorem dX9_order_15 : decode cX9_order 15 = .ok (.if_icmp .ne 18, 3) := by decide +kernel
theorem dX9_order_18 : decode cX9_order 18 = .ok (.iload_n 1, 1) := by decide +kernel
theorem dX9_order_19 : decode cX9_order 19 = .ok (.ifCond .lt 14, 3) := by decide +kernel
theorem dX9_order_22 : decode cX9_order 22 = .ok (.iload_n 1, 1) := by decide +kernel
theorem dX9_order_23 : decode cX9_order 23 = .ok (.aload_n 0, 1) := by decide +kernel
theorem dX9_order_24 : decode cX9_order 24 = .ok (.getfield 12, 3) := by decide +kernel
theorem dX9_order_27 : decode cX9_order 27 = .ok (.getfield 233, 3) := by decide +kernel
theorem dX9_order_30 : decode cX9_order 30 = .ok (.if_icmp .le 5, 3) := by decide +kernel
theorem dX9_order_33 : decode cX9_order 33 = .ok (.iconst (-1), 1) := by decide +kernel
theorem dX9_order_34 : decode cX9_order 34 = .ok (.ireturn, 1) := by decide +kernel
theorem dX9_order_35 : decode cX9_order 35 = .ok (.aload_n 0, 1) := by decide +kernel
theorem dX9_order_36 : decode cX9_order 36 = .ok (.getfield 40, 3) := by decide +kernel
theorem dX9_order_39 : decode cX9_order 39 = .ok (.iload_n 1, 1) := by decide +kernel
theorem dX9_order_40 : decode cX9_order 40 = .ok (.invokevirtual 264, 3) := by decide +kernel
theorem dX9_order_43 : decode cX9_order 43 = .ok (.ireturn, 1) := by decide +kernel
theorem dX9_tell_0 : decode cX9_tell 0 = .ok (.aload_n 0, 1) := by decide +kernel
theorem dX9_tell_1 : decode cX9_tell 1 = .ok (.getfield 12, 3) := by decide +kernel
theorem dX9_tell_4 : decode cX9_tell 4 = .ok (.iload_n 1, 1) := by decide +kernel
theorem dX9_tell_5 : decode cX9_tell 5 = .ok (.iload_n 2, 1) := by decide +kernel
theorem dX9_tell_6 : decode cX9_tell 6 = .ok (.invokevirtual 108, 3) := by decide +kernel
theorem dX9_tell_9 : decode cX9_tell 9 = .ok (.istore 4, 2) := by decide +kernel
theorem dX9_tell_11 : decode cX9_tell 11 = .ok (.iload 4, 2) := by decide +kernel
theorem dX9_tell_13 : decode cX9_tell 13 = .ok (.iconst (-1), 1) := by decide +kernel
theorem dX9_tell_14 : decode cX9_tell 14 = .ok (.if_icmp .eq 15, 3) := by decide +kernel
theorem dX9_tell_17 : decode cX9_tell 17 = .ok (.iload_n 3, 1) := by decide +kernel
theorem dX9_tell_18 : decode cX9_tell 18 = .ok (.iconst (-1), 1) := by decide +kernel
theorem dX9_tell_19 : decode cX9_tell 19 = .ok (.if_icmp .lt 10, 3) := by decide +kernel
theorem dX9_tell_22 : decode cX9_tell 22 = .ok (.iload_n 3, 1) := by decide +kernel
theorem dX9_tell_23 : decode cX9_tell 23 = .ok (.sipush 9999, 3) := by decide +kernel
theorem dX9_tell_26 : decode cX9_tell 26 = .ok (.if_icmp .le 5, 3) := by decide +kernel
theorem dX9_tell_29 : decode cX9_tell 29 = .ok (.iconst 0, 1) := by decide +kernel
theorem dX9_tell_30 : decode cX9_tell 30 = .ok (.ireturn, 1) := by decide +kernel
theorem dX9_tell_31 : decode cX9_tell 31 = .ok (.aload_n 0, 1) := by decide +kernel
theorem dX9_tell_32 : decode cX9_tell 32 = .ok (.getfield 12, 3) := by decide +kernel
theorem dX9_tell_35 : decode cX9_tell 35 = .ok (.getfield 267, 3) := by decide +kernel
theorem dX9_tell_38 : decode cX9_tell 38 = .ok (.iload 4, 2) := by decide +kernel
theorem dX9_tell_40 : decode cX9_tell 40 = .ok (.iload_n 3, 1) := by decide +kernel
theorem dX9_tell_41 : decode cX9_tell 41 = .ok (.iastore, 1) := by decide +kernel
theorem dX9_tell_42 : decode cX9_tell 42 = .ok (.iconst 1, 1) := by decide +kernel
theorem dX9_tell_43 : decode cX9_tell 43 = .ok (.ireturn, 1) := by decide +kernel
theorem dX9_back_0 : decode cX9_back 0 = .ok (.aload_n 0, 1) := by decide +kernel
theorem dX9_back_1 : decode cX9_back 1 = .ok (.getfield 12, 3) := by decide +kernel
theorem dX9_back_4 : decode cX9_back 4 = .ok (.getfield 233, 3) := by decide +kernel
theorem dX9_back_7 : decode cX9_back 7 = .ok (.bipush 12, 2) := by decide +kernel
theorem dX9_back_9 : decode cX9_back 9 = .ok (.if_icmp .gt 12, 3) := by decide +kernel
theorem dX9_back_12 : decode cX9_back 12 = .ok (.iload_n 1, 1) := by decide +kernel
theorem dX9_back_13 : decode cX9_back 13 = .ok (.ifCond .lt 8, 3) := by decide +kernel
theorem dX9_back_16 : decode cX9_back 16 = .ok (.iload_n 1, 1) := by decide +kernel
theorem dX9_back_17 : decode cX9_back 17 = .ok (.iconst 2, 1) := by decide +kernel
theorem dX9_back_18 : decode cX9_back 18 = .ok (.if_icmp .le 6, 3) := by decide +kernel
theorem dX9_back_21 : decode cX9_back 21 = .ok (.bipush (-2), 2) := by decide +kernel
theorem dX9_back_23 : decode cX9_back 23 = .ok (.ireturn, 1) := by decide +kernel
theorem dX9_back_24 : decode cX9_back 24 = .ok (.aload_n 0, 1) := by decide +kernel
theorem dX9_back_25 : decode cX9_back 25 = .ok (.getfield 53, 3) := by decide +kernel
theorem dX9_back_28 : decode cX9_back 28 = .ok (.invokevirtual 270, 3) := by decide +kernel
theorem dX9_back_31 : decode cX9_back 31 = .ok (.iload_n 1, 1) := by decide +kernel
theorem dX9_back_32 : decode cX9_back 32 = .ok (.lookupswitch 44 #[(0, 28), (1, 36)], 28) := by decide +kernel
theorem dX9_back_60 : decode cX9_back 60 = .ok (.aload_n 0, 1) := by decide +kernel
theorem dX9_back_61 : decode cX9_back 61 = .ok (.getfield 53, 3) := by decide +kernel
theorem dX9_back_64 : decode cX9_back 64 = .ok (.getfield 273, 3) := by decide +kernel
theorem dX9_back_67 : decode cX9_back 67 = .ok (.ireturn, 1) := by decide +kernel
theorem dX9_back_68 : decode cX9_back 68 = .ok (.aload_n 0, 1) := by decide +kernel
theorem dX9_back_69 : decode cX9_back 69 = .ok (.getfield 53, 3) := by decide +kernel
theorem dX9_back_72 : decode cX9_back 72 = .ok (.getfield 276, 3) := by decide +kernel
theorem dX9_back_75 : decode cX9_back 75 = .ok (.ireturn, 1) := by decide +kernel
theorem dX9_back_76 : decode cX9_back 76 = .ok (.aload_n 0, 1) := by decide +kernel
theorem dX9_back_77 : decode cX9_back 77 = .ok (.getfield 53, 3) := by decide +kernel
theorem dX9_back_80 : decode cX9_back 80 = .ok (.getfield 279, 3) := by decide +kernel
theorem dX9_back_83 : decode cX9_back 83 = .ok (.ireturn, 1) := by decide +kernel
theorem dX9_like_0 : decode cX9_like 0 = .ok (.iconst 0, 1) := by decide +kernel
theorem dX9_like_1 : decode cX9_like 1 = .ok (.istore_n 1, 1) := by decide +kernel
theorem dX9_like_2 : decode cX9_like 2 = .ok (.aload_n 0, 1) := by decide +kernel
theorem dX9_like_3 : decode cX9_like 3 = .ok (.getfield 24, 3) := by decide +kernel
theorem dX9_like_6 : decode cX9_like 6 = .ok (.iconst 0, 1) := by decide +kernel
theorem dX9_like_7 : decode cX9_like 7 = .ok (.invokevirtual 207, 3) := by decide +kernel
theorem dX9_like_10 : decode cX9_like 10 = .ok (.istore_n 2, 1) := by decide +kernel
theorem dX9_like_11 : decode cX9_like 11 = .ok (.iconst 1, 1) := by decide +kernel
theorem dX9_like_12 : decode cX9_like 12 = .ok (.istore_n 3, 1) := by decide +kernel
theorem dX9_like_13 : decode cX9_like 13 = .ok (.iload_n 3, 1) := by decide +kernel
theorem dX9_like_14 : decode cX9_like 14 = .ok (.iconst 4, 1) := by decide +kernel
theorem dX9_like_15 : decode cX9_like 15 = .ok (.if_icmp .ge 30, 3) := by decide +kernel
theorem dX9_like_18 : decode cX9_like 18 = .ok (.aload_n 0, 1) := by decide +kernel
theorem dX9_like_19 : decode cX9_like 19 = .ok (.getfield 24, 3) := by decide +kernel
theorem dX9_like_22 : decode cX9_like 22 = .ok (.iload_n 3, 1) := by decide +kernel
theorem dX9_like_23 : decode cX9_like 23 = .ok (.invokevirtual 207, 3) := by decide +kernel
theorem dX9_like_26 : decode cX9_like 26 = .ok (.istore 4, 2) := by decide +kernel
theorem dX9_like_28 : decode cX9_like 28 = .ok (.iload 4, 2) := by decide +kernel
theorem dX9_like_30 : decode cX9_like 30 = .ok (.iload_n 2, 1) := by decide +kernel
theorem dX9_like_31 : decode cX9_like 31 = .ok (.if_icmp .ge 8, 3) := by decide +kernel
theorem dX9_like_34 : decode cX9_like 34 = .ok (.iload 4, 2) := by decide +kernel
theorem dX9_like_36 : decode cX9_like 36 = .ok (.istore_n 2, 1) := by decide +kernel
theorem dX9_like_37 : decode cX9_like 37 = .ok (.iload_n 3, 1) := by decide +kernel
theorem dX9_like_38 : decode cX9_like 38 = .ok (.istore_n 1, 1) := by decide +kernel
theorem dX9_like_39 : decode cX9_like 39 = .ok (.iinc 3 1, 3) := by decide +kernel
theorem dX9_like_42 : decode cX9_like 42 = .ok (.goto (-29), 3) := by decide +kernel
theorem dX9_like_45 : decode cX9_like 45 = .ok (.iload_n 1, 1) := by decide +kernel
theorem dX9_like_46 : decode cX9_like 46 = .ok (.ireturn, 1) := by decide +kernel
theorem dX9_rule_0 : decode cX9_rule 0 = .ok (.aload_n 0, 1) := by decide +kernel
theorem dX9_rule_1 : decode cX9_rule 1 = .ok (.iload_n 1, 1) := by decide +kernel
theorem dX9_rule_2 : decode cX9_rule 2 = .ok (.iload_n 2, 1) := by decide +kernel
theorem dX9_rule_3 : decode cX9_rule 3 = .ok (.invokevirtual 282, 3) := by decide +kernel
theorem dX9_rule_6 : decode cX9_rule 6 = .ok (.ifCond .eq 12, 3) := by decide +kernel
theorem dX9_rule_9 : decode cX9_rule 9 = .ok (.iload_n 3, 1) := by decide +kernel
theorem dX9_rule_10 : decode cX9_rule 10 = .ok (.ifCond .lt 8, 3) := by decide +kernel
theorem dX9_rule_13 : decode cX9_rule 13 = .ok (.iload_n 3, 1) := by decide +kernel
theorem dX9_rule_14 : decode cX9_rule 14 = .ok (.iconst 1, 1) := by decide +kernel
theorem dX9_rule_15 : decode cX9_rule 15 = .ok (.if_icmp .le 5, 3) := by decide +kernel
theorem dX9_rule_18 : decode cX9_rule 18 = .ok (.iconst (-1), 1) := by decide +kernel
theorem dX9_rule_19 : decode cX9_rule 19 = .ok (.ireturn, 1) := by decide +kernel
theorem dX9_rule_20 : decode cX9_rule 20 = .ok (.aload_n 0, 1) := by decide +kernel
theorem dX9_rule_21 : decode cX9_rule 21 = .ok (.getfield 60, 3) := by decide +kernel
theorem dX9_rule_24 : decode cX9_rule 24 = .ok (.iload_n 1, 1) := by decide +kernel
theorem dX9_rule_25 : decode cX9_rule 25 = .ok (.iload_n 2, 1) := by decide +kernel
theorem dX9_rule_26 : decode cX9_rule 26 = .ok (.invokevirtual 285, 3) := by decide +kernel
theorem dX9_rule_29 : decode cX9_rule 29 = .ok (.iload_n 3, 1) := by decide +kernel
theorem dX9_rule_30 : decode cX9_rule 30 = .ok (.ifCond .ne 13, 3) := by decide +kernel
theorem dX9_rule_33 : decode cX9_rule 33 = .ok (.aload_n 0, 1) := by decide +kernel
theorem dX9_rule_34 : decode cX9_rule 34 = .ok (.getfield 60, 3) := by decide +kernel
theorem dX9_rule_37 : decode cX9_rule 37 = .ok (.getfield 288, 3) := by decide +kernel
theorem dX9_rule_40 : decode cX9_rule 40 = .ok (.goto 10, 3) := by decide +kernel
theorem dX9_rule_43 : decode cX9_rule 43 = .ok (.aload_n 0, 1) := by decide +kernel
theorem dX9_rule_44 : decode cX9_rule 44 = .ok (.getfield 60, 3) := by decide +kernel
theorem dX9_rule_47 : decode cX9_rule 47 = .ok (.invokevirtual 289, 3) := by decide +kernel
theorem dX9_rule_50 : decode cX9_rule 50 = .ok (.ireturn, 1) := by decide +kernel
theorem dX9_drawn_0 : decode cX9_drawn 0 = .ok (.aload_n 0, 1) := by decide +kernel
theorem dX9_drawn_1 : decode cX9_drawn 1 = .ok (.getfield 12, 3) := by decide +kernel
theorem dX9_drawn_4 : decode cX9_drawn 4 = .ok (.iload_n 3, 1) := by decide +kernel
theorem dX9_drawn_5 : decode cX9_drawn 5 = .ok (.iload 4, 2) := by decide +kernel
theorem dX9_drawn_7 : decode cX9_drawn 7 = .ok (.invokevirtual 108, 3) := by decide +kernel
theorem dX9_drawn_10 : decode cX9_drawn 10 = .ok (.istore 5, 2) := by decide +kernel
theorem dX9_drawn_12 : decode cX9_drawn 12 = .ok (.aload_n 0, 1) := by decide +kernel
theorem dX9_drawn_13 : decode cX9_drawn 13 = .ok (.iload_n 1, 1) := by decide +kernel
theorem dX9_drawn_14 : decode cX9_drawn 14 = .ok (.iload_n 2, 1) := by decide +kernel
theorem dX9_drawn_15 : decode cX9_drawn 15 = .ok (.invokevirtual 282, 3) := by decide +kernel
theorem dX9_drawn_18 : decode cX9_drawn 18 = .ok (.ifCond .eq 9, 3) := by decide +kernel
theorem dX9_drawn_21 : decode cX9_drawn 21 = .ok (.iload 5, 2) := by decide +kernel
theorem dX9_drawn_23 : decode cX9_drawn 23 = .ok (.iconst (-1), 1) := by decide +kernel
theorem dX9_drawn_24 : decode cX9_drawn 24 = .ok (.if_icmp .ne 5, 3) := by decide +kernel
theorem dX9_drawn_27 : decode cX9_drawn 27 = .ok (.iconst (-1), 1) := by decide +kernel
theorem dX9_drawn_28 : decode cX9_drawn 28 = .ok (.ireturn, 1) := by decide +kernel
theorem dX9_drawn_29 : decode cX9_drawn 29 = .ok (.aload_n 0, 1) := by decide +kernel
theorem dX9_drawn_30 : decode cX9_drawn 30 = .ok (.getfield 60, 3) := by decide +kernel
theorem dX9_drawn_33 : decode cX9_drawn 33 = .ok (.iload_n 1, 1) := by decide +kernel
theorem dX9_drawn_34 : decode cX9_drawn 34 = .ok (.iload_n 2, 1) := by decide +kernel
theorem dX9_drawn_35 : decode cX9_drawn 35 = .ok (.invokevirtual 285, 3) := by decide +kernel
theorem dX9_drawn_38 : decode cX9_drawn 38 = .ok (.aload_n 0, 1) := by decide +kernel
theorem dX9_drawn_39 : decode cX9_drawn 39 = .ok (.getfield 60, 3) := by decide +kernel
theorem dX9_drawn_42 : decode cX9_drawn 42 = .ok (.iload 5, 2) := by decide +kernel
theorem dX9_drawn_44 : decode cX9_drawn 44 = .ok (.invokevirtual 292, 3) := by decide +kernel
theorem dX9_drawn_47 : decode cX9_drawn 47 = .ok (.ireturn, 1) := by decide +kernel
theorem dX9_undo_0 : decode cX9_undo 0 = .ok (.aload_n 0, 1) := by decide +kernel
theorem dX9_undo_1 : decode cX9_undo 1 = .ok (.getfield 89, 3) := by decide +kernel
theorem dX9_undo_4 : decode cX9_undo 4 = .ok (.ifCond .gt 5, 3) := by decide +kernel
theorem dX9_undo_7 : decode cX9_undo 7 = .ok (.iconst 0, 1) := by decide +kernel
theorem dX9_undo_8 : decode cX9_undo 8 = .ok (.ireturn, 1) := by decide +kernel
theorem dX9_undo_9 : decode cX9_undo 9 = .ok (.aload_n 0, 1) := by decide +kernel
theorem dX9_undo_10 : decode cX9_undo 10 = .ok (.dup, 1) := by decide +kernel
theorem dX9_undo_11 : decode cX9_undo 11 = .ok (.getfield 89, 3) := by decide +kernel
theorem dX9_undo_14 : decode cX9_undo 14 = .ok (.iconst 1, 1) := by decide +kernel
theorem dX9_undo_15 : decode cX9_undo 15 = .ok (.isub, 1) := by decide +kernel
theorem dX9_undo_16 : decode cX9_undo 16 = .ok (.putfield 89, 3) := by decide +kernel
theorem dX9_undo_19 : decode cX9_undo 19 = .ok (.aload_n 0, 1) := by decide +kernel
theorem dX9_undo_20 : decode cX9_undo 20 = .ok (.getfield 24, 3) := by decide +kernel
theorem dX9_undo_23 : decode cX9_undo 23 = .ok (.aload_n 0, 1) := by decide +kernel
theorem dX9_undo_24 : decode cX9_undo 24 = .ok (.getfield 79, 3) := by decide +kernel
theorem dX9_undo_27 : decode cX9_undo 27 = .ok (.aload_n 0, 1) := by decide +kernel
theorem dX9_undo_28 : decode cX9_undo 28 = .ok (.getfield 89, 3) := by decide +kernel
theorem dX9_undo_31 : decode cX9_undo 31 = .ok (.iaload, 1) := by decide +kernel
theorem dX9_undo_32 : decode cX9_undo 32 = .ok (.invokevirtual 154, 3) := by decide +kernel
theorem dX9_undo_35 : decode cX9_undo 35 = .ok (.iconst 1, 1) := by decide +kernel
theorem dX9_undo_36 : decode cX9_undo 36 = .ok (.ireturn, 1) := by decide +kernel
theorem dX9_image_0 : decode cX9_image 0 = .ok (.iload_n 1, 1) := by decide +kernel
theorem dX9_image_1 : decode cX9_image 1 = .ok (.ifCond .eq 21, 3) := by decide +kernel
theorem dX9_image_4 : decode cX9_image 4 = .ok (.aload_n 0, 1) := by decide +kernel
theorem dX9_image_5 : decode cX9_image 5 = .ok (.getfield 16, 3) := by decide +kernel
theorem dX9_image_8 : decode cX9_image 8 = .ok (.aload_n 0, 1) := by decide +kernel
theorem dX9_image_9 : decode cX9_image 9 = .ok (.getfield 12, 3) := by decide +kernel
theorem dX9_image_12 : decode cX9_image 12 = .ok (.invokevirtual 295, 3) := by decide +kernel
theorem dX9_image_15 : decode cX9_image 15 = .ok (.aload_n 0, 1) := by decide +kernel
theorem dX9_image_16 : decode cX9_image 16 = .ok (.iconst 1, 1) := by decide +kernel
theorem dX9_image_17 : decode cX9_image 17 = .ok (.putfield 297, 3) := by decide +kernel
theorem dX9_image_20 : decode cX9_image 20 = .ok (.iconst 1, 1) := by decide +kernel
theorem dX9_image_21 : decode cX9_image 21 = .ok (.ireturn, 1) := by decide +kernel
theorem dX9_image_22 : decode cX9_image 22 = .ok (.aload_n 0, 1) := by decide +kernel
theorem dX9_image_23 : decode cX9_image 23 = .ok (.getfield 297, 3) := by decide +kernel
theorem dX9_image_26 : decode cX9_image 26 = .ok (.ifCond .ne 5, 3) := by decide +kernel
theorem dX9_image_29 : decode cX9_image 29 = .ok (.iconst 0, 1) := by decide +kernel
theorem dX9_image_30 : decode cX9_image 30 = .ok (.ireturn, 1) := by decide +kernel
theorem dX9_image_31 : decode cX9_image 31 = .ok (.aload_n 0, 1) := by decide +kernel
theorem dX9_image_32 : decode cX9_image 32 = .ok (.getfield 12, 3) := by decide +kernel
theorem dX9_image_35 : decode cX9_image 35 = .ok (.aload_n 0, 1) := by decide +kernel
theorem dX9_image_36 : decode cX9_image 36 = .ok (.getfield 16, 3) := by decide +kernel
theorem dX9_image_39 : decode cX9_image 39 = .ok (.invokevirtual 295, 3) := by decide +kernel
theorem dX9_image_42 : decode cX9_image 42 = .ok (.aload_n 0, 1) := by decide +kernel
theorem dX9_image_43 : decode cX9_image 43 = .ok (.getfield 24, 3) := by decide +kernel
theorem dX9_image_46 : decode cX9_image 46 = .ok (.invokevirtual 86, 3) := by decide +kernel
theorem dX9_image_49 : decode cX9_image 49 = .ok (.aload_n 0, 1) := by decide +kernel
theorem dX9_image_50 : decode cX9_image 50 = .ok (.iconst 0, 1) := by decide +kernel
theorem dX9_image_51 : decode cX9_image 51 = .ok (.putfield 89, 3) := by decide +kernel
theorem dX9_image_54 : decode cX9_image 54 = .ok (.iconst 1, 1) := by decide +kernel
theorem dX9_image_55 : decode cX9_image 55 = .ok (.ireturn, 1) := by decide +kernel
theorem dX9_look_0 : decode cX9_look 0 = .ok (.iload_n 1, 1) := by decide +kernel
theorem dX9_look_1 : decode cX9_look 1 = .ok (.tableswitch 87 0 5 #[39, 47, 55, 63, 74, 79], 39) := by decide +kernel
theorem dX9_look_40 : decode cX9_look 40 = .ok (.aload_n 0, 1) := by decide +kernel
theorem dX9_look_41 : decode cX9_look 41 = .ok (.getfield 12, 3) := by decide +kernel
theorem dX9_look_44 : decode cX9_look 44 = .ok (.getfield 301, 3) := by decide +kernel
theorem dX9_look_47 : decode cX9_look 47 = .ok (.ireturn, 1) := by decide +kernel
theorem dX9_look_48 : decode cX9_look 48 = .ok (.aload_n 0, 1) := by decide +kernel
theorem dX9_look_49 : decode cX9_look 49 = .ok (.getfield 12, 3) := by decide +kernel
theorem dX9_look_52 : decode cX9_look 52 = .ok (.getfield 99, 3) := by decide +kernel
theorem dX9_look_55 : decode cX9_look 55 = .ok (.ireturn, 1) := by decide +kernel
theorem dX9_look_56 : decode cX9_look 56 = .ok (.aload_n 0, 1) := by decide +kernel
theorem dX9_look_57 : decode cX9_look 57 = .ok (.getfield 12, 3) := by decide +kernel
theorem dX9_look_60 : decode cX9_look 60 = .ok (.getfield 233, 3) := by decide +kernel
theorem dX9_look_63 : decode cX9_look 63 = .ok (.ireturn, 1) := by decide +kernel
theorem dX9_look_64 : decode cX9_look 64 = .ok (.aload_n 0, 1) := by decide +kernel
theorem dX9_look_65 : decode cX9_look 65 = .ok (.getfield 12, 3) := by decide +kernel
theorem dX9_look_68 : decode cX9_look 68 = .ok (.getfield 176, 3) := by decide +kernel
theorem dX9_look_71 : decode cX9_look 71 = .ok (.getfield 189, 3) := by decide +kernel
theorem dX9_look_74 : decode cX9_look 74 = .ok (.ireturn, 1) := by decide +kernel
theorem dX9_look_75 : decode cX9_look 75 = .ok (.aload_n 0, 1) := by decide +kernel
theorem dX9_look_76 : decode cX9_look 76 = .ok (.getfield 89, 3) := by decide +kernel
theorem dX9_look_79 : decode cX9_look 79 = .ok (.ireturn, 1) := by decide +kernel
theorem dX9_look_80 : decode cX9_look 80 = .ok (.aload_n 0, 1) := by decide +kernel
theorem dX9_look_81 : decode cX9_look 81 = .ok (.getfield 12, 3) := by decide +kernel
theorem dX9_look_84 : decode cX9_look 84 = .ok (.invokevirtual 304, 3) := by decide +kernel
theorem dX9_look_87 : decode cX9_look 87 = .ok (.ireturn, 1) := by decide +kernel
theorem dX9_look_88 : decode cX9_look 88 = .ok (.aload_n 0, 1) := by decide +kernel
theorem dX9_look_89 : decode cX9_look 89 = .ok (.iload_n 1, 1) := by decide +kernel
theorem dX9_look_90 : decode cX9_look 90 = .ok (.invokevirtual 307, 3) := by decide +kernel
theorem dX9_look_93 : decode cX9_look 93 = .ok (.ireturn, 1) := by decide +kernel
theorem dX9_lookAtOne_0 : decode cX9_lookAtOne 0 = .ok (.iload_n 1, 1) := by decide +kernel
theorem dX9_lookAtOne_1 : decode cX9_lookAtOne 1 = .ok (.bipush 10, 2) := by decide +kernel
theorem dX9_lookAtOne_3 : decode cX9_lookAtOne 3 = .ok (.if_icmp .lt 26, 3) := by decide +kernel
theorem dX9_lookAtOne_6 : decode cX9_lookAtOne 6 = .ok (.iload_n 1, 1) := by decide +kernel
theorem dX9_lookAtOne_7 : decode cX9_lookAtOne 7 = .ok (.bipush 10, 2) := by decide +kernel
theorem dX9_lookAtOne_9 : decode cX9_lookAtOne 9 = .ok (.isub, 1) := by decide +kernel
theorem dX9_lookAtOne_10 : decode cX9_lookAtOne 10 = .ok (.invokestatic 122, 3) := by decide +kernel
theorem dX9_lookAtOne_13 : decode cX9_lookAtOne 13 = .ok (.ifCond .eq 16, 3) := by decide +kernel
theorem dX9_lookAtOne_16 : decode cX9_lookAtOne 16 = .ok (.aload_n 0, 1) := by decide +kernel
theorem dX9_lookAtOne_17 : decode cX9_lookAtOne 17 = .ok (.getfield 12, 3) := by decide +kernel
theorem dX9_lookAtOne_20 : decode cX9_lookAtOne 20 = .ok (.getfield 125, 3) := by decide +kernel
theorem dX9_lookAtOne_23 : decode cX9_lookAtOne 23 = .ok (.iload_n 1, 1) := by decide +kernel
theorem dX9_lookAtOne_24 : decode cX9_lookAtOne 24 = .ok (.bipush 10, 2) := by decide +kernel
theorem dX9_lookAtOne_26 : decode cX9_lookAtOne 26 = .ok (.isub, 1) := by decide +kernel
theorem dX9_lookAtOne_27 : decode cX9_lookAtOne 27 = .ok (.iaload, 1) := by decide +kernel
theorem dX9_lookAtOne_28 : decode cX9_lookAtOne 28 = .ok (.ireturn, 1) := by decide +kernel
theorem dX9_lookAtOne_29 : decode cX9_lookAtOne 29 = .ok (.iload_n 1, 1) := by decide +kernel
theorem dX9_lookAtOne_30 : decode cX9_lookAtOne 30 = .ok (.bipush 20, 2) := by decide +kernel
theorem dX9_lookAtOne_32 : decode cX9_lookAtOne 32 = .ok (.if_icmp .lt 46, 3) := by decide +kernel
theorem dX9_lookAtOne_35 : decode cX9_lookAtOne 35 = .ok (.aload_n 0, 1) := by decide +kernel
theorem dX9_lookAtOne_36 : decode cX9_lookAtOne 36 = .ok (.getfield 12, 3) := by decide +kernel
theorem dX9_lookAtOne_39 : decode cX9_lookAtOne 39 = .ok (.iload_n 1, 1) := by decide +kernel
theorem dX9_lookAtOne_40 : decode cX9_lookAtOne 40 = .ok (.bipush 20, 2) := by decide +kernel
theorem dX9_lookAtOne_42 : decode cX9_lookAtOne 42 = .ok (.isub, 1) := by decide +kernel
theorem dX9_lookAtOne_43 : decode cX9_lookAtOne 43 = .ok (.invokevirtual 131, 3) := by decide +kernel
theorem dX9_lookAtOne_46 : decode cX9_lookAtOne 46 = .ok (.ifCond .eq 32, 3) := by decide +kernel
theorem dX9_lookAtOne_49 : decode cX9_lookAtOne 49 = .ok (.aload_n 0, 1) := by decide +kernel
theorem dX9_lookAtOne_50 : decode cX9_lookAtOne 50 = .ok (.getfield 12, 3) := by decide +kernel
theorem dX9_lookAtOne_53 : decode cX9_lookAtOne 53 = .ok (.getfield 102, 3) := by decide +kernel
theorem dX9_lookAtOne_56 : decode cX9_lookAtOne 56 = .ok (.iload_n 1, 1) := by decide +kernel
theorem dX9_lookAtOne_57 : decode cX9_lookAtOne 57 = .ok (.bipush 20, 2) := by decide +kernel
theorem dX9_lookAtOne_59 : decode cX9_lookAtOne 59 = .ok (.isub, 1) := by decide +kernel
theorem dX9_lookAtOne_60 : decode cX9_lookAtOne 60 = .ok (.iaload, 1) := by decide +kernel
theorem dX9_lookAtOne_61 : decode cX9_lookAtOne 61 = .ok (.bipush 10, 2) := by decide +kernel
theorem dX9_lookAtOne_63 : decode cX9_lookAtOne 63 = .ok (.aload_n 0, 1) := by decide +kernel
theorem dX9_lookAtOne_64 : decode cX9_lookAtOne 64 = .ok (.getfield 12, 3) := by decide +kernel
theorem dX9_lookAtOne_67 : decode cX9_lookAtOne 67 = .ok (.getfield 105, 3) := by decide +kernel
theorem dX9_lookAtOne_70 : decode cX9_lookAtOne 70 = .ok (.iload_n 1, 1) := by decide +kernel
theorem dX9_lookAtOne_71 : decode cX9_lookAtOne 71 = .ok (.bipush 20, 2) := by decide +kernel
theorem dX9_lookAtOne_73 : decode cX9_lookAtOne 73 = .ok (.isub, 1) := by decide +kernel
theorem dX9_lookAtOne_74 : decode cX9_lookAtOne 74 = .ok (.iaload, 1) := by decide +kernel
theorem dX9_lookAtOne_75 : decode cX9_lookAtOne 75 = .ok (.imul, 1) := by decide +kernel
theorem dX9_lookAtOne_76 : decode cX9_lookAtOne 76 = .ok (.iadd, 1) := by decide +kernel
theorem dX9_lookAtOne_77 : decode cX9_lookAtOne 77 = .ok (.ireturn, 1) := by decide +kernel
theorem dX9_lookAtOne_78 : decode cX9_lookAtOne 78 = .ok (.iconst (-1), 1) := by decide +kernel
theorem dX9_lookAtOne_79 : decode cX9_lookAtOne 79 = .ok (.ireturn, 1) := by decide +kernel
theorem dX9_isThread_0 : decode cX9_isThread 0 = .ok (.iload_n 0, 1) := by decide +kernel
theorem dX9_isThread_1 : decode cX9_isThread 1 = .ok (.ifCond .lt 12, 3) := by decide +kernel
theorem dX9_isThread_4 : decode cX9_isThread 4 = .ok (.iload_n 0, 1) := by decide +kernel
theorem dX9_isThread_5 : decode cX9_isThread 5 = .ok (.iconst 3, 1) := by decide +kernel
theorem dX9_isThread_6 : decode cX9_isThread 6 = .ok (.if_icmp .ge 7, 3) := by decide +kernel
theorem dX9_isThread_9 : decode cX9_isThread 9 = .ok (.iconst 1, 1) := by decide +kernel
theorem dX9_isThread_10 : decode cX9_isThread 10 = .ok (.goto 4, 3) := by decide +kernel
theorem dX9_isThread_13 : decode cX9_isThread 13 = .ok (.iconst 0, 1) := by decide +kernel
theorem dX9_isThread_14 : decode cX9_isThread 14 = .ok (.ireturn, 1) := by decide +kernel
theorem dX9_isPicture_0 : decode cX9_isPicture 0 = .ok (.iload_n 0, 1) := by decide +kernel
theorem dX9_isPicture_1 : decode cX9_isPicture 1 = .ok (.ifCond .lt 12, 3) := by decide +kernel
theorem dX9_isPicture_4 : decode cX9_isPicture 4 = .ok (.iload_n 0, 1) := by decide +kernel
theorem dX9_isPicture_5 : decode cX9_isPicture 5 = .ok (.iconst 4, 1) := by decide +kernel
theorem dX9_isPicture_6 : decode cX9_isPicture 6 = .ok (.if_icmp .ge 7, 3) := by decide +kernel
theorem dX9_isPicture_9 : decode cX9_isPicture 9 = .ok (.iconst 1, 1) := by decide +kernel
theorem dX9_isPicture_10 : decode cX9_isPicture 10 = .ok (.goto 4, 3) := by decide +kernel
theorem dX9_isPicture_13 : decode cX9_isPicture 13 = .ok (.iconst 0, 1) := by decide +kernel
theorem dX9_isPicture_14 : decode cX9_isPicture 14 = .ok (.ireturn, 1) := by decide +kernel
theorem dX9_isRule_0 : decode cX9_isRule 0 = .ok (.aload_n 0, 1) := by decide +kernel
theorem dX9_isRule_1 : decode cX9_isRule 1 = .ok (.getfield 12, 3) := by decide +kernel
theorem dX9_isRule_4 : decode cX9_isRule 4 = .ok (.getfield 99, 3) := by decide +kernel
theorem dX9_isRule_7 : decode cX9_isRule 7 = .ok (.ifCond .le 27, 3) := by decide +kernel
theorem dX9_isRule_10 : decode cX9_isRule 10 = .ok (.iload_n 1, 1) := by decide +kernel
theorem dX9_isRule_11 : decode cX9_isRule 11 = .ok (.ifCond .lt 23, 3) := by decide +kernel
theorem dX9_isRule_14 : decode cX9_isRule 14 = .ok (.iload_n 1, 1) := by decide +kernel
theorem dX9_isRule_15 : decode cX9_isRule 15 = .ok (.bipush 99, 2) := by decide +kernel
theorem dX9_isRule_17 : decode cX9_isRule 17 = .ok (.if_icmp .gt 17, 3) := by decide +kernel
theorem dX9_isRule_20 : decode cX9_isRule 20 = .ok (.iload_n 2, 1) := by decide +kernel
theorem dX9_isRule_21 : decode cX9_isRule 21 = .ok (.ifCond .lt 13, 3) := by decide +kernel
theorem dX9_isRule_24 : decode cX9_isRule 24 = .ok (.iload_n 2, 1) := by decide +kernel
theorem dX9_isRule_25 : decode cX9_isRule 25 = .ok (.bipush 99, 2) := by decide +kernel
theorem dX9_isRule_27 : decode cX9_isRule 27 = .ok (.if_icmp .gt 7, 3) := by decide +kernel
theorem dX9_isRule_30 : decode cX9_isRule 30 = .ok (.iconst 1, 1) := by decide +kernel
theorem dX9_isRule_31 : decode cX9_isRule 31 = .ok (.goto 4, 3) := by decide +kernel
theorem dX9_isRule_34 : decode cX9_isRule 34 = .ok (.iconst 0, 1) := by decide +kernel
theorem dX9_isRule_35 : decode cX9_isRule 35 = .ok (.ireturn, 1) := by decide +kernel
theorem dX9_putBytes_0 : decode cX9_putBytes 0 = .ok (.bipush 24, 2) := by decide +kernel
theorem dX9_putBytes_2 : decode cX9_putBytes 2 = .ok (.istore_n 2, 1) := by decide +kernel
theorem dX9_putBytes_3 : decode cX9_putBytes 3 = .ok (.iload_n 2, 1) := by decide +kernel
theorem dX9_putBytes_4 : decode cX9_putBytes 4 = .ok (.ifCond .lt 45, 3) := by decide +kernel
theorem dX9_putBytes_7 : decode cX9_putBytes 7 = .ok (.aload_n 0, 1) := by decide +kernel
theorem dX9_putBytes_8 : decode cX9_putBytes 8 = .ok (.getfield 157, 3) := by decide +kernel
theorem dX9_putBytes_11 : decode cX9_putBytes 11 = .ok (.sipush 400, 3) := by decide +kernel
theorem dX9_putBytes_14 : decode cX9_putBytes 14 = .ok (.if_icmp .ge 35, 3) := by decide +kernel
theorem dX9_putBytes_17 : decode cX9_putBytes 17 = .ok (.aload_n 0, 1) := by decide +kernel
theorem dX9_putBytes_18 : decode cX9_putBytes 18 = .ok (.getfield 71, 3) := by decide +kernel
theorem dX9_putBytes_21 : decode cX9_putBytes 21 = .ok (.aload_n 0, 1) := by decide +kernel
theorem dX9_putBytes_22 : decode cX9_putBytes 22 = .ok (.getfield 157, 3) := by decide +kernel
theorem dX9_putBytes_25 : decode cX9_putBytes 25 = .ok (.iload_n 1, 1) := by decide +kernel
theorem dX9_putBytes_26 : decode cX9_putBytes 26 = .ok (.iload_n 2, 1) := by decide +kernel
theorem dX9_putBytes_27 : decode cX9_putBytes 27 = .ok (.iushr, 1) := by decide +kernel
theorem dX9_putBytes_28 : decode cX9_putBytes 28 = .ok (.sipush 255, 3) := by decide +kernel
theorem dX9_putBytes_31 : decode cX9_putBytes 31 = .ok (.iand, 1) := by decide +kernel
theorem dX9_putBytes_32 : decode cX9_putBytes 32 = .ok (.iastore, 1) := by decide +kernel
theorem dX9_putBytes_33 : decode cX9_putBytes 33 = .ok (.aload_n 0, 1) := by decide +kernel
theorem dX9_putBytes_34 : decode cX9_putBytes 34 = .ok (.dup, 1) := by decide +kernel
theorem dX9_putBytes_35 : decode cX9_putBytes 35 = .ok (.getfield 157, 3) := by decide +kernel
theorem dX9_putBytes_38 : decode cX9_putBytes 38 = .ok (.iconst 1, 1) := by decide +kernel
theorem dX9_putBytes_39 : decode cX9_putBytes 39 = .ok (.iadd, 1) := by decide +kernel
theorem dX9_putBytes_40 : decode cX9_putBytes 40 = .ok (.putfield 157, 3) := by decide +kernel
theorem dX9_putBytes_43 : decode cX9_putBytes 43 = .ok (.iinc 2 (-8), 3) := by decide +kernel
theorem dX9_putBytes_46 : decode cX9_putBytes 46 = .ok (.goto (-43), 3) := by decide +kernel
theorem dX9_putBytes_49 : decode cX9_putBytes 49 = .ok (.return_, 1) := by decide +kernel
theorem dX9_keepForUndo_0 : decode cX9_keepForUndo 0 = .ok (.aload_n 0, 1) := by decide +kernel
theorem dX9_keepForUndo_1 : decode cX9_keepForUndo 1 = .ok (.getfield 89, 3) := by decide +kernel
theorem dX9_keepForUndo_4 : decode cX9_keepForUndo 4 = .ok (.bipush 40, 2) := by decide +kernel
theorem dX9_keepForUndo_6 : decode cX9_keepForUndo 6 = .ok (.if_icmp .lt 24, 3) := by decide +kernel
theorem dX9_keepForUndo_9 : decode cX9_keepForUndo 9 = .ok (.aload_n 0, 1) := by decide +kernel
theorem dX9_keepForUndo_10 : decode cX9_keepForUndo 10 = .ok (.getfield 79, 3) := by decide +kernel
theorem dX9_keepForUndo_13 : decode cX9_keepForUndo 13 = .ok (.iconst 1, 1) := by decide +kernel
theorem dX9_keepForUndo_14 : decode cX9_keepForUndo 14 = .ok (.aload_n 0, 1) := by decide +kernel
theorem dX9_keepForUndo_15 : decode cX9_keepForUndo 15 = .ok (.getfield 79, 3) := by decide +kernel
theorem dX9_keepForUndo_18 : decode cX9_keepForUndo 18 = .ok (.iconst 0, 1) := by decide +kernel
theorem dX9_keepForUndo_19 : decode cX9_keepForUndo 19 = .ok (.bipush 39, 2) := by decide +kernel
theorem dX9_keepForUndo_21 : decode cX9_keepForUndo 21 = .ok (.invokestatic 310, 3) := by decide +kernel
theorem dX9_keepForUndo_24 : decode cX9_keepForUndo 24 = .ok (.aload_n 0, 1) := by decide +kernel
theorem dX9_keepForUndo_25 : decode cX9_keepForUndo 25 = .ok (.bipush 39, 2) := by decide +kernel
theorem dX9_keepForUndo_27 : decode cX9_keepForUndo 27 = .ok (.putfield 89, 3) := by decide +kernel
theorem dX9_keepForUndo_30 : decode cX9_keepForUndo 30 = .ok (.aload_n 0, 1) := by decide +kernel
theorem dX9_keepForUndo_31 : decode cX9_keepForUndo 31 = .ok (.getfield 79, 3) := by decide +kernel
theorem dX9_keepForUndo_34 : decode cX9_keepForUndo 34 = .ok (.aload_n 0, 1) := by decide +kernel
theorem dX9_keepForUndo_35 : decode cX9_keepForUndo 35 = .ok (.getfield 89, 3) := by decide +kernel
theorem dX9_keepForUndo_38 : decode cX9_keepForUndo 38 = .ok (.iload_n 1, 1) := by decide +kernel
theorem dX9_keepForUndo_39 : decode cX9_keepForUndo 39 = .ok (.iastore, 1) := by decide +kernel
theorem dX9_keepForUndo_40 : decode cX9_keepForUndo 40 = .ok (.aload_n 0, 1) := by decide +kernel
theorem dX9_keepForUndo_41 : decode cX9_keepForUndo 41 = .ok (.dup, 1) := by decide +kernel
theorem dX9_keepForUndo_42 : decode cX9_keepForUndo 42 = .ok (.getfield 89, 3) := by decide +kernel
theorem dX9_keepForUndo_45 : decode cX9_keepForUndo 45 = .ok (.iconst 1, 1) := by decide +kernel
theorem dX9_keepForUndo_46 : decode cX9_keepForUndo 46 = .ok (.iadd, 1) := by decide +kernel
theorem dX9_keepForUndo_47 : decode cX9_keepForUndo 47 = .ok (.putfield 89, 3) := by decide +kernel
theorem dX9_keepForUndo_50 : decode cX9_keepForUndo 50 = .ok (.return_, 1) := by decide +kernel
