theorem dX0_init_0 : decode cX0_init 0 = .ok (.aload_n 0, 1) := by decide +kernel
theorem dX0_init_1 : decode cX0_init 1 = .ok (.invokespecial 3, 3) := by decide +kernel
theorem dX0_init_4 : decode cX0_init 4 = .ok (.aload_n 0, 1) := by decide +kernel
theorem dX0_init_5 : decode cX0_init 5 = .ok (.sipush 4416, 3) := by decide +kernel
theorem dX0_init_8 : decode cX0_init 8 = .ok (.newarray .int, 2) := by decide +kernel
theorem dX0_init_10 : decode cX0_init 10 = .ok (.putfield 11, 3) := by decide +kernel
theorem dX0_init_13 : decode cX0_init 13 = .ok (.aload_n 0, 1) := by decide +kernel
theorem dX0_init_14 : decode cX0_init 14 = .ok (.sipush 276, 3) := by decide +kernel
theorem dX0_init_17 : decode cX0_init 17 = .ok (.newarray .int, 2) := by decide +kernel
theorem dX0_init_19 : decode cX0_init 19 = .ok (.putfield 15, 3) := by decide +kernel
theorem dX0_init_22 : decode cX0_init 22 = .ok (.aload_n 0, 1) := by decide +kernel
theorem dX0_init_23 : decode cX0_init 23 = .ok (.aload_n 1, 1) := by decide +kernel
theorem dX0_init_24 : decode cX0_init 24 = .ok (.putfield 18, 3) := by decide +kernel
theorem dX0_init_27 : decode cX0_init 27 = .ok (.return_, 1) := by decide +kernel
theorem dX0_forget_0 : decode cX0_forget 0 = .ok (.aload_n 0, 1) := by decide +kernel
theorem dX0_forget_1 : decode cX0_forget 1 = .ok (.getfield 15, 3) := by decide +kernel
theorem dX0_forget_4 : decode cX0_forget 4 = .ok (.iconst 0, 1) := by decide +kernel
theorem dX0_forget_5 : decode cX0_forget 5 = .ok (.invokestatic 22, 3) := by decide +kernel
theorem dX0_forget_8 : decode cX0_forget 8 = .ok (.return_, 1) := by decide +kernel
theorem dX0_numberOf_0 : decode cX0_numberOf 0 = .ok (.iload_n 0, 1) := by decide +kernel
theorem dX0_numberOf_1 : decode cX0_numberOf 1 = .ok (.iload_n 1, 1) := by decide +kernel
theorem dX0_numberOf_2 : decode cX0_numberOf 2 = .ok (.invokestatic 28, 3) := by decide +kernel
theorem dX0_numberOf_5 : decode cX0_numberOf 5 = .ok (.istore_n 2, 1) := by decide +kernel
theorem dX0_numberOf_6 : decode cX0_numberOf 6 = .ok (.iload_n 2, 1) := by decide +kernel
theorem dX0_numberOf_7 : decode cX0_numberOf 7 = .ok (.iload_n 2, 1) := by decide +kernel
theorem dX0_numberOf_8 : decode cX0_numberOf 8 = .ok (.iconst 1, 1) := by decide +kernel
theorem dX0_numberOf_9 : decode cX0_numberOf 9 = .ok (.isub, 1) := by decide +kernel
theorem dX0_numberOf_10 : decode cX0_numberOf 10 = .ok (.imul, 1) := by decide +kernel
theorem dX0_numberOf_11 : decode cX0_numberOf 11 = .ok (.iconst 2, 1) := by decide +kernel
theorem dX0_numberOf_12 : decode cX0_numberOf 12 = .ok (.idiv, 1) := by decide +kernel
theorem dX0_numberOf_13 : decode cX0_numberOf 13 = .ok (.iload_n 0, 1) := by decide +kernel
theorem dX0_numberOf_14 : decode cX0_numberOf 14 = .ok (.iload_n 1, 1) := by decide +kernel
theorem dX0_numberOf_15 : decode cX0_numberOf 15 = .ok (.invokestatic 34, 3) := by decide +kernel
theorem dX0_numberOf_18 : decode cX0_numberOf 18 = .ok (.iadd, 1) := by decide +kernel
theorem dX0_numberOf_19 : decode cX0_numberOf 19 = .ok (.ireturn, 1) := by decide +kernel
theorem dX0_measured_0 : decode cX0_measured 0 = .ok (.iload_n 1, 1) := by decide +kernel
theorem dX0_measured_1 : decode cX0_measured 1 = .ok (.iload_n 2, 1) := by decide +kernel
theorem dX0_measured_2 : decode cX0_measured 2 = .ok (.invokestatic 37, 3) := by decide +kernel
theorem dX0_measured_5 : decode cX0_measured 5 = .ok (.istore_n 3, 1) := by decide +kernel
theorem dX0_measured_6 : decode cX0_measured 6 = .ok (.aload_n 0, 1) := by decide +kernel
theorem dX0_measured_7 : decode cX0_measured 7 = .ok (.getfield 15, 3) := by decide +kernel
theorem dX0_measured_10 : decode cX0_measured 10 = .ok (.iload_n 3, 1) := by decide +kernel
theorem dX0_measured_11 : decode cX0_measured 11 = .ok (.iaload, 1) := by decide +kernel
theorem dX0_measured_12 : decode cX0_measured 12 = .ok (.ifCond .ne 18, 3) := by decide +kernel
theorem dX0_measured_15 : decode cX0_measured 15 = .ok (.aload_n 0, 1) := by decide +kernel
theorem dX0_measured_16 : decode cX0_measured 16 = .ok (.iload_n 3, 1) := by decide +kernel
theorem dX0_measured_17 : decode cX0_measured 17 = .ok (.iload_n 1, 1) := by decide +kernel
theorem dX0_measured_18 : decode cX0_measured 18 = .ok (.iload_n 2, 1) := by decide +kernel
theorem dX0_measured_19 : decode cX0_measured 19 = .ok (.invokestatic 34, 3) := by decide +kernel
theorem dX0_measured_22 : decode cX0_measured 22 = .ok (.iload_n 1, 1) := by decide +kernel
theorem dX0_measured_23 : decode cX0_measured 23 = .ok (.iload_n 2, 1) := by decide +kernel
theorem dX0_measured_24 : decode cX0_measured 24 = .ok (.invokestatic 28, 3) := by decide +kernel
theorem dX0_measured_27 : decode cX0_measured 27 = .ok (.invokevirtual 40, 3) := by decide +kernel
theorem dX0_measured_30 : decode cX0_measured 30 = .ok (.iload_n 3, 1) := by decide +kernel
theorem dX0_measured_31 : decode cX0_measured 31 = .ok (.ireturn, 1) := by decide +kernel
theorem dX0_measure_0 : decode cX0_measure 0 = .ok (.bipush 8, 2) := by decide +kernel
theorem dX0_measure_2 : decode cX0_measure 2 = .ok (.aload_n 0, 1) := by decide +kernel
theorem dX0_measure_3 : decode cX0_measure 3 = .ok (.getfield 18, 3) := by decide +kernel
theorem dX0_measure_6 : decode cX0_measure 6 = .ok (.iload_n 2, 1) := by decide +kernel
theorem dX0_measure_7 : decode cX0_measure 7 = .ok (.iload_n 3, 1) := by decide +kernel
theorem dX0_measure_8 : decode cX0_measure 8 = .ok (.invokevirtual 44, 3) := by decide +kernel
theorem dX0_measure_11 : decode cX0_measure 11 = .ok (.imul, 1) := by decide +kernel
theorem dX0_measure_12 : decode cX0_measure 12 = .ok (.istore 4, 2) := by decide +kernel
theorem dX0_measure_14 : decode cX0_measure 14 = .ok (.iload_n 1, 1) := by decide +kernel
theorem dX0_measure_15 : decode cX0_measure 15 = .ok (.bipush 16, 2) := by decide +kernel
theorem dX0_measure_17 : decode cX0_measure 17 = .ok (.imul, 1) := by decide +kernel
theorem dX0_measure_18 : decode cX0_measure 18 = .ok (.istore 5, 2) := by decide +kernel
theorem dX0_measure_20 : decode cX0_measure 20 = .ok (.iconst 0, 1) := by decide +kernel
theorem dX0_measure_21 : decode cX0_measure 21 = .ok (.istore 6, 2) := by decide +kernel
theorem dX0_measure_23 : decode cX0_measure 23 = .ok (.iconst (-1), 1) := by decide +kernel
theorem dX0_measure_24 : decode cX0_measure 24 = .ok (.istore 7, 2) := by decide +kernel
theorem dX0_measure_26 : decode cX0_measure 26 = .ok (.iconst 0, 1) := by decide +kernel
theorem dX0_measure_27 : decode cX0_measure 27 = .ok (.istore 8, 2) := by decide +kernel
theorem dX0_measure_29 : decode cX0_measure 29 = .ok (.iload 8, 2) := by decide +kernel
theorem dX0_measure_31 : decode cX0_measure 31 = .ok (.iload 4, 2) := by decide +kernel
theorem dX0_measure_33 : decode cX0_measure 33 = .ok (.if_icmp .ge 129, 3) := by decide +kernel
theorem dX0_measure_36 : decode cX0_measure 36 = .ok (.aload_n 0, 1) := by decide +kernel
theorem dX0_measure_37 : decode cX0_measure 37 = .ok (.aload_n 0, 1) := by decide +kernel
theorem dX0_measure_38 : decode cX0_measure 38 = .ok (.getfield 18, 3) := by decide +kernel
theorem dX0_measure_41 : decode cX0_measure 41 = .ok (.getfield 49, 3) := by decide +kernel
theorem dX0_measure_44 : decode cX0_measure 44 = .ok (.iload_n 2, 1) := by decide +kernel
theorem dX0_measure_45 : decode cX0_measure 45 = .ok (.iaload, 1) := by decide +kernel
theorem dX0_measure_46 : decode cX0_measure 46 = .ok (.aload_n 0, 1) := by decide +kernel
theorem dX0_measure_47 : decode cX0_measure 47 = .ok (.getfield 18, 3) := by decide +kernel
theorem dX0_measure_50 : decode cX0_measure 50 = .ok (.getfield 49, 3) := by decide +kernel
theorem dX0_measure_53 : decode cX0_measure 53 = .ok (.iload_n 3, 1) := by decide +kernel
theorem dX0_measure_54 : decode cX0_measure 54 = .ok (.iaload, 1) := by decide +kernel
theorem dX0_measure_55 : decode cX0_measure 55 = .ok (.iload 8, 2) := by decide +kernel
theorem dX0_measure_57 : decode cX0_measure 57 = .ok (.iload 4, 2) := by decide +kernel
theorem dX0_measure_59 : decode cX0_measure 59 = .ok (.invokevirtual 52, 3) := by decide +kernel
theorem dX0_measure_62 : decode cX0_measure 62 = .ok (.istore 9, 2) := by decide +kernel
theorem dX0_measure_64 : decode cX0_measure 64 = .ok (.aload_n 0, 1) := by decide +kernel
theorem dX0_measure_65 : decode cX0_measure 65 = .ok (.aload_n 0, 1) := by decide +kernel
theorem dX0_measure_66 : decode cX0_measure 66 = .ok (.getfield 18, 3) := by decide +kernel
theorem dX0_measure_69 : decode cX0_measure 69 = .ok (.getfield 56, 3) := by decide +kernel
theorem dX0_measure_72 : decode cX0_measure 72 = .ok (.iload_n 2, 1) := by decide +kernel
theorem dX0_measure_73 : decode cX0_measure 73 = .ok (.iaload, 1) := by decide +kernel
theorem dX0_measure_74 : decode cX0_measure 74 = .ok (.aload_n 0, 1) := by decide +kernel
theorem dX0_measure_75 : decode cX0_measure 75 = .ok (.getfield 18, 3) := by decide +kernel
theorem dX0_measure_78 : decode cX0_measure 78 = .ok (.getfield 56, 3) := by decide +kernel
theorem dX0_measure_81 : decode cX0_measure 81 = .ok (.iload_n 3, 1) := by decide +kernel
theorem dX0_measure_82 : decode cX0_measure 82 = .ok (.iaload, 1) := by decide +kernel
theorem dX0_measure_83 : decode cX0_measure 83 = .ok (.iload 8, 2) := by decide +kernel
theorem dX0_measure_85 : decode cX0_measure 85 = .ok (.iload 4, 2) := by decide +kernel
theorem dX0_measure_87 : decode cX0_measure 87 = .ok (.invokevirtual 52, 3) := by decide +kernel
theorem dX0_measure_90 : decode cX0_measure 90 = .ok (.istore 10, 2) := by decide +kernel
theorem dX0_measure_92 : decode cX0_measure 92 = .ok (.iload 9, 2) := by decide +kernel
theorem dX0_measure_94 : decode cX0_measure 94 = .ok (.bipush 8, 2) := by decide +kernel
theorem dX0_measure_96 : decode cX0_measure 96 = .ok (.iload 10, 2) := by decide +kernel
theorem dX0_measure_98 : decode cX0_measure 98 = .ok (.imul, 1) := by decide +kernel
theorem dX0_measure_99 : decode cX0_measure 99 = .ok (.iadd, 1) := by decide +kernel
theorem dX0_measure_100 : decode cX0_measure 100 = .ok (.iload 7, 2) := by decide +kernel
theorem dX0_measure_102 : decode cX0_measure 102 = .ok (.if_icmp .eq 38, 3) := by decide +kernel
theorem dX0_measure_105 : decode cX0_measure 105 = .ok (.iload 6, 2) := by decide +kernel
theorem dX0_measure_107 : decode cX0_measure 107 = .ok (.bipush 16, 2) := by decide +kernel
theorem dX0_measure_109 : decode cX0_measure 109 = .ok (.if_icmp .ge 31, 3) := by decide +kernel
theorem dX0_measure_112 : decode cX0_measure 112 = .ok (.iload 9, 2) := by decide +kernel
theorem dX0_measure_114 : decode cX0_measure 114 = .ok (.bipush 8, 2) := by decide +kernel
theorem dX0_measure_116 : decode cX0_measure 116 = .ok (.iload 10, 2) := by decide +kernel
theorem dX0_measure_118 : decode cX0_measure 118 = .ok (.imul, 1) := by decide +kernel
theorem dX0_measure_119 : decode cX0_measure 119 = .ok (.iadd, 1) := by decide +kernel
theorem dX0_measure_120 : decode cX0_measure 120 = .ok (.istore 7, 2) := by decide +kernel
theorem dX0_measure_122 : decode cX0_measure 122 = .ok (.aload_n 0, 1) := by decide +kernel
theorem dX0_measure_123 : decode cX0_measure 123 = .ok (.getfield 11, 3) := by decide +kernel
theorem dX0_measure_126 : decode cX0_measure 126 = .ok (.iload 5, 2) := by decide +kernel
theorem dX0_measure_128 : decode cX0_measure 128 = .ok (.iload 6, 2) := by decide +kernel
theorem dX0_measure_130 : decode cX0_measure 130 = .ok (.iadd, 1) := by decide +kernel
theorem dX0_measure_131 : decode cX0_measure 131 = .ok (.iload 7, 2) := by decide +kernel
theorem dX0_measure_133 : decode cX0_measure 133 = .ok (.bipush 16, 2) := by decide +kernel
theorem dX0_measure_135 : decode cX0_measure 135 = .ok (.imul, 1) := by decide +kernel
theorem dX0_measure_136 : decode cX0_measure 136 = .ok (.iastore, 1) := by decide +kernel
theorem dX0_measure_137 : decode cX0_measure 137 = .ok (.iinc 6 1, 3) := by decide +kernel
theorem dX0_measure_140 : decode cX0_measure 140 = .ok (.aload_n 0, 1) := by decide +kernel
theorem dX0_measure_141 : decode cX0_measure 141 = .ok (.getfield 11, 3) := by decide +kernel
theorem dX0_measure_144 : decode cX0_measure 144 = .ok (.iload 5, 2) := by decide +kernel
theorem dX0_measure_146 : decode cX0_measure 146 = .ok (.iload 6, 2) := by decide +kernel
theorem dX0_measure_148 : decode cX0_measure 148 = .ok (.iadd, 1) := by decide +kernel
theorem dX0_measure_149 : decode cX0_measure 149 = .ok (.iconst 1, 1) := by decide +kernel
theorem dX0_measure_150 : decode cX0_measure 150 = .ok (.isub, 1) := by decide +kernel
theorem dX0_measure_151 : decode cX0_measure 151 = .ok (.dup2, 1) := by decide +kernel
theorem dX0_measure_152 : decode cX0_measure 152 = .ok (.iaload, 1) := by decide +kernel
theorem dX0_measure_153 : decode cX0_measure 153 = .ok (.iconst 1, 1) := by decide +kernel
theorem dX0_measure_154 : decode cX0_measure 154 = .ok (.iadd, 1) := by decide +kernel
theorem dX0_measure_155 : decode cX0_measure 155 = .ok (.iastore, 1) := by decide +kernel
theorem dX0_measure_156 : decode cX0_measure 156 = .ok (.iinc 8 1, 3) := by decide +kernel
theorem dX0_measure_159 : decode cX0_measure 159 = .ok (.goto (-130), 3) := by decide +kernel
theorem dX0_measure_162 : decode cX0_measure 162 = .ok (.aload_n 0, 1) := by decide +kernel
theorem dX0_measure_163 : decode cX0_measure 163 = .ok (.getfield 15, 3) := by decide +kernel
theorem dX0_measure_166 : decode cX0_measure 166 = .ok (.iload_n 1, 1) := by decide +kernel
theorem dX0_measure_167 : decode cX0_measure 167 = .ok (.iload 6, 2) := by decide +kernel
theorem dX0_measure_169 : decode cX0_measure 169 = .ok (.iastore, 1) := by decide +kernel
theorem dX0_measure_170 : decode cX0_measure 170 = .ok (.return_, 1) := by decide +kernel
theorem dX0_middle_0 : decode cX0_middle 0 = .ok (.iload_n 1, 1) := by decide +kernel
theorem dX0_middle_1 : decode cX0_middle 1 = .ok (.iconst 2, 1) := by decide +kernel
theorem dX0_middle_2 : decode cX0_middle 2 = .ok (.imul, 1) := by decide +kernel
theorem dX0_middle_3 : decode cX0_middle 3 = .ok (.iload 4, 2) := by decide +kernel
theorem dX0_middle_5 : decode cX0_middle 5 = .ok (.imul, 1) := by decide +kernel
theorem dX0_middle_6 : decode cX0_middle 6 = .ok (.iload_n 2, 1) := by decide +kernel
theorem dX0_middle_7 : decode cX0_middle 7 = .ok (.iload_n 1, 1) := by decide +kernel
theorem dX0_middle_8 : decode cX0_middle 8 = .ok (.isub, 1) := by decide +kernel
theorem dX0_middle_9 : decode cX0_middle 9 = .ok (.iconst 2, 1) := by decide +kernel
theorem dX0_middle_10 : decode cX0_middle 10 = .ok (.iload_n 3, 1) := by decide +kernel
theorem dX0_middle_11 : decode cX0_middle 11 = .ok (.imul, 1) := by decide +kernel
theorem dX0_middle_12 : decode cX0_middle 12 = .ok (.iconst 1, 1) := by decide +kernel
theorem dX0_middle_13 : decode cX0_middle 13 = .ok (.iadd, 1) := by decide +kernel
theorem dX0_middle_14 : decode cX0_middle 14 = .ok (.imul, 1) := by decide +kernel
theorem dX0_middle_15 : decode cX0_middle 15 = .ok (.iadd, 1) := by decide +kernel
theorem dX0_middle_16 : decode cX0_middle 16 = .ok (.iconst 2, 1) := by decide +kernel
theorem dX0_middle_17 : decode cX0_middle 17 = .ok (.iload 4, 2) := by decide +kernel
theorem dX0_middle_19 : decode cX0_middle 19 = .ok (.imul, 1) := by decide +kernel
theorem dX0_middle_20 : decode cX0_middle 20 = .ok (.invokestatic 59, 3) := by decide +kernel
theorem dX0_middle_23 : decode cX0_middle 23 = .ok (.istore 5, 2) := by decide +kernel
theorem dX0_middle_25 : decode cX0_middle 25 = .ok (.iload 5, 2) := by decide +kernel
theorem dX0_middle_27 : decode cX0_middle 27 = .ok (.aload_n 0, 1) := by decide +kernel
theorem dX0_middle_28 : decode cX0_middle 28 = .ok (.getfield 18, 3) := by decide +kernel
theorem dX0_middle_31 : decode cX0_middle 31 = .ok (.getfield 62, 3) := by decide +kernel
theorem dX0_middle_34 : decode cX0_middle 34 = .ok (.iconst 1, 1) := by decide +kernel
theorem dX0_middle_35 : decode cX0_middle 35 = .ok (.isub, 1) := by decide +kernel
theorem dX0_middle_36 : decode cX0_middle 36 = .ok (.invokestatic 34, 3) := by decide +kernel
theorem dX0_middle_39 : decode cX0_middle 39 = .ok (.ireturn, 1) := by decide +kernel
theorem dX0_sizeOf_0 : decode cX0_sizeOf 0 = .ok (.aload_n 0, 1) := by decide +kernel
theorem dX0_sizeOf_1 : decode cX0_sizeOf 1 = .ok (.getfield 15, 3) := by decide +kernel
theorem dX0_sizeOf_4 : decode cX0_sizeOf 4 = .ok (.iload_n 1, 1) := by decide +kernel
theorem dX0_sizeOf_5 : decode cX0_sizeOf 5 = .ok (.iaload, 1) := by decide +kernel
theorem dX0_sizeOf_6 : decode cX0_sizeOf 6 = .ok (.ireturn, 1) := by decide +kernel
theorem dX0_squareOf_0 : decode cX0_squareOf 0 = .ok (.aload_n 0, 1) := by decide +kernel
theorem dX0_squareOf_1 : decode cX0_squareOf 1 = .ok (.getfield 11, 3) := by decide +kernel
theorem dX0_squareOf_4 : decode cX0_squareOf 4 = .ok (.iload_n 1, 1) := by decide +kernel
theorem dX0_squareOf_5 : decode cX0_squareOf 5 = .ok (.bipush 16, 2) := by decide +kernel
theorem dX0_squareOf_7 : decode cX0_squareOf 7 = .ok (.imul, 1) := by decide +kernel
theorem dX0_squareOf_8 : decode cX0_squareOf 8 = .ok (.iload_n 2, 1) := by decide +kernel
theorem dX0_squareOf_9 : decode cX0_squareOf 9 = .ok (.iadd, 1) := by decide +kernel
theorem dX0_squareOf_10 : decode cX0_squareOf 10 = .ok (.iaload, 1) := by decide +kernel
theorem dX0_squareOf_11 : decode cX0_squareOf 11 = .ok (.bipush 16, 2) := by decide +kernel
theorem dX0_squareOf_13 : decode cX0_squareOf 13 = .ok (.idiv, 1) := by decide +kernel
theorem dX0_squareOf_14 : decode cX0_squareOf 14 = .ok (.ireturn, 1) := by decide +kernel
theorem dX0_middlesOf_0 : decode cX0_middlesOf 0 = .ok (.aload_n 0, 1) := by decide +kernel
theorem dX0_middlesOf_1 : decode cX0_middlesOf 1 = .ok (.getfield 11, 3) := by decide +kernel
theorem dX0_middlesOf_4 : decode cX0_middlesOf 4 = .ok (.iload_n 1, 1) := by decide +kernel
theorem dX0_middlesOf_5 : decode cX0_middlesOf 5 = .ok (.bipush 16, 2) := by decide +kernel
theorem dX0_middlesOf_7 : decode cX0_middlesOf 7 = .ok (.imul, 1) := by decide +kernel
theorem dX0_middlesOf_8 : decode cX0_middlesOf 8 = .ok (.iload_n 2, 1) := by decide +kernel
theorem dX0_middlesOf_9 : decode cX0_middlesOf 9 = .ok (.iadd, 1) := by decide +kernel
theorem dX0_middlesOf_10 : decode cX0_middlesOf 10 = .ok (.iaload, 1) := by decide +kernel
theorem dX0_middlesOf_11 : decode cX0_middlesOf 11 = .ok (.bipush 16, 2) := by decide +kernel
theorem dX0_middlesOf_13 : decode cX0_middlesOf 13 = .ok (.irem, 1) := by decide +kernel
theorem dX0_middlesOf_14 : decode cX0_middlesOf 14 = .ok (.ireturn, 1) := by decide +kernel
theorem dX0_samplesIn_0 : decode cX0_samplesIn 0 = .ok (.aload_n 0, 1) := by decide +kernel
theorem dX0_samplesIn_1 : decode cX0_samplesIn 1 = .ok (.iload_n 1, 1) := by decide +kernel
theorem dX0_samplesIn_2 : decode cX0_samplesIn 2 = .ok (.iload_n 2, 1) := by decide +kernel
theorem dX0_samplesIn_3 : decode cX0_samplesIn 3 = .ok (.invokevirtual 66, 3) := by decide +kernel
theorem dX0_samplesIn_6 : decode cX0_samplesIn 6 = .ok (.istore 4, 2) := by decide +kernel
theorem dX0_samplesIn_8 : decode cX0_samplesIn 8 = .ok (.iconst 0, 1) := by decide +kernel
theorem dX0_samplesIn_9 : decode cX0_samplesIn 9 = .ok (.istore 5, 2) := by decide +kernel
theorem dX0_samplesIn_11 : decode cX0_samplesIn 11 = .ok (.iload 5, 2) := by decide +kernel
theorem dX0_samplesIn_13 : decode cX0_samplesIn 13 = .ok (.aload_n 0, 1) := by decide +kernel
theorem dX0_samplesIn_14 : decode cX0_samplesIn 14 = .ok (.getfield 15, 3) := by decide +kernel
theorem dX0_samplesIn_17 : decode cX0_samplesIn 17 = .ok (.iload 4, 2) := by decide +kernel
theorem dX0_samplesIn_19 : decode cX0_samplesIn 19 = .ok (.iaload, 1) := by decide +kernel
theorem dX0_samplesIn_20 : decode cX0_samplesIn 20 = .ok (.if_icmp .ge 30, 3) := by decide +kernel
theorem dX0_samplesIn_23 : decode cX0_samplesIn 23 = .ok (.aload_n 0, 1) := by decide +kernel
theorem dX0_samplesIn_24 : decode cX0_samplesIn 24 = .ok (.iload 4, 2) := by decide +kernel
theorem dX0_samplesIn_26 : decode cX0_samplesIn 26 = .ok (.iload 5, 2) := by decide +kernel
theorem dX0_samplesIn_28 : decode cX0_samplesIn 28 = .ok (.invokevirtual 69, 3) := by decide +kernel
theorem dX0_samplesIn_31 : decode cX0_samplesIn 31 = .ok (.iload_n 3, 1) := by decide +kernel
theorem dX0_samplesIn_32 : decode cX0_samplesIn 32 = .ok (.if_icmp .ne 12, 3) := by decide +kernel
theorem dX0_samplesIn_35 : decode cX0_samplesIn 35 = .ok (.aload_n 0, 1) := by decide +kernel
theorem dX0_samplesIn_36 : decode cX0_samplesIn 36 = .ok (.iload 4, 2) := by decide +kernel
theorem dX0_samplesIn_38 : decode cX0_samplesIn 38 = .ok (.iload 5, 2) := by decide +kernel
theorem dX0_samplesIn_40 : decode cX0_samplesIn 40 = .ok (.invokevirtual 72, 3) := by decide +kernel
theorem dX0_samplesIn_43 : decode cX0_samplesIn 43 = .ok (.ireturn, 1) := by decide +kernel
theorem dX0_samplesIn_44 : decode cX0_samplesIn 44 = .ok (.iinc 5 1, 3) := by decide +kernel
theorem dX0_samplesIn_47 : decode cX0_samplesIn 47 = .ok (.goto (-36), 3) := by decide +kernel
theorem dX0_samplesIn_50 : decode cX0_samplesIn 50 = .ok (.iconst 0, 1) := by decide +kernel
theorem dX0_samplesIn_51 : decode cX0_samplesIn 51 = .ok (.ireturn, 1) := by decide +kernel
theorem dX1_init_0 : decode cX1_init 0 = .ok (.aload_n 0, 1) := by decide +kernel
theorem dX1_init_1 : decode cX1_init 1 = .ok (.invokespecial 3, 3) := by decide +kernel
theorem dX1_init_4 : decode cX1_init 4 = .ok (.aload_n 0, 1) := by decide +kernel
theorem dX1_init_5 : decode cX1_init 5 = .ok (.bipush 64, 2) := by decide +kernel
theorem dX1_init_7 : decode cX1_init 7 = .ok (.newarray .int, 2) := by decide +kernel
theorem dX1_init_9 : decode cX1_init 9 = .ok (.putfield 9, 3) := by decide +kernel
theorem dX1_init_12 : decode cX1_init 12 = .ok (.aload_n 0, 1) := by decide +kernel
theorem dX1_init_13 : decode cX1_init 13 = .ok (.sipush 276, 3) := by decide +kernel
theorem dX1_init_16 : decode cX1_init 16 = .ok (.newarray .int, 2) := by decide +kernel
theorem dX1_init_18 : decode cX1_init 18 = .ok (.putfield 17, 3) := by decide +kernel
theorem dX1_init_21 : decode cX1_init 21 = .ok (.aload_n 0, 1) := by decide +kernel
theorem dX1_init_22 : decode cX1_init 22 = .ok (.bipush 8, 2) := by decide +kernel
theorem dX1_init_24 : decode cX1_init 24 = .ok (.newarray .int, 2) := by decide +kernel
theorem dX1_init_26 : decode cX1_init 26 = .ok (.putfield 22, 3) := by decide +kernel
theorem dX1_init_29 : decode cX1_init 29 = .ok (.aload_n 0, 1) := by decide +kernel
theorem dX1_init_30 : decode cX1_init 30 = .ok (.aload_n 1, 1) := by decide +kernel
theorem dX1_init_31 : decode cX1_init 31 = .ok (.putfield 25, 3) := by decide +kernel
theorem dX1_init_34 : decode cX1_init 34 = .ok (.aload_n 0, 1) := by decide +kernel
theorem dX1_init_35 : decode cX1_init 35 = .ok (.new 15, 3) := by decide +kernel
theorem dX1_init_38 : decode cX1_init 38 = .ok (.dup, 1) := by decide +kernel
theorem dX1_init_39 : decode cX1_init 39 = .ok (.aload_n 1, 1) := by decide +kernel
theorem dX1_init_40 : decode cX1_init 40 = .ok (.invokespecial 29, 3) := by decide +kernel
theorem dX1_init_43 : decode cX1_init 43 = .ok (.putfield 32, 3) := by decide +kernel
theorem dX1_init_46 : decode cX1_init 46 = .ok (.return_, 1) := by decide +kernel
theorem dX1_renew_0 : decode cX1_renew 0 = .ok (.aload_n 0, 1) := by decide +kernel
theorem dX1_renew_1 : decode cX1_renew 1 = .ok (.getfield 32, 3) := by decide +kernel
theorem dX1_renew_4 : decode cX1_renew 4 = .ok (.invokevirtual 36, 3) := by decide +kernel
theorem dX1_renew_7 : decode cX1_renew 7 = .ok (.aload_n 0, 1) := by decide +kernel
theorem dX1_renew_8 : decode cX1_renew 8 = .ok (.invokevirtual 39, 3) := by decide +kernel
theorem dX1_renew_11 : decode cX1_renew 11 = .ok (.return_, 1) := by decide +kernel
theorem dX1_tally_0 : decode cX1_tally 0 = .ok (.aload_n 0, 1) := by decide +kernel
theorem dX1_tally_1 : decode cX1_tally 1 = .ok (.getfield 9, 3) := by decide +kernel
theorem dX1_tally_4 : decode cX1_tally 4 = .ok (.iconst 0, 1) := by decide +kernel
theorem dX1_tally_5 : decode cX1_tally 5 = .ok (.invokestatic 42, 3) := by decide +kernel
theorem dX1_tally_8 : decode cX1_tally 8 = .ok (.aload_n 0, 1) := by decide +kernel
theorem dX1_tally_9 : decode cX1_tally 9 = .ok (.getfield 17, 3) := by decide +kernel
theorem dX1_tally_12 : decode cX1_tally 12 = .ok (.iconst 0, 1) := by decide +kernel
theorem dX1_tally_13 : decode cX1_tally 13 = .ok (.invokestatic 42, 3) := by decide +kernel
theorem dX1_tally_16 : decode cX1_tally 16 = .ok (.iconst 0, 1) := by decide +kernel
theorem dX1_tally_17 : decode cX1_tally 17 = .ok (.istore_n 1, 1) := by decide +kernel
theorem dX1_tally_18 : decode cX1_tally 18 = .ok (.iload_n 1, 1) := by decide +kernel
theorem dX1_tally_19 : decode cX1_tally 19 = .ok (.iconst 3, 1) := by decide +kernel
theorem dX1_tally_20 : decode cX1_tally 20 = .ok (.if_icmp .ge 65, 3) := by decide +kernel
theorem dX1_tally_23 : decode cX1_tally 23 = .ok (.iload_n 1, 1) := by decide +kernel
theorem dX1_tally_24 : decode cX1_tally 24 = .ok (.bipush 120, 2) := by decide +kernel
theorem dX1_tally_26 : decode cX1_tally 26 = .ok (.imul, 1) := by decide +kernel
theorem dX1_tally_27 : decode cX1_tally 27 = .ok (.istore_n 2, 1) := by decide +kernel
theorem dX1_tally_28 : decode cX1_tally 28 = .ok (.iconst 1, 1) := by decide +kernel
theorem dX1_tally_29 : decode cX1_tally 29 = .ok (.istore_n 3, 1) := by decide +kernel
theorem dX1_tally_30 : decode cX1_tally 30 = .ok (.iload_n 3, 1) := by decide +kernel
theorem dX1_tally_31 : decode cX1_tally 31 = .ok (.aload_n 0, 1) := by decide +kernel
theorem dX1_tally_32 : decode cX1_tally 32 = .ok (.getfield 25, 3) := by decide +kernel
theorem dX1_tally_35 : decode cX1_tally 35 = .ok (.getfield 48, 3) := by decide +kernel
theorem dX1_tally_38 : decode cX1_tally 38 = .ok (.iload_n 1, 1) := by decide +kernel
theorem dX1_tally_39 : decode cX1_tally 39 = .ok (.iaload, 1) := by decide +kernel
theorem dX1_tally_40 : decode cX1_tally 40 = .ok (.if_icmp .ge 39, 3) := by decide +kernel
theorem dX1_tally_43 : decode cX1_tally 43 = .ok (.aload_n 0, 1) := by decide +kernel
theorem dX1_tally_44 : decode cX1_tally 44 = .ok (.iload_n 1, 1) := by decide +kernel
theorem dX1_tally_45 : decode cX1_tally 45 = .ok (.aload_n 0, 1) := by decide +kernel
theorem dX1_tally_46 : decode cX1_tally 46 = .ok (.getfield 25, 3) := by decide +kernel
theorem dX1_tally_49 : decode cX1_tally 49 = .ok (.getfield 53, 3) := by decide +kernel
theorem dX1_tally_52 : decode cX1_tally 52 = .ok (.iload_n 2, 1) := by decide +kernel
theorem dX1_tally_53 : decode cX1_tally 53 = .ok (.iload_n 3, 1) := by decide +kernel
theorem dX1_tally_54 : decode cX1_tally 54 = .ok (.iadd, 1) := by decide +kernel
theorem dX1_tally_55 : decode cX1_tally 55 = .ok (.iconst 1, 1) := by decide +kernel
theorem dX1_tally_56 : decode cX1_tally 56 = .ok (.isub, 1) := by decide +kernel
theorem dX1_tally_57 : decode cX1_tally 57 = .ok (.iaload, 1) := by decide +kernel
theorem dX1_tally_58 : decode cX1_tally 58 = .ok (.aload_n 0, 1) := by decide +kernel
theorem dX1_tally_59 : decode cX1_tally 59 = .ok (.getfield 25, 3) := by decide +kernel
theorem dX1_tally_62 : decode cX1_tally 62 = .ok (.getfield 53, 3) := by decide +kernel
theorem dX1_tally_65 : decode cX1_tally 65 = .ok (.iload_n 2, 1) := by decide +kernel
theorem dX1_tally_66 : decode cX1_tally 66 = .ok (.iload_n 3, 1) := by decide +kernel
theorem dX1_tally_67 : decode cX1_tally 67 = .ok (.iadd, 1) := by decide +kernel
theorem dX1_tally_68 : decode cX1_tally 68 = .ok (.iaload, 1) := by decide +kernel
theorem dX1_tally_69 : decode cX1_tally 69 = .ok (.iconst 1, 1) := by decide +kernel
theorem dX1_tally_70 : decode cX1_tally 70 = .ok (.invokevirtual 56, 3) := by decide +kernel
theorem dX1_tally_73 : decode cX1_tally 73 = .ok (.iinc 3 1, 3) := by decide +kernel
theorem dX1_tally_76 : decode cX1_tally 76 = .ok (.goto (-46), 3) := by decide +kernel
theorem dX1_tally_79 : decode cX1_tally 79 = .ok (.iinc 1 1, 3) := by decide +kernel
theorem dX1_tally_82 : decode cX1_tally 82 = .ok (.goto (-64), 3) := by decide +kernel
theorem dX1_tally_85 : decode cX1_tally 85 = .ok (.return_, 1) := by decide +kernel
theorem dX1_lay_0 : decode cX1_lay 0 = .ok (.aload_n 0, 1) := by decide +kernel
theorem dX1_lay_1 : decode cX1_lay 1 = .ok (.getfield 32, 3) := by decide +kernel
theorem dX1_lay_4 : decode cX1_lay 4 = .ok (.iload_n 2, 1) := by decide +kernel
theorem dX1_lay_5 : decode cX1_lay 5 = .ok (.iload_n 3, 1) := by decide +kernel
theorem dX1_lay_6 : decode cX1_lay 6 = .ok (.invokevirtual 60, 3) := by decide +kernel
theorem dX1_lay_9 : decode cX1_lay 9 = .ok (.istore 5, 2) := by decide +kernel
theorem dX1_lay_11 : decode cX1_lay 11 = .ok (.aload_n 0, 1) := by decide +kernel
theorem dX1_lay_12 : decode cX1_lay 12 = .ok (.getfield 25, 3) := by decide +kernel
theorem dX1_lay_15 : decode cX1_lay 15 = .ok (.getfield 64, 3) := by decide +kernel
theorem dX1_lay_18 : decode cX1_lay 18 = .ok (.iload_n 1, 1) := by decide +kernel
theorem dX1_lay_19 : decode cX1_lay 19 = .ok (.iaload, 1) := by decide +kernel
theorem dX1_lay_20 : decode cX1_lay 20 = .ok (.iload 4, 2) := by decide +kernel
theorem dX1_lay_22 : decode cX1_lay 22 = .ok (.imul, 1) := by decide +kernel
theorem dX1_lay_23 : decode cX1_lay 23 = .ok (.istore 6, 2) := by decide +kernel
theorem dX1_lay_25 : decode cX1_lay 25 = .ok (.iconst 0, 1) := by decide +kernel
theorem dX1_lay_26 : decode cX1_lay 26 = .ok (.istore 7, 2) := by decide +kernel
theorem dX1_lay_28 : decode cX1_lay 28 = .ok (.iload 7, 2) := by decide +kernel
theorem dX1_lay_30 : decode cX1_lay 30 = .ok (.aload_n 0, 1) := by decide +kernel
theorem dX1_lay_31 : decode cX1_lay 31 = .ok (.getfield 32, 3) := by decide +kernel
theorem dX1_lay_34 : decode cX1_lay 34 = .ok (.iload 5, 2) := by decide +kernel
theorem dX1_lay_36 : decode cX1_lay 36 = .ok (.invokevirtual 67, 3) := by decide +kernel
theorem dX1_lay_39 : decode cX1_lay 39 = .ok (.if_icmp .ge 42, 3) := by decide +kernel
theorem dX1_lay_42 : decode cX1_lay 42 = .ok (.aload_n 0, 1) := by decide +kernel
theorem dX1_lay_43 : decode cX1_lay 43 = .ok (.getfield 9, 3) := by decide +kernel
theorem dX1_lay_46 : decode cX1_lay 46 = .ok (.aload_n 0, 1) := by decide +kernel
theorem dX1_lay_47 : decode cX1_lay 47 = .ok (.getfield 32, 3) := by decide +kernel
theorem dX1_lay_50 : decode cX1_lay 50 = .ok (.iload 5, 2) := by decide +kernel
theorem dX1_lay_52 : decode cX1_lay 52 = .ok (.iload 7, 2) := by decide +kernel
theorem dX1_lay_54 : decode cX1_lay 54 = .ok (.invokevirtual 71, 3) := by decide +kernel
theorem dX1_lay_57 : decode cX1_lay 57 = .ok (.dup2, 1) := by decide +kernel
theorem dX1_lay_58 : decode cX1_lay 58 = .ok (.iaload, 1) := by decide +kernel
theorem dX1_lay_59 : decode cX1_lay 59 = .ok (.iload 6, 2) := by decide +kernel
theorem dX1_lay_61 : decode cX1_lay 61 = .ok (.aload_n 0, 1) := by decide +kernel
theorem dX1_lay_62 : decode cX1_lay 62 = .ok (.getfield 32, 3) := by decide +kernel
theorem dX1_lay_65 : decode cX1_lay 65 = .ok (.iload 5, 2) := by decide +kernel
theorem dX1_lay_67 : decode cX1_lay 67 = .ok (.iload 7, 2) := by decide +kernel
theorem dX1_lay_69 : decode cX1_lay 69 = .ok (.invokevirtual 74, 3) := by decide +kernel
theorem dX1_lay_72 : decode cX1_lay 72 = .ok (.imul, 1) := by decide +kernel
theorem dX1_lay_73 : decode cX1_lay 73 = .ok (.iadd, 1) := by decide +kernel
theorem dX1_lay_74 : decode cX1_lay 74 = .ok (.iastore, 1) := by decide +kernel
theorem dX1_lay_75 : decode cX1_lay 75 = .ok (.iinc 7 1, 3) := by decide +kernel
theorem dX1_lay_78 : decode cX1_lay 78 = .ok (.goto (-50), 3) := by decide +kernel
theorem dX1_lay_81 : decode cX1_lay 81 = .ok (.aload_n 0, 1) := by decide +kernel
theorem dX1_lay_82 : decode cX1_lay 82 = .ok (.getfield 17, 3) := by decide +kernel
theorem dX1_lay_85 : decode cX1_lay 85 = .ok (.iload 5, 2) := by decide +kernel
theorem dX1_lay_87 : decode cX1_lay 87 = .ok (.dup2, 1) := by decide +kernel
theorem dX1_lay_88 : decode cX1_lay 88 = .ok (.iaload, 1) := by decide +kernel
theorem dX1_lay_89 : decode cX1_lay 89 = .ok (.iload 4, 2) := by decide +kernel
theorem dX1_lay_91 : decode cX1_lay 91 = .ok (.iadd, 1) := by decide +kernel
theorem dX1_lay_92 : decode cX1_lay 92 = .ok (.iastore, 1) := by decide +kernel
theorem dX1_lay_93 : decode cX1_lay 93 = .ok (.return_, 1) := by decide +kernel
theorem dX1_goOn_0 : decode cX1_goOn 0 = .ok (.aload_n 0, 1) := by decide +kernel
theorem dX1_goOn_1 : decode cX1_goOn 1 = .ok (.getfield 25, 3) := by decide +kernel
theorem dX1_goOn_4 : decode cX1_goOn 4 = .ok (.iload_n 1, 1) := by decide +kernel
theorem dX1_goOn_5 : decode cX1_goOn 5 = .ok (.invokevirtual 77, 3) := by decide +kernel
theorem dX1_goOn_8 : decode cX1_goOn 8 = .ok (.ifCond .eq 4, 3) := by decide +kernel
theorem dX1_goOn_11 : decode cX1_goOn 11 = .ok (.return_, 1) := by decide +kernel
theorem dX1_goOn_12 : decode cX1_goOn 12 = .ok (.aload_n 0, 1) := by decide +kernel
theorem dX1_goOn_13 : decode cX1_goOn 13 = .ok (.getfield 25, 3) := by decide +kernel
theorem dX1_goOn_16 : decode cX1_goOn 16 = .ok (.iload_n 1, 1) := by decide +kernel
theorem dX1_goOn_17 : decode cX1_goOn 17 = .ok (.invokevirtual 81, 3) := by decide +kernel
theorem dX1_goOn_20 : decode cX1_goOn 20 = .ok (.istore_n 3, 1) := by decide +kernel
theorem dX1_goOn_21 : decode cX1_goOn 21 = .ok (.iload_n 3, 1) := by decide +kernel
theorem dX1_goOn_22 : decode cX1_goOn 22 = .ok (.iconst (-1), 1) := by decide +kernel
theorem dX1_goOn_23 : decode cX1_goOn 23 = .ok (.if_icmp .eq 11, 3) := by decide +kernel
theorem dX1_goOn_26 : decode cX1_goOn 26 = .ok (.aload_n 0, 1) := by decide +kernel
theorem dX1_goOn_27 : decode cX1_goOn 27 = .ok (.iload_n 1, 1) := by decide +kernel
theorem dX1_goOn_28 : decode cX1_goOn 28 = .ok (.iload_n 3, 1) := by decide +kernel
theorem dX1_goOn_29 : decode cX1_goOn 29 = .ok (.iload_n 2, 1) := by decide +kernel
theorem dX1_goOn_30 : decode cX1_goOn 30 = .ok (.iconst 1, 1) := by decide +kernel
theorem dX1_goOn_31 : decode cX1_goOn 31 = .ok (.invokevirtual 56, 3) := by decide +kernel
theorem dX1_goOn_34 : decode cX1_goOn 34 = .ok (.aload_n 0, 1) := by decide +kernel
theorem dX1_goOn_35 : decode cX1_goOn 35 = .ok (.getfield 25, 3) := by decide +kernel
theorem dX1_goOn_38 : decode cX1_goOn 38 = .ok (.getfield 53, 3) := by decide +kernel
theorem dX1_goOn_41 : decode cX1_goOn 41 = .ok (.iload_n 1, 1) := by decide +kernel
theorem dX1_goOn_42 : decode cX1_goOn 42 = .ok (.bipush 120, 2) := by decide +kernel
theorem dX1_goOn_44 : decode cX1_goOn 44 = .ok (.imul, 1) := by decide +kernel
theorem dX1_goOn_45 : decode cX1_goOn 45 = .ok (.aload_n 0, 1) := by decide +kernel
theorem dX1_goOn_46 : decode cX1_goOn 46 = .ok (.getfield 25, 3) := by decide +kernel
theorem dX1_goOn_49 : decode cX1_goOn 49 = .ok (.getfield 48, 3) := by decide +kernel
theorem dX1_goOn_52 : decode cX1_goOn 52 = .ok (.iload_n 1, 1) := by decide +kernel
theorem dX1_goOn_53 : decode cX1_goOn 53 = .ok (.iaload, 1) := by decide +kernel
theorem dX1_goOn_54 : decode cX1_goOn 54 = .ok (.iadd, 1) := by decide +kernel
theorem dX1_goOn_55 : decode cX1_goOn 55 = .ok (.iload_n 2, 1) := by decide +kernel
theorem dX1_goOn_56 : decode cX1_goOn 56 = .ok (.iastore, 1) := by decide +kernel
theorem dX1_goOn_57 : decode cX1_goOn 57 = .ok (.aload_n 0, 1) := by decide +kernel
theorem dX1_goOn_58 : decode cX1_goOn 58 = .ok (.getfield 25, 3) := by decide +kernel
theorem dX1_goOn_61 : decode cX1_goOn 61 = .ok (.getfield 48, 3) := by decide +kernel
theorem dX1_goOn_64 : decode cX1_goOn 64 = .ok (.iload_n 1, 1) := by decide +kernel
theorem dX1_goOn_65 : decode cX1_goOn 65 = .ok (.dup2, 1) := by decide +kernel
theorem dX1_goOn_66 : decode cX1_goOn 66 = .ok (.iaload, 1) := by decide +kernel
theorem dX1_goOn_67 : decode cX1_goOn 67 = .ok (.iconst 1, 1) := by decide +kernel
theorem dX1_goOn_68 : decode cX1_goOn 68 = .ok (.iadd, 1) := by decide +kernel
theorem dX1_goOn_69 : decode cX1_goOn 69 = .ok (.iastore, 1) := by decide +kernel
theorem dX1_goOn_70 : decode cX1_goOn 70 = .ok (.return_, 1) := by decide +kernel
theorem dX1_goBack_0 : decode cX1_goBack 0 = .ok (.aload_n 0, 1) := by decide +kernel
theorem dX1_goBack_1 : decode cX1_goBack 1 = .ok (.getfield 25, 3) := by decide +kernel
theorem dX1_goBack_4 : decode cX1_goBack 4 = .ok (.iload_n 1, 1) := by decide +kernel
theorem dX1_goBack_5 : decode cX1_goBack 5 = .ok (.iconst 2, 1) := by decide +kernel
theorem dX1_goBack_6 : decode cX1_goBack 6 = .ok (.invokevirtual 84, 3) := by decide +kernel
theorem dX1_goBack_9 : decode cX1_goBack 9 = .ok (.istore_n 2, 1) := by decide +kernel
theorem dX1_goBack_10 : decode cX1_goBack 10 = .ok (.iload_n 2, 1) := by decide +kernel
theorem dX1_goBack_11 : decode cX1_goBack 11 = .ok (.iconst (-1), 1) := by decide +kernel
theorem dX1_goBack_12 : decode cX1_goBack 12 = .ok (.if_icmp .eq 18, 3) := by decide +kernel
theorem dX1_goBack_15 : decode cX1_goBack 15 = .ok (.aload_n 0, 1) := by decide +kernel
theorem dX1_goBack_16 : decode cX1_goBack 16 = .ok (.iload_n 1, 1) := by decide +kernel
theorem dX1_goBack_17 : decode cX1_goBack 17 = .ok (.iload_n 2, 1) := by decide +kernel
theorem dX1_goBack_18 : decode cX1_goBack 18 = .ok (.aload_n 0, 1) := by decide +kernel
theorem dX1_goBack_19 : decode cX1_goBack 19 = .ok (.getfield 25, 3) := by decide +kernel
theorem dX1_goBack_22 : decode cX1_goBack 22 = .ok (.iload_n 1, 1) := by decide +kernel
theorem dX1_goBack_23 : decode cX1_goBack 23 = .ok (.invokevirtual 81, 3) := by decide +kernel
theorem dX1_goBack_26 : decode cX1_goBack 26 = .ok (.iconst (-1), 1) := by decide +kernel
theorem dX1_goBack_27 : decode cX1_goBack 27 = .ok (.invokevirtual 56, 3) := by decide +kernel
theorem dX1_goBack_30 : decode cX1_goBack 30 = .ok (.aload_n 0, 1) := by decide +kernel
theorem dX1_goBack_31 : decode cX1_goBack 31 = .ok (.getfield 25, 3) := by decide +kernel
theorem dX1_goBack_34 : decode cX1_goBack 34 = .ok (.getfield 48, 3) := by decide +kernel
theorem dX1_goBack_37 : decode cX1_goBack 37 = .ok (.iload_n 1, 1) := by decide +kernel
theorem dX1_goBack_38 : decode cX1_goBack 38 = .ok (.aload_n 0, 1) := by decide +kernel
theorem dX1_goBack_39 : decode cX1_goBack 39 = .ok (.getfield 25, 3) := by decide +kernel
theorem dX1_goBack_42 : decode cX1_goBack 42 = .ok (.getfield 48, 3) := by decide +kernel
theorem dX1_goBack_45 : decode cX1_goBack 45 = .ok (.iload_n 1, 1) := by decide +kernel
theorem dX1_goBack_46 : decode cX1_goBack 46 = .ok (.iaload, 1) := by decide +kernel
theorem dX1_goBack_47 : decode cX1_goBack 47 = .ok (.iconst 1, 1) := by decide +kernel
theorem dX1_goBack_48 : decode cX1_goBack 48 = .ok (.isub, 1) := by decide +kernel
theorem dX1_goBack_49 : decode cX1_goBack 49 = .ok (.iconst 0, 1) := by decide +kernel
theorem dX1_goBack_50 : decode cX1_goBack 50 = .ok (.invokestatic 87, 3) := by decide +kernel
theorem dX1_goBack_53 : decode cX1_goBack 53 = .ok (.iastore, 1) := by decide +kernel
theorem dX1_goBack_54 : decode cX1_goBack 54 = .ok (.return_, 1) := by decide +kernel
theorem dX1_mayGo_0 : decode cX1_mayGo 0 = .ok (.aload_n 0, 1) := by decide +kernel
theorem dX1_mayGo_1 : decode cX1_mayGo 1 = .ok (.getfield 25, 3) := by decide +kernel
theorem dX1_mayGo_4 : decode cX1_mayGo 4 = .ok (.iload_n 1, 1) := by decide +kernel
theorem dX1_mayGo_5 : decode cX1_mayGo 5 = .ok (.invokevirtual 81, 3) := by decide +kernel
theorem dX1_mayGo_8 : decode cX1_mayGo 8 = .ok (.istore_n 3, 1) := by decide +kernel
theorem dX1_mayGo_9 : decode cX1_mayGo 9 = .ok (.iload_n 3, 1) := by decide +kernel
theorem dX1_mayGo_10 : decode cX1_mayGo 10 = .ok (.iload_n 2, 1) := by decide +kernel
theorem dX1_mayGo_11 : decode cX1_mayGo 11 = .ok (.if_icmp .eq 14, 3) := by decide +kernel
theorem dX1_mayGo_14 : decode cX1_mayGo 14 = .ok (.aload_n 0, 1) := by decide +kernel
theorem dX1_mayGo_15 : decode cX1_mayGo 15 = .ok (.getfield 25, 3) := by decide +kernel
theorem dX1_mayGo_18 : decode cX1_mayGo 18 = .ok (.iload_n 1, 1) := by decide +kernel
theorem dX1_mayGo_19 : decode cX1_mayGo 19 = .ok (.invokevirtual 77, 3) := by decide +kernel
theorem dX1_mayGo_22 : decode cX1_mayGo 22 = .ok (.ifCond .eq 5, 3) := by decide +kernel
theorem dX1_mayGo_25 : decode cX1_mayGo 25 = .ok (.iconst 0, 1) := by decide +kernel
theorem dX1_mayGo_26 : decode cX1_mayGo 26 = .ok (.ireturn, 1) := by decide +kernel
theorem dX1_mayGo_27 : decode cX1_mayGo 27 = .ok (.iload_n 3, 1) := by decide +kernel
theorem dX1_mayGo_28 : decode cX1_mayGo 28 = .ok (.iconst (-1), 1) := by decide +kernel
theorem dX1_mayGo_29 : decode cX1_mayGo 29 = .ok (.if_icmp .eq 16, 3) := by decide +kernel
theorem dX1_mayGo_32 : decode cX1_mayGo 32 = .ok (.aload_n 0, 1) := by decide +kernel
theorem dX1_mayGo_33 : decode cX1_mayGo 33 = .ok (.getfield 25, 3) := by decide +kernel
theorem dX1_mayGo_36 : decode cX1_mayGo 36 = .ok (.getfield 92, 3) := by decide +kernel
theorem dX1_mayGo_39 : decode cX1_mayGo 39 = .ok (.getfield 96, 3) := by decide +kernel
theorem dX1_mayGo_42 : decode cX1_mayGo 42 = .ok (.ifCond .ne 5, 3) := by decide +kernel
theorem dX1_mayGo_45 : decode cX1_mayGo 45 = .ok (.iconst 1, 1) := by decide +kernel
theorem dX1_mayGo_46 : decode cX1_mayGo 46 = .ok (.ireturn, 1) := by decide +kernel
theorem dX1_mayGo_47 : decode cX1_mayGo 47 = .ok (.aload_n 0, 1) := by decide +kernel
theorem dX1_mayGo_48 : decode cX1_mayGo 48 = .ok (.getfield 22, 3) := by decide +kernel
theorem dX1_mayGo_51 : decode cX1_mayGo 51 = .ok (.iconst 0, 1) := by decide +kernel
theorem dX1_mayGo_52 : decode cX1_mayGo 52 = .ok (.iload_n 3, 1) := by decide +kernel
theorem dX1_mayGo_53 : decode cX1_mayGo 53 = .ok (.iastore, 1) := by decide +kernel
theorem dX1_mayGo_54 : decode cX1_mayGo 54 = .ok (.aload_n 0, 1) := by decide +kernel
theorem dX1_mayGo_55 : decode cX1_mayGo 55 = .ok (.getfield 22, 3) := by decide +kernel
theorem dX1_mayGo_58 : decode cX1_mayGo 58 = .ok (.iconst 1, 1) := by decide +kernel
theorem dX1_mayGo_59 : decode cX1_mayGo 59 = .ok (.iload_n 2, 1) := by decide +kernel
theorem dX1_mayGo_60 : decode cX1_mayGo 60 = .ok (.iastore, 1) := by decide +kernel
theorem dX1_mayGo_61 : decode cX1_mayGo 61 = .ok (.aload_n 0, 1) := by decide +kernel
theorem dX1_mayGo_62 : decode cX1_mayGo 62 = .ok (.getfield 22, 3) := by decide +kernel
theorem dX1_mayGo_65 : decode cX1_mayGo 65 = .ok (.iconst 2, 1) := by decide +kernel
theorem dX1_mayGo_66 : decode cX1_mayGo 66 = .ok (.aload_n 0, 1) := by decide +kernel
theorem dX1_mayGo_67 : decode cX1_mayGo 67 = .ok (.getfield 25, 3) := by decide +kernel
theorem dX1_mayGo_70 : decode cX1_mayGo 70 = .ok (.iload_n 3, 1) := by decide +kernel
theorem dX1_mayGo_71 : decode cX1_mayGo 71 = .ok (.iload_n 2, 1) := by decide +kernel
theorem dX1_mayGo_72 : decode cX1_mayGo 72 = .ok (.invokevirtual 100, 3) := by decide +kernel
theorem dX1_mayGo_75 : decode cX1_mayGo 75 = .ok (.iastore, 1) := by decide +kernel
theorem dX1_mayGo_76 : decode cX1_mayGo 76 = .ok (.aload_n 0, 1) := by decide +kernel
theorem dX1_mayGo_77 : decode cX1_mayGo 77 = .ok (.getfield 22, 3) := by decide +kernel
theorem dX1_mayGo_80 : decode cX1_mayGo 80 = .ok (.iconst 3, 1) := by decide +kernel
theorem dX1_mayGo_81 : decode cX1_mayGo 81 = .ok (.aload_n 0, 1) := by decide +kernel
theorem dX1_mayGo_82 : decode cX1_mayGo 82 = .ok (.getfield 17, 3) := by decide +kernel
theorem dX1_mayGo_85 : decode cX1_mayGo 85 = .ok (.iload_n 3, 1) := by decide +kernel
theorem dX1_mayGo_86 : decode cX1_mayGo 86 = .ok (.iload_n 2, 1) := by decide +kernel
theorem dX1_mayGo_87 : decode cX1_mayGo 87 = .ok (.invokestatic 103, 3) := by decide +kernel
theorem dX1_mayGo_90 : decode cX1_mayGo 90 = .ok (.iaload, 1) := by decide +kernel
theorem dX1_mayGo_91 : decode cX1_mayGo 91 = .ok (.iastore, 1) := by decide +kernel
theorem dX1_mayGo_92 : decode cX1_mayGo 92 = .ok (.aload_n 0, 1) := by decide +kernel
theorem dX1_mayGo_93 : decode cX1_mayGo 93 = .ok (.getfield 22, 3) := by decide +kernel
theorem dX1_mayGo_96 : decode cX1_mayGo 96 = .ok (.iconst 4, 1) := by decide +kernel
theorem dX1_mayGo_97 : decode cX1_mayGo 97 = .ok (.iload_n 1, 1) := by decide +kernel
theorem dX1_mayGo_98 : decode cX1_mayGo 98 = .ok (.iastore, 1) := by decide +kernel
theorem dX1_mayGo_99 : decode cX1_mayGo 99 = .ok (.aload_n 0, 1) := by decide +kernel
theorem dX1_mayGo_100 : decode cX1_mayGo 100 = .ok (.getfield 22, 3) := by decide +kernel
theorem dX1_mayGo_103 : decode cX1_mayGo 103 = .ok (.iconst 5, 1) := by decide +kernel
theorem dX1_mayGo_104 : decode cX1_mayGo 104 = .ok (.aload_n 0, 1) := by decide +kernel
theorem dX1_mayGo_105 : decode cX1_mayGo 105 = .ok (.getfield 25, 3) := by decide +kernel
theorem dX1_mayGo_108 : decode cX1_mayGo 108 = .ok (.getfield 48, 3) := by decide +kernel
theorem dX1_mayGo_111 : decode cX1_mayGo 111 = .ok (.iload_n 1, 1) := by decide +kernel
theorem dX1_mayGo_112 : decode cX1_mayGo 112 = .ok (.iaload, 1) := by decide +kernel
theorem dX1_mayGo_113 : decode cX1_mayGo 113 = .ok (.iastore, 1) := by decide +kernel
theorem dX1_mayGo_114 : decode cX1_mayGo 114 = .ok (.aload_n 0, 1) := by decide +kernel
theorem dX1_mayGo_115 : decode cX1_mayGo 115 = .ok (.getfield 22, 3) := by decide +kernel
theorem dX1_mayGo_118 : decode cX1_mayGo 118 = .ok (.bipush 6, 2) := by decide +kernel
theorem dX1_mayGo_120 : decode cX1_mayGo 120 = .ok (.aload_n 0, 1) := by decide +kernel
theorem dX1_mayGo_121 : decode cX1_mayGo 121 = .ok (.getfield 25, 3) := by decide +kernel
theorem dX1_mayGo_124 : decode cX1_mayGo 124 = .ok (.iload_n 1, 1) := by decide +kernel
theorem dX1_mayGo_125 : decode cX1_mayGo 125 = .ok (.iconst 2, 1) := by decide +kernel
theorem dX1_mayGo_126 : decode cX1_mayGo 126 = .ok (.invokevirtual 84, 3) := by decide +kernel
theorem dX1_mayGo_129 : decode cX1_mayGo 129 = .ok (.iload_n 2, 1) := by decide +kernel
theorem dX1_mayGo_130 : decode cX1_mayGo 130 = .ok (.if_icmp .ne 7, 3) := by decide +kernel
theorem dX1_mayGo_133 : decode cX1_mayGo 133 = .ok (.iconst 1, 1) := by decide +kernel
theorem dX1_mayGo_134 : decode cX1_mayGo 134 = .ok (.goto 4, 3) := by decide +kernel
theorem dX1_mayGo_137 : decode cX1_mayGo 137 = .ok (.iconst 0, 1) := by decide +kernel
theorem dX1_mayGo_138 : decode cX1_mayGo 138 = .ok (.iastore, 1) := by decide +kernel
theorem dX1_mayGo_139 : decode cX1_mayGo 139 = .ok (.aload_n 0, 1) := by decide +kernel
theorem dX1_mayGo_140 : decode cX1_mayGo 140 = .ok (.getfield 22, 3) := by decide +kernel
theorem dX1_mayGo_143 : decode cX1_mayGo 143 = .ok (.bipush 7, 2) := by decide +kernel
theorem dX1_mayGo_145 : decode cX1_mayGo 145 = .ok (.aload_n 0, 1) := by decide +kernel
theorem dX1_mayGo_146 : decode cX1_mayGo 146 = .ok (.getfield 25, 3) := by decide +kernel
theorem dX1_mayGo_149 : decode cX1_mayGo 149 = .ok (.getfield 64, 3) := by decide +kernel
theorem dX1_mayGo_152 : decode cX1_mayGo 152 = .ok (.iload_n 1, 1) := by decide +kernel
theorem dX1_mayGo_153 : decode cX1_mayGo 153 = .ok (.iaload, 1) := by decide +kernel
theorem dX1_mayGo_154 : decode cX1_mayGo 154 = .ok (.iastore, 1) := by decide +kernel
theorem dX1_mayGo_155 : decode cX1_mayGo 155 = .ok (.aload_n 0, 1) := by decide +kernel
theorem dX1_mayGo_156 : decode cX1_mayGo 156 = .ok (.getfield 25, 3) := by decide +kernel
theorem dX1_mayGo_159 : decode cX1_mayGo 159 = .ok (.getfield 92, 3) := by decide +kernel
theorem dX1_mayGo_162 : decode cX1_mayGo 162 = .ok (.aload_n 0, 1) := by decide +kernel
theorem dX1_mayGo_163 : decode cX1_mayGo 163 = .ok (.getfield 22, 3) := by decide +kernel
theorem dX1_mayGo_166 : decode cX1_mayGo 166 = .ok (.invokevirtual 106, 3) := by decide +kernel
theorem dX1_mayGo_169 : decode cX1_mayGo 169 = .ok (.ireturn, 1) := by decide +kernel
theorem dX1_farOf_0 : decode cX1_farOf 0 = .ok (.iload_n 1, 1) := by decide +kernel
theorem dX1_farOf_1 : decode cX1_farOf 1 = .ok (.bipush 64, 2) := by decide +kernel
theorem dX1_farOf_3 : decode cX1_farOf 3 = .ok (.imul, 1) := by decide +kernel
theorem dX1_farOf_4 : decode cX1_farOf 4 = .ok (.istore_n 2, 1) := by decide +kernel
theorem dX1_farOf_5 : decode cX1_farOf 5 = .ok (.iconst 0, 1) := by decide +kernel
theorem dX1_farOf_6 : decode cX1_farOf 6 = .ok (.istore_n 3, 1) := by decide +kernel
theorem dX1_farOf_7 : decode cX1_farOf 7 = .ok (.iconst 0, 1) := by decide +kernel
theorem dX1_farOf_8 : decode cX1_farOf 8 = .ok (.istore 4, 2) := by decide +kernel
theorem dX1_farOf_10 : decode cX1_farOf 10 = .ok (.iload 4, 2) := by decide +kernel
theorem dX1_farOf_12 : decode cX1_farOf 12 = .ok (.bipush 64, 2) := by decide +kernel
theorem dX1_farOf_14 : decode cX1_farOf 14 = .ok (.if_icmp .ge 46, 3) := by decide +kernel
theorem dX1_farOf_17 : decode cX1_farOf 17 = .ok (.iload_n 3, 1) := by decide +kernel
theorem dX1_farOf_18 : decode cX1_farOf 18 = .ok (.aload_n 0, 1) := by decide +kernel
theorem dX1_farOf_19 : decode cX1_farOf 19 = .ok (.getfield 25, 3) := by decide +kernel
theorem dX1_farOf_22 : decode cX1_farOf 22 = .ok (.getfield 110, 3) := by decide +kernel
theorem dX1_farOf_25 : decode cX1_farOf 25 = .ok (.iload 4, 2) := by decide +kernel
theorem dX1_farOf_27 : decode cX1_farOf 27 = .ok (.iaload, 1) := by decide +kernel
theorem dX1_farOf_28 : decode cX1_farOf 28 = .ok (.aload_n 0, 1) := by decide +kernel
theorem dX1_farOf_29 : decode cX1_farOf 29 = .ok (.getfield 25, 3) := by decide +kernel
theorem dX1_farOf_32 : decode cX1_farOf 32 = .ok (.getfield 113, 3) := by decide +kernel
theorem dX1_farOf_35 : decode cX1_farOf 35 = .ok (.iload_n 2, 1) := by decide +kernel
theorem dX1_farOf_36 : decode cX1_farOf 36 = .ok (.iload 4, 2) := by decide +kernel
theorem dX1_farOf_38 : decode cX1_farOf 38 = .ok (.iadd, 1) := by decide +kernel
theorem dX1_farOf_39 : decode cX1_farOf 39 = .ok (.iaload, 1) := by decide +kernel
theorem dX1_farOf_40 : decode cX1_farOf 40 = .ok (.aload_n 0, 1) := by decide +kernel
theorem dX1_farOf_41 : decode cX1_farOf 41 = .ok (.getfield 9, 3) := by decide +kernel
theorem dX1_farOf_44 : decode cX1_farOf 44 = .ok (.iload 4, 2) := by decide +kernel
theorem dX1_farOf_46 : decode cX1_farOf 46 = .ok (.iaload, 1) := by decide +kernel
theorem dX1_farOf_47 : decode cX1_farOf 47 = .ok (.isub, 1) := by decide +kernel
theorem dX1_farOf_48 : decode cX1_farOf 48 = .ok (.invokestatic 116, 3) := by decide +kernel
theorem dX1_farOf_51 : decode cX1_farOf 51 = .ok (.imul, 1) := by decide +kernel
theorem dX1_farOf_52 : decode cX1_farOf 52 = .ok (.iadd, 1) := by decide +kernel
theorem dX1_farOf_53 : decode cX1_farOf 53 = .ok (.istore_n 3, 1) := by decide +kernel
theorem dX1_farOf_54 : decode cX1_farOf 54 = .ok (.iinc 4 1, 3) := by decide +kernel
theorem dX1_farOf_57 : decode cX1_farOf 57 = .ok (.goto (-47), 3) := by decide +kernel
theorem dX1_farOf_60 : decode cX1_farOf 60 = .ok (.iload_n 3, 1) := by decide +kernel
theorem dX1_farOf_61 : decode cX1_farOf 61 = .ok (.ireturn, 1) := by decide +kernel
theorem dX1_gainBy_0 : decode cX1_gainBy 0 = .ok (.iload_n 1, 1) := by decide +kernel
theorem dX1_gainBy_1 : decode cX1_gainBy 1 = .ok (.bipush 64, 2) := by decide +kernel
theorem dX1_gainBy_3 : decode cX1_gainBy 3 = .ok (.imul, 1) := by decide +kernel
theorem dX1_gainBy_4 : decode cX1_gainBy 4 = .ok (.istore 4, 2) := by decide +kernel
theorem dX1_gainBy_6 : decode cX1_gainBy 6 = .ok (.iconst 0, 1) := by decide +kernel
theorem dX1_gainBy_7 : decode cX1_gainBy 7 = .ok (.istore 5, 2) := by decide +kernel
theorem dX1_gainBy_9 : decode cX1_gainBy 9 = .ok (.iconst 0, 1) := by decide +kernel
theorem dX1_gainBy_10 : decode cX1_gainBy 10 = .ok (.istore 6, 2) := by decide +kernel
theorem dX1_gainBy_12 : decode cX1_gainBy 12 = .ok (.iload 6, 2) := by decide +kernel
theorem dX1_gainBy_14 : decode cX1_gainBy 14 = .ok (.aload_n 0, 1) := by decide +kernel
theorem dX1_gainBy_15 : decode cX1_gainBy 15 = .ok (.getfield 32, 3) := by decide +kernel
theorem dX1_gainBy_18 : decode cX1_gainBy 18 = .ok (.iload_n 2, 1) := by decide +kernel
theorem dX1_gainBy_19 : decode cX1_gainBy 19 = .ok (.invokevirtual 67, 3) := by decide +kernel
theorem dX1_gainBy_22 : decode cX1_gainBy 22 = .ok (.if_icmp .ge 88, 3) := by decide +kernel
theorem dX1_gainBy_25 : decode cX1_gainBy 25 = .ok (.aload_n 0, 1) := by decide +kernel
theorem dX1_gainBy_26 : decode cX1_gainBy 26 = .ok (.getfield 32, 3) := by decide +kernel
theorem dX1_gainBy_29 : decode cX1_gainBy 29 = .ok (.iload_n 2, 1) := by decide +kernel
theorem dX1_gainBy_30 : decode cX1_gainBy 30 = .ok (.iload 6, 2) := by decide +kernel
theorem dX1_gainBy_32 : decode cX1_gainBy 32 = .ok (.invokevirtual 71, 3) := by decide +kernel
theorem dX1_gainBy_35 : decode cX1_gainBy 35 = .ok (.istore 7, 2) := by decide +kernel
theorem dX1_gainBy_37 : decode cX1_gainBy 37 = .ok (.aload_n 0, 1) := by decide +kernel
theorem dX1_gainBy_38 : decode cX1_gainBy 38 = .ok (.getfield 25, 3) := by decide +kernel
theorem dX1_gainBy_41 : decode cX1_gainBy 41 = .ok (.getfield 113, 3) := by decide +kernel
theorem dX1_gainBy_44 : decode cX1_gainBy 44 = .ok (.iload 4, 2) := by decide +kernel
theorem dX1_gainBy_46 : decode cX1_gainBy 46 = .ok (.iload 7, 2) := by decide +kernel
theorem dX1_gainBy_48 : decode cX1_gainBy 48 = .ok (.iadd, 1) := by decide +kernel
theorem dX1_gainBy_49 : decode cX1_gainBy 49 = .ok (.iaload, 1) := by decide +kernel
theorem dX1_gainBy_50 : decode cX1_gainBy 50 = .ok (.aload_n 0, 1) := by decide +kernel
theorem dX1_gainBy_51 : decode cX1_gainBy 51 = .ok (.getfield 9, 3) := by decide +kernel
theorem dX1_gainBy_54 : decode cX1_gainBy 54 = .ok (.iload 7, 2) := by decide +kernel
theorem dX1_gainBy_56 : decode cX1_gainBy 56 = .ok (.iaload, 1) := by decide +kernel
theorem dX1_gainBy_57 : decode cX1_gainBy 57 = .ok (.isub, 1) := by decide +kernel
theorem dX1_gainBy_58 : decode cX1_gainBy 58 = .ok (.istore 8, 2) := by decide +kernel
theorem dX1_gainBy_60 : decode cX1_gainBy 60 = .ok (.iload 8, 2) := by decide +kernel
theorem dX1_gainBy_62 : decode cX1_gainBy 62 = .ok (.iload_n 3, 1) := by decide +kernel
theorem dX1_gainBy_63 : decode cX1_gainBy 63 = .ok (.aload_n 0, 1) := by decide +kernel
theorem dX1_gainBy_64 : decode cX1_gainBy 64 = .ok (.getfield 32, 3) := by decide +kernel
theorem dX1_gainBy_67 : decode cX1_gainBy 67 = .ok (.iload_n 2, 1) := by decide +kernel
theorem dX1_gainBy_68 : decode cX1_gainBy 68 = .ok (.iload 6, 2) := by decide +kernel
theorem dX1_gainBy_70 : decode cX1_gainBy 70 = .ok (.invokevirtual 74, 3) := by decide +kernel
theorem dX1_gainBy_73 : decode cX1_gainBy 73 = .ok (.imul, 1) := by decide +kernel
theorem dX1_gainBy_74 : decode cX1_gainBy 74 = .ok (.isub, 1) := by decide +kernel
theorem dX1_gainBy_75 : decode cX1_gainBy 75 = .ok (.istore 9, 2) := by decide +kernel
theorem dX1_gainBy_77 : decode cX1_gainBy 77 = .ok (.iload 5, 2) := by decide +kernel
theorem dX1_gainBy_79 : decode cX1_gainBy 79 = .ok (.aload_n 0, 1) := by decide +kernel
theorem dX1_gainBy_80 : decode cX1_gainBy 80 = .ok (.getfield 25, 3) := by decide +kernel
theorem dX1_gainBy_83 : decode cX1_gainBy 83 = .ok (.getfield 110, 3) := by decide +kernel
theorem dX1_gainBy_86 : decode cX1_gainBy 86 = .ok (.iload 7, 2) := by decide +kernel
theorem dX1_gainBy_88 : decode cX1_gainBy 88 = .ok (.iaload, 1) := by decide +kernel
theorem dX1_gainBy_89 : decode cX1_gainBy 89 = .ok (.iload 8, 2) := by decide +kernel
theorem dX1_gainBy_91 : decode cX1_gainBy 91 = .ok (.invokestatic 116, 3) := by decide +kernel
theorem dX1_gainBy_94 : decode cX1_gainBy 94 = .ok (.iload 9, 2) := by decide +kernel
theorem dX1_gainBy_96 : decode cX1_gainBy 96 = .ok (.invokestatic 116, 3) := by decide +kernel
theorem dX1_gainBy_99 : decode cX1_gainBy 99 = .ok (.isub, 1) := by decide +kernel
theorem dX1_gainBy_100 : decode cX1_gainBy 100 = .ok (.imul, 1) := by decide +kernel
theorem dX1_gainBy_101 : decode cX1_gainBy 101 = .ok (.iadd, 1) := by decide +kernel
theorem dX1_gainBy_102 : decode cX1_gainBy 102 = .ok (.istore 5, 2) := by decide +kernel
theorem dX1_gainBy_104 : decode cX1_gainBy 104 = .ok (.iinc 6 1, 3) := by decide +kernel
theorem dX1_gainBy_107 : decode cX1_gainBy 107 = .ok (.goto (-95), 3) := by decide +kernel
theorem dX1_gainBy_110 : decode cX1_gainBy 110 = .ok (.iload 5, 2) := by decide +kernel
theorem dX1_gainBy_112 : decode cX1_gainBy 112 = .ok (.ireturn, 1) := by decide +kernel
theorem dX2_init_0 : decode cX2_init 0 = .ok (.aload_n 0, 1) := by decide +kernel
theorem dX2_init_1 : decode cX2_init 1 = .ok (.invokespecial 3, 3) := by decide +kernel
theorem dX2_init_4 : decode cX2_init 4 = .ok (.aload_n 0, 1) := by decide +kernel
theorem dX2_init_5 : decode cX2_init 5 = .ok (.bipush 64, 2) := by decide +kernel
theorem dX2_init_7 : decode cX2_init 7 = .ok (.newarray .int, 2) := by decide +kernel
theorem dX2_init_9 : decode cX2_init 9 = .ok (.putfield 9, 3) := by decide +kernel
theorem dX2_init_12 : decode cX2_init 12 = .ok (.aload_n 0, 1) := by decide +kernel
theorem dX2_init_13 : decode cX2_init 13 = .ok (.aload_n 1, 1) := by decide +kernel
theorem dX2_init_14 : decode cX2_init 14 = .ok (.putfield 15, 3) := by decide +kernel
theorem dX2_init_17 : decode cX2_init 17 = .ok (.aload_n 0, 1) := by decide +kernel
theorem dX2_init_18 : decode cX2_init 18 = .ok (.aload_n 2, 1) := by decide +kernel
theorem dX2_init_19 : decode cX2_init 19 = .ok (.putfield 19, 3) := by decide +kernel
theorem dX2_init_22 : decode cX2_init 22 = .ok (.return_, 1) := by decide +kernel
theorem dX2_tryAll_0 : decode cX2_tryAll 0 = .ok (.aload_n 0, 1) := by decide +kernel
theorem dX2_tryAll_1 : decode cX2_tryAll 1 = .ok (.iconst 0, 1) := by decide +kernel
theorem dX2_tryAll_2 : decode cX2_tryAll 2 = .ok (.putfield 23, 3) := by decide +kernel
theorem dX2_tryAll_5 : decode cX2_tryAll 5 = .ok (.aload_n 0, 1) := by decide +kernel
theorem dX2_tryAll_6 : decode cX2_tryAll 6 = .ok (.iconst 0, 1) := by decide +kernel
theorem dX2_tryAll_7 : decode cX2_tryAll 7 = .ok (.putfield 27, 3) := by decide +kernel
theorem dX2_tryAll_10 : decode cX2_tryAll 10 = .ok (.iconst 0, 1) := by decide +kernel
theorem dX2_tryAll_11 : decode cX2_tryAll 11 = .ok (.istore_n 1, 1) := by decide +kernel
theorem dX2_tryAll_12 : decode cX2_tryAll 12 = .ok (.iload_n 1, 1) := by decide +kernel
theorem dX2_tryAll_13 : decode cX2_tryAll 13 = .ok (.bipush 64, 2) := by decide +kernel
theorem dX2_tryAll_15 : decode cX2_tryAll 15 = .ok (.if_icmp .ge 47, 3) := by decide +kernel
theorem dX2_tryAll_18 : decode cX2_tryAll 18 = .ok (.aload_n 0, 1) := by decide +kernel
theorem dX2_tryAll_19 : decode cX2_tryAll 19 = .ok (.getfield 9, 3) := by decide +kernel
theorem dX2_tryAll_22 : decode cX2_tryAll 22 = .ok (.iload_n 1, 1) := by decide +kernel
theorem dX2_tryAll_23 : decode cX2_tryAll 23 = .ok (.aload_n 0, 1) := by decide +kernel
theorem dX2_tryAll_24 : decode cX2_tryAll 24 = .ok (.getfield 15, 3) := by decide +kernel
theorem dX2_tryAll_27 : decode cX2_tryAll 27 = .ok (.getfield 30, 3) := by decide +kernel
theorem dX2_tryAll_30 : decode cX2_tryAll 30 = .ok (.iload_n 1, 1) := by decide +kernel
theorem dX2_tryAll_31 : decode cX2_tryAll 31 = .ok (.iaload, 1) := by decide +kernel
theorem dX2_tryAll_32 : decode cX2_tryAll 32 = .ok (.iconst 0, 1) := by decide +kernel
theorem dX2_tryAll_33 : decode cX2_tryAll 33 = .ok (.invokestatic 35, 3) := by decide +kernel
theorem dX2_tryAll_36 : decode cX2_tryAll 36 = .ok (.iastore, 1) := by decide +kernel
theorem dX2_tryAll_37 : decode cX2_tryAll 37 = .ok (.aload_n 0, 1) := by decide +kernel
theorem dX2_tryAll_38 : decode cX2_tryAll 38 = .ok (.getfield 9, 3) := by decide +kernel
theorem dX2_tryAll_41 : decode cX2_tryAll 41 = .ok (.iload_n 1, 1) := by decide +kernel
theorem dX2_tryAll_42 : decode cX2_tryAll 42 = .ok (.iaload, 1) := by decide +kernel
theorem dX2_tryAll_43 : decode cX2_tryAll 43 = .ok (.ifCond .eq 13, 3) := by decide +kernel
theorem dX2_tryAll_46 : decode cX2_tryAll 46 = .ok (.aload_n 0, 1) := by decide +kernel
theorem dX2_tryAll_47 : decode cX2_tryAll 47 = .ok (.dup, 1) := by decide +kernel
theorem dX2_tryAll_48 : decode cX2_tryAll 48 = .ok (.getfield 23, 3) := by decide +kernel
theorem dX2_tryAll_51 : decode cX2_tryAll 51 = .ok (.iconst 1, 1) := by decide +kernel
theorem dX2_tryAll_52 : decode cX2_tryAll 52 = .ok (.iadd, 1) := by decide +kernel
theorem dX2_tryAll_53 : decode cX2_tryAll 53 = .ok (.putfield 23, 3) := by decide +kernel
theorem dX2_tryAll_56 : decode cX2_tryAll 56 = .ok (.iinc 1 1, 3) := by decide +kernel
theorem dX2_tryAll_59 : decode cX2_tryAll 59 = .ok (.goto (-47), 3) := by decide +kernel
theorem dX2_tryAll_62 : decode cX2_tryAll 62 = .ok (.aload_n 0, 1) := by decide +kernel
theorem dX2_tryAll_63 : decode cX2_tryAll 63 = .ok (.iconst 0, 1) := by decide +kernel
theorem dX2_tryAll_64 : decode cX2_tryAll 64 = .ok (.putfield 41, 3) := by decide +kernel
theorem dX2_tryAll_67 : decode cX2_tryAll 67 = .ok (.aload_n 0, 1) := by decide +kernel
theorem dX2_tryAll_68 : decode cX2_tryAll 68 = .ok (.iconst (-1), 1) := by decide +kernel
theorem dX2_tryAll_69 : decode cX2_tryAll 69 = .ok (.putfield 44, 3) := by decide +kernel
theorem dX2_tryAll_72 : decode cX2_tryAll 72 = .ok (.aload_n 0, 1) := by decide +kernel
theorem dX2_tryAll_73 : decode cX2_tryAll 73 = .ok (.iconst 0, 1) := by decide +kernel
theorem dX2_tryAll_74 : decode cX2_tryAll 74 = .ok (.putfield 47, 3) := by decide +kernel
theorem dX2_tryAll_77 : decode cX2_tryAll 77 = .ok (.aload_n 0, 1) := by decide +kernel
theorem dX2_tryAll_78 : decode cX2_tryAll 78 = .ok (.aload_n 0, 1) := by decide +kernel
theorem dX2_tryAll_79 : decode cX2_tryAll 79 = .ok (.getfield 15, 3) := by decide +kernel
theorem dX2_tryAll_82 : decode cX2_tryAll 82 = .ok (.getfield 50, 3) := by decide +kernel
theorem dX2_tryAll_85 : decode cX2_tryAll 85 = .ok (.bipush 12, 2) := by decide +kernel
theorem dX2_tryAll_87 : decode cX2_tryAll 87 = .ok (.invokestatic 53, 3) := by decide +kernel
theorem dX2_tryAll_90 : decode cX2_tryAll 90 = .ok (.iconst 1, 1) := by decide +kernel
theorem dX2_tryAll_91 : decode cX2_tryAll 91 = .ok (.isub, 1) := by decide +kernel
theorem dX2_tryAll_92 : decode cX2_tryAll 92 = .ok (.iconst 0, 1) := by decide +kernel
theorem dX2_tryAll_93 : decode cX2_tryAll 93 = .ok (.invokevirtual 56, 3) := by decide +kernel
theorem dX2_tryAll_96 : decode cX2_tryAll 96 = .ok (.return_, 1) := by decide +kernel
theorem dX2_choose_0 : decode cX2_choose 0 = .ok (.iload_n 1, 1) := by decide +kernel
theorem dX2_choose_1 : decode cX2_choose 1 = .ok (.ifCond .ge 16, 3) := by decide +kernel
theorem dX2_choose_4 : decode cX2_choose 4 = .ok (.aload_n 0, 1) := by decide +kernel
theorem dX2_choose_5 : decode cX2_choose 5 = .ok (.getfield 23, 3) := by decide +kernel
theorem dX2_choose_8 : decode cX2_choose 8 = .ok (.ifCond .ne 8, 3) := by decide +kernel
theorem dX2_choose_11 : decode cX2_choose 11 = .ok (.aload_n 0, 1) := by decide +kernel
theorem dX2_choose_12 : decode cX2_choose 12 = .ok (.iload_n 2, 1) := by decide +kernel
theorem dX2_choose_13 : decode cX2_choose 13 = .ok (.invokevirtual 60, 3) := by decide +kernel
theorem dX2_choose_16 : decode cX2_choose 16 = .ok (.return_, 1) := by decide +kernel
theorem dX2_choose_17 : decode cX2_choose 17 = .ok (.aload_n 0, 1) := by decide +kernel
theorem dX2_choose_18 : decode cX2_choose 18 = .ok (.iload_n 1, 1) := by decide +kernel
theorem dX2_choose_19 : decode cX2_choose 19 = .ok (.iconst 1, 1) := by decide +kernel
theorem dX2_choose_20 : decode cX2_choose 20 = .ok (.isub, 1) := by decide +kernel
theorem dX2_choose_21 : decode cX2_choose 21 = .ok (.iload_n 2, 1) := by decide +kernel
theorem dX2_choose_22 : decode cX2_choose 22 = .ok (.invokevirtual 56, 3) := by decide +kernel
theorem dX2_choose_25 : decode cX2_choose 25 = .ok (.aload_n 0, 1) := by decide +kernel
theorem dX2_choose_26 : decode cX2_choose 26 = .ok (.iload_n 1, 1) := by decide +kernel
theorem dX2_choose_27 : decode cX2_choose 27 = .ok (.iconst (-1), 1) := by decide +kernel
theorem dX2_choose_28 : decode cX2_choose 28 = .ok (.invokevirtual 64, 3) := by decide +kernel
theorem dX2_choose_31 : decode cX2_choose 31 = .ok (.aload_n 0, 1) := by decide +kernel
theorem dX2_choose_32 : decode cX2_choose 32 = .ok (.getfield 27, 3) := by decide +kernel
theorem dX2_choose_35 : decode cX2_choose 35 = .ok (.ifCond .ne 15, 3) := by decide +kernel
theorem dX2_choose_38 : decode cX2_choose 38 = .ok (.aload_n 0, 1) := by decide +kernel
theorem dX2_choose_39 : decode cX2_choose 39 = .ok (.iload_n 1, 1) := by decide +kernel
theorem dX2_choose_40 : decode cX2_choose 40 = .ok (.iconst 1, 1) := by decide +kernel
theorem dX2_choose_41 : decode cX2_choose 41 = .ok (.isub, 1) := by decide +kernel
theorem dX2_choose_42 : decode cX2_choose 42 = .ok (.iload_n 2, 1) := by decide +kernel
theorem dX2_choose_43 : decode cX2_choose 43 = .ok (.iconst 1, 1) := by decide +kernel
theorem dX2_choose_44 : decode cX2_choose 44 = .ok (.iload_n 1, 1) := by decide +kernel
theorem dX2_choose_45 : decode cX2_choose 45 = .ok (.ishl, 1) := by decide +kernel
theorem dX2_choose_46 : decode cX2_choose 46 = .ok (.ior, 1) := by decide +kernel
theorem dX2_choose_47 : decode cX2_choose 47 = .ok (.invokevirtual 56, 3) := by decide +kernel
theorem dX2_choose_50 : decode cX2_choose 50 = .ok (.aload_n 0, 1) := by decide +kernel
theorem dX2_choose_51 : decode cX2_choose 51 = .ok (.iload_n 1, 1) := by decide +kernel
theorem dX2_choose_52 : decode cX2_choose 52 = .ok (.iconst 1, 1) := by decide +kernel
theorem dX2_choose_53 : decode cX2_choose 53 = .ok (.invokevirtual 64, 3) := by decide +kernel
theorem dX2_choose_56 : decode cX2_choose 56 = .ok (.return_, 1) := by decide +kernel
theorem dX2_note_0 : decode cX2_note 0 = .ok (.aload_n 0, 1) := by decide +kernel
theorem dX2_note_1 : decode cX2_note 1 = .ok (.getfield 41, 3) := by decide +kernel
theorem dX2_note_4 : decode cX2_note 4 = .ok (.ifCond .ne 13, 3) := by decide +kernel
theorem dX2_note_7 : decode cX2_note 7 = .ok (.aload_n 0, 1) := by decide +kernel
theorem dX2_note_8 : decode cX2_note 8 = .ok (.iload_n 1, 1) := by decide +kernel
theorem dX2_note_9 : decode cX2_note 9 = .ok (.putfield 44, 3) := by decide +kernel
theorem dX2_note_12 : decode cX2_note 12 = .ok (.aload_n 0, 1) := by decide +kernel
theorem dX2_note_13 : decode cX2_note 13 = .ok (.iload_n 1, 1) := by decide +kernel
theorem dX2_note_14 : decode cX2_note 14 = .ok (.putfield 47, 3) := by decide +kernel
theorem dX2_note_17 : decode cX2_note 17 = .ok (.aload_n 0, 1) := by decide +kernel
theorem dX2_note_18 : decode cX2_note 18 = .ok (.dup, 1) := by decide +kernel
theorem dX2_note_19 : decode cX2_note 19 = .ok (.getfield 47, 3) := by decide +kernel
theorem dX2_note_22 : decode cX2_note 22 = .ok (.iload_n 1, 1) := by decide +kernel
theorem dX2_note_23 : decode cX2_note 23 = .ok (.iand, 1) := by decide +kernel
theorem dX2_note_24 : decode cX2_note 24 = .ok (.putfield 47, 3) := by decide +kernel
theorem dX2_note_27 : decode cX2_note 27 = .ok (.aload_n 0, 1) := by decide +kernel
theorem dX2_note_28 : decode cX2_note 28 = .ok (.dup, 1) := by decide +kernel
theorem dX2_note_29 : decode cX2_note 29 = .ok (.getfield 41, 3) := by decide +kernel
theorem dX2_note_32 : decode cX2_note 32 = .ok (.iconst 1, 1) := by decide +kernel
theorem dX2_note_33 : decode cX2_note 33 = .ok (.iadd, 1) := by decide +kernel
theorem dX2_note_34 : decode cX2_note 34 = .ok (.putfield 41, 3) := by decide +kernel
theorem dX2_note_37 : decode cX2_note 37 = .ok (.return_, 1) := by decide +kernel
theorem dX2_take_0 : decode cX2_take 0 = .ok (.aload_n 0, 1) := by decide +kernel
theorem dX2_take_1 : decode cX2_take 1 = .ok (.getfield 19, 3) := by decide +kernel
theorem dX2_take_4 : decode cX2_take 4 = .ok (.aload_n 0, 1) := by decide +kernel
theorem dX2_take_5 : decode cX2_take 5 = .ok (.getfield 15, 3) := by decide +kernel
theorem dX2_take_8 : decode cX2_take 8 = .ok (.getfield 67, 3) := by decide +kernel
theorem dX2_take_11 : decode cX2_take 11 = .ok (.iload_n 1, 1) := by decide +kernel
theorem dX2_take_12 : decode cX2_take 12 = .ok (.iaload, 1) := by decide +kernel
theorem dX2_take_13 : decode cX2_take 13 = .ok (.aload_n 0, 1) := by decide +kernel
theorem dX2_take_14 : decode cX2_take 14 = .ok (.getfield 15, 3) := by decide +kernel
theorem dX2_take_17 : decode cX2_take 17 = .ok (.getfield 70, 3) := by decide +kernel
theorem dX2_take_20 : decode cX2_take 20 = .ok (.iload_n 1, 1) := by decide +kernel
theorem dX2_take_21 : decode cX2_take 21 = .ok (.iaload, 1) := by decide +kernel
theorem dX2_take_22 : decode cX2_take 22 = .ok (.invokevirtual 73, 3) := by decide +kernel
theorem dX2_take_25 : decode cX2_take 25 = .ok (.istore_n 3, 1) := by decide +kernel
theorem dX2_take_26 : decode cX2_take 26 = .ok (.iconst 0, 1) := by decide +kernel
theorem dX2_take_27 : decode cX2_take 27 = .ok (.istore 4, 2) := by decide +kernel
theorem dX2_take_29 : decode cX2_take 29 = .ok (.iload 4, 2) := by decide +kernel
theorem dX2_take_31 : decode cX2_take 31 = .ok (.aload_n 0, 1) := by decide +kernel
theorem dX2_take_32 : decode cX2_take 32 = .ok (.getfield 19, 3) := by decide +kernel
theorem dX2_take_35 : decode cX2_take 35 = .ok (.iload_n 3, 1) := by decide +kernel
theorem dX2_take_36 : decode cX2_take 36 = .ok (.invokevirtual 78, 3) := by decide +kernel
theorem dX2_take_39 : decode cX2_take 39 = .ok (.if_icmp .ge 53, 3) := by decide +kernel
theorem dX2_take_42 : decode cX2_take 42 = .ok (.aload_n 0, 1) := by decide +kernel
theorem dX2_take_43 : decode cX2_take 43 = .ok (.getfield 19, 3) := by decide +kernel
theorem dX2_take_46 : decode cX2_take 46 = .ok (.iload_n 3, 1) := by decide +kernel
theorem dX2_take_47 : decode cX2_take 47 = .ok (.iload 4, 2) := by decide +kernel
theorem dX2_take_49 : decode cX2_take 49 = .ok (.invokevirtual 82, 3) := by decide +kernel
theorem dX2_take_52 : decode cX2_take 52 = .ok (.istore 5, 2) := by decide +kernel
theorem dX2_take_54 : decode cX2_take 54 = .ok (.aload_n 0, 1) := by decide +kernel
theorem dX2_take_55 : decode cX2_take 55 = .ok (.getfield 15, 3) := by decide +kernel
theorem dX2_take_58 : decode cX2_take 58 = .ok (.getfield 30, 3) := by decide +kernel
theorem dX2_take_61 : decode cX2_take 61 = .ok (.iload 5, 2) := by decide +kernel
theorem dX2_take_63 : decode cX2_take 63 = .ok (.iaload, 1) := by decide +kernel
theorem dX2_take_64 : decode cX2_take 64 = .ok (.iconst (-1), 1) := by decide +kernel
theorem dX2_take_65 : decode cX2_take 65 = .ok (.if_icmp .eq 21, 3) := by decide +kernel
theorem dX2_take_68 : decode cX2_take 68 = .ok (.aload_n 0, 1) := by decide +kernel
theorem dX2_take_69 : decode cX2_take 69 = .ok (.iload 5, 2) := by decide +kernel
theorem dX2_take_71 : decode cX2_take 71 = .ok (.iload_n 2, 1) := by decide +kernel
theorem dX2_take_72 : decode cX2_take 72 = .ok (.aload_n 0, 1) := by decide +kernel
theorem dX2_take_73 : decode cX2_take 73 = .ok (.getfield 19, 3) := by decide +kernel
theorem dX2_take_76 : decode cX2_take 76 = .ok (.iload_n 3, 1) := by decide +kernel
theorem dX2_take_77 : decode cX2_take 77 = .ok (.iload 4, 2) := by decide +kernel
theorem dX2_take_79 : decode cX2_take 79 = .ok (.invokevirtual 85, 3) := by decide +kernel
theorem dX2_take_82 : decode cX2_take 82 = .ok (.imul, 1) := by decide +kernel
theorem dX2_take_83 : decode cX2_take 83 = .ok (.invokevirtual 88, 3) := by decide +kernel
theorem dX2_take_86 : decode cX2_take 86 = .ok (.iinc 4 1, 3) := by decide +kernel
theorem dX2_take_89 : decode cX2_take 89 = .ok (.goto (-60), 3) := by decide +kernel
theorem dX2_take_92 : decode cX2_take 92 = .ok (.return_, 1) := by decide +kernel
theorem dX2_shift_0 : decode cX2_shift 0 = .ok (.aload_n 0, 1) := by decide +kernel
theorem dX2_shift_1 : decode cX2_shift 1 = .ok (.getfield 9, 3) := by decide +kernel
theorem dX2_shift_4 : decode cX2_shift 4 = .ok (.iload_n 1, 1) := by decide +kernel
theorem dX2_shift_5 : decode cX2_shift 5 = .ok (.iaload, 1) := by decide +kernel
theorem dX2_shift_6 : decode cX2_shift 6 = .ok (.istore_n 3, 1) := by decide +kernel
theorem dX2_shift_7 : decode cX2_shift 7 = .ok (.iload_n 3, 1) := by decide +kernel
theorem dX2_shift_8 : decode cX2_shift 8 = .ok (.iload_n 2, 1) := by decide +kernel
theorem dX2_shift_9 : decode cX2_shift 9 = .ok (.iadd, 1) := by decide +kernel
theorem dX2_shift_10 : decode cX2_shift 10 = .ok (.istore 4, 2) := by decide +kernel
theorem dX2_shift_12 : decode cX2_shift 12 = .ok (.aload_n 0, 1) := by decide +kernel
theorem dX2_shift_13 : decode cX2_shift 13 = .ok (.getfield 9, 3) := by decide +kernel
theorem dX2_shift_16 : decode cX2_shift 16 = .ok (.iload_n 1, 1) := by decide +kernel
theorem dX2_shift_17 : decode cX2_shift 17 = .ok (.iload 4, 2) := by decide +kernel
theorem dX2_shift_19 : decode cX2_shift 19 = .ok (.iastore, 1) := by decide +kernel
theorem dX2_shift_20 : decode cX2_shift 20 = .ok (.aload_n 0, 1) := by decide +kernel
theorem dX2_shift_21 : decode cX2_shift 21 = .ok (.dup, 1) := by decide +kernel
theorem dX2_shift_22 : decode cX2_shift 22 = .ok (.getfield 23, 3) := by decide +kernel
theorem dX2_shift_25 : decode cX2_shift 25 = .ok (.iload 4, 2) := by decide +kernel
theorem dX2_shift_27 : decode cX2_shift 27 = .ok (.ifCond .eq 7, 3) := by decide +kernel
theorem dX2_shift_30 : decode cX2_shift 30 = .ok (.iconst 1, 1) := by decide +kernel
theorem dX2_shift_31 : decode cX2_shift 31 = .ok (.goto 4, 3) := by decide +kernel
theorem dX2_shift_34 : decode cX2_shift 34 = .ok (.iconst 0, 1) := by decide +kernel
theorem dX2_shift_35 : decode cX2_shift 35 = .ok (.iload_n 3, 1) := by decide +kernel
theorem dX2_shift_36 : decode cX2_shift 36 = .ok (.ifCond .eq 7, 3) := by decide +kernel
theorem dX2_shift_39 : decode cX2_shift 39 = .ok (.iconst 1, 1) := by decide +kernel
theorem dX2_shift_40 : decode cX2_shift 40 = .ok (.goto 4, 3) := by decide +kernel
theorem dX2_shift_43 : decode cX2_shift 43 = .ok (.iconst 0, 1) := by decide +kernel
theorem dX2_shift_44 : decode cX2_shift 44 = .ok (.isub, 1) := by decide +kernel
theorem dX2_shift_45 : decode cX2_shift 45 = .ok (.iadd, 1) := by decide +kernel
theorem dX2_shift_46 : decode cX2_shift 46 = .ok (.putfield 23, 3) := by decide +kernel
theorem dX2_shift_49 : decode cX2_shift 49 = .ok (.aload_n 0, 1) := by decide +kernel
theorem dX2_shift_50 : decode cX2_shift 50 = .ok (.dup, 1) := by decide +kernel
theorem dX2_shift_51 : decode cX2_shift 51 = .ok (.getfield 27, 3) := by decide +kernel
theorem dX2_shift_54 : decode cX2_shift 54 = .ok (.iload 4, 2) := by decide +kernel
theorem dX2_shift_56 : decode cX2_shift 56 = .ok (.ifCond .ge 7, 3) := by decide +kernel
theorem dX2_shift_59 : decode cX2_shift 59 = .ok (.iconst 1, 1) := by decide +kernel
theorem dX2_shift_60 : decode cX2_shift 60 = .ok (.goto 4, 3) := by decide +kernel
theorem dX2_shift_63 : decode cX2_shift 63 = .ok (.iconst 0, 1) := by decide +kernel
theorem dX2_shift_64 : decode cX2_shift 64 = .ok (.iload_n 3, 1) := by decide +kernel
theorem dX2_shift_65 : decode cX2_shift 65 = .ok (.ifCond .ge 7, 3) := by decide +kernel
theorem dX2_shift_68 : decode cX2_shift 68 = .ok (.iconst 1, 1) := by decide +kernel
theorem dX2_shift_69 : decode cX2_shift 69 = .ok (.goto 4, 3) := by decide +kernel
theorem dX2_shift_72 : decode cX2_shift 72 = .ok (.iconst 0, 1) := by decide +kernel
theorem dX2_shift_73 : decode cX2_shift 73 = .ok (.isub, 1) := by decide +kernel
theorem dX2_shift_74 : decode cX2_shift 74 = .ok (.iadd, 1) := by decide +kernel
theorem dX2_shift_75 : decode cX2_shift 75 = .ok (.putfield 27, 3) := by decide +kernel
theorem dX2_shift_78 : decode cX2_shift 78 = .ok (.return_, 1) := by decide +kernel
theorem dX3_init_0 : decode cX3_init 0 = .ok (.aload_n 0, 1) := by decide +kernel
theorem dX3_init_1 : decode cX3_init 1 = .ok (.invokespecial 3, 3) := by decide +kernel
theorem dX3_init_4 : decode cX3_init 4 = .ok (.aload_n 0, 1) := by decide +kernel
theorem dX3_init_5 : decode cX3_init 5 = .ok (.sipush 400, 3) := by decide +kernel
theorem dX3_init_8 : decode cX3_init 8 = .ok (.newarray .int, 2) := by decide +kernel
theorem dX3_init_10 : decode cX3_init 10 = .ok (.putfield 9, 3) := by decide +kernel
theorem dX3_init_13 : decode cX3_init 13 = .ok (.aload_n 0, 1) := by decide +kernel
theorem dX3_init_14 : decode cX3_init 14 = .ok (.bipush 16, 2) := by decide +kernel
theorem dX3_init_16 : decode cX3_init 16 = .ok (.newarray .int, 2) := by decide +kernel
theorem dX3_init_18 : decode cX3_init 18 = .ok (.putfield 15, 3) := by decide +kernel
theorem dX3_init_21 : decode cX3_init 21 = .ok (.aload_n 0, 1) := by decide +kernel
theorem dX3_init_22 : decode cX3_init 22 = .ok (.bipush 16, 2) := by decide +kernel
theorem dX3_init_24 : decode cX3_init 24 = .ok (.newarray .boolean, 2) := by decide +kernel
theorem dX3_init_26 : decode cX3_init 26 = .ok (.putfield 18, 3) := by decide +kernel
theorem dX3_init_29 : decode cX3_init 29 = .ok (.aload_n 0, 1) := by decide +kernel
theorem dX3_init_30 : decode cX3_init 30 = .ok (.bipush 32, 2) := by decide +kernel
theorem dX3_init_32 : decode cX3_init 32 = .ok (.newarray .int, 2) := by decide +kernel
theorem dX3_init_34 : decode cX3_init 34 = .ok (.putfield 22, 3) := by decide +kernel
theorem dX3_init_37 : decode cX3_init 37 = .ok (.return_, 1) := by decide +kernel
theorem dX3_takeFrom_0 : decode cX3_takeFrom 0 = .ok (.aload_n 0, 1) := by decide +kernel
theorem dX3_takeFrom_1 : decode cX3_takeFrom 1 = .ok (.aload_n 1, 1) := by decide +kernel
theorem dX3_takeFrom_2 : decode cX3_takeFrom 2 = .ok (.getfield 25, 3) := by decide +kernel
theorem dX3_takeFrom_5 : decode cX3_takeFrom 5 = .ok (.putfield 25, 3) := by decide +kernel
theorem dX3_takeFrom_8 : decode cX3_takeFrom 8 = .ok (.aload_n 1, 1) := by decide +kernel
theorem dX3_takeFrom_9 : decode cX3_takeFrom 9 = .ok (.getfield 9, 3) := by decide +kernel
theorem dX3_takeFrom_12 : decode cX3_takeFrom 12 = .ok (.iconst 0, 1) := by decide +kernel
theorem dX3_takeFrom_13 : decode cX3_takeFrom 13 = .ok (.aload_n 0, 1) := by decide +kernel
theorem dX3_takeFrom_14 : decode cX3_takeFrom 14 = .ok (.getfield 9, 3) := by decide +kernel
theorem dX3_takeFrom_17 : decode cX3_takeFrom 17 = .ok (.iconst 0, 1) := by decide +kernel
theorem dX3_takeFrom_18 : decode cX3_takeFrom 18 = .ok (.sipush 400, 3) := by decide +kernel
theorem dX3_takeFrom_21 : decode cX3_takeFrom 21 = .ok (.invokestatic 29, 3) := by decide +kernel
theorem dX3_takeFrom_24 : decode cX3_takeFrom 24 = .ok (.aload_n 1, 1) := by decide +kernel
theorem dX3_takeFrom_25 : decode cX3_takeFrom 25 = .ok (.getfield 15, 3) := by decide +kernel
theorem dX3_takeFrom_28 : decode cX3_takeFrom 28 = .ok (.iconst 0, 1) := by decide +kernel
theorem dX3_takeFrom_29 : decode cX3_takeFrom 29 = .ok (.aload_n 0, 1) := by decide +kernel
theorem dX3_takeFrom_30 : decode cX3_takeFrom 30 = .ok (.getfield 15, 3) := by decide +kernel
theorem dX3_takeFrom_33 : decode cX3_takeFrom 33 = .ok (.iconst 0, 1) := by decide +kernel
theorem dX3_takeFrom_34 : decode cX3_takeFrom 34 = .ok (.bipush 16, 2) := by decide +kernel
theorem dX3_takeFrom_36 : decode cX3_takeFrom 36 = .ok (.invokestatic 29, 3) := by decide +kernel
theorem dX3_takeFrom_39 : decode cX3_takeFrom 39 = .ok (.aload_n 1, 1) := by decide +kernel
theorem dX3_takeFrom_40 : decode cX3_takeFrom 40 = .ok (.getfield 18, 3) := by decide +kernel
theorem dX3_takeFrom_43 : decode cX3_takeFrom 43 = .ok (.iconst 0, 1) := by decide +kernel
theorem dX3_takeFrom_44 : decode cX3_takeFrom 44 = .ok (.aload_n 0, 1) := by decide +kernel
theorem dX3_takeFrom_45 : decode cX3_takeFrom 45 = .ok (.getfield 18, 3) := by decide +kernel
theorem dX3_takeFrom_48 : decode cX3_takeFrom 48 = .ok (.iconst 0, 1) := by decide +kernel
theorem dX3_takeFrom_49 : decode cX3_takeFrom 49 = .ok (.bipush 16, 2) := by decide +kernel
theorem dX3_takeFrom_51 : decode cX3_takeFrom 51 = .ok (.invokestatic 29, 3) := by decide +kernel
theorem dX3_takeFrom_54 : decode cX3_takeFrom 54 = .ok (.return_, 1) := by decide +kernel
theorem dX3_allows_0 : decode cX3_allows 0 = .ok (.iconst 0, 1) := by decide +kernel
theorem dX3_allows_1 : decode cX3_allows 1 = .ok (.istore_n 2, 1) := by decide +kernel
theorem dX3_allows_2 : decode cX3_allows 2 = .ok (.iconst 0, 1) := by decide +kernel
theorem dX3_allows_3 : decode cX3_allows 3 = .ok (.istore_n 3, 1) := by decide +kernel
theorem dX3_allows_4 : decode cX3_allows 4 = .ok (.iload_n 3, 1) := by decide +kernel
theorem dX3_allows_5 : decode cX3_allows 5 = .ok (.aload_n 0, 1) := by decide +kernel
theorem dX3_allows_6 : decode cX3_allows 6 = .ok (.getfield 25, 3) := by decide +kernel
theorem dX3_allows_9 : decode cX3_allows 9 = .ok (.if_icmp .ge 38, 3) := by decide +kernel
theorem dX3_allows_12 : decode cX3_allows 12 = .ok (.aload_n 0, 1) := by decide +kernel
theorem dX3_allows_13 : decode cX3_allows 13 = .ok (.iload_n 2, 1) := by decide +kernel
theorem dX3_allows_14 : decode cX3_allows 14 = .ok (.aload_n 0, 1) := by decide +kernel
theorem dX3_allows_15 : decode cX3_allows 15 = .ok (.getfield 15, 3) := by decide +kernel
theorem dX3_allows_18 : decode cX3_allows 18 = .ok (.iload_n 3, 1) := by decide +kernel
theorem dX3_allows_19 : decode cX3_allows 19 = .ok (.iaload, 1) := by decide +kernel
theorem dX3_allows_20 : decode cX3_allows 20 = .ok (.aload_n 1, 1) := by decide +kernel
theorem dX3_allows_21 : decode cX3_allows 21 = .ok (.invokevirtual 35, 3) := by decide +kernel
theorem dX3_allows_24 : decode cX3_allows 24 = .ok (.ifCond .eq 10, 3) := by decide +kernel
theorem dX3_allows_27 : decode cX3_allows 27 = .ok (.aload_n 0, 1) := by decide +kernel
theorem dX3_allows_28 : decode cX3_allows 28 = .ok (.getfield 18, 3) := by decide +kernel
theorem dX3_allows_31 : decode cX3_allows 31 = .ok (.iload_n 3, 1) := by decide +kernel
theorem dX3_allows_32 : decode cX3_allows 32 = .ok (.baload, 1) := by decide +kernel
theorem dX3_allows_33 : decode cX3_allows 33 = .ok (.ireturn, 1) := by decide +kernel
theorem dX3_allows_34 : decode cX3_allows 34 = .ok (.aload_n 0, 1) := by decide +kernel
theorem dX3_allows_35 : decode cX3_allows 35 = .ok (.getfield 15, 3) := by decide +kernel
theorem dX3_allows_38 : decode cX3_allows 38 = .ok (.iload_n 3, 1) := by decide +kernel
theorem dX3_allows_39 : decode cX3_allows 39 = .ok (.iaload, 1) := by decide +kernel
theorem dX3_allows_40 : decode cX3_allows 40 = .ok (.istore_n 2, 1) := by decide +kernel
theorem dX3_allows_41 : decode cX3_allows 41 = .ok (.iinc 3 1, 3) := by decide +kernel
theorem dX3_allows_44 : decode cX3_allows 44 = .ok (.goto (-40), 3) := by decide +kernel
theorem dX3_allows_47 : decode cX3_allows 47 = .ok (.iconst 1, 1) := by decide +kernel
theorem dX3_allows_48 : decode cX3_allows 48 = .ok (.ireturn, 1) := by decide +kernel
theorem dX3_holds_0 : decode cX3_holds 0 = .ok (.aload_n 0, 1) := by decide +kernel
theorem dX3_holds_1 : decode cX3_holds 1 = .ok (.getfield 22, 3) := by decide +kernel
theorem dX3_holds_4 : decode cX3_holds 4 = .ok (.iconst 0, 1) := by decide +kernel
theorem dX3_holds_5 : decode cX3_holds 5 = .ok (.iconst 1, 1) := by decide +kernel
theorem dX3_holds_6 : decode cX3_holds 6 = .ok (.iastore, 1) := by decide +kernel
theorem dX3_holds_7 : decode cX3_holds 7 = .ok (.iconst 0, 1) := by decide +kernel
theorem dX3_holds_8 : decode cX3_holds 8 = .ok (.istore 4, 2) := by decide +kernel
theorem dX3_holds_10 : decode cX3_holds 10 = .ok (.iload_n 1, 1) := by decide +kernel
theorem dX3_holds_11 : decode cX3_holds 11 = .ok (.istore 5, 2) := by decide +kernel
theorem dX3_holds_13 : decode cX3_holds 13 = .ok (.iload 5, 2) := by decide +kernel
theorem dX3_holds_15 : decode cX3_holds 15 = .ok (.iload_n 2, 1) := by decide +kernel
theorem dX3_holds_16 : decode cX3_holds 16 = .ok (.if_icmp .ge 147, 3) := by decide +kernel
theorem dX3_holds_19 : decode cX3_holds 19 = .ok (.aload_n 0, 1) := by decide +kernel
theorem dX3_holds_20 : decode cX3_holds 20 = .ok (.getfield 9, 3) := by decide +kernel
theorem dX3_holds_23 : decode cX3_holds 23 = .ok (.iload 5, 2) := by decide +kernel
theorem dX3_holds_25 : decode cX3_holds 25 = .ok (.iaload, 1) := by decide +kernel
theorem dX3_holds_26 : decode cX3_holds 26 = .ok (.istore 6, 2) := by decide +kernel
theorem dX3_holds_28 : decode cX3_holds 28 = .ok (.iload 6, 2) := by decide +kernel
theorem dX3_holds_30 : decode cX3_holds 30 = .ok (.ifCond .lt 52, 3) := by decide +kernel
theorem dX3_holds_33 : decode cX3_holds 33 = .ok (.iload 4, 2) := by decide +kernel
theorem dX3_holds_35 : decode cX3_holds 35 = .ok (.bipush 32, 2) := by decide +kernel
theorem dX3_holds_37 : decode cX3_holds 37 = .ok (.if_icmp .ge 45, 3) := by decide +kernel
theorem dX3_holds_40 : decode cX3_holds 40 = .ok (.aload_n 0, 1) := by decide +kernel
theorem dX3_holds_41 : decode cX3_holds 41 = .ok (.getfield 22, 3) := by decide +kernel
theorem dX3_holds_44 : decode cX3_holds 44 = .ok (.iload 4, 2) := by decide +kernel
theorem dX3_holds_46 : decode cX3_holds 46 = .ok (.iload 6, 2) := by decide +kernel
theorem dX3_holds_48 : decode cX3_holds 48 = .ok (.sipush 10000, 3) := by decide +kernel
theorem dX3_holds_51 : decode cX3_holds 51 = .ok (.if_icmp .lt 22, 3) := by decide +kernel
theorem dX3_holds_54 : decode cX3_holds 54 = .ok (.iload 6, 2) := by decide +kernel
theorem dX3_holds_56 : decode cX3_holds 56 = .ok (.sipush 10008, 3) := by decide +kernel
theorem dX3_holds_59 : decode cX3_holds 59 = .ok (.if_icmp .ge 14, 3) := by decide +kernel
theorem dX3_holds_62 : decode cX3_holds 62 = .ok (.aload_n 3, 1) := by decide +kernel
theorem dX3_holds_63 : decode cX3_holds 63 = .ok (.iload 6, 2) := by decide +kernel
theorem dX3_holds_65 : decode cX3_holds 65 = .ok (.sipush 10000, 3) := by decide +kernel
theorem dX3_holds_68 : decode cX3_holds 68 = .ok (.isub, 1) := by decide +kernel
theorem dX3_holds_69 : decode cX3_holds 69 = .ok (.iaload, 1) := by decide +kernel
theorem dX3_holds_70 : decode cX3_holds 70 = .ok (.goto 5, 3) := by decide +kernel
theorem dX3_holds_73 : decode cX3_holds 73 = .ok (.iload 6, 2) := by decide +kernel
theorem dX3_holds_75 : decode cX3_holds 75 = .ok (.iastore, 1) := by decide +kernel
theorem dX3_holds_76 : decode cX3_holds 76 = .ok (.iinc 4 1, 3) := by decide +kernel
theorem dX3_holds_79 : decode cX3_holds 79 = .ok (.goto 78, 3) := by decide +kernel
theorem dX3_holds_82 : decode cX3_holds 82 = .ok (.iload 6, 2) := by decide +kernel
theorem dX3_holds_84 : decode cX3_holds 84 = .ok (.bipush (-5), 2) := by decide +kernel
theorem dX3_holds_86 : decode cX3_holds 86 = .ok (.if_icmp .ne 31, 3) := by decide +kernel
theorem dX3_holds_89 : decode cX3_holds 89 = .ok (.iload 4, 2) := by decide +kernel
theorem dX3_holds_91 : decode cX3_holds 91 = .ok (.ifCond .le 26, 3) := by decide +kernel
theorem dX3_holds_94 : decode cX3_holds 94 = .ok (.aload_n 0, 1) := by decide +kernel
theorem dX3_holds_95 : decode cX3_holds 95 = .ok (.getfield 22, 3) := by decide +kernel
theorem dX3_holds_98 : decode cX3_holds 98 = .ok (.iload 4, 2) := by decide +kernel
theorem dX3_holds_100 : decode cX3_holds 100 = .ok (.iconst 1, 1) := by decide +kernel
theorem dX3_holds_101 : decode cX3_holds 101 = .ok (.isub, 1) := by decide +kernel
theorem dX3_holds_102 : decode cX3_holds 102 = .ok (.iconst 1, 1) := by decide +kernel
theorem dX3_holds_103 : decode cX3_holds 103 = .ok (.aload_n 0, 1) := by decide +kernel
theorem dX3_holds_104 : decode cX3_holds 104 = .ok (.getfield 22, 3) := by decide +kernel
theorem dX3_holds_107 : decode cX3_holds 107 = .ok (.iload 4, 2) := by decide +kernel
theorem dX3_holds_109 : decode cX3_holds 109 = .ok (.iconst 1, 1) := by decide +kernel
theorem dX3_holds_110 : decode cX3_holds 110 = .ok (.isub, 1) := by decide +kernel
theorem dX3_holds_111 : decode cX3_holds 111 = .ok (.iaload, 1) := by decide +kernel
theorem dX3_holds_112 : decode cX3_holds 112 = .ok (.isub, 1) := by decide +kernel
theorem dX3_holds_113 : decode cX3_holds 113 = .ok (.iastore, 1) := by decide +kernel
theorem dX3_holds_114 : decode cX3_holds 114 = .ok (.goto 43, 3) := by decide +kernel
theorem dX3_holds_117 : decode cX3_holds 117 = .ok (.iload 4, 2) := by decide +kernel
theorem dX3_holds_119 : decode cX3_holds 119 = .ok (.iconst 1, 1) := by decide +kernel
theorem dX3_holds_120 : decode cX3_holds 120 = .ok (.if_icmp .le 37, 3) := by decide +kernel
theorem dX3_holds_123 : decode cX3_holds 123 = .ok (.iinc 4 (-1), 3) := by decide +kernel
theorem dX3_holds_126 : decode cX3_holds 126 = .ok (.aload_n 0, 1) := by decide +kernel
theorem dX3_holds_127 : decode cX3_holds 127 = .ok (.getfield 22, 3) := by decide +kernel
theorem dX3_holds_130 : decode cX3_holds 130 = .ok (.iload 4, 2) := by decide +kernel
theorem dX3_holds_132 : decode cX3_holds 132 = .ok (.iconst 1, 1) := by decide +kernel
theorem dX3_holds_133 : decode cX3_holds 133 = .ok (.isub, 1) := by decide +kernel
theorem dX3_holds_134 : decode cX3_holds 134 = .ok (.iload 6, 2) := by decide +kernel
theorem dX3_holds_136 : decode cX3_holds 136 = .ok (.ineg, 1) := by decide +kernel
theorem dX3_holds_137 : decode cX3_holds 137 = .ok (.aload_n 0, 1) := by decide +kernel
theorem dX3_holds_138 : decode cX3_holds 138 = .ok (.getfield 22, 3) := by decide +kernel
theorem dX3_holds_141 : decode cX3_holds 141 = .ok (.iload 4, 2) := by decide +kernel
theorem dX3_holds_143 : decode cX3_holds 143 = .ok (.iconst 1, 1) := by decide +kernel
theorem dX3_holds_144 : decode cX3_holds 144 = .ok (.isub, 1) := by decide +kernel
theorem dX3_holds_145 : decode cX3_holds 145 = .ok (.iaload, 1) := by decide +kernel
theorem dX3_holds_146 : decode cX3_holds 146 = .ok (.aload_n 0, 1) := by decide +kernel
theorem dX3_holds_147 : decode cX3_holds 147 = .ok (.getfield 22, 3) := by decide +kernel
theorem dX3_holds_150 : decode cX3_holds 150 = .ok (.iload 4, 2) := by decide +kernel
theorem dX3_holds_152 : decode cX3_holds 152 = .ok (.iaload, 1) := by decide +kernel
theorem dX3_holds_153 : decode cX3_holds 153 = .ok (.invokestatic 41, 3) := by decide +kernel
theorem dX3_holds_156 : decode cX3_holds 156 = .ok (.iastore, 1) := by decide +kernel
theorem dX3_holds_157 : decode cX3_holds 157 = .ok (.iinc 5 1, 3) := by decide +kernel
theorem dX3_holds_160 : decode cX3_holds 160 = .ok (.goto (-147), 3) := by decide +kernel
theorem dX3_holds_163 : decode cX3_holds 163 = .ok (.aload_n 0, 1) := by decide +kernel
theorem dX3_holds_164 : decode cX3_holds 164 = .ok (.getfield 22, 3) := by decide +kernel
theorem dX3_holds_167 : decode cX3_holds 167 = .ok (.iconst 0, 1) := by decide +kernel
theorem dX3_holds_168 : decode cX3_holds 168 = .ok (.iaload, 1) := by decide +kernel
theorem dX3_holds_169 : decode cX3_holds 169 = .ok (.ifCond .eq 7, 3) := by decide +kernel
theorem dX3_holds_172 : decode cX3_holds 172 = .ok (.iconst 1, 1) := by decide +kernel
theorem dX3_holds_173 : decode cX3_holds 173 = .ok (.goto 4, 3) := by decide +kernel
theorem dX3_holds_176 : decode cX3_holds 176 = .ok (.iconst 0, 1) := by decide +kernel
theorem dX3_holds_177 : decode cX3_holds 177 = .ok (.ireturn, 1) := by decide +kernel
theorem dX3_joined_0 : decode cX3_joined 0 = .ok (.iload_n 0, 1) := by decide +kernel
theorem dX3_joined_1 : decode cX3_joined 1 = .ok (.lookupswitch 136 #[(4, 132), (42, 83), (43, 75), (45, 79), (47, 87), (60, 99), (61, 110), (62, 121)], 75) := by decide +kernel
theorem dX3_joined_76 : decode cX3_joined 76 = .ok (.iload_n 1, 1) := by decide +kernel
theorem dX3_joined_77 : decode cX3_joined 77 = .ok (.iload_n 2, 1) := by decide +kernel
theorem dX3_joined_78 : decode cX3_joined 78 = .ok (.iadd, 1) := by decide +kernel
theorem dX3_joined_79 : decode cX3_joined 79 = .ok (.ireturn, 1) := by decide +kernel
theorem dX3_joined_80 : decode cX3_joined 80 = .ok (.iload_n 1, 1) := by decide +kernel
theorem dX3_joined_81 : decode cX3_joined 81 = .ok (.iload_n 2, 1) := by decide +kernel
theorem dX3_joined_82 : decode cX3_joined 82 = .ok (.isub, 1) := by decide +kernel
theorem dX3_joined_83 : decode cX3_joined 83 = .ok (.ireturn, 1) := by decide +kernel
theorem dX3_joined_84 : decode cX3_joined 84 = .ok (.iload_n 1, 1) := by decide +kernel
theorem dX3_joined_85 : decode cX3_joined 85 = .ok (.iload_n 2, 1) := by decide +kernel
theorem dX3_joined_86 : decode cX3_joined 86 = .ok (.imul, 1) := by decide +kernel
theorem dX3_joined_87 : decode cX3_joined 87 = .ok (.ireturn, 1) := by decide +kernel
theorem dX3_joined_88 : decode cX3_joined 88 = .ok (.iload_n 2, 1) := by decide +kernel
theorem dX3_joined_89 : decode cX3_joined 89 = .ok (.ifCond .ne 7, 3) := by decide +kernel
theorem dX3_joined_92 : decode cX3_joined 92 = .ok (.iconst 0, 1) := by decide +kernel
theorem dX3_joined_93 : decode cX3_joined 93 = .ok (.goto 6, 3) := by decide +kernel
theorem dX3_joined_96 : decode cX3_joined 96 = .ok (.iload_n 1, 1) := by decide +kernel
theorem dX3_joined_97 : decode cX3_joined 97 = .ok (.iload_n 2, 1) := by decide +kernel
theorem dX3_joined_98 : decode cX3_joined 98 = .ok (.idiv, 1) := by decide +kernel
theorem dX3_joined_99 : decode cX3_joined 99 = .ok (.ireturn, 1) := by decide +kernel
theorem dX3_joined_100 : decode cX3_joined 100 = .ok (.iload_n 1, 1) := by decide +kernel
theorem dX3_joined_101 : decode cX3_joined 101 = .ok (.iload_n 2, 1) := by decide +kernel
theorem dX3_joined_102 : decode cX3_joined 102 = .ok (.if_icmp .ge 7, 3) := by decide +kernel
theorem dX3_joined_105 : decode cX3_joined 105 = .ok (.iconst 1, 1) := by decide +kernel
theorem dX3_joined_106 : decode cX3_joined 106 = .ok (.goto 4, 3) := by decide +kernel
theorem dX3_joined_109 : decode cX3_joined 109 = .ok (.iconst 0, 1) := by decide +kernel
theorem dX3_joined_110 : decode cX3_joined 110 = .ok (.ireturn, 1) := by decide +kernel
theorem dX3_joined_111 : decode cX3_joined 111 = .ok (.iload_n 1, 1) := by decide +kernel
theorem dX3_joined_112 : decode cX3_joined 112 = .ok (.iload_n 2, 1) := by decide +kernel
theorem dX3_joined_113 : decode cX3_joined 113 = .ok (.if_icmp .ne 7, 3) := by decide +kernel
theorem dX3_joined_116 : decode cX3_joined 116 = .ok (.iconst 1, 1) := by decide +kernel
theorem dX3_joined_117 : decode cX3_joined 117 = .ok (.goto 4, 3) := by decide +kernel
theorem dX3_joined_120 : decode cX3_joined 120 = .ok (.iconst 0, 1) := by decide +kernel
theorem dX3_joined_121 : decode cX3_joined 121 = .ok (.ireturn, 1) := by decide +kernel
theorem dX3_joined_122 : decode cX3_joined 122 = .ok (.iload_n 1, 1) := by decide +kernel
theorem dX3_joined_123 : decode cX3_joined 123 = .ok (.iload_n 2, 1) := by decide +kernel
theorem dX3_joined_124 : decode cX3_joined 124 = .ok (.if_icmp .le 7, 3) := by decide +kernel
theorem dX3_joined_127 : decode cX3_joined 127 = .ok (.iconst 1, 1) := by decide +kernel
theorem dX3_joined_128 : decode cX3_joined 128 = .ok (.goto 4, 3) := by decide +kernel
theorem dX3_joined_131 : decode cX3_joined 131 = .ok (.iconst 0, 1) := by decide +kernel
theorem dX3_joined_132 : decode cX3_joined 132 = .ok (.ireturn, 1) := by decide +kernel
theorem dX3_joined_133 : decode cX3_joined 133 = .ok (.iload_n 1, 1) := by decide +kernel
theorem dX3_joined_134 : decode cX3_joined 134 = .ok (.iload_n 2, 1) := by decide +kernel
theorem dX3_joined_135 : decode cX3_joined 135 = .ok (.iand, 1) := by decide +kernel
theorem dX3_joined_136 : decode cX3_joined 136 = .ok (.ireturn, 1) := by decide +kernel
theorem dX3_joined_137 : decode cX3_joined 137 = .ok (.iload_n 1, 1) := by decide +kernel
theorem dX3_joined_138 : decode cX3_joined 138 = .ok (.iload_n 2, 1) := by decide +kernel
theorem dX3_joined_139 : decode cX3_joined 139 = .ok (.ior, 1) := by decide +kernel
theorem dX3_joined_140 : decode cX3_joined 140 = .ok (.ireturn, 1) := by decide +kernel
theorem dX4_init_0 : decode cX4_init 0 = .ok (.aload_n 0, 1) := by decide +kernel
theorem dX4_init_1 : decode cX4_init 1 = .ok (.invokespecial 3, 3) := by decide +kernel
theorem dX4_init_4 : decode cX4_init 4 = .ok (.aload_n 0, 1) := by decide +kernel
theorem dX4_init_5 : decode cX4_init 5 = .ok (.new 9, 3) := by decide +kernel
theorem dX4_init_8 : decode cX4_init 8 = .ok (.dup, 1) := by decide +kernel
theorem dX4_init_9 : decode cX4_init 9 = .ok (.invokespecial 11, 3) := by decide +kernel
theorem dX4_init_12 : decode cX4_init 12 = .ok (.putfield 12, 3) := by decide +kernel
theorem dX4_init_15 : decode cX4_init 15 = .ok (.aload_n 0, 1) := by decide +kernel
theorem dX4_init_16 : decode cX4_init 16 = .ok (.sipush 401, 3) := by decide +kernel
theorem dX4_init_19 : decode cX4_init 19 = .ok (.newarray .int, 2) := by decide +kernel
theorem dX4_init_21 : decode cX4_init 21 = .ok (.putfield 18, 3) := by decide +kernel
theorem dX4_init_24 : decode cX4_init 24 = .ok (.aload_n 0, 1) := by decide +kernel
theorem dX4_init_25 : decode cX4_init 25 = .ok (.sipush 401, 3) := by decide +kernel
theorem dX4_init_28 : decode cX4_init 28 = .ok (.newarray .int, 2) := by decide +kernel
theorem dX4_init_30 : decode cX4_init 30 = .ok (.putfield 22, 3) := by decide +kernel
theorem dX4_init_33 : decode cX4_init 33 = .ok (.aload_n 0, 1) := by decide +kernel
theorem dX4_init_34 : decode cX4_init 34 = .ok (.sipush 401, 3) := by decide +kernel
theorem dX4_init_37 : decode cX4_init 37 = .ok (.newarray .int, 2) := by decide +kernel
theorem dX4_init_39 : decode cX4_init 39 = .ok (.putfield 25, 3) := by decide +kernel
theorem dX4_init_42 : decode cX4_init 42 = .ok (.return_, 1) := by decide +kernel
theorem dX4_read_0 : decode cX4_read 0 = .ok (.aload_n 0, 1) := by decide +kernel
theorem dX4_read_1 : decode cX4_read 1 = .ok (.aload_n 1, 1) := by decide +kernel
theorem dX4_read_2 : decode cX4_read 2 = .ok (.iload_n 2, 1) := by decide +kernel
theorem dX4_read_3 : decode cX4_read 3 = .ok (.sipush 400, 3) := by decide +kernel
theorem dX4_read_6 : decode cX4_read 6 = .ok (.invokestatic 28, 3) := by decide +kernel
theorem dX4_read_9 : decode cX4_read 9 = .ok (.invokevirtual 34, 3) := by decide +kernel
theorem dX4_read_12 : decode cX4_read 12 = .ok (.aload_n 0, 1) := by decide +kernel
theorem dX4_read_13 : decode cX4_read 13 = .ok (.getfield 12, 3) := by decide +kernel
theorem dX4_read_16 : decode cX4_read 16 = .ok (.iconst 0, 1) := by decide +kernel
theorem dX4_read_17 : decode cX4_read 17 = .ok (.putfield 38, 3) := by decide +kernel
theorem dX4_read_20 : decode cX4_read 20 = .ok (.aload_n 0, 1) := by decide +kernel
theorem dX4_read_21 : decode cX4_read 21 = .ok (.iconst 0, 1) := by decide +kernel
theorem dX4_read_22 : decode cX4_read 22 = .ok (.putfield 42, 3) := by decide +kernel
theorem dX4_read_25 : decode cX4_read 25 = .ok (.aload_n 0, 1) := by decide +kernel
theorem dX4_read_26 : decode cX4_read 26 = .ok (.iconst 0, 1) := by decide +kernel
theorem dX4_read_27 : decode cX4_read 27 = .ok (.putfield 45, 3) := by decide +kernel
theorem dX4_read_30 : decode cX4_read 30 = .ok (.aload_n 0, 1) := by decide +kernel
theorem dX4_read_31 : decode cX4_read 31 = .ok (.iconst (-1), 1) := by decide +kernel
theorem dX4_read_32 : decode cX4_read 32 = .ok (.putfield 48, 3) := by decide +kernel
theorem dX4_read_35 : decode cX4_read 35 = .ok (.aload_n 0, 1) := by decide +kernel
theorem dX4_read_36 : decode cX4_read 36 = .ok (.iconst 0, 1) := by decide +kernel
theorem dX4_read_37 : decode cX4_read 37 = .ok (.putfield 51, 3) := by decide +kernel
theorem dX4_read_40 : decode cX4_read 40 = .ok (.aload_n 0, 1) := by decide +kernel
theorem dX4_read_41 : decode cX4_read 41 = .ok (.aload_n 0, 1) := by decide +kernel
theorem dX4_read_42 : decode cX4_read 42 = .ok (.getfield 18, 3) := by decide +kernel
theorem dX4_read_45 : decode cX4_read 45 = .ok (.iconst 0, 1) := by decide +kernel
theorem dX4_read_46 : decode cX4_read 46 = .ok (.iaload, 1) := by decide +kernel
theorem dX4_read_47 : decode cX4_read 47 = .ok (.putfield 54, 3) := by decide +kernel
theorem dX4_read_50 : decode cX4_read 50 = .ok (.iconst 0, 1) := by decide +kernel
theorem dX4_read_51 : decode cX4_read 51 = .ok (.istore_n 3, 1) := by decide +kernel
theorem dX4_read_52 : decode cX4_read 52 = .ok (.iload_n 3, 1) := by decide +kernel
theorem dX4_read_53 : decode cX4_read 53 = .ok (.sipush 400, 3) := by decide +kernel
theorem dX4_read_56 : decode cX4_read 56 = .ok (.if_icmp .gt 29, 3) := by decide +kernel
theorem dX4_read_59 : decode cX4_read 59 = .ok (.aload_n 0, 1) := by decide +kernel
theorem dX4_read_60 : decode cX4_read 60 = .ok (.getfield 45, 3) := by decide +kernel
theorem dX4_read_63 : decode cX4_read 63 = .ok (.ifCond .ne 22, 3) := by decide +kernel
theorem dX4_read_66 : decode cX4_read 66 = .ok (.aload_n 0, 1) := by decide +kernel
theorem dX4_read_67 : decode cX4_read 67 = .ok (.getfield 54, 3) := by decide +kernel
theorem dX4_read_70 : decode cX4_read 70 = .ok (.bipush 21, 2) := by decide +kernel
theorem dX4_read_72 : decode cX4_read 72 = .ok (.if_icmp .eq 13, 3) := by decide +kernel
theorem dX4_read_75 : decode cX4_read 75 = .ok (.aload_n 0, 1) := by decide +kernel
theorem dX4_read_76 : decode cX4_read 76 = .ok (.invokevirtual 57, 3) := by decide +kernel
theorem dX4_read_79 : decode cX4_read 79 = .ok (.iinc 3 1, 3) := by decide +kernel
theorem dX4_read_82 : decode cX4_read 82 = .ok (.goto (-30), 3) := by decide +kernel
theorem dX4_read_85 : decode cX4_read 85 = .ok (.return_, 1) := by decide +kernel
theorem dX4_split_0 : decode cX4_split 0 = .ok (.aload_n 0, 1) := by decide +kernel
theorem dX4_split_1 : decode cX4_split 1 = .ok (.iconst 0, 1) := by decide +kernel
theorem dX4_split_2 : decode cX4_split 2 = .ok (.putfield 60, 3) := by decide +kernel
theorem dX4_split_5 : decode cX4_split 5 = .ok (.iconst 0, 1) := by decide +kernel
theorem dX4_split_6 : decode cX4_split 6 = .ok (.istore_n 3, 1) := by decide +kernel
theorem dX4_split_7 : decode cX4_split 7 = .ok (.iload_n 3, 1) := by decide +kernel
theorem dX4_split_8 : decode cX4_split 8 = .ok (.iload_n 2, 1) := by decide +kernel
theorem dX4_split_9 : decode cX4_split 9 = .ok (.if_icmp .ge 163, 3) := by decide +kernel
theorem dX4_split_12 : decode cX4_split 12 = .ok (.iload_n 3, 1) := by decide +kernel
theorem dX4_split_13 : decode cX4_split 13 = .ok (.iconst 1, 1) := by decide +kernel
theorem dX4_split_14 : decode cX4_split 14 = .ok (.iadd, 1) := by decide +kernel
theorem dX4_split_15 : decode cX4_split 15 = .ok (.istore 4, 2) := by decide +kernel
theorem dX4_split_17 : decode cX4_split 17 = .ok (.aload_n 1, 1) := by decide +kernel
theorem dX4_split_18 : decode cX4_split 18 = .ok (.iload_n 3, 1) := by decide +kernel
theorem dX4_split_19 : decode cX4_split 19 = .ok (.iaload, 1) := by decide +kernel
theorem dX4_split_20 : decode cX4_split 20 = .ok (.istore 5, 2) := by decide +kernel
theorem dX4_split_22 : decode cX4_split 22 = .ok (.iload 5, 2) := by decide +kernel
theorem dX4_split_24 : decode cX4_split 24 = .ok (.invokestatic 63, 3) := by decide +kernel
theorem dX4_split_27 : decode cX4_split 27 = .ok (.ifCond .eq 41, 3) := by decide +kernel
theorem dX4_split_30 : decode cX4_split 30 = .ok (.iload 4, 2) := by decide +kernel
theorem dX4_split_32 : decode cX4_split 32 = .ok (.iload_n 2, 1) := by decide +kernel
theorem dX4_split_33 : decode cX4_split 33 = .ok (.if_icmp .ge 19, 3) := by decide +kernel
theorem dX4_split_36 : decode cX4_split 36 = .ok (.aload_n 1, 1) := by decide +kernel
theorem dX4_split_37 : decode cX4_split 37 = .ok (.iload 4, 2) := by decide +kernel
theorem dX4_split_39 : decode cX4_split 39 = .ok (.iaload, 1) := by decide +kernel
theorem dX4_split_40 : decode cX4_split 40 = .ok (.invokestatic 63, 3) := by decide +kernel
theorem dX4_split_43 : decode cX4_split 43 = .ok (.ifCond .eq 9, 3) := by decide +kernel
theorem dX4_split_46 : decode cX4_split 46 = .ok (.iinc 4 1, 3) := by decide +kernel
theorem dX4_split_49 : decode cX4_split 49 = .ok (.goto (-19), 3) := by decide +kernel
theorem dX4_split_52 : decode cX4_split 52 = .ok (.aload_n 0, 1) := by decide +kernel
theorem dX4_split_53 : decode cX4_split 53 = .ok (.aload_n 1, 1) := by decide +kernel
theorem dX4_split_54 : decode cX4_split 54 = .ok (.iload_n 3, 1) := by decide +kernel
theorem dX4_split_55 : decode cX4_split 55 = .ok (.iload 4, 2) := by decide +kernel
theorem dX4_split_57 : decode cX4_split 57 = .ok (.invokestatic 67, 3) := by decide +kernel
theorem dX4_split_60 : decode cX4_split 60 = .ok (.iload_n 3, 1) := by decide +kernel
theorem dX4_split_61 : decode cX4_split 61 = .ok (.iconst 0, 1) := by decide +kernel
theorem dX4_split_62 : decode cX4_split 62 = .ok (.invokevirtual 71, 3) := by decide +kernel
theorem dX4_split_65 : decode cX4_split 65 = .ok (.goto 101, 3) := by decide +kernel
theorem dX4_split_68 : decode cX4_split 68 = .ok (.iload 5, 2) := by decide +kernel
theorem dX4_split_70 : decode cX4_split 70 = .ok (.invokestatic 75, 3) := by decide +kernel
theorem dX4_split_73 : decode cX4_split 73 = .ok (.ifCond .eq 55, 3) := by decide +kernel
theorem dX4_split_76 : decode cX4_split 76 = .ok (.iload 4, 2) := by decide +kernel
theorem dX4_split_78 : decode cX4_split 78 = .ok (.iload_n 2, 1) := by decide +kernel
theorem dX4_split_79 : decode cX4_split 79 = .ok (.if_icmp .ge 19, 3) := by decide +kernel
theorem dX4_split_82 : decode cX4_split 82 = .ok (.aload_n 1, 1) := by decide +kernel
theorem dX4_split_83 : decode cX4_split 83 = .ok (.iload 4, 2) := by decide +kernel
theorem dX4_split_85 : decode cX4_split 85 = .ok (.iaload, 1) := by decide +kernel
theorem dX4_split_86 : decode cX4_split 86 = .ok (.invokestatic 75, 3) := by decide +kernel
theorem dX4_split_89 : decode cX4_split 89 = .ok (.ifCond .eq 9, 3) := by decide +kernel
theorem dX4_split_92 : decode cX4_split 92 = .ok (.iinc 4 1, 3) := by decide +kernel
theorem dX4_split_95 : decode cX4_split 95 = .ok (.goto (-19), 3) := by decide +kernel
theorem dX4_split_98 : decode cX4_split 98 = .ok (.aload_n 0, 1) := by decide +kernel
theorem dX4_split_99 : decode cX4_split 99 = .ok (.iload 4, 2) := by decide +kernel
theorem dX4_split_101 : decode cX4_split 101 = .ok (.iload_n 3, 1) := by decide +kernel
theorem dX4_split_102 : decode cX4_split 102 = .ok (.isub, 1) := by decide +kernel
theorem dX4_split_103 : decode cX4_split 103 = .ok (.iconst 4, 1) := by decide +kernel
theorem dX4_split_104 : decode cX4_split 104 = .ok (.if_icmp .gt 8, 3) := by decide +kernel
theorem dX4_split_107 : decode cX4_split 107 = .ok (.bipush 20, 2) := by decide +kernel
theorem dX4_split_109 : decode cX4_split 109 = .ok (.goto 5, 3) := by decide +kernel
theorem dX4_split_112 : decode cX4_split 112 = .ok (.bipush 22, 2) := by decide +kernel
theorem dX4_split_114 : decode cX4_split 114 = .ok (.iload_n 3, 1) := by decide +kernel
theorem dX4_split_115 : decode cX4_split 115 = .ok (.aload_n 1, 1) := by decide +kernel
theorem dX4_split_116 : decode cX4_split 116 = .ok (.iload_n 3, 1) := by decide +kernel
theorem dX4_split_117 : decode cX4_split 117 = .ok (.iload 4, 2) := by decide +kernel
theorem dX4_split_119 : decode cX4_split 119 = .ok (.invokestatic 78, 3) := by decide +kernel
theorem dX4_split_122 : decode cX4_split 122 = .ok (.invokevirtual 71, 3) := by decide +kernel
theorem dX4_split_125 : decode cX4_split 125 = .ok (.goto 41, 3) := by decide +kernel
theorem dX4_split_128 : decode cX4_split 128 = .ok (.iload 5, 2) := by decide +kernel
theorem dX4_split_130 : decode cX4_split 130 = .ok (.bipush 32, 2) := by decide +kernel
theorem dX4_split_132 : decode cX4_split 132 = .ok (.if_icmp .eq 34, 3) := by decide +kernel
theorem dX4_split_135 : decode cX4_split 135 = .ok (.iload 5, 2) := by decide +kernel
theorem dX4_split_137 : decode cX4_split 137 = .ok (.bipush 10, 2) := by decide +kernel
theorem dX4_split_139 : decode cX4_split 139 = .ok (.if_icmp .eq 27, 3) := by decide +kernel
theorem dX4_split_142 : decode cX4_split 142 = .ok (.aload_n 0, 1) := by decide +kernel
theorem dX4_split_143 : decode cX4_split 143 = .ok (.ldc 81, 2) := by decide +kernel
theorem dX4_split_145 : decode cX4_split 145 = .ok (.iload 5, 2) := by decide +kernel
theorem dX4_split_147 : decode cX4_split 147 = .ok (.i2c, 1) := by decide +kernel
theorem dX4_split_148 : decode cX4_split 148 = .ok (.invokevirtual 83, 3) := by decide +kernel
theorem dX4_split_151 : decode cX4_split 151 = .ok (.ifCond .lt 8, 3) := by decide +kernel
theorem dX4_split_154 : decode cX4_split 154 = .ok (.iload 5, 2) := by decide +kernel
theorem dX4_split_156 : decode cX4_split 156 = .ok (.goto 5, 3) := by decide +kernel
theorem dX4_split_159 : decode cX4_split 159 = .ok (.bipush 22, 2) := by decide +kernel
theorem dX4_split_161 : decode cX4_split 161 = .ok (.iload_n 3, 1) := by decide +kernel
theorem dX4_split_162 : decode cX4_split 162 = .ok (.iconst 0, 1) := by decide +kernel
theorem dX4_split_163 : decode cX4_split 163 = .ok (.invokevirtual 71, 3) := by decide +kernel
theorem dX4_split_166 : decode cX4_split 166 = .ok (.iload 4, 2) := by decide +kernel
theorem dX4_split_168 : decode cX4_split 168 = .ok (.istore_n 3, 1) := by decide +kernel
theorem dX4_split_169 : decode cX4_split 169 = .ok (.goto (-162), 3) := by decide +kernel
theorem dX4_split_172 : decode cX4_split 172 = .ok (.aload_n 0, 1) := by decide +kernel
theorem dX4_split_173 : decode cX4_split 173 = .ok (.bipush 21, 2) := by decide +kernel
theorem dX4_split_175 : decode cX4_split 175 = .ok (.iload_n 2, 1) := by decide +kernel
theorem dX4_split_176 : decode cX4_split 176 = .ok (.iconst 0, 1) := by decide +kernel
theorem dX4_split_177 : decode cX4_split 177 = .ok (.invokevirtual 71, 3) := by decide +kernel
theorem dX4_split_180 : decode cX4_split 180 = .ok (.return_, 1) := by decide +kernel
theorem dX4_put_0 : decode cX4_put 0 = .ok (.aload_n 0, 1) := by decide +kernel
theorem dX4_put_1 : decode cX4_put 1 = .ok (.getfield 60, 3) := by decide +kernel
theorem dX4_put_4 : decode cX4_put 4 = .ok (.sipush 400, 3) := by decide +kernel
theorem dX4_put_7 : decode cX4_put 7 = .ok (.if_icmp .gt 43, 3) := by decide +kernel
theorem dX4_put_10 : decode cX4_put 10 = .ok (.aload_n 0, 1) := by decide +kernel
theorem dX4_put_11 : decode cX4_put 11 = .ok (.getfield 18, 3) := by decide +kernel
theorem dX4_put_14 : decode cX4_put 14 = .ok (.aload_n 0, 1) := by decide +kernel
theorem dX4_put_15 : decode cX4_put 15 = .ok (.getfield 60, 3) := by decide +kernel
theorem dX4_put_18 : decode cX4_put 18 = .ok (.iload_n 1, 1) := by decide +kernel
theorem dX4_put_19 : decode cX4_put 19 = .ok (.iastore, 1) := by decide +kernel
theorem dX4_put_20 : decode cX4_put 20 = .ok (.aload_n 0, 1) := by decide +kernel
theorem dX4_put_21 : decode cX4_put 21 = .ok (.getfield 22, 3) := by decide +kernel
theorem dX4_put_24 : decode cX4_put 24 = .ok (.aload_n 0, 1) := by decide +kernel
theorem dX4_put_25 : decode cX4_put 25 = .ok (.getfield 60, 3) := by decide +kernel
theorem dX4_put_28 : decode cX4_put 28 = .ok (.iload_n 2, 1) := by decide +kernel
theorem dX4_put_29 : decode cX4_put 29 = .ok (.iastore, 1) := by decide +kernel
theorem dX4_put_30 : decode cX4_put 30 = .ok (.aload_n 0, 1) := by decide +kernel
theorem dX4_put_31 : decode cX4_put 31 = .ok (.getfield 25, 3) := by decide +kernel
theorem dX4_put_34 : decode cX4_put 34 = .ok (.aload_n 0, 1) := by decide +kernel
theorem dX4_put_35 : decode cX4_put 35 = .ok (.getfield 60, 3) := by decide +kernel
theorem dX4_put_38 : decode cX4_put 38 = .ok (.iload_n 3, 1) := by decide +kernel
theorem dX4_put_39 : decode cX4_put 39 = .ok (.iastore, 1) := by decide +kernel
theorem dX4_put_40 : decode cX4_put 40 = .ok (.aload_n 0, 1) := by decide +kernel
theorem dX4_put_41 : decode cX4_put 41 = .ok (.dup, 1) := by decide +kernel
theorem dX4_put_42 : decode cX4_put 42 = .ok (.getfield 60, 3) := by decide +kernel
theorem dX4_put_45 : decode cX4_put 45 = .ok (.iconst 1, 1) := by decide +kernel
theorem dX4_put_46 : decode cX4_put 46 = .ok (.iadd, 1) := by decide +kernel
theorem dX4_put_47 : decode cX4_put 47 = .ok (.putfield 60, 3) := by decide +kernel
theorem dX4_put_50 : decode cX4_put 50 = .ok (.return_, 1) := by decide +kernel
theorem dX4_isLetter_0 : decode cX4_isLetter 0 = .ok (.iload_n 0, 1) := by decide +kernel
theorem dX4_isLetter_1 : decode cX4_isLetter 1 = .ok (.bipush 97, 2) := by decide +kernel
theorem dX4_isLetter_3 : decode cX4_isLetter 3 = .ok (.if_icmp .lt 9, 3) := by decide +kernel
theorem dX4_isLetter_6 : decode cX4_isLetter 6 = .ok (.iload_n 0, 1) := by decide +kernel
theorem dX4_isLetter_7 : decode cX4_isLetter 7 = .ok (.bipush 122, 2) := by decide +kernel
theorem dX4_isLetter_9 : decode cX4_isLetter 9 = .ok (.if_icmp .le 15, 3) := by decide +kernel
theorem dX4_isLetter_12 : decode cX4_isLetter 12 = .ok (.iload_n 0, 1) := by decide +kernel
theorem dX4_isLetter_13 : decode cX4_isLetter 13 = .ok (.bipush 65, 2) := by decide +kernel
theorem dX4_isLetter_15 : decode cX4_isLetter 15 = .ok (.if_icmp .lt 13, 3) := by decide +kernel
theorem dX4_isLetter_18 : decode cX4_isLetter 18 = .ok (.iload_n 0, 1) := by decide +kernel
theorem dX4_isLetter_19 : decode cX4_isLetter 19 = .ok (.bipush 90, 2) := by decide +kernel
theorem dX4_isLetter_21 : decode cX4_isLetter 21 = .ok (.if_icmp .gt 7, 3) := by decide +kernel
theorem dX4_isLetter_24 : decode cX4_isLetter 24 = .ok (.iconst 1, 1) := by decide +kernel
theorem dX4_isLetter_25 : decode cX4_isLetter 25 = .ok (.goto 4, 3) := by decide +kernel
theorem dX4_isLetter_28 : decode cX4_isLetter 28 = .ok (.iconst 0, 1) := by decide +kernel
theorem dX4_isLetter_29 : decode cX4_isLetter 29 = .ok (.ireturn, 1) := by decide +kernel
theorem dX4_isDigit_0 : decode cX4_isDigit 0 = .ok (.iload_n 0, 1) := by decide +kernel
theorem dX4_isDigit_1 : decode cX4_isDigit 1 = .ok (.bipush 48, 2) := by decide +kernel
theorem dX4_isDigit_3 : decode cX4_isDigit 3 = .ok (.if_icmp .lt 13, 3) := by decide +kernel
theorem dX4_isDigit_6 : decode cX4_isDigit 6 = .ok (.iload_n 0, 1) := by decide +kernel
theorem dX4_isDigit_7 : decode cX4_isDigit 7 = .ok (.bipush 57, 2) := by decide +kernel
theorem dX4_isDigit_9 : decode cX4_isDigit 9 = .ok (.if_icmp .gt 7, 3) := by decide +kernel
theorem dX4_isDigit_12 : decode cX4_isDigit 12 = .ok (.iconst 1, 1) := by decide +kernel
theorem dX4_isDigit_13 : decode cX4_isDigit 13 = .ok (.goto 4, 3) := by decide +kernel
theorem dX4_isDigit_16 : decode cX4_isDigit 16 = .ok (.iconst 0, 1) := by decide +kernel
theorem dX4_isDigit_17 : decode cX4_isDigit 17 = .ok (.ireturn, 1) := by decide +kernel
theorem dX4_keywordOf_0 : decode cX4_keywordOf 0 = .ok (.iconst 0, 1) := by decide +kernel
theorem dX4_keywordOf_1 : decode cX4_keywordOf 1 = .ok (.istore_n 3, 1) := by decide +kernel
theorem dX4_keywordOf_2 : decode cX4_keywordOf 2 = .ok (.iload_n 3, 1) := by decide +kernel
theorem dX4_keywordOf_3 : decode cX4_keywordOf 3 = .ok (.bipush 14, 2) := by decide +kernel
theorem dX4_keywordOf_5 : decode cX4_keywordOf 5 = .ok (.if_icmp .ge 79, 3) := by decide +kernel
theorem dX4_keywordOf_8 : decode cX4_keywordOf 8 = .ok (.iload_n 2, 1) := by decide +kernel
theorem dX4_keywordOf_9 : decode cX4_keywordOf 9 = .ok (.iload_n 1, 1) := by decide +kernel
theorem dX4_keywordOf_10 : decode cX4_keywordOf 10 = .ok (.isub, 1) := by decide +kernel
theorem dX4_keywordOf_11 : decode cX4_keywordOf 11 = .ok (.bipush 7, 2) := by decide +kernel
theorem dX4_keywordOf_13 : decode cX4_keywordOf 13 = .ok (.if_icmp .ge 71, 3) := by decide +kernel
theorem dX4_keywordOf_16 : decode cX4_keywordOf 16 = .ok (.iload_n 1, 1) := by decide +kernel
theorem dX4_keywordOf_17 : decode cX4_keywordOf 17 = .ok (.istore 4, 2) := by decide +kernel
theorem dX4_keywordOf_19 : decode cX4_keywordOf 19 = .ok (.iload 4, 2) := by decide +kernel
theorem dX4_keywordOf_21 : decode cX4_keywordOf 21 = .ok (.iload_n 2, 1) := by decide +kernel
theorem dX4_keywordOf_22 : decode cX4_keywordOf 22 = .ok (.if_icmp .ge 30, 3) := by decide +kernel
theorem dX4_keywordOf_25 : decode cX4_keywordOf 25 = .ok (.ldc 89, 2) := by decide +kernel
theorem dX4_keywordOf_27 : decode cX4_keywordOf 27 = .ok (.iload_n 3, 1) := by decide +kernel
theorem dX4_keywordOf_28 : decode cX4_keywordOf 28 = .ok (.bipush 7, 2) := by decide +kernel
theorem dX4_keywordOf_30 : decode cX4_keywordOf 30 = .ok (.imul, 1) := by decide +kernel
theorem dX4_keywordOf_31 : decode cX4_keywordOf 31 = .ok (.iload 4, 2) := by decide +kernel
theorem dX4_keywordOf_33 : decode cX4_keywordOf 33 = .ok (.iadd, 1) := by decide +kernel
theorem dX4_keywordOf_34 : decode cX4_keywordOf 34 = .ok (.iload_n 1, 1) := by decide +kernel
theorem dX4_keywordOf_35 : decode cX4_keywordOf 35 = .ok (.isub, 1) := by decide +kernel
theorem dX4_keywordOf_36 : decode cX4_keywordOf 36 = .ok (.invokevirtual 91, 3) := by decide +kernel
theorem dX4_keywordOf_39 : decode cX4_keywordOf 39 = .ok (.aload_n 0, 1) := by decide +kernel
theorem dX4_keywordOf_40 : decode cX4_keywordOf 40 = .ok (.iload 4, 2) := by decide +kernel
theorem dX4_keywordOf_42 : decode cX4_keywordOf 42 = .ok (.iaload, 1) := by decide +kernel
theorem dX4_keywordOf_43 : decode cX4_keywordOf 43 = .ok (.if_icmp .ne 9, 3) := by decide +kernel
theorem dX4_keywordOf_46 : decode cX4_keywordOf 46 = .ok (.iinc 4 1, 3) := by decide +kernel
theorem dX4_keywordOf_49 : decode cX4_keywordOf 49 = .ok (.goto (-30), 3) := by decide +kernel
theorem dX4_keywordOf_52 : decode cX4_keywordOf 52 = .ok (.iload 4, 2) := by decide +kernel
theorem dX4_keywordOf_54 : decode cX4_keywordOf 54 = .ok (.iload_n 2, 1) := by decide +kernel
theorem dX4_keywordOf_55 : decode cX4_keywordOf 55 = .ok (.if_icmp .ne 23, 3) := by decide +kernel
theorem dX4_keywordOf_58 : decode cX4_keywordOf 58 = .ok (.ldc 89, 2) := by decide +kernel
theorem dX4_keywordOf_60 : decode cX4_keywordOf 60 = .ok (.iload_n 3, 1) := by decide +kernel
theorem dX4_keywordOf_61 : decode cX4_keywordOf 61 = .ok (.bipush 7, 2) := by decide +kernel
theorem dX4_keywordOf_63 : decode cX4_keywordOf 63 = .ok (.imul, 1) := by decide +kernel
theorem dX4_keywordOf_64 : decode cX4_keywordOf 64 = .ok (.iload_n 2, 1) := by decide +kernel
theorem dX4_keywordOf_65 : decode cX4_keywordOf 65 = .ok (.iadd, 1) := by decide +kernel
theorem dX4_keywordOf_66 : decode cX4_keywordOf 66 = .ok (.iload_n 1, 1) := by decide +kernel
theorem dX4_keywordOf_67 : decode cX4_keywordOf 67 = .ok (.isub, 1) := by decide +kernel
theorem dX4_keywordOf_68 : decode cX4_keywordOf 68 = .ok (.invokevirtual 91, 3) := by decide +kernel
theorem dX4_keywordOf_71 : decode cX4_keywordOf 71 = .ok (.bipush 32, 2) := by decide +kernel
theorem dX4_keywordOf_73 : decode cX4_keywordOf 73 = .ok (.if_icmp .ne 5, 3) := by decide +kernel
theorem dX4_keywordOf_76 : decode cX4_keywordOf 76 = .ok (.iload_n 3, 1) := by decide +kernel
theorem dX4_keywordOf_77 : decode cX4_keywordOf 77 = .ok (.ireturn, 1) := by decide +kernel
theorem dX4_keywordOf_78 : decode cX4_keywordOf 78 = .ok (.iinc 3 1, 3) := by decide +kernel
theorem dX4_keywordOf_81 : decode cX4_keywordOf 81 = .ok (.goto (-79), 3) := by decide +kernel
theorem dX4_keywordOf_84 : decode cX4_keywordOf 84 = .ok (.bipush 22, 2) := by decide +kernel
theorem dX4_keywordOf_86 : decode cX4_keywordOf 86 = .ok (.ireturn, 1) := by decide +kernel
theorem dX4_valueOf_0 : decode cX4_valueOf 0 = .ok (.iconst 0, 1) := by decide +kernel
theorem dX4_valueOf_1 : decode cX4_valueOf 1 = .ok (.istore_n 3, 1) := by decide +kernel
theorem dX4_valueOf_2 : decode cX4_valueOf 2 = .ok (.iload_n 1, 1) := by decide +kernel
theorem dX4_valueOf_3 : decode cX4_valueOf 3 = .ok (.istore 4, 2) := by decide +kernel
theorem dX4_valueOf_5 : decode cX4_valueOf 5 = .ok (.iload 4, 2) := by decide +kernel
theorem dX4_valueOf_7 : decode cX4_valueOf 7 = .ok (.iload_n 2, 1) := by decide +kernel
theorem dX4_valueOf_8 : decode cX4_valueOf 8 = .ok (.if_icmp .ge 30, 3) := by decide +kernel
theorem dX4_valueOf_11 : decode cX4_valueOf 11 = .ok (.iload 4, 2) := by decide +kernel
theorem dX4_valueOf_13 : decode cX4_valueOf 13 = .ok (.iload_n 1, 1) := by decide +kernel
theorem dX4_valueOf_14 : decode cX4_valueOf 14 = .ok (.iconst 4, 1) := by decide +kernel
theorem dX4_valueOf_15 : decode cX4_valueOf 15 = .ok (.iadd, 1) := by decide +kernel
theorem dX4_valueOf_16 : decode cX4_valueOf 16 = .ok (.if_icmp .ge 22, 3) := by decide +kernel
theorem dX4_valueOf_19 : decode cX4_valueOf 19 = .ok (.iload_n 3, 1) := by decide +kernel
theorem dX4_valueOf_20 : decode cX4_valueOf 20 = .ok (.bipush 10, 2) := by decide +kernel
theorem dX4_valueOf_22 : decode cX4_valueOf 22 = .ok (.imul, 1) := by decide +kernel
theorem dX4_valueOf_23 : decode cX4_valueOf 23 = .ok (.aload_n 0, 1) := by decide +kernel
theorem dX4_valueOf_24 : decode cX4_valueOf 24 = .ok (.iload 4, 2) := by decide +kernel
theorem dX4_valueOf_26 : decode cX4_valueOf 26 = .ok (.iaload, 1) := by decide +kernel
theorem dX4_valueOf_27 : decode cX4_valueOf 27 = .ok (.iadd, 1) := by decide +kernel
theorem dX4_valueOf_28 : decode cX4_valueOf 28 = .ok (.bipush 48, 2) := by decide +kernel
theorem dX4_valueOf_30 : decode cX4_valueOf 30 = .ok (.isub, 1) := by decide +kernel
theorem dX4_valueOf_31 : decode cX4_valueOf 31 = .ok (.istore_n 3, 1) := by decide +kernel
theorem dX4_valueOf_32 : decode cX4_valueOf 32 = .ok (.iinc 4 1, 3) := by decide +kernel
theorem dX4_valueOf_35 : decode cX4_valueOf 35 = .ok (.goto (-30), 3) := by decide +kernel
theorem dX4_valueOf_38 : decode cX4_valueOf 38 = .ok (.iload_n 3, 1) := by decide +kernel
theorem dX4_valueOf_39 : decode cX4_valueOf 39 = .ok (.ireturn, 1) := by decide +kernel
theorem dX4_step_0 : decode cX4_step 0 = .ok (.aload_n 0, 1) := by decide +kernel
theorem dX4_step_1 : decode cX4_step 1 = .ok (.getfield 45, 3) := by decide +kernel
theorem dX4_step_4 : decode cX4_step 4 = .ok (.ifCond .ne 39, 3) := by decide +kernel
theorem dX4_step_7 : decode cX4_step 7 = .ok (.aload_n 0, 1) := by decide +kernel
theorem dX4_step_8 : decode cX4_step 8 = .ok (.getfield 51, 3) := by decide +kernel
theorem dX4_step_11 : decode cX4_step 11 = .ok (.aload_n 0, 1) := by decide +kernel
theorem dX4_step_12 : decode cX4_step 12 = .ok (.getfield 60, 3) := by decide +kernel
theorem dX4_step_15 : decode cX4_step 15 = .ok (.iconst 1, 1) := by decide +kernel
theorem dX4_step_16 : decode cX4_step 16 = .ok (.isub, 1) := by decide +kernel
theorem dX4_step_17 : decode cX4_step 17 = .ok (.if_icmp .ge 26, 3) := by decide +kernel
theorem dX4_step_20 : decode cX4_step 20 = .ok (.aload_n 0, 1) := by decide +kernel
theorem dX4_step_21 : decode cX4_step 21 = .ok (.dup, 1) := by decide +kernel
theorem dX4_step_22 : decode cX4_step 22 = .ok (.getfield 51, 3) := by decide +kernel
theorem dX4_step_25 : decode cX4_step 25 = .ok (.iconst 1, 1) := by decide +kernel
theorem dX4_step_26 : decode cX4_step 26 = .ok (.iadd, 1) := by decide +kernel
theorem dX4_step_27 : decode cX4_step 27 = .ok (.putfield 51, 3) := by decide +kernel
theorem dX4_step_30 : decode cX4_step 30 = .ok (.aload_n 0, 1) := by decide +kernel
theorem dX4_step_31 : decode cX4_step 31 = .ok (.aload_n 0, 1) := by decide +kernel
theorem dX4_step_32 : decode cX4_step 32 = .ok (.getfield 18, 3) := by decide +kernel
theorem dX4_step_35 : decode cX4_step 35 = .ok (.aload_n 0, 1) := by decide +kernel
theorem dX4_step_36 : decode cX4_step 36 = .ok (.getfield 51, 3) := by decide +kernel
theorem dX4_step_39 : decode cX4_step 39 = .ok (.iaload, 1) := by decide +kernel
theorem dX4_step_40 : decode cX4_step 40 = .ok (.putfield 54, 3) := by decide +kernel
theorem dX4_step_43 : decode cX4_step 43 = .ok (.return_, 1) := by decide +kernel
theorem dX4_refuse_0 : decode cX4_refuse 0 = .ok (.aload_n 0, 1) := by decide +kernel
theorem dX4_refuse_1 : decode cX4_refuse 1 = .ok (.getfield 45, 3) := by decide +kernel
theorem dX4_refuse_4 : decode cX4_refuse 4 = .ok (.ifCond .ne 27, 3) := by decide +kernel
theorem dX4_refuse_7 : decode cX4_refuse 7 = .ok (.aload_n 0, 1) := by decide +kernel
theorem dX4_refuse_8 : decode cX4_refuse 8 = .ok (.iload_n 1, 1) := by decide +kernel
theorem dX4_refuse_9 : decode cX4_refuse 9 = .ok (.putfield 45, 3) := by decide +kernel
theorem dX4_refuse_12 : decode cX4_refuse 12 = .ok (.aload_n 0, 1) := by decide +kernel
theorem dX4_refuse_13 : decode cX4_refuse 13 = .ok (.aload_n 0, 1) := by decide +kernel
theorem dX4_refuse_14 : decode cX4_refuse 14 = .ok (.getfield 22, 3) := by decide +kernel
theorem dX4_refuse_17 : decode cX4_refuse 17 = .ok (.aload_n 0, 1) := by decide +kernel
theorem dX4_refuse_18 : decode cX4_refuse 18 = .ok (.getfield 51, 3) := by decide +kernel
theorem dX4_refuse_21 : decode cX4_refuse 21 = .ok (.iaload, 1) := by decide +kernel
theorem dX4_refuse_22 : decode cX4_refuse 22 = .ok (.putfield 48, 3) := by decide +kernel
theorem dX4_refuse_25 : decode cX4_refuse 25 = .ok (.aload_n 0, 1) := by decide +kernel
theorem dX4_refuse_26 : decode cX4_refuse 26 = .ok (.bipush 22, 2) := by decide +kernel
theorem dX4_refuse_28 : decode cX4_refuse 28 = .ok (.putfield 54, 3) := by decide +kernel
theorem dX4_refuse_31 : decode cX4_refuse 31 = .ok (.return_, 1) := by decide +kernel
theorem dX4_demand_0 : decode cX4_demand 0 = .ok (.aload_n 0, 1) := by decide +kernel
theorem dX4_demand_1 : decode cX4_demand 1 = .ok (.getfield 54, 3) := by decide +kernel
theorem dX4_demand_4 : decode cX4_demand 4 = .ok (.iload_n 1, 1) := by decide +kernel
theorem dX4_demand_5 : decode cX4_demand 5 = .ok (.if_icmp .ne 10, 3) := by decide +kernel
theorem dX4_demand_8 : decode cX4_demand 8 = .ok (.aload_n 0, 1) := by decide +kernel
theorem dX4_demand_9 : decode cX4_demand 9 = .ok (.invokevirtual 95, 3) := by decide +kernel
theorem dX4_demand_12 : decode cX4_demand 12 = .ok (.goto 8, 3) := by decide +kernel
theorem dX4_demand_15 : decode cX4_demand 15 = .ok (.aload_n 0, 1) := by decide +kernel
theorem dX4_demand_16 : decode cX4_demand 16 = .ok (.iconst 1, 1) := by decide +kernel
theorem dX4_demand_17 : decode cX4_demand 17 = .ok (.invokevirtual 98, 3) := by decide +kernel
theorem dX4_demand_20 : decode cX4_demand 20 = .ok (.return_, 1) := by decide +kernel
theorem dX4_emit_0 : decode cX4_emit 0 = .ok (.aload_n 0, 1) := by decide +kernel
theorem dX4_emit_1 : decode cX4_emit 1 = .ok (.getfield 42, 3) := by decide +kernel
theorem dX4_emit_4 : decode cX4_emit 4 = .ok (.sipush 400, 3) := by decide +kernel
theorem dX4_emit_7 : decode cX4_emit 7 = .ok (.if_icmp .ge 26, 3) := by decide +kernel
theorem dX4_emit_10 : decode cX4_emit 10 = .ok (.aload_n 0, 1) := by decide +kernel
theorem dX4_emit_11 : decode cX4_emit 11 = .ok (.getfield 12, 3) := by decide +kernel
theorem dX4_emit_14 : decode cX4_emit 14 = .ok (.getfield 102, 3) := by decide +kernel
theorem dX4_emit_17 : decode cX4_emit 17 = .ok (.aload_n 0, 1) := by decide +kernel
theorem dX4_emit_18 : decode cX4_emit 18 = .ok (.getfield 42, 3) := by decide +kernel
theorem dX4_emit_21 : decode cX4_emit 21 = .ok (.iload_n 1, 1) := by decide +kernel
theorem dX4_emit_22 : decode cX4_emit 22 = .ok (.iastore, 1) := by decide +kernel
theorem dX4_emit_23 : decode cX4_emit 23 = .ok (.aload_n 0, 1) := by decide +kernel
theorem dX4_emit_24 : decode cX4_emit 24 = .ok (.dup, 1) := by decide +kernel
theorem dX4_emit_25 : decode cX4_emit 25 = .ok (.getfield 42, 3) := by decide +kernel
theorem dX4_emit_28 : decode cX4_emit 28 = .ok (.iconst 1, 1) := by decide +kernel
theorem dX4_emit_29 : decode cX4_emit 29 = .ok (.iadd, 1) := by decide +kernel
theorem dX4_emit_30 : decode cX4_emit 30 = .ok (.putfield 42, 3) := by decide +kernel
theorem dX4_emit_33 : decode cX4_emit 33 = .ok (.return_, 1) := by decide +kernel
theorem dX4_readLine_0 : decode cX4_readLine 0 = .ok (.aload_n 0, 1) := by decide +kernel
theorem dX4_readLine_1 : decode cX4_readLine 1 = .ok (.getfield 54, 3) := by decide +kernel
theorem dX4_readLine_4 : decode cX4_readLine 4 = .ok (.ifCond .eq 17, 3) := by decide +kernel
theorem dX4_readLine_7 : decode cX4_readLine 7 = .ok (.aload_n 0, 1) := by decide +kernel
theorem dX4_readLine_8 : decode cX4_readLine 8 = .ok (.getfield 54, 3) := by decide +kernel
theorem dX4_readLine_11 : decode cX4_readLine 11 = .ok (.iconst 1, 1) := by decide +kernel
theorem dX4_readLine_12 : decode cX4_readLine 12 = .ok (.if_icmp .eq 9, 3) := by decide +kernel
theorem dX4_readLine_15 : decode cX4_readLine 15 = .ok (.aload_n 0, 1) := by decide +kernel
theorem dX4_readLine_16 : decode cX4_readLine 16 = .ok (.iconst 1, 1) := by decide +kernel
theorem dX4_readLine_17 : decode cX4_readLine 17 = .ok (.invokevirtual 98, 3) := by decide +kernel
theorem dX4_readLine_20 : decode cX4_readLine 20 = .ok (.return_, 1) := by decide +kernel
theorem dX4_readLine_21 : decode cX4_readLine 21 = .ok (.aload_n 0, 1) := by decide +kernel
theorem dX4_readLine_22 : decode cX4_readLine 22 = .ok (.getfield 12, 3) := by decide +kernel
theorem dX4_readLine_25 : decode cX4_readLine 25 = .ok (.getfield 38, 3) := by decide +kernel
theorem dX4_readLine_28 : decode cX4_readLine 28 = .ok (.bipush 16, 2) := by decide +kernel
theorem dX4_readLine_30 : decode cX4_readLine 30 = .ok (.if_icmp .lt 9, 3) := by decide +kernel
theorem dX4_readLine_33 : decode cX4_readLine 33 = .ok (.aload_n 0, 1) := by decide +kernel
theorem dX4_readLine_34 : decode cX4_readLine 34 = .ok (.iconst 3, 1) := by decide +kernel
theorem dX4_readLine_35 : decode cX4_readLine 35 = .ok (.invokevirtual 98, 3) := by decide +kernel
theorem dX4_readLine_38 : decode cX4_readLine 38 = .ok (.return_, 1) := by decide +kernel
theorem dX4_readLine_39 : decode cX4_readLine 39 = .ok (.aload_n 0, 1) := by decide +kernel
theorem dX4_readLine_40 : decode cX4_readLine 40 = .ok (.getfield 12, 3) := by decide +kernel
theorem dX4_readLine_43 : decode cX4_readLine 43 = .ok (.getfield 105, 3) := by decide +kernel
theorem dX4_readLine_46 : decode cX4_readLine 46 = .ok (.aload_n 0, 1) := by decide +kernel
theorem dX4_readLine_47 : decode cX4_readLine 47 = .ok (.getfield 12, 3) := by decide +kernel
theorem dX4_readLine_50 : decode cX4_readLine 50 = .ok (.getfield 38, 3) := by decide +kernel
theorem dX4_readLine_53 : decode cX4_readLine 53 = .ok (.aload_n 0, 1) := by decide +kernel
theorem dX4_readLine_54 : decode cX4_readLine 54 = .ok (.getfield 54, 3) := by decide +kernel
theorem dX4_readLine_57 : decode cX4_readLine 57 = .ok (.ifCond .ne 7, 3) := by decide +kernel
theorem dX4_readLine_60 : decode cX4_readLine 60 = .ok (.iconst 1, 1) := by decide +kernel
theorem dX4_readLine_61 : decode cX4_readLine 61 = .ok (.goto 4, 3) := by decide +kernel
theorem dX4_readLine_64 : decode cX4_readLine 64 = .ok (.iconst 0, 1) := by decide +kernel
theorem dX4_readLine_65 : decode cX4_readLine 65 = .ok (.bastore, 1) := by decide +kernel
theorem dX4_readLine_66 : decode cX4_readLine 66 = .ok (.aload_n 0, 1) := by decide +kernel
theorem dX4_readLine_67 : decode cX4_readLine 67 = .ok (.invokevirtual 95, 3) := by decide +kernel
theorem dX4_readLine_70 : decode cX4_readLine 70 = .ok (.aload_n 0, 1) := by decide +kernel
theorem dX4_readLine_71 : decode cX4_readLine 71 = .ok (.getfield 54, 3) := by decide +kernel
theorem dX4_readLine_74 : decode cX4_readLine 74 = .ok (.iconst 2, 1) := by decide +kernel
theorem dX4_readLine_75 : decode cX4_readLine 75 = .ok (.if_icmp .ne 12, 3) := by decide +kernel
theorem dX4_readLine_78 : decode cX4_readLine 78 = .ok (.aload_n 0, 1) := by decide +kernel
theorem dX4_readLine_79 : decode cX4_readLine 79 = .ok (.invokevirtual 95, 3) := by decide +kernel
theorem dX4_readLine_82 : decode cX4_readLine 82 = .ok (.aload_n 0, 1) := by decide +kernel
theorem dX4_readLine_83 : decode cX4_readLine 83 = .ok (.iconst 0, 1) := by decide +kernel
theorem dX4_readLine_84 : decode cX4_readLine 84 = .ok (.invokevirtual 109, 3) := by decide +kernel
theorem dX4_readLine_87 : decode cX4_readLine 87 = .ok (.aload_n 0, 1) := by decide +kernel
theorem dX4_readLine_88 : decode cX4_readLine 88 = .ok (.bipush 59, 2) := by decide +kernel
theorem dX4_readLine_90 : decode cX4_readLine 90 = .ok (.invokevirtual 112, 3) := by decide +kernel
theorem dX4_readLine_93 : decode cX4_readLine 93 = .ok (.aload_n 0, 1) := by decide +kernel
theorem dX4_readLine_94 : decode cX4_readLine 94 = .ok (.getfield 12, 3) := by decide +kernel
theorem dX4_readLine_97 : decode cX4_readLine 97 = .ok (.getfield 115, 3) := by decide +kernel
theorem dX4_readLine_100 : decode cX4_readLine 100 = .ok (.aload_n 0, 1) := by decide +kernel
theorem dX4_readLine_101 : decode cX4_readLine 101 = .ok (.getfield 12, 3) := by decide +kernel
theorem dX4_readLine_104 : decode cX4_readLine 104 = .ok (.getfield 38, 3) := by decide +kernel
theorem dX4_readLine_107 : decode cX4_readLine 107 = .ok (.aload_n 0, 1) := by decide +kernel
theorem dX4_readLine_108 : decode cX4_readLine 108 = .ok (.getfield 42, 3) := by decide +kernel
theorem dX4_readLine_111 : decode cX4_readLine 111 = .ok (.iastore, 1) := by decide +kernel
theorem dX4_readLine_112 : decode cX4_readLine 112 = .ok (.aload_n 0, 1) := by decide +kernel
theorem dX4_readLine_113 : decode cX4_readLine 113 = .ok (.getfield 12, 3) := by decide +kernel
theorem dX4_readLine_116 : decode cX4_readLine 116 = .ok (.dup, 1) := by decide +kernel
theorem dX4_readLine_117 : decode cX4_readLine 117 = .ok (.getfield 38, 3) := by decide +kernel
theorem dX4_readLine_120 : decode cX4_readLine 120 = .ok (.iconst 1, 1) := by decide +kernel
theorem dX4_readLine_121 : decode cX4_readLine 121 = .ok (.iadd, 1) := by decide +kernel
theorem dX4_readLine_122 : decode cX4_readLine 122 = .ok (.putfield 38, 3) := by decide +kernel
theorem dX4_readLine_125 : decode cX4_readLine 125 = .ok (.return_, 1) := by decide +kernel
theorem dX4_readCondition_0 : decode cX4_readCondition 0 = .ok (.iconst 0, 1) := by decide +kernel
theorem dX4_readCondition_1 : decode cX4_readCondition 1 = .ok (.istore_n 2, 1) := by decide +kernel
theorem dX4_readCondition_2 : decode cX4_readCondition 2 = .ok (.aload_n 0, 1) := by decide +kernel
theorem dX4_readCondition_3 : decode cX4_readCondition 3 = .ok (.iload_n 1, 1) := by decide +kernel
theorem dX4_readCondition_4 : decode cX4_readCondition 4 = .ok (.invokevirtual 118, 3) := by decide +kernel
theorem dX4_readCondition_7 : decode cX4_readCondition 7 = .ok (.iconst 0, 1) := by decide +kernel
theorem dX4_readCondition_8 : decode cX4_readCondition 8 = .ok (.istore_n 3, 1) := by decide +kernel
theorem dX4_readCondition_9 : decode cX4_readCondition 9 = .ok (.iload_n 3, 1) := by decide +kernel
theorem dX4_readCondition_10 : decode cX4_readCondition 10 = .ok (.sipush 400, 3) := by decide +kernel
theorem dX4_readCondition_13 : decode cX4_readCondition 13 = .ok (.if_icmp .gt 64, 3) := by decide +kernel
theorem dX4_readCondition_16 : decode cX4_readCondition 16 = .ok (.aload_n 0, 1) := by decide +kernel
theorem dX4_readCondition_17 : decode cX4_readCondition 17 = .ok (.getfield 54, 3) := by decide +kernel
theorem dX4_readCondition_20 : decode cX4_readCondition 20 = .ok (.iconst 4, 1) := by decide +kernel
theorem dX4_readCondition_21 : decode cX4_readCondition 21 = .ok (.if_icmp .ne 21, 3) := by decide +kernel
theorem dX4_readCondition_24 : decode cX4_readCondition 24 = .ok (.aload_n 0, 1) := by decide +kernel
theorem dX4_readCondition_25 : decode cX4_readCondition 25 = .ok (.invokevirtual 95, 3) := by decide +kernel
theorem dX4_readCondition_28 : decode cX4_readCondition 28 = .ok (.aload_n 0, 1) := by decide +kernel
theorem dX4_readCondition_29 : decode cX4_readCondition 29 = .ok (.iload_n 1, 1) := by decide +kernel
theorem dX4_readCondition_30 : decode cX4_readCondition 30 = .ok (.invokevirtual 118, 3) := by decide +kernel
theorem dX4_readCondition_33 : decode cX4_readCondition 33 = .ok (.aload_n 0, 1) := by decide +kernel
theorem dX4_readCondition_34 : decode cX4_readCondition 34 = .ok (.bipush (-4), 2) := by decide +kernel
theorem dX4_readCondition_36 : decode cX4_readCondition 36 = .ok (.invokevirtual 121, 3) := by decide +kernel
theorem dX4_readCondition_39 : decode cX4_readCondition 39 = .ok (.goto 32, 3) := by decide +kernel
theorem dX4_readCondition_42 : decode cX4_readCondition 42 = .ok (.aload_n 0, 1) := by decide +kernel
theorem dX4_readCondition_43 : decode cX4_readCondition 43 = .ok (.getfield 54, 3) := by decide +kernel
theorem dX4_readCondition_46 : decode cX4_readCondition 46 = .ok (.iconst 3, 1) := by decide +kernel
theorem dX4_readCondition_47 : decode cX4_readCondition 47 = .ok (.if_icmp .ne 30, 3) := by decide +kernel
theorem dX4_readCondition_50 : decode cX4_readCondition 50 = .ok (.aload_n 0, 1) := by decide +kernel
theorem dX4_readCondition_51 : decode cX4_readCondition 51 = .ok (.invokevirtual 95, 3) := by decide +kernel
theorem dX4_readCondition_54 : decode cX4_readCondition 54 = .ok (.iload_n 2, 1) := by decide +kernel
theorem dX4_readCondition_55 : decode cX4_readCondition 55 = .ok (.ifCond .eq 9, 3) := by decide +kernel
theorem dX4_readCondition_58 : decode cX4_readCondition 58 = .ok (.aload_n 0, 1) := by decide +kernel
theorem dX4_readCondition_59 : decode cX4_readCondition 59 = .ok (.bipush (-3), 2) := by decide +kernel
theorem dX4_readCondition_61 : decode cX4_readCondition 61 = .ok (.invokevirtual 121, 3) := by decide +kernel
theorem dX4_readCondition_64 : decode cX4_readCondition 64 = .ok (.iconst 1, 1) := by decide +kernel
theorem dX4_readCondition_65 : decode cX4_readCondition 65 = .ok (.istore_n 2, 1) := by decide +kernel
theorem dX4_readCondition_66 : decode cX4_readCondition 66 = .ok (.aload_n 0, 1) := by decide +kernel
theorem dX4_readCondition_67 : decode cX4_readCondition 67 = .ok (.iload_n 1, 1) := by decide +kernel
theorem dX4_readCondition_68 : decode cX4_readCondition 68 = .ok (.invokevirtual 118, 3) := by decide +kernel
theorem dX4_readCondition_71 : decode cX4_readCondition 71 = .ok (.iinc 3 1, 3) := by decide +kernel
theorem dX4_readCondition_74 : decode cX4_readCondition 74 = .ok (.goto (-65), 3) := by decide +kernel
theorem dX4_readCondition_77 : decode cX4_readCondition 77 = .ok (.iload_n 2, 1) := by decide +kernel
theorem dX4_readCondition_78 : decode cX4_readCondition 78 = .ok (.ifCond .eq 9, 3) := by decide +kernel
theorem dX4_readCondition_81 : decode cX4_readCondition 81 = .ok (.aload_n 0, 1) := by decide +kernel
theorem dX4_readCondition_82 : decode cX4_readCondition 82 = .ok (.bipush (-3), 2) := by decide +kernel
theorem dX4_readCondition_84 : decode cX4_readCondition 84 = .ok (.invokevirtual 121, 3) := by decide +kernel
theorem dX4_readCondition_87 : decode cX4_readCondition 87 = .ok (.return_, 1) := by decide +kernel
theorem dX4_readOne_0 : decode cX4_readOne 0 = .ok (.aload_n 0, 1) := by decide +kernel
theorem dX4_readOne_1 : decode cX4_readOne 1 = .ok (.getfield 54, 3) := by decide +kernel
theorem dX4_readOne_4 : decode cX4_readOne 4 = .ok (.istore_n 2, 1) := by decide +kernel
theorem dX4_readOne_5 : decode cX4_readOne 5 = .ok (.iload_n 2, 1) := by decide +kernel
theorem dX4_readOne_6 : decode cX4_readOne 6 = .ok (.iconst 5, 1) := by decide +kernel
theorem dX4_readOne_7 : decode cX4_readOne 7 = .ok (.if_icmp .eq 9, 3) := by decide +kernel
theorem dX4_readOne_10 : decode cX4_readOne 10 = .ok (.iload_n 2, 1) := by decide +kernel
theorem dX4_readOne_11 : decode cX4_readOne 11 = .ok (.bipush 40, 2) := by decide +kernel
theorem dX4_readOne_13 : decode cX4_readOne 13 = .ok (.if_icmp .ne 17, 3) := by decide +kernel
theorem dX4_readOne_16 : decode cX4_readOne 16 = .ok (.iload_n 1, 1) := by decide +kernel
theorem dX4_readOne_17 : decode cX4_readOne 17 = .ok (.bipush 8, 2) := by decide +kernel
theorem dX4_readOne_19 : decode cX4_readOne 19 = .ok (.if_icmp .lt 11, 3) := by decide +kernel
theorem dX4_readOne_22 : decode cX4_readOne 22 = .ok (.aload_n 0, 1) := by decide +kernel
theorem dX4_readOne_23 : decode cX4_readOne 23 = .ok (.iconst 3, 1) := by decide +kernel
theorem dX4_readOne_24 : decode cX4_readOne 24 = .ok (.invokevirtual 98, 3) := by decide +kernel
theorem dX4_readOne_27 : decode cX4_readOne 27 = .ok (.goto 95, 3) := by decide +kernel
theorem dX4_readOne_30 : decode cX4_readOne 30 = .ok (.iload_n 2, 1) := by decide +kernel
theorem dX4_readOne_31 : decode cX4_readOne 31 = .ok (.iconst 5, 1) := by decide +kernel
theorem dX4_readOne_32 : decode cX4_readOne 32 = .ok (.if_icmp .ne 23, 3) := by decide +kernel
theorem dX4_readOne_35 : decode cX4_readOne 35 = .ok (.aload_n 0, 1) := by decide +kernel
theorem dX4_readOne_36 : decode cX4_readOne 36 = .ok (.invokevirtual 95, 3) := by decide +kernel
theorem dX4_readOne_39 : decode cX4_readOne 39 = .ok (.aload_n 0, 1) := by decide +kernel
theorem dX4_readOne_40 : decode cX4_readOne 40 = .ok (.iload_n 1, 1) := by decide +kernel
theorem dX4_readOne_41 : decode cX4_readOne 41 = .ok (.iconst 1, 1) := by decide +kernel
theorem dX4_readOne_42 : decode cX4_readOne 42 = .ok (.iadd, 1) := by decide +kernel
theorem dX4_readOne_43 : decode cX4_readOne 43 = .ok (.invokevirtual 118, 3) := by decide +kernel
theorem dX4_readOne_46 : decode cX4_readOne 46 = .ok (.aload_n 0, 1) := by decide +kernel
theorem dX4_readOne_47 : decode cX4_readOne 47 = .ok (.bipush (-5), 2) := by decide +kernel
theorem dX4_readOne_49 : decode cX4_readOne 49 = .ok (.invokevirtual 121, 3) := by decide +kernel
theorem dX4_readOne_52 : decode cX4_readOne 52 = .ok (.goto 70, 3) := by decide +kernel
theorem dX4_readOne_55 : decode cX4_readOne 55 = .ok (.iload_n 2, 1) := by decide +kernel
theorem dX4_readOne_56 : decode cX4_readOne 56 = .ok (.bipush 40, 2) := by decide +kernel
theorem dX4_readOne_58 : decode cX4_readOne 58 = .ok (.if_icmp .ne 23, 3) := by decide +kernel
theorem dX4_readOne_61 : decode cX4_readOne 61 = .ok (.aload_n 0, 1) := by decide +kernel
theorem dX4_readOne_62 : decode cX4_readOne 62 = .ok (.invokevirtual 95, 3) := by decide +kernel
theorem dX4_readOne_65 : decode cX4_readOne 65 = .ok (.aload_n 0, 1) := by decide +kernel
theorem dX4_readOne_66 : decode cX4_readOne 66 = .ok (.iload_n 1, 1) := by decide +kernel
theorem dX4_readOne_67 : decode cX4_readOne 67 = .ok (.iconst 1, 1) := by decide +kernel
theorem dX4_readOne_68 : decode cX4_readOne 68 = .ok (.iadd, 1) := by decide +kernel
theorem dX4_readOne_69 : decode cX4_readOne 69 = .ok (.invokevirtual 109, 3) := by decide +kernel
theorem dX4_readOne_72 : decode cX4_readOne 72 = .ok (.aload_n 0, 1) := by decide +kernel
theorem dX4_readOne_73 : decode cX4_readOne 73 = .ok (.bipush 41, 2) := by decide +kernel
theorem dX4_readOne_75 : decode cX4_readOne 75 = .ok (.invokevirtual 112, 3) := by decide +kernel
theorem dX4_readOne_78 : decode cX4_readOne 78 = .ok (.goto 44, 3) := by decide +kernel
theorem dX4_readOne_81 : decode cX4_readOne 81 = .ok (.aload_n 0, 1) := by decide +kernel
theorem dX4_readOne_82 : decode cX4_readOne 82 = .ok (.invokevirtual 124, 3) := by decide +kernel
theorem dX4_readOne_85 : decode cX4_readOne 85 = .ok (.aload_n 0, 1) := by decide +kernel
theorem dX4_readOne_86 : decode cX4_readOne 86 = .ok (.getfield 54, 3) := by decide +kernel
theorem dX4_readOne_89 : decode cX4_readOne 89 = .ok (.istore_n 3, 1) := by decide +kernel
theorem dX4_readOne_90 : decode cX4_readOne 90 = .ok (.aload_n 0, 1) := by decide +kernel
theorem dX4_readOne_91 : decode cX4_readOne 91 = .ok (.iload_n 3, 1) := by decide +kernel
theorem dX4_readOne_92 : decode cX4_readOne 92 = .ok (.bipush 60, 2) := by decide +kernel
theorem dX4_readOne_94 : decode cX4_readOne 94 = .ok (.if_icmp .eq 9, 3) := by decide +kernel
theorem dX4_readOne_97 : decode cX4_readOne 97 = .ok (.iload_n 3, 1) := by decide +kernel
theorem dX4_readOne_98 : decode cX4_readOne 98 = .ok (.bipush 62, 2) := by decide +kernel
theorem dX4_readOne_100 : decode cX4_readOne 100 = .ok (.if_icmp .ne 7, 3) := by decide +kernel
theorem dX4_readOne_103 : decode cX4_readOne 103 = .ok (.iload_n 3, 1) := by decide +kernel
theorem dX4_readOne_104 : decode cX4_readOne 104 = .ok (.goto 5, 3) := by decide +kernel
theorem dX4_readOne_107 : decode cX4_readOne 107 = .ok (.bipush 61, 2) := by decide +kernel
theorem dX4_readOne_109 : decode cX4_readOne 109 = .ok (.invokevirtual 112, 3) := by decide +kernel
theorem dX4_readOne_112 : decode cX4_readOne 112 = .ok (.aload_n 0, 1) := by decide +kernel
theorem dX4_readOne_113 : decode cX4_readOne 113 = .ok (.invokevirtual 124, 3) := by decide +kernel
theorem dX4_readOne_116 : decode cX4_readOne 116 = .ok (.aload_n 0, 1) := by decide +kernel
theorem dX4_readOne_117 : decode cX4_readOne 117 = .ok (.iload_n 3, 1) := by decide +kernel
theorem dX4_readOne_118 : decode cX4_readOne 118 = .ok (.ineg, 1) := by decide +kernel
theorem dX4_readOne_119 : decode cX4_readOne 119 = .ok (.invokevirtual 121, 3) := by decide +kernel
theorem dX4_readOne_122 : decode cX4_readOne 122 = .ok (.return_, 1) := by decide +kernel
theorem dX4_readSum_0 : decode cX4_readSum 0 = .ok (.iconst 0, 1) := by decide +kernel
theorem dX4_readSum_1 : decode cX4_readSum 1 = .ok (.istore_n 1, 1) := by decide +kernel
theorem dX4_readSum_2 : decode cX4_readSum 2 = .ok (.aload_n 0, 1) := by decide +kernel
theorem dX4_readSum_3 : decode cX4_readSum 3 = .ok (.iconst 0, 1) := by decide +kernel
theorem dX4_readSum_4 : decode cX4_readSum 4 = .ok (.invokevirtual 127, 3) := by decide +kernel
theorem dX4_readSum_7 : decode cX4_readSum 7 = .ok (.iconst 0, 1) := by decide +kernel
theorem dX4_readSum_8 : decode cX4_readSum 8 = .ok (.istore_n 2, 1) := by decide +kernel
theorem dX4_readSum_9 : decode cX4_readSum 9 = .ok (.iload_n 2, 1) := by decide +kernel
theorem dX4_readSum_10 : decode cX4_readSum 10 = .ok (.sipush 400, 3) := by decide +kernel
theorem dX4_readSum_13 : decode cX4_readSum 13 = .ok (.if_icmp .gt 77, 3) := by decide +kernel
theorem dX4_readSum_16 : decode cX4_readSum 16 = .ok (.aload_n 0, 1) := by decide +kernel
theorem dX4_readSum_17 : decode cX4_readSum 17 = .ok (.getfield 54, 3) := by decide +kernel
theorem dX4_readSum_20 : decode cX4_readSum 20 = .ok (.istore_n 3, 1) := by decide +kernel
theorem dX4_readSum_21 : decode cX4_readSum 21 = .ok (.iload_n 3, 1) := by decide +kernel
theorem dX4_readSum_22 : decode cX4_readSum 22 = .ok (.bipush 42, 2) := by decide +kernel
theorem dX4_readSum_24 : decode cX4_readSum 24 = .ok (.if_icmp .eq 9, 3) := by decide +kernel
theorem dX4_readSum_27 : decode cX4_readSum 27 = .ok (.iload_n 3, 1) := by decide +kernel
theorem dX4_readSum_28 : decode cX4_readSum 28 = .ok (.bipush 47, 2) := by decide +kernel
theorem dX4_readSum_30 : decode cX4_readSum 30 = .ok (.if_icmp .ne 21, 3) := by decide +kernel
theorem dX4_readSum_33 : decode cX4_readSum 33 = .ok (.aload_n 0, 1) := by decide +kernel
theorem dX4_readSum_34 : decode cX4_readSum 34 = .ok (.invokevirtual 95, 3) := by decide +kernel
theorem dX4_readSum_37 : decode cX4_readSum 37 = .ok (.aload_n 0, 1) := by decide +kernel
theorem dX4_readSum_38 : decode cX4_readSum 38 = .ok (.iload_n 3, 1) := by decide +kernel
theorem dX4_readSum_39 : decode cX4_readSum 39 = .ok (.invokevirtual 127, 3) := by decide +kernel
theorem dX4_readSum_42 : decode cX4_readSum 42 = .ok (.aload_n 0, 1) := by decide +kernel
theorem dX4_readSum_43 : decode cX4_readSum 43 = .ok (.iload_n 3, 1) := by decide +kernel
theorem dX4_readSum_44 : decode cX4_readSum 44 = .ok (.ineg, 1) := by decide +kernel
theorem dX4_readSum_45 : decode cX4_readSum 45 = .ok (.invokevirtual 121, 3) := by decide +kernel
theorem dX4_readSum_48 : decode cX4_readSum 48 = .ok (.goto 36, 3) := by decide +kernel
theorem dX4_readSum_51 : decode cX4_readSum 51 = .ok (.iload_n 3, 1) := by decide +kernel
theorem dX4_readSum_52 : decode cX4_readSum 52 = .ok (.bipush 43, 2) := by decide +kernel
theorem dX4_readSum_54 : decode cX4_readSum 54 = .ok (.if_icmp .eq 9, 3) := by decide +kernel
theorem dX4_readSum_57 : decode cX4_readSum 57 = .ok (.iload_n 3, 1) := by decide +kernel
theorem dX4_readSum_58 : decode cX4_readSum 58 = .ok (.bipush 45, 2) := by decide +kernel
theorem dX4_readSum_60 : decode cX4_readSum 60 = .ok (.if_icmp .ne 30, 3) := by decide +kernel
theorem dX4_readSum_63 : decode cX4_readSum 63 = .ok (.aload_n 0, 1) := by decide +kernel
theorem dX4_readSum_64 : decode cX4_readSum 64 = .ok (.invokevirtual 95, 3) := by decide +kernel
theorem dX4_readSum_67 : decode cX4_readSum 67 = .ok (.iload_n 1, 1) := by decide +kernel
theorem dX4_readSum_68 : decode cX4_readSum 68 = .ok (.ifCond .eq 9, 3) := by decide +kernel
theorem dX4_readSum_71 : decode cX4_readSum 71 = .ok (.aload_n 0, 1) := by decide +kernel
theorem dX4_readSum_72 : decode cX4_readSum 72 = .ok (.iload_n 1, 1) := by decide +kernel
theorem dX4_readSum_73 : decode cX4_readSum 73 = .ok (.ineg, 1) := by decide +kernel
theorem dX4_readSum_74 : decode cX4_readSum 74 = .ok (.invokevirtual 121, 3) := by decide +kernel
theorem dX4_readSum_77 : decode cX4_readSum 77 = .ok (.iload_n 3, 1) := by decide +kernel
theorem dX4_readSum_78 : decode cX4_readSum 78 = .ok (.istore_n 1, 1) := by decide +kernel
theorem dX4_readSum_79 : decode cX4_readSum 79 = .ok (.aload_n 0, 1) := by decide +kernel
theorem dX4_readSum_80 : decode cX4_readSum 80 = .ok (.iload_n 3, 1) := by decide +kernel
theorem dX4_readSum_81 : decode cX4_readSum 81 = .ok (.invokevirtual 127, 3) := by decide +kernel
theorem dX4_readSum_84 : decode cX4_readSum 84 = .ok (.iinc 2 1, 3) := by decide +kernel
theorem dX4_readSum_87 : decode cX4_readSum 87 = .ok (.goto (-78), 3) := by decide +kernel
theorem dX4_readSum_90 : decode cX4_readSum 90 = .ok (.iload_n 1, 1) := by decide +kernel
theorem dX4_readSum_91 : decode cX4_readSum 91 = .ok (.ifCond .eq 9, 3) := by decide +kernel
theorem dX4_readSum_94 : decode cX4_readSum 94 = .ok (.aload_n 0, 1) := by decide +kernel
theorem dX4_readSum_95 : decode cX4_readSum 95 = .ok (.iload_n 1, 1) := by decide +kernel
theorem dX4_readSum_96 : decode cX4_readSum 96 = .ok (.ineg, 1) := by decide +kernel
theorem dX4_readSum_97 : decode cX4_readSum 97 = .ok (.invokevirtual 121, 3) := by decide +kernel
theorem dX4_readSum_100 : decode cX4_readSum 100 = .ok (.return_, 1) := by decide +kernel
theorem dX4_readOperand_0 : decode cX4_readOperand 0 = .ok (.iload_n 1, 1) := by decide +kernel
theorem dX4_readOperand_1 : decode cX4_readOperand 1 = .ok (.bipush 47, 2) := by decide +kernel
theorem dX4_readOperand_3 : decode cX4_readOperand 3 = .ok (.if_icmp .ne 7, 3) := by decide +kernel
theorem dX4_readOperand_6 : decode cX4_readOperand 6 = .ok (.iconst 1, 1) := by decide +kernel
theorem dX4_readOperand_7 : decode cX4_readOperand 7 = .ok (.goto 4, 3) := by decide +kernel
theorem dX4_readOperand_10 : decode cX4_readOperand 10 = .ok (.iconst 0, 1) := by decide +kernel
theorem dX4_readOperand_11 : decode cX4_readOperand 11 = .ok (.istore_n 2, 1) := by decide +kernel
theorem dX4_readOperand_12 : decode cX4_readOperand 12 = .ok (.iload_n 2, 1) := by decide +kernel
theorem dX4_readOperand_13 : decode cX4_readOperand 13 = .ok (.ifCond .eq 32, 3) := by decide +kernel
theorem dX4_readOperand_16 : decode cX4_readOperand 16 = .ok (.aload_n 0, 1) := by decide +kernel
theorem dX4_readOperand_17 : decode cX4_readOperand 17 = .ok (.getfield 54, 3) := by decide +kernel
theorem dX4_readOperand_20 : decode cX4_readOperand 20 = .ok (.bipush 20, 2) := by decide +kernel
theorem dX4_readOperand_22 : decode cX4_readOperand 22 = .ok (.if_icmp .ne 23, 3) := by decide +kernel
theorem dX4_readOperand_25 : decode cX4_readOperand 25 = .ok (.aload_n 0, 1) := by decide +kernel
theorem dX4_readOperand_26 : decode cX4_readOperand 26 = .ok (.getfield 25, 3) := by decide +kernel
theorem dX4_readOperand_29 : decode cX4_readOperand 29 = .ok (.aload_n 0, 1) := by decide +kernel
theorem dX4_readOperand_30 : decode cX4_readOperand 30 = .ok (.getfield 51, 3) := by decide +kernel
theorem dX4_readOperand_33 : decode cX4_readOperand 33 = .ok (.iaload, 1) := by decide +kernel
theorem dX4_readOperand_34 : decode cX4_readOperand 34 = .ok (.ifCond .ne 11, 3) := by decide +kernel
theorem dX4_readOperand_37 : decode cX4_readOperand 37 = .ok (.aload_n 0, 1) := by decide +kernel
theorem dX4_readOperand_38 : decode cX4_readOperand 38 = .ok (.iconst 2, 1) := by decide +kernel
theorem dX4_readOperand_39 : decode cX4_readOperand 39 = .ok (.invokevirtual 98, 3) := by decide +kernel
theorem dX4_readOperand_42 : decode cX4_readOperand 42 = .ok (.goto 81, 3) := by decide +kernel
theorem dX4_readOperand_45 : decode cX4_readOperand 45 = .ok (.aload_n 0, 1) := by decide +kernel
theorem dX4_readOperand_46 : decode cX4_readOperand 46 = .ok (.getfield 54, 3) := by decide +kernel
theorem dX4_readOperand_49 : decode cX4_readOperand 49 = .ok (.bipush 20, 2) := by decide +kernel
theorem dX4_readOperand_51 : decode cX4_readOperand 51 = .ok (.if_icmp .ne 23, 3) := by decide +kernel
theorem dX4_readOperand_54 : decode cX4_readOperand 54 = .ok (.aload_n 0, 1) := by decide +kernel
theorem dX4_readOperand_55 : decode cX4_readOperand 55 = .ok (.aload_n 0, 1) := by decide +kernel
theorem dX4_readOperand_56 : decode cX4_readOperand 56 = .ok (.getfield 25, 3) := by decide +kernel
theorem dX4_readOperand_59 : decode cX4_readOperand 59 = .ok (.aload_n 0, 1) := by decide +kernel
theorem dX4_readOperand_60 : decode cX4_readOperand 60 = .ok (.getfield 51, 3) := by decide +kernel
theorem dX4_readOperand_63 : decode cX4_readOperand 63 = .ok (.iaload, 1) := by decide +kernel
theorem dX4_readOperand_64 : decode cX4_readOperand 64 = .ok (.invokevirtual 121, 3) := by decide +kernel
theorem dX4_readOperand_67 : decode cX4_readOperand 67 = .ok (.aload_n 0, 1) := by decide +kernel
theorem dX4_readOperand_68 : decode cX4_readOperand 68 = .ok (.invokevirtual 95, 3) := by decide +kernel
theorem dX4_readOperand_71 : decode cX4_readOperand 71 = .ok (.goto 52, 3) := by decide +kernel
theorem dX4_readOperand_74 : decode cX4_readOperand 74 = .ok (.iload_n 2, 1) := by decide +kernel
theorem dX4_readOperand_75 : decode cX4_readOperand 75 = .ok (.ifCond .ne 43, 3) := by decide +kernel
theorem dX4_readOperand_78 : decode cX4_readOperand 78 = .ok (.aload_n 0, 1) := by decide +kernel
theorem dX4_readOperand_79 : decode cX4_readOperand 79 = .ok (.getfield 54, 3) := by decide +kernel
theorem dX4_readOperand_82 : decode cX4_readOperand 82 = .ok (.bipush 6, 2) := by decide +kernel
theorem dX4_readOperand_84 : decode cX4_readOperand 84 = .ok (.if_icmp .lt 34, 3) := by decide +kernel
theorem dX4_readOperand_87 : decode cX4_readOperand 87 = .ok (.aload_n 0, 1) := by decide +kernel
theorem dX4_readOperand_88 : decode cX4_readOperand 88 = .ok (.getfield 54, 3) := by decide +kernel
theorem dX4_readOperand_91 : decode cX4_readOperand 91 = .ok (.bipush 14, 2) := by decide +kernel
theorem dX4_readOperand_93 : decode cX4_readOperand 93 = .ok (.if_icmp .ge 25, 3) := by decide +kernel
theorem dX4_readOperand_96 : decode cX4_readOperand 96 = .ok (.aload_n 0, 1) := by decide +kernel
theorem dX4_readOperand_97 : decode cX4_readOperand 97 = .ok (.sipush 10000, 3) := by decide +kernel
theorem dX4_readOperand_100 : decode cX4_readOperand 100 = .ok (.aload_n 0, 1) := by decide +kernel
theorem dX4_readOperand_101 : decode cX4_readOperand 101 = .ok (.getfield 54, 3) := by decide +kernel
theorem dX4_readOperand_104 : decode cX4_readOperand 104 = .ok (.iadd, 1) := by decide +kernel
theorem dX4_readOperand_105 : decode cX4_readOperand 105 = .ok (.bipush 6, 2) := by decide +kernel
theorem dX4_readOperand_107 : decode cX4_readOperand 107 = .ok (.isub, 1) := by decide +kernel
theorem dX4_readOperand_108 : decode cX4_readOperand 108 = .ok (.invokevirtual 121, 3) := by decide +kernel
theorem dX4_readOperand_111 : decode cX4_readOperand 111 = .ok (.aload_n 0, 1) := by decide +kernel
theorem dX4_readOperand_112 : decode cX4_readOperand 112 = .ok (.invokevirtual 95, 3) := by decide +kernel
theorem dX4_readOperand_115 : decode cX4_readOperand 115 = .ok (.goto 8, 3) := by decide +kernel
theorem dX4_readOperand_118 : decode cX4_readOperand 118 = .ok (.aload_n 0, 1) := by decide +kernel
theorem dX4_readOperand_119 : decode cX4_readOperand 119 = .ok (.iconst 1, 1) := by decide +kernel
theorem dX4_readOperand_120 : decode cX4_readOperand 120 = .ok (.invokevirtual 98, 3) := by decide +kernel
theorem dX4_readOperand_123 : decode cX4_readOperand 123 = .ok (.return_, 1) := by decide +kernel
theorem dX5_init_0 : decode cX5_init 0 = .ok (.aload_n 0, 1) := by decide +kernel
theorem dX5_init_1 : decode cX5_init 1 = .ok (.invokespecial 3, 3) := by decide +kernel
theorem dX5_init_4 : decode cX5_init 4 = .ok (.aload_n 0, 1) := by decide +kernel
theorem dX5_init_5 : decode cX5_init 5 = .ok (.bipush 24, 2) := by decide +kernel
theorem dX5_init_7 : decode cX5_init 7 = .ok (.newarray .int, 2) := by decide +kernel
theorem dX5_init_9 : decode cX5_init 9 = .ok (.putfield 9, 3) := by decide +kernel
theorem dX5_init_12 : decode cX5_init 12 = .ok (.aload_n 0, 1) := by decide +kernel
theorem dX5_init_13 : decode cX5_init 13 = .ok (.bipush 24, 2) := by decide +kernel
theorem dX5_init_15 : decode cX5_init 15 = .ok (.newarray .int, 2) := by decide +kernel
theorem dX5_init_17 : decode cX5_init 17 = .ok (.putfield 15, 3) := by decide +kernel
theorem dX5_init_20 : decode cX5_init 20 = .ok (.aload_n 0, 1) := by decide +kernel
theorem dX5_init_21 : decode cX5_init 21 = .ok (.iconst 1, 1) := by decide +kernel
theorem dX5_init_22 : decode cX5_init 22 = .ok (.newarray .int, 2) := by decide +kernel
theorem dX5_init_24 : decode cX5_init 24 = .ok (.putfield 18, 3) := by decide +kernel
theorem dX5_init_27 : decode cX5_init 27 = .ok (.aload_n 0, 1) := by decide +kernel
theorem dX5_init_28 : decode cX5_init 28 = .ok (.aload_n 1, 1) := by decide +kernel
theorem dX5_init_29 : decode cX5_init 29 = .ok (.putfield 21, 3) := by decide +kernel
theorem dX5_init_32 : decode cX5_init 32 = .ok (.return_, 1) := by decide +kernel
theorem dX5_knot_0 : decode cX5_knot 0 = .ok (.aload_n 0, 1) := by decide +kernel
theorem dX5_knot_1 : decode cX5_knot 1 = .ok (.getfield 9, 3) := by decide +kernel
theorem dX5_knot_4 : decode cX5_knot 4 = .ok (.iconst 0, 1) := by decide +kernel
theorem dX5_knot_5 : decode cX5_knot 5 = .ok (.invokestatic 25, 3) := by decide +kernel
theorem dX5_knot_8 : decode cX5_knot 8 = .ok (.iconst 0, 1) := by decide +kernel
theorem dX5_knot_9 : decode cX5_knot 9 = .ok (.istore_n 1, 1) := by decide +kernel
theorem dX5_knot_10 : decode cX5_knot 10 = .ok (.iload_n 1, 1) := by decide +kernel
theorem dX5_knot_11 : decode cX5_knot 11 = .ok (.aload_n 0, 1) := by decide +kernel
theorem dX5_knot_12 : decode cX5_knot 12 = .ok (.getfield 21, 3) := by decide +kernel
theorem dX5_knot_15 : decode cX5_knot 15 = .ok (.getfield 31, 3) := by decide +kernel
theorem dX5_knot_18 : decode cX5_knot 18 = .ok (.if_icmp .ge 31, 3) := by decide +kernel
theorem dX5_knot_21 : decode cX5_knot 21 = .ok (.aload_n 0, 1) := by decide +kernel
theorem dX5_knot_22 : decode cX5_knot 22 = .ok (.aload_n 0, 1) := by decide +kernel
theorem dX5_knot_23 : decode cX5_knot 23 = .ok (.getfield 21, 3) := by decide +kernel
theorem dX5_knot_26 : decode cX5_knot 26 = .ok (.getfield 37, 3) := by decide +kernel
theorem dX5_knot_29 : decode cX5_knot 29 = .ok (.iload_n 1, 1) := by decide +kernel
theorem dX5_knot_30 : decode cX5_knot 30 = .ok (.iaload, 1) := by decide +kernel
theorem dX5_knot_31 : decode cX5_knot 31 = .ok (.aload_n 0, 1) := by decide +kernel
theorem dX5_knot_32 : decode cX5_knot 32 = .ok (.getfield 21, 3) := by decide +kernel
theorem dX5_knot_35 : decode cX5_knot 35 = .ok (.getfield 40, 3) := by decide +kernel
theorem dX5_knot_38 : decode cX5_knot 38 = .ok (.iload_n 1, 1) := by decide +kernel
theorem dX5_knot_39 : decode cX5_knot 39 = .ok (.iaload, 1) := by decide +kernel
theorem dX5_knot_40 : decode cX5_knot 40 = .ok (.invokevirtual 43, 3) := by decide +kernel
theorem dX5_knot_43 : decode cX5_knot 43 = .ok (.iinc 1 1, 3) := by decide +kernel
theorem dX5_knot_46 : decode cX5_knot 46 = .ok (.goto (-36), 3) := by decide +kernel
theorem dX5_knot_49 : decode cX5_knot 49 = .ok (.aload_n 0, 1) := by decide +kernel
theorem dX5_knot_50 : decode cX5_knot 50 = .ok (.iconst 0, 1) := by decide +kernel
theorem dX5_knot_51 : decode cX5_knot 51 = .ok (.putfield 47, 3) := by decide +kernel
theorem dX5_knot_54 : decode cX5_knot 54 = .ok (.aload_n 0, 1) := by decide +kernel
theorem dX5_knot_55 : decode cX5_knot 55 = .ok (.iconst 0, 1) := by decide +kernel
theorem dX5_knot_56 : decode cX5_knot 56 = .ok (.putfield 50, 3) := by decide +kernel
theorem dX5_knot_59 : decode cX5_knot 59 = .ok (.aload_n 0, 1) := by decide +kernel
theorem dX5_knot_60 : decode cX5_knot 60 = .ok (.iconst 0, 1) := by decide +kernel
theorem dX5_knot_61 : decode cX5_knot 61 = .ok (.putfield 53, 3) := by decide +kernel
theorem dX5_knot_64 : decode cX5_knot 64 = .ok (.iconst 0, 1) := by decide +kernel
theorem dX5_knot_65 : decode cX5_knot 65 = .ok (.istore_n 1, 1) := by decide +kernel
theorem dX5_knot_66 : decode cX5_knot 66 = .ok (.iconst 0, 1) := by decide +kernel
theorem dX5_knot_67 : decode cX5_knot 67 = .ok (.istore_n 2, 1) := by decide +kernel
theorem dX5_knot_68 : decode cX5_knot 68 = .ok (.iload_n 2, 1) := by decide +kernel
theorem dX5_knot_69 : decode cX5_knot 69 = .ok (.bipush 24, 2) := by decide +kernel
theorem dX5_knot_71 : decode cX5_knot 71 = .ok (.if_icmp .ge 66, 3) := by decide +kernel
theorem dX5_knot_74 : decode cX5_knot 74 = .ok (.aload_n 0, 1) := by decide +kernel
theorem dX5_knot_75 : decode cX5_knot 75 = .ok (.getfield 9, 3) := by decide +kernel
theorem dX5_knot_78 : decode cX5_knot 78 = .ok (.iload_n 2, 1) := by decide +kernel
theorem dX5_knot_79 : decode cX5_knot 79 = .ok (.iaload, 1) := by decide +kernel
theorem dX5_knot_80 : decode cX5_knot 80 = .ok (.ifCond .eq 51, 3) := by decide +kernel
theorem dX5_knot_83 : decode cX5_knot 83 = .ok (.iload_n 1, 1) := by decide +kernel
theorem dX5_knot_84 : decode cX5_knot 84 = .ok (.iload_n 2, 1) := by decide +kernel
theorem dX5_knot_85 : decode cX5_knot 85 = .ok (.ishr, 1) := by decide +kernel
theorem dX5_knot_86 : decode cX5_knot 86 = .ok (.iconst 1, 1) := by decide +kernel
theorem dX5_knot_87 : decode cX5_knot 87 = .ok (.iand, 1) := by decide +kernel
theorem dX5_knot_88 : decode cX5_knot 88 = .ok (.ifCond .ne 43, 3) := by decide +kernel
theorem dX5_knot_91 : decode cX5_knot 91 = .ok (.aload_n 0, 1) := by decide +kernel
theorem dX5_knot_92 : decode cX5_knot 92 = .ok (.iload_n 2, 1) := by decide +kernel
theorem dX5_knot_93 : decode cX5_knot 93 = .ok (.invokevirtual 56, 3) := by decide +kernel
theorem dX5_knot_96 : decode cX5_knot 96 = .ok (.istore_n 3, 1) := by decide +kernel
theorem dX5_knot_97 : decode cX5_knot 97 = .ok (.iload_n 1, 1) := by decide +kernel
theorem dX5_knot_98 : decode cX5_knot 98 = .ok (.iload_n 3, 1) := by decide +kernel
theorem dX5_knot_99 : decode cX5_knot 99 = .ok (.ior, 1) := by decide +kernel
theorem dX5_knot_100 : decode cX5_knot 100 = .ok (.istore_n 1, 1) := by decide +kernel
theorem dX5_knot_101 : decode cX5_knot 101 = .ok (.aload_n 0, 1) := by decide +kernel
theorem dX5_knot_102 : decode cX5_knot 102 = .ok (.dup, 1) := by decide +kernel
theorem dX5_knot_103 : decode cX5_knot 103 = .ok (.getfield 53, 3) := by decide +kernel
theorem dX5_knot_106 : decode cX5_knot 106 = .ok (.iconst 1, 1) := by decide +kernel
theorem dX5_knot_107 : decode cX5_knot 107 = .ok (.iadd, 1) := by decide +kernel
theorem dX5_knot_108 : decode cX5_knot 108 = .ok (.putfield 53, 3) := by decide +kernel
theorem dX5_knot_111 : decode cX5_knot 111 = .ok (.aload_n 0, 1) := by decide +kernel
theorem dX5_knot_112 : decode cX5_knot 112 = .ok (.dup, 1) := by decide +kernel
theorem dX5_knot_113 : decode cX5_knot 113 = .ok (.getfield 47, 3) := by decide +kernel
theorem dX5_knot_116 : decode cX5_knot 116 = .ok (.aload_n 0, 1) := by decide +kernel
theorem dX5_knot_117 : decode cX5_knot 117 = .ok (.iload_n 3, 1) := by decide +kernel
theorem dX5_knot_118 : decode cX5_knot 118 = .ok (.invokevirtual 60, 3) := by decide +kernel
theorem dX5_knot_121 : decode cX5_knot 121 = .ok (.iconst 2, 1) := by decide +kernel
theorem dX5_knot_122 : decode cX5_knot 122 = .ok (.idiv, 1) := by decide +kernel
theorem dX5_knot_123 : decode cX5_knot 123 = .ok (.iconst 1, 1) := by decide +kernel
theorem dX5_knot_124 : decode cX5_knot 124 = .ok (.invokestatic 63, 3) := by decide +kernel
theorem dX5_knot_127 : decode cX5_knot 127 = .ok (.iadd, 1) := by decide +kernel
theorem dX5_knot_128 : decode cX5_knot 128 = .ok (.putfield 47, 3) := by decide +kernel
theorem dX5_knot_131 : decode cX5_knot 131 = .ok (.iinc 2 1, 3) := by decide +kernel
theorem dX5_knot_134 : decode cX5_knot 134 = .ok (.goto (-66), 3) := by decide +kernel
theorem dX5_knot_137 : decode cX5_knot 137 = .ok (.return_, 1) := by decide +kernel
theorem dX5_flip_0 : decode cX5_flip 0 = .ok (.aload_n 0, 1) := by decide +kernel
theorem dX5_flip_1 : decode cX5_flip 1 = .ok (.getfield 9, 3) := by decide +kernel
theorem dX5_flip_4 : decode cX5_flip 4 = .ok (.iload_n 1, 1) := by decide +kernel
theorem dX5_flip_5 : decode cX5_flip 5 = .ok (.dup2, 1) := by decide +kernel
theorem dX5_flip_6 : decode cX5_flip 6 = .ok (.iaload, 1) := by decide +kernel
theorem dX5_flip_7 : decode cX5_flip 7 = .ok (.iconst 1, 1) := by decide +kernel
theorem dX5_flip_8 : decode cX5_flip 8 = .ok (.iload_n 2, 1) := by decide +kernel
theorem dX5_flip_9 : decode cX5_flip 9 = .ok (.ishl, 1) := by decide +kernel
theorem dX5_flip_10 : decode cX5_flip 10 = .ok (.ixor, 1) := by decide +kernel
theorem dX5_flip_11 : decode cX5_flip 11 = .ok (.iastore, 1) := by decide +kernel
theorem dX5_flip_12 : decode cX5_flip 12 = .ok (.aload_n 0, 1) := by decide +kernel
theorem dX5_flip_13 : decode cX5_flip 13 = .ok (.getfield 9, 3) := by decide +kernel
theorem dX5_flip_16 : decode cX5_flip 16 = .ok (.iload_n 2, 1) := by decide +kernel
theorem dX5_flip_17 : decode cX5_flip 17 = .ok (.dup2, 1) := by decide +kernel
theorem dX5_flip_18 : decode cX5_flip 18 = .ok (.iaload, 1) := by decide +kernel
theorem dX5_flip_19 : decode cX5_flip 19 = .ok (.iconst 1, 1) := by decide +kernel
theorem dX5_flip_20 : decode cX5_flip 20 = .ok (.iload_n 1, 1) := by decide +kernel
theorem dX5_flip_21 : decode cX5_flip 21 = .ok (.ishl, 1) := by decide +kernel
theorem dX5_flip_22 : decode cX5_flip 22 = .ok (.ixor, 1) := by decide +kernel
theorem dX5_flip_23 : decode cX5_flip 23 = .ok (.iastore, 1) := by decide +kernel
theorem dX5_flip_24 : decode cX5_flip 24 = .ok (.return_, 1) := by decide +kernel
theorem dX5_isOdd_0 : decode cX5_isOdd 0 = .ok (.aload_n 0, 1) := by decide +kernel
theorem dX5_isOdd_1 : decode cX5_isOdd 1 = .ok (.getfield 9, 3) := by decide +kernel
theorem dX5_isOdd_4 : decode cX5_isOdd 4 = .ok (.iload_n 1, 1) := by decide +kernel
theorem dX5_isOdd_5 : decode cX5_isOdd 5 = .ok (.iaload, 1) := by decide +kernel
theorem dX5_isOdd_6 : decode cX5_isOdd 6 = .ok (.invokestatic 69, 3) := by decide +kernel
theorem dX5_isOdd_9 : decode cX5_isOdd 9 = .ok (.iconst 1, 1) := by decide +kernel
theorem dX5_isOdd_10 : decode cX5_isOdd 10 = .ok (.iand, 1) := by decide +kernel
theorem dX5_isOdd_11 : decode cX5_isOdd 11 = .ok (.iconst 1, 1) := by decide +kernel
theorem dX5_isOdd_12 : decode cX5_isOdd 12 = .ok (.if_icmp .ne 7, 3) := by decide +kernel
theorem dX5_isOdd_15 : decode cX5_isOdd 15 = .ok (.iconst 1, 1) := by decide +kernel
theorem dX5_isOdd_16 : decode cX5_isOdd 16 = .ok (.goto 4, 3) := by decide +kernel
theorem dX5_isOdd_19 : decode cX5_isOdd 19 = .ok (.iconst 0, 1) := by decide +kernel
theorem dX5_isOdd_20 : decode cX5_isOdd 20 = .ok (.ireturn, 1) := by decide +kernel
theorem dX5_noteOdds_0 : decode cX5_noteOdds 0 = .ok (.aload_n 0, 1) := by decide +kernel
theorem dX5_noteOdds_1 : decode cX5_noteOdds 1 = .ok (.getfield 50, 3) := by decide +kernel
theorem dX5_noteOdds_4 : decode cX5_noteOdds 4 = .ok (.istore_n 2, 1) := by decide +kernel
theorem dX5_noteOdds_5 : decode cX5_noteOdds 5 = .ok (.iconst 0, 1) := by decide +kernel
theorem dX5_noteOdds_6 : decode cX5_noteOdds 6 = .ok (.istore_n 3, 1) := by decide +kernel
theorem dX5_noteOdds_7 : decode cX5_noteOdds 7 = .ok (.iload_n 3, 1) := by decide +kernel
theorem dX5_noteOdds_8 : decode cX5_noteOdds 8 = .ok (.bipush 24, 2) := by decide +kernel
theorem dX5_noteOdds_10 : decode cX5_noteOdds 10 = .ok (.if_icmp .ge 55, 3) := by decide +kernel
theorem dX5_noteOdds_13 : decode cX5_noteOdds 13 = .ok (.iload_n 1, 1) := by decide +kernel
theorem dX5_noteOdds_14 : decode cX5_noteOdds 14 = .ok (.iload_n 3, 1) := by decide +kernel
theorem dX5_noteOdds_15 : decode cX5_noteOdds 15 = .ok (.ishr, 1) := by decide +kernel
theorem dX5_noteOdds_16 : decode cX5_noteOdds 16 = .ok (.iconst 1, 1) := by decide +kernel
theorem dX5_noteOdds_17 : decode cX5_noteOdds 17 = .ok (.iand, 1) := by decide +kernel
theorem dX5_noteOdds_18 : decode cX5_noteOdds 18 = .ok (.iconst 1, 1) := by decide +kernel
theorem dX5_noteOdds_19 : decode cX5_noteOdds 19 = .ok (.if_icmp .ne 40, 3) := by decide +kernel
theorem dX5_noteOdds_22 : decode cX5_noteOdds 22 = .ok (.aload_n 0, 1) := by decide +kernel
theorem dX5_noteOdds_23 : decode cX5_noteOdds 23 = .ok (.iload_n 3, 1) := by decide +kernel
theorem dX5_noteOdds_24 : decode cX5_noteOdds 24 = .ok (.invokevirtual 74, 3) := by decide +kernel
theorem dX5_noteOdds_27 : decode cX5_noteOdds 27 = .ok (.ifCond .eq 32, 3) := by decide +kernel
theorem dX5_noteOdds_30 : decode cX5_noteOdds 30 = .ok (.aload_n 0, 1) := by decide +kernel
theorem dX5_noteOdds_31 : decode cX5_noteOdds 31 = .ok (.getfield 50, 3) := by decide +kernel
theorem dX5_noteOdds_34 : decode cX5_noteOdds 34 = .ok (.bipush 24, 2) := by decide +kernel
theorem dX5_noteOdds_36 : decode cX5_noteOdds 36 = .ok (.if_icmp .ge 23, 3) := by decide +kernel
theorem dX5_noteOdds_39 : decode cX5_noteOdds 39 = .ok (.aload_n 0, 1) := by decide +kernel
theorem dX5_noteOdds_40 : decode cX5_noteOdds 40 = .ok (.getfield 15, 3) := by decide +kernel
theorem dX5_noteOdds_43 : decode cX5_noteOdds 43 = .ok (.aload_n 0, 1) := by decide +kernel
theorem dX5_noteOdds_44 : decode cX5_noteOdds 44 = .ok (.getfield 50, 3) := by decide +kernel
theorem dX5_noteOdds_47 : decode cX5_noteOdds 47 = .ok (.iload_n 3, 1) := by decide +kernel
theorem dX5_noteOdds_48 : decode cX5_noteOdds 48 = .ok (.iastore, 1) := by decide +kernel
theorem dX5_noteOdds_49 : decode cX5_noteOdds 49 = .ok (.aload_n 0, 1) := by decide +kernel
theorem dX5_noteOdds_50 : decode cX5_noteOdds 50 = .ok (.dup, 1) := by decide +kernel
theorem dX5_noteOdds_51 : decode cX5_noteOdds 51 = .ok (.getfield 50, 3) := by decide +kernel
theorem dX5_noteOdds_54 : decode cX5_noteOdds 54 = .ok (.iconst 1, 1) := by decide +kernel
theorem dX5_noteOdds_55 : decode cX5_noteOdds 55 = .ok (.iadd, 1) := by decide +kernel
theorem dX5_noteOdds_56 : decode cX5_noteOdds 56 = .ok (.putfield 50, 3) := by decide +kernel
theorem dX5_noteOdds_59 : decode cX5_noteOdds 59 = .ok (.iinc 3 1, 3) := by decide +kernel
theorem dX5_noteOdds_62 : decode cX5_noteOdds 62 = .ok (.goto (-55), 3) := by decide +kernel
theorem dX5_noteOdds_65 : decode cX5_noteOdds 65 = .ok (.aload_n 0, 1) := by decide +kernel
theorem dX5_noteOdds_66 : decode cX5_noteOdds 66 = .ok (.getfield 50, 3) := by decide +kernel
theorem dX5_noteOdds_69 : decode cX5_noteOdds 69 = .ok (.iload_n 2, 1) := by decide +kernel
theorem dX5_noteOdds_70 : decode cX5_noteOdds 70 = .ok (.isub, 1) := by decide +kernel
theorem dX5_noteOdds_71 : decode cX5_noteOdds 71 = .ok (.ireturn, 1) := by decide +kernel
theorem dX5_partOf_0 : decode cX5_partOf 0 = .ok (.iconst 1, 1) := by decide +kernel
theorem dX5_partOf_1 : decode cX5_partOf 1 = .ok (.iload_n 1, 1) := by decide +kernel
theorem dX5_partOf_2 : decode cX5_partOf 2 = .ok (.ishl, 1) := by decide +kernel
theorem dX5_partOf_3 : decode cX5_partOf 3 = .ok (.istore_n 2, 1) := by decide +kernel
theorem dX5_partOf_4 : decode cX5_partOf 4 = .ok (.iconst 0, 1) := by decide +kernel
theorem dX5_partOf_5 : decode cX5_partOf 5 = .ok (.istore_n 3, 1) := by decide +kernel
theorem dX5_partOf_6 : decode cX5_partOf 6 = .ok (.iload_n 3, 1) := by decide +kernel
theorem dX5_partOf_7 : decode cX5_partOf 7 = .ok (.bipush 24, 2) := by decide +kernel
theorem dX5_partOf_9 : decode cX5_partOf 9 = .ok (.if_icmp .ge 62, 3) := by decide +kernel
theorem dX5_partOf_12 : decode cX5_partOf 12 = .ok (.iload_n 2, 1) := by decide +kernel
theorem dX5_partOf_13 : decode cX5_partOf 13 = .ok (.istore 4, 2) := by decide +kernel
theorem dX5_partOf_15 : decode cX5_partOf 15 = .ok (.iconst 0, 1) := by decide +kernel
theorem dX5_partOf_16 : decode cX5_partOf 16 = .ok (.istore 5, 2) := by decide +kernel
theorem dX5_partOf_18 : decode cX5_partOf 18 = .ok (.iload 5, 2) := by decide +kernel
theorem dX5_partOf_20 : decode cX5_partOf 20 = .ok (.bipush 24, 2) := by decide +kernel
theorem dX5_partOf_22 : decode cX5_partOf 22 = .ok (.if_icmp .ge 31, 3) := by decide +kernel
theorem dX5_partOf_25 : decode cX5_partOf 25 = .ok (.iload_n 2, 1) := by decide +kernel
theorem dX5_partOf_26 : decode cX5_partOf 26 = .ok (.iload 5, 2) := by decide +kernel
theorem dX5_partOf_28 : decode cX5_partOf 28 = .ok (.ishr, 1) := by decide +kernel
theorem dX5_partOf_29 : decode cX5_partOf 29 = .ok (.iconst 1, 1) := by decide +kernel
theorem dX5_partOf_30 : decode cX5_partOf 30 = .ok (.iand, 1) := by decide +kernel
theorem dX5_partOf_31 : decode cX5_partOf 31 = .ok (.iconst 1, 1) := by decide +kernel
theorem dX5_partOf_32 : decode cX5_partOf 32 = .ok (.if_icmp .ne 15, 3) := by decide +kernel
theorem dX5_partOf_35 : decode cX5_partOf 35 = .ok (.iload 4, 2) := by decide +kernel
theorem dX5_partOf_37 : decode cX5_partOf 37 = .ok (.aload_n 0, 1) := by decide +kernel
theorem dX5_partOf_38 : decode cX5_partOf 38 = .ok (.getfield 9, 3) := by decide +kernel
theorem dX5_partOf_41 : decode cX5_partOf 41 = .ok (.iload 5, 2) := by decide +kernel
theorem dX5_partOf_43 : decode cX5_partOf 43 = .ok (.iaload, 1) := by decide +kernel
theorem dX5_partOf_44 : decode cX5_partOf 44 = .ok (.ior, 1) := by decide +kernel
theorem dX5_partOf_45 : decode cX5_partOf 45 = .ok (.istore 4, 2) := by decide +kernel
theorem dX5_partOf_47 : decode cX5_partOf 47 = .ok (.iinc 5 1, 3) := by decide +kernel
theorem dX5_partOf_50 : decode cX5_partOf 50 = .ok (.goto (-32), 3) := by decide +kernel
theorem dX5_partOf_53 : decode cX5_partOf 53 = .ok (.iload 4, 2) := by decide +kernel
theorem dX5_partOf_55 : decode cX5_partOf 55 = .ok (.iload_n 2, 1) := by decide +kernel
theorem dX5_partOf_56 : decode cX5_partOf 56 = .ok (.if_icmp .ne 6, 3) := by decide +kernel
theorem dX5_partOf_59 : decode cX5_partOf 59 = .ok (.goto 12, 3) := by decide +kernel
theorem dX5_partOf_62 : decode cX5_partOf 62 = .ok (.iload 4, 2) := by decide +kernel
theorem dX5_partOf_64 : decode cX5_partOf 64 = .ok (.istore_n 2, 1) := by decide +kernel
theorem dX5_partOf_65 : decode cX5_partOf 65 = .ok (.iinc 3 1, 3) := by decide +kernel
theorem dX5_partOf_68 : decode cX5_partOf 68 = .ok (.goto (-62), 3) := by decide +kernel
theorem dX5_partOf_71 : decode cX5_partOf 71 = .ok (.iload_n 2, 1) := by decide +kernel
theorem dX5_partOf_72 : decode cX5_partOf 72 = .ok (.ireturn, 1) := by decide +kernel
theorem dX5_shortestMore_0 : decode cX5_shortestMore 0 = .ok (.aload_n 0, 1) := by decide +kernel
theorem dX5_shortestMore_1 : decode cX5_shortestMore 1 = .ok (.getfield 53, 3) := by decide +kernel
theorem dX5_shortestMore_4 : decode cX5_shortestMore 4 = .ok (.iconst 1, 1) := by decide +kernel
theorem dX5_shortestMore_5 : decode cX5_shortestMore 5 = .ok (.if_icmp .ne 12, 3) := by decide +kernel
theorem dX5_shortestMore_8 : decode cX5_shortestMore 8 = .ok (.aload_n 0, 1) := by decide +kernel
theorem dX5_shortestMore_9 : decode cX5_shortestMore 9 = .ok (.getfield 50, 3) := by decide +kernel
theorem dX5_shortestMore_12 : decode cX5_shortestMore 12 = .ok (.bipush 12, 2) := by decide +kernel
theorem dX5_shortestMore_14 : decode cX5_shortestMore 14 = .ok (.if_icmp .le 5, 3) := by decide +kernel
theorem dX5_shortestMore_17 : decode cX5_shortestMore 17 = .ok (.iconst (-1), 1) := by decide +kernel
theorem dX5_shortestMore_18 : decode cX5_shortestMore 18 = .ok (.ireturn, 1) := by decide +kernel
theorem dX5_shortestMore_19 : decode cX5_shortestMore 19 = .ok (.aload_n 0, 1) := by decide +kernel
theorem dX5_shortestMore_20 : decode cX5_shortestMore 20 = .ok (.getfield 50, 3) := by decide +kernel
theorem dX5_shortestMore_23 : decode cX5_shortestMore 23 = .ok (.ifCond .ne 5, 3) := by decide +kernel
theorem dX5_shortestMore_26 : decode cX5_shortestMore 26 = .ok (.iconst 0, 1) := by decide +kernel
theorem dX5_shortestMore_27 : decode cX5_shortestMore 27 = .ok (.ireturn, 1) := by decide +kernel
theorem dX5_shortestMore_28 : decode cX5_shortestMore 28 = .ok (.aload_n 0, 1) := by decide +kernel
theorem dX5_shortestMore_29 : decode cX5_shortestMore 29 = .ok (.invokevirtual 78, 3) := by decide +kernel
theorem dX5_shortestMore_32 : decode cX5_shortestMore 32 = .ok (.iconst 1, 1) := by decide +kernel
theorem dX5_shortestMore_33 : decode cX5_shortestMore 33 = .ok (.aload_n 0, 1) := by decide +kernel
theorem dX5_shortestMore_34 : decode cX5_shortestMore 34 = .ok (.getfield 50, 3) := by decide +kernel
theorem dX5_shortestMore_37 : decode cX5_shortestMore 37 = .ok (.ishl, 1) := by decide +kernel
theorem dX5_shortestMore_38 : decode cX5_shortestMore 38 = .ok (.iconst 1, 1) := by decide +kernel
theorem dX5_shortestMore_39 : decode cX5_shortestMore 39 = .ok (.isub, 1) := by decide +kernel
theorem dX5_shortestMore_40 : decode cX5_shortestMore 40 = .ok (.istore_n 1, 1) := by decide +kernel
theorem dX5_shortestMore_41 : decode cX5_shortestMore 41 = .ok (.iconst (-1), 1) := by decide +kernel
theorem dX5_shortestMore_42 : decode cX5_shortestMore 42 = .ok (.istore_n 2, 1) := by decide +kernel
theorem dX5_shortestMore_43 : decode cX5_shortestMore 43 = .ok (.iconst 0, 1) := by decide +kernel
theorem dX5_shortestMore_44 : decode cX5_shortestMore 44 = .ok (.istore_n 3, 1) := by decide +kernel
theorem dX5_shortestMore_45 : decode cX5_shortestMore 45 = .ok (.iload_n 3, 1) := by decide +kernel
theorem dX5_shortestMore_46 : decode cX5_shortestMore 46 = .ok (.aload_n 0, 1) := by decide +kernel
theorem dX5_shortestMore_47 : decode cX5_shortestMore 47 = .ok (.getfield 50, 3) := by decide +kernel
theorem dX5_shortestMore_50 : decode cX5_shortestMore 50 = .ok (.if_icmp .ge 60, 3) := by decide +kernel
theorem dX5_shortestMore_53 : decode cX5_shortestMore 53 = .ok (.iload_n 3, 1) := by decide +kernel
theorem dX5_shortestMore_54 : decode cX5_shortestMore 54 = .ok (.iconst 1, 1) := by decide +kernel
theorem dX5_shortestMore_55 : decode cX5_shortestMore 55 = .ok (.iadd, 1) := by decide +kernel
theorem dX5_shortestMore_56 : decode cX5_shortestMore 56 = .ok (.istore 4, 2) := by decide +kernel
theorem dX5_shortestMore_58 : decode cX5_shortestMore 58 = .ok (.iload 4, 2) := by decide +kernel
theorem dX5_shortestMore_60 : decode cX5_shortestMore 60 = .ok (.aload_n 0, 1) := by decide +kernel
theorem dX5_shortestMore_61 : decode cX5_shortestMore 61 = .ok (.getfield 50, 3) := by decide +kernel
theorem dX5_shortestMore_64 : decode cX5_shortestMore 64 = .ok (.if_icmp .ge 40, 3) := by decide +kernel
theorem dX5_shortestMore_67 : decode cX5_shortestMore 67 = .ok (.aload_n 0, 1) := by decide +kernel
theorem dX5_shortestMore_68 : decode cX5_shortestMore 68 = .ok (.getfield 18, 3) := by decide +kernel
theorem dX5_shortestMore_71 : decode cX5_shortestMore 71 = .ok (.iload_n 1, 1) := by decide +kernel
theorem dX5_shortestMore_72 : decode cX5_shortestMore 72 = .ok (.iconst 1, 1) := by decide +kernel
theorem dX5_shortestMore_73 : decode cX5_shortestMore 73 = .ok (.iload_n 3, 1) := by decide +kernel
theorem dX5_shortestMore_74 : decode cX5_shortestMore 74 = .ok (.ishl, 1) := by decide +kernel
theorem dX5_shortestMore_75 : decode cX5_shortestMore 75 = .ok (.ixor, 1) := by decide +kernel
theorem dX5_shortestMore_76 : decode cX5_shortestMore 76 = .ok (.iconst 1, 1) := by decide +kernel
theorem dX5_shortestMore_77 : decode cX5_shortestMore 77 = .ok (.iload 4, 2) := by decide +kernel
theorem dX5_shortestMore_79 : decode cX5_shortestMore 79 = .ok (.ishl, 1) := by decide +kernel
theorem dX5_shortestMore_80 : decode cX5_shortestMore 80 = .ok (.ixor, 1) := by decide +kernel
theorem dX5_shortestMore_81 : decode cX5_shortestMore 81 = .ok (.iaload, 1) := by decide +kernel
theorem dX5_shortestMore_82 : decode cX5_shortestMore 82 = .ok (.istore 5, 2) := by decide +kernel
theorem dX5_shortestMore_84 : decode cX5_shortestMore 84 = .ok (.iload_n 2, 1) := by decide +kernel
theorem dX5_shortestMore_85 : decode cX5_shortestMore 85 = .ok (.iconst (-1), 1) := by decide +kernel
theorem dX5_shortestMore_86 : decode cX5_shortestMore 86 = .ok (.if_icmp .eq 9, 3) := by decide +kernel
theorem dX5_shortestMore_89 : decode cX5_shortestMore 89 = .ok (.iload 5, 2) := by decide +kernel
theorem dX5_shortestMore_91 : decode cX5_shortestMore 91 = .ok (.iload_n 2, 1) := by decide +kernel
theorem dX5_shortestMore_92 : decode cX5_shortestMore 92 = .ok (.if_icmp .ge 6, 3) := by decide +kernel
theorem dX5_shortestMore_95 : decode cX5_shortestMore 95 = .ok (.iload 5, 2) := by decide +kernel
theorem dX5_shortestMore_97 : decode cX5_shortestMore 97 = .ok (.istore_n 2, 1) := by decide +kernel
theorem dX5_shortestMore_98 : decode cX5_shortestMore 98 = .ok (.iinc 4 1, 3) := by decide +kernel
theorem dX5_shortestMore_101 : decode cX5_shortestMore 101 = .ok (.goto (-43), 3) := by decide +kernel
theorem dX5_shortestMore_104 : decode cX5_shortestMore 104 = .ok (.iinc 3 1, 3) := by decide +kernel
theorem dX5_shortestMore_107 : decode cX5_shortestMore 107 = .ok (.goto (-62), 3) := by decide +kernel
theorem dX5_shortestMore_110 : decode cX5_shortestMore 110 = .ok (.iload_n 2, 1) := by decide +kernel
theorem dX5_shortestMore_111 : decode cX5_shortestMore 111 = .ok (.ireturn, 1) := by decide +kernel
theorem dX5_fillLeast_0 : decode cX5_fillLeast 0 = .ok (.iconst 1, 1) := by decide +kernel
theorem dX5_fillLeast_1 : decode cX5_fillLeast 1 = .ok (.aload_n 0, 1) := by decide +kernel
theorem dX5_fillLeast_2 : decode cX5_fillLeast 2 = .ok (.getfield 50, 3) := by decide +kernel
theorem dX5_fillLeast_5 : decode cX5_fillLeast 5 = .ok (.ishl, 1) := by decide +kernel
theorem dX5_fillLeast_6 : decode cX5_fillLeast 6 = .ok (.istore_n 1, 1) := by decide +kernel
theorem dX5_fillLeast_7 : decode cX5_fillLeast 7 = .ok (.aload_n 0, 1) := by decide +kernel
theorem dX5_fillLeast_8 : decode cX5_fillLeast 8 = .ok (.getfield 18, 3) := by decide +kernel
theorem dX5_fillLeast_11 : decode cX5_fillLeast 11 = .ok (.arraylength, 1) := by decide +kernel
theorem dX5_fillLeast_12 : decode cX5_fillLeast 12 = .ok (.iload_n 1, 1) := by decide +kernel
theorem dX5_fillLeast_13 : decode cX5_fillLeast 13 = .ok (.if_icmp .ge 10, 3) := by decide +kernel
theorem dX5_fillLeast_16 : decode cX5_fillLeast 16 = .ok (.aload_n 0, 1) := by decide +kernel
theorem dX5_fillLeast_17 : decode cX5_fillLeast 17 = .ok (.iload_n 1, 1) := by decide +kernel
theorem dX5_fillLeast_18 : decode cX5_fillLeast 18 = .ok (.newarray .int, 2) := by decide +kernel
theorem dX5_fillLeast_20 : decode cX5_fillLeast 20 = .ok (.putfield 18, 3) := by decide +kernel
theorem dX5_fillLeast_23 : decode cX5_fillLeast 23 = .ok (.aload_n 0, 1) := by decide +kernel
theorem dX5_fillLeast_24 : decode cX5_fillLeast 24 = .ok (.getfield 18, 3) := by decide +kernel
theorem dX5_fillLeast_27 : decode cX5_fillLeast 27 = .ok (.iconst 0, 1) := by decide +kernel
theorem dX5_fillLeast_28 : decode cX5_fillLeast 28 = .ok (.iconst 0, 1) := by decide +kernel
theorem dX5_fillLeast_29 : decode cX5_fillLeast 29 = .ok (.iastore, 1) := by decide +kernel
theorem dX5_fillLeast_30 : decode cX5_fillLeast 30 = .ok (.iconst 1, 1) := by decide +kernel
theorem dX5_fillLeast_31 : decode cX5_fillLeast 31 = .ok (.istore_n 2, 1) := by decide +kernel
theorem dX5_fillLeast_32 : decode cX5_fillLeast 32 = .ok (.iload_n 2, 1) := by decide +kernel
theorem dX5_fillLeast_33 : decode cX5_fillLeast 33 = .ok (.iload_n 1, 1) := by decide +kernel
theorem dX5_fillLeast_34 : decode cX5_fillLeast 34 = .ok (.if_icmp .ge 29, 3) := by decide +kernel
theorem dX5_fillLeast_37 : decode cX5_fillLeast 37 = .ok (.iload_n 2, 1) := by decide +kernel
theorem dX5_fillLeast_38 : decode cX5_fillLeast 38 = .ok (.invokestatic 69, 3) := by decide +kernel
theorem dX5_fillLeast_41 : decode cX5_fillLeast 41 = .ok (.iconst 1, 1) := by decide +kernel
theorem dX5_fillLeast_42 : decode cX5_fillLeast 42 = .ok (.iand, 1) := by decide +kernel
theorem dX5_fillLeast_43 : decode cX5_fillLeast 43 = .ok (.ifCond .ne 14, 3) := by decide +kernel
theorem dX5_fillLeast_46 : decode cX5_fillLeast 46 = .ok (.aload_n 0, 1) := by decide +kernel
theorem dX5_fillLeast_47 : decode cX5_fillLeast 47 = .ok (.getfield 18, 3) := by decide +kernel
theorem dX5_fillLeast_50 : decode cX5_fillLeast 50 = .ok (.iload_n 2, 1) := by decide +kernel
theorem dX5_fillLeast_51 : decode cX5_fillLeast 51 = .ok (.aload_n 0, 1) := by decide +kernel
theorem dX5_fillLeast_52 : decode cX5_fillLeast 52 = .ok (.iload_n 2, 1) := by decide +kernel
theorem dX5_fillLeast_53 : decode cX5_fillLeast 53 = .ok (.invokevirtual 81, 3) := by decide +kernel
theorem dX5_fillLeast_56 : decode cX5_fillLeast 56 = .ok (.iastore, 1) := by decide +kernel
theorem dX5_fillLeast_57 : decode cX5_fillLeast 57 = .ok (.iinc 2 1, 3) := by decide +kernel
theorem dX5_fillLeast_60 : decode cX5_fillLeast 60 = .ok (.goto (-28), 3) := by decide +kernel
theorem dX5_fillLeast_63 : decode cX5_fillLeast 63 = .ok (.return_, 1) := by decide +kernel
theorem dX5_leastOf_0 : decode cX5_leastOf 0 = .ok (.iconst 0, 1) := by decide +kernel
theorem dX5_leastOf_1 : decode cX5_leastOf 1 = .ok (.istore_n 2, 1) := by decide +kernel
theorem dX5_leastOf_2 : decode cX5_leastOf 2 = .ok (.iload_n 2, 1) := by decide +kernel
theorem dX5_leastOf_3 : decode cX5_leastOf 3 = .ok (.aload_n 0, 1) := by decide +kernel
theorem dX5_leastOf_4 : decode cX5_leastOf 4 = .ok (.getfield 50, 3) := by decide +kernel
theorem dX5_leastOf_7 : decode cX5_leastOf 7 = .ok (.iconst 1, 1) := by decide +kernel
theorem dX5_leastOf_8 : decode cX5_leastOf 8 = .ok (.isub, 1) := by decide +kernel
theorem dX5_leastOf_9 : decode cX5_leastOf 9 = .ok (.if_icmp .ge 17, 3) := by decide +kernel
theorem dX5_leastOf_12 : decode cX5_leastOf 12 = .ok (.iload_n 1, 1) := by decide +kernel
theorem dX5_leastOf_13 : decode cX5_leastOf 13 = .ok (.iload_n 2, 1) := by decide +kernel
theorem dX5_leastOf_14 : decode cX5_leastOf 14 = .ok (.ishr, 1) := by decide +kernel
theorem dX5_leastOf_15 : decode cX5_leastOf 15 = .ok (.iconst 1, 1) := by decide +kernel
theorem dX5_leastOf_16 : decode cX5_leastOf 16 = .ok (.iand, 1) := by decide +kernel
theorem dX5_leastOf_17 : decode cX5_leastOf 17 = .ok (.ifCond .ne 9, 3) := by decide +kernel
theorem dX5_leastOf_20 : decode cX5_leastOf 20 = .ok (.iinc 2 1, 3) := by decide +kernel
theorem dX5_leastOf_23 : decode cX5_leastOf 23 = .ok (.goto (-21), 3) := by decide +kernel
theorem dX5_leastOf_26 : decode cX5_leastOf 26 = .ok (.iconst (-1), 1) := by decide +kernel
theorem dX5_leastOf_27 : decode cX5_leastOf 27 = .ok (.istore_n 3, 1) := by decide +kernel
theorem dX5_leastOf_28 : decode cX5_leastOf 28 = .ok (.iload_n 2, 1) := by decide +kernel
theorem dX5_leastOf_29 : decode cX5_leastOf 29 = .ok (.iconst 1, 1) := by decide +kernel
theorem dX5_leastOf_30 : decode cX5_leastOf 30 = .ok (.iadd, 1) := by decide +kernel
theorem dX5_leastOf_31 : decode cX5_leastOf 31 = .ok (.istore 4, 2) := by decide +kernel
theorem dX5_leastOf_33 : decode cX5_leastOf 33 = .ok (.iload 4, 2) := by decide +kernel
theorem dX5_leastOf_35 : decode cX5_leastOf 35 = .ok (.aload_n 0, 1) := by decide +kernel
theorem dX5_leastOf_36 : decode cX5_leastOf 36 = .ok (.getfield 50, 3) := by decide +kernel
theorem dX5_leastOf_39 : decode cX5_leastOf 39 = .ok (.if_icmp .ge 71, 3) := by decide +kernel
theorem dX5_leastOf_42 : decode cX5_leastOf 42 = .ok (.iload_n 1, 1) := by decide +kernel
theorem dX5_leastOf_43 : decode cX5_leastOf 43 = .ok (.iload 4, 2) := by decide +kernel
theorem dX5_leastOf_45 : decode cX5_leastOf 45 = .ok (.ishr, 1) := by decide +kernel
theorem dX5_leastOf_46 : decode cX5_leastOf 46 = .ok (.iconst 1, 1) := by decide +kernel
theorem dX5_leastOf_47 : decode cX5_leastOf 47 = .ok (.iand, 1) := by decide +kernel
theorem dX5_leastOf_48 : decode cX5_leastOf 48 = .ok (.iconst 1, 1) := by decide +kernel
theorem dX5_leastOf_49 : decode cX5_leastOf 49 = .ok (.if_icmp .ne 55, 3) := by decide +kernel
theorem dX5_leastOf_52 : decode cX5_leastOf 52 = .ok (.aload_n 0, 1) := by decide +kernel
theorem dX5_leastOf_53 : decode cX5_leastOf 53 = .ok (.getfield 21, 3) := by decide +kernel
theorem dX5_leastOf_56 : decode cX5_leastOf 56 = .ok (.aload_n 0, 1) := by decide +kernel
theorem dX5_leastOf_57 : decode cX5_leastOf 57 = .ok (.getfield 15, 3) := by decide +kernel
theorem dX5_leastOf_60 : decode cX5_leastOf 60 = .ok (.iload_n 2, 1) := by decide +kernel
theorem dX5_leastOf_61 : decode cX5_leastOf 61 = .ok (.iaload, 1) := by decide +kernel
theorem dX5_leastOf_62 : decode cX5_leastOf 62 = .ok (.aload_n 0, 1) := by decide +kernel
theorem dX5_leastOf_63 : decode cX5_leastOf 63 = .ok (.getfield 15, 3) := by decide +kernel
theorem dX5_leastOf_66 : decode cX5_leastOf 66 = .ok (.iload 4, 2) := by decide +kernel
theorem dX5_leastOf_68 : decode cX5_leastOf 68 = .ok (.iaload, 1) := by decide +kernel
theorem dX5_leastOf_69 : decode cX5_leastOf 69 = .ok (.invokevirtual 84, 3) := by decide +kernel
theorem dX5_leastOf_72 : decode cX5_leastOf 72 = .ok (.aload_n 0, 1) := by decide +kernel
theorem dX5_leastOf_73 : decode cX5_leastOf 73 = .ok (.getfield 18, 3) := by decide +kernel
theorem dX5_leastOf_76 : decode cX5_leastOf 76 = .ok (.iload_n 1, 1) := by decide +kernel
theorem dX5_leastOf_77 : decode cX5_leastOf 77 = .ok (.iconst 1, 1) := by decide +kernel
theorem dX5_leastOf_78 : decode cX5_leastOf 78 = .ok (.iload_n 2, 1) := by decide +kernel
theorem dX5_leastOf_79 : decode cX5_leastOf 79 = .ok (.ishl, 1) := by decide +kernel
theorem dX5_leastOf_80 : decode cX5_leastOf 80 = .ok (.ixor, 1) := by decide +kernel
theorem dX5_leastOf_81 : decode cX5_leastOf 81 = .ok (.iconst 1, 1) := by decide +kernel
theorem dX5_leastOf_82 : decode cX5_leastOf 82 = .ok (.iload 4, 2) := by decide +kernel
theorem dX5_leastOf_84 : decode cX5_leastOf 84 = .ok (.ishl, 1) := by decide +kernel
theorem dX5_leastOf_85 : decode cX5_leastOf 85 = .ok (.ixor, 1) := by decide +kernel
theorem dX5_leastOf_86 : decode cX5_leastOf 86 = .ok (.iaload, 1) := by decide +kernel
theorem dX5_leastOf_87 : decode cX5_leastOf 87 = .ok (.iadd, 1) := by decide +kernel
theorem dX5_leastOf_88 : decode cX5_leastOf 88 = .ok (.istore 5, 2) := by decide +kernel
theorem dX5_leastOf_90 : decode cX5_leastOf 90 = .ok (.iload_n 3, 1) := by decide +kernel
theorem dX5_leastOf_91 : decode cX5_leastOf 91 = .ok (.iconst (-1), 1) := by decide +kernel
theorem dX5_leastOf_92 : decode cX5_leastOf 92 = .ok (.if_icmp .eq 9, 3) := by decide +kernel
theorem dX5_leastOf_95 : decode cX5_leastOf 95 = .ok (.iload 5, 2) := by decide +kernel
theorem dX5_leastOf_97 : decode cX5_leastOf 97 = .ok (.iload_n 3, 1) := by decide +kernel
theorem dX5_leastOf_98 : decode cX5_leastOf 98 = .ok (.if_icmp .ge 6, 3) := by decide +kernel
theorem dX5_leastOf_101 : decode cX5_leastOf 101 = .ok (.iload 5, 2) := by decide +kernel
theorem dX5_leastOf_103 : decode cX5_leastOf 103 = .ok (.istore_n 3, 1) := by decide +kernel
theorem dX5_leastOf_104 : decode cX5_leastOf 104 = .ok (.iinc 4 1, 3) := by decide +kernel
theorem dX5_leastOf_107 : decode cX5_leastOf 107 = .ok (.goto (-74), 3) := by decide +kernel
theorem dX5_leastOf_110 : decode cX5_leastOf 110 = .ok (.iload_n 3, 1) := by decide +kernel
theorem dX5_leastOf_111 : decode cX5_leastOf 111 = .ok (.ireturn, 1) := by decide +kernel
theorem dX5_pinOnWay_0 : decode cX5_pinOnWay 0 = .ok (.aload_n 0, 1) := by decide +kernel
theorem dX5_pinOnWay_1 : decode cX5_pinOnWay 1 = .ok (.invokevirtual 87, 3) := by decide +kernel
theorem dX5_pinOnWay_4 : decode cX5_pinOnWay 4 = .ok (.istore_n 2, 1) := by decide +kernel
theorem dX5_pinOnWay_5 : decode cX5_pinOnWay 5 = .ok (.iconst 0, 1) := by decide +kernel
theorem dX5_pinOnWay_6 : decode cX5_pinOnWay 6 = .ok (.istore_n 3, 1) := by decide +kernel
theorem dX5_pinOnWay_7 : decode cX5_pinOnWay 7 = .ok (.iload_n 3, 1) := by decide +kernel
theorem dX5_pinOnWay_8 : decode cX5_pinOnWay 8 = .ok (.iload_n 1, 1) := by decide +kernel
theorem dX5_pinOnWay_9 : decode cX5_pinOnWay 9 = .ok (.if_icmp .ge 20, 3) := by decide +kernel
theorem dX5_pinOnWay_12 : decode cX5_pinOnWay 12 = .ok (.iload_n 2, 1) := by decide +kernel
theorem dX5_pinOnWay_13 : decode cX5_pinOnWay 13 = .ok (.iconst (-1), 1) := by decide +kernel
theorem dX5_pinOnWay_14 : decode cX5_pinOnWay 14 = .ok (.if_icmp .eq 15, 3) := by decide +kernel
theorem dX5_pinOnWay_17 : decode cX5_pinOnWay 17 = .ok (.aload_n 0, 1) := by decide +kernel
theorem dX5_pinOnWay_18 : decode cX5_pinOnWay 18 = .ok (.iload_n 2, 1) := by decide +kernel
theorem dX5_pinOnWay_19 : decode cX5_pinOnWay 19 = .ok (.invokevirtual 91, 3) := by decide +kernel
theorem dX5_pinOnWay_22 : decode cX5_pinOnWay 22 = .ok (.istore_n 2, 1) := by decide +kernel
theorem dX5_pinOnWay_23 : decode cX5_pinOnWay 23 = .ok (.iinc 3 1, 3) := by decide +kernel
theorem dX5_pinOnWay_26 : decode cX5_pinOnWay 26 = .ok (.goto (-19), 3) := by decide +kernel
theorem dX5_pinOnWay_29 : decode cX5_pinOnWay 29 = .ok (.iload_n 2, 1) := by decide +kernel
theorem dX5_pinOnWay_30 : decode cX5_pinOnWay 30 = .ok (.ireturn, 1) := by decide +kernel
theorem dX5_startOfWay_0 : decode cX5_startOfWay 0 = .ok (.aload_n 0, 1) := by decide +kernel
theorem dX5_startOfWay_1 : decode cX5_startOfWay 1 = .ok (.getfield 50, 3) := by decide +kernel
theorem dX5_startOfWay_4 : decode cX5_startOfWay 4 = .ok (.ifCond .le 10, 3) := by decide +kernel
theorem dX5_startOfWay_7 : decode cX5_startOfWay 7 = .ok (.aload_n 0, 1) := by decide +kernel
theorem dX5_startOfWay_8 : decode cX5_startOfWay 8 = .ok (.getfield 15, 3) := by decide +kernel
theorem dX5_startOfWay_11 : decode cX5_startOfWay 11 = .ok (.iconst 0, 1) := by decide +kernel
theorem dX5_startOfWay_12 : decode cX5_startOfWay 12 = .ok (.iaload, 1) := by decide +kernel
theorem dX5_startOfWay_13 : decode cX5_startOfWay 13 = .ok (.ireturn, 1) := by decide +kernel
theorem dX5_startOfWay_14 : decode cX5_startOfWay 14 = .ok (.iconst 0, 1) := by decide +kernel
theorem dX5_startOfWay_15 : decode cX5_startOfWay 15 = .ok (.istore_n 1, 1) := by decide +kernel
theorem dX5_startOfWay_16 : decode cX5_startOfWay 16 = .ok (.iload_n 1, 1) := by decide +kernel
theorem dX5_startOfWay_17 : decode cX5_startOfWay 17 = .ok (.bipush 24, 2) := by decide +kernel
theorem dX5_startOfWay_19 : decode cX5_startOfWay 19 = .ok (.if_icmp .ge 20, 3) := by decide +kernel
theorem dX5_startOfWay_22 : decode cX5_startOfWay 22 = .ok (.aload_n 0, 1) := by decide +kernel
theorem dX5_startOfWay_23 : decode cX5_startOfWay 23 = .ok (.getfield 9, 3) := by decide +kernel
theorem dX5_startOfWay_26 : decode cX5_startOfWay 26 = .ok (.iload_n 1, 1) := by decide +kernel
theorem dX5_startOfWay_27 : decode cX5_startOfWay 27 = .ok (.iaload, 1) := by decide +kernel
theorem dX5_startOfWay_28 : decode cX5_startOfWay 28 = .ok (.ifCond .eq 5, 3) := by decide +kernel
theorem dX5_startOfWay_31 : decode cX5_startOfWay 31 = .ok (.iload_n 1, 1) := by decide +kernel
theorem dX5_startOfWay_32 : decode cX5_startOfWay 32 = .ok (.ireturn, 1) := by decide +kernel
theorem dX5_startOfWay_33 : decode cX5_startOfWay 33 = .ok (.iinc 1 1, 3) := by decide +kernel
theorem dX5_startOfWay_36 : decode cX5_startOfWay 36 = .ok (.goto (-20), 3) := by decide +kernel
theorem dX5_startOfWay_39 : decode cX5_startOfWay 39 = .ok (.iconst (-1), 1) := by decide +kernel
theorem dX5_startOfWay_40 : decode cX5_startOfWay 40 = .ok (.ireturn, 1) := by decide +kernel
theorem dX5_stepFrom_0 : decode cX5_stepFrom 0 = .ok (.iconst 0, 1) := by decide +kernel
theorem dX5_stepFrom_1 : decode cX5_stepFrom 1 = .ok (.istore_n 2, 1) := by decide +kernel
theorem dX5_stepFrom_2 : decode cX5_stepFrom 2 = .ok (.iload_n 2, 1) := by decide +kernel
theorem dX5_stepFrom_3 : decode cX5_stepFrom 3 = .ok (.bipush 24, 2) := by decide +kernel
theorem dX5_stepFrom_5 : decode cX5_stepFrom 5 = .ok (.if_icmp .ge 45, 3) := by decide +kernel
theorem dX5_stepFrom_8 : decode cX5_stepFrom 8 = .ok (.aload_n 0, 1) := by decide +kernel
theorem dX5_stepFrom_9 : decode cX5_stepFrom 9 = .ok (.getfield 9, 3) := by decide +kernel
theorem dX5_stepFrom_12 : decode cX5_stepFrom 12 = .ok (.iload_n 1, 1) := by decide +kernel
theorem dX5_stepFrom_13 : decode cX5_stepFrom 13 = .ok (.iaload, 1) := by decide +kernel
theorem dX5_stepFrom_14 : decode cX5_stepFrom 14 = .ok (.iload_n 2, 1) := by decide +kernel
theorem dX5_stepFrom_15 : decode cX5_stepFrom 15 = .ok (.ishr, 1) := by decide +kernel
theorem dX5_stepFrom_16 : decode cX5_stepFrom 16 = .ok (.iconst 1, 1) := by decide +kernel
theorem dX5_stepFrom_17 : decode cX5_stepFrom 17 = .ok (.iand, 1) := by decide +kernel
theorem dX5_stepFrom_18 : decode cX5_stepFrom 18 = .ok (.iconst 1, 1) := by decide +kernel
theorem dX5_stepFrom_19 : decode cX5_stepFrom 19 = .ok (.if_icmp .ne 25, 3) := by decide +kernel
theorem dX5_stepFrom_22 : decode cX5_stepFrom 22 = .ok (.aload_n 0, 1) := by decide +kernel
theorem dX5_stepFrom_23 : decode cX5_stepFrom 23 = .ok (.iload_n 1, 1) := by decide +kernel
theorem dX5_stepFrom_24 : decode cX5_stepFrom 24 = .ok (.iload_n 2, 1) := by decide +kernel
theorem dX5_stepFrom_25 : decode cX5_stepFrom 25 = .ok (.invokevirtual 43, 3) := by decide +kernel
theorem dX5_stepFrom_28 : decode cX5_stepFrom 28 = .ok (.aload_n 0, 1) := by decide +kernel
theorem dX5_stepFrom_29 : decode cX5_stepFrom 29 = .ok (.iload_n 2, 1) := by decide +kernel
theorem dX5_stepFrom_30 : decode cX5_stepFrom 30 = .ok (.invokevirtual 94, 3) := by decide +kernel
theorem dX5_stepFrom_33 : decode cX5_stepFrom 33 = .ok (.ifCond .eq 5, 3) := by decide +kernel
theorem dX5_stepFrom_36 : decode cX5_stepFrom 36 = .ok (.iload_n 2, 1) := by decide +kernel
theorem dX5_stepFrom_37 : decode cX5_stepFrom 37 = .ok (.ireturn, 1) := by decide +kernel
theorem dX5_stepFrom_38 : decode cX5_stepFrom 38 = .ok (.aload_n 0, 1) := by decide +kernel
theorem dX5_stepFrom_39 : decode cX5_stepFrom 39 = .ok (.iload_n 1, 1) := by decide +kernel
theorem dX5_stepFrom_40 : decode cX5_stepFrom 40 = .ok (.iload_n 2, 1) := by decide +kernel
theorem dX5_stepFrom_41 : decode cX5_stepFrom 41 = .ok (.invokevirtual 43, 3) := by decide +kernel
theorem dX5_stepFrom_44 : decode cX5_stepFrom 44 = .ok (.iinc 2 1, 3) := by decide +kernel
theorem dX5_stepFrom_47 : decode cX5_stepFrom 47 = .ok (.goto (-45), 3) := by decide +kernel
theorem dX5_stepFrom_50 : decode cX5_stepFrom 50 = .ok (.iconst (-1), 1) := by decide +kernel
theorem dX5_stepFrom_51 : decode cX5_stepFrom 51 = .ok (.ireturn, 1) := by decide +kernel
theorem dX5_restHangsAt_0 : decode cX5_restHangsAt 0 = .ok (.aload_n 0, 1) := by decide +kernel
theorem dX5_restHangsAt_1 : decode cX5_restHangsAt 1 = .ok (.iload_n 1, 1) := by decide +kernel
theorem dX5_restHangsAt_2 : decode cX5_restHangsAt 2 = .ok (.invokevirtual 56, 3) := by decide +kernel
theorem dX5_restHangsAt_5 : decode cX5_restHangsAt 5 = .ok (.istore_n 2, 1) := by decide +kernel
theorem dX5_restHangsAt_6 : decode cX5_restHangsAt 6 = .ok (.iconst 0, 1) := by decide +kernel
theorem dX5_restHangsAt_7 : decode cX5_restHangsAt 7 = .ok (.istore_n 3, 1) := by decide +kernel
theorem dX5_restHangsAt_8 : decode cX5_restHangsAt 8 = .ok (.iload_n 3, 1) := by decide +kernel
theorem dX5_restHangsAt_9 : decode cX5_restHangsAt 9 = .ok (.bipush 24, 2) := by decide +kernel
theorem dX5_restHangsAt_11 : decode cX5_restHangsAt 11 = .ok (.if_icmp .ge 28, 3) := by decide +kernel
theorem dX5_restHangsAt_14 : decode cX5_restHangsAt 14 = .ok (.aload_n 0, 1) := by decide +kernel
theorem dX5_restHangsAt_15 : decode cX5_restHangsAt 15 = .ok (.getfield 9, 3) := by decide +kernel
theorem dX5_restHangsAt_18 : decode cX5_restHangsAt 18 = .ok (.iload_n 3, 1) := by decide +kernel
theorem dX5_restHangsAt_19 : decode cX5_restHangsAt 19 = .ok (.iaload, 1) := by decide +kernel
theorem dX5_restHangsAt_20 : decode cX5_restHangsAt 20 = .ok (.ifCond .eq 13, 3) := by decide +kernel
theorem dX5_restHangsAt_23 : decode cX5_restHangsAt 23 = .ok (.iload_n 2, 1) := by decide +kernel
theorem dX5_restHangsAt_24 : decode cX5_restHangsAt 24 = .ok (.iload_n 3, 1) := by decide +kernel
theorem dX5_restHangsAt_25 : decode cX5_restHangsAt 25 = .ok (.ishr, 1) := by decide +kernel
theorem dX5_restHangsAt_26 : decode cX5_restHangsAt 26 = .ok (.iconst 1, 1) := by decide +kernel
theorem dX5_restHangsAt_27 : decode cX5_restHangsAt 27 = .ok (.iand, 1) := by decide +kernel
theorem dX5_restHangsAt_28 : decode cX5_restHangsAt 28 = .ok (.ifCond .ne 5, 3) := by decide +kernel
theorem dX5_restHangsAt_31 : decode cX5_restHangsAt 31 = .ok (.iconst 0, 1) := by decide +kernel
theorem dX5_restHangsAt_32 : decode cX5_restHangsAt 32 = .ok (.ireturn, 1) := by decide +kernel
theorem dX5_restHangsAt_33 : decode cX5_restHangsAt 33 = .ok (.iinc 3 1, 3) := by decide +kernel
theorem dX5_restHangsAt_36 : decode cX5_restHangsAt 36 = .ok (.goto (-28), 3) := by decide +kernel
theorem dX5_restHangsAt_39 : decode cX5_restHangsAt 39 = .ok (.iconst 1, 1) := by decide +kernel
theorem dX5_restHangsAt_40 : decode cX5_restHangsAt 40 = .ok (.ireturn, 1) := by decide +kernel
theorem dX6_init_0 : decode cX6_init 0 = .ok (.aload_n 0, 1) := by decide +kernel
theorem dX6_init_1 : decode cX6_init 1 = .ok (.invokespecial 3, 3) := by decide +kernel
theorem dX6_init_4 : decode cX6_init 4 = .ok (.aload_n 0, 1) := by decide +kernel
theorem dX6_init_5 : decode cX6_init 5 = .ok (.bipush 24, 2) := by decide +kernel
theorem dX6_init_7 : decode cX6_init 7 = .ok (.newarray .int, 2) := by decide +kernel
theorem dX6_init_9 : decode cX6_init 9 = .ok (.putfield 9, 3) := by decide +kernel
theorem dX6_init_12 : decode cX6_init 12 = .ok (.aload_n 0, 1) := by decide +kernel
theorem dX6_init_13 : decode cX6_init 13 = .ok (.aload_n 1, 1) := by decide +kernel
theorem dX6_init_14 : decode cX6_init 14 = .ok (.putfield 15, 3) := by decide +kernel
theorem dX6_init_17 : decode cX6_init 17 = .ok (.aload_n 0, 1) := by decide +kernel
theorem dX6_init_18 : decode cX6_init 18 = .ok (.aload_n 2, 1) := by decide +kernel
theorem dX6_init_19 : decode cX6_init 19 = .ok (.putfield 19, 3) := by decide +kernel
theorem dX6_init_22 : decode cX6_init 22 = .ok (.return_, 1) := by decide +kernel
theorem dX6_draw_0 : decode cX6_draw 0 = .ok (.aload_n 0, 1) := by decide +kernel
theorem dX6_draw_1 : decode cX6_draw 1 = .ok (.getfield 9, 3) := by decide +kernel
theorem dX6_draw_4 : decode cX6_draw 4 = .ok (.iconst 0, 1) := by decide +kernel
theorem dX6_draw_5 : decode cX6_draw 5 = .ok (.invokestatic 23, 3) := by decide +kernel
theorem dX6_draw_8 : decode cX6_draw 8 = .ok (.aload_n 0, 1) := by decide +kernel
theorem dX6_draw_9 : decode cX6_draw 9 = .ok (.iconst 0, 1) := by decide +kernel
theorem dX6_draw_10 : decode cX6_draw 10 = .ok (.putfield 29, 3) := by decide +kernel
theorem dX6_draw_13 : decode cX6_draw 13 = .ok (.iconst 0, 1) := by decide +kernel
theorem dX6_draw_14 : decode cX6_draw 14 = .ok (.istore_n 3, 1) := by decide +kernel
theorem dX6_draw_15 : decode cX6_draw 15 = .ok (.iload_n 3, 1) := by decide +kernel
theorem dX6_draw_16 : decode cX6_draw 16 = .ok (.aload_n 0, 1) := by decide +kernel
theorem dX6_draw_17 : decode cX6_draw 17 = .ok (.getfield 15, 3) := by decide +kernel
theorem dX6_draw_20 : decode cX6_draw 20 = .ok (.getfield 33, 3) := by decide +kernel
theorem dX6_draw_23 : decode cX6_draw 23 = .ok (.if_icmp .ge 72, 3) := by decide +kernel
theorem dX6_draw_26 : decode cX6_draw 26 = .ok (.iload_n 1, 1) := by decide +kernel
theorem dX6_draw_27 : decode cX6_draw 27 = .ok (.iload_n 3, 1) := by decide +kernel
theorem dX6_draw_28 : decode cX6_draw 28 = .ok (.imul, 1) := by decide +kernel
theorem dX6_draw_29 : decode cX6_draw 29 = .ok (.iload_n 2, 1) := by decide +kernel
theorem dX6_draw_30 : decode cX6_draw 30 = .ok (.iadd, 1) := by decide +kernel
theorem dX6_draw_31 : decode cX6_draw 31 = .ok (.aload_n 0, 1) := by decide +kernel
theorem dX6_draw_32 : decode cX6_draw 32 = .ok (.getfield 15, 3) := by decide +kernel
theorem dX6_draw_35 : decode cX6_draw 35 = .ok (.getfield 33, 3) := by decide +kernel
theorem dX6_draw_38 : decode cX6_draw 38 = .ok (.irem, 1) := by decide +kernel
theorem dX6_draw_39 : decode cX6_draw 39 = .ok (.istore 4, 2) := by decide +kernel
theorem dX6_draw_41 : decode cX6_draw 41 = .ok (.iload 4, 2) := by decide +kernel
theorem dX6_draw_43 : decode cX6_draw 43 = .ok (.iload_n 3, 1) := by decide +kernel
theorem dX6_draw_44 : decode cX6_draw 44 = .ok (.if_icmp .eq 45, 3) := by decide +kernel
theorem dX6_draw_47 : decode cX6_draw 47 = .ok (.aload_n 0, 1) := by decide +kernel
theorem dX6_draw_48 : decode cX6_draw 48 = .ok (.iload_n 3, 1) := by decide +kernel
theorem dX6_draw_49 : decode cX6_draw 49 = .ok (.iload 4, 2) := by decide +kernel
theorem dX6_draw_51 : decode cX6_draw 51 = .ok (.invokevirtual 38, 3) := by decide +kernel
theorem dX6_draw_54 : decode cX6_draw 54 = .ok (.ifCond .ne 35, 3) := by decide +kernel
theorem dX6_draw_57 : decode cX6_draw 57 = .ok (.aload_n 0, 1) := by decide +kernel
theorem dX6_draw_58 : decode cX6_draw 58 = .ok (.getfield 9, 3) := by decide +kernel
theorem dX6_draw_61 : decode cX6_draw 61 = .ok (.iload_n 3, 1) := by decide +kernel
theorem dX6_draw_62 : decode cX6_draw 62 = .ok (.iload 4, 2) := by decide +kernel
theorem dX6_draw_64 : decode cX6_draw 64 = .ok (.invokestatic 42, 3) := by decide +kernel
theorem dX6_draw_67 : decode cX6_draw 67 = .ok (.dup2, 1) := by decide +kernel
theorem dX6_draw_68 : decode cX6_draw 68 = .ok (.iaload, 1) := by decide +kernel
theorem dX6_draw_69 : decode cX6_draw 69 = .ok (.iconst 1, 1) := by decide +kernel
theorem dX6_draw_70 : decode cX6_draw 70 = .ok (.iload_n 3, 1) := by decide +kernel
theorem dX6_draw_71 : decode cX6_draw 71 = .ok (.iload 4, 2) := by decide +kernel
theorem dX6_draw_73 : decode cX6_draw 73 = .ok (.invokestatic 48, 3) := by decide +kernel
theorem dX6_draw_76 : decode cX6_draw 76 = .ok (.ishl, 1) := by decide +kernel
theorem dX6_draw_77 : decode cX6_draw 77 = .ok (.ior, 1) := by decide +kernel
theorem dX6_draw_78 : decode cX6_draw 78 = .ok (.iastore, 1) := by decide +kernel
theorem dX6_draw_79 : decode cX6_draw 79 = .ok (.aload_n 0, 1) := by decide +kernel
theorem dX6_draw_80 : decode cX6_draw 80 = .ok (.dup, 1) := by decide +kernel
theorem dX6_draw_81 : decode cX6_draw 81 = .ok (.getfield 29, 3) := by decide +kernel
theorem dX6_draw_84 : decode cX6_draw 84 = .ok (.iconst 1, 1) := by decide +kernel
theorem dX6_draw_85 : decode cX6_draw 85 = .ok (.iadd, 1) := by decide +kernel
theorem dX6_draw_86 : decode cX6_draw 86 = .ok (.putfield 29, 3) := by decide +kernel
theorem dX6_draw_89 : decode cX6_draw 89 = .ok (.iinc 3 1, 3) := by decide +kernel
theorem dX6_draw_92 : decode cX6_draw 92 = .ok (.goto (-77), 3) := by decide +kernel
theorem dX6_draw_95 : decode cX6_draw 95 = .ok (.return_, 1) := by decide +kernel
theorem dX6_hasLine_0 : decode cX6_hasLine 0 = .ok (.aload_n 0, 1) := by decide +kernel
theorem dX6_hasLine_1 : decode cX6_hasLine 1 = .ok (.getfield 9, 3) := by decide +kernel
theorem dX6_hasLine_4 : decode cX6_hasLine 4 = .ok (.iload_n 1, 1) := by decide +kernel
theorem dX6_hasLine_5 : decode cX6_hasLine 5 = .ok (.iload_n 2, 1) := by decide +kernel
theorem dX6_hasLine_6 : decode cX6_hasLine 6 = .ok (.invokestatic 42, 3) := by decide +kernel
theorem dX6_hasLine_9 : decode cX6_hasLine 9 = .ok (.iaload, 1) := by decide +kernel
theorem dX6_hasLine_10 : decode cX6_hasLine 10 = .ok (.iload_n 1, 1) := by decide +kernel
theorem dX6_hasLine_11 : decode cX6_hasLine 11 = .ok (.iload_n 2, 1) := by decide +kernel
theorem dX6_hasLine_12 : decode cX6_hasLine 12 = .ok (.invokestatic 48, 3) := by decide +kernel
theorem dX6_hasLine_15 : decode cX6_hasLine 15 = .ok (.ishr, 1) := by decide +kernel
theorem dX6_hasLine_16 : decode cX6_hasLine 16 = .ok (.iconst 1, 1) := by decide +kernel
theorem dX6_hasLine_17 : decode cX6_hasLine 17 = .ok (.iand, 1) := by decide +kernel
theorem dX6_hasLine_18 : decode cX6_hasLine 18 = .ok (.iconst 1, 1) := by decide +kernel
theorem dX6_hasLine_19 : decode cX6_hasLine 19 = .ok (.if_icmp .ne 7, 3) := by decide +kernel
theorem dX6_hasLine_22 : decode cX6_hasLine 22 = .ok (.iconst 1, 1) := by decide +kernel
theorem dX6_hasLine_23 : decode cX6_hasLine 23 = .ok (.goto 4, 3) := by decide +kernel
theorem dX6_hasLine_26 : decode cX6_hasLine 26 = .ok (.iconst 0, 1) := by decide +kernel
theorem dX6_hasLine_27 : decode cX6_hasLine 27 = .ok (.ireturn, 1) := by decide +kernel
theorem dX6_leastTurn_0 : decode cX6_leastTurn 0 = .ok (.iconst 1, 1) := by decide +kernel
theorem dX6_leastTurn_1 : decode cX6_leastTurn 1 = .ok (.istore_n 1, 1) := by decide +kernel
theorem dX6_leastTurn_2 : decode cX6_leastTurn 2 = .ok (.iload_n 1, 1) := by decide +kernel
theorem dX6_leastTurn_3 : decode cX6_leastTurn 3 = .ok (.aload_n 0, 1) := by decide +kernel
theorem dX6_leastTurn_4 : decode cX6_leastTurn 4 = .ok (.getfield 15, 3) := by decide +kernel
theorem dX6_leastTurn_7 : decode cX6_leastTurn 7 = .ok (.getfield 33, 3) := by decide +kernel
theorem dX6_leastTurn_10 : decode cX6_leastTurn 10 = .ok (.if_icmp .ge 19, 3) := by decide +kernel
theorem dX6_leastTurn_13 : decode cX6_leastTurn 13 = .ok (.aload_n 0, 1) := by decide +kernel
theorem dX6_leastTurn_14 : decode cX6_leastTurn 14 = .ok (.iload_n 1, 1) := by decide +kernel
theorem dX6_leastTurn_15 : decode cX6_leastTurn 15 = .ok (.invokevirtual 51, 3) := by decide +kernel
theorem dX6_leastTurn_18 : decode cX6_leastTurn 18 = .ok (.ifCond .eq 5, 3) := by decide +kernel
theorem dX6_leastTurn_21 : decode cX6_leastTurn 21 = .ok (.iload_n 1, 1) := by decide +kernel
theorem dX6_leastTurn_22 : decode cX6_leastTurn 22 = .ok (.ireturn, 1) := by decide +kernel
theorem dX6_leastTurn_23 : decode cX6_leastTurn 23 = .ok (.iinc 1 1, 3) := by decide +kernel
theorem dX6_leastTurn_26 : decode cX6_leastTurn 26 = .ok (.goto (-24), 3) := by decide +kernel
theorem dX6_leastTurn_29 : decode cX6_leastTurn 29 = .ok (.aload_n 0, 1) := by decide +kernel
theorem dX6_leastTurn_30 : decode cX6_leastTurn 30 = .ok (.getfield 15, 3) := by decide +kernel
theorem dX6_leastTurn_33 : decode cX6_leastTurn 33 = .ok (.getfield 33, 3) := by decide +kernel
theorem dX6_leastTurn_36 : decode cX6_leastTurn 36 = .ok (.ireturn, 1) := by decide +kernel
theorem dX6_isSameTurned_0 : decode cX6_isSameTurned 0 = .ok (.iconst 0, 1) := by decide +kernel
theorem dX6_isSameTurned_1 : decode cX6_isSameTurned 1 = .ok (.istore_n 2, 1) := by decide +kernel
theorem dX6_isSameTurned_2 : decode cX6_isSameTurned 2 = .ok (.iload_n 2, 1) := by decide +kernel
theorem dX6_isSameTurned_3 : decode cX6_isSameTurned 3 = .ok (.aload_n 0, 1) := by decide +kernel
theorem dX6_isSameTurned_4 : decode cX6_isSameTurned 4 = .ok (.getfield 15, 3) := by decide +kernel
theorem dX6_isSameTurned_7 : decode cX6_isSameTurned 7 = .ok (.getfield 33, 3) := by decide +kernel
theorem dX6_isSameTurned_10 : decode cX6_isSameTurned 10 = .ok (.if_icmp .ge 70, 3) := by decide +kernel
theorem dX6_isSameTurned_13 : decode cX6_isSameTurned 13 = .ok (.iload_n 2, 1) := by decide +kernel
theorem dX6_isSameTurned_14 : decode cX6_isSameTurned 14 = .ok (.iconst 1, 1) := by decide +kernel
theorem dX6_isSameTurned_15 : decode cX6_isSameTurned 15 = .ok (.iadd, 1) := by decide +kernel
theorem dX6_isSameTurned_16 : decode cX6_isSameTurned 16 = .ok (.istore_n 3, 1) := by decide +kernel
theorem dX6_isSameTurned_17 : decode cX6_isSameTurned 17 = .ok (.iload_n 3, 1) := by decide +kernel
theorem dX6_isSameTurned_18 : decode cX6_isSameTurned 18 = .ok (.aload_n 0, 1) := by decide +kernel
theorem dX6_isSameTurned_19 : decode cX6_isSameTurned 19 = .ok (.getfield 15, 3) := by decide +kernel
theorem dX6_isSameTurned_22 : decode cX6_isSameTurned 22 = .ok (.getfield 33, 3) := by decide +kernel
theorem dX6_isSameTurned_25 : decode cX6_isSameTurned 25 = .ok (.if_icmp .ge 49, 3) := by decide +kernel
theorem dX6_isSameTurned_28 : decode cX6_isSameTurned 28 = .ok (.aload_n 0, 1) := by decide +kernel
theorem dX6_isSameTurned_29 : decode cX6_isSameTurned 29 = .ok (.iload_n 2, 1) := by decide +kernel
theorem dX6_isSameTurned_30 : decode cX6_isSameTurned 30 = .ok (.iload_n 3, 1) := by decide +kernel
theorem dX6_isSameTurned_31 : decode cX6_isSameTurned 31 = .ok (.invokevirtual 38, 3) := by decide +kernel
theorem dX6_isSameTurned_34 : decode cX6_isSameTurned 34 = .ok (.ifCond .eq 34, 3) := by decide +kernel
theorem dX6_isSameTurned_37 : decode cX6_isSameTurned 37 = .ok (.aload_n 0, 1) := by decide +kernel
theorem dX6_isSameTurned_38 : decode cX6_isSameTurned 38 = .ok (.iload_n 2, 1) := by decide +kernel
theorem dX6_isSameTurned_39 : decode cX6_isSameTurned 39 = .ok (.iload_n 1, 1) := by decide +kernel
theorem dX6_isSameTurned_40 : decode cX6_isSameTurned 40 = .ok (.iadd, 1) := by decide +kernel
theorem dX6_isSameTurned_41 : decode cX6_isSameTurned 41 = .ok (.aload_n 0, 1) := by decide +kernel
theorem dX6_isSameTurned_42 : decode cX6_isSameTurned 42 = .ok (.getfield 15, 3) := by decide +kernel
theorem dX6_isSameTurned_45 : decode cX6_isSameTurned 45 = .ok (.getfield 33, 3) := by decide +kernel
theorem dX6_isSameTurned_48 : decode cX6_isSameTurned 48 = .ok (.irem, 1) := by decide +kernel
theorem dX6_isSameTurned_49 : decode cX6_isSameTurned 49 = .ok (.iload_n 3, 1) := by decide +kernel
theorem dX6_isSameTurned_50 : decode cX6_isSameTurned 50 = .ok (.iload_n 1, 1) := by decide +kernel
theorem dX6_isSameTurned_51 : decode cX6_isSameTurned 51 = .ok (.iadd, 1) := by decide +kernel
theorem dX6_isSameTurned_52 : decode cX6_isSameTurned 52 = .ok (.aload_n 0, 1) := by decide +kernel
theorem dX6_isSameTurned_53 : decode cX6_isSameTurned 53 = .ok (.getfield 15, 3) := by decide +kernel
theorem dX6_isSameTurned_56 : decode cX6_isSameTurned 56 = .ok (.getfield 33, 3) := by decide +kernel
theorem dX6_isSameTurned_59 : decode cX6_isSameTurned 59 = .ok (.irem, 1) := by decide +kernel
theorem dX6_isSameTurned_60 : decode cX6_isSameTurned 60 = .ok (.invokevirtual 38, 3) := by decide +kernel
theorem dX6_isSameTurned_63 : decode cX6_isSameTurned 63 = .ok (.ifCond .ne 5, 3) := by decide +kernel
theorem dX6_isSameTurned_66 : decode cX6_isSameTurned 66 = .ok (.iconst 0, 1) := by decide +kernel
theorem dX6_isSameTurned_67 : decode cX6_isSameTurned 67 = .ok (.ireturn, 1) := by decide +kernel
theorem dX6_isSameTurned_68 : decode cX6_isSameTurned 68 = .ok (.iinc 3 1, 3) := by decide +kernel
theorem dX6_isSameTurned_71 : decode cX6_isSameTurned 71 = .ok (.goto (-54), 3) := by decide +kernel
theorem dX6_isSameTurned_74 : decode cX6_isSameTurned 74 = .ok (.iinc 2 1, 3) := by decide +kernel
theorem dX6_isSameTurned_77 : decode cX6_isSameTurned 77 = .ok (.goto (-75), 3) := by decide +kernel
theorem dX6_isSameTurned_80 : decode cX6_isSameTurned 80 = .ok (.iconst 1, 1) := by decide +kernel
theorem dX6_isSameTurned_81 : decode cX6_isSameTurned 81 = .ok (.ireturn, 1) := by decide +kernel
theorem dX6_darkOf_0 : decode cX6_darkOf 0 = .ok (.iconst 0, 1) := by decide +kernel
theorem dX6_darkOf_1 : decode cX6_darkOf 1 = .ok (.istore_n 2, 1) := by decide +kernel
theorem dX6_darkOf_2 : decode cX6_darkOf 2 = .ok (.iconst 0, 1) := by decide +kernel
theorem dX6_darkOf_3 : decode cX6_darkOf 3 = .ok (.istore_n 3, 1) := by decide +kernel
theorem dX6_darkOf_4 : decode cX6_darkOf 4 = .ok (.iload_n 3, 1) := by decide +kernel
theorem dX6_darkOf_5 : decode cX6_darkOf 5 = .ok (.aload_n 0, 1) := by decide +kernel
theorem dX6_darkOf_6 : decode cX6_darkOf 6 = .ok (.getfield 15, 3) := by decide +kernel
theorem dX6_darkOf_9 : decode cX6_darkOf 9 = .ok (.getfield 33, 3) := by decide +kernel
theorem dX6_darkOf_12 : decode cX6_darkOf 12 = .ok (.if_icmp .ge 56, 3) := by decide +kernel
theorem dX6_darkOf_15 : decode cX6_darkOf 15 = .ok (.iload_n 3, 1) := by decide +kernel
theorem dX6_darkOf_16 : decode cX6_darkOf 16 = .ok (.iconst 1, 1) := by decide +kernel
theorem dX6_darkOf_17 : decode cX6_darkOf 17 = .ok (.iadd, 1) := by decide +kernel
theorem dX6_darkOf_18 : decode cX6_darkOf 18 = .ok (.istore 4, 2) := by decide +kernel
theorem dX6_darkOf_20 : decode cX6_darkOf 20 = .ok (.iload 4, 2) := by decide +kernel
theorem dX6_darkOf_22 : decode cX6_darkOf 22 = .ok (.aload_n 0, 1) := by decide +kernel
theorem dX6_darkOf_23 : decode cX6_darkOf 23 = .ok (.getfield 15, 3) := by decide +kernel
theorem dX6_darkOf_26 : decode cX6_darkOf 26 = .ok (.getfield 33, 3) := by decide +kernel
theorem dX6_darkOf_29 : decode cX6_darkOf 29 = .ok (.if_icmp .ge 33, 3) := by decide +kernel
theorem dX6_darkOf_32 : decode cX6_darkOf 32 = .ok (.aload_n 0, 1) := by decide +kernel
theorem dX6_darkOf_33 : decode cX6_darkOf 33 = .ok (.iload_n 3, 1) := by decide +kernel
theorem dX6_darkOf_34 : decode cX6_darkOf 34 = .ok (.iload 4, 2) := by decide +kernel
theorem dX6_darkOf_36 : decode cX6_darkOf 36 = .ok (.invokevirtual 38, 3) := by decide +kernel
theorem dX6_darkOf_39 : decode cX6_darkOf 39 = .ok (.ifCond .eq 17, 3) := by decide +kernel
theorem dX6_darkOf_42 : decode cX6_darkOf 42 = .ok (.iload_n 2, 1) := by decide +kernel
theorem dX6_darkOf_43 : decode cX6_darkOf 43 = .ok (.aload_n 0, 1) := by decide +kernel
theorem dX6_darkOf_44 : decode cX6_darkOf 44 = .ok (.getfield 19, 3) := by decide +kernel
theorem dX6_darkOf_47 : decode cX6_darkOf 47 = .ok (.iload_n 3, 1) := by decide +kernel
theorem dX6_darkOf_48 : decode cX6_darkOf 48 = .ok (.iload 4, 2) := by decide +kernel
theorem dX6_darkOf_50 : decode cX6_darkOf 50 = .ok (.iload_n 1, 1) := by decide +kernel
theorem dX6_darkOf_51 : decode cX6_darkOf 51 = .ok (.invokevirtual 55, 3) := by decide +kernel
theorem dX6_darkOf_54 : decode cX6_darkOf 54 = .ok (.iadd, 1) := by decide +kernel
theorem dX6_darkOf_55 : decode cX6_darkOf 55 = .ok (.istore_n 2, 1) := by decide +kernel
theorem dX6_darkOf_56 : decode cX6_darkOf 56 = .ok (.iinc 4 1, 3) := by decide +kernel
theorem dX6_darkOf_59 : decode cX6_darkOf 59 = .ok (.goto (-39), 3) := by decide +kernel
theorem dX6_darkOf_62 : decode cX6_darkOf 62 = .ok (.iinc 3 1, 3) := by decide +kernel
theorem dX6_darkOf_65 : decode cX6_darkOf 65 = .ok (.goto (-61), 3) := by decide +kernel
theorem dX6_darkOf_68 : decode cX6_darkOf 68 = .ok (.iload_n 2, 1) := by decide +kernel
theorem dX6_darkOf_69 : decode cX6_darkOf 69 = .ok (.ireturn, 1) := by decide +kernel
theorem dX7_init_0 : decode cX7_init 0 = .ok (.aload_n 0, 1) := by decide +kernel
theorem dX7_init_1 : decode cX7_init 1 = .ok (.invokespecial 3, 3) := by decide +kernel
theorem dX7_init_4 : decode cX7_init 4 = .ok (.aload_n 0, 1) := by decide +kernel
theorem dX7_init_5 : decode cX7_init 5 = .ok (.aload_n 1, 1) := by decide +kernel
theorem dX7_init_6 : decode cX7_init 6 = .ok (.putfield 9, 3) := by decide +kernel
theorem dX7_init_9 : decode cX7_init 9 = .ok (.aload_n 0, 1) := by decide +kernel
theorem dX7_init_10 : decode cX7_init 10 = .ok (.aload_n 2, 1) := by decide +kernel
theorem dX7_init_11 : decode cX7_init 11 = .ok (.putfield 15, 3) := by decide +kernel
theorem dX7_init_14 : decode cX7_init 14 = .ok (.return_, 1) := by decide +kernel
theorem dX7_seekNext_0 : decode cX7_seekNext 0 = .ok (.aload_n 0, 1) := by decide +kernel
theorem dX7_seekNext_1 : decode cX7_seekNext 1 = .ok (.iconst (-1), 1) := by decide +kernel
theorem dX7_seekNext_2 : decode cX7_seekNext 2 = .ok (.putfield 19, 3) := by decide +kernel
theorem dX7_seekNext_5 : decode cX7_seekNext 5 = .ok (.aload_n 0, 1) := by decide +kernel
theorem dX7_seekNext_6 : decode cX7_seekNext 6 = .ok (.iconst 0, 1) := by decide +kernel
theorem dX7_seekNext_7 : decode cX7_seekNext 7 = .ok (.putfield 23, 3) := by decide +kernel
theorem dX7_seekNext_10 : decode cX7_seekNext 10 = .ok (.aload_n 0, 1) := by decide +kernel
theorem dX7_seekNext_11 : decode cX7_seekNext 11 = .ok (.getfield 9, 3) := by decide +kernel
theorem dX7_seekNext_14 : decode cX7_seekNext 14 = .ok (.iload_n 1, 1) := by decide +kernel
theorem dX7_seekNext_15 : decode cX7_seekNext 15 = .ok (.invokevirtual 26, 3) := by decide +kernel
theorem dX7_seekNext_18 : decode cX7_seekNext 18 = .ok (.istore_n 3, 1) := by decide +kernel
theorem dX7_seekNext_19 : decode cX7_seekNext 19 = .ok (.iload_n 3, 1) := by decide +kernel
theorem dX7_seekNext_20 : decode cX7_seekNext 20 = .ok (.iconst (-1), 1) := by decide +kernel
theorem dX7_seekNext_21 : decode cX7_seekNext 21 = .ok (.if_icmp .ne 4, 3) := by decide +kernel
theorem dX7_seekNext_24 : decode cX7_seekNext 24 = .ok (.return_, 1) := by decide +kernel
theorem dX7_seekNext_25 : decode cX7_seekNext 25 = .ok (.iconst 0, 1) := by decide +kernel
theorem dX7_seekNext_26 : decode cX7_seekNext 26 = .ok (.istore 4, 2) := by decide +kernel
theorem dX7_seekNext_28 : decode cX7_seekNext 28 = .ok (.iload 4, 2) := by decide +kernel
theorem dX7_seekNext_30 : decode cX7_seekNext 30 = .ok (.aload_n 0, 1) := by decide +kernel
theorem dX7_seekNext_31 : decode cX7_seekNext 31 = .ok (.getfield 9, 3) := by decide +kernel
theorem dX7_seekNext_34 : decode cX7_seekNext 34 = .ok (.getfield 32, 3) := by decide +kernel
theorem dX7_seekNext_37 : decode cX7_seekNext 37 = .ok (.if_icmp .ge 87, 3) := by decide +kernel
theorem dX7_seekNext_40 : decode cX7_seekNext 40 = .ok (.aload_n 0, 1) := by decide +kernel
theorem dX7_seekNext_41 : decode cX7_seekNext 41 = .ok (.getfield 15, 3) := by decide +kernel
theorem dX7_seekNext_44 : decode cX7_seekNext 44 = .ok (.iload_n 1, 1) := by decide +kernel
theorem dX7_seekNext_45 : decode cX7_seekNext 45 = .ok (.iload 4, 2) := by decide +kernel
theorem dX7_seekNext_47 : decode cX7_seekNext 47 = .ok (.invokevirtual 35, 3) := by decide +kernel
theorem dX7_seekNext_50 : decode cX7_seekNext 50 = .ok (.ifCond .eq 68, 3) := by decide +kernel
theorem dX7_seekNext_53 : decode cX7_seekNext 53 = .ok (.aload_n 0, 1) := by decide +kernel
theorem dX7_seekNext_54 : decode cX7_seekNext 54 = .ok (.getfield 15, 3) := by decide +kernel
theorem dX7_seekNext_57 : decode cX7_seekNext 57 = .ok (.getfield 41, 3) := by decide +kernel
theorem dX7_seekNext_60 : decode cX7_seekNext 60 = .ok (.iload_n 3, 1) := by decide +kernel
theorem dX7_seekNext_61 : decode cX7_seekNext 61 = .ok (.iload 4, 2) := by decide +kernel
theorem dX7_seekNext_63 : decode cX7_seekNext 63 = .ok (.invokevirtual 45, 3) := by decide +kernel
theorem dX7_seekNext_66 : decode cX7_seekNext 66 = .ok (.istore 5, 2) := by decide +kernel
theorem dX7_seekNext_68 : decode cX7_seekNext 68 = .ok (.aload_n 0, 1) := by decide +kernel
theorem dX7_seekNext_69 : decode cX7_seekNext 69 = .ok (.getfield 15, 3) := by decide +kernel
theorem dX7_seekNext_72 : decode cX7_seekNext 72 = .ok (.iload_n 2, 1) := by decide +kernel
theorem dX7_seekNext_73 : decode cX7_seekNext 73 = .ok (.iload 5, 2) := by decide +kernel
theorem dX7_seekNext_75 : decode cX7_seekNext 75 = .ok (.aload_n 0, 1) := by decide +kernel
theorem dX7_seekNext_76 : decode cX7_seekNext 76 = .ok (.getfield 9, 3) := by decide +kernel
theorem dX7_seekNext_79 : decode cX7_seekNext 79 = .ok (.getfield 51, 3) := by decide +kernel
theorem dX7_seekNext_82 : decode cX7_seekNext 82 = .ok (.iload_n 1, 1) := by decide +kernel
theorem dX7_seekNext_83 : decode cX7_seekNext 83 = .ok (.iaload, 1) := by decide +kernel
theorem dX7_seekNext_84 : decode cX7_seekNext 84 = .ok (.invokevirtual 55, 3) := by decide +kernel
theorem dX7_seekNext_87 : decode cX7_seekNext 87 = .ok (.istore 6, 2) := by decide +kernel
theorem dX7_seekNext_89 : decode cX7_seekNext 89 = .ok (.aload_n 0, 1) := by decide +kernel
theorem dX7_seekNext_90 : decode cX7_seekNext 90 = .ok (.getfield 19, 3) := by decide +kernel
theorem dX7_seekNext_93 : decode cX7_seekNext 93 = .ok (.iconst (-1), 1) := by decide +kernel
theorem dX7_seekNext_94 : decode cX7_seekNext 94 = .ok (.if_icmp .eq 12, 3) := by decide +kernel
theorem dX7_seekNext_97 : decode cX7_seekNext 97 = .ok (.iload 6, 2) := by decide +kernel
theorem dX7_seekNext_99 : decode cX7_seekNext 99 = .ok (.aload_n 0, 1) := by decide +kernel
theorem dX7_seekNext_100 : decode cX7_seekNext 100 = .ok (.getfield 23, 3) := by decide +kernel
theorem dX7_seekNext_103 : decode cX7_seekNext 103 = .ok (.if_icmp .le 15, 3) := by decide +kernel
theorem dX7_seekNext_106 : decode cX7_seekNext 106 = .ok (.aload_n 0, 1) := by decide +kernel
theorem dX7_seekNext_107 : decode cX7_seekNext 107 = .ok (.iload 4, 2) := by decide +kernel
theorem dX7_seekNext_109 : decode cX7_seekNext 109 = .ok (.putfield 19, 3) := by decide +kernel
theorem dX7_seekNext_112 : decode cX7_seekNext 112 = .ok (.aload_n 0, 1) := by decide +kernel
theorem dX7_seekNext_113 : decode cX7_seekNext 113 = .ok (.iload 6, 2) := by decide +kernel
theorem dX7_seekNext_115 : decode cX7_seekNext 115 = .ok (.putfield 23, 3) := by decide +kernel
theorem dX7_seekNext_118 : decode cX7_seekNext 118 = .ok (.iinc 4 1, 3) := by decide +kernel
theorem dX7_seekNext_121 : decode cX7_seekNext 121 = .ok (.goto (-93), 3) := by decide +kernel
theorem dX7_seekNext_124 : decode cX7_seekNext 124 = .ok (.return_, 1) := by decide +kernel
theorem dX7_goGreedily_0 : decode cX7_goGreedily 0 = .ok (.iconst 0, 1) := by decide +kernel
theorem dX7_goGreedily_1 : decode cX7_goGreedily 1 = .ok (.istore 5, 2) := by decide +kernel
theorem dX7_goGreedily_3 : decode cX7_goGreedily 3 = .ok (.iconst 0, 1) := by decide +kernel
theorem dX7_goGreedily_4 : decode cX7_goGreedily 4 = .ok (.istore 6, 2) := by decide +kernel
theorem dX7_goGreedily_6 : decode cX7_goGreedily 6 = .ok (.iload 6, 2) := by decide +kernel
theorem dX7_goGreedily_8 : decode cX7_goGreedily 8 = .ok (.iload_n 3, 1) := by decide +kernel
theorem dX7_goGreedily_9 : decode cX7_goGreedily 9 = .ok (.if_icmp .ge 48, 3) := by decide +kernel
theorem dX7_goGreedily_12 : decode cX7_goGreedily 12 = .ok (.aload_n 0, 1) := by decide +kernel
theorem dX7_goGreedily_13 : decode cX7_goGreedily 13 = .ok (.iload_n 1, 1) := by decide +kernel
theorem dX7_goGreedily_14 : decode cX7_goGreedily 14 = .ok (.iload_n 2, 1) := by decide +kernel
theorem dX7_goGreedily_15 : decode cX7_goGreedily 15 = .ok (.invokevirtual 59, 3) := by decide +kernel
theorem dX7_goGreedily_18 : decode cX7_goGreedily 18 = .ok (.aload_n 0, 1) := by decide +kernel
theorem dX7_goGreedily_19 : decode cX7_goGreedily 19 = .ok (.getfield 19, 3) := by decide +kernel
theorem dX7_goGreedily_22 : decode cX7_goGreedily 22 = .ok (.iconst (-1), 1) := by decide +kernel
theorem dX7_goGreedily_23 : decode cX7_goGreedily 23 = .ok (.if_icmp .eq 34, 3) := by decide +kernel
theorem dX7_goGreedily_26 : decode cX7_goGreedily 26 = .ok (.aload_n 0, 1) := by decide +kernel
theorem dX7_goGreedily_27 : decode cX7_goGreedily 27 = .ok (.getfield 23, 3) := by decide +kernel
theorem dX7_goGreedily_30 : decode cX7_goGreedily 30 = .ok (.ifCond .gt 6, 3) := by decide +kernel
theorem dX7_goGreedily_33 : decode cX7_goGreedily 33 = .ok (.goto 24, 3) := by decide +kernel
theorem dX7_goGreedily_36 : decode cX7_goGreedily 36 = .ok (.aload_n 0, 1) := by decide +kernel
theorem dX7_goGreedily_37 : decode cX7_goGreedily 37 = .ok (.getfield 15, 3) := by decide +kernel
theorem dX7_goGreedily_40 : decode cX7_goGreedily 40 = .ok (.iload_n 1, 1) := by decide +kernel
theorem dX7_goGreedily_41 : decode cX7_goGreedily 41 = .ok (.aload_n 0, 1) := by decide +kernel
theorem dX7_goGreedily_42 : decode cX7_goGreedily 42 = .ok (.getfield 19, 3) := by decide +kernel
theorem dX7_goGreedily_45 : decode cX7_goGreedily 45 = .ok (.invokevirtual 63, 3) := by decide +kernel
theorem dX7_goGreedily_48 : decode cX7_goGreedily 48 = .ok (.iinc 5 1, 3) := by decide +kernel
theorem dX7_goGreedily_51 : decode cX7_goGreedily 51 = .ok (.iinc 6 1, 3) := by decide +kernel
theorem dX7_goGreedily_54 : decode cX7_goGreedily 54 = .ok (.goto (-48), 3) := by decide +kernel
theorem dX7_goGreedily_57 : decode cX7_goGreedily 57 = .ok (.aload_n 0, 1) := by decide +kernel
theorem dX7_goGreedily_58 : decode cX7_goGreedily 58 = .ok (.getfield 15, 3) := by decide +kernel
theorem dX7_goGreedily_61 : decode cX7_goGreedily 61 = .ok (.iload_n 2, 1) := by decide +kernel
theorem dX7_goGreedily_62 : decode cX7_goGreedily 62 = .ok (.invokevirtual 66, 3) := by decide +kernel
theorem dX7_goGreedily_65 : decode cX7_goGreedily 65 = .ok (.istore 6, 2) := by decide +kernel
theorem dX7_goGreedily_67 : decode cX7_goGreedily 67 = .ok (.aload_n 0, 1) := by decide +kernel
theorem dX7_goGreedily_68 : decode cX7_goGreedily 68 = .ok (.getfield 9, 3) := by decide +kernel
theorem dX7_goGreedily_71 : decode cX7_goGreedily 71 = .ok (.iload_n 1, 1) := by decide +kernel
theorem dX7_goGreedily_72 : decode cX7_goGreedily 72 = .ok (.invokevirtual 26, 3) := by decide +kernel
theorem dX7_goGreedily_75 : decode cX7_goGreedily 75 = .ok (.istore 7, 2) := by decide +kernel
theorem dX7_goGreedily_77 : decode cX7_goGreedily 77 = .ok (.iconst 0, 1) := by decide +kernel
theorem dX7_goGreedily_78 : decode cX7_goGreedily 78 = .ok (.istore 8, 2) := by decide +kernel
theorem dX7_goGreedily_80 : decode cX7_goGreedily 80 = .ok (.iload 8, 2) := by decide +kernel
theorem dX7_goGreedily_82 : decode cX7_goGreedily 82 = .ok (.iload 5, 2) := by decide +kernel
theorem dX7_goGreedily_84 : decode cX7_goGreedily 84 = .ok (.if_icmp .ge 17, 3) := by decide +kernel
theorem dX7_goGreedily_87 : decode cX7_goGreedily 87 = .ok (.aload_n 0, 1) := by decide +kernel
theorem dX7_goGreedily_88 : decode cX7_goGreedily 88 = .ok (.getfield 15, 3) := by decide +kernel
theorem dX7_goGreedily_91 : decode cX7_goGreedily 91 = .ok (.iload_n 1, 1) := by decide +kernel
theorem dX7_goGreedily_92 : decode cX7_goGreedily 92 = .ok (.invokevirtual 69, 3) := by decide +kernel
theorem dX7_goGreedily_95 : decode cX7_goGreedily 95 = .ok (.iinc 8 1, 3) := by decide +kernel
theorem dX7_goGreedily_98 : decode cX7_goGreedily 98 = .ok (.goto (-18), 3) := by decide +kernel
theorem dX7_goGreedily_101 : decode cX7_goGreedily 101 = .ok (.iload 4, 2) := by decide +kernel
theorem dX7_goGreedily_103 : decode cX7_goGreedily 103 = .ok (.ifCond .ne 8, 3) := by decide +kernel
theorem dX7_goGreedily_106 : decode cX7_goGreedily 106 = .ok (.iload 5, 2) := by decide +kernel
theorem dX7_goGreedily_108 : decode cX7_goGreedily 108 = .ok (.goto 16, 3) := by decide +kernel
theorem dX7_goGreedily_111 : decode cX7_goGreedily 111 = .ok (.iload 4, 2) := by decide +kernel
theorem dX7_goGreedily_113 : decode cX7_goGreedily 113 = .ok (.iconst 1, 1) := by decide +kernel
theorem dX7_goGreedily_114 : decode cX7_goGreedily 114 = .ok (.if_icmp .ne 8, 3) := by decide +kernel
theorem dX7_goGreedily_117 : decode cX7_goGreedily 117 = .ok (.iload 6, 2) := by decide +kernel
theorem dX7_goGreedily_119 : decode cX7_goGreedily 119 = .ok (.goto 5, 3) := by decide +kernel
theorem dX7_goGreedily_122 : decode cX7_goGreedily 122 = .ok (.iload 7, 2) := by decide +kernel
theorem dX7_goGreedily_124 : decode cX7_goGreedily 124 = .ok (.ireturn, 1) := by decide +kernel
theorem dX7_seekWorst_0 : decode cX7_seekWorst 0 = .ok (.aload_n 0, 1) := by decide +kernel
theorem dX7_seekWorst_1 : decode cX7_seekWorst 1 = .ok (.iconst (-1), 1) := by decide +kernel
theorem dX7_seekWorst_2 : decode cX7_seekWorst 2 = .ok (.putfield 73, 3) := by decide +kernel
theorem dX7_seekWorst_5 : decode cX7_seekWorst 5 = .ok (.aload_n 0, 1) := by decide +kernel
theorem dX7_seekWorst_6 : decode cX7_seekWorst 6 = .ok (.iconst (-1), 1) := by decide +kernel
theorem dX7_seekWorst_7 : decode cX7_seekWorst 7 = .ok (.putfield 76, 3) := by decide +kernel
theorem dX7_seekWorst_10 : decode cX7_seekWorst 10 = .ok (.aload_n 0, 1) := by decide +kernel
theorem dX7_seekWorst_11 : decode cX7_seekWorst 11 = .ok (.iconst 0, 1) := by decide +kernel
theorem dX7_seekWorst_12 : decode cX7_seekWorst 12 = .ok (.putfield 23, 3) := by decide +kernel
theorem dX7_seekWorst_15 : decode cX7_seekWorst 15 = .ok (.iconst 0, 1) := by decide +kernel
theorem dX7_seekWorst_16 : decode cX7_seekWorst 16 = .ok (.istore_n 2, 1) := by decide +kernel
theorem dX7_seekWorst_17 : decode cX7_seekWorst 17 = .ok (.iload_n 2, 1) := by decide +kernel
theorem dX7_seekWorst_18 : decode cX7_seekWorst 18 = .ok (.iconst 3, 1) := by decide +kernel
theorem dX7_seekWorst_19 : decode cX7_seekWorst 19 = .ok (.if_icmp .ge 125, 3) := by decide +kernel
theorem dX7_seekWorst_22 : decode cX7_seekWorst 22 = .ok (.iload_n 2, 1) := by decide +kernel
theorem dX7_seekWorst_23 : decode cX7_seekWorst 23 = .ok (.bipush 120, 2) := by decide +kernel
theorem dX7_seekWorst_25 : decode cX7_seekWorst 25 = .ok (.imul, 1) := by decide +kernel
theorem dX7_seekWorst_26 : decode cX7_seekWorst 26 = .ok (.istore_n 3, 1) := by decide +kernel
theorem dX7_seekWorst_27 : decode cX7_seekWorst 27 = .ok (.iconst 1, 1) := by decide +kernel
theorem dX7_seekWorst_28 : decode cX7_seekWorst 28 = .ok (.istore 4, 2) := by decide +kernel
theorem dX7_seekWorst_30 : decode cX7_seekWorst 30 = .ok (.iload 4, 2) := by decide +kernel
theorem dX7_seekWorst_32 : decode cX7_seekWorst 32 = .ok (.aload_n 0, 1) := by decide +kernel
theorem dX7_seekWorst_33 : decode cX7_seekWorst 33 = .ok (.getfield 9, 3) := by decide +kernel
theorem dX7_seekWorst_36 : decode cX7_seekWorst 36 = .ok (.getfield 79, 3) := by decide +kernel
theorem dX7_seekWorst_39 : decode cX7_seekWorst 39 = .ok (.iload_n 2, 1) := by decide +kernel
theorem dX7_seekWorst_40 : decode cX7_seekWorst 40 = .ok (.iaload, 1) := by decide +kernel
theorem dX7_seekWorst_41 : decode cX7_seekWorst 41 = .ok (.if_icmp .ge 97, 3) := by decide +kernel
theorem dX7_seekWorst_44 : decode cX7_seekWorst 44 = .ok (.aload_n 0, 1) := by decide +kernel
theorem dX7_seekWorst_45 : decode cX7_seekWorst 45 = .ok (.getfield 15, 3) := by decide +kernel
theorem dX7_seekWorst_48 : decode cX7_seekWorst 48 = .ok (.getfield 41, 3) := by decide +kernel
theorem dX7_seekWorst_51 : decode cX7_seekWorst 51 = .ok (.aload_n 0, 1) := by decide +kernel
theorem dX7_seekWorst_52 : decode cX7_seekWorst 52 = .ok (.getfield 9, 3) := by decide +kernel
theorem dX7_seekWorst_55 : decode cX7_seekWorst 55 = .ok (.getfield 82, 3) := by decide +kernel
theorem dX7_seekWorst_58 : decode cX7_seekWorst 58 = .ok (.iload_n 3, 1) := by decide +kernel
theorem dX7_seekWorst_59 : decode cX7_seekWorst 59 = .ok (.iload 4, 2) := by decide +kernel
theorem dX7_seekWorst_61 : decode cX7_seekWorst 61 = .ok (.iadd, 1) := by decide +kernel
theorem dX7_seekWorst_62 : decode cX7_seekWorst 62 = .ok (.iconst 1, 1) := by decide +kernel
theorem dX7_seekWorst_63 : decode cX7_seekWorst 63 = .ok (.isub, 1) := by decide +kernel
theorem dX7_seekWorst_64 : decode cX7_seekWorst 64 = .ok (.iaload, 1) := by decide +kernel
theorem dX7_seekWorst_65 : decode cX7_seekWorst 65 = .ok (.aload_n 0, 1) := by decide +kernel
theorem dX7_seekWorst_66 : decode cX7_seekWorst 66 = .ok (.getfield 9, 3) := by decide +kernel
theorem dX7_seekWorst_69 : decode cX7_seekWorst 69 = .ok (.getfield 82, 3) := by decide +kernel
theorem dX7_seekWorst_72 : decode cX7_seekWorst 72 = .ok (.iload_n 3, 1) := by decide +kernel
theorem dX7_seekWorst_73 : decode cX7_seekWorst 73 = .ok (.iload 4, 2) := by decide +kernel
theorem dX7_seekWorst_75 : decode cX7_seekWorst 75 = .ok (.iadd, 1) := by decide +kernel
theorem dX7_seekWorst_76 : decode cX7_seekWorst 76 = .ok (.iaload, 1) := by decide +kernel
theorem dX7_seekWorst_77 : decode cX7_seekWorst 77 = .ok (.invokevirtual 45, 3) := by decide +kernel
theorem dX7_seekWorst_80 : decode cX7_seekWorst 80 = .ok (.istore 5, 2) := by decide +kernel
theorem dX7_seekWorst_82 : decode cX7_seekWorst 82 = .ok (.aload_n 0, 1) := by decide +kernel
theorem dX7_seekWorst_83 : decode cX7_seekWorst 83 = .ok (.getfield 15, 3) := by decide +kernel
theorem dX7_seekWorst_86 : decode cX7_seekWorst 86 = .ok (.iload_n 1, 1) := by decide +kernel
theorem dX7_seekWorst_87 : decode cX7_seekWorst 87 = .ok (.iload 5, 2) := by decide +kernel
theorem dX7_seekWorst_89 : decode cX7_seekWorst 89 = .ok (.aload_n 0, 1) := by decide +kernel
theorem dX7_seekWorst_90 : decode cX7_seekWorst 90 = .ok (.getfield 9, 3) := by decide +kernel
theorem dX7_seekWorst_93 : decode cX7_seekWorst 93 = .ok (.getfield 51, 3) := by decide +kernel
theorem dX7_seekWorst_96 : decode cX7_seekWorst 96 = .ok (.iload_n 2, 1) := by decide +kernel
theorem dX7_seekWorst_97 : decode cX7_seekWorst 97 = .ok (.iaload, 1) := by decide +kernel
theorem dX7_seekWorst_98 : decode cX7_seekWorst 98 = .ok (.ineg, 1) := by decide +kernel
theorem dX7_seekWorst_99 : decode cX7_seekWorst 99 = .ok (.invokevirtual 55, 3) := by decide +kernel
theorem dX7_seekWorst_102 : decode cX7_seekWorst 102 = .ok (.istore 6, 2) := by decide +kernel
theorem dX7_seekWorst_104 : decode cX7_seekWorst 104 = .ok (.iload 6, 2) := by decide +kernel
theorem dX7_seekWorst_106 : decode cX7_seekWorst 106 = .ok (.aload_n 0, 1) := by decide +kernel
theorem dX7_seekWorst_107 : decode cX7_seekWorst 107 = .ok (.getfield 23, 3) := by decide +kernel
theorem dX7_seekWorst_110 : decode cX7_seekWorst 110 = .ok (.if_icmp .le 22, 3) := by decide +kernel
theorem dX7_seekWorst_113 : decode cX7_seekWorst 113 = .ok (.aload_n 0, 1) := by decide +kernel
theorem dX7_seekWorst_114 : decode cX7_seekWorst 114 = .ok (.iload_n 2, 1) := by decide +kernel
theorem dX7_seekWorst_115 : decode cX7_seekWorst 115 = .ok (.putfield 73, 3) := by decide +kernel
theorem dX7_seekWorst_118 : decode cX7_seekWorst 118 = .ok (.aload_n 0, 1) := by decide +kernel
theorem dX7_seekWorst_119 : decode cX7_seekWorst 119 = .ok (.iload 4, 2) := by decide +kernel
theorem dX7_seekWorst_121 : decode cX7_seekWorst 121 = .ok (.iconst 1, 1) := by decide +kernel
theorem dX7_seekWorst_122 : decode cX7_seekWorst 122 = .ok (.isub, 1) := by decide +kernel
theorem dX7_seekWorst_123 : decode cX7_seekWorst 123 = .ok (.putfield 76, 3) := by decide +kernel
theorem dX7_seekWorst_126 : decode cX7_seekWorst 126 = .ok (.aload_n 0, 1) := by decide +kernel
theorem dX7_seekWorst_127 : decode cX7_seekWorst 127 = .ok (.iload 6, 2) := by decide +kernel
theorem dX7_seekWorst_129 : decode cX7_seekWorst 129 = .ok (.putfield 23, 3) := by decide +kernel
theorem dX7_seekWorst_132 : decode cX7_seekWorst 132 = .ok (.iinc 4 1, 3) := by decide +kernel
theorem dX7_seekWorst_135 : decode cX7_seekWorst 135 = .ok (.goto (-105), 3) := by decide +kernel
theorem dX7_seekWorst_138 : decode cX7_seekWorst 138 = .ok (.iinc 2 1, 3) := by decide +kernel
theorem dX7_seekWorst_141 : decode cX7_seekWorst 141 = .ok (.goto (-124), 3) := by decide +kernel
theorem dX7_seekWorst_144 : decode cX7_seekWorst 144 = .ok (.return_, 1) := by decide +kernel
theorem dX8_init_0 : decode cX8_init 0 = .ok (.aload_n 0, 1) := by decide +kernel
theorem dX8_init_1 : decode cX8_init 1 = .ok (.invokespecial 3, 3) := by decide +kernel
theorem dX8_init_4 : decode cX8_init 4 = .ok (.aload_n 0, 1) := by decide +kernel
theorem dX8_init_5 : decode cX8_init 5 = .ok (.bipush 24, 2) := by decide +kernel
theorem dX8_init_7 : decode cX8_init 7 = .ok (.newarray .int, 2) := by decide +kernel
theorem dX8_init_9 : decode cX8_init 9 = .ok (.putfield 9, 3) := by decide +kernel
theorem dX8_init_12 : decode cX8_init 12 = .ok (.aload_n 0, 1) := by decide +kernel
theorem dX8_init_13 : decode cX8_init 13 = .ok (.bipush 24, 2) := by decide +kernel
theorem dX8_init_15 : decode cX8_init 15 = .ok (.newarray .int, 2) := by decide +kernel
theorem dX8_init_17 : decode cX8_init 17 = .ok (.putfield 15, 3) := by decide +kernel
theorem dX8_init_20 : decode cX8_init 20 = .ok (.aload_n 0, 1) := by decide +kernel
theorem dX8_init_21 : decode cX8_init 21 = .ok (.sipush 256, 3) := by decide +kernel
theorem dX8_init_24 : decode cX8_init 24 = .ok (.newarray .int, 2) := by decide +kernel
theorem dX8_init_26 : decode cX8_init 26 = .ok (.putfield 18, 3) := by decide +kernel
theorem dX8_init_29 : decode cX8_init 29 = .ok (.aload_n 0, 1) := by decide +kernel
theorem dX8_init_30 : decode cX8_init 30 = .ok (.bipush 64, 2) := by decide +kernel
theorem dX8_init_32 : decode cX8_init 32 = .ok (.newarray .int, 2) := by decide +kernel
theorem dX8_init_34 : decode cX8_init 34 = .ok (.putfield 21, 3) := by decide +kernel
theorem dX8_init_37 : decode cX8_init 37 = .ok (.aload_n 0, 1) := by decide +kernel
theorem dX8_init_38 : decode cX8_init 38 = .ok (.iconst 3, 1) := by decide +kernel
theorem dX8_init_39 : decode cX8_init 39 = .ok (.newarray .int, 2) := by decide +kernel
theorem dX8_init_41 : decode cX8_init 41 = .ok (.putfield 24, 3) := by decide +kernel
theorem dX8_init_44 : decode cX8_init 44 = .ok (.aload_n 0, 1) := by decide +kernel
theorem dX8_init_45 : decode cX8_init 45 = .ok (.sipush 360, 3) := by decide +kernel
theorem dX8_init_48 : decode cX8_init 48 = .ok (.newarray .int, 2) := by decide +kernel
theorem dX8_init_50 : decode cX8_init 50 = .ok (.putfield 27, 3) := by decide +kernel
theorem dX8_init_53 : decode cX8_init 53 = .ok (.aload_n 0, 1) := by decide +kernel
theorem dX8_init_54 : decode cX8_init 54 = .ok (.iconst 3, 1) := by decide +kernel
theorem dX8_init_55 : decode cX8_init 55 = .ok (.newarray .int, 2) := by decide +kernel
theorem dX8_init_57 : decode cX8_init 57 = .ok (.putfield 30, 3) := by decide +kernel
theorem dX8_init_60 : decode cX8_init 60 = .ok (.aload_n 0, 1) := by decide +kernel
theorem dX8_init_61 : decode cX8_init 61 = .ok (.bipush 20, 2) := by decide +kernel
theorem dX8_init_63 : decode cX8_init 63 = .ok (.newarray .int, 2) := by decide +kernel
theorem dX8_init_65 : decode cX8_init 65 = .ok (.putfield 33, 3) := by decide +kernel
theorem dX8_init_68 : decode cX8_init 68 = .ok (.aload_n 0, 1) := by decide +kernel
theorem dX8_init_69 : decode cX8_init 69 = .ok (.bipush 20, 2) := by decide +kernel
theorem dX8_init_71 : decode cX8_init 71 = .ok (.newarray .int, 2) := by decide +kernel
theorem dX8_init_73 : decode cX8_init 73 = .ok (.putfield 36, 3) := by decide +kernel
theorem dX8_init_76 : decode cX8_init 76 = .ok (.aload_n 0, 1) := by decide +kernel
theorem dX8_init_77 : decode cX8_init 77 = .ok (.bipush 64, 2) := by decide +kernel
theorem dX8_init_79 : decode cX8_init 79 = .ok (.newarray .int, 2) := by decide +kernel
theorem dX8_init_81 : decode cX8_init 81 = .ok (.putfield 39, 3) := by decide +kernel
theorem dX8_init_84 : decode cX8_init 84 = .ok (.aload_n 0, 1) := by decide +kernel
theorem dX8_init_85 : decode cX8_init 85 = .ok (.new 42, 3) := by decide +kernel
theorem dX8_init_88 : decode cX8_init 88 = .ok (.dup, 1) := by decide +kernel
theorem dX8_init_89 : decode cX8_init 89 = .ok (.invokespecial 44, 3) := by decide +kernel
theorem dX8_init_92 : decode cX8_init 92 = .ok (.putfield 45, 3) := by decide +kernel
theorem dX8_init_95 : decode cX8_init 95 = .ok (.aload_n 0, 1) := by decide +kernel
theorem dX8_init_96 : decode cX8_init 96 = .ok (.iconst 4, 1) := by decide +kernel
theorem dX8_init_97 : decode cX8_init 97 = .ok (.invokevirtual 49, 3) := by decide +kernel
theorem dX8_init_100 : decode cX8_init 100 = .ok (.return_, 1) := by decide +kernel
theorem dX8_asAtFirst_0 : decode cX8_asAtFirst 0 = .ok (.aload_n 0, 1) := by decide +kernel
theorem dX8_asAtFirst_1 : decode cX8_asAtFirst 1 = .ok (.iload_n 1, 1) := by decide +kernel
theorem dX8_asAtFirst_2 : decode cX8_asAtFirst 2 = .ok (.putfield 53, 3) := by decide +kernel
theorem dX8_asAtFirst_5 : decode cX8_asAtFirst 5 = .ok (.aload_n 0, 1) := by decide +kernel
theorem dX8_asAtFirst_6 : decode cX8_asAtFirst 6 = .ok (.iconst 0, 1) := by decide +kernel
theorem dX8_asAtFirst_7 : decode cX8_asAtFirst 7 = .ok (.putfield 57, 3) := by decide +kernel
theorem dX8_asAtFirst_10 : decode cX8_asAtFirst 10 = .ok (.aload_n 0, 1) := by decide +kernel
theorem dX8_asAtFirst_11 : decode cX8_asAtFirst 11 = .ok (.iconst 0, 1) := by decide +kernel
theorem dX8_asAtFirst_12 : decode cX8_asAtFirst 12 = .ok (.putfield 60, 3) := by decide +kernel
theorem dX8_asAtFirst_15 : decode cX8_asAtFirst 15 = .ok (.aload_n 0, 1) := by decide +kernel
theorem dX8_asAtFirst_16 : decode cX8_asAtFirst 16 = .ok (.getfield 45, 3) := by decide +kernel
theorem dX8_asAtFirst_19 : decode cX8_asAtFirst 19 = .ok (.iconst 0, 1) := by decide +kernel
theorem dX8_asAtFirst_20 : decode cX8_asAtFirst 20 = .ok (.putfield 63, 3) := by decide +kernel
theorem dX8_asAtFirst_23 : decode cX8_asAtFirst 23 = .ok (.aload_n 0, 1) := by decide +kernel
theorem dX8_asAtFirst_24 : decode cX8_asAtFirst 24 = .ok (.getfield 18, 3) := by decide +kernel
theorem dX8_asAtFirst_27 : decode cX8_asAtFirst 27 = .ok (.iconst 0, 1) := by decide +kernel
theorem dX8_asAtFirst_28 : decode cX8_asAtFirst 28 = .ok (.invokestatic 64, 3) := by decide +kernel
theorem dX8_asAtFirst_31 : decode cX8_asAtFirst 31 = .ok (.aload_n 0, 1) := by decide +kernel
theorem dX8_asAtFirst_32 : decode cX8_asAtFirst 32 = .ok (.getfield 21, 3) := by decide +kernel
theorem dX8_asAtFirst_35 : decode cX8_asAtFirst 35 = .ok (.iconst 1, 1) := by decide +kernel
theorem dX8_asAtFirst_36 : decode cX8_asAtFirst 36 = .ok (.invokestatic 64, 3) := by decide +kernel
theorem dX8_asAtFirst_39 : decode cX8_asAtFirst 39 = .ok (.aload_n 0, 1) := by decide +kernel
theorem dX8_asAtFirst_40 : decode cX8_asAtFirst 40 = .ok (.getfield 39, 3) := by decide +kernel
theorem dX8_asAtFirst_43 : decode cX8_asAtFirst 43 = .ok (.iconst (-1), 1) := by decide +kernel
theorem dX8_asAtFirst_44 : decode cX8_asAtFirst 44 = .ok (.invokestatic 64, 3) := by decide +kernel
theorem dX8_asAtFirst_47 : decode cX8_asAtFirst 47 = .ok (.iconst 0, 1) := by decide +kernel
theorem dX8_asAtFirst_48 : decode cX8_asAtFirst 48 = .ok (.istore_n 2, 1) := by decide +kernel
theorem dX8_asAtFirst_49 : decode cX8_asAtFirst 49 = .ok (.iload_n 2, 1) := by decide +kernel
theorem dX8_asAtFirst_50 : decode cX8_asAtFirst 50 = .ok (.iconst 3, 1) := by decide +kernel
theorem dX8_asAtFirst_51 : decode cX8_asAtFirst 51 = .ok (.if_icmp .ge 25, 3) := by decide +kernel
theorem dX8_asAtFirst_54 : decode cX8_asAtFirst 54 = .ok (.aload_n 0, 1) := by decide +kernel
theorem dX8_asAtFirst_55 : decode cX8_asAtFirst 55 = .ok (.getfield 24, 3) := by decide +kernel
theorem dX8_asAtFirst_58 : decode cX8_asAtFirst 58 = .ok (.iload_n 2, 1) := by decide +kernel
theorem dX8_asAtFirst_59 : decode cX8_asAtFirst 59 = .ok (.iload_n 2, 1) := by decide +kernel
theorem dX8_asAtFirst_60 : decode cX8_asAtFirst 60 = .ok (.iconst 1, 1) := by decide +kernel
theorem dX8_asAtFirst_61 : decode cX8_asAtFirst 61 = .ok (.iadd, 1) := by decide +kernel
theorem dX8_asAtFirst_62 : decode cX8_asAtFirst 62 = .ok (.iastore, 1) := by decide +kernel
theorem dX8_asAtFirst_63 : decode cX8_asAtFirst 63 = .ok (.aload_n 0, 1) := by decide +kernel
theorem dX8_asAtFirst_64 : decode cX8_asAtFirst 64 = .ok (.getfield 30, 3) := by decide +kernel
theorem dX8_asAtFirst_67 : decode cX8_asAtFirst 67 = .ok (.iload_n 2, 1) := by decide +kernel
theorem dX8_asAtFirst_68 : decode cX8_asAtFirst 68 = .ok (.iconst 0, 1) := by decide +kernel
theorem dX8_asAtFirst_69 : decode cX8_asAtFirst 69 = .ok (.iastore, 1) := by decide +kernel
theorem dX8_asAtFirst_70 : decode cX8_asAtFirst 70 = .ok (.iinc 2 1, 3) := by decide +kernel
theorem dX8_asAtFirst_73 : decode cX8_asAtFirst 73 = .ok (.goto (-24), 3) := by decide +kernel
theorem dX8_asAtFirst_76 : decode cX8_asAtFirst 76 = .ok (.return_, 1) := by decide +kernel
theorem dX8_takeFrom_0 : decode cX8_takeFrom 0 = .ok (.aload_n 0, 1) := by decide +kernel
theorem dX8_takeFrom_1 : decode cX8_takeFrom 1 = .ok (.aload_n 1, 1) := by decide +kernel
theorem dX8_takeFrom_2 : decode cX8_takeFrom 2 = .ok (.getfield 53, 3) := by decide +kernel
theorem dX8_takeFrom_5 : decode cX8_takeFrom 5 = .ok (.putfield 53, 3) := by decide +kernel
theorem dX8_takeFrom_8 : decode cX8_takeFrom 8 = .ok (.aload_n 0, 1) := by decide +kernel
theorem dX8_takeFrom_9 : decode cX8_takeFrom 9 = .ok (.aload_n 1, 1) := by decide +kernel
theorem dX8_takeFrom_10 : decode cX8_takeFrom 10 = .ok (.getfield 57, 3) := by decide +kernel
theorem dX8_takeFrom_13 : decode cX8_takeFrom 13 = .ok (.putfield 57, 3) := by decide +kernel
theorem dX8_takeFrom_16 : decode cX8_takeFrom 16 = .ok (.aload_n 0, 1) := by decide +kernel
theorem dX8_takeFrom_17 : decode cX8_takeFrom 17 = .ok (.aload_n 1, 1) := by decide +kernel
theorem dX8_takeFrom_18 : decode cX8_takeFrom 18 = .ok (.getfield 60, 3) := by decide +kernel
theorem dX8_takeFrom_21 : decode cX8_takeFrom 21 = .ok (.putfield 60, 3) := by decide +kernel
theorem dX8_takeFrom_24 : decode cX8_takeFrom 24 = .ok (.aload_n 0, 1) := by decide +kernel
theorem dX8_takeFrom_25 : decode cX8_takeFrom 25 = .ok (.getfield 45, 3) := by decide +kernel
theorem dX8_takeFrom_28 : decode cX8_takeFrom 28 = .ok (.aload_n 1, 1) := by decide +kernel
theorem dX8_takeFrom_29 : decode cX8_takeFrom 29 = .ok (.getfield 45, 3) := by decide +kernel
theorem dX8_takeFrom_32 : decode cX8_takeFrom 32 = .ok (.invokevirtual 70, 3) := by decide +kernel
theorem dX8_takeFrom_35 : decode cX8_takeFrom 35 = .ok (.aload_n 1, 1) := by decide +kernel
theorem dX8_takeFrom_36 : decode cX8_takeFrom 36 = .ok (.getfield 9, 3) := by decide +kernel
theorem dX8_takeFrom_39 : decode cX8_takeFrom 39 = .ok (.iconst 0, 1) := by decide +kernel
theorem dX8_takeFrom_40 : decode cX8_takeFrom 40 = .ok (.aload_n 0, 1) := by decide +kernel
theorem dX8_takeFrom_41 : decode cX8_takeFrom 41 = .ok (.getfield 9, 3) := by decide +kernel
theorem dX8_takeFrom_44 : decode cX8_takeFrom 44 = .ok (.iconst 0, 1) := by decide +kernel
theorem dX8_takeFrom_45 : decode cX8_takeFrom 45 = .ok (.bipush 24, 2) := by decide +kernel
theorem dX8_takeFrom_47 : decode cX8_takeFrom 47 = .ok (.invokestatic 74, 3) := by decide +kernel
theorem dX8_takeFrom_50 : decode cX8_takeFrom 50 = .ok (.aload_n 1, 1) := by decide +kernel
theorem dX8_takeFrom_51 : decode cX8_takeFrom 51 = .ok (.getfield 15, 3) := by decide +kernel
theorem dX8_takeFrom_54 : decode cX8_takeFrom 54 = .ok (.iconst 0, 1) := by decide +kernel
theorem dX8_takeFrom_55 : decode cX8_takeFrom 55 = .ok (.aload_n 0, 1) := by decide +kernel
theorem dX8_takeFrom_56 : decode cX8_takeFrom 56 = .ok (.getfield 15, 3) := by decide +kernel
theorem dX8_takeFrom_59 : decode cX8_takeFrom 59 = .ok (.iconst 0, 1) := by decide +kernel
theorem dX8_takeFrom_60 : decode cX8_takeFrom 60 = .ok (.bipush 24, 2) := by decide +kernel
theorem dX8_takeFrom_62 : decode cX8_takeFrom 62 = .ok (.invokestatic 74, 3) := by decide +kernel
theorem dX8_takeFrom_65 : decode cX8_takeFrom 65 = .ok (.aload_n 1, 1) := by decide +kernel
theorem dX8_takeFrom_66 : decode cX8_takeFrom 66 = .ok (.getfield 18, 3) := by decide +kernel
theorem dX8_takeFrom_69 : decode cX8_takeFrom 69 = .ok (.iconst 0, 1) := by decide +kernel
theorem dX8_takeFrom_70 : decode cX8_takeFrom 70 = .ok (.aload_n 0, 1) := by decide +kernel
theorem dX8_takeFrom_71 : decode cX8_takeFrom 71 = .ok (.getfield 18, 3) := by decide +kernel
theorem dX8_takeFrom_74 : decode cX8_takeFrom 74 = .ok (.iconst 0, 1) := by decide +kernel
theorem dX8_takeFrom_75 : decode cX8_takeFrom 75 = .ok (.sipush 256, 3) := by decide +kernel
theorem dX8_takeFrom_78 : decode cX8_takeFrom 78 = .ok (.invokestatic 74, 3) := by decide +kernel
theorem dX8_takeFrom_81 : decode cX8_takeFrom 81 = .ok (.aload_n 1, 1) := by decide +kernel
theorem dX8_takeFrom_82 : decode cX8_takeFrom 82 = .ok (.getfield 21, 3) := by decide +kernel
theorem dX8_takeFrom_85 : decode cX8_takeFrom 85 = .ok (.iconst 0, 1) := by decide +kernel
theorem dX8_takeFrom_86 : decode cX8_takeFrom 86 = .ok (.aload_n 0, 1) := by decide +kernel
theorem dX8_takeFrom_87 : decode cX8_takeFrom 87 = .ok (.getfield 21, 3) := by decide +kernel
theorem dX8_takeFrom_90 : decode cX8_takeFrom 90 = .ok (.iconst 0, 1) := by decide +kernel
theorem dX8_takeFrom_91 : decode cX8_takeFrom 91 = .ok (.bipush 64, 2) := by decide +kernel
theorem dX8_takeFrom_93 : decode cX8_takeFrom 93 = .ok (.invokestatic 74, 3) := by decide +kernel
theorem dX8_takeFrom_96 : decode cX8_takeFrom 96 = .ok (.aload_n 1, 1) := by decide +kernel
theorem dX8_takeFrom_97 : decode cX8_takeFrom 97 = .ok (.getfield 24, 3) := by decide +kernel
theorem dX8_takeFrom_100 : decode cX8_takeFrom 100 = .ok (.iconst 0, 1) := by decide +kernel
theorem dX8_takeFrom_101 : decode cX8_takeFrom 101 = .ok (.aload_n 0, 1) := by decide +kernel
theorem dX8_takeFrom_102 : decode cX8_takeFrom 102 = .ok (.getfield 24, 3) := by decide +kernel
theorem dX8_takeFrom_105 : decode cX8_takeFrom 105 = .ok (.iconst 0, 1) := by decide +kernel
theorem dX8_takeFrom_106 : decode cX8_takeFrom 106 = .ok (.iconst 3, 1) := by decide +kernel
theorem dX8_takeFrom_107 : decode cX8_takeFrom 107 = .ok (.invokestatic 74, 3) := by decide +kernel
theorem dX8_takeFrom_110 : decode cX8_takeFrom 110 = .ok (.aload_n 1, 1) := by decide +kernel
theorem dX8_takeFrom_111 : decode cX8_takeFrom 111 = .ok (.getfield 27, 3) := by decide +kernel
theorem dX8_takeFrom_114 : decode cX8_takeFrom 114 = .ok (.iconst 0, 1) := by decide +kernel
theorem dX8_takeFrom_115 : decode cX8_takeFrom 115 = .ok (.aload_n 0, 1) := by decide +kernel
theorem dX8_takeFrom_116 : decode cX8_takeFrom 116 = .ok (.getfield 27, 3) := by decide +kernel
theorem dX8_takeFrom_119 : decode cX8_takeFrom 119 = .ok (.iconst 0, 1) := by decide +kernel
theorem dX8_takeFrom_120 : decode cX8_takeFrom 120 = .ok (.sipush 360, 3) := by decide +kernel
theorem dX8_takeFrom_123 : decode cX8_takeFrom 123 = .ok (.invokestatic 74, 3) := by decide +kernel
theorem dX8_takeFrom_126 : decode cX8_takeFrom 126 = .ok (.aload_n 1, 1) := by decide +kernel
theorem dX8_takeFrom_127 : decode cX8_takeFrom 127 = .ok (.getfield 30, 3) := by decide +kernel
theorem dX8_takeFrom_130 : decode cX8_takeFrom 130 = .ok (.iconst 0, 1) := by decide +kernel
theorem dX8_takeFrom_131 : decode cX8_takeFrom 131 = .ok (.aload_n 0, 1) := by decide +kernel
theorem dX8_takeFrom_132 : decode cX8_takeFrom 132 = .ok (.getfield 30, 3) := by decide +kernel
theorem dX8_takeFrom_135 : decode cX8_takeFrom 135 = .ok (.iconst 0, 1) := by decide +kernel
theorem dX8_takeFrom_136 : decode cX8_takeFrom 136 = .ok (.iconst 3, 1) := by decide +kernel
theorem dX8_takeFrom_137 : decode cX8_takeFrom 137 = .ok (.invokestatic 74, 3) := by decide +kernel
theorem dX8_takeFrom_140 : decode cX8_takeFrom 140 = .ok (.aload_n 1, 1) := by decide +kernel
theorem dX8_takeFrom_141 : decode cX8_takeFrom 141 = .ok (.getfield 33, 3) := by decide +kernel
theorem dX8_takeFrom_144 : decode cX8_takeFrom 144 = .ok (.iconst 0, 1) := by decide +kernel
theorem dX8_takeFrom_145 : decode cX8_takeFrom 145 = .ok (.aload_n 0, 1) := by decide +kernel
theorem dX8_takeFrom_146 : decode cX8_takeFrom 146 = .ok (.getfield 33, 3) := by decide +kernel
theorem dX8_takeFrom_149 : decode cX8_takeFrom 149 = .ok (.iconst 0, 1) := by decide +kernel
theorem dX8_takeFrom_150 : decode cX8_takeFrom 150 = .ok (.bipush 20, 2) := by decide +kernel
theorem dX8_takeFrom_152 : decode cX8_takeFrom 152 = .ok (.invokestatic 74, 3) := by decide +kernel
theorem dX8_takeFrom_155 : decode cX8_takeFrom 155 = .ok (.aload_n 1, 1) := by decide +kernel
theorem dX8_takeFrom_156 : decode cX8_takeFrom 156 = .ok (.getfield 36, 3) := by decide +kernel
theorem dX8_takeFrom_159 : decode cX8_takeFrom 159 = .ok (.iconst 0, 1) := by decide +kernel
theorem dX8_takeFrom_160 : decode cX8_takeFrom 160 = .ok (.aload_n 0, 1) := by decide +kernel
theorem dX8_takeFrom_161 : decode cX8_takeFrom 161 = .ok (.getfield 36, 3) := by decide +kernel
theorem dX8_takeFrom_164 : decode cX8_takeFrom 164 = .ok (.iconst 0, 1) := by decide +kernel
theorem dX8_takeFrom_165 : decode cX8_takeFrom 165 = .ok (.bipush 20, 2) := by decide +kernel
theorem dX8_takeFrom_167 : decode cX8_takeFrom 167 = .ok (.invokestatic 74, 3) := by decide +kernel
theorem dX8_takeFrom_170 : decode cX8_takeFrom 170 = .ok (.aload_n 1, 1) := by decide +kernel
theorem dX8_takeFrom_171 : decode cX8_takeFrom 171 = .ok (.getfield 39, 3) := by decide +kernel
theorem dX8_takeFrom_174 : decode cX8_takeFrom 174 = .ok (.iconst 0, 1) := by decide +kernel
theorem dX8_takeFrom_175 : decode cX8_takeFrom 175 = .ok (.aload_n 0, 1) := by decide +kernel
theorem dX8_takeFrom_176 : decode cX8_takeFrom 176 = .ok (.getfield 39, 3) := by decide +kernel
theorem dX8_takeFrom_179 : decode cX8_takeFrom 179 = .ok (.iconst 0, 1) := by decide +kernel
theorem dX8_takeFrom_180 : decode cX8_takeFrom 180 = .ok (.bipush 64, 2) := by decide +kernel
theorem dX8_takeFrom_182 : decode cX8_takeFrom 182 = .ok (.invokestatic 74, 3) := by decide +kernel
theorem dX8_takeFrom_185 : decode cX8_takeFrom 185 = .ok (.return_, 1) := by decide +kernel
theorem dX8_isPoint_0 : decode cX8_isPoint 0 = .ok (.iload_n 1, 1) := by decide +kernel
theorem dX8_isPoint_1 : decode cX8_isPoint 1 = .ok (.ifCond .lt 27, 3) := by decide +kernel
theorem dX8_isPoint_4 : decode cX8_isPoint 4 = .ok (.iload_n 1, 1) := by decide +kernel
theorem dX8_isPoint_5 : decode cX8_isPoint 5 = .ok (.aload_n 0, 1) := by decide +kernel
theorem dX8_isPoint_6 : decode cX8_isPoint 6 = .ok (.getfield 53, 3) := by decide +kernel
theorem dX8_isPoint_9 : decode cX8_isPoint 9 = .ok (.if_icmp .gt 19, 3) := by decide +kernel
theorem dX8_isPoint_12 : decode cX8_isPoint 12 = .ok (.iload_n 2, 1) := by decide +kernel
theorem dX8_isPoint_13 : decode cX8_isPoint 13 = .ok (.ifCond .lt 15, 3) := by decide +kernel
theorem dX8_isPoint_16 : decode cX8_isPoint 16 = .ok (.iload_n 2, 1) := by decide +kernel
theorem dX8_isPoint_17 : decode cX8_isPoint 17 = .ok (.aload_n 0, 1) := by decide +kernel
theorem dX8_isPoint_18 : decode cX8_isPoint 18 = .ok (.getfield 53, 3) := by decide +kernel
theorem dX8_isPoint_21 : decode cX8_isPoint 21 = .ok (.if_icmp .gt 7, 3) := by decide +kernel
theorem dX8_isPoint_24 : decode cX8_isPoint 24 = .ok (.iconst 1, 1) := by decide +kernel
theorem dX8_isPoint_25 : decode cX8_isPoint 25 = .ok (.goto 4, 3) := by decide +kernel
theorem dX8_isPoint_28 : decode cX8_isPoint 28 = .ok (.iconst 0, 1) := by decide +kernel
theorem dX8_isPoint_29 : decode cX8_isPoint 29 = .ok (.ireturn, 1) := by decide +kernel
theorem dX8_hasPinAt_0 : decode cX8_hasPinAt 0 = .ok (.iconst 0, 1) := by decide +kernel
theorem dX8_hasPinAt_1 : decode cX8_hasPinAt 1 = .ok (.istore_n 3, 1) := by decide +kernel
theorem dX8_hasPinAt_2 : decode cX8_hasPinAt 2 = .ok (.iload_n 3, 1) := by decide +kernel
theorem dX8_hasPinAt_3 : decode cX8_hasPinAt 3 = .ok (.aload_n 0, 1) := by decide +kernel
theorem dX8_hasPinAt_4 : decode cX8_hasPinAt 4 = .ok (.getfield 57, 3) := by decide +kernel
theorem dX8_hasPinAt_7 : decode cX8_hasPinAt 7 = .ok (.if_icmp .ge 31, 3) := by decide +kernel
theorem dX8_hasPinAt_10 : decode cX8_hasPinAt 10 = .ok (.aload_n 0, 1) := by decide +kernel
theorem dX8_hasPinAt_11 : decode cX8_hasPinAt 11 = .ok (.getfield 9, 3) := by decide +kernel
theorem dX8_hasPinAt_14 : decode cX8_hasPinAt 14 = .ok (.iload_n 3, 1) := by decide +kernel
theorem dX8_hasPinAt_15 : decode cX8_hasPinAt 15 = .ok (.iaload, 1) := by decide +kernel
theorem dX8_hasPinAt_16 : decode cX8_hasPinAt 16 = .ok (.iload_n 1, 1) := by decide +kernel
theorem dX8_hasPinAt_17 : decode cX8_hasPinAt 17 = .ok (.if_icmp .ne 15, 3) := by decide +kernel
theorem dX8_hasPinAt_20 : decode cX8_hasPinAt 20 = .ok (.aload_n 0, 1) := by decide +kernel
theorem dX8_hasPinAt_21 : decode cX8_hasPinAt 21 = .ok (.getfield 15, 3) := by decide +kernel
theorem dX8_hasPinAt_24 : decode cX8_hasPinAt 24 = .ok (.iload_n 3, 1) := by decide +kernel
theorem dX8_hasPinAt_25 : decode cX8_hasPinAt 25 = .ok (.iaload, 1) := by decide +kernel
theorem dX8_hasPinAt_26 : decode cX8_hasPinAt 26 = .ok (.iload_n 2, 1) := by decide +kernel
theorem dX8_hasPinAt_27 : decode cX8_hasPinAt 27 = .ok (.if_icmp .ne 5, 3) := by decide +kernel
theorem dX8_hasPinAt_30 : decode cX8_hasPinAt 30 = .ok (.iconst 1, 1) := by decide +kernel
theorem dX8_hasPinAt_31 : decode cX8_hasPinAt 31 = .ok (.ireturn, 1) := by decide +kernel
theorem dX8_hasPinAt_32 : decode cX8_hasPinAt 32 = .ok (.iinc 3 1, 3) := by decide +kernel
theorem dX8_hasPinAt_35 : decode cX8_hasPinAt 35 = .ok (.goto (-33), 3) := by decide +kernel
theorem dX8_hasPinAt_38 : decode cX8_hasPinAt 38 = .ok (.iconst 0, 1) := by decide +kernel
theorem dX8_hasPinAt_39 : decode cX8_hasPinAt 39 = .ok (.ireturn, 1) := by decide +kernel
theorem dX8_squareAt_0 : decode cX8_squareAt 0 = .ok (.iload_n 1, 1) := by decide +kernel
theorem dX8_squareAt_1 : decode cX8_squareAt 1 = .ok (.ifCond .lt 32, 3) := by decide +kernel
theorem dX8_squareAt_4 : decode cX8_squareAt 4 = .ok (.iload_n 1, 1) := by decide +kernel
theorem dX8_squareAt_5 : decode cX8_squareAt 5 = .ok (.aload_n 0, 1) := by decide +kernel
theorem dX8_squareAt_6 : decode cX8_squareAt 6 = .ok (.getfield 53, 3) := by decide +kernel
theorem dX8_squareAt_9 : decode cX8_squareAt 9 = .ok (.if_icmp .ge 24, 3) := by decide +kernel
theorem dX8_squareAt_12 : decode cX8_squareAt 12 = .ok (.iload_n 2, 1) := by decide +kernel
theorem dX8_squareAt_13 : decode cX8_squareAt 13 = .ok (.ifCond .lt 20, 3) := by decide +kernel
theorem dX8_squareAt_16 : decode cX8_squareAt 16 = .ok (.iload_n 2, 1) := by decide +kernel
theorem dX8_squareAt_17 : decode cX8_squareAt 17 = .ok (.aload_n 0, 1) := by decide +kernel
theorem dX8_squareAt_18 : decode cX8_squareAt 18 = .ok (.getfield 53, 3) := by decide +kernel
theorem dX8_squareAt_21 : decode cX8_squareAt 21 = .ok (.if_icmp .ge 12, 3) := by decide +kernel
theorem dX8_squareAt_24 : decode cX8_squareAt 24 = .ok (.iload_n 1, 1) := by decide +kernel
theorem dX8_squareAt_25 : decode cX8_squareAt 25 = .ok (.bipush 8, 2) := by decide +kernel
theorem dX8_squareAt_27 : decode cX8_squareAt 27 = .ok (.iload_n 2, 1) := by decide +kernel
theorem dX8_squareAt_28 : decode cX8_squareAt 28 = .ok (.imul, 1) := by decide +kernel
theorem dX8_squareAt_29 : decode cX8_squareAt 29 = .ok (.iadd, 1) := by decide +kernel
theorem dX8_squareAt_30 : decode cX8_squareAt 30 = .ok (.goto 4, 3) := by decide +kernel
theorem dX8_squareAt_33 : decode cX8_squareAt 33 = .ok (.iconst (-1), 1) := by decide +kernel
theorem dX8_squareAt_34 : decode cX8_squareAt 34 = .ok (.ireturn, 1) := by decide +kernel
theorem dX8_isPin_0 : decode cX8_isPin 0 = .ok (.iload_n 1, 1) := by decide +kernel
theorem dX8_isPin_1 : decode cX8_isPin 1 = .ok (.ifCond .lt 15, 3) := by decide +kernel
theorem dX8_isPin_4 : decode cX8_isPin 4 = .ok (.iload_n 1, 1) := by decide +kernel
theorem dX8_isPin_5 : decode cX8_isPin 5 = .ok (.aload_n 0, 1) := by decide +kernel
theorem dX8_isPin_6 : decode cX8_isPin 6 = .ok (.getfield 57, 3) := by decide +kernel
theorem dX8_isPin_9 : decode cX8_isPin 9 = .ok (.if_icmp .ge 7, 3) := by decide +kernel
theorem dX8_isPin_12 : decode cX8_isPin 12 = .ok (.iconst 1, 1) := by decide +kernel
theorem dX8_isPin_13 : decode cX8_isPin 13 = .ok (.goto 4, 3) := by decide +kernel
theorem dX8_isPin_16 : decode cX8_isPin 16 = .ok (.iconst 0, 1) := by decide +kernel
theorem dX8_isPin_17 : decode cX8_isPin 17 = .ok (.ireturn, 1) := by decide +kernel
theorem dX8_isLine_0 : decode cX8_isLine 0 = .ok (.aload_n 0, 1) := by decide +kernel
theorem dX8_isLine_1 : decode cX8_isLine 1 = .ok (.iload_n 1, 1) := by decide +kernel
theorem dX8_isLine_2 : decode cX8_isLine 2 = .ok (.invokevirtual 80, 3) := by decide +kernel
theorem dX8_isLine_5 : decode cX8_isLine 5 = .ok (.ifCond .eq 20, 3) := by decide +kernel
theorem dX8_isLine_8 : decode cX8_isLine 8 = .ok (.aload_n 0, 1) := by decide +kernel
theorem dX8_isLine_9 : decode cX8_isLine 9 = .ok (.iload_n 2, 1) := by decide +kernel
theorem dX8_isLine_10 : decode cX8_isLine 10 = .ok (.invokevirtual 80, 3) := by decide +kernel
theorem dX8_isLine_13 : decode cX8_isLine 13 = .ok (.ifCond .eq 12, 3) := by decide +kernel
theorem dX8_isLine_16 : decode cX8_isLine 16 = .ok (.iload_n 1, 1) := by decide +kernel
theorem dX8_isLine_17 : decode cX8_isLine 17 = .ok (.iload_n 2, 1) := by decide +kernel
theorem dX8_isLine_18 : decode cX8_isLine 18 = .ok (.if_icmp .eq 7, 3) := by decide +kernel
theorem dX8_isLine_21 : decode cX8_isLine 21 = .ok (.iconst 1, 1) := by decide +kernel
theorem dX8_isLine_22 : decode cX8_isLine 22 = .ok (.goto 4, 3) := by decide +kernel
theorem dX8_isLine_25 : decode cX8_isLine 25 = .ok (.iconst 0, 1) := by decide +kernel
theorem dX8_isLine_26 : decode cX8_isLine 26 = .ok (.ireturn, 1) := by decide +kernel
theorem dX8_hasInSet_0 : decode cX8_hasInSet 0 = .ok (.iconst 0, 1) := by decide +kernel
theorem dX8_hasInSet_1 : decode cX8_hasInSet 1 = .ok (.istore_n 3, 1) := by decide +kernel
theorem dX8_hasInSet_2 : decode cX8_hasInSet 2 = .ok (.iload_n 3, 1) := by decide +kernel
theorem dX8_hasInSet_3 : decode cX8_hasInSet 3 = .ok (.aload_n 0, 1) := by decide +kernel
theorem dX8_hasInSet_4 : decode cX8_hasInSet 4 = .ok (.getfield 60, 3) := by decide +kernel
theorem dX8_hasInSet_7 : decode cX8_hasInSet 7 = .ok (.if_icmp .ge 51, 3) := by decide +kernel
theorem dX8_hasInSet_10 : decode cX8_hasInSet 10 = .ok (.aload_n 0, 1) := by decide +kernel
theorem dX8_hasInSet_11 : decode cX8_hasInSet 11 = .ok (.getfield 33, 3) := by decide +kernel
theorem dX8_hasInSet_14 : decode cX8_hasInSet 14 = .ok (.iload_n 3, 1) := by decide +kernel
theorem dX8_hasInSet_15 : decode cX8_hasInSet 15 = .ok (.iaload, 1) := by decide +kernel
theorem dX8_hasInSet_16 : decode cX8_hasInSet 16 = .ok (.iload_n 1, 1) := by decide +kernel
theorem dX8_hasInSet_17 : decode cX8_hasInSet 17 = .ok (.if_icmp .ne 13, 3) := by decide +kernel
theorem dX8_hasInSet_20 : decode cX8_hasInSet 20 = .ok (.aload_n 0, 1) := by decide +kernel
theorem dX8_hasInSet_21 : decode cX8_hasInSet 21 = .ok (.getfield 36, 3) := by decide +kernel
theorem dX8_hasInSet_24 : decode cX8_hasInSet 24 = .ok (.iload_n 3, 1) := by decide +kernel
theorem dX8_hasInSet_25 : decode cX8_hasInSet 25 = .ok (.iaload, 1) := by decide +kernel
theorem dX8_hasInSet_26 : decode cX8_hasInSet 26 = .ok (.iload_n 2, 1) := by decide +kernel
theorem dX8_hasInSet_27 : decode cX8_hasInSet 27 = .ok (.if_icmp .eq 23, 3) := by decide +kernel
theorem dX8_hasInSet_30 : decode cX8_hasInSet 30 = .ok (.aload_n 0, 1) := by decide +kernel
theorem dX8_hasInSet_31 : decode cX8_hasInSet 31 = .ok (.getfield 33, 3) := by decide +kernel
theorem dX8_hasInSet_34 : decode cX8_hasInSet 34 = .ok (.iload_n 3, 1) := by decide +kernel
theorem dX8_hasInSet_35 : decode cX8_hasInSet 35 = .ok (.iaload, 1) := by decide +kernel
theorem dX8_hasInSet_36 : decode cX8_hasInSet 36 = .ok (.iload_n 2, 1) := by decide +kernel
theorem dX8_hasInSet_37 : decode cX8_hasInSet 37 = .ok (.if_icmp .ne 15, 3) := by decide +kernel
theorem dX8_hasInSet_40 : decode cX8_hasInSet 40 = .ok (.aload_n 0, 1) := by decide +kernel
theorem dX8_hasInSet_41 : decode cX8_hasInSet 41 = .ok (.getfield 36, 3) := by decide +kernel
theorem dX8_hasInSet_44 : decode cX8_hasInSet 44 = .ok (.iload_n 3, 1) := by decide +kernel
theorem dX8_hasInSet_45 : decode cX8_hasInSet 45 = .ok (.iaload, 1) := by decide +kernel
theorem dX8_hasInSet_46 : decode cX8_hasInSet 46 = .ok (.iload_n 1, 1) := by decide +kernel
theorem dX8_hasInSet_47 : decode cX8_hasInSet 47 = .ok (.if_icmp .ne 5, 3) := by decide +kernel
theorem dX8_hasInSet_50 : decode cX8_hasInSet 50 = .ok (.iconst 1, 1) := by decide +kernel
theorem dX8_hasInSet_51 : decode cX8_hasInSet 51 = .ok (.ireturn, 1) := by decide +kernel
theorem dX8_hasInSet_52 : decode cX8_hasInSet 52 = .ok (.iinc 3 1, 3) := by decide +kernel
theorem dX8_hasInSet_55 : decode cX8_hasInSet 55 = .ok (.goto (-53), 3) := by decide +kernel
theorem dX8_hasInSet_58 : decode cX8_hasInSet 58 = .ok (.iconst 0, 1) := by decide +kernel
theorem dX8_hasInSet_59 : decode cX8_hasInSet 59 = .ok (.ireturn, 1) := by decide +kernel
theorem dX8_isFull_0 : decode cX8_isFull 0 = .ok (.aload_n 0, 1) := by decide +kernel
theorem dX8_isFull_1 : decode cX8_isFull 1 = .ok (.getfield 30, 3) := by decide +kernel
theorem dX8_isFull_4 : decode cX8_isFull 4 = .ok (.iload_n 1, 1) := by decide +kernel
theorem dX8_isFull_5 : decode cX8_isFull 5 = .ok (.iaload, 1) := by decide +kernel
theorem dX8_isFull_6 : decode cX8_isFull 6 = .ok (.bipush 120, 2) := by decide +kernel
theorem dX8_isFull_8 : decode cX8_isFull 8 = .ok (.if_icmp .lt 7, 3) := by decide +kernel
theorem dX8_isFull_11 : decode cX8_isFull 11 = .ok (.iconst 1, 1) := by decide +kernel
theorem dX8_isFull_12 : decode cX8_isFull 12 = .ok (.goto 4, 3) := by decide +kernel
theorem dX8_isFull_15 : decode cX8_isFull 15 = .ok (.iconst 0, 1) := by decide +kernel
theorem dX8_isFull_16 : decode cX8_isFull 16 = .ok (.ireturn, 1) := by decide +kernel
theorem dX8_pinFromEnd_0 : decode cX8_pinFromEnd 0 = .ok (.aload_n 0, 1) := by decide +kernel
theorem dX8_pinFromEnd_1 : decode cX8_pinFromEnd 1 = .ok (.getfield 30, 3) := by decide +kernel
theorem dX8_pinFromEnd_4 : decode cX8_pinFromEnd 4 = .ok (.iload_n 1, 1) := by decide +kernel
theorem dX8_pinFromEnd_5 : decode cX8_pinFromEnd 5 = .ok (.iaload, 1) := by decide +kernel
theorem dX8_pinFromEnd_6 : decode cX8_pinFromEnd 6 = .ok (.iload_n 2, 1) := by decide +kernel
theorem dX8_pinFromEnd_7 : decode cX8_pinFromEnd 7 = .ok (.isub, 1) := by decide +kernel
theorem dX8_pinFromEnd_8 : decode cX8_pinFromEnd 8 = .ok (.istore_n 3, 1) := by decide +kernel
theorem dX8_pinFromEnd_9 : decode cX8_pinFromEnd 9 = .ok (.iload_n 3, 1) := by decide +kernel
theorem dX8_pinFromEnd_10 : decode cX8_pinFromEnd 10 = .ok (.ifCond .lt 17, 3) := by decide +kernel
theorem dX8_pinFromEnd_13 : decode cX8_pinFromEnd 13 = .ok (.aload_n 0, 1) := by decide +kernel
theorem dX8_pinFromEnd_14 : decode cX8_pinFromEnd 14 = .ok (.getfield 27, 3) := by decide +kernel
theorem dX8_pinFromEnd_17 : decode cX8_pinFromEnd 17 = .ok (.iload_n 1, 1) := by decide +kernel
theorem dX8_pinFromEnd_18 : decode cX8_pinFromEnd 18 = .ok (.bipush 120, 2) := by decide +kernel
theorem dX8_pinFromEnd_20 : decode cX8_pinFromEnd 20 = .ok (.imul, 1) := by decide +kernel
theorem dX8_pinFromEnd_21 : decode cX8_pinFromEnd 21 = .ok (.iload_n 3, 1) := by decide +kernel
theorem dX8_pinFromEnd_22 : decode cX8_pinFromEnd 22 = .ok (.iadd, 1) := by decide +kernel
theorem dX8_pinFromEnd_23 : decode cX8_pinFromEnd 23 = .ok (.iaload, 1) := by decide +kernel
theorem dX8_pinFromEnd_24 : decode cX8_pinFromEnd 24 = .ok (.goto 4, 3) := by decide +kernel
theorem dX8_pinFromEnd_27 : decode cX8_pinFromEnd 27 = .ok (.iconst (-1), 1) := by decide +kernel
theorem dX8_pinFromEnd_28 : decode cX8_pinFromEnd 28 = .ok (.ireturn, 1) := by decide +kernel
theorem dX8_lastPin_0 : decode cX8_lastPin 0 = .ok (.aload_n 0, 1) := by decide +kernel
theorem dX8_lastPin_1 : decode cX8_lastPin 1 = .ok (.iload_n 1, 1) := by decide +kernel
theorem dX8_lastPin_2 : decode cX8_lastPin 2 = .ok (.iconst 1, 1) := by decide +kernel
theorem dX8_lastPin_3 : decode cX8_lastPin 3 = .ok (.invokevirtual 84, 3) := by decide +kernel
theorem dX8_lastPin_6 : decode cX8_lastPin 6 = .ok (.ireturn, 1) := by decide +kernel
theorem dX8_lengthOf_0 : decode cX8_lengthOf 0 = .ok (.aload_n 0, 1) := by decide +kernel
theorem dX8_lengthOf_1 : decode cX8_lengthOf 1 = .ok (.getfield 9, 3) := by decide +kernel
theorem dX8_lengthOf_4 : decode cX8_lengthOf 4 = .ok (.iload_n 1, 1) := by decide +kernel
theorem dX8_lengthOf_5 : decode cX8_lengthOf 5 = .ok (.iaload, 1) := by decide +kernel
theorem dX8_lengthOf_6 : decode cX8_lengthOf 6 = .ok (.aload_n 0, 1) := by decide +kernel
theorem dX8_lengthOf_7 : decode cX8_lengthOf 7 = .ok (.getfield 9, 3) := by decide +kernel
theorem dX8_lengthOf_10 : decode cX8_lengthOf 10 = .ok (.iload_n 2, 1) := by decide +kernel
theorem dX8_lengthOf_11 : decode cX8_lengthOf 11 = .ok (.iaload, 1) := by decide +kernel
theorem dX8_lengthOf_12 : decode cX8_lengthOf 12 = .ok (.isub, 1) := by decide +kernel
theorem dX8_lengthOf_13 : decode cX8_lengthOf 13 = .ok (.invokestatic 88, 3) := by decide +kernel
theorem dX8_lengthOf_16 : decode cX8_lengthOf 16 = .ok (.aload_n 0, 1) := by decide +kernel
theorem dX8_lengthOf_17 : decode cX8_lengthOf 17 = .ok (.getfield 15, 3) := by decide +kernel
theorem dX8_lengthOf_20 : decode cX8_lengthOf 20 = .ok (.iload_n 1, 1) := by decide +kernel
theorem dX8_lengthOf_21 : decode cX8_lengthOf 21 = .ok (.iaload, 1) := by decide +kernel
theorem dX8_lengthOf_22 : decode cX8_lengthOf 22 = .ok (.aload_n 0, 1) := by decide +kernel
theorem dX8_lengthOf_23 : decode cX8_lengthOf 23 = .ok (.getfield 15, 3) := by decide +kernel
theorem dX8_lengthOf_26 : decode cX8_lengthOf 26 = .ok (.iload_n 2, 1) := by decide +kernel
theorem dX8_lengthOf_27 : decode cX8_lengthOf 27 = .ok (.iaload, 1) := by decide +kernel
theorem dX8_lengthOf_28 : decode cX8_lengthOf 28 = .ok (.isub, 1) := by decide +kernel
theorem dX8_lengthOf_29 : decode cX8_lengthOf 29 = .ok (.invokestatic 88, 3) := by decide +kernel
theorem dX8_lengthOf_32 : decode cX8_lengthOf 32 = .ok (.invokestatic 94, 3) := by decide +kernel
theorem dX8_lengthOf_35 : decode cX8_lengthOf 35 = .ok (.ireturn, 1) := by decide +kernel
theorem dX8_lengthOfAll_0 : decode cX8_lengthOfAll 0 = .ok (.iconst 0, 1) := by decide +kernel
theorem dX8_lengthOfAll_1 : decode cX8_lengthOfAll 1 = .ok (.istore_n 1, 1) := by decide +kernel
theorem dX8_lengthOfAll_2 : decode cX8_lengthOfAll 2 = .ok (.iconst 0, 1) := by decide +kernel
theorem dX8_lengthOfAll_3 : decode cX8_lengthOfAll 3 = .ok (.istore_n 2, 1) := by decide +kernel
theorem dX8_lengthOfAll_4 : decode cX8_lengthOfAll 4 = .ok (.iload_n 2, 1) := by decide +kernel
theorem dX8_lengthOfAll_5 : decode cX8_lengthOfAll 5 = .ok (.iconst 3, 1) := by decide +kernel
theorem dX8_lengthOfAll_6 : decode cX8_lengthOfAll 6 = .ok (.if_icmp .ge 61, 3) := by decide +kernel
theorem dX8_lengthOfAll_9 : decode cX8_lengthOfAll 9 = .ok (.iload_n 2, 1) := by decide +kernel
theorem dX8_lengthOfAll_10 : decode cX8_lengthOfAll 10 = .ok (.bipush 120, 2) := by decide +kernel
theorem dX8_lengthOfAll_12 : decode cX8_lengthOfAll 12 = .ok (.imul, 1) := by decide +kernel
theorem dX8_lengthOfAll_13 : decode cX8_lengthOfAll 13 = .ok (.istore_n 3, 1) := by decide +kernel
theorem dX8_lengthOfAll_14 : decode cX8_lengthOfAll 14 = .ok (.iconst 1, 1) := by decide +kernel
theorem dX8_lengthOfAll_15 : decode cX8_lengthOfAll 15 = .ok (.istore 4, 2) := by decide +kernel
theorem dX8_lengthOfAll_17 : decode cX8_lengthOfAll 17 = .ok (.iload 4, 2) := by decide +kernel
theorem dX8_lengthOfAll_19 : decode cX8_lengthOfAll 19 = .ok (.aload_n 0, 1) := by decide +kernel
theorem dX8_lengthOfAll_20 : decode cX8_lengthOfAll 20 = .ok (.getfield 30, 3) := by decide +kernel
theorem dX8_lengthOfAll_23 : decode cX8_lengthOfAll 23 = .ok (.iload_n 2, 1) := by decide +kernel
theorem dX8_lengthOfAll_24 : decode cX8_lengthOfAll 24 = .ok (.iaload, 1) := by decide +kernel
theorem dX8_lengthOfAll_25 : decode cX8_lengthOfAll 25 = .ok (.if_icmp .ge 36, 3) := by decide +kernel
theorem dX8_lengthOfAll_28 : decode cX8_lengthOfAll 28 = .ok (.iload_n 1, 1) := by decide +kernel
theorem dX8_lengthOfAll_29 : decode cX8_lengthOfAll 29 = .ok (.aload_n 0, 1) := by decide +kernel
theorem dX8_lengthOfAll_30 : decode cX8_lengthOfAll 30 = .ok (.aload_n 0, 1) := by decide +kernel
theorem dX8_lengthOfAll_31 : decode cX8_lengthOfAll 31 = .ok (.getfield 27, 3) := by decide +kernel
theorem dX8_lengthOfAll_34 : decode cX8_lengthOfAll 34 = .ok (.iload_n 3, 1) := by decide +kernel
theorem dX8_lengthOfAll_35 : decode cX8_lengthOfAll 35 = .ok (.iload 4, 2) := by decide +kernel
theorem dX8_lengthOfAll_37 : decode cX8_lengthOfAll 37 = .ok (.iadd, 1) := by decide +kernel
theorem dX8_lengthOfAll_38 : decode cX8_lengthOfAll 38 = .ok (.iconst 1, 1) := by decide +kernel
theorem dX8_lengthOfAll_39 : decode cX8_lengthOfAll 39 = .ok (.isub, 1) := by decide +kernel
theorem dX8_lengthOfAll_40 : decode cX8_lengthOfAll 40 = .ok (.iaload, 1) := by decide +kernel
theorem dX8_lengthOfAll_41 : decode cX8_lengthOfAll 41 = .ok (.aload_n 0, 1) := by decide +kernel
theorem dX8_lengthOfAll_42 : decode cX8_lengthOfAll 42 = .ok (.getfield 27, 3) := by decide +kernel
theorem dX8_lengthOfAll_45 : decode cX8_lengthOfAll 45 = .ok (.iload_n 3, 1) := by decide +kernel
theorem dX8_lengthOfAll_46 : decode cX8_lengthOfAll 46 = .ok (.iload 4, 2) := by decide +kernel
theorem dX8_lengthOfAll_48 : decode cX8_lengthOfAll 48 = .ok (.iadd, 1) := by decide +kernel
theorem dX8_lengthOfAll_49 : decode cX8_lengthOfAll 49 = .ok (.iaload, 1) := by decide +kernel
theorem dX8_lengthOfAll_50 : decode cX8_lengthOfAll 50 = .ok (.invokevirtual 97, 3) := by decide +kernel
theorem dX8_lengthOfAll_53 : decode cX8_lengthOfAll 53 = .ok (.iadd, 1) := by decide +kernel
theorem dX8_lengthOfAll_54 : decode cX8_lengthOfAll 54 = .ok (.istore_n 1, 1) := by decide +kernel
theorem dX8_lengthOfAll_55 : decode cX8_lengthOfAll 55 = .ok (.iinc 4 1, 3) := by decide +kernel
theorem dX8_lengthOfAll_58 : decode cX8_lengthOfAll 58 = .ok (.goto (-41), 3) := by decide +kernel
theorem dX8_lengthOfAll_61 : decode cX8_lengthOfAll 61 = .ok (.iinc 2 1, 3) := by decide +kernel
theorem dX8_lengthOfAll_64 : decode cX8_lengthOfAll 64 = .ok (.goto (-60), 3) := by decide +kernel
theorem dX8_lengthOfAll_67 : decode cX8_lengthOfAll 67 = .ok (.iload_n 1, 1) := by decide +kernel
theorem dX8_lengthOfAll_68 : decode cX8_lengthOfAll 68 = .ok (.ireturn, 1) := by decide +kernel
theorem dJ11_isValidCodePoint_9a6ad_0 : decode cJ11_isValidCodePoint_9a6ad 0 = .ok (.iload_n 0, 1) := by decide +kernel
theorem dJ11_isValidCodePoint_9a6ad_1 : decode cJ11_isValidCodePoint_9a6ad 1 = .ok (.bipush 16, 2) := by decide +kernel
theorem dJ11_isValidCodePoint_9a6ad_3 : decode cJ11_isValidCodePoint_9a6ad 3 = .ok (.iushr, 1) := by decide +kernel
theorem dJ11_isValidCodePoint_9a6ad_4 : decode cJ11_isValidCodePoint_9a6ad 4 = .ok (.istore_n 1, 1) := by decide +kernel
theorem dJ11_isValidCodePoint_9a6ad_5 : decode cJ11_isValidCodePoint_9a6ad 5 = .ok (.iload_n 1, 1) := by decide +kernel
theorem dJ11_isValidCodePoint_9a6ad_6 : decode cJ11_isValidCodePoint_9a6ad 6 = .ok (.bipush 17, 2) := by decide +kernel
theorem dJ11_isValidCodePoint_9a6ad_8 : decode cJ11_isValidCodePoint_9a6ad 8 = .ok (.if_icmp .ge 7, 3) := by decide +kernel
theorem dJ11_isValidCodePoint_9a6ad_11 : decode cJ11_isValidCodePoint_9a6ad 11 = .ok (.iconst 1, 1) := by decide +kernel
theorem dJ11_isValidCodePoint_9a6ad_12 : decode cJ11_isValidCodePoint_9a6ad 12 = .ok (.goto 4, 3) := by decide +kernel
theorem dJ11_isValidCodePoint_9a6ad_15 : decode cJ11_isValidCodePoint_9a6ad 15 = .ok (.iconst 0, 1) := by decide +kernel
theorem dJ11_isValidCodePoint_9a6ad_16 : decode cJ11_isValidCodePoint_9a6ad 16 = .ok (.ireturn, 1) := by decide +kernel
theorem dJ11_highSurrogate_5068e_0 : decode cJ11_highSurrogate_5068e 0 = .ok (.iload_n 0, 1) := by decide +kernel
theorem dJ11_highSurrogate_5068e_1 : decode cJ11_highSurrogate_5068e 1 = .ok (.bipush 10, 2) := by decide +kernel
theorem dJ11_highSurrogate_5068e_3 : decode cJ11_highSurrogate_5068e 3 = .ok (.iushr, 1) := by decide +kernel
theorem dJ11_highSurrogate_5068e_4 : decode cJ11_highSurrogate_5068e 4 = .ok (.ldc 110, 2) := by decide +kernel
theorem dJ11_highSurrogate_5068e_6 : decode cJ11_highSurrogate_5068e 6 = .ok (.iadd, 1) := by decide +kernel
theorem dJ11_highSurrogate_5068e_7 : decode cJ11_highSurrogate_5068e 7 = .ok (.i2c, 1) := by decide +kernel
theorem dJ11_highSurrogate_5068e_8 : decode cJ11_highSurrogate_5068e 8 = .ok (.ireturn, 1) := by decide +kernel
theorem dJ11_lowSurrogate_5068e_0 : decode cJ11_lowSurrogate_5068e 0 = .ok (.iload_n 0, 1) := by decide +kernel
theorem dJ11_lowSurrogate_5068e_1 : decode cJ11_lowSurrogate_5068e 1 = .ok (.sipush 1023, 3) := by decide +kernel
theorem dJ11_lowSurrogate_5068e_4 : decode cJ11_lowSurrogate_5068e 4 = .ok (.iand, 1) := by decide +kernel
theorem dJ11_lowSurrogate_5068e_5 : decode cJ11_lowSurrogate_5068e 5 = .ok (.ldc 76, 2) := by decide +kernel
theorem dJ11_lowSurrogate_5068e_7 : decode cJ11_lowSurrogate_5068e 7 = .ok (.iadd, 1) := by decide +kernel
theorem dJ11_lowSurrogate_5068e_8 : decode cJ11_lowSurrogate_5068e 8 = .ok (.i2c, 1) := by decide +kernel
theorem dJ11_lowSurrogate_5068e_9 : decode cJ11_lowSurrogate_5068e 9 = .ok (.ireturn, 1) := by decide +kernel
theorem dJ6_bitCount_0f7a4_0 : decode cJ6_bitCount_0f7a4 0 = .ok (.iload_n 0, 1) := by decide +kernel
theorem dJ6_bitCount_0f7a4_1 : decode cJ6_bitCount_0f7a4 1 = .ok (.iload_n 0, 1) := by decide +kernel
theorem dJ6_bitCount_0f7a4_2 : decode cJ6_bitCount_0f7a4 2 = .ok (.iconst 1, 1) := by decide +kernel
theorem dJ6_bitCount_0f7a4_3 : decode cJ6_bitCount_0f7a4 3 = .ok (.iushr, 1) := by decide +kernel
theorem dJ6_bitCount_0f7a4_4 : decode cJ6_bitCount_0f7a4 4 = .ok (.ldc_w 265, 3) := by decide +kernel
theorem dJ6_bitCount_0f7a4_7 : decode cJ6_bitCount_0f7a4 7 = .ok (.iand, 1) := by decide +kernel
theorem dJ6_bitCount_0f7a4_8 : decode cJ6_bitCount_0f7a4 8 = .ok (.isub, 1) := by decide +kernel
theorem dJ6_bitCount_0f7a4_9 : decode cJ6_bitCount_0f7a4 9 = .ok (.istore_n 0, 1) := by decide +kernel
theorem dJ6_bitCount_0f7a4_10 : decode cJ6_bitCount_0f7a4 10 = .ok (.iload_n 0, 1) := by decide +kernel
theorem dJ6_bitCount_0f7a4_11 : decode cJ6_bitCount_0f7a4 11 = .ok (.ldc_w 266, 3) := by decide +kernel
theorem dJ6_bitCount_0f7a4_14 : decode cJ6_bitCount_0f7a4 14 = .ok (.iand, 1) := by decide +kernel
theorem dJ6_bitCount_0f7a4_15 : decode cJ6_bitCount_0f7a4 15 = .ok (.iload_n 0, 1) := by decide +kernel
theorem dJ6_bitCount_0f7a4_16 : decode cJ6_bitCount_0f7a4 16 = .ok (.iconst 2, 1) := by decide +kernel
theorem dJ6_bitCount_0f7a4_17 : decode cJ6_bitCount_0f7a4 17 = .ok (.iushr, 1) := by decide +kernel
theorem dJ6_bitCount_0f7a4_18 : decode cJ6_bitCount_0f7a4 18 = .ok (.ldc_w 266, 3) := by decide +kernel
theorem dJ6_bitCount_0f7a4_21 : decode cJ6_bitCount_0f7a4 21 = .ok (.iand, 1) := by decide +kernel
theorem dJ6_bitCount_0f7a4_22 : decode cJ6_bitCount_0f7a4 22 = .ok (.iadd, 1) := by decide +kernel
theorem dJ6_bitCount_0f7a4_23 : decode cJ6_bitCount_0f7a4 23 = .ok (.istore_n 0, 1) := by decide +kernel
theorem dJ6_bitCount_0f7a4_24 : decode cJ6_bitCount_0f7a4 24 = .ok (.iload_n 0, 1) := by decide +kernel
theorem dJ6_bitCount_0f7a4_25 : decode cJ6_bitCount_0f7a4 25 = .ok (.iload_n 0, 1) := by decide +kernel
theorem dJ6_bitCount_0f7a4_26 : decode cJ6_bitCount_0f7a4 26 = .ok (.iconst 4, 1) := by decide +kernel
theorem dJ6_bitCount_0f7a4_27 : decode cJ6_bitCount_0f7a4 27 = .ok (.iushr, 1) := by decide +kernel
theorem dJ6_bitCount_0f7a4_28 : decode cJ6_bitCount_0f7a4 28 = .ok (.iadd, 1) := by decide +kernel
theorem dJ6_bitCount_0f7a4_29 : decode cJ6_bitCount_0f7a4 29 = .ok (.ldc_w 267, 3) := by decide +kernel
theorem dJ6_bitCount_0f7a4_32 : decode cJ6_bitCount_0f7a4 32 = .ok (.iand, 1) := by decide +kernel
theorem dJ6_bitCount_0f7a4_33 : decode cJ6_bitCount_0f7a4 33 = .ok (.istore_n 0, 1) := by decide +kernel
theorem dJ6_bitCount_0f7a4_34 : decode cJ6_bitCount_0f7a4 34 = .ok (.iload_n 0, 1) := by decide +kernel
theorem dJ6_bitCount_0f7a4_35 : decode cJ6_bitCount_0f7a4 35 = .ok (.iload_n 0, 1) := by decide +kernel
theorem dJ6_bitCount_0f7a4_36 : decode cJ6_bitCount_0f7a4 36 = .ok (.bipush 8, 2) := by decide +kernel
theorem dJ6_bitCount_0f7a4_38 : decode cJ6_bitCount_0f7a4 38 = .ok (.iushr, 1) := by decide +kernel
theorem dJ6_bitCount_0f7a4_39 : decode cJ6_bitCount_0f7a4 39 = .ok (.iadd, 1) := by decide +kernel
theorem dJ6_bitCount_0f7a4_40 : decode cJ6_bitCount_0f7a4 40 = .ok (.istore_n 0, 1) := by decide +kernel
theorem dJ6_bitCount_0f7a4_41 : decode cJ6_bitCount_0f7a4 41 = .ok (.iload_n 0, 1) := by decide +kernel
theorem dJ6_bitCount_0f7a4_42 : decode cJ6_bitCount_0f7a4 42 = .ok (.iload_n 0, 1) := by decide +kernel
theorem dJ6_bitCount_0f7a4_43 : decode cJ6_bitCount_0f7a4 43 = .ok (.bipush 16, 2) := by decide +kernel
theorem dJ6_bitCount_0f7a4_45 : decode cJ6_bitCount_0f7a4 45 = .ok (.iushr, 1) := by decide +kernel
theorem dJ6_bitCount_0f7a4_46 : decode cJ6_bitCount_0f7a4 46 = .ok (.iadd, 1) := by decide +kernel
theorem dJ6_bitCount_0f7a4_47 : decode cJ6_bitCount_0f7a4 47 = .ok (.istore_n 0, 1) := by decide +kernel
theorem dJ6_bitCount_0f7a4_48 : decode cJ6_bitCount_0f7a4 48 = .ok (.iload_n 0, 1) := by decide +kernel
theorem dJ6_bitCount_0f7a4_49 : decode cJ6_bitCount_0f7a4 49 = .ok (.bipush 63, 2) := by decide +kernel
theorem dJ6_bitCount_0f7a4_51 : decode cJ6_bitCount_0f7a4 51 = .ok (.iand, 1) := by decide +kernel
theorem dJ6_bitCount_0f7a4_52 : decode cJ6_bitCount_0f7a4 52 = .ok (.ireturn, 1) := by decide +kernel
theorem dJ9_floorDiv_7cf53_0 : decode cJ9_floorDiv_7cf53 0 = .ok (.iload_n 0, 1) := by decide +kernel
theorem dJ9_floorDiv_7cf53_1 : decode cJ9_floorDiv_7cf53 1 = .ok (.iload_n 1, 1) := by decide +kernel
theorem dJ9_floorDiv_7cf53_2 : decode cJ9_floorDiv_7cf53 2 = .ok (.idiv, 1) := by decide +kernel
theorem dJ9_floorDiv_7cf53_3 : decode cJ9_floorDiv_7cf53 3 = .ok (.istore_n 2, 1) := by decide +kernel
theorem dJ9_floorDiv_7cf53_4 : decode cJ9_floorDiv_7cf53 4 = .ok (.iload_n 0, 1) := by decide +kernel
theorem dJ9_floorDiv_7cf53_5 : decode cJ9_floorDiv_7cf53 5 = .ok (.iload_n 1, 1) := by decide +kernel
theorem dJ9_floorDiv_7cf53_6 : decode cJ9_floorDiv_7cf53 6 = .ok (.ixor, 1) := by decide +kernel
theorem dJ9_floorDiv_7cf53_7 : decode cJ9_floorDiv_7cf53 7 = .ok (.ifCond .ge 14, 3) := by decide +kernel
theorem dJ9_floorDiv_7cf53_10 : decode cJ9_floorDiv_7cf53 10 = .ok (.iload_n 2, 1) := by decide +kernel
theorem dJ9_floorDiv_7cf53_11 : decode cJ9_floorDiv_7cf53 11 = .ok (.iload_n 1, 1) := by decide +kernel
theorem dJ9_floorDiv_7cf53_12 : decode cJ9_floorDiv_7cf53 12 = .ok (.imul, 1) := by decide +kernel
theorem dJ9_floorDiv_7cf53_13 : decode cJ9_floorDiv_7cf53 13 = .ok (.iload_n 0, 1) := by decide +kernel
theorem dJ9_floorDiv_7cf53_14 : decode cJ9_floorDiv_7cf53 14 = .ok (.if_icmp .eq 7, 3) := by decide +kernel
theorem dJ9_floorDiv_7cf53_17 : decode cJ9_floorDiv_7cf53 17 = .ok (.iload_n 2, 1) := by decide +kernel
theorem dJ9_floorDiv_7cf53_18 : decode cJ9_floorDiv_7cf53 18 = .ok (.iconst 1, 1) := by decide +kernel
theorem dJ9_floorDiv_7cf53_19 : decode cJ9_floorDiv_7cf53 19 = .ok (.isub, 1) := by decide +kernel
theorem dJ9_floorDiv_7cf53_20 : decode cJ9_floorDiv_7cf53 20 = .ok (.ireturn, 1) := by decide +kernel
theorem dJ9_floorDiv_7cf53_21 : decode cJ9_floorDiv_7cf53 21 = .ok (.iload_n 2, 1) := by decide +kernel
theorem dJ9_floorDiv_7cf53_22 : decode cJ9_floorDiv_7cf53 22 = .ok (.ireturn, 1) := by decide +kernel
theorem dJ9_abs_0f7a4_0 : decode cJ9_abs_0f7a4 0 = .ok (.iload_n 0, 1) := by decide +kernel
theorem dJ9_abs_0f7a4_1 : decode cJ9_abs_0f7a4 1 = .ok (.ifCond .ge 8, 3) := by decide +kernel
theorem dJ9_abs_0f7a4_4 : decode cJ9_abs_0f7a4 4 = .ok (.iload_n 0, 1) := by decide +kernel
theorem dJ9_abs_0f7a4_5 : decode cJ9_abs_0f7a4 5 = .ok (.ineg, 1) := by decide +kernel
theorem dJ9_abs_0f7a4_6 : decode cJ9_abs_0f7a4 6 = .ok (.goto 4, 3) := by decide +kernel
theorem dJ9_abs_0f7a4_9 : decode cJ9_abs_0f7a4 9 = .ok (.iload_n 0, 1) := by decide +kernel
theorem dJ9_abs_0f7a4_10 : decode cJ9_abs_0f7a4 10 = .ok (.ireturn, 1) := by decide +kernel
theorem dJ9_max_7cf53_0 : decode cJ9_max_7cf53 0 = .ok (.iload_n 0, 1) := by decide +kernel
theorem dJ9_max_7cf53_1 : decode cJ9_max_7cf53 1 = .ok (.iload_n 1, 1) := by decide +kernel
theorem dJ9_max_7cf53_2 : decode cJ9_max_7cf53 2 = .ok (.if_icmp .lt 7, 3) := by decide +kernel
theorem dJ9_max_7cf53_5 : decode cJ9_max_7cf53 5 = .ok (.iload_n 0, 1) := by decide +kernel
theorem dJ9_max_7cf53_6 : decode cJ9_max_7cf53 6 = .ok (.goto 4, 3) := by decide +kernel
theorem dJ9_max_7cf53_9 : decode cJ9_max_7cf53 9 = .ok (.iload_n 1, 1) := by decide +kernel
theorem dJ9_max_7cf53_10 : decode cJ9_max_7cf53 10 = .ok (.ireturn, 1) := by decide +kernel
theorem dJ9_min_7cf53_0 : decode cJ9_min_7cf53 0 = .ok (.iload_n 0, 1) := by decide +kernel
theorem dJ9_min_7cf53_1 : decode cJ9_min_7cf53 1 = .ok (.iload_n 1, 1) := by decide +kernel
theorem dJ9_min_7cf53_2 : decode cJ9_min_7cf53 2 = .ok (.if_icmp .gt 7, 3) := by decide +kernel
theorem dJ9_min_7cf53_5 : decode cJ9_min_7cf53 5 = .ok (.iload_n 0, 1) := by decide +kernel
theorem dJ9_min_7cf53_6 : decode cJ9_min_7cf53 6 = .ok (.goto 4, 3) := by decide +kernel
theorem dJ9_min_7cf53_9 : decode cJ9_min_7cf53 9 = .ok (.iload_n 1, 1) := by decide +kernel
theorem dJ9_min_7cf53_10 : decode cJ9_min_7cf53 10 = .ok (.ireturn, 1) := by decide +kernel
theorem dJ0_length_8abf5_0 : decode cJ0_length_8abf5 0 = .ok (.aload_n 0, 1) := by decide +kernel
theorem dJ0_length_8abf5_1 : decode cJ0_length_8abf5 1 = .ok (.getfield 9, 3) := by decide +kernel
theorem dJ0_length_8abf5_4 : decode cJ0_length_8abf5 4 = .ok (.arraylength, 1) := by decide +kernel
theorem dJ0_length_8abf5_5 : decode cJ0_length_8abf5 5 = .ok (.aload_n 0, 1) := by decide +kernel
theorem dJ0_length_8abf5_6 : decode cJ0_length_8abf5 6 = .ok (.invokevirtual 335, 3) := by decide +kernel
theorem dJ0_length_8abf5_9 : decode cJ0_length_8abf5 9 = .ok (.ishr, 1) := by decide +kernel
theorem dJ0_length_8abf5_10 : decode cJ0_length_8abf5 10 = .ok (.ireturn, 1) := by decide +kernel
theorem dJ0_charAt_5068e_0 : decode cJ0_charAt_5068e 0 = .ok (.aload_n 0, 1) := by decide +kernel
theorem dJ0_charAt_5068e_1 : decode cJ0_charAt_5068e 1 = .ok (.invokevirtual 492, 3) := by decide +kernel
theorem dJ0_charAt_5068e_4 : decode cJ0_charAt_5068e 4 = .ok (.ifCond .eq 12, 3) := by decide +kernel
theorem dJ0_charAt_5068e_7 : decode cJ0_charAt_5068e 7 = .ok (.aload_n 0, 1) := by decide +kernel
theorem dJ0_charAt_5068e_8 : decode cJ0_charAt_5068e 8 = .ok (.getfield 9, 3) := by decide +kernel
theorem dJ0_charAt_5068e_11 : decode cJ0_charAt_5068e 11 = .ok (.iload_n 1, 1) := by decide +kernel
theorem dJ0_charAt_5068e_12 : decode cJ0_charAt_5068e 12 = .ok (.invokestatic 495, 3) := by decide +kernel
theorem dJ0_charAt_5068e_15 : decode cJ0_charAt_5068e 15 = .ok (.ireturn, 1) := by decide +kernel
theorem dJ0_charAt_5068e_16 : decode cJ0_charAt_5068e 16 = .ok (.aload_n 0, 1) := by decide +kernel
theorem dJ0_charAt_5068e_17 : decode cJ0_charAt_5068e 17 = .ok (.getfield 9, 3) := by decide +kernel
theorem dJ0_charAt_5068e_20 : decode cJ0_charAt_5068e 20 = .ok (.iload_n 1, 1) := by decide +kernel
theorem dJ0_charAt_5068e_21 : decode cJ0_charAt_5068e 21 = .ok (.invokestatic 498, 3) := by decide +kernel
theorem dJ0_charAt_5068e_24 : decode cJ0_charAt_5068e 24 = .ok (.ireturn, 1) := by decide +kernel
theorem dJ0_indexOf_0f7a4_0 : decode cJ0_indexOf_0f7a4 0 = .ok (.aload_n 0, 1) := by decide +kernel
theorem dJ0_indexOf_0f7a4_1 : decode cJ0_indexOf_0f7a4 1 = .ok (.iload_n 1, 1) := by decide +kernel
theorem dJ0_indexOf_0f7a4_2 : decode cJ0_indexOf_0f7a4 2 = .ok (.iconst 0, 1) := by decide +kernel
theorem dJ0_indexOf_0f7a4_3 : decode cJ0_indexOf_0f7a4 3 = .ok (.invokevirtual 633, 3) := by decide +kernel
theorem dJ0_indexOf_0f7a4_6 : decode cJ0_indexOf_0f7a4 6 = .ok (.ireturn, 1) := by decide +kernel
theorem dJ0_indexOf_7cf53_0 : decode cJ0_indexOf_7cf53 0 = .ok (.aload_n 0, 1) := by decide +kernel
theorem dJ0_indexOf_7cf53_1 : decode cJ0_indexOf_7cf53 1 = .ok (.invokevirtual 492, 3) := by decide +kernel
theorem dJ0_indexOf_7cf53_4 : decode cJ0_indexOf_7cf53 4 = .ok (.ifCond .eq 19, 3) := by decide +kernel
theorem dJ0_indexOf_7cf53_7 : decode cJ0_indexOf_7cf53 7 = .ok (.aload_n 0, 1) := by decide +kernel
theorem dJ0_indexOf_7cf53_8 : decode cJ0_indexOf_7cf53 8 = .ok (.getfield 9, 3) := by decide +kernel
theorem dJ0_indexOf_7cf53_11 : decode cJ0_indexOf_7cf53 11 = .ok (.iload_n 1, 1) := by decide +kernel
theorem dJ0_indexOf_7cf53_12 : decode cJ0_indexOf_7cf53 12 = .ok (.iload_n 2, 1) := by decide +kernel
theorem dJ0_indexOf_7cf53_13 : decode cJ0_indexOf_7cf53 13 = .ok (.aload_n 0, 1) := by decide +kernel
theorem dJ0_indexOf_7cf53_14 : decode cJ0_indexOf_7cf53 14 = .ok (.invokevirtual 505, 3) := by decide +kernel
theorem dJ0_indexOf_7cf53_17 : decode cJ0_indexOf_7cf53 17 = .ok (.invokestatic 637, 3) := by decide +kernel
theorem dJ0_indexOf_7cf53_20 : decode cJ0_indexOf_7cf53 20 = .ok (.goto 16, 3) := by decide +kernel
theorem dJ0_indexOf_7cf53_23 : decode cJ0_indexOf_7cf53 23 = .ok (.aload_n 0, 1) := by decide +kernel
theorem dJ0_indexOf_7cf53_24 : decode cJ0_indexOf_7cf53 24 = .ok (.getfield 9, 3) := by decide +kernel
theorem dJ0_indexOf_7cf53_27 : decode cJ0_indexOf_7cf53 27 = .ok (.iload_n 1, 1) := by decide +kernel
theorem dJ0_indexOf_7cf53_28 : decode cJ0_indexOf_7cf53 28 = .ok (.iload_n 2, 1) := by decide +kernel
theorem dJ0_indexOf_7cf53_29 : decode cJ0_indexOf_7cf53 29 = .ok (.aload_n 0, 1) := by decide +kernel
theorem dJ0_indexOf_7cf53_30 : decode cJ0_indexOf_7cf53 30 = .ok (.invokevirtual 505, 3) := by decide +kernel
theorem dJ0_indexOf_7cf53_33 : decode cJ0_indexOf_7cf53 33 = .ok (.invokestatic 640, 3) := by decide +kernel
theorem dJ0_indexOf_7cf53_36 : decode cJ0_indexOf_7cf53 36 = .ok (.ireturn, 1) := by decide +kernel
theorem dJ0_coder_7d493_0 : decode cJ0_coder_7d493 0 = .ok (.getstatic 38, 3) := by decide +kernel
theorem dJ0_coder_7d493_3 : decode cJ0_coder_7d493 3 = .ok (.ifCond .eq 10, 3) := by decide +kernel
theorem dJ0_coder_7d493_6 : decode cJ0_coder_7d493 6 = .ok (.aload_n 0, 1) := by decide +kernel
theorem dJ0_coder_7d493_7 : decode cJ0_coder_7d493 7 = .ok (.getfield 15, 3) := by decide +kernel
theorem dJ0_coder_7d493_10 : decode cJ0_coder_7d493 10 = .ok (.goto 4, 3) := by decide +kernel
theorem dJ0_coder_7d493_13 : decode cJ0_coder_7d493 13 = .ok (.iconst 1, 1) := by decide +kernel
theorem dJ0_coder_7d493_14 : decode cJ0_coder_7d493 14 = .ok (.ireturn, 1) := by decide +kernel
theorem dJ0_isLatin1_aae02_0 : decode cJ0_isLatin1_aae02 0 = .ok (.getstatic 38, 3) := by decide +kernel
theorem dJ0_isLatin1_aae02_3 : decode cJ0_isLatin1_aae02 3 = .ok (.ifCond .eq 14, 3) := by decide +kernel
theorem dJ0_isLatin1_aae02_6 : decode cJ0_isLatin1_aae02 6 = .ok (.aload_n 0, 1) := by decide +kernel
theorem dJ0_isLatin1_aae02_7 : decode cJ0_isLatin1_aae02 7 = .ok (.getfield 15, 3) := by decide +kernel
theorem dJ0_isLatin1_aae02_10 : decode cJ0_isLatin1_aae02 10 = .ok (.ifCond .ne 7, 3) := by decide +kernel
theorem dJ0_isLatin1_aae02_13 : decode cJ0_isLatin1_aae02 13 = .ok (.iconst 1, 1) := by decide +kernel
theorem dJ0_isLatin1_aae02_14 : decode cJ0_isLatin1_aae02 14 = .ok (.goto 4, 3) := by decide +kernel
theorem dJ0_isLatin1_aae02_17 : decode cJ0_isLatin1_aae02 17 = .ok (.iconst 0, 1) := by decide +kernel
theorem dJ0_isLatin1_aae02_18 : decode cJ0_isLatin1_aae02 18 = .ok (.ireturn, 1) := by decide +kernel
theorem dJ0_checkIndex_df160_0 : decode cJ0_checkIndex_df160 0 = .ok (.iload_n 0, 1) := by decide +kernel
theorem dJ0_checkIndex_df160_1 : decode cJ0_checkIndex_df160 1 = .ok (.iload_n 1, 1) := by decide +kernel
theorem dJ0_checkIndex_df160_2 : decode cJ0_checkIndex_df160 2 = .ok (.getstatic 1053, 3) := by decide +kernel
theorem dJ0_checkIndex_df160_5 : decode cJ0_checkIndex_df160 5 = .ok (.invokestatic 1059, 3) := by decide +kernel
theorem dJ0_checkIndex_df160_8 : decode cJ0_checkIndex_df160 8 = .ok (.pop, 1) := by decide +kernel
theorem dJ0_checkIndex_df160_9 : decode cJ0_checkIndex_df160 9 = .ok (.return_, 1) := by decide +kernel
theorem dJ0_checkBoundsBeginEnd_23922_0 : decode cJ0_checkBoundsBeginEnd_23922 0 = .ok (.iload_n 0, 1) := by decide +kernel
theorem dJ0_checkBoundsBeginEnd_23922_1 : decode cJ0_checkBoundsBeginEnd_23922 1 = .ok (.iload_n 1, 1) := by decide +kernel
theorem dJ0_checkBoundsBeginEnd_23922_2 : decode cJ0_checkBoundsBeginEnd_23922 2 = .ok (.iload_n 2, 1) := by decide +kernel
theorem dJ0_checkBoundsBeginEnd_23922_3 : decode cJ0_checkBoundsBeginEnd_23922 3 = .ok (.getstatic 1053, 3) := by decide +kernel
theorem dJ0_checkBoundsBeginEnd_23922_6 : decode cJ0_checkBoundsBeginEnd_23922 6 = .ok (.invokestatic 1062, 3) := by decide +kernel
theorem dJ0_checkBoundsBeginEnd_23922_9 : decode cJ0_checkBoundsBeginEnd_23922 9 = .ok (.pop, 1) := by decide +kernel
theorem dJ0_checkBoundsBeginEnd_23922_10 : decode cJ0_checkBoundsBeginEnd_23922 10 = .ok (.return_, 1) := by decide +kernel
theorem dJ1_charAt_3b067_0 : decode cJ1_charAt_3b067 0 = .ok (.iload_n 1, 1) := by decide +kernel
theorem dJ1_charAt_3b067_1 : decode cJ1_charAt_3b067 1 = .ok (.aload_n 0, 1) := by decide +kernel
theorem dJ1_charAt_3b067_2 : decode cJ1_charAt_3b067 2 = .ok (.arraylength, 1) := by decide +kernel
theorem dJ1_charAt_3b067_3 : decode cJ1_charAt_3b067 3 = .ok (.invokestatic 9, 3) := by decide +kernel
theorem dJ1_charAt_3b067_6 : decode cJ1_charAt_3b067 6 = .ok (.aload_n 0, 1) := by decide +kernel
theorem dJ1_charAt_3b067_7 : decode cJ1_charAt_3b067 7 = .ok (.iload_n 1, 1) := by decide +kernel
theorem dJ1_charAt_3b067_8 : decode cJ1_charAt_3b067 8 = .ok (.baload, 1) := by decide +kernel
theorem dJ1_charAt_3b067_9 : decode cJ1_charAt_3b067 9 = .ok (.sipush 255, 3) := by decide +kernel
theorem dJ1_charAt_3b067_12 : decode cJ1_charAt_3b067 12 = .ok (.iand, 1) := by decide +kernel
theorem dJ1_charAt_3b067_13 : decode cJ1_charAt_3b067 13 = .ok (.i2c, 1) := by decide +kernel
theorem dJ1_charAt_3b067_14 : decode cJ1_charAt_3b067 14 = .ok (.ireturn, 1) := by decide +kernel
theorem dJ1_canEncode_9a6ad_0 : decode cJ1_canEncode_9a6ad 0 = .ok (.iload_n 0, 1) := by decide +kernel
theorem dJ1_canEncode_9a6ad_1 : decode cJ1_canEncode_9a6ad 1 = .ok (.ifCond .lt 14, 3) := by decide +kernel
theorem dJ1_canEncode_9a6ad_4 : decode cJ1_canEncode_9a6ad 4 = .ok (.iload_n 0, 1) := by decide +kernel
theorem dJ1_canEncode_9a6ad_5 : decode cJ1_canEncode_9a6ad 5 = .ok (.sipush 255, 3) := by decide +kernel
theorem dJ1_canEncode_9a6ad_8 : decode cJ1_canEncode_9a6ad 8 = .ok (.if_icmp .gt 7, 3) := by decide +kernel
theorem dJ1_canEncode_9a6ad_11 : decode cJ1_canEncode_9a6ad 11 = .ok (.iconst 1, 1) := by decide +kernel
theorem dJ1_canEncode_9a6ad_12 : decode cJ1_canEncode_9a6ad 12 = .ok (.goto 4, 3) := by decide +kernel
theorem dJ1_canEncode_9a6ad_15 : decode cJ1_canEncode_9a6ad 15 = .ok (.iconst 0, 1) := by decide +kernel
theorem dJ1_canEncode_9a6ad_16 : decode cJ1_canEncode_9a6ad 16 = .ok (.ireturn, 1) := by decide +kernel
theorem dJ1_indexOf_4cfef_0 : decode cJ1_indexOf_4cfef 0 = .ok (.iload_n 1, 1) := by decide +kernel
theorem dJ1_indexOf_4cfef_1 : decode cJ1_indexOf_4cfef 1 = .ok (.invokestatic 88, 3) := by decide +kernel
theorem dJ1_indexOf_4cfef_4 : decode cJ1_indexOf_4cfef 4 = .ok (.ifCond .ne 5, 3) := by decide +kernel
theorem dJ1_indexOf_4cfef_7 : decode cJ1_indexOf_4cfef 7 = .ok (.iconst (-1), 1) := by decide +kernel
theorem dJ1_indexOf_4cfef_8 : decode cJ1_indexOf_4cfef 8 = .ok (.ireturn, 1) := by decide +kernel
theorem dJ1_indexOf_4cfef_9 : decode cJ1_indexOf_4cfef 9 = .ok (.iload_n 2, 1) := by decide +kernel
theorem dJ1_indexOf_4cfef_10 : decode cJ1_indexOf_4cfef 10 = .ok (.iconst 0, 1) := by decide +kernel
theorem dJ1_indexOf_4cfef_11 : decode cJ1_indexOf_4cfef 11 = .ok (.invokestatic 92, 3) := by decide +kernel
theorem dJ1_indexOf_4cfef_14 : decode cJ1_indexOf_4cfef 14 = .ok (.istore_n 2, 1) := by decide +kernel
theorem dJ1_indexOf_4cfef_15 : decode cJ1_indexOf_4cfef 15 = .ok (.iload_n 3, 1) := by decide +kernel
theorem dJ1_indexOf_4cfef_16 : decode cJ1_indexOf_4cfef 16 = .ok (.aload_n 0, 1) := by decide +kernel
theorem dJ1_indexOf_4cfef_17 : decode cJ1_indexOf_4cfef 17 = .ok (.arraylength, 1) := by decide +kernel
theorem dJ1_indexOf_4cfef_18 : decode cJ1_indexOf_4cfef 18 = .ok (.invokestatic 38, 3) := by decide +kernel
theorem dJ1_indexOf_4cfef_21 : decode cJ1_indexOf_4cfef 21 = .ok (.istore_n 3, 1) := by decide +kernel
theorem dJ1_indexOf_4cfef_22 : decode cJ1_indexOf_4cfef 22 = .ok (.iload_n 2, 1) := by decide +kernel
theorem dJ1_indexOf_4cfef_23 : decode cJ1_indexOf_4cfef 23 = .ok (.iload_n 3, 1) := by decide +kernel
theorem dJ1_indexOf_4cfef_24 : decode cJ1_indexOf_4cfef 24 = .ok (.if_icmp .lt 5, 3) := by decide +kernel
theorem dJ1_indexOf_4cfef_27 : decode cJ1_indexOf_4cfef 27 = .ok (.iconst (-1), 1) := by decide +kernel
theorem dJ1_indexOf_4cfef_28 : decode cJ1_indexOf_4cfef 28 = .ok (.ireturn, 1) := by decide +kernel
theorem dJ1_indexOf_4cfef_29 : decode cJ1_indexOf_4cfef 29 = .ok (.aload_n 0, 1) := by decide +kernel
theorem dJ1_indexOf_4cfef_30 : decode cJ1_indexOf_4cfef 30 = .ok (.iload_n 1, 1) := by decide +kernel
theorem dJ1_indexOf_4cfef_31 : decode cJ1_indexOf_4cfef 31 = .ok (.iload_n 2, 1) := by decide +kernel
theorem dJ1_indexOf_4cfef_32 : decode cJ1_indexOf_4cfef 32 = .ok (.iload_n 3, 1) := by decide +kernel
theorem dJ1_indexOf_4cfef_33 : decode cJ1_indexOf_4cfef 33 = .ok (.invokestatic 95, 3) := by decide +kernel
theorem dJ1_indexOf_4cfef_36 : decode cJ1_indexOf_4cfef 36 = .ok (.ireturn, 1) := by decide +kernel
theorem dJ1_indexOfChar_4cfef_0 : decode cJ1_indexOfChar_4cfef 0 = .ok (.iload_n 1, 1) := by decide +kernel
theorem dJ1_indexOfChar_4cfef_1 : decode cJ1_indexOfChar_4cfef 1 = .ok (.i2b, 1) := by decide +kernel
theorem dJ1_indexOfChar_4cfef_2 : decode cJ1_indexOfChar_4cfef 2 = .ok (.istore 4, 2) := by decide +kernel
theorem dJ1_indexOfChar_4cfef_4 : decode cJ1_indexOfChar_4cfef 4 = .ok (.iload_n 2, 1) := by decide +kernel
theorem dJ1_indexOfChar_4cfef_5 : decode cJ1_indexOfChar_4cfef 5 = .ok (.istore 5, 2) := by decide +kernel
theorem dJ1_indexOfChar_4cfef_7 : decode cJ1_indexOfChar_4cfef 7 = .ok (.iload 5, 2) := by decide +kernel
theorem dJ1_indexOfChar_4cfef_9 : decode cJ1_indexOfChar_4cfef 9 = .ok (.iload_n 3, 1) := by decide +kernel
theorem dJ1_indexOfChar_4cfef_10 : decode cJ1_indexOfChar_4cfef 10 = .ok (.if_icmp .ge 21, 3) := by decide +kernel
theorem dJ1_indexOfChar_4cfef_13 : decode cJ1_indexOfChar_4cfef 13 = .ok (.aload_n 0, 1) := by decide +kernel
theorem dJ1_indexOfChar_4cfef_14 : decode cJ1_indexOfChar_4cfef 14 = .ok (.iload 5, 2) := by decide +kernel
theorem dJ1_indexOfChar_4cfef_16 : decode cJ1_indexOfChar_4cfef 16 = .ok (.baload, 1) := by decide +kernel
theorem dJ1_indexOfChar_4cfef_17 : decode cJ1_indexOfChar_4cfef 17 = .ok (.iload 4, 2) := by decide +kernel
theorem dJ1_indexOfChar_4cfef_19 : decode cJ1_indexOfChar_4cfef 19 = .ok (.if_icmp .ne 6, 3) := by decide +kernel
theorem dJ1_indexOfChar_4cfef_22 : decode cJ1_indexOfChar_4cfef 22 = .ok (.iload 5, 2) := by decide +kernel
theorem dJ1_indexOfChar_4cfef_24 : decode cJ1_indexOfChar_4cfef 24 = .ok (.ireturn, 1) := by decide +kernel
theorem dJ1_indexOfChar_4cfef_25 : decode cJ1_indexOfChar_4cfef 25 = .ok (.iinc 5 1, 3) := by decide +kernel
theorem dJ1_indexOfChar_4cfef_28 : decode cJ1_indexOfChar_4cfef 28 = .ok (.goto (-21), 3) := by decide +kernel
theorem dJ1_indexOfChar_4cfef_31 : decode cJ1_indexOfChar_4cfef 31 = .ok (.iconst (-1), 1) := by decide +kernel
theorem dJ1_indexOfChar_4cfef_32 : decode cJ1_indexOfChar_4cfef 32 = .ok (.ireturn, 1) := by decide +kernel
theorem dJ2_getChar_3b067_0 : decode cJ2_getChar_3b067 0 = .ok (.getstatic 44, 3) := by decide +kernel
theorem dJ2_getChar_3b067_3 : decode cJ2_getChar_3b067 3 = .ok (.ifCond .ne 25, 3) := by decide +kernel
theorem dJ2_getChar_3b067_6 : decode cJ2_getChar_3b067 6 = .ok (.iload_n 1, 1) := by decide +kernel
theorem dJ2_getChar_3b067_7 : decode cJ2_getChar_3b067 7 = .ok (.ifCond .lt 11, 3) := by decide +kernel
theorem dJ2_getChar_3b067_10 : decode cJ2_getChar_3b067 10 = .ok (.iload_n 1, 1) := by decide +kernel
theorem dJ2_getChar_3b067_11 : decode cJ2_getChar_3b067 11 = .ok (.aload_n 0, 1) := by decide +kernel
theorem dJ2_getChar_3b067_12 : decode cJ2_getChar_3b067 12 = .ok (.invokestatic 48, 3) := by decide +kernel
theorem dJ2_getChar_3b067_15 : decode cJ2_getChar_3b067 15 = .ok (.if_icmp .lt 13, 3) := by decide +kernel
theorem dJ2_getChar_3b067_18 : decode cJ2_getChar_3b067 18 = .ok (.new 52, 3) := by decide +kernel
theorem dJ2_getChar_3b067_21 : decode cJ2_getChar_3b067 21 = .ok (.dup, 1) := by decide +kernel
theorem dJ2_getChar_3b067_22 : decode cJ2_getChar_3b067 22 = .ok (.ldc 54, 2) := by decide +kernel
theorem dJ2_getChar_3b067_24 : decode cJ2_getChar_3b067 24 = .ok (.invokespecial 56, 3) := by decide +kernel
theorem dJ2_getChar_3b067_27 : decode cJ2_getChar_3b067 27 = .ok (.athrow, 1) := by decide +kernel
theorem dJ2_getChar_3b067_28 : decode cJ2_getChar_3b067 28 = .ok (.iload_n 1, 1) := by decide +kernel
theorem dJ2_getChar_3b067_29 : decode cJ2_getChar_3b067 29 = .ok (.iconst 1, 1) := by decide +kernel
theorem dJ2_getChar_3b067_30 : decode cJ2_getChar_3b067 30 = .ok (.ishl, 1) := by decide +kernel
theorem dJ2_getChar_3b067_31 : decode cJ2_getChar_3b067 31 = .ok (.istore_n 1, 1) := by decide +kernel
theorem dJ2_getChar_3b067_32 : decode cJ2_getChar_3b067 32 = .ok (.aload_n 0, 1) := by decide +kernel
theorem dJ2_getChar_3b067_33 : decode cJ2_getChar_3b067 33 = .ok (.iload_n 1, 1) := by decide +kernel
theorem dJ2_getChar_3b067_34 : decode cJ2_getChar_3b067 34 = .ok (.iinc 1 1, 3) := by decide +kernel
theorem dJ2_getChar_3b067_37 : decode cJ2_getChar_3b067 37 = .ok (.baload, 1) := by decide +kernel
theorem dJ2_getChar_3b067_38 : decode cJ2_getChar_3b067 38 = .ok (.sipush 255, 3) := by decide +kernel
theorem dJ2_getChar_3b067_41 : decode cJ2_getChar_3b067 41 = .ok (.iand, 1) := by decide +kernel
theorem dJ2_getChar_3b067_42 : decode cJ2_getChar_3b067 42 = .ok (.getstatic 59, 3) := by decide +kernel
theorem dJ2_getChar_3b067_45 : decode cJ2_getChar_3b067 45 = .ok (.ishl, 1) := by decide +kernel
theorem dJ2_getChar_3b067_46 : decode cJ2_getChar_3b067 46 = .ok (.aload_n 0, 1) := by decide +kernel
theorem dJ2_getChar_3b067_47 : decode cJ2_getChar_3b067 47 = .ok (.iload_n 1, 1) := by decide +kernel
theorem dJ2_getChar_3b067_48 : decode cJ2_getChar_3b067 48 = .ok (.baload, 1) := by decide +kernel
theorem dJ2_getChar_3b067_49 : decode cJ2_getChar_3b067 49 = .ok (.sipush 255, 3) := by decide +kernel
theorem dJ2_getChar_3b067_52 : decode cJ2_getChar_3b067 52 = .ok (.iand, 1) := by decide +kernel
theorem dJ2_getChar_3b067_53 : decode cJ2_getChar_3b067 53 = .ok (.getstatic 63, 3) := by decide +kernel
theorem dJ2_getChar_3b067_56 : decode cJ2_getChar_3b067 56 = .ok (.ishl, 1) := by decide +kernel
theorem dJ2_getChar_3b067_57 : decode cJ2_getChar_3b067 57 = .ok (.ior, 1) := by decide +kernel
theorem dJ2_getChar_3b067_58 : decode cJ2_getChar_3b067 58 = .ok (.i2c, 1) := by decide +kernel
theorem dJ2_getChar_3b067_59 : decode cJ2_getChar_3b067 59 = .ok (.ireturn, 1) := by decide +kernel
theorem dJ2_length_9d52b_0 : decode cJ2_length_9d52b 0 = .ok (.aload_n 0, 1) := by decide +kernel
theorem dJ2_length_9d52b_1 : decode cJ2_length_9d52b 1 = .ok (.arraylength, 1) := by decide +kernel
theorem dJ2_length_9d52b_2 : decode cJ2_length_9d52b 2 = .ok (.iconst 1, 1) := by decide +kernel
theorem dJ2_length_9d52b_3 : decode cJ2_length_9d52b 3 = .ok (.ishr, 1) := by decide +kernel
theorem dJ2_length_9d52b_4 : decode cJ2_length_9d52b 4 = .ok (.ireturn, 1) := by decide +kernel
theorem dJ2_indexOf_4cfef_0 : decode cJ2_indexOf_4cfef 0 = .ok (.iload_n 2, 1) := by decide +kernel
theorem dJ2_indexOf_4cfef_1 : decode cJ2_indexOf_4cfef 1 = .ok (.iconst 0, 1) := by decide +kernel
theorem dJ2_indexOf_4cfef_2 : decode cJ2_indexOf_4cfef 2 = .ok (.invokestatic 224, 3) := by decide +kernel
theorem dJ2_indexOf_4cfef_5 : decode cJ2_indexOf_4cfef 5 = .ok (.istore_n 2, 1) := by decide +kernel
theorem dJ2_indexOf_4cfef_6 : decode cJ2_indexOf_4cfef 6 = .ok (.iload_n 3, 1) := by decide +kernel
theorem dJ2_indexOf_4cfef_7 : decode cJ2_indexOf_4cfef 7 = .ok (.aload_n 0, 1) := by decide +kernel
theorem dJ2_indexOf_4cfef_8 : decode cJ2_indexOf_4cfef 8 = .ok (.arraylength, 1) := by decide +kernel
theorem dJ2_indexOf_4cfef_9 : decode cJ2_indexOf_4cfef 9 = .ok (.iconst 1, 1) := by decide +kernel
theorem dJ2_indexOf_4cfef_10 : decode cJ2_indexOf_4cfef 10 = .ok (.ishr, 1) := by decide +kernel
theorem dJ2_indexOf_4cfef_11 : decode cJ2_indexOf_4cfef 11 = .ok (.invokestatic 183, 3) := by decide +kernel
theorem dJ2_indexOf_4cfef_14 : decode cJ2_indexOf_4cfef 14 = .ok (.istore_n 3, 1) := by decide +kernel
theorem dJ2_indexOf_4cfef_15 : decode cJ2_indexOf_4cfef 15 = .ok (.iload_n 2, 1) := by decide +kernel
theorem dJ2_indexOf_4cfef_16 : decode cJ2_indexOf_4cfef 16 = .ok (.iload_n 3, 1) := by decide +kernel
theorem dJ2_indexOf_4cfef_17 : decode cJ2_indexOf_4cfef 17 = .ok (.if_icmp .lt 5, 3) := by decide +kernel
theorem dJ2_indexOf_4cfef_20 : decode cJ2_indexOf_4cfef 20 = .ok (.iconst (-1), 1) := by decide +kernel
theorem dJ2_indexOf_4cfef_21 : decode cJ2_indexOf_4cfef 21 = .ok (.ireturn, 1) := by decide +kernel
theorem dJ2_indexOf_4cfef_22 : decode cJ2_indexOf_4cfef 22 = .ok (.iload_n 1, 1) := by decide +kernel
theorem dJ2_indexOf_4cfef_23 : decode cJ2_indexOf_4cfef 23 = .ok (.ldc 227, 2) := by decide +kernel
theorem dJ2_indexOf_4cfef_25 : decode cJ2_indexOf_4cfef 25 = .ok (.if_icmp .ge 11, 3) := by decide +kernel
theorem dJ2_indexOf_4cfef_28 : decode cJ2_indexOf_4cfef 28 = .ok (.aload_n 0, 1) := by decide +kernel
theorem dJ2_indexOf_4cfef_29 : decode cJ2_indexOf_4cfef 29 = .ok (.iload_n 1, 1) := by decide +kernel
theorem dJ2_indexOf_4cfef_30 : decode cJ2_indexOf_4cfef 30 = .ok (.iload_n 2, 1) := by decide +kernel
theorem dJ2_indexOf_4cfef_31 : decode cJ2_indexOf_4cfef 31 = .ok (.iload_n 3, 1) := by decide +kernel
theorem dJ2_indexOf_4cfef_32 : decode cJ2_indexOf_4cfef 32 = .ok (.invokestatic 228, 3) := by decide +kernel
theorem dJ2_indexOf_4cfef_35 : decode cJ2_indexOf_4cfef 35 = .ok (.ireturn, 1) := by decide +kernel
theorem dJ2_indexOf_4cfef_36 : decode cJ2_indexOf_4cfef 36 = .ok (.aload_n 0, 1) := by decide +kernel
theorem dJ2_indexOf_4cfef_37 : decode cJ2_indexOf_4cfef 37 = .ok (.iload_n 1, 1) := by decide +kernel
theorem dJ2_indexOf_4cfef_38 : decode cJ2_indexOf_4cfef 38 = .ok (.iload_n 2, 1) := by decide +kernel
theorem dJ2_indexOf_4cfef_39 : decode cJ2_indexOf_4cfef 39 = .ok (.iload_n 3, 1) := by decide +kernel
theorem dJ2_indexOf_4cfef_40 : decode cJ2_indexOf_4cfef 40 = .ok (.invokestatic 232, 3) := by decide +kernel
theorem dJ2_indexOf_4cfef_43 : decode cJ2_indexOf_4cfef 43 = .ok (.ireturn, 1) := by decide +kernel
theorem dJ2_indexOfChar_4cfef_0 : decode cJ2_indexOfChar_4cfef 0 = .ok (.iload_n 2, 1) := by decide +kernel
theorem dJ2_indexOfChar_4cfef_1 : decode cJ2_indexOfChar_4cfef 1 = .ok (.iload_n 3, 1) := by decide +kernel
theorem dJ2_indexOfChar_4cfef_2 : decode cJ2_indexOfChar_4cfef 2 = .ok (.aload_n 0, 1) := by decide +kernel
theorem dJ2_indexOfChar_4cfef_3 : decode cJ2_indexOfChar_4cfef 3 = .ok (.invokestatic 96, 3) := by decide +kernel
theorem dJ2_indexOfChar_4cfef_6 : decode cJ2_indexOfChar_4cfef 6 = .ok (.aload_n 0, 1) := by decide +kernel
theorem dJ2_indexOfChar_4cfef_7 : decode cJ2_indexOfChar_4cfef 7 = .ok (.iload_n 1, 1) := by decide +kernel
theorem dJ2_indexOfChar_4cfef_8 : decode cJ2_indexOfChar_4cfef 8 = .ok (.iload_n 2, 1) := by decide +kernel
theorem dJ2_indexOfChar_4cfef_9 : decode cJ2_indexOfChar_4cfef 9 = .ok (.iload_n 3, 1) := by decide +kernel
theorem dJ2_indexOfChar_4cfef_10 : decode cJ2_indexOfChar_4cfef 10 = .ok (.invokestatic 244, 3) := by decide +kernel
theorem dJ2_indexOfChar_4cfef_13 : decode cJ2_indexOfChar_4cfef 13 = .ok (.ireturn, 1) := by decide +kernel
theorem dJ2_indexOfCharUnsafe_4cfef_0 : decode cJ2_indexOfCharUnsafe_4cfef 0 = .ok (.iload_n 2, 1) := by decide +kernel
theorem dJ2_indexOfCharUnsafe_4cfef_1 : decode cJ2_indexOfCharUnsafe_4cfef 1 = .ok (.istore 4, 2) := by decide +kernel
theorem dJ2_indexOfCharUnsafe_4cfef_3 : decode cJ2_indexOfCharUnsafe_4cfef 3 = .ok (.iload 4, 2) := by decide +kernel
theorem dJ2_indexOfCharUnsafe_4cfef_5 : decode cJ2_indexOfCharUnsafe_4cfef 5 = .ok (.iload_n 3, 1) := by decide +kernel
theorem dJ2_indexOfCharUnsafe_4cfef_6 : decode cJ2_indexOfCharUnsafe_4cfef 6 = .ok (.if_icmp .ge 22, 3) := by decide +kernel
theorem dJ2_indexOfCharUnsafe_4cfef_9 : decode cJ2_indexOfCharUnsafe_4cfef 9 = .ok (.aload_n 0, 1) := by decide +kernel
theorem dJ2_indexOfCharUnsafe_4cfef_10 : decode cJ2_indexOfCharUnsafe_4cfef 10 = .ok (.iload 4, 2) := by decide +kernel
theorem dJ2_indexOfCharUnsafe_4cfef_12 : decode cJ2_indexOfCharUnsafe_4cfef 12 = .ok (.invokestatic 71, 3) := by decide +kernel
theorem dJ2_indexOfCharUnsafe_4cfef_15 : decode cJ2_indexOfCharUnsafe_4cfef 15 = .ok (.iload_n 1, 1) := by decide +kernel
theorem dJ2_indexOfCharUnsafe_4cfef_16 : decode cJ2_indexOfCharUnsafe_4cfef 16 = .ok (.if_icmp .ne 6, 3) := by decide +kernel
theorem dJ2_indexOfCharUnsafe_4cfef_19 : decode cJ2_indexOfCharUnsafe_4cfef 19 = .ok (.iload 4, 2) := by decide +kernel
theorem dJ2_indexOfCharUnsafe_4cfef_21 : decode cJ2_indexOfCharUnsafe_4cfef 21 = .ok (.ireturn, 1) := by decide +kernel
theorem dJ2_indexOfCharUnsafe_4cfef_22 : decode cJ2_indexOfCharUnsafe_4cfef 22 = .ok (.iinc 4 1, 3) := by decide +kernel
theorem dJ2_indexOfCharUnsafe_4cfef_25 : decode cJ2_indexOfCharUnsafe_4cfef 25 = .ok (.goto (-22), 3) := by decide +kernel
theorem dJ2_indexOfCharUnsafe_4cfef_28 : decode cJ2_indexOfCharUnsafe_4cfef 28 = .ok (.iconst (-1), 1) := by decide +kernel
theorem dJ2_indexOfCharUnsafe_4cfef_29 : decode cJ2_indexOfCharUnsafe_4cfef 29 = .ok (.ireturn, 1) := by decide +kernel
theorem dJ2_indexOfSupplementary_4cfef_0 : decode cJ2_indexOfSupplementary_4cfef 0 = .ok (.iload_n 1, 1) := by decide +kernel
theorem dJ2_indexOfSupplementary_4cfef_1 : decode cJ2_indexOfSupplementary_4cfef 1 = .ok (.invokestatic 164, 3) := by decide +kernel
theorem dJ2_indexOfSupplementary_4cfef_4 : decode cJ2_indexOfSupplementary_4cfef 4 = .ok (.ifCond .eq 65, 3) := by decide +kernel
theorem dJ2_indexOfSupplementary_4cfef_7 : decode cJ2_indexOfSupplementary_4cfef 7 = .ok (.iload_n 1, 1) := by decide +kernel
theorem dJ2_indexOfSupplementary_4cfef_8 : decode cJ2_indexOfSupplementary_4cfef 8 = .ok (.invokestatic 157, 3) := by decide +kernel
theorem dJ2_indexOfSupplementary_4cfef_11 : decode cJ2_indexOfSupplementary_4cfef 11 = .ok (.istore 4, 2) := by decide +kernel
theorem dJ2_indexOfSupplementary_4cfef_13 : decode cJ2_indexOfSupplementary_4cfef 13 = .ok (.iload_n 1, 1) := by decide +kernel
theorem dJ2_indexOfSupplementary_4cfef_14 : decode cJ2_indexOfSupplementary_4cfef 14 = .ok (.invokestatic 161, 3) := by decide +kernel
theorem dJ2_indexOfSupplementary_4cfef_17 : decode cJ2_indexOfSupplementary_4cfef 17 = .ok (.istore 5, 2) := by decide +kernel
theorem dJ2_indexOfSupplementary_4cfef_19 : decode cJ2_indexOfSupplementary_4cfef 19 = .ok (.iload_n 2, 1) := by decide +kernel
theorem dJ2_indexOfSupplementary_4cfef_20 : decode cJ2_indexOfSupplementary_4cfef 20 = .ok (.iload_n 3, 1) := by decide +kernel
theorem dJ2_indexOfSupplementary_4cfef_21 : decode cJ2_indexOfSupplementary_4cfef 21 = .ok (.aload_n 0, 1) := by decide +kernel
theorem dJ2_indexOfSupplementary_4cfef_22 : decode cJ2_indexOfSupplementary_4cfef 22 = .ok (.invokestatic 96, 3) := by decide +kernel
theorem dJ2_indexOfSupplementary_4cfef_25 : decode cJ2_indexOfSupplementary_4cfef 25 = .ok (.iload_n 2, 1) := by decide +kernel
theorem dJ2_indexOfSupplementary_4cfef_26 : decode cJ2_indexOfSupplementary_4cfef 26 = .ok (.istore 6, 2) := by decide +kernel
theorem dJ2_indexOfSupplementary_4cfef_28 : decode cJ2_indexOfSupplementary_4cfef 28 = .ok (.iload 6, 2) := by decide +kernel
theorem dJ2_indexOfSupplementary_4cfef_30 : decode cJ2_indexOfSupplementary_4cfef 30 = .ok (.iload_n 3, 1) := by decide +kernel
theorem dJ2_indexOfSupplementary_4cfef_31 : decode cJ2_indexOfSupplementary_4cfef 31 = .ok (.iconst 1, 1) := by decide +kernel
theorem dJ2_indexOfSupplementary_4cfef_32 : decode cJ2_indexOfSupplementary_4cfef 32 = .ok (.isub, 1) := by decide +kernel
theorem dJ2_indexOfSupplementary_4cfef_33 : decode cJ2_indexOfSupplementary_4cfef 33 = .ok (.if_icmp .ge 36, 3) := by decide +kernel
theorem dJ2_indexOfSupplementary_4cfef_36 : decode cJ2_indexOfSupplementary_4cfef 36 = .ok (.aload_n 0, 1) := by decide +kernel
theorem dJ2_indexOfSupplementary_4cfef_37 : decode cJ2_indexOfSupplementary_4cfef 37 = .ok (.iload 6, 2) := by decide +kernel
theorem dJ2_indexOfSupplementary_4cfef_39 : decode cJ2_indexOfSupplementary_4cfef 39 = .ok (.invokestatic 71, 3) := by decide +kernel
theorem dJ2_indexOfSupplementary_4cfef_42 : decode cJ2_indexOfSupplementary_4cfef 42 = .ok (.iload 4, 2) := by decide +kernel
theorem dJ2_indexOfSupplementary_4cfef_44 : decode cJ2_indexOfSupplementary_4cfef 44 = .ok (.if_icmp .ne 19, 3) := by decide +kernel
theorem dJ2_indexOfSupplementary_4cfef_47 : decode cJ2_indexOfSupplementary_4cfef 47 = .ok (.aload_n 0, 1) := by decide +kernel
theorem dJ2_indexOfSupplementary_4cfef_48 : decode cJ2_indexOfSupplementary_4cfef 48 = .ok (.iload 6, 2) := by decide +kernel
theorem dJ2_indexOfSupplementary_4cfef_50 : decode cJ2_indexOfSupplementary_4cfef 50 = .ok (.iconst 1, 1) := by decide +kernel
theorem dJ2_indexOfSupplementary_4cfef_51 : decode cJ2_indexOfSupplementary_4cfef 51 = .ok (.iadd, 1) := by decide +kernel
theorem dJ2_indexOfSupplementary_4cfef_52 : decode cJ2_indexOfSupplementary_4cfef 52 = .ok (.invokestatic 71, 3) := by decide +kernel
theorem dJ2_indexOfSupplementary_4cfef_55 : decode cJ2_indexOfSupplementary_4cfef 55 = .ok (.iload 5, 2) := by decide +kernel
theorem dJ2_indexOfSupplementary_4cfef_57 : decode cJ2_indexOfSupplementary_4cfef 57 = .ok (.if_icmp .ne 6, 3) := by decide +kernel
theorem dJ2_indexOfSupplementary_4cfef_60 : decode cJ2_indexOfSupplementary_4cfef 60 = .ok (.iload 6, 2) := by decide +kernel
theorem dJ2_indexOfSupplementary_4cfef_62 : decode cJ2_indexOfSupplementary_4cfef 62 = .ok (.ireturn, 1) := by decide +kernel
theorem dJ2_indexOfSupplementary_4cfef_63 : decode cJ2_indexOfSupplementary_4cfef 63 = .ok (.iinc 6 1, 3) := by decide +kernel
theorem dJ2_indexOfSupplementary_4cfef_66 : decode cJ2_indexOfSupplementary_4cfef 66 = .ok (.goto (-38), 3) := by decide +kernel
theorem dJ2_indexOfSupplementary_4cfef_69 : decode cJ2_indexOfSupplementary_4cfef 69 = .ok (.iconst (-1), 1) := by decide +kernel
theorem dJ2_indexOfSupplementary_4cfef_70 : decode cJ2_indexOfSupplementary_4cfef 70 = .ok (.ireturn, 1) := by decide +kernel
theorem dJ2_charAt_3b067_0 : decode cJ2_charAt_3b067 0 = .ok (.iload_n 1, 1) := by decide +kernel
theorem dJ2_charAt_3b067_1 : decode cJ2_charAt_3b067 1 = .ok (.aload_n 0, 1) := by decide +kernel
theorem dJ2_charAt_3b067_2 : decode cJ2_charAt_3b067 2 = .ok (.invokestatic 67, 3) := by decide +kernel
theorem dJ2_charAt_3b067_5 : decode cJ2_charAt_3b067 5 = .ok (.aload_n 0, 1) := by decide +kernel
theorem dJ2_charAt_3b067_6 : decode cJ2_charAt_3b067 6 = .ok (.iload_n 1, 1) := by decide +kernel
theorem dJ2_charAt_3b067_7 : decode cJ2_charAt_3b067 7 = .ok (.invokestatic 71, 3) := by decide +kernel
theorem dJ2_charAt_3b067_10 : decode cJ2_charAt_3b067 10 = .ok (.ireturn, 1) := by decide +kernel
theorem dJ2_checkIndex_2214a_0 : decode cJ2_checkIndex_2214a 0 = .ok (.iload_n 0, 1) := by decide +kernel
theorem dJ2_checkIndex_2214a_1 : decode cJ2_checkIndex_2214a 1 = .ok (.aload_n 1, 1) := by decide +kernel
theorem dJ2_checkIndex_2214a_2 : decode cJ2_checkIndex_2214a 2 = .ok (.invokestatic 48, 3) := by decide +kernel
theorem dJ2_checkIndex_2214a_5 : decode cJ2_checkIndex_2214a 5 = .ok (.invokestatic 414, 3) := by decide +kernel
theorem dJ2_checkIndex_2214a_8 : decode cJ2_checkIndex_2214a 8 = .ok (.return_, 1) := by decide +kernel
theorem dJ2_checkBoundsBeginEnd_d044e_0 : decode cJ2_checkBoundsBeginEnd_d044e 0 = .ok (.iload_n 0, 1) := by decide +kernel
theorem dJ2_checkBoundsBeginEnd_d044e_1 : decode cJ2_checkBoundsBeginEnd_d044e 1 = .ok (.iload_n 1, 1) := by decide +kernel
theorem dJ2_checkBoundsBeginEnd_d044e_2 : decode cJ2_checkBoundsBeginEnd_d044e 2 = .ok (.aload_n 2, 1) := by decide +kernel
theorem dJ2_checkBoundsBeginEnd_d044e_3 : decode cJ2_checkBoundsBeginEnd_d044e 3 = .ok (.invokestatic 48, 3) := by decide +kernel
theorem dJ2_checkBoundsBeginEnd_d044e_6 : decode cJ2_checkBoundsBeginEnd_d044e 6 = .ok (.invokestatic 241, 3) := by decide +kernel
theorem dJ2_checkBoundsBeginEnd_d044e_9 : decode cJ2_checkBoundsBeginEnd_d044e 9 = .ok (.return_, 1) := by decide +kernel
theorem dJ7_fill_53178_0 : decode cJ7_fill_53178 0 = .ok (.iconst 0, 1) := by decide +kernel
theorem dJ7_fill_53178_1 : decode cJ7_fill_53178 1 = .ok (.istore_n 2, 1) := by decide +kernel
theorem dJ7_fill_53178_2 : decode cJ7_fill_53178 2 = .ok (.aload_n 0, 1) := by decide +kernel
theorem dJ7_fill_53178_3 : decode cJ7_fill_53178 3 = .ok (.arraylength, 1) := by decide +kernel
theorem dJ7_fill_53178_4 : decode cJ7_fill_53178 4 = .ok (.istore_n 3, 1) := by decide +kernel
theorem dJ7_fill_53178_5 : decode cJ7_fill_53178 5 = .ok (.iload_n 2, 1) := by decide +kernel
theorem dJ7_fill_53178_6 : decode cJ7_fill_53178 6 = .ok (.iload_n 3, 1) := by decide +kernel
theorem dJ7_fill_53178_7 : decode cJ7_fill_53178 7 = .ok (.if_icmp .ge 13, 3) := by decide +kernel
theorem dJ7_fill_53178_10 : decode cJ7_fill_53178 10 = .ok (.aload_n 0, 1) := by decide +kernel
theorem dJ7_fill_53178_11 : decode cJ7_fill_53178 11 = .ok (.iload_n 2, 1) := by decide +kernel
theorem dJ7_fill_53178_12 : decode cJ7_fill_53178 12 = .ok (.iload_n 1, 1) := by decide +kernel
theorem dJ7_fill_53178_13 : decode cJ7_fill_53178 13 = .ok (.iastore, 1) := by decide +kernel
theorem dJ7_fill_53178_14 : decode cJ7_fill_53178 14 = .ok (.iinc 2 1, 3) := by decide +kernel
theorem dJ7_fill_53178_17 : decode cJ7_fill_53178 17 = .ok (.goto (-12), 3) := by decide +kernel
theorem dJ7_fill_53178_20 : decode cJ7_fill_53178 20 = .ok (.return_, 1) := by decide +kernel
theorem dJ3_checkIndex_8e157_0 : decode cJ3_checkIndex_8e157 0 = .ok (.iload_n 0, 1) := by decide +kernel
theorem dJ3_checkIndex_8e157_1 : decode cJ3_checkIndex_8e157 1 = .ok (.ifCond .lt 8, 3) := by decide +kernel
theorem dJ3_checkIndex_8e157_4 : decode cJ3_checkIndex_8e157 4 = .ok (.iload_n 0, 1) := by decide +kernel
theorem dJ3_checkIndex_8e157_5 : decode cJ3_checkIndex_8e157 5 = .ok (.iload_n 1, 1) := by decide +kernel
theorem dJ3_checkIndex_8e157_6 : decode cJ3_checkIndex_8e157 6 = .ok (.if_icmp .lt 10, 3) := by decide +kernel
theorem dJ3_checkIndex_8e157_9 : decode cJ3_checkIndex_8e157 9 = .ok (.aload_n 2, 1) := by decide +kernel
theorem dJ3_checkIndex_8e157_10 : decode cJ3_checkIndex_8e157 10 = .ok (.iload_n 0, 1) := by decide +kernel
theorem dJ3_checkIndex_8e157_11 : decode cJ3_checkIndex_8e157 11 = .ok (.iload_n 1, 1) := by decide +kernel
theorem dJ3_checkIndex_8e157_12 : decode cJ3_checkIndex_8e157 12 = .ok (.invokestatic 95, 3) := by decide +kernel
theorem dJ3_checkIndex_8e157_15 : decode cJ3_checkIndex_8e157 15 = .ok (.athrow, 1) := by decide +kernel
theorem dJ3_checkIndex_8e157_16 : decode cJ3_checkIndex_8e157 16 = .ok (.iload_n 0, 1) := by decide +kernel
theorem dJ3_checkIndex_8e157_17 : decode cJ3_checkIndex_8e157 17 = .ok (.ireturn, 1) := by decide +kernel
theorem dJ3_checkFromToIndex_8c36e_0 : decode cJ3_checkFromToIndex_8c36e 0 = .ok (.iload_n 0, 1) := by decide +kernel
theorem dJ3_checkFromToIndex_8c36e_1 : decode cJ3_checkFromToIndex_8c36e 1 = .ok (.ifCond .lt 13, 3) := by decide +kernel
theorem dJ3_checkFromToIndex_8c36e_4 : decode cJ3_checkFromToIndex_8c36e 4 = .ok (.iload_n 0, 1) := by decide +kernel
theorem dJ3_checkFromToIndex_8c36e_5 : decode cJ3_checkFromToIndex_8c36e 5 = .ok (.iload_n 1, 1) := by decide +kernel
theorem dJ3_checkFromToIndex_8c36e_6 : decode cJ3_checkFromToIndex_8c36e 6 = .ok (.if_icmp .gt 8, 3) := by decide +kernel
theorem dJ3_checkFromToIndex_8c36e_9 : decode cJ3_checkFromToIndex_8c36e 9 = .ok (.iload_n 1, 1) := by decide +kernel
theorem dJ3_checkFromToIndex_8c36e_10 : decode cJ3_checkFromToIndex_8c36e 10 = .ok (.iload_n 2, 1) := by decide +kernel
theorem dJ3_checkFromToIndex_8c36e_11 : decode cJ3_checkFromToIndex_8c36e 11 = .ok (.if_icmp .le 11, 3) := by decide +kernel
theorem dJ3_checkFromToIndex_8c36e_14 : decode cJ3_checkFromToIndex_8c36e 14 = .ok (.aload_n 3, 1) := by decide +kernel
theorem dJ3_checkFromToIndex_8c36e_15 : decode cJ3_checkFromToIndex_8c36e 15 = .ok (.iload_n 0, 1) := by decide +kernel
theorem dJ3_checkFromToIndex_8c36e_16 : decode cJ3_checkFromToIndex_8c36e 16 = .ok (.iload_n 1, 1) := by decide +kernel
theorem dJ3_checkFromToIndex_8c36e_17 : decode cJ3_checkFromToIndex_8c36e 17 = .ok (.iload_n 2, 1) := by decide +kernel
theorem dJ3_checkFromToIndex_8c36e_18 : decode cJ3_checkFromToIndex_8c36e 18 = .ok (.invokestatic 99, 3) := by decide +kernel
theorem dJ3_checkFromToIndex_8c36e_21 : decode cJ3_checkFromToIndex_8c36e 21 = .ok (.athrow, 1) := by decide +kernel
theorem dJ3_checkFromToIndex_8c36e_22 : decode cJ3_checkFromToIndex_8c36e 22 = .ok (.iload_n 0, 1) := by decide +kernel
theorem dJ3_checkFromToIndex_8c36e_23 : decode cJ3_checkFromToIndex_8c36e 23 = .ok (.ireturn, 1) := by decide +kernel
