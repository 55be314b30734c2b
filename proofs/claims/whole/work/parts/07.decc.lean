theorem dX8_init_0 : decode cX8_init 0 = .ok (.aload_n 0, 1) := by decide +kernel
theorem dX8_init_1 : decode cX8_init 1 = .ok (.invokespecial 1, 3) := by decide +kernel
theorem dX8_init_4 : decode cX8_init 4 = .ok (.aload_n 0, 1) := by decide +kernel
theorem dX8_init_5 : decode cX8_init 5 = .ok (.sipush 354, 3) := by decide +kernel
theorem dX8_init_8 : decode cX8_init 8 = .ok (.newarray .int, 2) := by decide +kernel
theorem dX8_init_10 : decode cX8_init 10 = .ok (.putfield 7, 3) := by decide +kernel
theorem dX8_init_13 : decode cX8_init 13 = .ok (.aload_n 0, 1) := by decide +kernel
theorem dX8_init_14 : decode cX8_init 14 = .ok (.sipush 354, 3) := by decide +kernel
theorem dX8_init_17 : decode cX8_init 17 = .ok (.newarray .int, 2) := by decide +kernel
theorem dX8_init_19 : decode cX8_init 19 = .ok (.putfield 13, 3) := by decide +kernel
theorem dX8_init_22 : decode cX8_init 22 = .ok (.aload_n 0, 1) := by decide +kernel
theorem dX8_init_23 : decode cX8_init 23 = .ok (.sipush 708, 3) := by decide +kernel
theorem dX8_init_26 : decode cX8_init 26 = .ok (.newarray .int, 2) := by decide +kernel
theorem dX8_init_28 : decode cX8_init 28 = .ok (.putfield 16, 3) := by decide +kernel
theorem dX8_init_31 : decode cX8_init 31 = .ok (.aload_n 0, 1) := by decide +kernel
theorem dX8_init_32 : decode cX8_init 32 = .ok (.iconst 2, 1) := by decide +kernel
theorem dX8_init_33 : decode cX8_init 33 = .ok (.newarray .boolean, 2) := by decide +kernel
theorem dX8_init_35 : decode cX8_init 35 = .ok (.putfield 19, 3) := by decide +kernel
theorem dX8_init_38 : decode cX8_init 38 = .ok (.aload_n 0, 1) := by decide +kernel
theorem dX8_init_39 : decode cX8_init 39 = .ok (.iconst 3, 1) := by decide +kernel
theorem dX8_init_40 : decode cX8_init 40 = .ok (.newarray .int, 2) := by decide +kernel
theorem dX8_init_42 : decode cX8_init 42 = .ok (.putfield 23, 3) := by decide +kernel
theorem dX8_init_45 : decode cX8_init 45 = .ok (.aload_n 0, 1) := by decide +kernel
theorem dX8_init_46 : decode cX8_init 46 = .ok (.sipush 200, 3) := by decide +kernel
theorem dX8_init_49 : decode cX8_init 49 = .ok (.newarray .int, 2) := by decide +kernel
theorem dX8_init_51 : decode cX8_init 51 = .ok (.putfield 26, 3) := by decide +kernel
theorem dX8_init_54 : decode cX8_init 54 = .ok (.aload_n 0, 1) := by decide +kernel
theorem dX8_init_55 : decode cX8_init 55 = .ok (.sipush 4096, 3) := by decide +kernel
theorem dX8_init_58 : decode cX8_init 58 = .ok (.newarray .int, 2) := by decide +kernel
theorem dX8_init_60 : decode cX8_init 60 = .ok (.putfield 29, 3) := by decide +kernel
theorem dX8_init_63 : decode cX8_init 63 = .ok (.aload_n 0, 1) := by decide +kernel
theorem dX8_init_64 : decode cX8_init 64 = .ok (.iconst 3, 1) := by decide +kernel
theorem dX8_init_65 : decode cX8_init 65 = .ok (.newarray .int, 2) := by decide +kernel
theorem dX8_init_67 : decode cX8_init 67 = .ok (.putfield 32, 3) := by decide +kernel
theorem dX8_init_70 : decode cX8_init 70 = .ok (.aload_n 0, 1) := by decide +kernel
theorem dX8_init_71 : decode cX8_init 71 = .ok (.sipush 4096, 3) := by decide +kernel
theorem dX8_init_74 : decode cX8_init 74 = .ok (.newarray .int, 2) := by decide +kernel
theorem dX8_init_76 : decode cX8_init 76 = .ok (.putfield 35, 3) := by decide +kernel
theorem dX8_init_79 : decode cX8_init 79 = .ok (.aload_n 0, 1) := by decide +kernel
theorem dX8_init_80 : decode cX8_init 80 = .ok (.bipush 72, 2) := by decide +kernel
theorem dX8_init_82 : decode cX8_init 82 = .ok (.newarray .int, 2) := by decide +kernel
theorem dX8_init_84 : decode cX8_init 84 = .ok (.putfield 38, 3) := by decide +kernel
theorem dX8_init_87 : decode cX8_init 87 = .ok (.aload_n 0, 1) := by decide +kernel
theorem dX8_init_88 : decode cX8_init 88 = .ok (.bipush 72, 2) := by decide +kernel
theorem dX8_init_90 : decode cX8_init 90 = .ok (.newarray .int, 2) := by decide +kernel
theorem dX8_init_92 : decode cX8_init 92 = .ok (.putfield 41, 3) := by decide +kernel
theorem dX8_init_95 : decode cX8_init 95 = .ok (.aload_n 0, 1) := by decide +kernel
theorem dX8_init_96 : decode cX8_init 96 = .ok (.sipush 4608, 3) := by decide +kernel
theorem dX8_init_99 : decode cX8_init 99 = .ok (.newarray .boolean, 2) := by decide +kernel
theorem dX8_init_101 : decode cX8_init 101 = .ok (.putfield 44, 3) := by decide +kernel
theorem dX8_init_104 : decode cX8_init 104 = .ok (.aload_n 0, 1) := by decide +kernel
theorem dX8_init_105 : decode cX8_init 105 = .ok (.bipush 64, 2) := by decide +kernel
theorem dX8_init_107 : decode cX8_init 107 = .ok (.newarray .boolean, 2) := by decide +kernel
theorem dX8_init_109 : decode cX8_init 109 = .ok (.putfield 47, 3) := by decide +kernel
theorem dX8_init_112 : decode cX8_init 112 = .ok (.aload_n 0, 1) := by decide +kernel
theorem dX8_init_113 : decode cX8_init 113 = .ok (.iconst 3, 1) := by decide +kernel
theorem dX8_init_114 : decode cX8_init 114 = .ok (.newarray .int, 2) := by decide +kernel
theorem dX8_init_116 : decode cX8_init 116 = .ok (.putfield 50, 3) := by decide +kernel
theorem dX8_init_119 : decode cX8_init 119 = .ok (.aload_n 0, 1) := by decide +kernel
theorem dX8_init_120 : decode cX8_init 120 = .ok (.iconst 3, 1) := by decide +kernel
theorem dX8_init_121 : decode cX8_init 121 = .ok (.newarray .int, 2) := by decide +kernel
theorem dX8_init_123 : decode cX8_init 123 = .ok (.putfield 53, 3) := by decide +kernel
theorem dX8_init_126 : decode cX8_init 126 = .ok (.aload_n 0, 1) := by decide +kernel
theorem dX8_init_127 : decode cX8_init 127 = .ok (.sipush 128, 3) := by decide +kernel
theorem dX8_init_130 : decode cX8_init 130 = .ok (.newarray .long, 2) := by decide +kernel
theorem dX8_init_132 : decode cX8_init 132 = .ok (.putfield 56, 3) := by decide +kernel
theorem dX8_init_135 : decode cX8_init 135 = .ok (.aload_n 0, 1) := by decide +kernel
theorem dX8_init_136 : decode cX8_init 136 = .ok (.iconst 2, 1) := by decide +kernel
theorem dX8_init_137 : decode cX8_init 137 = .ok (.newarray .int, 2) := by decide +kernel
theorem dX8_init_139 : decode cX8_init 139 = .ok (.putfield 60, 3) := by decide +kernel
theorem dX8_init_142 : decode cX8_init 142 = .ok (.aload_n 0, 1) := by decide +kernel
theorem dX8_init_143 : decode cX8_init 143 = .ok (.bipush 32, 2) := by decide +kernel
theorem dX8_init_145 : decode cX8_init 145 = .ok (.newarray .int, 2) := by decide +kernel
theorem dX8_init_147 : decode cX8_init 147 = .ok (.putfield 63, 3) := by decide +kernel
theorem dX8_init_150 : decode cX8_init 150 = .ok (.iconst 1, 1) := by decide +kernel
theorem dX8_init_151 : decode cX8_init 151 = .ok (.istore_n 1, 1) := by decide +kernel
theorem dX8_init_152 : decode cX8_init 152 = .ok (.iload_n 1, 1) := by decide +kernel
theorem dX8_init_153 : decode cX8_init 153 = .ok (.sipush 4096, 3) := by decide +kernel
theorem dX8_init_156 : decode cX8_init 156 = .ok (.if_icmp .ge 27, 3) := by decide +kernel
theorem dX8_init_159 : decode cX8_init 159 = .ok (.aload_n 0, 1) := by decide +kernel
theorem dX8_init_160 : decode cX8_init 160 = .ok (.getfield 29, 3) := by decide +kernel
theorem dX8_init_163 : decode cX8_init 163 = .ok (.iload_n 1, 1) := by decide +kernel
theorem dX8_init_164 : decode cX8_init 164 = .ok (.aload_n 0, 1) := by decide +kernel
theorem dX8_init_165 : decode cX8_init 165 = .ok (.getfield 29, 3) := by decide +kernel
theorem dX8_init_168 : decode cX8_init 168 = .ok (.iload_n 1, 1) := by decide +kernel
theorem dX8_init_169 : decode cX8_init 169 = .ok (.iconst 2, 1) := by decide +kernel
theorem dX8_init_170 : decode cX8_init 170 = .ok (.idiv, 1) := by decide +kernel
theorem dX8_init_171 : decode cX8_init 171 = .ok (.iaload, 1) := by decide +kernel
theorem dX8_init_172 : decode cX8_init 172 = .ok (.iload_n 1, 1) := by decide +kernel
theorem dX8_init_173 : decode cX8_init 173 = .ok (.iconst 2, 1) := by decide +kernel
theorem dX8_init_174 : decode cX8_init 174 = .ok (.irem, 1) := by decide +kernel
theorem dX8_init_175 : decode cX8_init 175 = .ok (.iadd, 1) := by decide +kernel
theorem dX8_init_176 : decode cX8_init 176 = .ok (.iastore, 1) := by decide +kernel
theorem dX8_init_177 : decode cX8_init 177 = .ok (.iinc 1 1, 3) := by decide +kernel
theorem dX8_init_180 : decode cX8_init 180 = .ok (.goto (-28), 3) := by decide +kernel
theorem dX8_init_183 : decode cX8_init 183 = .ok (.aload_n 0, 1) := by decide +kernel
theorem dX8_init_184 : decode cX8_init 184 = .ok (.bipush 12, 2) := by decide +kernel
theorem dX8_init_186 : decode cX8_init 186 = .ok (.iconst 5, 1) := by decide +kernel
theorem dX8_init_187 : decode cX8_init 187 = .ok (.invokevirtual 66, 3) := by decide +kernel
theorem dX8_init_190 : decode cX8_init 190 = .ok (.return_, 1) := by decide +kernel
theorem dX8_in_0 : decode cX8_in 0 = .ok (.iload_n 0, 1) := by decide +kernel
theorem dX8_in_1 : decode cX8_in 1 = .ok (.iload_n 1, 1) := by decide +kernel
theorem dX8_in_2 : decode cX8_in 2 = .ok (.if_icmp .lt 12, 3) := by decide +kernel
theorem dX8_in_5 : decode cX8_in 5 = .ok (.iload_n 0, 1) := by decide +kernel
theorem dX8_in_6 : decode cX8_in 6 = .ok (.iload_n 2, 1) := by decide +kernel
theorem dX8_in_7 : decode cX8_in 7 = .ok (.if_icmp .gt 7, 3) := by decide +kernel
theorem dX8_in_10 : decode cX8_in 10 = .ok (.iconst 1, 1) := by decide +kernel
theorem dX8_in_11 : decode cX8_in 11 = .ok (.goto 4, 3) := by decide +kernel
theorem dX8_in_14 : decode cX8_in 14 = .ok (.iconst 0, 1) := by decide +kernel
theorem dX8_in_15 : decode cX8_in 15 = .ok (.ireturn, 1) := by decide +kernel
theorem dX8_told_0 : decode cX8_told 0 = .ok (.iload_n 1, 1) := by decide +kernel
theorem dX8_told_1 : decode cX8_told 1 = .ok (.bipush (-2), 2) := by decide +kernel
theorem dX8_told_3 : decode cX8_told 3 = .ok (.if_icmp .eq 9, 3) := by decide +kernel
theorem dX8_told_6 : decode cX8_told 6 = .ok (.iload_n 1, 1) := by decide +kernel
theorem dX8_told_7 : decode cX8_told 7 = .ok (.bipush (-10), 2) := by decide +kernel
theorem dX8_told_9 : decode cX8_told 9 = .ok (.if_icmp .ne 16, 3) := by decide +kernel
theorem dX8_told_12 : decode cX8_told 12 = .ok (.aload_n 0, 1) := by decide +kernel
theorem dX8_told_13 : decode cX8_told 13 = .ok (.getfield 23, 3) := by decide +kernel
theorem dX8_told_16 : decode cX8_told 16 = .ok (.iconst 0, 1) := by decide +kernel
theorem dX8_told_17 : decode cX8_told 17 = .ok (.dup2, 1) := by decide +kernel
theorem dX8_told_18 : decode cX8_told 18 = .ok (.iaload, 1) := by decide +kernel
theorem dX8_told_19 : decode cX8_told 19 = .ok (.iconst 1, 1) := by decide +kernel
theorem dX8_told_20 : decode cX8_told 20 = .ok (.iadd, 1) := by decide +kernel
theorem dX8_told_21 : decode cX8_told 21 = .ok (.iastore, 1) := by decide +kernel
theorem dX8_told_22 : decode cX8_told 22 = .ok (.goto 38, 3) := by decide +kernel
theorem dX8_told_25 : decode cX8_told 25 = .ok (.iload_n 1, 1) := by decide +kernel
theorem dX8_told_26 : decode cX8_told 26 = .ok (.bipush (-3), 2) := by decide +kernel
theorem dX8_told_28 : decode cX8_told 28 = .ok (.if_icmp .ne 16, 3) := by decide +kernel
theorem dX8_told_31 : decode cX8_told 31 = .ok (.aload_n 0, 1) := by decide +kernel
theorem dX8_told_32 : decode cX8_told 32 = .ok (.getfield 23, 3) := by decide +kernel
theorem dX8_told_35 : decode cX8_told 35 = .ok (.iconst 1, 1) := by decide +kernel
theorem dX8_told_36 : decode cX8_told 36 = .ok (.dup2, 1) := by decide +kernel
theorem dX8_told_37 : decode cX8_told 37 = .ok (.iaload, 1) := by decide +kernel
theorem dX8_told_38 : decode cX8_told 38 = .ok (.iconst 1, 1) := by decide +kernel
theorem dX8_told_39 : decode cX8_told 39 = .ok (.iadd, 1) := by decide +kernel
theorem dX8_told_40 : decode cX8_told 40 = .ok (.iastore, 1) := by decide +kernel
theorem dX8_told_41 : decode cX8_told 41 = .ok (.goto 19, 3) := by decide +kernel
theorem dX8_told_44 : decode cX8_told 44 = .ok (.iload_n 1, 1) := by decide +kernel
theorem dX8_told_45 : decode cX8_told 45 = .ok (.bipush (-4), 2) := by decide +kernel
theorem dX8_told_47 : decode cX8_told 47 = .ok (.if_icmp .ne 13, 3) := by decide +kernel
theorem dX8_told_50 : decode cX8_told 50 = .ok (.aload_n 0, 1) := by decide +kernel
theorem dX8_told_51 : decode cX8_told 51 = .ok (.getfield 23, 3) := by decide +kernel
theorem dX8_told_54 : decode cX8_told 54 = .ok (.iconst 2, 1) := by decide +kernel
theorem dX8_told_55 : decode cX8_told 55 = .ok (.dup2, 1) := by decide +kernel
theorem dX8_told_56 : decode cX8_told 56 = .ok (.iaload, 1) := by decide +kernel
theorem dX8_told_57 : decode cX8_told 57 = .ok (.iconst 1, 1) := by decide +kernel
theorem dX8_told_58 : decode cX8_told 58 = .ok (.iadd, 1) := by decide +kernel
theorem dX8_told_59 : decode cX8_told 59 = .ok (.iastore, 1) := by decide +kernel
theorem dX8_told_60 : decode cX8_told 60 = .ok (.iload_n 1, 1) := by decide +kernel
theorem dX8_told_61 : decode cX8_told 61 = .ok (.ireturn, 1) := by decide +kernel
theorem dX8_anew_0 : decode cX8_anew 0 = .ok (.iconst 0, 1) := by decide +kernel
theorem dX8_anew_1 : decode cX8_anew 1 = .ok (.istore_n 3, 1) := by decide +kernel
theorem dX8_anew_2 : decode cX8_anew 2 = .ok (.iload_n 3, 1) := by decide +kernel
theorem dX8_anew_3 : decode cX8_anew 3 = .ok (.sipush 354, 3) := by decide +kernel
theorem dX8_anew_6 : decode cX8_anew 6 = .ok (.if_icmp .ge 16, 3) := by decide +kernel
theorem dX8_anew_9 : decode cX8_anew 9 = .ok (.aload_n 0, 1) := by decide +kernel
theorem dX8_anew_10 : decode cX8_anew 10 = .ok (.getfield 7, 3) := by decide +kernel
theorem dX8_anew_13 : decode cX8_anew 13 = .ok (.iload_n 3, 1) := by decide +kernel
theorem dX8_anew_14 : decode cX8_anew 14 = .ok (.iconst 0, 1) := by decide +kernel
theorem dX8_anew_15 : decode cX8_anew 15 = .ok (.iastore, 1) := by decide +kernel
theorem dX8_anew_16 : decode cX8_anew 16 = .ok (.iinc 3 1, 3) := by decide +kernel
theorem dX8_anew_19 : decode cX8_anew 19 = .ok (.goto (-17), 3) := by decide +kernel
theorem dX8_anew_22 : decode cX8_anew 22 = .ok (.iconst 0, 1) := by decide +kernel
theorem dX8_anew_23 : decode cX8_anew 23 = .ok (.istore_n 3, 1) := by decide +kernel
theorem dX8_anew_24 : decode cX8_anew 24 = .ok (.iload_n 3, 1) := by decide +kernel
theorem dX8_anew_25 : decode cX8_anew 25 = .ok (.bipush 60, 2) := by decide +kernel
theorem dX8_anew_27 : decode cX8_anew 27 = .ok (.if_icmp .ge 19, 3) := by decide +kernel
theorem dX8_anew_30 : decode cX8_anew 30 = .ok (.aload_n 0, 1) := by decide +kernel
theorem dX8_anew_31 : decode cX8_anew 31 = .ok (.getfield 7, 3) := by decide +kernel
theorem dX8_anew_34 : decode cX8_anew 34 = .ok (.bipush 36, 2) := by decide +kernel
theorem dX8_anew_36 : decode cX8_anew 36 = .ok (.iload_n 3, 1) := by decide +kernel
theorem dX8_anew_37 : decode cX8_anew 37 = .ok (.iadd, 1) := by decide +kernel
theorem dX8_anew_38 : decode cX8_anew 38 = .ok (.iconst (-1), 1) := by decide +kernel
theorem dX8_anew_39 : decode cX8_anew 39 = .ok (.iastore, 1) := by decide +kernel
theorem dX8_anew_40 : decode cX8_anew 40 = .ok (.iinc 3 1, 3) := by decide +kernel
theorem dX8_anew_43 : decode cX8_anew 43 = .ok (.goto (-19), 3) := by decide +kernel
theorem dX8_anew_46 : decode cX8_anew 46 = .ok (.aload_n 0, 1) := by decide +kernel
theorem dX8_anew_47 : decode cX8_anew 47 = .ok (.getfield 7, 3) := by decide +kernel
theorem dX8_anew_50 : decode cX8_anew 50 = .ok (.iconst 0, 1) := by decide +kernel
theorem dX8_anew_51 : decode cX8_anew 51 = .ok (.iload_n 1, 1) := by decide +kernel
theorem dX8_anew_52 : decode cX8_anew 52 = .ok (.iastore, 1) := by decide +kernel
theorem dX8_anew_53 : decode cX8_anew 53 = .ok (.aload_n 0, 1) := by decide +kernel
theorem dX8_anew_54 : decode cX8_anew 54 = .ok (.getfield 7, 3) := by decide +kernel
theorem dX8_anew_57 : decode cX8_anew 57 = .ok (.iconst 1, 1) := by decide +kernel
theorem dX8_anew_58 : decode cX8_anew 58 = .ok (.iload_n 2, 1) := by decide +kernel
theorem dX8_anew_59 : decode cX8_anew 59 = .ok (.iastore, 1) := by decide +kernel
theorem dX8_anew_60 : decode cX8_anew 60 = .ok (.return_, 1) := by decide +kernel
theorem dX8_isPlace_0 : decode cX8_isPlace 0 = .ok (.iload_n 1, 1) := by decide +kernel
theorem dX8_isPlace_1 : decode cX8_isPlace 1 = .ok (.iconst 0, 1) := by decide +kernel
theorem dX8_isPlace_2 : decode cX8_isPlace 2 = .ok (.aload_n 0, 1) := by decide +kernel
theorem dX8_isPlace_3 : decode cX8_isPlace 3 = .ok (.getfield 7, 3) := by decide +kernel
theorem dX8_isPlace_6 : decode cX8_isPlace 6 = .ok (.iconst 0, 1) := by decide +kernel
theorem dX8_isPlace_7 : decode cX8_isPlace 7 = .ok (.iaload, 1) := by decide +kernel
theorem dX8_isPlace_8 : decode cX8_isPlace 8 = .ok (.iconst 1, 1) := by decide +kernel
theorem dX8_isPlace_9 : decode cX8_isPlace 9 = .ok (.isub, 1) := by decide +kernel
theorem dX8_isPlace_10 : decode cX8_isPlace 10 = .ok (.invokestatic 70, 3) := by decide +kernel
theorem dX8_isPlace_13 : decode cX8_isPlace 13 = .ok (.ifCond .eq 23, 3) := by decide +kernel
theorem dX8_isPlace_16 : decode cX8_isPlace 16 = .ok (.iload_n 2, 1) := by decide +kernel
theorem dX8_isPlace_17 : decode cX8_isPlace 17 = .ok (.iconst 0, 1) := by decide +kernel
theorem dX8_isPlace_18 : decode cX8_isPlace 18 = .ok (.aload_n 0, 1) := by decide +kernel
theorem dX8_isPlace_19 : decode cX8_isPlace 19 = .ok (.getfield 7, 3) := by decide +kernel
theorem dX8_isPlace_22 : decode cX8_isPlace 22 = .ok (.iconst 1, 1) := by decide +kernel
theorem dX8_isPlace_23 : decode cX8_isPlace 23 = .ok (.iaload, 1) := by decide +kernel
theorem dX8_isPlace_24 : decode cX8_isPlace 24 = .ok (.iconst 1, 1) := by decide +kernel
theorem dX8_isPlace_25 : decode cX8_isPlace 25 = .ok (.isub, 1) := by decide +kernel
theorem dX8_isPlace_26 : decode cX8_isPlace 26 = .ok (.invokestatic 70, 3) := by decide +kernel
theorem dX8_isPlace_29 : decode cX8_isPlace 29 = .ok (.ifCond .eq 7, 3) := by decide +kernel
theorem dX8_isPlace_32 : decode cX8_isPlace 32 = .ok (.iconst 1, 1) := by decide +kernel
theorem dX8_isPlace_33 : decode cX8_isPlace 33 = .ok (.goto 4, 3) := by decide +kernel
theorem dX8_isPlace_36 : decode cX8_isPlace 36 = .ok (.iconst 0, 1) := by decide +kernel
theorem dX8_isPlace_37 : decode cX8_isPlace 37 = .ok (.ireturn, 1) := by decide +kernel
theorem dX8_isWindow_0 : decode cX8_isWindow 0 = .ok (.iload_n 1, 1) := by decide +kernel
theorem dX8_isWindow_1 : decode cX8_isWindow 1 = .ok (.ifCond .lt 22, 3) := by decide +kernel
theorem dX8_isWindow_4 : decode cX8_isWindow 4 = .ok (.aload_n 0, 1) := by decide +kernel
theorem dX8_isWindow_5 : decode cX8_isWindow 5 = .ok (.iload_n 1, 1) := by decide +kernel
theorem dX8_isWindow_6 : decode cX8_isWindow 6 = .ok (.bipush 12, 2) := by decide +kernel
theorem dX8_isWindow_8 : decode cX8_isWindow 8 = .ok (.irem, 1) := by decide +kernel
theorem dX8_isWindow_9 : decode cX8_isWindow 9 = .ok (.iload_n 1, 1) := by decide +kernel
theorem dX8_isWindow_10 : decode cX8_isWindow 10 = .ok (.bipush 12, 2) := by decide +kernel
theorem dX8_isWindow_12 : decode cX8_isWindow 12 = .ok (.idiv, 1) := by decide +kernel
theorem dX8_isWindow_13 : decode cX8_isWindow 13 = .ok (.invokevirtual 74, 3) := by decide +kernel
theorem dX8_isWindow_16 : decode cX8_isWindow 16 = .ok (.ifCond .eq 7, 3) := by decide +kernel
theorem dX8_isWindow_19 : decode cX8_isWindow 19 = .ok (.iconst 1, 1) := by decide +kernel
theorem dX8_isWindow_20 : decode cX8_isWindow 20 = .ok (.goto 4, 3) := by decide +kernel
theorem dX8_isWindow_23 : decode cX8_isWindow 23 = .ok (.iconst 0, 1) := by decide +kernel
theorem dX8_isWindow_24 : decode cX8_isWindow 24 = .ok (.ireturn, 1) := by decide +kernel
theorem dX8_isBox_0 : decode cX8_isBox 0 = .ok (.aload_n 0, 1) := by decide +kernel
theorem dX8_isBox_1 : decode cX8_isBox 1 = .ok (.iload_n 1, 1) := by decide +kernel
theorem dX8_isBox_2 : decode cX8_isBox 2 = .ok (.invokevirtual 78, 3) := by decide +kernel
theorem dX8_isBox_5 : decode cX8_isBox 5 = .ok (.ifCond .eq 26, 3) := by decide +kernel
theorem dX8_isBox_8 : decode cX8_isBox 8 = .ok (.aload_n 0, 1) := by decide +kernel
theorem dX8_isBox_9 : decode cX8_isBox 9 = .ok (.iload_n 1, 1) := by decide +kernel
theorem dX8_isBox_10 : decode cX8_isBox 10 = .ok (.bipush 12, 2) := by decide +kernel
theorem dX8_isBox_12 : decode cX8_isBox 12 = .ok (.irem, 1) := by decide +kernel
theorem dX8_isBox_13 : decode cX8_isBox 13 = .ok (.iconst 2, 1) := by decide +kernel
theorem dX8_isBox_14 : decode cX8_isBox 14 = .ok (.iadd, 1) := by decide +kernel
theorem dX8_isBox_15 : decode cX8_isBox 15 = .ok (.iload_n 1, 1) := by decide +kernel
theorem dX8_isBox_16 : decode cX8_isBox 16 = .ok (.bipush 12, 2) := by decide +kernel
theorem dX8_isBox_18 : decode cX8_isBox 18 = .ok (.idiv, 1) := by decide +kernel
theorem dX8_isBox_19 : decode cX8_isBox 19 = .ok (.iconst 3, 1) := by decide +kernel
theorem dX8_isBox_20 : decode cX8_isBox 20 = .ok (.iadd, 1) := by decide +kernel
theorem dX8_isBox_21 : decode cX8_isBox 21 = .ok (.invokevirtual 74, 3) := by decide +kernel
theorem dX8_isBox_24 : decode cX8_isBox 24 = .ok (.ifCond .eq 7, 3) := by decide +kernel
theorem dX8_isBox_27 : decode cX8_isBox 27 = .ok (.iconst 1, 1) := by decide +kernel
theorem dX8_isBox_28 : decode cX8_isBox 28 = .ok (.goto 4, 3) := by decide +kernel
theorem dX8_isBox_31 : decode cX8_isBox 31 = .ok (.iconst 0, 1) := by decide +kernel
theorem dX8_isBox_32 : decode cX8_isBox 32 = .ok (.ireturn, 1) := by decide +kernel
theorem dX8_isMan_0 : decode cX8_isMan 0 = .ok (.iload_n 1, 1) := by decide +kernel
theorem dX8_isMan_1 : decode cX8_isMan 1 = .ok (.iconst 0, 1) := by decide +kernel
theorem dX8_isMan_2 : decode cX8_isMan 2 = .ok (.aload_n 0, 1) := by decide +kernel
theorem dX8_isMan_3 : decode cX8_isMan 3 = .ok (.getfield 7, 3) := by decide +kernel
theorem dX8_isMan_6 : decode cX8_isMan 6 = .ok (.iconst 2, 1) := by decide +kernel
theorem dX8_isMan_7 : decode cX8_isMan 7 = .ok (.iaload, 1) := by decide +kernel
theorem dX8_isMan_8 : decode cX8_isMan 8 = .ok (.iconst 1, 1) := by decide +kernel
theorem dX8_isMan_9 : decode cX8_isMan 9 = .ok (.isub, 1) := by decide +kernel
theorem dX8_isMan_10 : decode cX8_isMan 10 = .ok (.invokestatic 70, 3) := by decide +kernel
theorem dX8_isMan_13 : decode cX8_isMan 13 = .ok (.ireturn, 1) := by decide +kernel
theorem dX8_isLetter_0 : decode cX8_isLetter 0 = .ok (.iload_n 1, 1) := by decide +kernel
theorem dX8_isLetter_1 : decode cX8_isLetter 1 = .ok (.iconst 0, 1) := by decide +kernel
theorem dX8_isLetter_2 : decode cX8_isLetter 2 = .ok (.aload_n 0, 1) := by decide +kernel
theorem dX8_isLetter_3 : decode cX8_isLetter 3 = .ok (.getfield 7, 3) := by decide +kernel
theorem dX8_isLetter_6 : decode cX8_isLetter 6 = .ok (.iconst 3, 1) := by decide +kernel
theorem dX8_isLetter_7 : decode cX8_isLetter 7 = .ok (.iaload, 1) := by decide +kernel
theorem dX8_isLetter_8 : decode cX8_isLetter 8 = .ok (.iconst 1, 1) := by decide +kernel
theorem dX8_isLetter_9 : decode cX8_isLetter 9 = .ok (.isub, 1) := by decide +kernel
theorem dX8_isLetter_10 : decode cX8_isLetter 10 = .ok (.invokestatic 70, 3) := by decide +kernel
theorem dX8_isLetter_13 : decode cX8_isLetter 13 = .ok (.ireturn, 1) := by decide +kernel
theorem dX8_isHour_0 : decode cX8_isHour 0 = .ok (.iload_n 0, 1) := by decide +kernel
theorem dX8_isHour_1 : decode cX8_isHour 1 = .ok (.iconst 0, 1) := by decide +kernel
theorem dX8_isHour_2 : decode cX8_isHour 2 = .ok (.iconst 3, 1) := by decide +kernel
theorem dX8_isHour_3 : decode cX8_isHour 3 = .ok (.invokestatic 70, 3) := by decide +kernel
theorem dX8_isHour_6 : decode cX8_isHour 6 = .ok (.ireturn, 1) := by decide +kernel
theorem dX8_putWall_0 : decode cX8_putWall 0 = .ok (.iload_n 1, 1) := by decide +kernel
theorem dX8_putWall_1 : decode cX8_putWall 1 = .ok (.iconst 3, 1) := by decide +kernel
theorem dX8_putWall_2 : decode cX8_putWall 2 = .ok (.bipush 12, 2) := by decide +kernel
theorem dX8_putWall_4 : decode cX8_putWall 4 = .ok (.invokestatic 70, 3) := by decide +kernel
theorem dX8_putWall_7 : decode cX8_putWall 7 = .ok (.ifCond .eq 12, 3) := by decide +kernel
theorem dX8_putWall_10 : decode cX8_putWall 10 = .ok (.iload_n 2, 1) := by decide +kernel
theorem dX8_putWall_11 : decode cX8_putWall 11 = .ok (.iconst 4, 1) := by decide +kernel
theorem dX8_putWall_12 : decode cX8_putWall 12 = .ok (.iconst 5, 1) := by decide +kernel
theorem dX8_putWall_13 : decode cX8_putWall 13 = .ok (.invokestatic 70, 3) := by decide +kernel
theorem dX8_putWall_16 : decode cX8_putWall 16 = .ok (.ifCond .ne 6, 3) := by decide +kernel
theorem dX8_putWall_19 : decode cX8_putWall 19 = .ok (.bipush (-2), 2) := by decide +kernel
theorem dX8_putWall_21 : decode cX8_putWall 21 = .ok (.ireturn, 1) := by decide +kernel
theorem dX8_putWall_22 : decode cX8_putWall 22 = .ok (.aload_n 0, 1) := by decide +kernel
theorem dX8_putWall_23 : decode cX8_putWall 23 = .ok (.iload_n 1, 1) := by decide +kernel
theorem dX8_putWall_24 : decode cX8_putWall 24 = .ok (.iload_n 2, 1) := by decide +kernel
theorem dX8_putWall_25 : decode cX8_putWall 25 = .ok (.invokevirtual 66, 3) := by decide +kernel
theorem dX8_putWall_28 : decode cX8_putWall 28 = .ok (.iconst 1, 1) := by decide +kernel
theorem dX8_putWall_29 : decode cX8_putWall 29 = .ok (.ireturn, 1) := by decide +kernel
theorem dX8_putMan_0 : decode cX8_putMan 0 = .ok (.iload_n 1, 1) := by decide +kernel
theorem dX8_putMan_1 : decode cX8_putMan 1 = .ok (.iconst 0, 1) := by decide +kernel
theorem dX8_putMan_2 : decode cX8_putMan 2 = .ok (.iconst 5, 1) := by decide +kernel
theorem dX8_putMan_3 : decode cX8_putMan 3 = .ok (.invokestatic 70, 3) := by decide +kernel
theorem dX8_putMan_6 : decode cX8_putMan 6 = .ok (.ifCond .eq 23, 3) := by decide +kernel
theorem dX8_putMan_9 : decode cX8_putMan 9 = .ok (.iload_n 2, 1) := by decide +kernel
theorem dX8_putMan_10 : decode cX8_putMan 10 = .ok (.iconst 0, 1) := by decide +kernel
theorem dX8_putMan_11 : decode cX8_putMan 11 = .ok (.bipush 9, 2) := by decide +kernel
theorem dX8_putMan_13 : decode cX8_putMan 13 = .ok (.invokestatic 70, 3) := by decide +kernel
theorem dX8_putMan_16 : decode cX8_putMan 16 = .ok (.ifCond .eq 13, 3) := by decide +kernel
theorem dX8_putMan_19 : decode cX8_putMan 19 = .ok (.iload_n 3, 1) := by decide +kernel
theorem dX8_putMan_20 : decode cX8_putMan 20 = .ok (.iconst 0, 1) := by decide +kernel
theorem dX8_putMan_21 : decode cX8_putMan 21 = .ok (.bipush 99, 2) := by decide +kernel
theorem dX8_putMan_23 : decode cX8_putMan 23 = .ok (.invokestatic 70, 3) := by decide +kernel
theorem dX8_putMan_26 : decode cX8_putMan 26 = .ok (.ifCond .ne 6, 3) := by decide +kernel
theorem dX8_putMan_29 : decode cX8_putMan 29 = .ok (.bipush (-2), 2) := by decide +kernel
theorem dX8_putMan_31 : decode cX8_putMan 31 = .ok (.ireturn, 1) := by decide +kernel
theorem dX8_putMan_32 : decode cX8_putMan 32 = .ok (.aload_n 0, 1) := by decide +kernel
theorem dX8_putMan_33 : decode cX8_putMan 33 = .ok (.getfield 7, 3) := by decide +kernel
theorem dX8_putMan_36 : decode cX8_putMan 36 = .ok (.iconst 2, 1) := by decide +kernel
theorem dX8_putMan_37 : decode cX8_putMan 37 = .ok (.iaload, 1) := by decide +kernel
theorem dX8_putMan_38 : decode cX8_putMan 38 = .ok (.bipush 6, 2) := by decide +kernel
theorem dX8_putMan_40 : decode cX8_putMan 40 = .ok (.if_icmp .ne 6, 3) := by decide +kernel
theorem dX8_putMan_43 : decode cX8_putMan 43 = .ok (.bipush (-4), 2) := by decide +kernel
theorem dX8_putMan_45 : decode cX8_putMan 45 = .ok (.ireturn, 1) := by decide +kernel
theorem dX8_putMan_46 : decode cX8_putMan 46 = .ok (.bipush 6, 2) := by decide +kernel
theorem dX8_putMan_48 : decode cX8_putMan 48 = .ok (.iconst 4, 1) := by decide +kernel
theorem dX8_putMan_49 : decode cX8_putMan 49 = .ok (.aload_n 0, 1) := by decide +kernel
theorem dX8_putMan_50 : decode cX8_putMan 50 = .ok (.getfield 7, 3) := by decide +kernel
theorem dX8_putMan_53 : decode cX8_putMan 53 = .ok (.iconst 2, 1) := by decide +kernel
theorem dX8_putMan_54 : decode cX8_putMan 54 = .ok (.iaload, 1) := by decide +kernel
theorem dX8_putMan_55 : decode cX8_putMan 55 = .ok (.imul, 1) := by decide +kernel
theorem dX8_putMan_56 : decode cX8_putMan 56 = .ok (.iadd, 1) := by decide +kernel
theorem dX8_putMan_57 : decode cX8_putMan 57 = .ok (.istore 4, 2) := by decide +kernel
theorem dX8_putMan_59 : decode cX8_putMan 59 = .ok (.aload_n 0, 1) := by decide +kernel
theorem dX8_putMan_60 : decode cX8_putMan 60 = .ok (.getfield 7, 3) := by decide +kernel
theorem dX8_putMan_63 : decode cX8_putMan 63 = .ok (.iload 4, 2) := by decide +kernel
theorem dX8_putMan_65 : decode cX8_putMan 65 = .ok (.iload_n 1, 1) := by decide +kernel
theorem dX8_putMan_66 : decode cX8_putMan 66 = .ok (.iastore, 1) := by decide +kernel
theorem dX8_putMan_67 : decode cX8_putMan 67 = .ok (.aload_n 0, 1) := by decide +kernel
theorem dX8_putMan_68 : decode cX8_putMan 68 = .ok (.getfield 7, 3) := by decide +kernel
theorem dX8_putMan_71 : decode cX8_putMan 71 = .ok (.iload 4, 2) := by decide +kernel
theorem dX8_putMan_73 : decode cX8_putMan 73 = .ok (.iconst 1, 1) := by decide +kernel
theorem dX8_putMan_74 : decode cX8_putMan 74 = .ok (.iadd, 1) := by decide +kernel
theorem dX8_putMan_75 : decode cX8_putMan 75 = .ok (.iload_n 2, 1) := by decide +kernel
theorem dX8_putMan_76 : decode cX8_putMan 76 = .ok (.iastore, 1) := by decide +kernel
theorem dX8_putMan_77 : decode cX8_putMan 77 = .ok (.aload_n 0, 1) := by decide +kernel
theorem dX8_putMan_78 : decode cX8_putMan 78 = .ok (.getfield 7, 3) := by decide +kernel
theorem dX8_putMan_81 : decode cX8_putMan 81 = .ok (.iload 4, 2) := by decide +kernel
theorem dX8_putMan_83 : decode cX8_putMan 83 = .ok (.iconst 2, 1) := by decide +kernel
theorem dX8_putMan_84 : decode cX8_putMan 84 = .ok (.iadd, 1) := by decide +kernel
theorem dX8_putMan_85 : decode cX8_putMan 85 = .ok (.iload_n 3, 1) := by decide +kernel
theorem dX8_putMan_86 : decode cX8_putMan 86 = .ok (.iastore, 1) := by decide +kernel
theorem dX8_putMan_87 : decode cX8_putMan 87 = .ok (.aload_n 0, 1) := by decide +kernel
theorem dX8_putMan_88 : decode cX8_putMan 88 = .ok (.getfield 7, 3) := by decide +kernel
theorem dX8_putMan_91 : decode cX8_putMan 91 = .ok (.iload 4, 2) := by decide +kernel
theorem dX8_putMan_93 : decode cX8_putMan 93 = .ok (.iconst 3, 1) := by decide +kernel
theorem dX8_putMan_94 : decode cX8_putMan 94 = .ok (.iadd, 1) := by decide +kernel
theorem dX8_putMan_95 : decode cX8_putMan 95 = .ok (.iconst (-1), 1) := by decide +kernel
theorem dX8_putMan_96 : decode cX8_putMan 96 = .ok (.iastore, 1) := by decide +kernel
theorem dX8_putMan_97 : decode cX8_putMan 97 = .ok (.aload_n 0, 1) := by decide +kernel
theorem dX8_putMan_98 : decode cX8_putMan 98 = .ok (.getfield 7, 3) := by decide +kernel
theorem dX8_putMan_101 : decode cX8_putMan 101 = .ok (.iconst 2, 1) := by decide +kernel
theorem dX8_putMan_102 : decode cX8_putMan 102 = .ok (.dup2, 1) := by decide +kernel
theorem dX8_putMan_103 : decode cX8_putMan 103 = .ok (.iaload, 1) := by decide +kernel
theorem dX8_putMan_104 : decode cX8_putMan 104 = .ok (.iconst 1, 1) := by decide +kernel
theorem dX8_putMan_105 : decode cX8_putMan 105 = .ok (.iadd, 1) := by decide +kernel
theorem dX8_putMan_106 : decode cX8_putMan 106 = .ok (.iastore, 1) := by decide +kernel
theorem dX8_putMan_107 : decode cX8_putMan 107 = .ok (.aload_n 0, 1) := by decide +kernel
theorem dX8_putMan_108 : decode cX8_putMan 108 = .ok (.getfield 7, 3) := by decide +kernel
theorem dX8_putMan_111 : decode cX8_putMan 111 = .ok (.iconst 2, 1) := by decide +kernel
theorem dX8_putMan_112 : decode cX8_putMan 112 = .ok (.iaload, 1) := by decide +kernel
theorem dX8_putMan_113 : decode cX8_putMan 113 = .ok (.iconst 1, 1) := by decide +kernel
theorem dX8_putMan_114 : decode cX8_putMan 114 = .ok (.isub, 1) := by decide +kernel
theorem dX8_putMan_115 : decode cX8_putMan 115 = .ok (.ireturn, 1) := by decide +kernel
theorem dX8_putOwner_0 : decode cX8_putOwner 0 = .ok (.aload_n 0, 1) := by decide +kernel
theorem dX8_putOwner_1 : decode cX8_putOwner 1 = .ok (.iload_n 1, 1) := by decide +kernel
theorem dX8_putOwner_2 : decode cX8_putOwner 2 = .ok (.invokevirtual 78, 3) := by decide +kernel
theorem dX8_putOwner_5 : decode cX8_putOwner 5 = .ok (.ifCond .eq 16, 3) := by decide +kernel
theorem dX8_putOwner_8 : decode cX8_putOwner 8 = .ok (.iload_n 2, 1) := by decide +kernel
theorem dX8_putOwner_9 : decode cX8_putOwner 9 = .ok (.iconst (-1), 1) := by decide +kernel
theorem dX8_putOwner_10 : decode cX8_putOwner 10 = .ok (.if_icmp .eq 14, 3) := by decide +kernel
theorem dX8_putOwner_13 : decode cX8_putOwner 13 = .ok (.aload_n 0, 1) := by decide +kernel
theorem dX8_putOwner_14 : decode cX8_putOwner 14 = .ok (.iload_n 2, 1) := by decide +kernel
theorem dX8_putOwner_15 : decode cX8_putOwner 15 = .ok (.invokevirtual 82, 3) := by decide +kernel
theorem dX8_putOwner_18 : decode cX8_putOwner 18 = .ok (.ifCond .ne 6, 3) := by decide +kernel
theorem dX8_putOwner_21 : decode cX8_putOwner 21 = .ok (.bipush (-10), 2) := by decide +kernel
theorem dX8_putOwner_23 : decode cX8_putOwner 23 = .ok (.ireturn, 1) := by decide +kernel
theorem dX8_putOwner_24 : decode cX8_putOwner 24 = .ok (.aload_n 0, 1) := by decide +kernel
theorem dX8_putOwner_25 : decode cX8_putOwner 25 = .ok (.getfield 7, 3) := by decide +kernel
theorem dX8_putOwner_28 : decode cX8_putOwner 28 = .ok (.bipush 36, 2) := by decide +kernel
theorem dX8_putOwner_30 : decode cX8_putOwner 30 = .ok (.iload_n 1, 1) := by decide +kernel
theorem dX8_putOwner_31 : decode cX8_putOwner 31 = .ok (.iadd, 1) := by decide +kernel
theorem dX8_putOwner_32 : decode cX8_putOwner 32 = .ok (.iaload, 1) := by decide +kernel
theorem dX8_putOwner_33 : decode cX8_putOwner 33 = .ok (.istore_n 3, 1) := by decide +kernel
theorem dX8_putOwner_34 : decode cX8_putOwner 34 = .ok (.aload_n 0, 1) := by decide +kernel
theorem dX8_putOwner_35 : decode cX8_putOwner 35 = .ok (.getfield 7, 3) := by decide +kernel
theorem dX8_putOwner_38 : decode cX8_putOwner 38 = .ok (.bipush 36, 2) := by decide +kernel
theorem dX8_putOwner_40 : decode cX8_putOwner 40 = .ok (.iload_n 1, 1) := by decide +kernel
theorem dX8_putOwner_41 : decode cX8_putOwner 41 = .ok (.iadd, 1) := by decide +kernel
theorem dX8_putOwner_42 : decode cX8_putOwner 42 = .ok (.iload_n 2, 1) := by decide +kernel
theorem dX8_putOwner_43 : decode cX8_putOwner 43 = .ok (.iastore, 1) := by decide +kernel
theorem dX8_putOwner_44 : decode cX8_putOwner 44 = .ok (.iload_n 3, 1) := by decide +kernel
theorem dX8_putOwner_45 : decode cX8_putOwner 45 = .ok (.ireturn, 1) := by decide +kernel
theorem dX8_putLetter_0 : decode cX8_putLetter 0 = .ok (.iload_n 1, 1) := by decide +kernel
theorem dX8_putLetter_1 : decode cX8_putLetter 1 = .ok (.iconst 0, 1) := by decide +kernel
theorem dX8_putLetter_2 : decode cX8_putLetter 2 = .ok (.sipush 4095, 3) := by decide +kernel
theorem dX8_putLetter_5 : decode cX8_putLetter 5 = .ok (.invokestatic 70, 3) := by decide +kernel
theorem dX8_putLetter_8 : decode cX8_putLetter 8 = .ok (.istore_n 2, 1) := by decide +kernel
theorem dX8_putLetter_9 : decode cX8_putLetter 9 = .ok (.iconst 0, 1) := by decide +kernel
theorem dX8_putLetter_10 : decode cX8_putLetter 10 = .ok (.istore_n 3, 1) := by decide +kernel
theorem dX8_putLetter_11 : decode cX8_putLetter 11 = .ok (.iload_n 3, 1) := by decide +kernel
theorem dX8_putLetter_12 : decode cX8_putLetter 12 = .ok (.aload_n 0, 1) := by decide +kernel
theorem dX8_putLetter_13 : decode cX8_putLetter 13 = .ok (.getfield 7, 3) := by decide +kernel
theorem dX8_putLetter_16 : decode cX8_putLetter 16 = .ok (.iconst 3, 1) := by decide +kernel
theorem dX8_putLetter_17 : decode cX8_putLetter 17 = .ok (.iaload, 1) := by decide +kernel
theorem dX8_putLetter_18 : decode cX8_putLetter 18 = .ok (.if_icmp .ge 32, 3) := by decide +kernel
theorem dX8_putLetter_21 : decode cX8_putLetter 21 = .ok (.iload_n 2, 1) := by decide +kernel
theorem dX8_putLetter_22 : decode cX8_putLetter 22 = .ok (.ifCond .eq 20, 3) := by decide +kernel
theorem dX8_putLetter_25 : decode cX8_putLetter 25 = .ok (.aload_n 0, 1) := by decide +kernel
theorem dX8_putLetter_26 : decode cX8_putLetter 26 = .ok (.getfield 7, 3) := by decide +kernel
theorem dX8_putLetter_29 : decode cX8_putLetter 29 = .ok (.bipush 30, 2) := by decide +kernel
theorem dX8_putLetter_31 : decode cX8_putLetter 31 = .ok (.iload_n 3, 1) := by decide +kernel
theorem dX8_putLetter_32 : decode cX8_putLetter 32 = .ok (.iadd, 1) := by decide +kernel
theorem dX8_putLetter_33 : decode cX8_putLetter 33 = .ok (.iaload, 1) := by decide +kernel
theorem dX8_putLetter_34 : decode cX8_putLetter 34 = .ok (.iload_n 1, 1) := by decide +kernel
theorem dX8_putLetter_35 : decode cX8_putLetter 35 = .ok (.if_icmp .eq 7, 3) := by decide +kernel
theorem dX8_putLetter_38 : decode cX8_putLetter 38 = .ok (.iconst 1, 1) := by decide +kernel
theorem dX8_putLetter_39 : decode cX8_putLetter 39 = .ok (.goto 4, 3) := by decide +kernel
theorem dX8_putLetter_42 : decode cX8_putLetter 42 = .ok (.iconst 0, 1) := by decide +kernel
theorem dX8_putLetter_43 : decode cX8_putLetter 43 = .ok (.istore_n 2, 1) := by decide +kernel
theorem dX8_putLetter_44 : decode cX8_putLetter 44 = .ok (.iinc 3 1, 3) := by decide +kernel
theorem dX8_putLetter_47 : decode cX8_putLetter 47 = .ok (.goto (-36), 3) := by decide +kernel
theorem dX8_putLetter_50 : decode cX8_putLetter 50 = .ok (.iload_n 2, 1) := by decide +kernel
theorem dX8_putLetter_51 : decode cX8_putLetter 51 = .ok (.ifCond .ne 6, 3) := by decide +kernel
theorem dX8_putLetter_54 : decode cX8_putLetter 54 = .ok (.bipush (-2), 2) := by decide +kernel
theorem dX8_putLetter_56 : decode cX8_putLetter 56 = .ok (.ireturn, 1) := by decide +kernel
theorem dX8_putLetter_57 : decode cX8_putLetter 57 = .ok (.aload_n 0, 1) := by decide +kernel
theorem dX8_putLetter_58 : decode cX8_putLetter 58 = .ok (.getfield 7, 3) := by decide +kernel
theorem dX8_putLetter_61 : decode cX8_putLetter 61 = .ok (.iconst 3, 1) := by decide +kernel
theorem dX8_putLetter_62 : decode cX8_putLetter 62 = .ok (.iaload, 1) := by decide +kernel
theorem dX8_putLetter_63 : decode cX8_putLetter 63 = .ok (.bipush 6, 2) := by decide +kernel
theorem dX8_putLetter_65 : decode cX8_putLetter 65 = .ok (.if_icmp .ne 6, 3) := by decide +kernel
theorem dX8_putLetter_68 : decode cX8_putLetter 68 = .ok (.bipush (-4), 2) := by decide +kernel
theorem dX8_putLetter_70 : decode cX8_putLetter 70 = .ok (.ireturn, 1) := by decide +kernel
theorem dX8_putLetter_71 : decode cX8_putLetter 71 = .ok (.aload_n 0, 1) := by decide +kernel
theorem dX8_putLetter_72 : decode cX8_putLetter 72 = .ok (.getfield 7, 3) := by decide +kernel
theorem dX8_putLetter_75 : decode cX8_putLetter 75 = .ok (.bipush 30, 2) := by decide +kernel
theorem dX8_putLetter_77 : decode cX8_putLetter 77 = .ok (.aload_n 0, 1) := by decide +kernel
theorem dX8_putLetter_78 : decode cX8_putLetter 78 = .ok (.getfield 7, 3) := by decide +kernel
theorem dX8_putLetter_81 : decode cX8_putLetter 81 = .ok (.iconst 3, 1) := by decide +kernel
theorem dX8_putLetter_82 : decode cX8_putLetter 82 = .ok (.iaload, 1) := by decide +kernel
theorem dX8_putLetter_83 : decode cX8_putLetter 83 = .ok (.iadd, 1) := by decide +kernel
theorem dX8_putLetter_84 : decode cX8_putLetter 84 = .ok (.iload_n 1, 1) := by decide +kernel
theorem dX8_putLetter_85 : decode cX8_putLetter 85 = .ok (.iastore, 1) := by decide +kernel
theorem dX8_putLetter_86 : decode cX8_putLetter 86 = .ok (.aload_n 0, 1) := by decide +kernel
theorem dX8_putLetter_87 : decode cX8_putLetter 87 = .ok (.getfield 7, 3) := by decide +kernel
theorem dX8_putLetter_90 : decode cX8_putLetter 90 = .ok (.iconst 3, 1) := by decide +kernel
theorem dX8_putLetter_91 : decode cX8_putLetter 91 = .ok (.dup2, 1) := by decide +kernel
theorem dX8_putLetter_92 : decode cX8_putLetter 92 = .ok (.iaload, 1) := by decide +kernel
theorem dX8_putLetter_93 : decode cX8_putLetter 93 = .ok (.iconst 1, 1) := by decide +kernel
theorem dX8_putLetter_94 : decode cX8_putLetter 94 = .ok (.iadd, 1) := by decide +kernel
theorem dX8_putLetter_95 : decode cX8_putLetter 95 = .ok (.iastore, 1) := by decide +kernel
theorem dX8_putLetter_96 : decode cX8_putLetter 96 = .ok (.aload_n 0, 1) := by decide +kernel
theorem dX8_putLetter_97 : decode cX8_putLetter 97 = .ok (.getfield 7, 3) := by decide +kernel
theorem dX8_putLetter_100 : decode cX8_putLetter 100 = .ok (.iconst 3, 1) := by decide +kernel
theorem dX8_putLetter_101 : decode cX8_putLetter 101 = .ok (.iaload, 1) := by decide +kernel
theorem dX8_putLetter_102 : decode cX8_putLetter 102 = .ok (.iconst 1, 1) := by decide +kernel
theorem dX8_putLetter_103 : decode cX8_putLetter 103 = .ok (.isub, 1) := by decide +kernel
theorem dX8_putLetter_104 : decode cX8_putLetter 104 = .ok (.ireturn, 1) := by decide +kernel
theorem dX8_putLight_0 : decode cX8_putLight 0 = .ok (.iload_n 1, 1) := by decide +kernel
theorem dX8_putLight_1 : decode cX8_putLight 1 = .ok (.invokestatic 85, 3) := by decide +kernel
theorem dX8_putLight_4 : decode cX8_putLight 4 = .ok (.ifCond .eq 11, 3) := by decide +kernel
theorem dX8_putLight_7 : decode cX8_putLight 7 = .ok (.aload_n 0, 1) := by decide +kernel
theorem dX8_putLight_8 : decode cX8_putLight 8 = .ok (.iload_n 2, 1) := by decide +kernel
theorem dX8_putLight_9 : decode cX8_putLight 9 = .ok (.invokevirtual 78, 3) := by decide +kernel
theorem dX8_putLight_12 : decode cX8_putLight 12 = .ok (.ifCond .ne 6, 3) := by decide +kernel
theorem dX8_putLight_15 : decode cX8_putLight 15 = .ok (.bipush (-2), 2) := by decide +kernel
theorem dX8_putLight_17 : decode cX8_putLight 17 = .ok (.ireturn, 1) := by decide +kernel
theorem dX8_putLight_18 : decode cX8_putLight 18 = .ok (.bipush 96, 2) := by decide +kernel
theorem dX8_putLight_20 : decode cX8_putLight 20 = .ok (.bipush 60, 2) := by decide +kernel
theorem dX8_putLight_22 : decode cX8_putLight 22 = .ok (.iload_n 1, 1) := by decide +kernel
theorem dX8_putLight_23 : decode cX8_putLight 23 = .ok (.imul, 1) := by decide +kernel
theorem dX8_putLight_24 : decode cX8_putLight 24 = .ok (.iadd, 1) := by decide +kernel
theorem dX8_putLight_25 : decode cX8_putLight 25 = .ok (.iload_n 2, 1) := by decide +kernel
theorem dX8_putLight_26 : decode cX8_putLight 26 = .ok (.iadd, 1) := by decide +kernel
theorem dX8_putLight_27 : decode cX8_putLight 27 = .ok (.istore 4, 2) := by decide +kernel
theorem dX8_putLight_29 : decode cX8_putLight 29 = .ok (.aload_n 0, 1) := by decide +kernel
theorem dX8_putLight_30 : decode cX8_putLight 30 = .ok (.getfield 7, 3) := by decide +kernel
theorem dX8_putLight_33 : decode cX8_putLight 33 = .ok (.iload 4, 2) := by decide +kernel
theorem dX8_putLight_35 : decode cX8_putLight 35 = .ok (.iaload, 1) := by decide +kernel
theorem dX8_putLight_36 : decode cX8_putLight 36 = .ok (.iload_n 3, 1) := by decide +kernel
theorem dX8_putLight_37 : decode cX8_putLight 37 = .ok (.if_icmp .ne 6, 3) := by decide +kernel
theorem dX8_putLight_40 : decode cX8_putLight 40 = .ok (.bipush (-3), 2) := by decide +kernel
theorem dX8_putLight_42 : decode cX8_putLight 42 = .ok (.ireturn, 1) := by decide +kernel
theorem dX8_putLight_43 : decode cX8_putLight 43 = .ok (.aload_n 0, 1) := by decide +kernel
theorem dX8_putLight_44 : decode cX8_putLight 44 = .ok (.getfield 7, 3) := by decide +kernel
theorem dX8_putLight_47 : decode cX8_putLight 47 = .ok (.iload 4, 2) := by decide +kernel
theorem dX8_putLight_49 : decode cX8_putLight 49 = .ok (.iload_n 3, 1) := by decide +kernel
theorem dX8_putLight_50 : decode cX8_putLight 50 = .ok (.iastore, 1) := by decide +kernel
theorem dX8_putLight_51 : decode cX8_putLight 51 = .ok (.iconst 1, 1) := by decide +kernel
theorem dX8_putLight_52 : decode cX8_putLight 52 = .ok (.ireturn, 1) := by decide +kernel
theorem dX8_putSlack_0 : decode cX8_putSlack 0 = .ok (.iload_n 1, 1) := by decide +kernel
theorem dX8_putSlack_1 : decode cX8_putSlack 1 = .ok (.iconst 0, 1) := by decide +kernel
theorem dX8_putSlack_2 : decode cX8_putSlack 2 = .ok (.iconst 3, 1) := by decide +kernel
theorem dX8_putSlack_3 : decode cX8_putSlack 3 = .ok (.invokestatic 70, 3) := by decide +kernel
theorem dX8_putSlack_6 : decode cX8_putSlack 6 = .ok (.ifCond .ne 6, 3) := by decide +kernel
theorem dX8_putSlack_9 : decode cX8_putSlack 9 = .ok (.bipush (-2), 2) := by decide +kernel
theorem dX8_putSlack_11 : decode cX8_putSlack 11 = .ok (.ireturn, 1) := by decide +kernel
theorem dX8_putSlack_12 : decode cX8_putSlack 12 = .ok (.aload_n 0, 1) := by decide +kernel
theorem dX8_putSlack_13 : decode cX8_putSlack 13 = .ok (.getfield 7, 3) := by decide +kernel
theorem dX8_putSlack_16 : decode cX8_putSlack 16 = .ok (.iconst 5, 1) := by decide +kernel
theorem dX8_putSlack_17 : decode cX8_putSlack 17 = .ok (.iaload, 1) := by decide +kernel
theorem dX8_putSlack_18 : decode cX8_putSlack 18 = .ok (.istore_n 2, 1) := by decide +kernel
theorem dX8_putSlack_19 : decode cX8_putSlack 19 = .ok (.aload_n 0, 1) := by decide +kernel
theorem dX8_putSlack_20 : decode cX8_putSlack 20 = .ok (.getfield 7, 3) := by decide +kernel
theorem dX8_putSlack_23 : decode cX8_putSlack 23 = .ok (.iconst 5, 1) := by decide +kernel
theorem dX8_putSlack_24 : decode cX8_putSlack 24 = .ok (.iload_n 1, 1) := by decide +kernel
theorem dX8_putSlack_25 : decode cX8_putSlack 25 = .ok (.iastore, 1) := by decide +kernel
theorem dX8_putSlack_26 : decode cX8_putSlack 26 = .ok (.iload_n 2, 1) := by decide +kernel
theorem dX8_putSlack_27 : decode cX8_putSlack 27 = .ok (.ireturn, 1) := by decide +kernel
theorem dX8_wall_0 : decode cX8_wall 0 = .ok (.aload_n 0, 1) := by decide +kernel
theorem dX8_wall_1 : decode cX8_wall 1 = .ok (.aload_n 0, 1) := by decide +kernel
theorem dX8_wall_2 : decode cX8_wall 2 = .ok (.iload_n 1, 1) := by decide +kernel
theorem dX8_wall_3 : decode cX8_wall 3 = .ok (.iload_n 2, 1) := by decide +kernel
theorem dX8_wall_4 : decode cX8_wall 4 = .ok (.invokevirtual 88, 3) := by decide +kernel
theorem dX8_wall_7 : decode cX8_wall 7 = .ok (.invokevirtual 92, 3) := by decide +kernel
theorem dX8_wall_10 : decode cX8_wall 10 = .ok (.ireturn, 1) := by decide +kernel
theorem dX8_tenant_0 : decode cX8_tenant 0 = .ok (.aload_n 0, 1) := by decide +kernel
theorem dX8_tenant_1 : decode cX8_tenant 1 = .ok (.aload_n 0, 1) := by decide +kernel
theorem dX8_tenant_2 : decode cX8_tenant 2 = .ok (.iload_n 1, 1) := by decide +kernel
theorem dX8_tenant_3 : decode cX8_tenant 3 = .ok (.iload_n 2, 1) := by decide +kernel
theorem dX8_tenant_4 : decode cX8_tenant 4 = .ok (.iload_n 3, 1) := by decide +kernel
theorem dX8_tenant_5 : decode cX8_tenant 5 = .ok (.invokevirtual 96, 3) := by decide +kernel
theorem dX8_tenant_8 : decode cX8_tenant 8 = .ok (.invokevirtual 92, 3) := by decide +kernel
theorem dX8_tenant_11 : decode cX8_tenant 11 = .ok (.ireturn, 1) := by decide +kernel
theorem dX8_refuses_0 : decode cX8_refuses 0 = .ok (.aload_n 0, 1) := by decide +kernel
theorem dX8_refuses_1 : decode cX8_refuses 1 = .ok (.iload_n 1, 1) := by decide +kernel
theorem dX8_refuses_2 : decode cX8_refuses 2 = .ok (.invokevirtual 82, 3) := by decide +kernel
theorem dX8_refuses_5 : decode cX8_refuses 5 = .ok (.ifCond .eq 16, 3) := by decide +kernel
theorem dX8_refuses_8 : decode cX8_refuses 8 = .ok (.iload_n 2, 1) := by decide +kernel
theorem dX8_refuses_9 : decode cX8_refuses 9 = .ok (.iconst (-1), 1) := by decide +kernel
theorem dX8_refuses_10 : decode cX8_refuses 10 = .ok (.if_icmp .eq 18, 3) := by decide +kernel
theorem dX8_refuses_13 : decode cX8_refuses 13 = .ok (.aload_n 0, 1) := by decide +kernel
theorem dX8_refuses_14 : decode cX8_refuses 14 = .ok (.iload_n 2, 1) := by decide +kernel
theorem dX8_refuses_15 : decode cX8_refuses 15 = .ok (.invokevirtual 100, 3) := by decide +kernel
theorem dX8_refuses_18 : decode cX8_refuses 18 = .ok (.ifCond .ne 10, 3) := by decide +kernel
theorem dX8_refuses_21 : decode cX8_refuses 21 = .ok (.aload_n 0, 1) := by decide +kernel
theorem dX8_refuses_22 : decode cX8_refuses 22 = .ok (.bipush (-10), 2) := by decide +kernel
theorem dX8_refuses_24 : decode cX8_refuses 24 = .ok (.invokevirtual 92, 3) := by decide +kernel
theorem dX8_refuses_27 : decode cX8_refuses 27 = .ok (.ireturn, 1) := by decide +kernel
theorem dX8_refuses_28 : decode cX8_refuses 28 = .ok (.bipush 6, 2) := by decide +kernel
theorem dX8_refuses_30 : decode cX8_refuses 30 = .ok (.iconst 4, 1) := by decide +kernel
theorem dX8_refuses_31 : decode cX8_refuses 31 = .ok (.iload_n 1, 1) := by decide +kernel
theorem dX8_refuses_32 : decode cX8_refuses 32 = .ok (.imul, 1) := by decide +kernel
theorem dX8_refuses_33 : decode cX8_refuses 33 = .ok (.iadd, 1) := by decide +kernel
theorem dX8_refuses_34 : decode cX8_refuses 34 = .ok (.iconst 3, 1) := by decide +kernel
theorem dX8_refuses_35 : decode cX8_refuses 35 = .ok (.iadd, 1) := by decide +kernel
theorem dX8_refuses_36 : decode cX8_refuses 36 = .ok (.istore_n 3, 1) := by decide +kernel
theorem dX8_refuses_37 : decode cX8_refuses 37 = .ok (.aload_n 0, 1) := by decide +kernel
theorem dX8_refuses_38 : decode cX8_refuses 38 = .ok (.getfield 7, 3) := by decide +kernel
theorem dX8_refuses_41 : decode cX8_refuses 41 = .ok (.iload_n 3, 1) := by decide +kernel
theorem dX8_refuses_42 : decode cX8_refuses 42 = .ok (.iaload, 1) := by decide +kernel
theorem dX8_refuses_43 : decode cX8_refuses 43 = .ok (.istore 4, 2) := by decide +kernel
theorem dX8_refuses_45 : decode cX8_refuses 45 = .ok (.aload_n 0, 1) := by decide +kernel
theorem dX8_refuses_46 : decode cX8_refuses 46 = .ok (.getfield 7, 3) := by decide +kernel
theorem dX8_refuses_49 : decode cX8_refuses 49 = .ok (.iload_n 3, 1) := by decide +kernel
theorem dX8_refuses_50 : decode cX8_refuses 50 = .ok (.iload_n 2, 1) := by decide +kernel
theorem dX8_refuses_51 : decode cX8_refuses 51 = .ok (.iastore, 1) := by decide +kernel
theorem dX8_refuses_52 : decode cX8_refuses 52 = .ok (.iload 4, 2) := by decide +kernel
theorem dX8_refuses_54 : decode cX8_refuses 54 = .ok (.ireturn, 1) := by decide +kernel
theorem dX8_has_0 : decode cX8_has 0 = .ok (.aload_n 0, 1) := by decide +kernel
theorem dX8_has_1 : decode cX8_has 1 = .ok (.aload_n 0, 1) := by decide +kernel
theorem dX8_has_2 : decode cX8_has 2 = .ok (.iload_n 1, 1) := by decide +kernel
theorem dX8_has_3 : decode cX8_has 3 = .ok (.iload_n 2, 1) := by decide +kernel
theorem dX8_has_4 : decode cX8_has 4 = .ok (.invokevirtual 103, 3) := by decide +kernel
theorem dX8_has_7 : decode cX8_has 7 = .ok (.invokevirtual 92, 3) := by decide +kernel
theorem dX8_has_10 : decode cX8_has 10 = .ok (.ireturn, 1) := by decide +kernel
theorem dX8_letter_0 : decode cX8_letter 0 = .ok (.aload_n 0, 1) := by decide +kernel
theorem dX8_letter_1 : decode cX8_letter 1 = .ok (.aload_n 0, 1) := by decide +kernel
theorem dX8_letter_2 : decode cX8_letter 2 = .ok (.iload_n 1, 1) := by decide +kernel
theorem dX8_letter_3 : decode cX8_letter 3 = .ok (.invokevirtual 106, 3) := by decide +kernel
theorem dX8_letter_6 : decode cX8_letter 6 = .ok (.invokevirtual 92, 3) := by decide +kernel
theorem dX8_letter_9 : decode cX8_letter 9 = .ok (.ireturn, 1) := by decide +kernel
theorem dX8_lit_0 : decode cX8_lit 0 = .ok (.aload_n 0, 1) := by decide +kernel
theorem dX8_lit_1 : decode cX8_lit 1 = .ok (.aload_n 0, 1) := by decide +kernel
theorem dX8_lit_2 : decode cX8_lit 2 = .ok (.iload_n 1, 1) := by decide +kernel
theorem dX8_lit_3 : decode cX8_lit 3 = .ok (.iload_n 2, 1) := by decide +kernel
theorem dX8_lit_4 : decode cX8_lit 4 = .ok (.iload_n 3, 1) := by decide +kernel
theorem dX8_lit_5 : decode cX8_lit 5 = .ok (.ifCond .eq 7, 3) := by decide +kernel
theorem dX8_lit_8 : decode cX8_lit 8 = .ok (.iconst 1, 1) := by decide +kernel
theorem dX8_lit_9 : decode cX8_lit 9 = .ok (.goto 4, 3) := by decide +kernel
theorem dX8_lit_12 : decode cX8_lit 12 = .ok (.iconst 0, 1) := by decide +kernel
theorem dX8_lit_13 : decode cX8_lit 13 = .ok (.invokevirtual 109, 3) := by decide +kernel
theorem dX8_lit_16 : decode cX8_lit 16 = .ok (.invokevirtual 92, 3) := by decide +kernel
theorem dX8_lit_19 : decode cX8_lit 19 = .ok (.ireturn, 1) := by decide +kernel
theorem dX8_slack_0 : decode cX8_slack 0 = .ok (.aload_n 0, 1) := by decide +kernel
theorem dX8_slack_1 : decode cX8_slack 1 = .ok (.aload_n 0, 1) := by decide +kernel
theorem dX8_slack_2 : decode cX8_slack 2 = .ok (.iload_n 1, 1) := by decide +kernel
theorem dX8_slack_3 : decode cX8_slack 3 = .ok (.invokevirtual 112, 3) := by decide +kernel
theorem dX8_slack_6 : decode cX8_slack 6 = .ok (.invokevirtual 92, 3) := by decide +kernel
theorem dX8_slack_9 : decode cX8_slack 9 = .ok (.ireturn, 1) := by decide +kernel
theorem dX8_willNot_0 : decode cX8_willNot 0 = .ok (.iconst 0, 1) := by decide +kernel
theorem dX8_willNot_1 : decode cX8_willNot 1 = .ok (.istore_n 3, 1) := by decide +kernel
theorem dX8_willNot_2 : decode cX8_willNot 2 = .ok (.iload_n 2, 1) := by decide +kernel
theorem dX8_willNot_3 : decode cX8_willNot 3 = .ok (.istore 4, 2) := by decide +kernel
theorem dX8_willNot_5 : decode cX8_willNot 5 = .ok (.iload 4, 2) := by decide +kernel
theorem dX8_willNot_7 : decode cX8_willNot 7 = .ok (.ifCond .le 46, 3) := by decide +kernel
theorem dX8_willNot_10 : decode cX8_willNot 10 = .ok (.iload_n 3, 1) := by decide +kernel
theorem dX8_willNot_11 : decode cX8_willNot 11 = .ok (.ifCond .ne 26, 3) := by decide +kernel
theorem dX8_willNot_14 : decode cX8_willNot 14 = .ok (.iload 4, 2) := by decide +kernel
theorem dX8_willNot_16 : decode cX8_willNot 16 = .ok (.bipush 10, 2) := by decide +kernel
theorem dX8_willNot_18 : decode cX8_willNot 18 = .ok (.irem, 1) := by decide +kernel
theorem dX8_willNot_19 : decode cX8_willNot 19 = .ok (.iconst 1, 1) := by decide +kernel
theorem dX8_willNot_20 : decode cX8_willNot 20 = .ok (.isub, 1) := by decide +kernel
theorem dX8_willNot_21 : decode cX8_willNot 21 = .ok (.aload_n 0, 1) := by decide +kernel
theorem dX8_willNot_22 : decode cX8_willNot 22 = .ok (.getfield 7, 3) := by decide +kernel
theorem dX8_willNot_25 : decode cX8_willNot 25 = .ok (.bipush 6, 2) := by decide +kernel
theorem dX8_willNot_27 : decode cX8_willNot 27 = .ok (.iconst 4, 1) := by decide +kernel
theorem dX8_willNot_28 : decode cX8_willNot 28 = .ok (.iload_n 1, 1) := by decide +kernel
theorem dX8_willNot_29 : decode cX8_willNot 29 = .ok (.imul, 1) := by decide +kernel
theorem dX8_willNot_30 : decode cX8_willNot 30 = .ok (.iadd, 1) := by decide +kernel
theorem dX8_willNot_31 : decode cX8_willNot 31 = .ok (.iconst 3, 1) := by decide +kernel
theorem dX8_willNot_32 : decode cX8_willNot 32 = .ok (.iadd, 1) := by decide +kernel
theorem dX8_willNot_33 : decode cX8_willNot 33 = .ok (.iaload, 1) := by decide +kernel
theorem dX8_willNot_34 : decode cX8_willNot 34 = .ok (.if_icmp .ne 7, 3) := by decide +kernel
theorem dX8_willNot_37 : decode cX8_willNot 37 = .ok (.iconst 1, 1) := by decide +kernel
theorem dX8_willNot_38 : decode cX8_willNot 38 = .ok (.goto 4, 3) := by decide +kernel
theorem dX8_willNot_41 : decode cX8_willNot 41 = .ok (.iconst 0, 1) := by decide +kernel
theorem dX8_willNot_42 : decode cX8_willNot 42 = .ok (.istore_n 3, 1) := by decide +kernel
theorem dX8_willNot_43 : decode cX8_willNot 43 = .ok (.iload 4, 2) := by decide +kernel
theorem dX8_willNot_45 : decode cX8_willNot 45 = .ok (.bipush 10, 2) := by decide +kernel
theorem dX8_willNot_47 : decode cX8_willNot 47 = .ok (.idiv, 1) := by decide +kernel
theorem dX8_willNot_48 : decode cX8_willNot 48 = .ok (.istore 4, 2) := by decide +kernel
theorem dX8_willNot_50 : decode cX8_willNot 50 = .ok (.goto (-45), 3) := by decide +kernel
theorem dX8_willNot_53 : decode cX8_willNot 53 = .ok (.iload_n 3, 1) := by decide +kernel
theorem dX8_willNot_54 : decode cX8_willNot 54 = .ok (.ireturn, 1) := by decide +kernel
theorem dX8_price_0 : decode cX8_price 0 = .ok (.aload_n 0, 1) := by decide +kernel
theorem dX8_price_1 : decode cX8_price 1 = .ok (.getfield 7, 3) := by decide +kernel
theorem dX8_price_4 : decode cX8_price 4 = .ok (.bipush 36, 2) := by decide +kernel
theorem dX8_price_6 : decode cX8_price 6 = .ok (.iload_n 2, 1) := by decide +kernel
theorem dX8_price_7 : decode cX8_price 7 = .ok (.iadd, 1) := by decide +kernel
theorem dX8_price_8 : decode cX8_price 8 = .ok (.iaload, 1) := by decide +kernel
theorem dX8_price_9 : decode cX8_price 9 = .ok (.istore 4, 2) := by decide +kernel
theorem dX8_price_11 : decode cX8_price 11 = .ok (.iload 4, 2) := by decide +kernel
theorem dX8_price_13 : decode cX8_price 13 = .ok (.iconst (-1), 1) := by decide +kernel
theorem dX8_price_14 : decode cX8_price 14 = .ok (.if_icmp .eq 13, 3) := by decide +kernel
theorem dX8_price_17 : decode cX8_price 17 = .ok (.aload_n 0, 1) := by decide +kernel
theorem dX8_price_18 : decode cX8_price 18 = .ok (.iload 4, 2) := by decide +kernel
theorem dX8_price_20 : decode cX8_price 20 = .ok (.iload_n 3, 1) := by decide +kernel
theorem dX8_price_21 : decode cX8_price 21 = .ok (.invokevirtual 115, 3) := by decide +kernel
theorem dX8_price_24 : decode cX8_price 24 = .ok (.ifCond .eq 5, 3) := by decide +kernel
theorem dX8_price_27 : decode cX8_price 27 = .ok (.iconst (-1), 1) := by decide +kernel
theorem dX8_price_28 : decode cX8_price 28 = .ok (.ireturn, 1) := by decide +kernel
theorem dX8_price_29 : decode cX8_price 29 = .ok (.aload_n 0, 1) := by decide +kernel
theorem dX8_price_30 : decode cX8_price 30 = .ok (.getfield 7, 3) := by decide +kernel
theorem dX8_price_33 : decode cX8_price 33 = .ok (.bipush 6, 2) := by decide +kernel
theorem dX8_price_35 : decode cX8_price 35 = .ok (.iconst 4, 1) := by decide +kernel
theorem dX8_price_36 : decode cX8_price 36 = .ok (.iload 4, 2) := by decide +kernel
theorem dX8_price_38 : decode cX8_price 38 = .ok (.imul, 1) := by decide +kernel
theorem dX8_price_39 : decode cX8_price 39 = .ok (.iadd, 1) := by decide +kernel
theorem dX8_price_40 : decode cX8_price 40 = .ok (.iconst 1, 1) := by decide +kernel
theorem dX8_price_41 : decode cX8_price 41 = .ok (.iadd, 1) := by decide +kernel
theorem dX8_price_42 : decode cX8_price 42 = .ok (.iaload, 1) := by decide +kernel
theorem dX8_price_43 : decode cX8_price 43 = .ok (.istore 5, 2) := by decide +kernel
theorem dX8_price_45 : decode cX8_price 45 = .ok (.iload_n 1, 1) := by decide +kernel
theorem dX8_price_46 : decode cX8_price 46 = .ok (.iconst 2, 1) := by decide +kernel
theorem dX8_price_47 : decode cX8_price 47 = .ok (.if_icmp .ge 8, 3) := by decide +kernel
theorem dX8_price_50 : decode cX8_price 50 = .ok (.iload 5, 2) := by decide +kernel
theorem dX8_price_52 : decode cX8_price 52 = .ok (.goto 7, 3) := by decide +kernel
theorem dX8_price_55 : decode cX8_price 55 = .ok (.iconst 2, 1) := by decide +kernel
theorem dX8_price_56 : decode cX8_price 56 = .ok (.iload 5, 2) := by decide +kernel
theorem dX8_price_58 : decode cX8_price 58 = .ok (.imul, 1) := by decide +kernel
theorem dX8_price_59 : decode cX8_price 59 = .ok (.istore 6, 2) := by decide +kernel
theorem dX8_price_61 : decode cX8_price 61 = .ok (.aload_n 0, 1) := by decide +kernel
theorem dX8_price_62 : decode cX8_price 62 = .ok (.getfield 7, 3) := by decide +kernel
theorem dX8_price_65 : decode cX8_price 65 = .ok (.bipush 6, 2) := by decide +kernel
theorem dX8_price_67 : decode cX8_price 67 = .ok (.iconst 4, 1) := by decide +kernel
theorem dX8_price_68 : decode cX8_price 68 = .ok (.iload 4, 2) := by decide +kernel
theorem dX8_price_70 : decode cX8_price 70 = .ok (.imul, 1) := by decide +kernel
theorem dX8_price_71 : decode cX8_price 71 = .ok (.iadd, 1) := by decide +kernel
theorem dX8_price_72 : decode cX8_price 72 = .ok (.iaload, 1) := by decide +kernel
theorem dX8_price_73 : decode cX8_price 73 = .ok (.tableswitch 85 0 4 #[35, 38, 41, 53, 58], 35) := by decide +kernel
theorem dX8_price_108 : decode cX8_price 108 = .ok (.iload 5, 2) := by decide +kernel
theorem dX8_price_110 : decode cX8_price 110 = .ok (.ireturn, 1) := by decide +kernel
theorem dX8_price_111 : decode cX8_price 111 = .ok (.iload 6, 2) := by decide +kernel
theorem dX8_price_113 : decode cX8_price 113 = .ok (.ireturn, 1) := by decide +kernel
theorem dX8_price_114 : decode cX8_price 114 = .ok (.iload_n 1, 1) := by decide +kernel
theorem dX8_price_115 : decode cX8_price 115 = .ok (.iconst 2, 1) := by decide +kernel
theorem dX8_price_116 : decode cX8_price 116 = .ok (.if_icmp .ge 7, 3) := by decide +kernel
theorem dX8_price_119 : decode cX8_price 119 = .ok (.iconst 0, 1) := by decide +kernel
theorem dX8_price_120 : decode cX8_price 120 = .ok (.goto 5, 3) := by decide +kernel
theorem dX8_price_123 : decode cX8_price 123 = .ok (.iload 5, 2) := by decide +kernel
theorem dX8_price_125 : decode cX8_price 125 = .ok (.ireturn, 1) := by decide +kernel
theorem dX8_price_126 : decode cX8_price 126 = .ok (.iload 6, 2) := by decide +kernel
theorem dX8_price_128 : decode cX8_price 128 = .ok (.iconst 3, 1) := by decide +kernel
theorem dX8_price_129 : decode cX8_price 129 = .ok (.iadd, 1) := by decide +kernel
theorem dX8_price_130 : decode cX8_price 130 = .ok (.ireturn, 1) := by decide +kernel
theorem dX8_price_131 : decode cX8_price 131 = .ok (.aload_n 0, 1) := by decide +kernel
theorem dX8_price_132 : decode cX8_price 132 = .ok (.getfield 7, 3) := by decide +kernel
theorem dX8_price_135 : decode cX8_price 135 = .ok (.bipush 96, 2) := by decide +kernel
theorem dX8_price_137 : decode cX8_price 137 = .ok (.bipush 60, 2) := by decide +kernel
theorem dX8_price_139 : decode cX8_price 139 = .ok (.iload_n 1, 1) := by decide +kernel
theorem dX8_price_140 : decode cX8_price 140 = .ok (.imul, 1) := by decide +kernel
theorem dX8_price_141 : decode cX8_price 141 = .ok (.iadd, 1) := by decide +kernel
theorem dX8_price_142 : decode cX8_price 142 = .ok (.iload_n 2, 1) := by decide +kernel
theorem dX8_price_143 : decode cX8_price 143 = .ok (.iadd, 1) := by decide +kernel
theorem dX8_price_144 : decode cX8_price 144 = .ok (.iaload, 1) := by decide +kernel
theorem dX8_price_145 : decode cX8_price 145 = .ok (.iconst 1, 1) := by decide +kernel
theorem dX8_price_146 : decode cX8_price 146 = .ok (.if_icmp .ne 10, 3) := by decide +kernel
theorem dX8_price_149 : decode cX8_price 149 = .ok (.iload 6, 2) := by decide +kernel
theorem dX8_price_151 : decode cX8_price 151 = .ok (.iconst 3, 1) := by decide +kernel
theorem dX8_price_152 : decode cX8_price 152 = .ok (.iadd, 1) := by decide +kernel
theorem dX8_price_153 : decode cX8_price 153 = .ok (.goto 4, 3) := by decide +kernel
theorem dX8_price_156 : decode cX8_price 156 = .ok (.iconst (-1), 1) := by decide +kernel
theorem dX8_price_157 : decode cX8_price 157 = .ok (.ireturn, 1) := by decide +kernel
theorem dX8_price_158 : decode cX8_price 158 = .ok (.iconst 0, 1) := by decide +kernel
theorem dX8_price_159 : decode cX8_price 159 = .ok (.ireturn, 1) := by decide +kernel
theorem dX8_pains_0 : decode cX8_pains 0 = .ok (.aload_n 0, 1) := by decide +kernel
theorem dX8_pains_1 : decode cX8_pains 1 = .ok (.iload_n 1, 1) := by decide +kernel
theorem dX8_pains_2 : decode cX8_pains 2 = .ok (.invokevirtual 78, 3) := by decide +kernel
theorem dX8_pains_5 : decode cX8_pains 5 = .ok (.ifCond .eq 20, 3) := by decide +kernel
theorem dX8_pains_8 : decode cX8_pains 8 = .ok (.iload_n 2, 1) := by decide +kernel
theorem dX8_pains_9 : decode cX8_pains 9 = .ok (.invokestatic 85, 3) := by decide +kernel
theorem dX8_pains_12 : decode cX8_pains 12 = .ok (.ifCond .eq 13, 3) := by decide +kernel
theorem dX8_pains_15 : decode cX8_pains 15 = .ok (.aload_n 0, 1) := by decide +kernel
theorem dX8_pains_16 : decode cX8_pains 16 = .ok (.iload_n 2, 1) := by decide +kernel
theorem dX8_pains_17 : decode cX8_pains 17 = .ok (.iload_n 1, 1) := by decide +kernel
theorem dX8_pains_18 : decode cX8_pains 18 = .ok (.iconst 0, 1) := by decide +kernel
theorem dX8_pains_19 : decode cX8_pains 19 = .ok (.invokevirtual 118, 3) := by decide +kernel
theorem dX8_pains_22 : decode cX8_pains 22 = .ok (.goto 9, 3) := by decide +kernel
theorem dX8_pains_25 : decode cX8_pains 25 = .ok (.aload_n 0, 1) := by decide +kernel
theorem dX8_pains_26 : decode cX8_pains 26 = .ok (.bipush (-2), 2) := by decide +kernel
theorem dX8_pains_28 : decode cX8_pains 28 = .ok (.invokevirtual 92, 3) := by decide +kernel
theorem dX8_pains_31 : decode cX8_pains 31 = .ok (.ireturn, 1) := by decide +kernel
theorem dX8_type_0 : decode cX8_type 0 = .ok (.iload_n 3, 1) := by decide +kernel
theorem dX8_type_1 : decode cX8_type 1 = .ok (.iconst 1, 1) := by decide +kernel
theorem dX8_type_2 : decode cX8_type 2 = .ok (.bipush 8, 2) := by decide +kernel
theorem dX8_type_4 : decode cX8_type 4 = .ok (.invokestatic 70, 3) := by decide +kernel
theorem dX8_type_7 : decode cX8_type 7 = .ok (.ifCond .ne 10, 3) := by decide +kernel
theorem dX8_type_10 : decode cX8_type 10 = .ok (.aload_n 0, 1) := by decide +kernel
theorem dX8_type_11 : decode cX8_type 11 = .ok (.bipush (-2), 2) := by decide +kernel
theorem dX8_type_13 : decode cX8_type 13 = .ok (.invokevirtual 92, 3) := by decide +kernel
theorem dX8_type_16 : decode cX8_type 16 = .ok (.ireturn, 1) := by decide +kernel
theorem dX8_type_17 : decode cX8_type 17 = .ok (.aload_n 0, 1) := by decide +kernel
theorem dX8_type_18 : decode cX8_type 18 = .ok (.getfield 121, 3) := by decide +kernel
theorem dX8_type_21 : decode cX8_type 21 = .ok (.iload_n 3, 1) := by decide +kernel
theorem dX8_type_22 : decode cX8_type 22 = .ok (.iadd, 1) := by decide +kernel
theorem dX8_type_23 : decode cX8_type 23 = .ok (.sipush 200, 3) := by decide +kernel
theorem dX8_type_26 : decode cX8_type 26 = .ok (.if_icmp .le 10, 3) := by decide +kernel
theorem dX8_type_29 : decode cX8_type 29 = .ok (.aload_n 0, 1) := by decide +kernel
theorem dX8_type_30 : decode cX8_type 30 = .ok (.bipush (-4), 2) := by decide +kernel
theorem dX8_type_32 : decode cX8_type 32 = .ok (.invokevirtual 92, 3) := by decide +kernel
theorem dX8_type_35 : decode cX8_type 35 = .ok (.ireturn, 1) := by decide +kernel
theorem dX8_type_36 : decode cX8_type 36 = .ok (.iload_n 3, 1) := by decide +kernel
theorem dX8_type_37 : decode cX8_type 37 = .ok (.iconst 1, 1) := by decide +kernel
theorem dX8_type_38 : decode cX8_type 38 = .ok (.isub, 1) := by decide +kernel
theorem dX8_type_39 : decode cX8_type 39 = .ok (.istore 4, 2) := by decide +kernel
theorem dX8_type_41 : decode cX8_type 41 = .ok (.iload 4, 2) := by decide +kernel
theorem dX8_type_43 : decode cX8_type 43 = .ok (.ifCond .lt 40, 3) := by decide +kernel
theorem dX8_type_46 : decode cX8_type 46 = .ok (.aload_n 0, 1) := by decide +kernel
theorem dX8_type_47 : decode cX8_type 47 = .ok (.getfield 26, 3) := by decide +kernel
theorem dX8_type_50 : decode cX8_type 50 = .ok (.aload_n 0, 1) := by decide +kernel
theorem dX8_type_51 : decode cX8_type 51 = .ok (.getfield 121, 3) := by decide +kernel
theorem dX8_type_54 : decode cX8_type 54 = .ok (.lload_n 1, 1) := by decide +kernel
theorem dX8_type_55 : decode cX8_type 55 = .ok (.bipush 8, 2) := by decide +kernel
theorem dX8_type_57 : decode cX8_type 57 = .ok (.iload 4, 2) := by decide +kernel
theorem dX8_type_59 : decode cX8_type 59 = .ok (.imul, 1) := by decide +kernel
theorem dX8_type_60 : decode cX8_type 60 = .ok (.lshr, 1) := by decide +kernel
theorem dX8_type_61 : decode cX8_type 61 = .ok (.ldc2_w 125, 3) := by decide +kernel
theorem dX8_type_64 : decode cX8_type 64 = .ok (.land, 1) := by decide +kernel
theorem dX8_type_65 : decode cX8_type 65 = .ok (.l2i, 1) := by decide +kernel
theorem dX8_type_66 : decode cX8_type 66 = .ok (.iastore, 1) := by decide +kernel
theorem dX8_type_67 : decode cX8_type 67 = .ok (.aload_n 0, 1) := by decide +kernel
theorem dX8_type_68 : decode cX8_type 68 = .ok (.dup, 1) := by decide +kernel
theorem dX8_type_69 : decode cX8_type 69 = .ok (.getfield 121, 3) := by decide +kernel
theorem dX8_type_72 : decode cX8_type 72 = .ok (.iconst 1, 1) := by decide +kernel
theorem dX8_type_73 : decode cX8_type 73 = .ok (.iadd, 1) := by decide +kernel
theorem dX8_type_74 : decode cX8_type 74 = .ok (.putfield 121, 3) := by decide +kernel
theorem dX8_type_77 : decode cX8_type 77 = .ok (.iinc 4 (-1), 3) := by decide +kernel
theorem dX8_type_80 : decode cX8_type 80 = .ok (.goto (-39), 3) := by decide +kernel
theorem dX8_type_83 : decode cX8_type 83 = .ok (.aload_n 0, 1) := by decide +kernel
theorem dX8_type_84 : decode cX8_type 84 = .ok (.getfield 121, 3) := by decide +kernel
theorem dX8_type_87 : decode cX8_type 87 = .ok (.ireturn, 1) := by decide +kernel
theorem dX8_clear_0 : decode cX8_clear 0 = .ok (.aload_n 0, 1) := by decide +kernel
theorem dX8_clear_1 : decode cX8_clear 1 = .ok (.getfield 121, 3) := by decide +kernel
theorem dX8_clear_4 : decode cX8_clear 4 = .ok (.istore_n 1, 1) := by decide +kernel
theorem dX8_clear_5 : decode cX8_clear 5 = .ok (.aload_n 0, 1) := by decide +kernel
theorem dX8_clear_6 : decode cX8_clear 6 = .ok (.iconst 0, 1) := by decide +kernel
theorem dX8_clear_7 : decode cX8_clear 7 = .ok (.putfield 121, 3) := by decide +kernel
theorem dX8_clear_10 : decode cX8_clear 10 = .ok (.iload_n 1, 1) := by decide +kernel
theorem dX8_clear_11 : decode cX8_clear 11 = .ok (.ireturn, 1) := by decide +kernel
theorem dX8_byteAt_0 : decode cX8_byteAt 0 = .ok (.iload_n 1, 1) := by decide +kernel
theorem dX8_byteAt_1 : decode cX8_byteAt 1 = .ok (.aload_n 0, 1) := by decide +kernel
theorem dX8_byteAt_2 : decode cX8_byteAt 2 = .ok (.getfield 121, 3) := by decide +kernel
theorem dX8_byteAt_5 : decode cX8_byteAt 5 = .ok (.if_icmp .ge 12, 3) := by decide +kernel
theorem dX8_byteAt_8 : decode cX8_byteAt 8 = .ok (.aload_n 0, 1) := by decide +kernel
theorem dX8_byteAt_9 : decode cX8_byteAt 9 = .ok (.getfield 26, 3) := by decide +kernel
theorem dX8_byteAt_12 : decode cX8_byteAt 12 = .ok (.iload_n 1, 1) := by decide +kernel
theorem dX8_byteAt_13 : decode cX8_byteAt 13 = .ok (.iaload, 1) := by decide +kernel
theorem dX8_byteAt_14 : decode cX8_byteAt 14 = .ok (.goto 4, 3) := by decide +kernel
theorem dX8_byteAt_17 : decode cX8_byteAt 17 = .ok (.iconst (-1), 1) := by decide +kernel
theorem dX8_byteAt_18 : decode cX8_byteAt 18 = .ok (.ireturn, 1) := by decide +kernel
theorem dX8_next_0 : decode cX8_next 0 = .ok (.aload_n 0, 1) := by decide +kernel
theorem dX8_next_1 : decode cX8_next 1 = .ok (.aload_n 0, 1) := by decide +kernel
theorem dX8_next_2 : decode cX8_next 2 = .ok (.getfield 127, 3) := by decide +kernel
theorem dX8_next_5 : decode cX8_next 5 = .ok (.invokevirtual 130, 3) := by decide +kernel
theorem dX8_next_8 : decode cX8_next 8 = .ok (.bipush 32, 2) := by decide +kernel
theorem dX8_next_10 : decode cX8_next 10 = .ok (.if_icmp .ne 16, 3) := by decide +kernel
theorem dX8_next_13 : decode cX8_next 13 = .ok (.aload_n 0, 1) := by decide +kernel
theorem dX8_next_14 : decode cX8_next 14 = .ok (.dup, 1) := by decide +kernel
theorem dX8_next_15 : decode cX8_next 15 = .ok (.getfield 127, 3) := by decide +kernel
theorem dX8_next_18 : decode cX8_next 18 = .ok (.iconst 1, 1) := by decide +kernel
theorem dX8_next_19 : decode cX8_next 19 = .ok (.iadd, 1) := by decide +kernel
theorem dX8_next_20 : decode cX8_next 20 = .ok (.putfield 127, 3) := by decide +kernel
theorem dX8_next_23 : decode cX8_next 23 = .ok (.goto (-23), 3) := by decide +kernel
theorem dX8_next_26 : decode cX8_next 26 = .ok (.aload_n 0, 1) := by decide +kernel
theorem dX8_next_27 : decode cX8_next 27 = .ok (.aload_n 0, 1) := by decide +kernel
theorem dX8_next_28 : decode cX8_next 28 = .ok (.getfield 127, 3) := by decide +kernel
theorem dX8_next_31 : decode cX8_next 31 = .ok (.putfield 133, 3) := by decide +kernel
theorem dX8_next_34 : decode cX8_next 34 = .ok (.aload_n 0, 1) := by decide +kernel
theorem dX8_next_35 : decode cX8_next 35 = .ok (.aload_n 0, 1) := by decide +kernel
theorem dX8_next_36 : decode cX8_next 36 = .ok (.getfield 127, 3) := by decide +kernel
theorem dX8_next_39 : decode cX8_next 39 = .ok (.invokevirtual 130, 3) := by decide +kernel
theorem dX8_next_42 : decode cX8_next 42 = .ok (.istore_n 1, 1) := by decide +kernel
theorem dX8_next_43 : decode cX8_next 43 = .ok (.iload_n 1, 1) := by decide +kernel
theorem dX8_next_44 : decode cX8_next 44 = .ok (.iconst (-1), 1) := by decide +kernel
theorem dX8_next_45 : decode cX8_next 45 = .ok (.if_icmp .ne 11, 3) := by decide +kernel
theorem dX8_next_48 : decode cX8_next 48 = .ok (.aload_n 0, 1) := by decide +kernel
theorem dX8_next_49 : decode cX8_next 49 = .ok (.iconst 0, 1) := by decide +kernel
theorem dX8_next_50 : decode cX8_next 50 = .ok (.putfield 136, 3) := by decide +kernel
theorem dX8_next_53 : decode cX8_next 53 = .ok (.goto 234, 3) := by decide +kernel
theorem dX8_next_56 : decode cX8_next 56 = .ok (.iload_n 1, 1) := by decide +kernel
theorem dX8_next_57 : decode cX8_next 57 = .ok (.bipush 97, 2) := by decide +kernel
theorem dX8_next_59 : decode cX8_next 59 = .ok (.bipush 122, 2) := by decide +kernel
theorem dX8_next_61 : decode cX8_next 61 = .ok (.invokestatic 70, 3) := by decide +kernel
theorem dX8_next_64 : decode cX8_next 64 = .ok (.ifCond .eq 83, 3) := by decide +kernel
theorem dX8_next_67 : decode cX8_next 67 = .ok (.aload_n 0, 1) := by decide +kernel
theorem dX8_next_68 : decode cX8_next 68 = .ok (.iconst 1, 1) := by decide +kernel
theorem dX8_next_69 : decode cX8_next 69 = .ok (.putfield 136, 3) := by decide +kernel
theorem dX8_next_72 : decode cX8_next 72 = .ok (.aload_n 0, 1) := by decide +kernel
theorem dX8_next_73 : decode cX8_next 73 = .ok (.lconst 0, 1) := by decide +kernel
theorem dX8_next_74 : decode cX8_next 74 = .ok (.putfield 139, 3) := by decide +kernel
theorem dX8_next_77 : decode cX8_next 77 = .ok (.aload_n 0, 1) := by decide +kernel
theorem dX8_next_78 : decode cX8_next 78 = .ok (.aload_n 0, 1) := by decide +kernel
theorem dX8_next_79 : decode cX8_next 79 = .ok (.getfield 127, 3) := by decide +kernel
theorem dX8_next_82 : decode cX8_next 82 = .ok (.invokevirtual 130, 3) := by decide +kernel
theorem dX8_next_85 : decode cX8_next 85 = .ok (.bipush 97, 2) := by decide +kernel
theorem dX8_next_87 : decode cX8_next 87 = .ok (.bipush 122, 2) := by decide +kernel
theorem dX8_next_89 : decode cX8_next 89 = .ok (.invokestatic 70, 3) := by decide +kernel
theorem dX8_next_92 : decode cX8_next 92 = .ok (.ifCond .eq 195, 3) := by decide +kernel
theorem dX8_next_95 : decode cX8_next 95 = .ok (.aload_n 0, 1) := by decide +kernel
theorem dX8_next_96 : decode cX8_next 96 = .ok (.aload_n 0, 1) := by decide +kernel
theorem dX8_next_97 : decode cX8_next 97 = .ok (.getfield 127, 3) := by decide +kernel
theorem dX8_next_100 : decode cX8_next 100 = .ok (.aload_n 0, 1) := by decide +kernel
theorem dX8_next_101 : decode cX8_next 101 = .ok (.getfield 133, 3) := by decide +kernel
theorem dX8_next_104 : decode cX8_next 104 = .ok (.isub, 1) := by decide +kernel
theorem dX8_next_105 : decode cX8_next 105 = .ok (.bipush 7, 2) := by decide +kernel
theorem dX8_next_107 : decode cX8_next 107 = .ok (.if_icmp .ge 23, 3) := by decide +kernel
theorem dX8_next_110 : decode cX8_next 110 = .ok (.aload_n 0, 1) := by decide +kernel
theorem dX8_next_111 : decode cX8_next 111 = .ok (.getfield 139, 3) := by decide +kernel
theorem dX8_next_114 : decode cX8_next 114 = .ok (.bipush 8, 2) := by decide +kernel
theorem dX8_next_116 : decode cX8_next 116 = .ok (.lshl, 1) := by decide +kernel
theorem dX8_next_117 : decode cX8_next 117 = .ok (.aload_n 0, 1) := by decide +kernel
theorem dX8_next_118 : decode cX8_next 118 = .ok (.aload_n 0, 1) := by decide +kernel
theorem dX8_next_119 : decode cX8_next 119 = .ok (.getfield 127, 3) := by decide +kernel
theorem dX8_next_122 : decode cX8_next 122 = .ok (.invokevirtual 130, 3) := by decide +kernel
theorem dX8_next_125 : decode cX8_next 125 = .ok (.i2l, 1) := by decide +kernel
theorem dX8_next_126 : decode cX8_next 126 = .ok (.lor, 1) := by decide +kernel
theorem dX8_next_127 : decode cX8_next 127 = .ok (.goto 4, 3) := by decide +kernel
theorem dX8_next_130 : decode cX8_next 130 = .ok (.lconst 0, 1) := by decide +kernel
theorem dX8_next_131 : decode cX8_next 131 = .ok (.putfield 139, 3) := by decide +kernel
theorem dX8_next_134 : decode cX8_next 134 = .ok (.aload_n 0, 1) := by decide +kernel
theorem dX8_next_135 : decode cX8_next 135 = .ok (.dup, 1) := by decide +kernel
theorem dX8_next_136 : decode cX8_next 136 = .ok (.getfield 127, 3) := by decide +kernel
theorem dX8_next_139 : decode cX8_next 139 = .ok (.iconst 1, 1) := by decide +kernel
theorem dX8_next_140 : decode cX8_next 140 = .ok (.iadd, 1) := by decide +kernel
theorem dX8_next_141 : decode cX8_next 141 = .ok (.putfield 127, 3) := by decide +kernel
theorem dX8_next_144 : decode cX8_next 144 = .ok (.goto (-67), 3) := by decide +kernel
theorem dX8_next_147 : decode cX8_next 147 = .ok (.iload_n 1, 1) := by decide +kernel
theorem dX8_next_148 : decode cX8_next 148 = .ok (.bipush 48, 2) := by decide +kernel
theorem dX8_next_150 : decode cX8_next 150 = .ok (.bipush 57, 2) := by decide +kernel
theorem dX8_next_152 : decode cX8_next 152 = .ok (.invokestatic 70, 3) := by decide +kernel
theorem dX8_next_155 : decode cX8_next 155 = .ok (.ifCond .eq 107, 3) := by decide +kernel
theorem dX8_next_158 : decode cX8_next 158 = .ok (.aload_n 0, 1) := by decide +kernel
theorem dX8_next_159 : decode cX8_next 159 = .ok (.iconst 0, 1) := by decide +kernel
theorem dX8_next_160 : decode cX8_next 160 = .ok (.putfield 143, 3) := by decide +kernel
theorem dX8_next_163 : decode cX8_next 163 = .ok (.aload_n 0, 1) := by decide +kernel
theorem dX8_next_164 : decode cX8_next 164 = .ok (.aload_n 0, 1) := by decide +kernel
theorem dX8_next_165 : decode cX8_next 165 = .ok (.getfield 127, 3) := by decide +kernel
theorem dX8_next_168 : decode cX8_next 168 = .ok (.invokevirtual 130, 3) := by decide +kernel
theorem dX8_next_171 : decode cX8_next 171 = .ok (.bipush 48, 2) := by decide +kernel
theorem dX8_next_173 : decode cX8_next 173 = .ok (.bipush 57, 2) := by decide +kernel
theorem dX8_next_175 : decode cX8_next 175 = .ok (.invokestatic 70, 3) := by decide +kernel
theorem dX8_next_178 : decode cX8_next 178 = .ok (.ifCond .eq 59, 3) := by decide +kernel
theorem dX8_next_181 : decode cX8_next 181 = .ok (.aload_n 0, 1) := by decide +kernel
theorem dX8_next_182 : decode cX8_next 182 = .ok (.aload_n 0, 1) := by decide +kernel
theorem dX8_next_183 : decode cX8_next 183 = .ok (.getfield 127, 3) := by decide +kernel
theorem dX8_next_186 : decode cX8_next 186 = .ok (.aload_n 0, 1) := by decide +kernel
theorem dX8_next_187 : decode cX8_next 187 = .ok (.getfield 133, 3) := by decide +kernel
theorem dX8_next_190 : decode cX8_next 190 = .ok (.isub, 1) := by decide +kernel
theorem dX8_next_191 : decode cX8_next 191 = .ok (.iconst 4, 1) := by decide +kernel
theorem dX8_next_192 : decode cX8_next 192 = .ok (.if_icmp .ge 25, 3) := by decide +kernel
theorem dX8_next_195 : decode cX8_next 195 = .ok (.bipush 10, 2) := by decide +kernel
theorem dX8_next_197 : decode cX8_next 197 = .ok (.aload_n 0, 1) := by decide +kernel
theorem dX8_next_198 : decode cX8_next 198 = .ok (.getfield 143, 3) := by decide +kernel
theorem dX8_next_201 : decode cX8_next 201 = .ok (.imul, 1) := by decide +kernel
theorem dX8_next_202 : decode cX8_next 202 = .ok (.aload_n 0, 1) := by decide +kernel
theorem dX8_next_203 : decode cX8_next 203 = .ok (.aload_n 0, 1) := by decide +kernel
theorem dX8_next_204 : decode cX8_next 204 = .ok (.getfield 127, 3) := by decide +kernel
theorem dX8_next_207 : decode cX8_next 207 = .ok (.invokevirtual 130, 3) := by decide +kernel
theorem dX8_next_210 : decode cX8_next 210 = .ok (.iadd, 1) := by decide +kernel
theorem dX8_next_211 : decode cX8_next 211 = .ok (.bipush 48, 2) := by decide +kernel
theorem dX8_next_213 : decode cX8_next 213 = .ok (.isub, 1) := by decide +kernel
theorem dX8_next_214 : decode cX8_next 214 = .ok (.goto 7, 3) := by decide +kernel
theorem dX8_next_217 : decode cX8_next 217 = .ok (.aload_n 0, 1) := by decide +kernel
theorem dX8_next_218 : decode cX8_next 218 = .ok (.getfield 143, 3) := by decide +kernel
theorem dX8_next_221 : decode cX8_next 221 = .ok (.putfield 143, 3) := by decide +kernel
theorem dX8_next_224 : decode cX8_next 224 = .ok (.aload_n 0, 1) := by decide +kernel
theorem dX8_next_225 : decode cX8_next 225 = .ok (.dup, 1) := by decide +kernel
theorem dX8_next_226 : decode cX8_next 226 = .ok (.getfield 127, 3) := by decide +kernel
theorem dX8_next_229 : decode cX8_next 229 = .ok (.iconst 1, 1) := by decide +kernel
theorem dX8_next_230 : decode cX8_next 230 = .ok (.iadd, 1) := by decide +kernel
theorem dX8_next_231 : decode cX8_next 231 = .ok (.putfield 127, 3) := by decide +kernel
theorem dX8_next_234 : decode cX8_next 234 = .ok (.goto (-71), 3) := by decide +kernel
theorem dX8_next_237 : decode cX8_next 237 = .ok (.aload_n 0, 1) := by decide +kernel
theorem dX8_next_238 : decode cX8_next 238 = .ok (.aload_n 0, 1) := by decide +kernel
theorem dX8_next_239 : decode cX8_next 239 = .ok (.getfield 127, 3) := by decide +kernel
theorem dX8_next_242 : decode cX8_next 242 = .ok (.aload_n 0, 1) := by decide +kernel
theorem dX8_next_243 : decode cX8_next 243 = .ok (.getfield 133, 3) := by decide +kernel
theorem dX8_next_246 : decode cX8_next 246 = .ok (.isub, 1) := by decide +kernel
theorem dX8_next_247 : decode cX8_next 247 = .ok (.iconst 5, 1) := by decide +kernel
theorem dX8_next_248 : decode cX8_next 248 = .ok (.if_icmp .ge 7, 3) := by decide +kernel
theorem dX8_next_251 : decode cX8_next 251 = .ok (.iconst 2, 1) := by decide +kernel
theorem dX8_next_252 : decode cX8_next 252 = .ok (.goto 4, 3) := by decide +kernel
theorem dX8_next_255 : decode cX8_next 255 = .ok (.iconst 4, 1) := by decide +kernel
theorem dX8_next_256 : decode cX8_next 256 = .ok (.putfield 136, 3) := by decide +kernel
theorem dX8_next_259 : decode cX8_next 259 = .ok (.goto 28, 3) := by decide +kernel
theorem dX8_next_262 : decode cX8_next 262 = .ok (.aload_n 0, 1) := by decide +kernel
theorem dX8_next_263 : decode cX8_next 263 = .ok (.iload_n 1, 1) := by decide +kernel
theorem dX8_next_264 : decode cX8_next 264 = .ok (.bipush 59, 2) := by decide +kernel
theorem dX8_next_266 : decode cX8_next 266 = .ok (.if_icmp .ne 7, 3) := by decide +kernel
theorem dX8_next_269 : decode cX8_next 269 = .ok (.iconst 3, 1) := by decide +kernel
theorem dX8_next_270 : decode cX8_next 270 = .ok (.goto 4, 3) := by decide +kernel
theorem dX8_next_273 : decode cX8_next 273 = .ok (.iconst 4, 1) := by decide +kernel
theorem dX8_next_274 : decode cX8_next 274 = .ok (.putfield 136, 3) := by decide +kernel
theorem dX8_next_277 : decode cX8_next 277 = .ok (.aload_n 0, 1) := by decide +kernel
theorem dX8_next_278 : decode cX8_next 278 = .ok (.dup, 1) := by decide +kernel
theorem dX8_next_279 : decode cX8_next 279 = .ok (.getfield 127, 3) := by decide +kernel
theorem dX8_next_282 : decode cX8_next 282 = .ok (.iconst 1, 1) := by decide +kernel
theorem dX8_next_283 : decode cX8_next 283 = .ok (.iadd, 1) := by decide +kernel
theorem dX8_next_284 : decode cX8_next 284 = .ok (.putfield 127, 3) := by decide +kernel
theorem dX8_next_287 : decode cX8_next 287 = .ok (.return_, 1) := by decide +kernel
theorem dX8_item_0 : decode cX8_item 0 = .ok (.aload_n 0, 1) := by decide +kernel
theorem dX8_item_1 : decode cX8_item 1 = .ok (.getfield 136, 3) := by decide +kernel
theorem dX8_item_4 : decode cX8_item 4 = .ok (.iconst 1, 1) := by decide +kernel
theorem dX8_item_5 : decode cX8_item 5 = .ok (.if_icmp .eq 7, 3) := by decide +kernel
theorem dX8_item_8 : decode cX8_item 8 = .ok (.iconst (-1), 1) := by decide +kernel
theorem dX8_item_9 : decode cX8_item 9 = .ok (.goto 94, 3) := by decide +kernel
theorem dX8_item_12 : decode cX8_item 12 = .ok (.aload_n 0, 1) := by decide +kernel
theorem dX8_item_13 : decode cX8_item 13 = .ok (.getfield 139, 3) := by decide +kernel
theorem dX8_item_16 : decode cX8_item 16 = .ok (.ldc2_w 146, 3) := by decide +kernel
theorem dX8_item_19 : decode cX8_item 19 = .ok (.lcmp, 1) := by decide +kernel
theorem dX8_item_20 : decode cX8_item 20 = .ok (.ifCond .ne 7, 3) := by decide +kernel
theorem dX8_item_23 : decode cX8_item 23 = .ok (.iconst 0, 1) := by decide +kernel
theorem dX8_item_24 : decode cX8_item 24 = .ok (.goto 79, 3) := by decide +kernel
theorem dX8_item_27 : decode cX8_item 27 = .ok (.aload_n 0, 1) := by decide +kernel
theorem dX8_item_28 : decode cX8_item 28 = .ok (.getfield 139, 3) := by decide +kernel
theorem dX8_item_31 : decode cX8_item 31 = .ok (.ldc2_w 148, 3) := by decide +kernel
theorem dX8_item_34 : decode cX8_item 34 = .ok (.lcmp, 1) := by decide +kernel
theorem dX8_item_35 : decode cX8_item 35 = .ok (.ifCond .ne 7, 3) := by decide +kernel
theorem dX8_item_38 : decode cX8_item 38 = .ok (.iconst 1, 1) := by decide +kernel
theorem dX8_item_39 : decode cX8_item 39 = .ok (.goto 64, 3) := by decide +kernel
theorem dX8_item_42 : decode cX8_item 42 = .ok (.aload_n 0, 1) := by decide +kernel
theorem dX8_item_43 : decode cX8_item 43 = .ok (.getfield 139, 3) := by decide +kernel
theorem dX8_item_46 : decode cX8_item 46 = .ok (.ldc2_w 150, 3) := by decide +kernel
theorem dX8_item_49 : decode cX8_item 49 = .ok (.lcmp, 1) := by decide +kernel
theorem dX8_item_50 : decode cX8_item 50 = .ok (.ifCond .ne 7, 3) := by decide +kernel
theorem dX8_item_53 : decode cX8_item 53 = .ok (.iconst 2, 1) := by decide +kernel
theorem dX8_item_54 : decode cX8_item 54 = .ok (.goto 49, 3) := by decide +kernel
theorem dX8_item_57 : decode cX8_item 57 = .ok (.aload_n 0, 1) := by decide +kernel
theorem dX8_item_58 : decode cX8_item 58 = .ok (.getfield 139, 3) := by decide +kernel
theorem dX8_item_61 : decode cX8_item 61 = .ok (.ldc2_w 152, 3) := by decide +kernel
theorem dX8_item_64 : decode cX8_item 64 = .ok (.lcmp, 1) := by decide +kernel
theorem dX8_item_65 : decode cX8_item 65 = .ok (.ifCond .ne 7, 3) := by decide +kernel
theorem dX8_item_68 : decode cX8_item 68 = .ok (.iconst 3, 1) := by decide +kernel
theorem dX8_item_69 : decode cX8_item 69 = .ok (.goto 34, 3) := by decide +kernel
theorem dX8_item_72 : decode cX8_item 72 = .ok (.aload_n 0, 1) := by decide +kernel
theorem dX8_item_73 : decode cX8_item 73 = .ok (.getfield 139, 3) := by decide +kernel
theorem dX8_item_76 : decode cX8_item 76 = .ok (.ldc2_w 154, 3) := by decide +kernel
theorem dX8_item_79 : decode cX8_item 79 = .ok (.lcmp, 1) := by decide +kernel
theorem dX8_item_80 : decode cX8_item 80 = .ok (.ifCond .ne 7, 3) := by decide +kernel
theorem dX8_item_83 : decode cX8_item 83 = .ok (.iconst 4, 1) := by decide +kernel
theorem dX8_item_84 : decode cX8_item 84 = .ok (.goto 19, 3) := by decide +kernel
theorem dX8_item_87 : decode cX8_item 87 = .ok (.aload_n 0, 1) := by decide +kernel
theorem dX8_item_88 : decode cX8_item 88 = .ok (.getfield 139, 3) := by decide +kernel
theorem dX8_item_91 : decode cX8_item 91 = .ok (.ldc2_w 156, 3) := by decide +kernel
theorem dX8_item_94 : decode cX8_item 94 = .ok (.lcmp, 1) := by decide +kernel
theorem dX8_item_95 : decode cX8_item 95 = .ok (.ifCond .ne 7, 3) := by decide +kernel
theorem dX8_item_98 : decode cX8_item 98 = .ok (.iconst 5, 1) := by decide +kernel
theorem dX8_item_99 : decode cX8_item 99 = .ok (.goto 4, 3) := by decide +kernel
theorem dX8_item_102 : decode cX8_item 102 = .ok (.iconst (-1), 1) := by decide +kernel
theorem dX8_item_103 : decode cX8_item 103 = .ok (.ireturn, 1) := by decide +kernel
theorem dX8_numbersOf_0 : decode cX8_numbersOf 0 = .ok (.iload_n 0, 1) := by decide +kernel
theorem dX8_numbersOf_1 : decode cX8_numbersOf 1 = .ok (.ifCond .ne 7, 3) := by decide +kernel
theorem dX8_numbersOf_4 : decode cX8_numbersOf 4 = .ok (.iconst 2, 1) := by decide +kernel
theorem dX8_numbersOf_5 : decode cX8_numbersOf 5 = .ok (.goto 18, 3) := by decide +kernel
theorem dX8_numbersOf_8 : decode cX8_numbersOf 8 = .ok (.iload_n 0, 1) := by decide +kernel
theorem dX8_numbersOf_9 : decode cX8_numbersOf 9 = .ok (.iconst 3, 1) := by decide +kernel
theorem dX8_numbersOf_10 : decode cX8_numbersOf 10 = .ok (.if_icmp .eq 8, 3) := by decide +kernel
theorem dX8_numbersOf_13 : decode cX8_numbersOf 13 = .ok (.iload_n 0, 1) := by decide +kernel
theorem dX8_numbersOf_14 : decode cX8_numbersOf 14 = .ok (.iconst 5, 1) := by decide +kernel
theorem dX8_numbersOf_15 : decode cX8_numbersOf 15 = .ok (.if_icmp .ne 7, 3) := by decide +kernel
theorem dX8_numbersOf_18 : decode cX8_numbersOf 18 = .ok (.iconst 1, 1) := by decide +kernel
theorem dX8_numbersOf_19 : decode cX8_numbersOf 19 = .ok (.goto 4, 3) := by decide +kernel
theorem dX8_numbersOf_22 : decode cX8_numbersOf 22 = .ok (.iconst 3, 1) := by decide +kernel
theorem dX8_numbersOf_23 : decode cX8_numbersOf 23 = .ok (.ireturn, 1) := by decide +kernel
theorem dX8_readItem_0 : decode cX8_readItem 0 = .ok (.aload_n 0, 1) := by decide +kernel
theorem dX8_readItem_1 : decode cX8_readItem 1 = .ok (.invokevirtual 158, 3) := by decide +kernel
theorem dX8_readItem_4 : decode cX8_readItem 4 = .ok (.istore_n 1, 1) := by decide +kernel
theorem dX8_readItem_5 : decode cX8_readItem 5 = .ok (.aload_n 0, 1) := by decide +kernel
theorem dX8_readItem_6 : decode cX8_readItem 6 = .ok (.iload_n 1, 1) := by decide +kernel
theorem dX8_readItem_7 : decode cX8_readItem 7 = .ok (.iconst (-1), 1) := by decide +kernel
theorem dX8_readItem_8 : decode cX8_readItem 8 = .ok (.if_icmp .ne 10, 3) := by decide +kernel
theorem dX8_readItem_11 : decode cX8_readItem 11 = .ok (.aload_n 0, 1) := by decide +kernel
theorem dX8_readItem_12 : decode cX8_readItem 12 = .ok (.getfield 133, 3) := by decide +kernel
theorem dX8_readItem_15 : decode cX8_readItem 15 = .ok (.goto 4, 3) := by decide +kernel
theorem dX8_readItem_18 : decode cX8_readItem 18 = .ok (.iconst (-1), 1) := by decide +kernel
theorem dX8_readItem_19 : decode cX8_readItem 19 = .ok (.putfield 162, 3) := by decide +kernel
theorem dX8_readItem_22 : decode cX8_readItem 22 = .ok (.iconst 0, 1) := by decide +kernel
theorem dX8_readItem_23 : decode cX8_readItem 23 = .ok (.istore_n 2, 1) := by decide +kernel
theorem dX8_readItem_24 : decode cX8_readItem 24 = .ok (.iload_n 2, 1) := by decide +kernel
theorem dX8_readItem_25 : decode cX8_readItem 25 = .ok (.iload_n 1, 1) := by decide +kernel
theorem dX8_readItem_26 : decode cX8_readItem 26 = .ok (.invokestatic 165, 3) := by decide +kernel
theorem dX8_readItem_29 : decode cX8_readItem 29 = .ok (.if_icmp .ge 51, 3) := by decide +kernel
theorem dX8_readItem_32 : decode cX8_readItem 32 = .ok (.aload_n 0, 1) := by decide +kernel
theorem dX8_readItem_33 : decode cX8_readItem 33 = .ok (.getfield 162, 3) := by decide +kernel
theorem dX8_readItem_36 : decode cX8_readItem 36 = .ok (.iconst (-1), 1) := by decide +kernel
theorem dX8_readItem_37 : decode cX8_readItem 37 = .ok (.if_icmp .ne 43, 3) := by decide +kernel
theorem dX8_readItem_40 : decode cX8_readItem 40 = .ok (.aload_n 0, 1) := by decide +kernel
theorem dX8_readItem_41 : decode cX8_readItem 41 = .ok (.invokevirtual 168, 3) := by decide +kernel
theorem dX8_readItem_44 : decode cX8_readItem 44 = .ok (.aload_n 0, 1) := by decide +kernel
theorem dX8_readItem_45 : decode cX8_readItem 45 = .ok (.getfield 32, 3) := by decide +kernel
theorem dX8_readItem_48 : decode cX8_readItem 48 = .ok (.iload_n 2, 1) := by decide +kernel
theorem dX8_readItem_49 : decode cX8_readItem 49 = .ok (.aload_n 0, 1) := by decide +kernel
theorem dX8_readItem_50 : decode cX8_readItem 50 = .ok (.getfield 143, 3) := by decide +kernel
theorem dX8_readItem_53 : decode cX8_readItem 53 = .ok (.iastore, 1) := by decide +kernel
theorem dX8_readItem_54 : decode cX8_readItem 54 = .ok (.aload_n 0, 1) := by decide +kernel
theorem dX8_readItem_55 : decode cX8_readItem 55 = .ok (.aload_n 0, 1) := by decide +kernel
theorem dX8_readItem_56 : decode cX8_readItem 56 = .ok (.getfield 136, 3) := by decide +kernel
theorem dX8_readItem_59 : decode cX8_readItem 59 = .ok (.iconst 2, 1) := by decide +kernel
theorem dX8_readItem_60 : decode cX8_readItem 60 = .ok (.if_icmp .ne 7, 3) := by decide +kernel
theorem dX8_readItem_63 : decode cX8_readItem 63 = .ok (.iconst (-1), 1) := by decide +kernel
theorem dX8_readItem_64 : decode cX8_readItem 64 = .ok (.goto 7, 3) := by decide +kernel
theorem dX8_readItem_67 : decode cX8_readItem 67 = .ok (.aload_n 0, 1) := by decide +kernel
theorem dX8_readItem_68 : decode cX8_readItem 68 = .ok (.getfield 133, 3) := by decide +kernel
theorem dX8_readItem_71 : decode cX8_readItem 71 = .ok (.putfield 162, 3) := by decide +kernel
theorem dX8_readItem_74 : decode cX8_readItem 74 = .ok (.iinc 2 1, 3) := by decide +kernel
theorem dX8_readItem_77 : decode cX8_readItem 77 = .ok (.goto (-53), 3) := by decide +kernel
theorem dX8_readItem_80 : decode cX8_readItem 80 = .ok (.aload_n 0, 1) := by decide +kernel
theorem dX8_readItem_81 : decode cX8_readItem 81 = .ok (.getfield 162, 3) := by decide +kernel
theorem dX8_readItem_84 : decode cX8_readItem 84 = .ok (.iconst (-1), 1) := by decide +kernel
theorem dX8_readItem_85 : decode cX8_readItem 85 = .ok (.if_icmp .ne 27, 3) := by decide +kernel
theorem dX8_readItem_88 : decode cX8_readItem 88 = .ok (.aload_n 0, 1) := by decide +kernel
theorem dX8_readItem_89 : decode cX8_readItem 89 = .ok (.invokevirtual 168, 3) := by decide +kernel
theorem dX8_readItem_92 : decode cX8_readItem 92 = .ok (.aload_n 0, 1) := by decide +kernel
theorem dX8_readItem_93 : decode cX8_readItem 93 = .ok (.aload_n 0, 1) := by decide +kernel
theorem dX8_readItem_94 : decode cX8_readItem 94 = .ok (.getfield 136, 3) := by decide +kernel
theorem dX8_readItem_97 : decode cX8_readItem 97 = .ok (.iconst 3, 1) := by decide +kernel
theorem dX8_readItem_98 : decode cX8_readItem 98 = .ok (.if_icmp .ne 7, 3) := by decide +kernel
theorem dX8_readItem_101 : decode cX8_readItem 101 = .ok (.iconst (-1), 1) := by decide +kernel
theorem dX8_readItem_102 : decode cX8_readItem 102 = .ok (.goto 7, 3) := by decide +kernel
theorem dX8_readItem_105 : decode cX8_readItem 105 = .ok (.aload_n 0, 1) := by decide +kernel
theorem dX8_readItem_106 : decode cX8_readItem 106 = .ok (.getfield 133, 3) := by decide +kernel
theorem dX8_readItem_109 : decode cX8_readItem 109 = .ok (.putfield 162, 3) := by decide +kernel
theorem dX8_readItem_112 : decode cX8_readItem 112 = .ok (.aload_n 0, 1) := by decide +kernel
theorem dX8_readItem_113 : decode cX8_readItem 113 = .ok (.invokevirtual 168, 3) := by decide +kernel
theorem dX8_readItem_116 : decode cX8_readItem 116 = .ok (.iload_n 1, 1) := by decide +kernel
theorem dX8_readItem_117 : decode cX8_readItem 117 = .ok (.ireturn, 1) := by decide +kernel
theorem dX8_findFault_0 : decode cX8_findFault 0 = .ok (.iconst (-1), 1) := by decide +kernel
theorem dX8_findFault_1 : decode cX8_findFault 1 = .ok (.istore_n 1, 1) := by decide +kernel
theorem dX8_findFault_2 : decode cX8_findFault 2 = .ok (.aload_n 0, 1) := by decide +kernel
theorem dX8_findFault_3 : decode cX8_findFault 3 = .ok (.iconst 0, 1) := by decide +kernel
theorem dX8_findFault_4 : decode cX8_findFault 4 = .ok (.putfield 127, 3) := by decide +kernel
theorem dX8_findFault_7 : decode cX8_findFault 7 = .ok (.aload_n 0, 1) := by decide +kernel
theorem dX8_findFault_8 : decode cX8_findFault 8 = .ok (.invokevirtual 168, 3) := by decide +kernel
theorem dX8_findFault_11 : decode cX8_findFault 11 = .ok (.aload_n 0, 1) := by decide +kernel
theorem dX8_findFault_12 : decode cX8_findFault 12 = .ok (.getfield 136, 3) := by decide +kernel
theorem dX8_findFault_15 : decode cX8_findFault 15 = .ok (.ifCond .eq 21, 3) := by decide +kernel
theorem dX8_findFault_18 : decode cX8_findFault 18 = .ok (.iload_n 1, 1) := by decide +kernel
theorem dX8_findFault_19 : decode cX8_findFault 19 = .ok (.iconst (-1), 1) := by decide +kernel
theorem dX8_findFault_20 : decode cX8_findFault 20 = .ok (.if_icmp .ne 16, 3) := by decide +kernel
theorem dX8_findFault_23 : decode cX8_findFault 23 = .ok (.aload_n 0, 1) := by decide +kernel
theorem dX8_findFault_24 : decode cX8_findFault 24 = .ok (.invokevirtual 171, 3) := by decide +kernel
theorem dX8_findFault_27 : decode cX8_findFault 27 = .ok (.pop, 1) := by decide +kernel
theorem dX8_findFault_28 : decode cX8_findFault 28 = .ok (.aload_n 0, 1) := by decide +kernel
theorem dX8_findFault_29 : decode cX8_findFault 29 = .ok (.getfield 162, 3) := by decide +kernel
theorem dX8_findFault_32 : decode cX8_findFault 32 = .ok (.istore_n 1, 1) := by decide +kernel
theorem dX8_findFault_33 : decode cX8_findFault 33 = .ok (.goto (-22), 3) := by decide +kernel
theorem dX8_findFault_36 : decode cX8_findFault 36 = .ok (.iload_n 1, 1) := by decide +kernel
theorem dX8_findFault_37 : decode cX8_findFault 37 = .ok (.ireturn, 1) := by decide +kernel
theorem dX8_isDone_0 : decode cX8_isDone 0 = .ok (.aload_n 0, 1) := by decide +kernel
theorem dX8_isDone_1 : decode cX8_isDone 1 = .ok (.aload_n 0, 1) := by decide +kernel
theorem dX8_isDone_2 : decode cX8_isDone 2 = .ok (.getfield 32, 3) := by decide +kernel
theorem dX8_isDone_5 : decode cX8_isDone 5 = .ok (.iconst 1, 1) := by decide +kernel
theorem dX8_isDone_6 : decode cX8_isDone 6 = .ok (.iaload, 1) := by decide +kernel
theorem dX8_isDone_7 : decode cX8_isDone 7 = .ok (.aload_n 0, 1) := by decide +kernel
theorem dX8_isDone_8 : decode cX8_isDone 8 = .ok (.getfield 32, 3) := by decide +kernel
theorem dX8_isDone_11 : decode cX8_isDone 11 = .ok (.iconst 2, 1) := by decide +kernel
theorem dX8_isDone_12 : decode cX8_isDone 12 = .ok (.iaload, 1) := by decide +kernel
theorem dX8_isDone_13 : decode cX8_isDone 13 = .ok (.invokevirtual 74, 3) := by decide +kernel
theorem dX8_isDone_16 : decode cX8_isDone 16 = .ok (.istore_n 2, 1) := by decide +kernel
theorem dX8_isDone_17 : decode cX8_isDone 17 = .ok (.bipush 12, 2) := by decide +kernel
theorem dX8_isDone_19 : decode cX8_isDone 19 = .ok (.aload_n 0, 1) := by decide +kernel
theorem dX8_isDone_20 : decode cX8_isDone 20 = .ok (.getfield 32, 3) := by decide +kernel
theorem dX8_isDone_23 : decode cX8_isDone 23 = .ok (.iconst 2, 1) := by decide +kernel
theorem dX8_isDone_24 : decode cX8_isDone 24 = .ok (.iaload, 1) := by decide +kernel
theorem dX8_isDone_25 : decode cX8_isDone 25 = .ok (.imul, 1) := by decide +kernel
theorem dX8_isDone_26 : decode cX8_isDone 26 = .ok (.aload_n 0, 1) := by decide +kernel
theorem dX8_isDone_27 : decode cX8_isDone 27 = .ok (.getfield 32, 3) := by decide +kernel
theorem dX8_isDone_30 : decode cX8_isDone 30 = .ok (.iconst 1, 1) := by decide +kernel
theorem dX8_isDone_31 : decode cX8_isDone 31 = .ok (.iaload, 1) := by decide +kernel
theorem dX8_isDone_32 : decode cX8_isDone 32 = .ok (.iadd, 1) := by decide +kernel
theorem dX8_isDone_33 : decode cX8_isDone 33 = .ok (.istore_n 3, 1) := by decide +kernel
theorem dX8_isDone_34 : decode cX8_isDone 34 = .ok (.iload_n 1, 1) := by decide +kernel
theorem dX8_isDone_35 : decode cX8_isDone 35 = .ok (.tableswitch 159 0 4 #[33, 58, 89, 115, 134], 33) := by decide +kernel
theorem dX8_isDone_68 : decode cX8_isDone 68 = .ok (.aload_n 0, 1) := by decide +kernel
theorem dX8_isDone_69 : decode cX8_isDone 69 = .ok (.aload_n 0, 1) := by decide +kernel
theorem dX8_isDone_70 : decode cX8_isDone 70 = .ok (.getfield 32, 3) := by decide +kernel
theorem dX8_isDone_73 : decode cX8_isDone 73 = .ok (.iconst 0, 1) := by decide +kernel
theorem dX8_isDone_74 : decode cX8_isDone 74 = .ok (.iaload, 1) := by decide +kernel
theorem dX8_isDone_75 : decode cX8_isDone 75 = .ok (.aload_n 0, 1) := by decide +kernel
theorem dX8_isDone_76 : decode cX8_isDone 76 = .ok (.getfield 32, 3) := by decide +kernel
theorem dX8_isDone_79 : decode cX8_isDone 79 = .ok (.iconst 1, 1) := by decide +kernel
theorem dX8_isDone_80 : decode cX8_isDone 80 = .ok (.iaload, 1) := by decide +kernel
theorem dX8_isDone_81 : decode cX8_isDone 81 = .ok (.invokevirtual 88, 3) := by decide +kernel
theorem dX8_isDone_84 : decode cX8_isDone 84 = .ok (.ifCond .le 7, 3) := by decide +kernel
theorem dX8_isDone_87 : decode cX8_isDone 87 = .ok (.iconst 1, 1) := by decide +kernel
theorem dX8_isDone_88 : decode cX8_isDone 88 = .ok (.goto 4, 3) := by decide +kernel
theorem dX8_isDone_91 : decode cX8_isDone 91 = .ok (.iconst 0, 1) := by decide +kernel
theorem dX8_isDone_92 : decode cX8_isDone 92 = .ok (.ireturn, 1) := by decide +kernel
theorem dX8_isDone_93 : decode cX8_isDone 93 = .ok (.aload_n 0, 1) := by decide +kernel
theorem dX8_isDone_94 : decode cX8_isDone 94 = .ok (.aload_n 0, 1) := by decide +kernel
theorem dX8_isDone_95 : decode cX8_isDone 95 = .ok (.getfield 32, 3) := by decide +kernel
theorem dX8_isDone_98 : decode cX8_isDone 98 = .ok (.iconst 0, 1) := by decide +kernel
theorem dX8_isDone_99 : decode cX8_isDone 99 = .ok (.iaload, 1) := by decide +kernel
theorem dX8_isDone_100 : decode cX8_isDone 100 = .ok (.aload_n 0, 1) := by decide +kernel
theorem dX8_isDone_101 : decode cX8_isDone 101 = .ok (.getfield 32, 3) := by decide +kernel
theorem dX8_isDone_104 : decode cX8_isDone 104 = .ok (.iconst 1, 1) := by decide +kernel
theorem dX8_isDone_105 : decode cX8_isDone 105 = .ok (.iaload, 1) := by decide +kernel
theorem dX8_isDone_106 : decode cX8_isDone 106 = .ok (.aload_n 0, 1) := by decide +kernel
theorem dX8_isDone_107 : decode cX8_isDone 107 = .ok (.getfield 32, 3) := by decide +kernel
theorem dX8_isDone_110 : decode cX8_isDone 110 = .ok (.iconst 2, 1) := by decide +kernel
theorem dX8_isDone_111 : decode cX8_isDone 111 = .ok (.iaload, 1) := by decide +kernel
theorem dX8_isDone_112 : decode cX8_isDone 112 = .ok (.invokevirtual 96, 3) := by decide +kernel
theorem dX8_isDone_115 : decode cX8_isDone 115 = .ok (.ifCond .lt 7, 3) := by decide +kernel
theorem dX8_isDone_118 : decode cX8_isDone 118 = .ok (.iconst 1, 1) := by decide +kernel
theorem dX8_isDone_119 : decode cX8_isDone 119 = .ok (.goto 4, 3) := by decide +kernel
theorem dX8_isDone_122 : decode cX8_isDone 122 = .ok (.iconst 0, 1) := by decide +kernel
theorem dX8_isDone_123 : decode cX8_isDone 123 = .ok (.ireturn, 1) := by decide +kernel
theorem dX8_isDone_124 : decode cX8_isDone 124 = .ok (.iload_n 2, 1) := by decide +kernel
theorem dX8_isDone_125 : decode cX8_isDone 125 = .ok (.ifCond .eq 23, 3) := by decide +kernel
theorem dX8_isDone_128 : decode cX8_isDone 128 = .ok (.aload_n 0, 1) := by decide +kernel
theorem dX8_isDone_129 : decode cX8_isDone 129 = .ok (.iload_n 3, 1) := by decide +kernel
theorem dX8_isDone_130 : decode cX8_isDone 130 = .ok (.aload_n 0, 1) := by decide +kernel
theorem dX8_isDone_131 : decode cX8_isDone 131 = .ok (.getfield 32, 3) := by decide +kernel
theorem dX8_isDone_134 : decode cX8_isDone 134 = .ok (.iconst 0, 1) := by decide +kernel
theorem dX8_isDone_135 : decode cX8_isDone 135 = .ok (.iaload, 1) := by decide +kernel
theorem dX8_isDone_136 : decode cX8_isDone 136 = .ok (.invokevirtual 103, 3) := by decide +kernel
theorem dX8_isDone_139 : decode cX8_isDone 139 = .ok (.bipush (-10), 2) := by decide +kernel
theorem dX8_isDone_141 : decode cX8_isDone 141 = .ok (.if_icmp .eq 7, 3) := by decide +kernel
theorem dX8_isDone_144 : decode cX8_isDone 144 = .ok (.iconst 1, 1) := by decide +kernel
theorem dX8_isDone_145 : decode cX8_isDone 145 = .ok (.goto 4, 3) := by decide +kernel
theorem dX8_isDone_148 : decode cX8_isDone 148 = .ok (.iconst 0, 1) := by decide +kernel
theorem dX8_isDone_149 : decode cX8_isDone 149 = .ok (.ireturn, 1) := by decide +kernel
theorem dX8_isDone_150 : decode cX8_isDone 150 = .ok (.aload_n 0, 1) := by decide +kernel
theorem dX8_isDone_151 : decode cX8_isDone 151 = .ok (.aload_n 0, 1) := by decide +kernel
theorem dX8_isDone_152 : decode cX8_isDone 152 = .ok (.getfield 32, 3) := by decide +kernel
theorem dX8_isDone_155 : decode cX8_isDone 155 = .ok (.iconst 0, 1) := by decide +kernel
theorem dX8_isDone_156 : decode cX8_isDone 156 = .ok (.iaload, 1) := by decide +kernel
theorem dX8_isDone_157 : decode cX8_isDone 157 = .ok (.invokevirtual 106, 3) := by decide +kernel
theorem dX8_isDone_160 : decode cX8_isDone 160 = .ok (.ifCond .lt 7, 3) := by decide +kernel
theorem dX8_isDone_163 : decode cX8_isDone 163 = .ok (.iconst 1, 1) := by decide +kernel
theorem dX8_isDone_164 : decode cX8_isDone 164 = .ok (.goto 4, 3) := by decide +kernel
theorem dX8_isDone_167 : decode cX8_isDone 167 = .ok (.iconst 0, 1) := by decide +kernel
theorem dX8_isDone_168 : decode cX8_isDone 168 = .ok (.ireturn, 1) := by decide +kernel
theorem dX8_isDone_169 : decode cX8_isDone 169 = .ok (.iload_n 2, 1) := by decide +kernel
theorem dX8_isDone_170 : decode cX8_isDone 170 = .ok (.ifCond .eq 22, 3) := by decide +kernel
theorem dX8_isDone_173 : decode cX8_isDone 173 = .ok (.aload_n 0, 1) := by decide +kernel
theorem dX8_isDone_174 : decode cX8_isDone 174 = .ok (.aload_n 0, 1) := by decide +kernel
theorem dX8_isDone_175 : decode cX8_isDone 175 = .ok (.getfield 32, 3) := by decide +kernel
theorem dX8_isDone_178 : decode cX8_isDone 178 = .ok (.iconst 0, 1) := by decide +kernel
theorem dX8_isDone_179 : decode cX8_isDone 179 = .ok (.iaload, 1) := by decide +kernel
theorem dX8_isDone_180 : decode cX8_isDone 180 = .ok (.iload_n 3, 1) := by decide +kernel
theorem dX8_isDone_181 : decode cX8_isDone 181 = .ok (.iconst 1, 1) := by decide +kernel
theorem dX8_isDone_182 : decode cX8_isDone 182 = .ok (.invokevirtual 109, 3) := by decide +kernel
theorem dX8_isDone_185 : decode cX8_isDone 185 = .ok (.ifCond .le 7, 3) := by decide +kernel
theorem dX8_isDone_188 : decode cX8_isDone 188 = .ok (.iconst 1, 1) := by decide +kernel
theorem dX8_isDone_189 : decode cX8_isDone 189 = .ok (.goto 4, 3) := by decide +kernel
theorem dX8_isDone_192 : decode cX8_isDone 192 = .ok (.iconst 0, 1) := by decide +kernel
theorem dX8_isDone_193 : decode cX8_isDone 193 = .ok (.ireturn, 1) := by decide +kernel
theorem dX8_isDone_194 : decode cX8_isDone 194 = .ok (.aload_n 0, 1) := by decide +kernel
theorem dX8_isDone_195 : decode cX8_isDone 195 = .ok (.aload_n 0, 1) := by decide +kernel
theorem dX8_isDone_196 : decode cX8_isDone 196 = .ok (.getfield 32, 3) := by decide +kernel
theorem dX8_isDone_199 : decode cX8_isDone 199 = .ok (.iconst 0, 1) := by decide +kernel
theorem dX8_isDone_200 : decode cX8_isDone 200 = .ok (.iaload, 1) := by decide +kernel
theorem dX8_isDone_201 : decode cX8_isDone 201 = .ok (.invokevirtual 112, 3) := by decide +kernel
theorem dX8_isDone_204 : decode cX8_isDone 204 = .ok (.ifCond .lt 7, 3) := by decide +kernel
theorem dX8_isDone_207 : decode cX8_isDone 207 = .ok (.iconst 1, 1) := by decide +kernel
theorem dX8_isDone_208 : decode cX8_isDone 208 = .ok (.goto 4, 3) := by decide +kernel
theorem dX8_isDone_211 : decode cX8_isDone 211 = .ok (.iconst 0, 1) := by decide +kernel
theorem dX8_isDone_212 : decode cX8_isDone 212 = .ok (.ireturn, 1) := by decide +kernel
theorem dX8_read_0 : decode cX8_read 0 = .ok (.aload_n 0, 1) := by decide +kernel
theorem dX8_read_1 : decode cX8_read 1 = .ok (.invokevirtual 174, 3) := by decide +kernel
theorem dX8_read_4 : decode cX8_read 4 = .ok (.istore_n 1, 1) := by decide +kernel
theorem dX8_read_5 : decode cX8_read 5 = .ok (.iload_n 1, 1) := by decide +kernel
theorem dX8_read_6 : decode cX8_read 6 = .ok (.iconst (-1), 1) := by decide +kernel
theorem dX8_read_7 : decode cX8_read 7 = .ok (.if_icmp .eq 8, 3) := by decide +kernel
theorem dX8_read_10 : decode cX8_read 10 = .ok (.bipush (-10), 2) := by decide +kernel
theorem dX8_read_12 : decode cX8_read 12 = .ok (.iload_n 1, 1) := by decide +kernel
theorem dX8_read_13 : decode cX8_read 13 = .ok (.isub, 1) := by decide +kernel
theorem dX8_read_14 : decode cX8_read 14 = .ok (.ireturn, 1) := by decide +kernel
theorem dX8_read_15 : decode cX8_read 15 = .ok (.iconst 0, 1) := by decide +kernel
theorem dX8_read_16 : decode cX8_read 16 = .ok (.istore_n 2, 1) := by decide +kernel
theorem dX8_read_17 : decode cX8_read 17 = .ok (.iload_n 2, 1) := by decide +kernel
theorem dX8_read_18 : decode cX8_read 18 = .ok (.sipush 354, 3) := by decide +kernel
theorem dX8_read_21 : decode cX8_read 21 = .ok (.if_icmp .ge 21, 3) := by decide +kernel
theorem dX8_read_24 : decode cX8_read 24 = .ok (.aload_n 0, 1) := by decide +kernel
theorem dX8_read_25 : decode cX8_read 25 = .ok (.getfield 13, 3) := by decide +kernel
theorem dX8_read_28 : decode cX8_read 28 = .ok (.iload_n 2, 1) := by decide +kernel
theorem dX8_read_29 : decode cX8_read 29 = .ok (.aload_n 0, 1) := by decide +kernel
theorem dX8_read_30 : decode cX8_read 30 = .ok (.getfield 7, 3) := by decide +kernel
theorem dX8_read_33 : decode cX8_read 33 = .ok (.iload_n 2, 1) := by decide +kernel
theorem dX8_read_34 : decode cX8_read 34 = .ok (.iaload, 1) := by decide +kernel
theorem dX8_read_35 : decode cX8_read 35 = .ok (.iastore, 1) := by decide +kernel
theorem dX8_read_36 : decode cX8_read 36 = .ok (.iinc 2 1, 3) := by decide +kernel
theorem dX8_read_39 : decode cX8_read 39 = .ok (.goto (-22), 3) := by decide +kernel
theorem dX8_read_42 : decode cX8_read 42 = .ok (.aload_n 0, 1) := by decide +kernel
theorem dX8_read_43 : decode cX8_read 43 = .ok (.bipush 12, 2) := by decide +kernel
theorem dX8_read_45 : decode cX8_read 45 = .ok (.iconst 5, 1) := by decide +kernel
theorem dX8_read_46 : decode cX8_read 46 = .ok (.invokevirtual 66, 3) := by decide +kernel
theorem dX8_read_49 : decode cX8_read 49 = .ok (.iconst 0, 1) := by decide +kernel
theorem dX8_read_50 : decode cX8_read 50 = .ok (.istore_n 2, 1) := by decide +kernel
theorem dX8_read_51 : decode cX8_read 51 = .ok (.iconst 1, 1) := by decide +kernel
theorem dX8_read_52 : decode cX8_read 52 = .ok (.istore_n 3, 1) := by decide +kernel
theorem dX8_read_53 : decode cX8_read 53 = .ok (.aload_n 0, 1) := by decide +kernel
theorem dX8_read_54 : decode cX8_read 54 = .ok (.iconst 0, 1) := by decide +kernel
theorem dX8_read_55 : decode cX8_read 55 = .ok (.putfield 127, 3) := by decide +kernel
theorem dX8_read_58 : decode cX8_read 58 = .ok (.aload_n 0, 1) := by decide +kernel
theorem dX8_read_59 : decode cX8_read 59 = .ok (.invokevirtual 168, 3) := by decide +kernel
theorem dX8_read_62 : decode cX8_read 62 = .ok (.aload_n 0, 1) := by decide +kernel
theorem dX8_read_63 : decode cX8_read 63 = .ok (.getfield 136, 3) := by decide +kernel
theorem dX8_read_66 : decode cX8_read 66 = .ok (.ifCond .eq 31, 3) := by decide +kernel
theorem dX8_read_69 : decode cX8_read 69 = .ok (.iload_n 3, 1) := by decide +kernel
theorem dX8_read_70 : decode cX8_read 70 = .ok (.ifCond .eq 27, 3) := by decide +kernel
theorem dX8_read_73 : decode cX8_read 73 = .ok (.aload_n 0, 1) := by decide +kernel
theorem dX8_read_74 : decode cX8_read 74 = .ok (.aload_n 0, 1) := by decide +kernel
theorem dX8_read_75 : decode cX8_read 75 = .ok (.invokevirtual 171, 3) := by decide +kernel
theorem dX8_read_78 : decode cX8_read 78 = .ok (.invokevirtual 177, 3) := by decide +kernel
theorem dX8_read_81 : decode cX8_read 81 = .ok (.istore_n 3, 1) := by decide +kernel
theorem dX8_read_82 : decode cX8_read 82 = .ok (.iload_n 2, 1) := by decide +kernel
theorem dX8_read_83 : decode cX8_read 83 = .ok (.iload_n 3, 1) := by decide +kernel
theorem dX8_read_84 : decode cX8_read 84 = .ok (.ifCond .eq 7, 3) := by decide +kernel
theorem dX8_read_87 : decode cX8_read 87 = .ok (.iconst 1, 1) := by decide +kernel
theorem dX8_read_88 : decode cX8_read 88 = .ok (.goto 4, 3) := by decide +kernel
theorem dX8_read_91 : decode cX8_read 91 = .ok (.iconst 0, 1) := by decide +kernel
theorem dX8_read_92 : decode cX8_read 92 = .ok (.iadd, 1) := by decide +kernel
theorem dX8_read_93 : decode cX8_read 93 = .ok (.istore_n 2, 1) := by decide +kernel
theorem dX8_read_94 : decode cX8_read 94 = .ok (.goto (-32), 3) := by decide +kernel
theorem dX8_read_97 : decode cX8_read 97 = .ok (.iconst 0, 1) := by decide +kernel
theorem dX8_read_98 : decode cX8_read 98 = .ok (.istore 4, 2) := by decide +kernel
theorem dX8_read_100 : decode cX8_read 100 = .ok (.iload 4, 2) := by decide +kernel
theorem dX8_read_102 : decode cX8_read 102 = .ok (.sipush 354, 3) := by decide +kernel
theorem dX8_read_105 : decode cX8_read 105 = .ok (.if_icmp .ge 27, 3) := by decide +kernel
theorem dX8_read_108 : decode cX8_read 108 = .ok (.iload_n 3, 1) := by decide +kernel
theorem dX8_read_109 : decode cX8_read 109 = .ok (.ifCond .ne 23, 3) := by decide +kernel
theorem dX8_read_112 : decode cX8_read 112 = .ok (.aload_n 0, 1) := by decide +kernel
theorem dX8_read_113 : decode cX8_read 113 = .ok (.getfield 7, 3) := by decide +kernel
theorem dX8_read_116 : decode cX8_read 116 = .ok (.iload 4, 2) := by decide +kernel
theorem dX8_read_118 : decode cX8_read 118 = .ok (.aload_n 0, 1) := by decide +kernel
theorem dX8_read_119 : decode cX8_read 119 = .ok (.getfield 13, 3) := by decide +kernel
theorem dX8_read_122 : decode cX8_read 122 = .ok (.iload 4, 2) := by decide +kernel
theorem dX8_read_124 : decode cX8_read 124 = .ok (.iaload, 1) := by decide +kernel
theorem dX8_read_125 : decode cX8_read 125 = .ok (.iastore, 1) := by decide +kernel
theorem dX8_read_126 : decode cX8_read 126 = .ok (.iinc 4 1, 3) := by decide +kernel
theorem dX8_read_129 : decode cX8_read 129 = .ok (.goto (-29), 3) := by decide +kernel
theorem dX8_read_132 : decode cX8_read 132 = .ok (.iload_n 3, 1) := by decide +kernel
theorem dX8_read_133 : decode cX8_read 133 = .ok (.ifCond .eq 7, 3) := by decide +kernel
theorem dX8_read_136 : decode cX8_read 136 = .ok (.iload_n 2, 1) := by decide +kernel
theorem dX8_read_137 : decode cX8_read 137 = .ok (.goto 8, 3) := by decide +kernel
theorem dX8_read_140 : decode cX8_read 140 = .ok (.sipush (-1000), 3) := by decide +kernel
theorem dX8_read_143 : decode cX8_read 143 = .ok (.iload_n 2, 1) := by decide +kernel
theorem dX8_read_144 : decode cX8_read 144 = .ok (.isub, 1) := by decide +kernel
theorem dX8_read_145 : decode cX8_read 145 = .ok (.ireturn, 1) := by decide +kernel
theorem dX8_readAs_0 : decode cX8_readAs 0 = .ok (.aload_n 0, 1) := by decide +kernel
theorem dX8_readAs_1 : decode cX8_readAs 1 = .ok (.getfield 7, 3) := by decide +kernel
theorem dX8_readAs_4 : decode cX8_readAs 4 = .ok (.iconst 5, 1) := by decide +kernel
theorem dX8_readAs_5 : decode cX8_readAs 5 = .ok (.iaload, 1) := by decide +kernel
theorem dX8_readAs_6 : decode cX8_readAs 6 = .ok (.iconst 1, 1) := by decide +kernel
theorem dX8_readAs_7 : decode cX8_readAs 7 = .ok (.iadd, 1) := by decide +kernel
theorem dX8_readAs_8 : decode cX8_readAs 8 = .ok (.istore_n 2, 1) := by decide +kernel
theorem dX8_readAs_9 : decode cX8_readAs 9 = .ok (.iconst (-1), 1) := by decide +kernel
theorem dX8_readAs_10 : decode cX8_readAs 10 = .ok (.istore_n 3, 1) := by decide +kernel
theorem dX8_readAs_11 : decode cX8_readAs 11 = .ok (.iconst 0, 1) := by decide +kernel
theorem dX8_readAs_12 : decode cX8_readAs 12 = .ok (.istore 4, 2) := by decide +kernel
theorem dX8_readAs_14 : decode cX8_readAs 14 = .ok (.iload 4, 2) := by decide +kernel
theorem dX8_readAs_16 : decode cX8_readAs 16 = .ok (.aload_n 0, 1) := by decide +kernel
theorem dX8_readAs_17 : decode cX8_readAs 17 = .ok (.getfield 7, 3) := by decide +kernel
theorem dX8_readAs_20 : decode cX8_readAs 20 = .ok (.iconst 3, 1) := by decide +kernel
theorem dX8_readAs_21 : decode cX8_readAs 21 = .ok (.iaload, 1) := by decide +kernel
theorem dX8_readAs_22 : decode cX8_readAs 22 = .ok (.if_icmp .ge 64, 3) := by decide +kernel
theorem dX8_readAs_25 : decode cX8_readAs 25 = .ok (.aload_n 0, 1) := by decide +kernel
theorem dX8_readAs_26 : decode cX8_readAs 26 = .ok (.getfield 29, 3) := by decide +kernel
theorem dX8_readAs_29 : decode cX8_readAs 29 = .ok (.iload_n 1, 1) := by decide +kernel
theorem dX8_readAs_30 : decode cX8_readAs 30 = .ok (.aload_n 0, 1) := by decide +kernel
theorem dX8_readAs_31 : decode cX8_readAs 31 = .ok (.getfield 7, 3) := by decide +kernel
theorem dX8_readAs_34 : decode cX8_readAs 34 = .ok (.bipush 30, 2) := by decide +kernel
theorem dX8_readAs_36 : decode cX8_readAs 36 = .ok (.iload 4, 2) := by decide +kernel
theorem dX8_readAs_38 : decode cX8_readAs 38 = .ok (.iadd, 1) := by decide +kernel
theorem dX8_readAs_39 : decode cX8_readAs 39 = .ok (.iaload, 1) := by decide +kernel
theorem dX8_readAs_40 : decode cX8_readAs 40 = .ok (.ixor, 1) := by decide +kernel
theorem dX8_readAs_41 : decode cX8_readAs 41 = .ok (.iaload, 1) := by decide +kernel
theorem dX8_readAs_42 : decode cX8_readAs 42 = .ok (.istore 5, 2) := by decide +kernel
theorem dX8_readAs_44 : decode cX8_readAs 44 = .ok (.iload 5, 2) := by decide +kernel
theorem dX8_readAs_46 : decode cX8_readAs 46 = .ok (.iload_n 2, 1) := by decide +kernel
theorem dX8_readAs_47 : decode cX8_readAs 47 = .ok (.if_icmp .ge 8, 3) := by decide +kernel
theorem dX8_readAs_50 : decode cX8_readAs 50 = .ok (.iload 4, 2) := by decide +kernel
theorem dX8_readAs_52 : decode cX8_readAs 52 = .ok (.goto 14, 3) := by decide +kernel
theorem dX8_readAs_55 : decode cX8_readAs 55 = .ok (.iload 5, 2) := by decide +kernel
theorem dX8_readAs_57 : decode cX8_readAs 57 = .ok (.iload_n 2, 1) := by decide +kernel
theorem dX8_readAs_58 : decode cX8_readAs 58 = .ok (.if_icmp .ne 7, 3) := by decide +kernel
theorem dX8_readAs_61 : decode cX8_readAs 61 = .ok (.iconst (-1), 1) := by decide +kernel
theorem dX8_readAs_62 : decode cX8_readAs 62 = .ok (.goto 4, 3) := by decide +kernel
theorem dX8_readAs_65 : decode cX8_readAs 65 = .ok (.iload_n 3, 1) := by decide +kernel
theorem dX8_readAs_66 : decode cX8_readAs 66 = .ok (.istore_n 3, 1) := by decide +kernel
theorem dX8_readAs_67 : decode cX8_readAs 67 = .ok (.iload 5, 2) := by decide +kernel
theorem dX8_readAs_69 : decode cX8_readAs 69 = .ok (.iload_n 2, 1) := by decide +kernel
theorem dX8_readAs_70 : decode cX8_readAs 70 = .ok (.if_icmp .ge 8, 3) := by decide +kernel
theorem dX8_readAs_73 : decode cX8_readAs 73 = .ok (.iload 5, 2) := by decide +kernel
theorem dX8_readAs_75 : decode cX8_readAs 75 = .ok (.goto 4, 3) := by decide +kernel
theorem dX8_readAs_78 : decode cX8_readAs 78 = .ok (.iload_n 2, 1) := by decide +kernel
theorem dX8_readAs_79 : decode cX8_readAs 79 = .ok (.istore_n 2, 1) := by decide +kernel
theorem dX8_readAs_80 : decode cX8_readAs 80 = .ok (.iinc 4 1, 3) := by decide +kernel
theorem dX8_readAs_83 : decode cX8_readAs 83 = .ok (.goto (-69), 3) := by decide +kernel
theorem dX8_readAs_86 : decode cX8_readAs 86 = .ok (.iload_n 3, 1) := by decide +kernel
theorem dX8_readAs_87 : decode cX8_readAs 87 = .ok (.ireturn, 1) := by decide +kernel
theorem dX8_findReads_0 : decode cX8_findReads 0 = .ok (.iconst 0, 1) := by decide +kernel
theorem dX8_findReads_1 : decode cX8_findReads 1 = .ok (.istore_n 1, 1) := by decide +kernel
theorem dX8_findReads_2 : decode cX8_findReads 2 = .ok (.iload_n 1, 1) := by decide +kernel
theorem dX8_findReads_3 : decode cX8_findReads 3 = .ok (.sipush 4096, 3) := by decide +kernel
theorem dX8_findReads_6 : decode cX8_findReads 6 = .ok (.if_icmp .ge 20, 3) := by decide +kernel
theorem dX8_findReads_9 : decode cX8_findReads 9 = .ok (.aload_n 0, 1) := by decide +kernel
theorem dX8_findReads_10 : decode cX8_findReads 10 = .ok (.getfield 35, 3) := by decide +kernel
theorem dX8_findReads_13 : decode cX8_findReads 13 = .ok (.iload_n 1, 1) := by decide +kernel
theorem dX8_findReads_14 : decode cX8_findReads 14 = .ok (.aload_n 0, 1) := by decide +kernel
theorem dX8_findReads_15 : decode cX8_findReads 15 = .ok (.iload_n 1, 1) := by decide +kernel
theorem dX8_findReads_16 : decode cX8_findReads 16 = .ok (.invokevirtual 180, 3) := by decide +kernel
theorem dX8_findReads_19 : decode cX8_findReads 19 = .ok (.iastore, 1) := by decide +kernel
theorem dX8_findReads_20 : decode cX8_findReads 20 = .ok (.iinc 1 1, 3) := by decide +kernel
theorem dX8_findReads_23 : decode cX8_findReads 23 = .ok (.goto (-21), 3) := by decide +kernel
theorem dX8_findReads_26 : decode cX8_findReads 26 = .ok (.return_, 1) := by decide +kernel
theorem dX8_turned_0 : decode cX8_turned 0 = .ok (.iconst 0, 1) := by decide +kernel
theorem dX8_turned_1 : decode cX8_turned 1 = .ok (.istore_n 1, 1) := by decide +kernel
theorem dX8_turned_2 : decode cX8_turned 2 = .ok (.iconst 0, 1) := by decide +kernel
theorem dX8_turned_3 : decode cX8_turned 3 = .ok (.istore_n 2, 1) := by decide +kernel
theorem dX8_turned_4 : decode cX8_turned 4 = .ok (.iload_n 2, 1) := by decide +kernel
theorem dX8_turned_5 : decode cX8_turned 5 = .ok (.bipush 12, 2) := by decide +kernel
theorem dX8_turned_7 : decode cX8_turned 7 = .ok (.if_icmp .ge 29, 3) := by decide +kernel
theorem dX8_turned_10 : decode cX8_turned 10 = .ok (.iload_n 1, 1) := by decide +kernel
theorem dX8_turned_11 : decode cX8_turned 11 = .ok (.iload_n 0, 1) := by decide +kernel
theorem dX8_turned_12 : decode cX8_turned 12 = .ok (.iload_n 2, 1) := by decide +kernel
theorem dX8_turned_13 : decode cX8_turned 13 = .ok (.ishr, 1) := by decide +kernel
theorem dX8_turned_14 : decode cX8_turned 14 = .ok (.iconst 1, 1) := by decide +kernel
theorem dX8_turned_15 : decode cX8_turned 15 = .ok (.iand, 1) := by decide +kernel
theorem dX8_turned_16 : decode cX8_turned 16 = .ok (.iconst 3, 1) := by decide +kernel
theorem dX8_turned_17 : decode cX8_turned 17 = .ok (.iload_n 2, 1) := by decide +kernel
theorem dX8_turned_18 : decode cX8_turned 18 = .ok (.iconst 3, 1) := by decide +kernel
theorem dX8_turned_19 : decode cX8_turned 19 = .ok (.idiv, 1) := by decide +kernel
theorem dX8_turned_20 : decode cX8_turned 20 = .ok (.imul, 1) := by decide +kernel
theorem dX8_turned_21 : decode cX8_turned 21 = .ok (.iconst 2, 1) := by decide +kernel
theorem dX8_turned_22 : decode cX8_turned 22 = .ok (.iadd, 1) := by decide +kernel
theorem dX8_turned_23 : decode cX8_turned 23 = .ok (.iload_n 2, 1) := by decide +kernel
theorem dX8_turned_24 : decode cX8_turned 24 = .ok (.iconst 3, 1) := by decide +kernel
theorem dX8_turned_25 : decode cX8_turned 25 = .ok (.irem, 1) := by decide +kernel
theorem dX8_turned_26 : decode cX8_turned 26 = .ok (.isub, 1) := by decide +kernel
theorem dX8_turned_27 : decode cX8_turned 27 = .ok (.ishl, 1) := by decide +kernel
theorem dX8_turned_28 : decode cX8_turned 28 = .ok (.ior, 1) := by decide +kernel
theorem dX8_turned_29 : decode cX8_turned 29 = .ok (.istore_n 1, 1) := by decide +kernel
theorem dX8_turned_30 : decode cX8_turned 30 = .ok (.iinc 2 1, 3) := by decide +kernel
theorem dX8_turned_33 : decode cX8_turned 33 = .ok (.goto (-29), 3) := by decide +kernel
theorem dX8_turned_36 : decode cX8_turned 36 = .ok (.iload_n 1, 1) := by decide +kernel
theorem dX8_turned_37 : decode cX8_turned 37 = .ok (.ireturn, 1) := by decide +kernel
theorem dX8_cellOf_0 : decode cX8_cellOf 0 = .ok (.iload_n 0, 1) := by decide +kernel
theorem dX8_cellOf_1 : decode cX8_cellOf 1 = .ok (.bipush 12, 2) := by decide +kernel
theorem dX8_cellOf_3 : decode cX8_cellOf 3 = .ok (.iload_n 1, 1) := by decide +kernel
theorem dX8_cellOf_4 : decode cX8_cellOf 4 = .ok (.iconst 3, 1) := by decide +kernel
theorem dX8_cellOf_5 : decode cX8_cellOf 5 = .ok (.idiv, 1) := by decide +kernel
theorem dX8_cellOf_6 : decode cX8_cellOf 6 = .ok (.imul, 1) := by decide +kernel
theorem dX8_cellOf_7 : decode cX8_cellOf 7 = .ok (.iadd, 1) := by decide +kernel
theorem dX8_cellOf_8 : decode cX8_cellOf 8 = .ok (.iload_n 1, 1) := by decide +kernel
theorem dX8_cellOf_9 : decode cX8_cellOf 9 = .ok (.iconst 3, 1) := by decide +kernel
theorem dX8_cellOf_10 : decode cX8_cellOf 10 = .ok (.irem, 1) := by decide +kernel
theorem dX8_cellOf_11 : decode cX8_cellOf 11 = .ok (.iadd, 1) := by decide +kernel
theorem dX8_cellOf_12 : decode cX8_cellOf 12 = .ok (.ireturn, 1) := by decide +kernel
theorem dX8_shapeAt_0 : decode cX8_shapeAt 0 = .ok (.iconst 0, 1) := by decide +kernel
theorem dX8_shapeAt_1 : decode cX8_shapeAt 1 = .ok (.istore_n 3, 1) := by decide +kernel
theorem dX8_shapeAt_2 : decode cX8_shapeAt 2 = .ok (.iconst 0, 1) := by decide +kernel
theorem dX8_shapeAt_3 : decode cX8_shapeAt 3 = .ok (.istore 4, 2) := by decide +kernel
theorem dX8_shapeAt_5 : decode cX8_shapeAt 5 = .ok (.iload 4, 2) := by decide +kernel
theorem dX8_shapeAt_7 : decode cX8_shapeAt 7 = .ok (.bipush 12, 2) := by decide +kernel
theorem dX8_shapeAt_9 : decode cX8_shapeAt 9 = .ok (.if_icmp .ge 34, 3) := by decide +kernel
theorem dX8_shapeAt_12 : decode cX8_shapeAt 12 = .ok (.iload_n 3, 1) := by decide +kernel
theorem dX8_shapeAt_13 : decode cX8_shapeAt 13 = .ok (.aload_n 0, 1) := by decide +kernel
theorem dX8_shapeAt_14 : decode cX8_shapeAt 14 = .ok (.getfield 7, 3) := by decide +kernel
theorem dX8_shapeAt_17 : decode cX8_shapeAt 17 = .ok (.bipush 96, 2) := by decide +kernel
theorem dX8_shapeAt_19 : decode cX8_shapeAt 19 = .ok (.bipush 60, 2) := by decide +kernel
theorem dX8_shapeAt_21 : decode cX8_shapeAt 21 = .ok (.iload_n 1, 1) := by decide +kernel
theorem dX8_shapeAt_22 : decode cX8_shapeAt 22 = .ok (.imul, 1) := by decide +kernel
theorem dX8_shapeAt_23 : decode cX8_shapeAt 23 = .ok (.iadd, 1) := by decide +kernel
theorem dX8_shapeAt_24 : decode cX8_shapeAt 24 = .ok (.iload_n 2, 1) := by decide +kernel
theorem dX8_shapeAt_25 : decode cX8_shapeAt 25 = .ok (.iload 4, 2) := by decide +kernel
theorem dX8_shapeAt_27 : decode cX8_shapeAt 27 = .ok (.invokestatic 183, 3) := by decide +kernel
theorem dX8_shapeAt_30 : decode cX8_shapeAt 30 = .ok (.iadd, 1) := by decide +kernel
theorem dX8_shapeAt_31 : decode cX8_shapeAt 31 = .ok (.iaload, 1) := by decide +kernel
theorem dX8_shapeAt_32 : decode cX8_shapeAt 32 = .ok (.iload 4, 2) := by decide +kernel
theorem dX8_shapeAt_34 : decode cX8_shapeAt 34 = .ok (.ishl, 1) := by decide +kernel
theorem dX8_shapeAt_35 : decode cX8_shapeAt 35 = .ok (.ior, 1) := by decide +kernel
theorem dX8_shapeAt_36 : decode cX8_shapeAt 36 = .ok (.istore_n 3, 1) := by decide +kernel
theorem dX8_shapeAt_37 : decode cX8_shapeAt 37 = .ok (.iinc 4 1, 3) := by decide +kernel
theorem dX8_shapeAt_40 : decode cX8_shapeAt 40 = .ok (.goto (-35), 3) := by decide +kernel
theorem dX8_shapeAt_43 : decode cX8_shapeAt 43 = .ok (.iload_n 3, 1) := by decide +kernel
theorem dX8_shapeAt_44 : decode cX8_shapeAt 44 = .ok (.ireturn, 1) := by decide +kernel
theorem dX8_reads_0 : decode cX8_reads 0 = .ok (.iload_n 1, 1) := by decide +kernel
theorem dX8_reads_1 : decode cX8_reads 1 = .ok (.iconst 0, 1) := by decide +kernel
theorem dX8_reads_2 : decode cX8_reads 2 = .ok (.sipush 4095, 3) := by decide +kernel
theorem dX8_reads_5 : decode cX8_reads 5 = .ok (.invokestatic 70, 3) := by decide +kernel
theorem dX8_reads_8 : decode cX8_reads 8 = .ok (.ifCond .ne 10, 3) := by decide +kernel
theorem dX8_reads_11 : decode cX8_reads 11 = .ok (.aload_n 0, 1) := by decide +kernel
theorem dX8_reads_12 : decode cX8_reads 12 = .ok (.bipush (-2), 2) := by decide +kernel
theorem dX8_reads_14 : decode cX8_reads 14 = .ok (.invokevirtual 92, 3) := by decide +kernel
theorem dX8_reads_17 : decode cX8_reads 17 = .ok (.ireturn, 1) := by decide +kernel
theorem dX8_reads_18 : decode cX8_reads 18 = .ok (.aload_n 0, 1) := by decide +kernel
theorem dX8_reads_19 : decode cX8_reads 19 = .ok (.iload_n 2, 1) := by decide +kernel
theorem dX8_reads_20 : decode cX8_reads 20 = .ok (.ifCond .eq 10, 3) := by decide +kernel
theorem dX8_reads_23 : decode cX8_reads 23 = .ok (.iload_n 1, 1) := by decide +kernel
theorem dX8_reads_24 : decode cX8_reads 24 = .ok (.invokestatic 186, 3) := by decide +kernel
theorem dX8_reads_27 : decode cX8_reads 27 = .ok (.goto 4, 3) := by decide +kernel
theorem dX8_reads_30 : decode cX8_reads 30 = .ok (.iload_n 1, 1) := by decide +kernel
theorem dX8_reads_31 : decode cX8_reads 31 = .ok (.invokevirtual 180, 3) := by decide +kernel
theorem dX8_reads_34 : decode cX8_reads 34 = .ok (.ireturn, 1) := by decide +kernel
theorem dX8_shape_0 : decode cX8_shape 0 = .ok (.iload_n 1, 1) := by decide +kernel
theorem dX8_shape_1 : decode cX8_shape 1 = .ok (.invokestatic 85, 3) := by decide +kernel
theorem dX8_shape_4 : decode cX8_shape 4 = .ok (.ifCond .eq 20, 3) := by decide +kernel
theorem dX8_shape_7 : decode cX8_shape 7 = .ok (.aload_n 0, 1) := by decide +kernel
theorem dX8_shape_8 : decode cX8_shape 8 = .ok (.iload_n 2, 1) := by decide +kernel
theorem dX8_shape_9 : decode cX8_shape 9 = .ok (.invokevirtual 189, 3) := by decide +kernel
theorem dX8_shape_12 : decode cX8_shape 12 = .ok (.ifCond .eq 12, 3) := by decide +kernel
theorem dX8_shape_15 : decode cX8_shape 15 = .ok (.aload_n 0, 1) := by decide +kernel
theorem dX8_shape_16 : decode cX8_shape 16 = .ok (.iload_n 1, 1) := by decide +kernel
theorem dX8_shape_17 : decode cX8_shape 17 = .ok (.iload_n 2, 1) := by decide +kernel
theorem dX8_shape_18 : decode cX8_shape 18 = .ok (.invokevirtual 192, 3) := by decide +kernel
theorem dX8_shape_21 : decode cX8_shape 21 = .ok (.goto 9, 3) := by decide +kernel
theorem dX8_shape_24 : decode cX8_shape 24 = .ok (.aload_n 0, 1) := by decide +kernel
theorem dX8_shape_25 : decode cX8_shape 25 = .ok (.bipush (-2), 2) := by decide +kernel
theorem dX8_shape_27 : decode cX8_shape 27 = .ok (.invokevirtual 92, 3) := by decide +kernel
theorem dX8_shape_30 : decode cX8_shape 30 = .ok (.ireturn, 1) := by decide +kernel
theorem dX8_says_0 : decode cX8_says 0 = .ok (.iload_n 1, 1) := by decide +kernel
theorem dX8_says_1 : decode cX8_says 1 = .ok (.invokestatic 85, 3) := by decide +kernel
theorem dX8_says_4 : decode cX8_says 4 = .ok (.ifCond .eq 27, 3) := by decide +kernel
theorem dX8_says_7 : decode cX8_says 7 = .ok (.iload_n 2, 1) := by decide +kernel
theorem dX8_says_8 : decode cX8_says 8 = .ok (.iconst 0, 1) := by decide +kernel
theorem dX8_says_9 : decode cX8_says 9 = .ok (.aload_n 0, 1) := by decide +kernel
theorem dX8_says_10 : decode cX8_says 10 = .ok (.getfield 7, 3) := by decide +kernel
theorem dX8_says_13 : decode cX8_says 13 = .ok (.iconst 1, 1) := by decide +kernel
theorem dX8_says_14 : decode cX8_says 14 = .ok (.iaload, 1) := by decide +kernel
theorem dX8_says_15 : decode cX8_says 15 = .ok (.iconst 4, 1) := by decide +kernel
theorem dX8_says_16 : decode cX8_says 16 = .ok (.isub, 1) := by decide +kernel
theorem dX8_says_17 : decode cX8_says 17 = .ok (.invokestatic 70, 3) := by decide +kernel
theorem dX8_says_20 : decode cX8_says 20 = .ok (.ifCond .eq 11, 3) := by decide +kernel
theorem dX8_says_23 : decode cX8_says 23 = .ok (.aload_n 0, 1) := by decide +kernel
theorem dX8_says_24 : decode cX8_says 24 = .ok (.iload_n 3, 1) := by decide +kernel
theorem dX8_says_25 : decode cX8_says 25 = .ok (.invokevirtual 100, 3) := by decide +kernel
theorem dX8_says_28 : decode cX8_says 28 = .ok (.ifCond .ne 10, 3) := by decide +kernel
theorem dX8_says_31 : decode cX8_says 31 = .ok (.aload_n 0, 1) := by decide +kernel
theorem dX8_says_32 : decode cX8_says 32 = .ok (.bipush (-2), 2) := by decide +kernel
theorem dX8_says_34 : decode cX8_says 34 = .ok (.invokevirtual 92, 3) := by decide +kernel
theorem dX8_says_37 : decode cX8_says 37 = .ok (.ireturn, 1) := by decide +kernel
theorem dX8_says_38 : decode cX8_says 38 = .ok (.iconst 0, 1) := by decide +kernel
theorem dX8_says_39 : decode cX8_says 39 = .ok (.istore 5, 2) := by decide +kernel
theorem dX8_says_41 : decode cX8_says 41 = .ok (.iconst 0, 1) := by decide +kernel
theorem dX8_says_42 : decode cX8_says 42 = .ok (.istore 6, 2) := by decide +kernel
theorem dX8_says_44 : decode cX8_says 44 = .ok (.iload 6, 2) := by decide +kernel
theorem dX8_says_46 : decode cX8_says 46 = .ok (.iconst 2, 1) := by decide +kernel
theorem dX8_says_47 : decode cX8_says 47 = .ok (.iadd, 1) := by decide +kernel
theorem dX8_says_48 : decode cX8_says 48 = .ok (.aload_n 0, 1) := by decide +kernel
theorem dX8_says_49 : decode cX8_says 49 = .ok (.getfield 7, 3) := by decide +kernel
theorem dX8_says_52 : decode cX8_says 52 = .ok (.iconst 0, 1) := by decide +kernel
theorem dX8_says_53 : decode cX8_says 53 = .ok (.iaload, 1) := by decide +kernel
theorem dX8_says_54 : decode cX8_says 54 = .ok (.if_icmp .ge 59, 3) := by decide +kernel
theorem dX8_says_57 : decode cX8_says 57 = .ok (.aload_n 0, 1) := by decide +kernel
theorem dX8_says_58 : decode cX8_says 58 = .ok (.iload_n 1, 1) := by decide +kernel
theorem dX8_says_59 : decode cX8_says 59 = .ok (.bipush 12, 2) := by decide +kernel
theorem dX8_says_61 : decode cX8_says 61 = .ok (.iload_n 2, 1) := by decide +kernel
theorem dX8_says_62 : decode cX8_says 62 = .ok (.imul, 1) := by decide +kernel
theorem dX8_says_63 : decode cX8_says 63 = .ok (.iload 6, 2) := by decide +kernel
theorem dX8_says_65 : decode cX8_says 65 = .ok (.iadd, 1) := by decide +kernel
theorem dX8_says_66 : decode cX8_says 66 = .ok (.invokevirtual 192, 3) := by decide +kernel
theorem dX8_says_69 : decode cX8_says 69 = .ok (.istore 7, 2) := by decide +kernel
theorem dX8_says_71 : decode cX8_says 71 = .ok (.iload 5, 2) := by decide +kernel
theorem dX8_says_73 : decode cX8_says 73 = .ok (.aload_n 0, 1) := by decide +kernel
theorem dX8_says_74 : decode cX8_says 74 = .ok (.iload 4, 2) := by decide +kernel
theorem dX8_says_76 : decode cX8_says 76 = .ok (.ifCond .eq 11, 3) := by decide +kernel
theorem dX8_says_79 : decode cX8_says 79 = .ok (.iload 7, 2) := by decide +kernel
theorem dX8_says_81 : decode cX8_says 81 = .ok (.invokestatic 186, 3) := by decide +kernel
theorem dX8_says_84 : decode cX8_says 84 = .ok (.goto 5, 3) := by decide +kernel
theorem dX8_says_87 : decode cX8_says 87 = .ok (.iload 7, 2) := by decide +kernel
theorem dX8_says_89 : decode cX8_says 89 = .ok (.invokevirtual 180, 3) := by decide +kernel
theorem dX8_says_92 : decode cX8_says 92 = .ok (.iload_n 3, 1) := by decide +kernel
theorem dX8_says_93 : decode cX8_says 93 = .ok (.if_icmp .ne 10, 3) := by decide +kernel
theorem dX8_says_96 : decode cX8_says 96 = .ok (.iconst 1, 1) := by decide +kernel
theorem dX8_says_97 : decode cX8_says 97 = .ok (.iload 6, 2) := by decide +kernel
theorem dX8_says_99 : decode cX8_says 99 = .ok (.ishl, 1) := by decide +kernel
theorem dX8_says_100 : decode cX8_says 100 = .ok (.goto 4, 3) := by decide +kernel
theorem dX8_says_103 : decode cX8_says 103 = .ok (.iconst 0, 1) := by decide +kernel
theorem dX8_says_104 : decode cX8_says 104 = .ok (.ior, 1) := by decide +kernel
theorem dX8_says_105 : decode cX8_says 105 = .ok (.istore 5, 2) := by decide +kernel
theorem dX8_says_107 : decode cX8_says 107 = .ok (.iinc 6 1, 3) := by decide +kernel
theorem dX8_says_110 : decode cX8_says 110 = .ok (.goto (-66), 3) := by decide +kernel
theorem dX8_says_113 : decode cX8_says 113 = .ok (.iload 5, 2) := by decide +kernel
theorem dX8_says_115 : decode cX8_says 115 = .ok (.ireturn, 1) := by decide +kernel
theorem dX8_isWord_0 : decode cX8_isWord 0 = .ok (.iload_n 1, 1) := by decide +kernel
theorem dX8_isWord_1 : decode cX8_isWord 1 = .ok (.iconst 1, 1) := by decide +kernel
theorem dX8_isWord_2 : decode cX8_isWord 2 = .ok (.sipush 666, 3) := by decide +kernel
theorem dX8_isWord_5 : decode cX8_isWord 5 = .ok (.invokestatic 70, 3) := by decide +kernel
theorem dX8_isWord_8 : decode cX8_isWord 8 = .ok (.istore_n 2, 1) := by decide +kernel
theorem dX8_isWord_9 : decode cX8_isWord 9 = .ok (.iload_n 1, 1) := by decide +kernel
theorem dX8_isWord_10 : decode cX8_isWord 10 = .ok (.istore_n 3, 1) := by decide +kernel
theorem dX8_isWord_11 : decode cX8_isWord 11 = .ok (.iload_n 3, 1) := by decide +kernel
theorem dX8_isWord_12 : decode cX8_isWord 12 = .ok (.ifCond .le 26, 3) := by decide +kernel
theorem dX8_isWord_15 : decode cX8_isWord 15 = .ok (.iload_n 2, 1) := by decide +kernel
theorem dX8_isWord_16 : decode cX8_isWord 16 = .ok (.ifCond .eq 22, 3) := by decide +kernel
theorem dX8_isWord_19 : decode cX8_isWord 19 = .ok (.aload_n 0, 1) := by decide +kernel
theorem dX8_isWord_20 : decode cX8_isWord 20 = .ok (.iload_n 3, 1) := by decide +kernel
theorem dX8_isWord_21 : decode cX8_isWord 21 = .ok (.bipush 10, 2) := by decide +kernel
theorem dX8_isWord_23 : decode cX8_isWord 23 = .ok (.irem, 1) := by decide +kernel
theorem dX8_isWord_24 : decode cX8_isWord 24 = .ok (.iconst 1, 1) := by decide +kernel
theorem dX8_isWord_25 : decode cX8_isWord 25 = .ok (.isub, 1) := by decide +kernel
theorem dX8_isWord_26 : decode cX8_isWord 26 = .ok (.invokevirtual 100, 3) := by decide +kernel
theorem dX8_isWord_29 : decode cX8_isWord 29 = .ok (.istore_n 2, 1) := by decide +kernel
theorem dX8_isWord_30 : decode cX8_isWord 30 = .ok (.iload_n 3, 1) := by decide +kernel
theorem dX8_isWord_31 : decode cX8_isWord 31 = .ok (.bipush 10, 2) := by decide +kernel
theorem dX8_isWord_33 : decode cX8_isWord 33 = .ok (.idiv, 1) := by decide +kernel
theorem dX8_isWord_34 : decode cX8_isWord 34 = .ok (.istore_n 3, 1) := by decide +kernel
theorem dX8_isWord_35 : decode cX8_isWord 35 = .ok (.goto (-24), 3) := by decide +kernel
theorem dX8_isWord_38 : decode cX8_isWord 38 = .ok (.iload_n 2, 1) := by decide +kernel
theorem dX8_isWord_39 : decode cX8_isWord 39 = .ok (.ireturn, 1) := by decide +kernel
theorem dX8_longOf_0 : decode cX8_longOf 0 = .ok (.iload_n 0, 1) := by decide +kernel
theorem dX8_longOf_1 : decode cX8_longOf 1 = .ok (.bipush 99, 2) := by decide +kernel
theorem dX8_longOf_3 : decode cX8_longOf 3 = .ok (.if_icmp .le 7, 3) := by decide +kernel
theorem dX8_longOf_6 : decode cX8_longOf 6 = .ok (.iconst 3, 1) := by decide +kernel
theorem dX8_longOf_7 : decode cX8_longOf 7 = .ok (.goto 14, 3) := by decide +kernel
theorem dX8_longOf_10 : decode cX8_longOf 10 = .ok (.iload_n 0, 1) := by decide +kernel
theorem dX8_longOf_11 : decode cX8_longOf 11 = .ok (.bipush 9, 2) := by decide +kernel
theorem dX8_longOf_13 : decode cX8_longOf 13 = .ok (.if_icmp .le 7, 3) := by decide +kernel
theorem dX8_longOf_16 : decode cX8_longOf 16 = .ok (.iconst 2, 1) := by decide +kernel
theorem dX8_longOf_17 : decode cX8_longOf 17 = .ok (.goto 4, 3) := by decide +kernel
theorem dX8_longOf_20 : decode cX8_longOf 20 = .ok (.iconst 1, 1) := by decide +kernel
theorem dX8_longOf_21 : decode cX8_longOf 21 = .ok (.ireturn, 1) := by decide +kernel
theorem dX8_letterOf_0 : decode cX8_letterOf 0 = .ok (.iload_n 0, 1) := by decide +kernel
theorem dX8_letterOf_1 : decode cX8_letterOf 1 = .ok (.invokestatic 195, 3) := by decide +kernel
theorem dX8_letterOf_4 : decode cX8_letterOf 4 = .ok (.iconst 1, 1) := by decide +kernel
theorem dX8_letterOf_5 : decode cX8_letterOf 5 = .ok (.isub, 1) := by decide +kernel
theorem dX8_letterOf_6 : decode cX8_letterOf 6 = .ok (.iload_n 1, 1) := by decide +kernel
theorem dX8_letterOf_7 : decode cX8_letterOf 7 = .ok (.isub, 1) := by decide +kernel
theorem dX8_letterOf_8 : decode cX8_letterOf 8 = .ok (.istore_n 2, 1) := by decide +kernel
theorem dX8_letterOf_9 : decode cX8_letterOf 9 = .ok (.iload_n 2, 1) := by decide +kernel
theorem dX8_letterOf_10 : decode cX8_letterOf 10 = .ok (.iconst 2, 1) := by decide +kernel
theorem dX8_letterOf_11 : decode cX8_letterOf 11 = .ok (.if_icmp .ne 10, 3) := by decide +kernel
theorem dX8_letterOf_14 : decode cX8_letterOf 14 = .ok (.iload_n 0, 1) := by decide +kernel
theorem dX8_letterOf_15 : decode cX8_letterOf 15 = .ok (.bipush 100, 2) := by decide +kernel
theorem dX8_letterOf_17 : decode cX8_letterOf 17 = .ok (.idiv, 1) := by decide +kernel
theorem dX8_letterOf_18 : decode cX8_letterOf 18 = .ok (.goto 16, 3) := by decide +kernel
theorem dX8_letterOf_21 : decode cX8_letterOf 21 = .ok (.iload_n 2, 1) := by decide +kernel
theorem dX8_letterOf_22 : decode cX8_letterOf 22 = .ok (.iconst 1, 1) := by decide +kernel
theorem dX8_letterOf_23 : decode cX8_letterOf 23 = .ok (.if_icmp .ne 10, 3) := by decide +kernel
theorem dX8_letterOf_26 : decode cX8_letterOf 26 = .ok (.iload_n 0, 1) := by decide +kernel
theorem dX8_letterOf_27 : decode cX8_letterOf 27 = .ok (.bipush 10, 2) := by decide +kernel
theorem dX8_letterOf_29 : decode cX8_letterOf 29 = .ok (.idiv, 1) := by decide +kernel
theorem dX8_letterOf_30 : decode cX8_letterOf 30 = .ok (.goto 4, 3) := by decide +kernel
theorem dX8_letterOf_33 : decode cX8_letterOf 33 = .ok (.iload_n 0, 1) := by decide +kernel
theorem dX8_letterOf_34 : decode cX8_letterOf 34 = .ok (.istore_n 3, 1) := by decide +kernel
theorem dX8_letterOf_35 : decode cX8_letterOf 35 = .ok (.iload_n 3, 1) := by decide +kernel
theorem dX8_letterOf_36 : decode cX8_letterOf 36 = .ok (.bipush 10, 2) := by decide +kernel
theorem dX8_letterOf_38 : decode cX8_letterOf 38 = .ok (.irem, 1) := by decide +kernel
theorem dX8_letterOf_39 : decode cX8_letterOf 39 = .ok (.iconst 1, 1) := by decide +kernel
theorem dX8_letterOf_40 : decode cX8_letterOf 40 = .ok (.isub, 1) := by decide +kernel
theorem dX8_letterOf_41 : decode cX8_letterOf 41 = .ok (.ireturn, 1) := by decide +kernel
theorem dX8_priceOf_0 : decode cX8_priceOf 0 = .ok (.iload 4, 2) := by decide +kernel
theorem dX8_priceOf_2 : decode cX8_priceOf 2 = .ok (.aload_n 0, 1) := by decide +kernel
theorem dX8_priceOf_3 : decode cX8_priceOf 3 = .ok (.iload_n 2, 1) := by decide +kernel
theorem dX8_priceOf_4 : decode cX8_priceOf 4 = .ok (.iload_n 3, 1) := by decide +kernel
theorem dX8_priceOf_5 : decode cX8_priceOf 5 = .ok (.invokevirtual 192, 3) := by decide +kernel
theorem dX8_priceOf_8 : decode cX8_priceOf 8 = .ok (.ixor, 1) := by decide +kernel
theorem dX8_priceOf_9 : decode cX8_priceOf 9 = .ok (.istore 5, 2) := by decide +kernel
theorem dX8_priceOf_11 : decode cX8_priceOf 11 = .ok (.iconst 0, 1) := by decide +kernel
theorem dX8_priceOf_12 : decode cX8_priceOf 12 = .ok (.istore 6, 2) := by decide +kernel
theorem dX8_priceOf_14 : decode cX8_priceOf 14 = .ok (.iconst 0, 1) := by decide +kernel
theorem dX8_priceOf_15 : decode cX8_priceOf 15 = .ok (.istore 7, 2) := by decide +kernel
theorem dX8_priceOf_17 : decode cX8_priceOf 17 = .ok (.iload 7, 2) := by decide +kernel
theorem dX8_priceOf_19 : decode cX8_priceOf 19 = .ok (.bipush 12, 2) := by decide +kernel
theorem dX8_priceOf_21 : decode cX8_priceOf 21 = .ok (.if_icmp .ge 49, 3) := by decide +kernel
theorem dX8_priceOf_24 : decode cX8_priceOf 24 = .ok (.iload 5, 2) := by decide +kernel
theorem dX8_priceOf_26 : decode cX8_priceOf 26 = .ok (.iload 7, 2) := by decide +kernel
theorem dX8_priceOf_28 : decode cX8_priceOf 28 = .ok (.ishr, 1) := by decide +kernel
theorem dX8_priceOf_29 : decode cX8_priceOf 29 = .ok (.iconst 1, 1) := by decide +kernel
theorem dX8_priceOf_30 : decode cX8_priceOf 30 = .ok (.iand, 1) := by decide +kernel
theorem dX8_priceOf_31 : decode cX8_priceOf 31 = .ok (.iconst 1, 1) := by decide +kernel
theorem dX8_priceOf_32 : decode cX8_priceOf 32 = .ok (.if_icmp .ne 32, 3) := by decide +kernel
theorem dX8_priceOf_35 : decode cX8_priceOf 35 = .ok (.aload_n 0, 1) := by decide +kernel
theorem dX8_priceOf_36 : decode cX8_priceOf 36 = .ok (.iload_n 2, 1) := by decide +kernel
theorem dX8_priceOf_37 : decode cX8_priceOf 37 = .ok (.iload_n 3, 1) := by decide +kernel
theorem dX8_priceOf_38 : decode cX8_priceOf 38 = .ok (.iload 7, 2) := by decide +kernel
theorem dX8_priceOf_40 : decode cX8_priceOf 40 = .ok (.invokestatic 183, 3) := by decide +kernel
theorem dX8_priceOf_43 : decode cX8_priceOf 43 = .ok (.iload_n 1, 1) := by decide +kernel
theorem dX8_priceOf_44 : decode cX8_priceOf 44 = .ok (.invokevirtual 118, 3) := by decide +kernel
theorem dX8_priceOf_47 : decode cX8_priceOf 47 = .ok (.istore 8, 2) := by decide +kernel
theorem dX8_priceOf_49 : decode cX8_priceOf 49 = .ok (.iload 8, 2) := by decide +kernel
theorem dX8_priceOf_51 : decode cX8_priceOf 51 = .ok (.iconst (-1), 1) := by decide +kernel
theorem dX8_priceOf_52 : decode cX8_priceOf 52 = .ok (.if_icmp .ne 5, 3) := by decide +kernel
theorem dX8_priceOf_55 : decode cX8_priceOf 55 = .ok (.iconst (-1), 1) := by decide +kernel
theorem dX8_priceOf_56 : decode cX8_priceOf 56 = .ok (.ireturn, 1) := by decide +kernel
theorem dX8_priceOf_57 : decode cX8_priceOf 57 = .ok (.iload 6, 2) := by decide +kernel
theorem dX8_priceOf_59 : decode cX8_priceOf 59 = .ok (.iload 8, 2) := by decide +kernel
theorem dX8_priceOf_61 : decode cX8_priceOf 61 = .ok (.iadd, 1) := by decide +kernel
theorem dX8_priceOf_62 : decode cX8_priceOf 62 = .ok (.istore 6, 2) := by decide +kernel
theorem dX8_priceOf_64 : decode cX8_priceOf 64 = .ok (.iinc 7 1, 3) := by decide +kernel
theorem dX8_priceOf_67 : decode cX8_priceOf 67 = .ok (.goto (-50), 3) := by decide +kernel
theorem dX8_priceOf_70 : decode cX8_priceOf 70 = .ok (.iload 6, 2) := by decide +kernel
theorem dX8_priceOf_72 : decode cX8_priceOf 72 = .ok (.ireturn, 1) := by decide +kernel
theorem dX8_makeBox_0 : decode cX8_makeBox 0 = .ok (.bipush 24, 2) := by decide +kernel
theorem dX8_makeBox_2 : decode cX8_makeBox 2 = .ok (.iload_n 3, 1) := by decide +kernel
theorem dX8_makeBox_3 : decode cX8_makeBox 3 = .ok (.imul, 1) := by decide +kernel
theorem dX8_makeBox_4 : decode cX8_makeBox 4 = .ok (.iload 4, 2) := by decide +kernel
theorem dX8_makeBox_6 : decode cX8_makeBox 6 = .ok (.iadd, 1) := by decide +kernel
theorem dX8_makeBox_7 : decode cX8_makeBox 7 = .ok (.istore 5, 2) := by decide +kernel
theorem dX8_makeBox_9 : decode cX8_makeBox 9 = .ok (.iload_n 1, 1) := by decide +kernel
theorem dX8_makeBox_10 : decode cX8_makeBox 10 = .ok (.iload_n 3, 1) := by decide +kernel
theorem dX8_makeBox_11 : decode cX8_makeBox 11 = .ok (.invokestatic 198, 3) := by decide +kernel
theorem dX8_makeBox_14 : decode cX8_makeBox 14 = .ok (.istore 6, 2) := by decide +kernel
theorem dX8_makeBox_16 : decode cX8_makeBox 16 = .ok (.aload_n 0, 1) := by decide +kernel
theorem dX8_makeBox_17 : decode cX8_makeBox 17 = .ok (.getfield 38, 3) := by decide +kernel
theorem dX8_makeBox_20 : decode cX8_makeBox 20 = .ok (.iload 5, 2) := by decide +kernel
theorem dX8_makeBox_22 : decode cX8_makeBox 22 = .ok (.iconst (-1), 1) := by decide +kernel
theorem dX8_makeBox_23 : decode cX8_makeBox 23 = .ok (.iastore, 1) := by decide +kernel
theorem dX8_makeBox_24 : decode cX8_makeBox 24 = .ok (.aload_n 0, 1) := by decide +kernel
theorem dX8_makeBox_25 : decode cX8_makeBox 25 = .ok (.getfield 41, 3) := by decide +kernel
theorem dX8_makeBox_28 : decode cX8_makeBox 28 = .ok (.iload 5, 2) := by decide +kernel
theorem dX8_makeBox_30 : decode cX8_makeBox 30 = .ok (.iconst (-1), 1) := by decide +kernel
theorem dX8_makeBox_31 : decode cX8_makeBox 31 = .ok (.iastore, 1) := by decide +kernel
theorem dX8_makeBox_32 : decode cX8_makeBox 32 = .ok (.iconst 0, 1) := by decide +kernel
theorem dX8_makeBox_33 : decode cX8_makeBox 33 = .ok (.istore 7, 2) := by decide +kernel
theorem dX8_makeBox_35 : decode cX8_makeBox 35 = .ok (.iload 7, 2) := by decide +kernel
theorem dX8_makeBox_37 : decode cX8_makeBox 37 = .ok (.sipush 4096, 3) := by decide +kernel
theorem dX8_makeBox_40 : decode cX8_makeBox 40 = .ok (.if_icmp .ge 84, 3) := by decide +kernel
theorem dX8_makeBox_43 : decode cX8_makeBox 43 = .ok (.aload_n 0, 1) := by decide +kernel
theorem dX8_makeBox_44 : decode cX8_makeBox 44 = .ok (.getfield 35, 3) := by decide +kernel
theorem dX8_makeBox_47 : decode cX8_makeBox 47 = .ok (.iload 7, 2) := by decide +kernel
theorem dX8_makeBox_49 : decode cX8_makeBox 49 = .ok (.iaload, 1) := by decide +kernel
theorem dX8_makeBox_50 : decode cX8_makeBox 50 = .ok (.iload 6, 2) := by decide +kernel
theorem dX8_makeBox_52 : decode cX8_makeBox 52 = .ok (.if_icmp .ne 16, 3) := by decide +kernel
theorem dX8_makeBox_55 : decode cX8_makeBox 55 = .ok (.aload_n 0, 1) := by decide +kernel
theorem dX8_makeBox_56 : decode cX8_makeBox 56 = .ok (.iload_n 1, 1) := by decide +kernel
theorem dX8_makeBox_57 : decode cX8_makeBox 57 = .ok (.iload_n 2, 1) := by decide +kernel
theorem dX8_makeBox_58 : decode cX8_makeBox 58 = .ok (.iload 4, 2) := by decide +kernel
theorem dX8_makeBox_60 : decode cX8_makeBox 60 = .ok (.iload 7, 2) := by decide +kernel
theorem dX8_makeBox_62 : decode cX8_makeBox 62 = .ok (.invokevirtual 201, 3) := by decide +kernel
theorem dX8_makeBox_65 : decode cX8_makeBox 65 = .ok (.goto 4, 3) := by decide +kernel
theorem dX8_makeBox_68 : decode cX8_makeBox 68 = .ok (.iconst (-1), 1) := by decide +kernel
theorem dX8_makeBox_69 : decode cX8_makeBox 69 = .ok (.istore 8, 2) := by decide +kernel
theorem dX8_makeBox_71 : decode cX8_makeBox 71 = .ok (.iload 8, 2) := by decide +kernel
theorem dX8_makeBox_73 : decode cX8_makeBox 73 = .ok (.iconst (-1), 1) := by decide +kernel
theorem dX8_makeBox_74 : decode cX8_makeBox 74 = .ok (.if_icmp .eq 44, 3) := by decide +kernel
theorem dX8_makeBox_77 : decode cX8_makeBox 77 = .ok (.aload_n 0, 1) := by decide +kernel
theorem dX8_makeBox_78 : decode cX8_makeBox 78 = .ok (.getfield 38, 3) := by decide +kernel
theorem dX8_makeBox_81 : decode cX8_makeBox 81 = .ok (.iload 5, 2) := by decide +kernel
theorem dX8_makeBox_83 : decode cX8_makeBox 83 = .ok (.iaload, 1) := by decide +kernel
theorem dX8_makeBox_84 : decode cX8_makeBox 84 = .ok (.iconst (-1), 1) := by decide +kernel
theorem dX8_makeBox_85 : decode cX8_makeBox 85 = .ok (.if_icmp .eq 15, 3) := by decide +kernel
theorem dX8_makeBox_88 : decode cX8_makeBox 88 = .ok (.iload 8, 2) := by decide +kernel
theorem dX8_makeBox_90 : decode cX8_makeBox 90 = .ok (.aload_n 0, 1) := by decide +kernel
theorem dX8_makeBox_91 : decode cX8_makeBox 91 = .ok (.getfield 38, 3) := by decide +kernel
theorem dX8_makeBox_94 : decode cX8_makeBox 94 = .ok (.iload 5, 2) := by decide +kernel
theorem dX8_makeBox_96 : decode cX8_makeBox 96 = .ok (.iaload, 1) := by decide +kernel
theorem dX8_makeBox_97 : decode cX8_makeBox 97 = .ok (.if_icmp .ge 21, 3) := by decide +kernel
theorem dX8_makeBox_100 : decode cX8_makeBox 100 = .ok (.aload_n 0, 1) := by decide +kernel
theorem dX8_makeBox_101 : decode cX8_makeBox 101 = .ok (.getfield 38, 3) := by decide +kernel
theorem dX8_makeBox_104 : decode cX8_makeBox 104 = .ok (.iload 5, 2) := by decide +kernel
theorem dX8_makeBox_106 : decode cX8_makeBox 106 = .ok (.iload 8, 2) := by decide +kernel
theorem dX8_makeBox_108 : decode cX8_makeBox 108 = .ok (.iastore, 1) := by decide +kernel
theorem dX8_makeBox_109 : decode cX8_makeBox 109 = .ok (.aload_n 0, 1) := by decide +kernel
theorem dX8_makeBox_110 : decode cX8_makeBox 110 = .ok (.getfield 41, 3) := by decide +kernel
theorem dX8_makeBox_113 : decode cX8_makeBox 113 = .ok (.iload 5, 2) := by decide +kernel
theorem dX8_makeBox_115 : decode cX8_makeBox 115 = .ok (.iload 7, 2) := by decide +kernel
theorem dX8_makeBox_117 : decode cX8_makeBox 117 = .ok (.iastore, 1) := by decide +kernel
theorem dX8_makeBox_118 : decode cX8_makeBox 118 = .ok (.iinc 7 1, 3) := by decide +kernel
theorem dX8_makeBox_121 : decode cX8_makeBox 121 = .ok (.goto (-86), 3) := by decide +kernel
theorem dX8_makeBox_124 : decode cX8_makeBox 124 = .ok (.return_, 1) := by decide +kernel
theorem dX8_makeBoxes_0 : decode cX8_makeBoxes 0 = .ok (.aload_n 0, 1) := by decide +kernel
theorem dX8_makeBoxes_1 : decode cX8_makeBoxes 1 = .ok (.invokevirtual 205, 3) := by decide +kernel
theorem dX8_makeBoxes_4 : decode cX8_makeBoxes 4 = .ok (.iconst 0, 1) := by decide +kernel
