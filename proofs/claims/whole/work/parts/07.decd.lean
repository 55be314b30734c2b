theorem dX8_makeBoxes_5 : decode cX8_makeBoxes 5 = .ok (.istore_n 3, 1) := by decide +kernel
theorem dX8_makeBoxes_6 : decode cX8_makeBoxes 6 = .ok (.iload_n 3, 1) := by decide +kernel
theorem dX8_makeBoxes_7 : decode cX8_makeBoxes 7 = .ok (.iload_n 1, 1) := by decide +kernel
theorem dX8_makeBoxes_8 : decode cX8_makeBoxes 8 = .ok (.invokestatic 195, 3) := by decide +kernel
theorem dX8_makeBoxes_11 : decode cX8_makeBoxes 11 = .ok (.if_icmp .ge 43, 3) := by decide +kernel
theorem dX8_makeBoxes_14 : decode cX8_makeBoxes 14 = .ok (.iconst 0, 1) := by decide +kernel
theorem dX8_makeBoxes_15 : decode cX8_makeBoxes 15 = .ok (.istore 4, 2) := by decide +kernel
theorem dX8_makeBoxes_17 : decode cX8_makeBoxes 17 = .ok (.iload 4, 2) := by decide +kernel
theorem dX8_makeBoxes_19 : decode cX8_makeBoxes 19 = .ok (.bipush 24, 2) := by decide +kernel
theorem dX8_makeBoxes_21 : decode cX8_makeBoxes 21 = .ok (.if_icmp .ge 27, 3) := by decide +kernel
theorem dX8_makeBoxes_24 : decode cX8_makeBoxes 24 = .ok (.aload_n 0, 1) := by decide +kernel
theorem dX8_makeBoxes_25 : decode cX8_makeBoxes 25 = .ok (.iload 4, 2) := by decide +kernel
theorem dX8_makeBoxes_27 : decode cX8_makeBoxes 27 = .ok (.invokevirtual 189, 3) := by decide +kernel
theorem dX8_makeBoxes_30 : decode cX8_makeBoxes 30 = .ok (.ifCond .eq 12, 3) := by decide +kernel
theorem dX8_makeBoxes_33 : decode cX8_makeBoxes 33 = .ok (.aload_n 0, 1) := by decide +kernel
theorem dX8_makeBoxes_34 : decode cX8_makeBoxes 34 = .ok (.iload_n 1, 1) := by decide +kernel
theorem dX8_makeBoxes_35 : decode cX8_makeBoxes 35 = .ok (.iload_n 2, 1) := by decide +kernel
theorem dX8_makeBoxes_36 : decode cX8_makeBoxes 36 = .ok (.iload_n 3, 1) := by decide +kernel
theorem dX8_makeBoxes_37 : decode cX8_makeBoxes 37 = .ok (.iload 4, 2) := by decide +kernel
theorem dX8_makeBoxes_39 : decode cX8_makeBoxes 39 = .ok (.invokevirtual 208, 3) := by decide +kernel
theorem dX8_makeBoxes_42 : decode cX8_makeBoxes 42 = .ok (.iinc 4 1, 3) := by decide +kernel
theorem dX8_makeBoxes_45 : decode cX8_makeBoxes 45 = .ok (.goto (-28), 3) := by decide +kernel
theorem dX8_makeBoxes_48 : decode cX8_makeBoxes 48 = .ok (.iinc 3 1, 3) := by decide +kernel
theorem dX8_makeBoxes_51 : decode cX8_makeBoxes 51 = .ok (.goto (-45), 3) := by decide +kernel
theorem dX8_makeBoxes_54 : decode cX8_makeBoxes 54 = .ok (.return_, 1) := by decide +kernel
theorem dX8_firstRow_0 : decode cX8_firstRow 0 = .ok (.aload_n 0, 1) := by decide +kernel
theorem dX8_firstRow_1 : decode cX8_firstRow 1 = .ok (.iconst 0, 1) := by decide +kernel
theorem dX8_firstRow_2 : decode cX8_firstRow 2 = .ok (.putfield 212, 3) := by decide +kernel
theorem dX8_firstRow_5 : decode cX8_firstRow 5 = .ok (.iconst 0, 1) := by decide +kernel
theorem dX8_firstRow_6 : decode cX8_firstRow 6 = .ok (.istore_n 2, 1) := by decide +kernel
theorem dX8_firstRow_7 : decode cX8_firstRow 7 = .ok (.iload_n 2, 1) := by decide +kernel
theorem dX8_firstRow_8 : decode cX8_firstRow 8 = .ok (.iload_n 1, 1) := by decide +kernel
theorem dX8_firstRow_9 : decode cX8_firstRow 9 = .ok (.invokestatic 195, 3) := by decide +kernel
theorem dX8_firstRow_12 : decode cX8_firstRow 12 = .ok (.if_icmp .ge 18, 3) := by decide +kernel
theorem dX8_firstRow_15 : decode cX8_firstRow 15 = .ok (.aload_n 0, 1) := by decide +kernel
theorem dX8_firstRow_16 : decode cX8_firstRow 16 = .ok (.getfield 50, 3) := by decide +kernel
theorem dX8_firstRow_19 : decode cX8_firstRow 19 = .ok (.iload_n 2, 1) := by decide +kernel
theorem dX8_firstRow_20 : decode cX8_firstRow 20 = .ok (.iconst 4, 1) := by decide +kernel
theorem dX8_firstRow_21 : decode cX8_firstRow 21 = .ok (.iload_n 2, 1) := by decide +kernel
theorem dX8_firstRow_22 : decode cX8_firstRow 22 = .ok (.imul, 1) := by decide +kernel
theorem dX8_firstRow_23 : decode cX8_firstRow 23 = .ok (.iastore, 1) := by decide +kernel
theorem dX8_firstRow_24 : decode cX8_firstRow 24 = .ok (.iinc 2 1, 3) := by decide +kernel
theorem dX8_firstRow_27 : decode cX8_firstRow 27 = .ok (.goto (-20), 3) := by decide +kernel
theorem dX8_firstRow_30 : decode cX8_firstRow 30 = .ok (.return_, 1) := by decide +kernel
theorem dX8_isRow_0 : decode cX8_isRow 0 = .ok (.aload_n 0, 1) := by decide +kernel
theorem dX8_isRow_1 : decode cX8_isRow 1 = .ok (.getfield 50, 3) := by decide +kernel
theorem dX8_isRow_4 : decode cX8_isRow 4 = .ok (.iload_n 1, 1) := by decide +kernel
theorem dX8_isRow_5 : decode cX8_isRow 5 = .ok (.invokestatic 195, 3) := by decide +kernel
theorem dX8_isRow_8 : decode cX8_isRow 8 = .ok (.iconst 1, 1) := by decide +kernel
theorem dX8_isRow_9 : decode cX8_isRow 9 = .ok (.isub, 1) := by decide +kernel
theorem dX8_isRow_10 : decode cX8_isRow 10 = .ok (.iaload, 1) := by decide +kernel
theorem dX8_isRow_11 : decode cX8_isRow 11 = .ok (.iconst 2, 1) := by decide +kernel
theorem dX8_isRow_12 : decode cX8_isRow 12 = .ok (.iadd, 1) := by decide +kernel
theorem dX8_isRow_13 : decode cX8_isRow 13 = .ok (.aload_n 0, 1) := by decide +kernel
theorem dX8_isRow_14 : decode cX8_isRow 14 = .ok (.getfield 7, 3) := by decide +kernel
theorem dX8_isRow_17 : decode cX8_isRow 17 = .ok (.iconst 0, 1) := by decide +kernel
theorem dX8_isRow_18 : decode cX8_isRow 18 = .ok (.iaload, 1) := by decide +kernel
theorem dX8_isRow_19 : decode cX8_isRow 19 = .ok (.if_icmp .ge 22, 3) := by decide +kernel
theorem dX8_isRow_22 : decode cX8_isRow 22 = .ok (.aload_n 0, 1) := by decide +kernel
theorem dX8_isRow_23 : decode cX8_isRow 23 = .ok (.getfield 212, 3) := by decide +kernel
theorem dX8_isRow_26 : decode cX8_isRow 26 = .ok (.iconst 3, 1) := by decide +kernel
theorem dX8_isRow_27 : decode cX8_isRow 27 = .ok (.iadd, 1) := by decide +kernel
theorem dX8_isRow_28 : decode cX8_isRow 28 = .ok (.aload_n 0, 1) := by decide +kernel
theorem dX8_isRow_29 : decode cX8_isRow 29 = .ok (.getfield 7, 3) := by decide +kernel
theorem dX8_isRow_32 : decode cX8_isRow 32 = .ok (.iconst 1, 1) := by decide +kernel
theorem dX8_isRow_33 : decode cX8_isRow 33 = .ok (.iaload, 1) := by decide +kernel
theorem dX8_isRow_34 : decode cX8_isRow 34 = .ok (.if_icmp .ge 7, 3) := by decide +kernel
theorem dX8_isRow_37 : decode cX8_isRow 37 = .ok (.iconst 1, 1) := by decide +kernel
theorem dX8_isRow_38 : decode cX8_isRow 38 = .ok (.goto 4, 3) := by decide +kernel
theorem dX8_isRow_41 : decode cX8_isRow 41 = .ok (.iconst 0, 1) := by decide +kernel
theorem dX8_isRow_42 : decode cX8_isRow 42 = .ok (.ireturn, 1) := by decide +kernel
theorem dX8_nextRow_0 : decode cX8_nextRow 0 = .ok (.iload_n 1, 1) := by decide +kernel
theorem dX8_nextRow_1 : decode cX8_nextRow 1 = .ok (.invokestatic 195, 3) := by decide +kernel
theorem dX8_nextRow_4 : decode cX8_nextRow 4 = .ok (.istore_n 2, 1) := by decide +kernel
theorem dX8_nextRow_5 : decode cX8_nextRow 5 = .ok (.iconst 0, 1) := by decide +kernel
theorem dX8_nextRow_6 : decode cX8_nextRow 6 = .ok (.istore_n 3, 1) := by decide +kernel
theorem dX8_nextRow_7 : decode cX8_nextRow 7 = .ok (.iload_n 2, 1) := by decide +kernel
theorem dX8_nextRow_8 : decode cX8_nextRow 8 = .ok (.iconst 1, 1) := by decide +kernel
theorem dX8_nextRow_9 : decode cX8_nextRow 9 = .ok (.isub, 1) := by decide +kernel
theorem dX8_nextRow_10 : decode cX8_nextRow 10 = .ok (.istore 4, 2) := by decide +kernel
theorem dX8_nextRow_12 : decode cX8_nextRow 12 = .ok (.iload 4, 2) := by decide +kernel
theorem dX8_nextRow_14 : decode cX8_nextRow 14 = .ok (.ifCond .lt 85, 3) := by decide +kernel
theorem dX8_nextRow_17 : decode cX8_nextRow 17 = .ok (.iload_n 3, 1) := by decide +kernel
theorem dX8_nextRow_18 : decode cX8_nextRow 18 = .ok (.ifCond .ne 81, 3) := by decide +kernel
theorem dX8_nextRow_21 : decode cX8_nextRow 21 = .ok (.aload_n 0, 1) := by decide +kernel
theorem dX8_nextRow_22 : decode cX8_nextRow 22 = .ok (.getfield 50, 3) := by decide +kernel
theorem dX8_nextRow_25 : decode cX8_nextRow 25 = .ok (.iload 4, 2) := by decide +kernel
theorem dX8_nextRow_27 : decode cX8_nextRow 27 = .ok (.dup2, 1) := by decide +kernel
theorem dX8_nextRow_28 : decode cX8_nextRow 28 = .ok (.iaload, 1) := by decide +kernel
theorem dX8_nextRow_29 : decode cX8_nextRow 29 = .ok (.iconst 1, 1) := by decide +kernel
theorem dX8_nextRow_30 : decode cX8_nextRow 30 = .ok (.iadd, 1) := by decide +kernel
theorem dX8_nextRow_31 : decode cX8_nextRow 31 = .ok (.iastore, 1) := by decide +kernel
theorem dX8_nextRow_32 : decode cX8_nextRow 32 = .ok (.iload 4, 2) := by decide +kernel
theorem dX8_nextRow_34 : decode cX8_nextRow 34 = .ok (.iconst 1, 1) := by decide +kernel
theorem dX8_nextRow_35 : decode cX8_nextRow 35 = .ok (.iadd, 1) := by decide +kernel
theorem dX8_nextRow_36 : decode cX8_nextRow 36 = .ok (.istore 5, 2) := by decide +kernel
theorem dX8_nextRow_38 : decode cX8_nextRow 38 = .ok (.iload 5, 2) := by decide +kernel
theorem dX8_nextRow_40 : decode cX8_nextRow 40 = .ok (.iload_n 2, 1) := by decide +kernel
theorem dX8_nextRow_41 : decode cX8_nextRow 41 = .ok (.if_icmp .ge 27, 3) := by decide +kernel
theorem dX8_nextRow_44 : decode cX8_nextRow 44 = .ok (.aload_n 0, 1) := by decide +kernel
theorem dX8_nextRow_45 : decode cX8_nextRow 45 = .ok (.getfield 50, 3) := by decide +kernel
theorem dX8_nextRow_48 : decode cX8_nextRow 48 = .ok (.iload 5, 2) := by decide +kernel
theorem dX8_nextRow_50 : decode cX8_nextRow 50 = .ok (.aload_n 0, 1) := by decide +kernel
theorem dX8_nextRow_51 : decode cX8_nextRow 51 = .ok (.getfield 50, 3) := by decide +kernel
theorem dX8_nextRow_54 : decode cX8_nextRow 54 = .ok (.iload 5, 2) := by decide +kernel
theorem dX8_nextRow_56 : decode cX8_nextRow 56 = .ok (.iconst 1, 1) := by decide +kernel
theorem dX8_nextRow_57 : decode cX8_nextRow 57 = .ok (.isub, 1) := by decide +kernel
theorem dX8_nextRow_58 : decode cX8_nextRow 58 = .ok (.iaload, 1) := by decide +kernel
theorem dX8_nextRow_59 : decode cX8_nextRow 59 = .ok (.iconst 4, 1) := by decide +kernel
theorem dX8_nextRow_60 : decode cX8_nextRow 60 = .ok (.iadd, 1) := by decide +kernel
theorem dX8_nextRow_61 : decode cX8_nextRow 61 = .ok (.iastore, 1) := by decide +kernel
theorem dX8_nextRow_62 : decode cX8_nextRow 62 = .ok (.iinc 5 1, 3) := by decide +kernel
theorem dX8_nextRow_65 : decode cX8_nextRow 65 = .ok (.goto (-27), 3) := by decide +kernel
theorem dX8_nextRow_68 : decode cX8_nextRow 68 = .ok (.aload_n 0, 1) := by decide +kernel
theorem dX8_nextRow_69 : decode cX8_nextRow 69 = .ok (.getfield 50, 3) := by decide +kernel
theorem dX8_nextRow_72 : decode cX8_nextRow 72 = .ok (.iload_n 2, 1) := by decide +kernel
theorem dX8_nextRow_73 : decode cX8_nextRow 73 = .ok (.iconst 1, 1) := by decide +kernel
theorem dX8_nextRow_74 : decode cX8_nextRow 74 = .ok (.isub, 1) := by decide +kernel
theorem dX8_nextRow_75 : decode cX8_nextRow 75 = .ok (.iaload, 1) := by decide +kernel
theorem dX8_nextRow_76 : decode cX8_nextRow 76 = .ok (.iconst 2, 1) := by decide +kernel
theorem dX8_nextRow_77 : decode cX8_nextRow 77 = .ok (.iadd, 1) := by decide +kernel
theorem dX8_nextRow_78 : decode cX8_nextRow 78 = .ok (.aload_n 0, 1) := by decide +kernel
theorem dX8_nextRow_79 : decode cX8_nextRow 79 = .ok (.getfield 7, 3) := by decide +kernel
theorem dX8_nextRow_82 : decode cX8_nextRow 82 = .ok (.iconst 0, 1) := by decide +kernel
theorem dX8_nextRow_83 : decode cX8_nextRow 83 = .ok (.iaload, 1) := by decide +kernel
theorem dX8_nextRow_84 : decode cX8_nextRow 84 = .ok (.if_icmp .ge 7, 3) := by decide +kernel
theorem dX8_nextRow_87 : decode cX8_nextRow 87 = .ok (.iconst 1, 1) := by decide +kernel
theorem dX8_nextRow_88 : decode cX8_nextRow 88 = .ok (.goto 4, 3) := by decide +kernel
theorem dX8_nextRow_91 : decode cX8_nextRow 91 = .ok (.iconst 0, 1) := by decide +kernel
theorem dX8_nextRow_92 : decode cX8_nextRow 92 = .ok (.istore_n 3, 1) := by decide +kernel
theorem dX8_nextRow_93 : decode cX8_nextRow 93 = .ok (.iinc 4 (-1), 3) := by decide +kernel
theorem dX8_nextRow_96 : decode cX8_nextRow 96 = .ok (.goto (-84), 3) := by decide +kernel
theorem dX8_nextRow_99 : decode cX8_nextRow 99 = .ok (.iload_n 3, 1) := by decide +kernel
theorem dX8_nextRow_100 : decode cX8_nextRow 100 = .ok (.ifCond .ne 22, 3) := by decide +kernel
theorem dX8_nextRow_103 : decode cX8_nextRow 103 = .ok (.aload_n 0, 1) := by decide +kernel
theorem dX8_nextRow_104 : decode cX8_nextRow 104 = .ok (.getfield 212, 3) := by decide +kernel
theorem dX8_nextRow_107 : decode cX8_nextRow 107 = .ok (.iconst 1, 1) := by decide +kernel
theorem dX8_nextRow_108 : decode cX8_nextRow 108 = .ok (.iadd, 1) := by decide +kernel
theorem dX8_nextRow_109 : decode cX8_nextRow 109 = .ok (.istore 4, 2) := by decide +kernel
theorem dX8_nextRow_111 : decode cX8_nextRow 111 = .ok (.aload_n 0, 1) := by decide +kernel
theorem dX8_nextRow_112 : decode cX8_nextRow 112 = .ok (.iload_n 1, 1) := by decide +kernel
theorem dX8_nextRow_113 : decode cX8_nextRow 113 = .ok (.invokevirtual 215, 3) := by decide +kernel
theorem dX8_nextRow_116 : decode cX8_nextRow 116 = .ok (.aload_n 0, 1) := by decide +kernel
theorem dX8_nextRow_117 : decode cX8_nextRow 117 = .ok (.iload 4, 2) := by decide +kernel
theorem dX8_nextRow_119 : decode cX8_nextRow 119 = .ok (.putfield 212, 3) := by decide +kernel
theorem dX8_nextRow_122 : decode cX8_nextRow 122 = .ok (.return_, 1) := by decide +kernel
theorem dX8_findWord_0 : decode cX8_findWord 0 = .ok (.aload_n 0, 1) := by decide +kernel
theorem dX8_findWord_1 : decode cX8_findWord 1 = .ok (.iload_n 1, 1) := by decide +kernel
theorem dX8_findWord_2 : decode cX8_findWord 2 = .ok (.iload_n 2, 1) := by decide +kernel
theorem dX8_findWord_3 : decode cX8_findWord 3 = .ok (.invokevirtual 219, 3) := by decide +kernel
theorem dX8_findWord_6 : decode cX8_findWord 6 = .ok (.aload_n 0, 1) := by decide +kernel
theorem dX8_findWord_7 : decode cX8_findWord 7 = .ok (.iconst (-1), 1) := by decide +kernel
theorem dX8_findWord_8 : decode cX8_findWord 8 = .ok (.putfield 222, 3) := by decide +kernel
theorem dX8_findWord_11 : decode cX8_findWord 11 = .ok (.aload_n 0, 1) := by decide +kernel
theorem dX8_findWord_12 : decode cX8_findWord 12 = .ok (.iload_n 1, 1) := by decide +kernel
theorem dX8_findWord_13 : decode cX8_findWord 13 = .ok (.invokevirtual 215, 3) := by decide +kernel
theorem dX8_findWord_16 : decode cX8_findWord 16 = .ok (.aload_n 0, 1) := by decide +kernel
theorem dX8_findWord_17 : decode cX8_findWord 17 = .ok (.iload_n 1, 1) := by decide +kernel
theorem dX8_findWord_18 : decode cX8_findWord 18 = .ok (.invokevirtual 225, 3) := by decide +kernel
theorem dX8_findWord_21 : decode cX8_findWord 21 = .ok (.ifCond .eq 142, 3) := by decide +kernel
theorem dX8_findWord_24 : decode cX8_findWord 24 = .ok (.iconst 0, 1) := by decide +kernel
theorem dX8_findWord_25 : decode cX8_findWord 25 = .ok (.istore_n 3, 1) := by decide +kernel
theorem dX8_findWord_26 : decode cX8_findWord 26 = .ok (.iconst 0, 1) := by decide +kernel
theorem dX8_findWord_27 : decode cX8_findWord 27 = .ok (.istore 4, 2) := by decide +kernel
theorem dX8_findWord_29 : decode cX8_findWord 29 = .ok (.iload 4, 2) := by decide +kernel
theorem dX8_findWord_31 : decode cX8_findWord 31 = .ok (.iload_n 1, 1) := by decide +kernel
theorem dX8_findWord_32 : decode cX8_findWord 32 = .ok (.invokestatic 195, 3) := by decide +kernel
theorem dX8_findWord_35 : decode cX8_findWord 35 = .ok (.if_icmp .ge 57, 3) := by decide +kernel
theorem dX8_findWord_38 : decode cX8_findWord 38 = .ok (.aload_n 0, 1) := by decide +kernel
theorem dX8_findWord_39 : decode cX8_findWord 39 = .ok (.getfield 38, 3) := by decide +kernel
theorem dX8_findWord_42 : decode cX8_findWord 42 = .ok (.bipush 24, 2) := by decide +kernel
theorem dX8_findWord_44 : decode cX8_findWord 44 = .ok (.iload 4, 2) := by decide +kernel
theorem dX8_findWord_46 : decode cX8_findWord 46 = .ok (.imul, 1) := by decide +kernel
theorem dX8_findWord_47 : decode cX8_findWord 47 = .ok (.bipush 12, 2) := by decide +kernel
theorem dX8_findWord_49 : decode cX8_findWord 49 = .ok (.aload_n 0, 1) := by decide +kernel
theorem dX8_findWord_50 : decode cX8_findWord 50 = .ok (.getfield 212, 3) := by decide +kernel
theorem dX8_findWord_53 : decode cX8_findWord 53 = .ok (.imul, 1) := by decide +kernel
theorem dX8_findWord_54 : decode cX8_findWord 54 = .ok (.iadd, 1) := by decide +kernel
theorem dX8_findWord_55 : decode cX8_findWord 55 = .ok (.aload_n 0, 1) := by decide +kernel
theorem dX8_findWord_56 : decode cX8_findWord 56 = .ok (.getfield 50, 3) := by decide +kernel
theorem dX8_findWord_59 : decode cX8_findWord 59 = .ok (.iload 4, 2) := by decide +kernel
theorem dX8_findWord_61 : decode cX8_findWord 61 = .ok (.iaload, 1) := by decide +kernel
theorem dX8_findWord_62 : decode cX8_findWord 62 = .ok (.iadd, 1) := by decide +kernel
theorem dX8_findWord_63 : decode cX8_findWord 63 = .ok (.iaload, 1) := by decide +kernel
theorem dX8_findWord_64 : decode cX8_findWord 64 = .ok (.istore 5, 2) := by decide +kernel
theorem dX8_findWord_66 : decode cX8_findWord 66 = .ok (.iload 5, 2) := by decide +kernel
theorem dX8_findWord_68 : decode cX8_findWord 68 = .ok (.iconst (-1), 1) := by decide +kernel
theorem dX8_findWord_69 : decode cX8_findWord 69 = .ok (.if_icmp .eq 8, 3) := by decide +kernel
theorem dX8_findWord_72 : decode cX8_findWord 72 = .ok (.iload_n 3, 1) := by decide +kernel
theorem dX8_findWord_73 : decode cX8_findWord 73 = .ok (.iconst (-1), 1) := by decide +kernel
theorem dX8_findWord_74 : decode cX8_findWord 74 = .ok (.if_icmp .ne 7, 3) := by decide +kernel
theorem dX8_findWord_77 : decode cX8_findWord 77 = .ok (.iconst (-1), 1) := by decide +kernel
theorem dX8_findWord_78 : decode cX8_findWord 78 = .ok (.goto 7, 3) := by decide +kernel
theorem dX8_findWord_81 : decode cX8_findWord 81 = .ok (.iload_n 3, 1) := by decide +kernel
theorem dX8_findWord_82 : decode cX8_findWord 82 = .ok (.iload 5, 2) := by decide +kernel
theorem dX8_findWord_84 : decode cX8_findWord 84 = .ok (.iadd, 1) := by decide +kernel
theorem dX8_findWord_85 : decode cX8_findWord 85 = .ok (.istore_n 3, 1) := by decide +kernel
theorem dX8_findWord_86 : decode cX8_findWord 86 = .ok (.iinc 4 1, 3) := by decide +kernel
theorem dX8_findWord_89 : decode cX8_findWord 89 = .ok (.goto (-60), 3) := by decide +kernel
theorem dX8_findWord_92 : decode cX8_findWord 92 = .ok (.iload_n 3, 1) := by decide +kernel
theorem dX8_findWord_93 : decode cX8_findWord 93 = .ok (.iconst (-1), 1) := by decide +kernel
theorem dX8_findWord_94 : decode cX8_findWord 94 = .ok (.if_icmp .eq 61, 3) := by decide +kernel
theorem dX8_findWord_97 : decode cX8_findWord 97 = .ok (.aload_n 0, 1) := by decide +kernel
theorem dX8_findWord_98 : decode cX8_findWord 98 = .ok (.getfield 222, 3) := by decide +kernel
theorem dX8_findWord_101 : decode cX8_findWord 101 = .ok (.iconst (-1), 1) := by decide +kernel
theorem dX8_findWord_102 : decode cX8_findWord 102 = .ok (.if_icmp .eq 11, 3) := by decide +kernel
theorem dX8_findWord_105 : decode cX8_findWord 105 = .ok (.iload_n 3, 1) := by decide +kernel
theorem dX8_findWord_106 : decode cX8_findWord 106 = .ok (.aload_n 0, 1) := by decide +kernel
theorem dX8_findWord_107 : decode cX8_findWord 107 = .ok (.getfield 222, 3) := by decide +kernel
theorem dX8_findWord_110 : decode cX8_findWord 110 = .ok (.if_icmp .ge 45, 3) := by decide +kernel
theorem dX8_findWord_113 : decode cX8_findWord 113 = .ok (.aload_n 0, 1) := by decide +kernel
theorem dX8_findWord_114 : decode cX8_findWord 114 = .ok (.iload_n 3, 1) := by decide +kernel
theorem dX8_findWord_115 : decode cX8_findWord 115 = .ok (.putfield 222, 3) := by decide +kernel
theorem dX8_findWord_118 : decode cX8_findWord 118 = .ok (.aload_n 0, 1) := by decide +kernel
theorem dX8_findWord_119 : decode cX8_findWord 119 = .ok (.aload_n 0, 1) := by decide +kernel
theorem dX8_findWord_120 : decode cX8_findWord 120 = .ok (.getfield 212, 3) := by decide +kernel
theorem dX8_findWord_123 : decode cX8_findWord 123 = .ok (.putfield 228, 3) := by decide +kernel
theorem dX8_findWord_126 : decode cX8_findWord 126 = .ok (.iconst 0, 1) := by decide +kernel
theorem dX8_findWord_127 : decode cX8_findWord 127 = .ok (.istore 4, 2) := by decide +kernel
theorem dX8_findWord_129 : decode cX8_findWord 129 = .ok (.iload 4, 2) := by decide +kernel
theorem dX8_findWord_131 : decode cX8_findWord 131 = .ok (.iconst 3, 1) := by decide +kernel
theorem dX8_findWord_132 : decode cX8_findWord 132 = .ok (.if_icmp .ge 23, 3) := by decide +kernel
theorem dX8_findWord_135 : decode cX8_findWord 135 = .ok (.aload_n 0, 1) := by decide +kernel
theorem dX8_findWord_136 : decode cX8_findWord 136 = .ok (.getfield 53, 3) := by decide +kernel
theorem dX8_findWord_139 : decode cX8_findWord 139 = .ok (.iload 4, 2) := by decide +kernel
theorem dX8_findWord_141 : decode cX8_findWord 141 = .ok (.aload_n 0, 1) := by decide +kernel
theorem dX8_findWord_142 : decode cX8_findWord 142 = .ok (.getfield 50, 3) := by decide +kernel
theorem dX8_findWord_145 : decode cX8_findWord 145 = .ok (.iload 4, 2) := by decide +kernel
theorem dX8_findWord_147 : decode cX8_findWord 147 = .ok (.iaload, 1) := by decide +kernel
theorem dX8_findWord_148 : decode cX8_findWord 148 = .ok (.iastore, 1) := by decide +kernel
theorem dX8_findWord_149 : decode cX8_findWord 149 = .ok (.iinc 4 1, 3) := by decide +kernel
theorem dX8_findWord_152 : decode cX8_findWord 152 = .ok (.goto (-23), 3) := by decide +kernel
theorem dX8_findWord_155 : decode cX8_findWord 155 = .ok (.aload_n 0, 1) := by decide +kernel
theorem dX8_findWord_156 : decode cX8_findWord 156 = .ok (.iload_n 1, 1) := by decide +kernel
theorem dX8_findWord_157 : decode cX8_findWord 157 = .ok (.invokevirtual 231, 3) := by decide +kernel
theorem dX8_findWord_160 : decode cX8_findWord 160 = .ok (.goto (-144), 3) := by decide +kernel
theorem dX8_findWord_163 : decode cX8_findWord 163 = .ok (.return_, 1) := by decide +kernel
theorem dX8_least_0 : decode cX8_least 0 = .ok (.aload_n 0, 1) := by decide +kernel
theorem dX8_least_1 : decode cX8_least 1 = .ok (.iload_n 1, 1) := by decide +kernel
theorem dX8_least_2 : decode cX8_least 2 = .ok (.invokevirtual 234, 3) := by decide +kernel
theorem dX8_least_5 : decode cX8_least 5 = .ok (.ifCond .eq 10, 3) := by decide +kernel
theorem dX8_least_8 : decode cX8_least 8 = .ok (.iload_n 2, 1) := by decide +kernel
theorem dX8_least_9 : decode cX8_least 9 = .ok (.invokestatic 85, 3) := by decide +kernel
theorem dX8_least_12 : decode cX8_least 12 = .ok (.ifCond .ne 10, 3) := by decide +kernel
theorem dX8_least_15 : decode cX8_least 15 = .ok (.aload_n 0, 1) := by decide +kernel
theorem dX8_least_16 : decode cX8_least 16 = .ok (.bipush (-2), 2) := by decide +kernel
theorem dX8_least_18 : decode cX8_least 18 = .ok (.invokevirtual 92, 3) := by decide +kernel
theorem dX8_least_21 : decode cX8_least 21 = .ok (.ireturn, 1) := by decide +kernel
theorem dX8_least_22 : decode cX8_least 22 = .ok (.aload_n 0, 1) := by decide +kernel
theorem dX8_least_23 : decode cX8_least 23 = .ok (.iload_n 1, 1) := by decide +kernel
theorem dX8_least_24 : decode cX8_least 24 = .ok (.iload_n 2, 1) := by decide +kernel
theorem dX8_least_25 : decode cX8_least 25 = .ok (.invokevirtual 237, 3) := by decide +kernel
theorem dX8_least_28 : decode cX8_least 28 = .ok (.aload_n 0, 1) := by decide +kernel
theorem dX8_least_29 : decode cX8_least 29 = .ok (.getfield 222, 3) := by decide +kernel
theorem dX8_least_32 : decode cX8_least 32 = .ok (.ireturn, 1) := by decide +kernel
theorem dX8_box_0 : decode cX8_box 0 = .ok (.aload_n 0, 1) := by decide +kernel
theorem dX8_box_1 : decode cX8_box 1 = .ok (.iload_n 1, 1) := by decide +kernel
theorem dX8_box_2 : decode cX8_box 2 = .ok (.invokevirtual 234, 3) := by decide +kernel
theorem dX8_box_5 : decode cX8_box 5 = .ok (.ifCond .eq 24, 3) := by decide +kernel
theorem dX8_box_8 : decode cX8_box 8 = .ok (.iload_n 2, 1) := by decide +kernel
theorem dX8_box_9 : decode cX8_box 9 = .ok (.invokestatic 85, 3) := by decide +kernel
theorem dX8_box_12 : decode cX8_box 12 = .ok (.ifCond .eq 17, 3) := by decide +kernel
theorem dX8_box_15 : decode cX8_box 15 = .ok (.iload_n 3, 1) := by decide +kernel
theorem dX8_box_16 : decode cX8_box 16 = .ok (.ifCond .lt 13, 3) := by decide +kernel
theorem dX8_box_19 : decode cX8_box 19 = .ok (.iload 4, 2) := by decide +kernel
theorem dX8_box_21 : decode cX8_box 21 = .ok (.iconst 0, 1) := by decide +kernel
theorem dX8_box_22 : decode cX8_box 22 = .ok (.iconst 1, 1) := by decide +kernel
theorem dX8_box_23 : decode cX8_box 23 = .ok (.invokestatic 70, 3) := by decide +kernel
theorem dX8_box_26 : decode cX8_box 26 = .ok (.ifCond .ne 10, 3) := by decide +kernel
theorem dX8_box_29 : decode cX8_box 29 = .ok (.aload_n 0, 1) := by decide +kernel
theorem dX8_box_30 : decode cX8_box 30 = .ok (.bipush (-10), 2) := by decide +kernel
theorem dX8_box_32 : decode cX8_box 32 = .ok (.invokevirtual 92, 3) := by decide +kernel
theorem dX8_box_35 : decode cX8_box 35 = .ok (.ireturn, 1) := by decide +kernel
theorem dX8_box_36 : decode cX8_box 36 = .ok (.aload_n 0, 1) := by decide +kernel
theorem dX8_box_37 : decode cX8_box 37 = .ok (.iload_n 1, 1) := by decide +kernel
theorem dX8_box_38 : decode cX8_box 38 = .ok (.iload_n 2, 1) := by decide +kernel
theorem dX8_box_39 : decode cX8_box 39 = .ok (.invokevirtual 237, 3) := by decide +kernel
theorem dX8_box_42 : decode cX8_box 42 = .ok (.aload_n 0, 1) := by decide +kernel
theorem dX8_box_43 : decode cX8_box 43 = .ok (.getfield 222, 3) := by decide +kernel
theorem dX8_box_46 : decode cX8_box 46 = .ok (.iconst (-1), 1) := by decide +kernel
theorem dX8_box_47 : decode cX8_box 47 = .ok (.if_icmp .eq 11, 3) := by decide +kernel
theorem dX8_box_50 : decode cX8_box 50 = .ok (.iload_n 3, 1) := by decide +kernel
theorem dX8_box_51 : decode cX8_box 51 = .ok (.iload_n 1, 1) := by decide +kernel
theorem dX8_box_52 : decode cX8_box 52 = .ok (.invokestatic 195, 3) := by decide +kernel
theorem dX8_box_55 : decode cX8_box 55 = .ok (.if_icmp .lt 6, 3) := by decide +kernel
theorem dX8_box_58 : decode cX8_box 58 = .ok (.bipush (-5), 2) := by decide +kernel
theorem dX8_box_60 : decode cX8_box 60 = .ok (.ireturn, 1) := by decide +kernel
theorem dX8_box_61 : decode cX8_box 61 = .ok (.bipush 12, 2) := by decide +kernel
theorem dX8_box_63 : decode cX8_box 63 = .ok (.aload_n 0, 1) := by decide +kernel
theorem dX8_box_64 : decode cX8_box 64 = .ok (.getfield 228, 3) := by decide +kernel
theorem dX8_box_67 : decode cX8_box 67 = .ok (.imul, 1) := by decide +kernel
theorem dX8_box_68 : decode cX8_box 68 = .ok (.aload_n 0, 1) := by decide +kernel
theorem dX8_box_69 : decode cX8_box 69 = .ok (.getfield 53, 3) := by decide +kernel
theorem dX8_box_72 : decode cX8_box 72 = .ok (.iload_n 3, 1) := by decide +kernel
theorem dX8_box_73 : decode cX8_box 73 = .ok (.iaload, 1) := by decide +kernel
theorem dX8_box_74 : decode cX8_box 74 = .ok (.iadd, 1) := by decide +kernel
theorem dX8_box_75 : decode cX8_box 75 = .ok (.istore 5, 2) := by decide +kernel
theorem dX8_box_77 : decode cX8_box 77 = .ok (.iload 4, 2) := by decide +kernel
theorem dX8_box_79 : decode cX8_box 79 = .ok (.ifCond .ne 8, 3) := by decide +kernel
theorem dX8_box_82 : decode cX8_box 82 = .ok (.iload 5, 2) := by decide +kernel
theorem dX8_box_84 : decode cX8_box 84 = .ok (.goto 15, 3) := by decide +kernel
theorem dX8_box_87 : decode cX8_box 87 = .ok (.aload_n 0, 1) := by decide +kernel
theorem dX8_box_88 : decode cX8_box 88 = .ok (.getfield 41, 3) := by decide +kernel
theorem dX8_box_91 : decode cX8_box 91 = .ok (.bipush 24, 2) := by decide +kernel
theorem dX8_box_93 : decode cX8_box 93 = .ok (.iload_n 3, 1) := by decide +kernel
theorem dX8_box_94 : decode cX8_box 94 = .ok (.imul, 1) := by decide +kernel
theorem dX8_box_95 : decode cX8_box 95 = .ok (.iload 5, 2) := by decide +kernel
theorem dX8_box_97 : decode cX8_box 97 = .ok (.iadd, 1) := by decide +kernel
theorem dX8_box_98 : decode cX8_box 98 = .ok (.iaload, 1) := by decide +kernel
theorem dX8_box_99 : decode cX8_box 99 = .ok (.ireturn, 1) := by decide +kernel
theorem dX8_wallOf_0 : decode cX8_wallOf 0 = .ok (.lconst 0, 1) := by decide +kernel
theorem dX8_wallOf_1 : decode cX8_wallOf 1 = .ok (.lstore_n 2, 1) := by decide +kernel
theorem dX8_wallOf_2 : decode cX8_wallOf 2 = .ok (.iconst 0, 1) := by decide +kernel
theorem dX8_wallOf_3 : decode cX8_wallOf 3 = .ok (.istore 4, 2) := by decide +kernel
theorem dX8_wallOf_5 : decode cX8_wallOf 5 = .ok (.iload 4, 2) := by decide +kernel
theorem dX8_wallOf_7 : decode cX8_wallOf 7 = .ok (.bipush 60, 2) := by decide +kernel
theorem dX8_wallOf_9 : decode cX8_wallOf 9 = .ok (.if_icmp .ge 31, 3) := by decide +kernel
theorem dX8_wallOf_12 : decode cX8_wallOf 12 = .ok (.lload_n 2, 1) := by decide +kernel
theorem dX8_wallOf_13 : decode cX8_wallOf 13 = .ok (.aload_n 0, 1) := by decide +kernel
theorem dX8_wallOf_14 : decode cX8_wallOf 14 = .ok (.getfield 7, 3) := by decide +kernel
theorem dX8_wallOf_17 : decode cX8_wallOf 17 = .ok (.bipush 96, 2) := by decide +kernel
theorem dX8_wallOf_19 : decode cX8_wallOf 19 = .ok (.bipush 60, 2) := by decide +kernel
theorem dX8_wallOf_21 : decode cX8_wallOf 21 = .ok (.iload_n 1, 1) := by decide +kernel
theorem dX8_wallOf_22 : decode cX8_wallOf 22 = .ok (.imul, 1) := by decide +kernel
theorem dX8_wallOf_23 : decode cX8_wallOf 23 = .ok (.iadd, 1) := by decide +kernel
theorem dX8_wallOf_24 : decode cX8_wallOf 24 = .ok (.iload 4, 2) := by decide +kernel
theorem dX8_wallOf_26 : decode cX8_wallOf 26 = .ok (.iadd, 1) := by decide +kernel
theorem dX8_wallOf_27 : decode cX8_wallOf 27 = .ok (.iaload, 1) := by decide +kernel
theorem dX8_wallOf_28 : decode cX8_wallOf 28 = .ok (.i2l, 1) := by decide +kernel
theorem dX8_wallOf_29 : decode cX8_wallOf 29 = .ok (.iload 4, 2) := by decide +kernel
theorem dX8_wallOf_31 : decode cX8_wallOf 31 = .ok (.lshl, 1) := by decide +kernel
theorem dX8_wallOf_32 : decode cX8_wallOf 32 = .ok (.lor, 1) := by decide +kernel
theorem dX8_wallOf_33 : decode cX8_wallOf 33 = .ok (.lstore_n 2, 1) := by decide +kernel
theorem dX8_wallOf_34 : decode cX8_wallOf 34 = .ok (.iinc 4 1, 3) := by decide +kernel
theorem dX8_wallOf_37 : decode cX8_wallOf 37 = .ok (.goto (-32), 3) := by decide +kernel
theorem dX8_wallOf_40 : decode cX8_wallOf 40 = .ok (.lload_n 2, 1) := by decide +kernel
theorem dX8_wallOf_41 : decode cX8_wallOf 41 = .ok (.lreturn, 1) := by decide +kernel
theorem dX8_findWalls_0 : decode cX8_findWalls 0 = .ok (.aload_n 0, 1) := by decide +kernel
theorem dX8_findWalls_1 : decode cX8_findWalls 1 = .ok (.getfield 60, 3) := by decide +kernel
theorem dX8_findWalls_4 : decode cX8_findWalls 4 = .ok (.iload_n 1, 1) := by decide +kernel
theorem dX8_findWalls_5 : decode cX8_findWalls 5 = .ok (.iconst 0, 1) := by decide +kernel
theorem dX8_findWalls_6 : decode cX8_findWalls 6 = .ok (.iastore, 1) := by decide +kernel
theorem dX8_findWalls_7 : decode cX8_findWalls 7 = .ok (.aload_n 0, 1) := by decide +kernel
theorem dX8_findWalls_8 : decode cX8_findWalls 8 = .ok (.iload_n 2, 1) := by decide +kernel
theorem dX8_findWalls_9 : decode cX8_findWalls 9 = .ok (.invokevirtual 215, 3) := by decide +kernel
theorem dX8_findWalls_12 : decode cX8_findWalls 12 = .ok (.aload_n 0, 1) := by decide +kernel
theorem dX8_findWalls_13 : decode cX8_findWalls 13 = .ok (.iload_n 2, 1) := by decide +kernel
theorem dX8_findWalls_14 : decode cX8_findWalls 14 = .ok (.invokevirtual 225, 3) := by decide +kernel
theorem dX8_findWalls_17 : decode cX8_findWalls 17 = .ok (.ifCond .eq 182, 3) := by decide +kernel
theorem dX8_findWalls_20 : decode cX8_findWalls 20 = .ok (.iconst 1, 1) := by decide +kernel
theorem dX8_findWalls_21 : decode cX8_findWalls 21 = .ok (.istore 4, 2) := by decide +kernel
theorem dX8_findWalls_23 : decode cX8_findWalls 23 = .ok (.aload_n 0, 1) := by decide +kernel
theorem dX8_findWalls_24 : decode cX8_findWalls 24 = .ok (.iload_n 3, 1) := by decide +kernel
theorem dX8_findWalls_25 : decode cX8_findWalls 25 = .ok (.invokevirtual 240, 3) := by decide +kernel
theorem dX8_findWalls_28 : decode cX8_findWalls 28 = .ok (.lstore 5, 2) := by decide +kernel
theorem dX8_findWalls_30 : decode cX8_findWalls 30 = .ok (.iconst 0, 1) := by decide +kernel
theorem dX8_findWalls_31 : decode cX8_findWalls 31 = .ok (.istore 7, 2) := by decide +kernel
theorem dX8_findWalls_33 : decode cX8_findWalls 33 = .ok (.iload 7, 2) := by decide +kernel
theorem dX8_findWalls_35 : decode cX8_findWalls 35 = .ok (.iload_n 2, 1) := by decide +kernel
theorem dX8_findWalls_36 : decode cX8_findWalls 36 = .ok (.invokestatic 195, 3) := by decide +kernel
theorem dX8_findWalls_39 : decode cX8_findWalls 39 = .ok (.if_icmp .ge 119, 3) := by decide +kernel
theorem dX8_findWalls_42 : decode cX8_findWalls 42 = .ok (.bipush 12, 2) := by decide +kernel
theorem dX8_findWalls_44 : decode cX8_findWalls 44 = .ok (.aload_n 0, 1) := by decide +kernel
theorem dX8_findWalls_45 : decode cX8_findWalls 45 = .ok (.getfield 212, 3) := by decide +kernel
theorem dX8_findWalls_48 : decode cX8_findWalls 48 = .ok (.imul, 1) := by decide +kernel
theorem dX8_findWalls_49 : decode cX8_findWalls 49 = .ok (.aload_n 0, 1) := by decide +kernel
theorem dX8_findWalls_50 : decode cX8_findWalls 50 = .ok (.getfield 50, 3) := by decide +kernel
theorem dX8_findWalls_53 : decode cX8_findWalls 53 = .ok (.iload 7, 2) := by decide +kernel
theorem dX8_findWalls_55 : decode cX8_findWalls 55 = .ok (.iaload, 1) := by decide +kernel
theorem dX8_findWalls_56 : decode cX8_findWalls 56 = .ok (.iadd, 1) := by decide +kernel
theorem dX8_findWalls_57 : decode cX8_findWalls 57 = .ok (.istore 8, 2) := by decide +kernel
theorem dX8_findWalls_59 : decode cX8_findWalls 59 = .ok (.aload_n 0, 1) := by decide +kernel
theorem dX8_findWalls_60 : decode cX8_findWalls 60 = .ok (.getfield 7, 3) := by decide +kernel
theorem dX8_findWalls_63 : decode cX8_findWalls 63 = .ok (.bipush 30, 2) := by decide +kernel
theorem dX8_findWalls_65 : decode cX8_findWalls 65 = .ok (.iload_n 2, 1) := by decide +kernel
theorem dX8_findWalls_66 : decode cX8_findWalls 66 = .ok (.iload 7, 2) := by decide +kernel
theorem dX8_findWalls_68 : decode cX8_findWalls 68 = .ok (.invokestatic 198, 3) := by decide +kernel
theorem dX8_findWalls_71 : decode cX8_findWalls 71 = .ok (.iadd, 1) := by decide +kernel
theorem dX8_findWalls_72 : decode cX8_findWalls 72 = .ok (.iaload, 1) := by decide +kernel
theorem dX8_findWalls_73 : decode cX8_findWalls 73 = .ok (.istore 9, 2) := by decide +kernel
theorem dX8_findWalls_75 : decode cX8_findWalls 75 = .ok (.iload 4, 2) := by decide +kernel
theorem dX8_findWalls_77 : decode cX8_findWalls 77 = .ok (.ifCond .eq 21, 3) := by decide +kernel
theorem dX8_findWalls_80 : decode cX8_findWalls 80 = .ok (.aload_n 0, 1) := by decide +kernel
theorem dX8_findWalls_81 : decode cX8_findWalls 81 = .ok (.iload_n 2, 1) := by decide +kernel
theorem dX8_findWalls_82 : decode cX8_findWalls 82 = .ok (.iload_n 3, 1) := by decide +kernel
theorem dX8_findWalls_83 : decode cX8_findWalls 83 = .ok (.iload 8, 2) := by decide +kernel
theorem dX8_findWalls_85 : decode cX8_findWalls 85 = .ok (.iload 9, 2) := by decide +kernel
theorem dX8_findWalls_87 : decode cX8_findWalls 87 = .ok (.invokevirtual 201, 3) := by decide +kernel
theorem dX8_findWalls_90 : decode cX8_findWalls 90 = .ok (.iconst (-1), 1) := by decide +kernel
theorem dX8_findWalls_91 : decode cX8_findWalls 91 = .ok (.if_icmp .eq 7, 3) := by decide +kernel
theorem dX8_findWalls_94 : decode cX8_findWalls 94 = .ok (.iconst 1, 1) := by decide +kernel
theorem dX8_findWalls_95 : decode cX8_findWalls 95 = .ok (.goto 4, 3) := by decide +kernel
theorem dX8_findWalls_98 : decode cX8_findWalls 98 = .ok (.iconst 0, 1) := by decide +kernel
theorem dX8_findWalls_99 : decode cX8_findWalls 99 = .ok (.istore 4, 2) := by decide +kernel
theorem dX8_findWalls_101 : decode cX8_findWalls 101 = .ok (.iconst 0, 1) := by decide +kernel
theorem dX8_findWalls_102 : decode cX8_findWalls 102 = .ok (.istore 10, 2) := by decide +kernel
theorem dX8_findWalls_104 : decode cX8_findWalls 104 = .ok (.iload 10, 2) := by decide +kernel
theorem dX8_findWalls_106 : decode cX8_findWalls 106 = .ok (.bipush 12, 2) := by decide +kernel
theorem dX8_findWalls_108 : decode cX8_findWalls 108 = .ok (.if_icmp .ge 44, 3) := by decide +kernel
theorem dX8_findWalls_111 : decode cX8_findWalls 111 = .ok (.lload 5, 2) := by decide +kernel
theorem dX8_findWalls_113 : decode cX8_findWalls 113 = .ok (.lconst 1, 1) := by decide +kernel
theorem dX8_findWalls_114 : decode cX8_findWalls 114 = .ok (.iload 8, 2) := by decide +kernel
theorem dX8_findWalls_116 : decode cX8_findWalls 116 = .ok (.iload 10, 2) := by decide +kernel
theorem dX8_findWalls_118 : decode cX8_findWalls 118 = .ok (.invokestatic 183, 3) := by decide +kernel
theorem dX8_findWalls_121 : decode cX8_findWalls 121 = .ok (.lshl, 1) := by decide +kernel
theorem dX8_findWalls_122 : decode cX8_findWalls 122 = .ok (.ldc2_w 244, 3) := by decide +kernel
theorem dX8_findWalls_125 : decode cX8_findWalls 125 = .ok (.lxor, 1) := by decide +kernel
theorem dX8_findWalls_126 : decode cX8_findWalls 126 = .ok (.land, 1) := by decide +kernel
theorem dX8_findWalls_127 : decode cX8_findWalls 127 = .ok (.iload 9, 2) := by decide +kernel
theorem dX8_findWalls_129 : decode cX8_findWalls 129 = .ok (.iload 10, 2) := by decide +kernel
theorem dX8_findWalls_131 : decode cX8_findWalls 131 = .ok (.ishr, 1) := by decide +kernel
theorem dX8_findWalls_132 : decode cX8_findWalls 132 = .ok (.iconst 1, 1) := by decide +kernel
theorem dX8_findWalls_133 : decode cX8_findWalls 133 = .ok (.iand, 1) := by decide +kernel
theorem dX8_findWalls_134 : decode cX8_findWalls 134 = .ok (.i2l, 1) := by decide +kernel
theorem dX8_findWalls_135 : decode cX8_findWalls 135 = .ok (.iload 8, 2) := by decide +kernel
theorem dX8_findWalls_137 : decode cX8_findWalls 137 = .ok (.iload 10, 2) := by decide +kernel
theorem dX8_findWalls_139 : decode cX8_findWalls 139 = .ok (.invokestatic 183, 3) := by decide +kernel
theorem dX8_findWalls_142 : decode cX8_findWalls 142 = .ok (.lshl, 1) := by decide +kernel
theorem dX8_findWalls_143 : decode cX8_findWalls 143 = .ok (.lor, 1) := by decide +kernel
theorem dX8_findWalls_144 : decode cX8_findWalls 144 = .ok (.lstore 5, 2) := by decide +kernel
theorem dX8_findWalls_146 : decode cX8_findWalls 146 = .ok (.iinc 10 1, 3) := by decide +kernel
theorem dX8_findWalls_149 : decode cX8_findWalls 149 = .ok (.goto (-45), 3) := by decide +kernel
theorem dX8_findWalls_152 : decode cX8_findWalls 152 = .ok (.iinc 7 1, 3) := by decide +kernel
theorem dX8_findWalls_155 : decode cX8_findWalls 155 = .ok (.goto (-122), 3) := by decide +kernel
theorem dX8_findWalls_158 : decode cX8_findWalls 158 = .ok (.iload 4, 2) := by decide +kernel
theorem dX8_findWalls_160 : decode cX8_findWalls 160 = .ok (.ifCond .eq 31, 3) := by decide +kernel
theorem dX8_findWalls_163 : decode cX8_findWalls 163 = .ok (.aload_n 0, 1) := by decide +kernel
theorem dX8_findWalls_164 : decode cX8_findWalls 164 = .ok (.getfield 56, 3) := by decide +kernel
theorem dX8_findWalls_167 : decode cX8_findWalls 167 = .ok (.bipush 64, 2) := by decide +kernel
theorem dX8_findWalls_169 : decode cX8_findWalls 169 = .ok (.iload_n 1, 1) := by decide +kernel
theorem dX8_findWalls_170 : decode cX8_findWalls 170 = .ok (.imul, 1) := by decide +kernel
theorem dX8_findWalls_171 : decode cX8_findWalls 171 = .ok (.aload_n 0, 1) := by decide +kernel
theorem dX8_findWalls_172 : decode cX8_findWalls 172 = .ok (.getfield 60, 3) := by decide +kernel
theorem dX8_findWalls_175 : decode cX8_findWalls 175 = .ok (.iload_n 1, 1) := by decide +kernel
theorem dX8_findWalls_176 : decode cX8_findWalls 176 = .ok (.iaload, 1) := by decide +kernel
theorem dX8_findWalls_177 : decode cX8_findWalls 177 = .ok (.iadd, 1) := by decide +kernel
theorem dX8_findWalls_178 : decode cX8_findWalls 178 = .ok (.lload 5, 2) := by decide +kernel
theorem dX8_findWalls_180 : decode cX8_findWalls 180 = .ok (.lastore, 1) := by decide +kernel
theorem dX8_findWalls_181 : decode cX8_findWalls 181 = .ok (.aload_n 0, 1) := by decide +kernel
theorem dX8_findWalls_182 : decode cX8_findWalls 182 = .ok (.getfield 60, 3) := by decide +kernel
theorem dX8_findWalls_185 : decode cX8_findWalls 185 = .ok (.iload_n 1, 1) := by decide +kernel
theorem dX8_findWalls_186 : decode cX8_findWalls 186 = .ok (.dup2, 1) := by decide +kernel
theorem dX8_findWalls_187 : decode cX8_findWalls 187 = .ok (.iaload, 1) := by decide +kernel
theorem dX8_findWalls_188 : decode cX8_findWalls 188 = .ok (.iconst 1, 1) := by decide +kernel
theorem dX8_findWalls_189 : decode cX8_findWalls 189 = .ok (.iadd, 1) := by decide +kernel
theorem dX8_findWalls_190 : decode cX8_findWalls 190 = .ok (.iastore, 1) := by decide +kernel
theorem dX8_findWalls_191 : decode cX8_findWalls 191 = .ok (.aload_n 0, 1) := by decide +kernel
theorem dX8_findWalls_192 : decode cX8_findWalls 192 = .ok (.iload_n 2, 1) := by decide +kernel
theorem dX8_findWalls_193 : decode cX8_findWalls 193 = .ok (.invokevirtual 231, 3) := by decide +kernel
theorem dX8_findWalls_196 : decode cX8_findWalls 196 = .ok (.goto (-184), 3) := by decide +kernel
theorem dX8_findWalls_199 : decode cX8_findWalls 199 = .ok (.return_, 1) := by decide +kernel
theorem dX8_onesOf_0 : decode cX8_onesOf 0 = .ok (.iconst 0, 1) := by decide +kernel
theorem dX8_onesOf_1 : decode cX8_onesOf 1 = .ok (.istore_n 3, 1) := by decide +kernel
theorem dX8_onesOf_2 : decode cX8_onesOf 2 = .ok (.iconst 0, 1) := by decide +kernel
theorem dX8_onesOf_3 : decode cX8_onesOf 3 = .ok (.istore 4, 2) := by decide +kernel
theorem dX8_onesOf_5 : decode cX8_onesOf 5 = .ok (.iload 4, 2) := by decide +kernel
theorem dX8_onesOf_7 : decode cX8_onesOf 7 = .ok (.bipush 60, 2) := by decide +kernel
theorem dX8_onesOf_9 : decode cX8_onesOf 9 = .ok (.if_icmp .ge 26, 3) := by decide +kernel
theorem dX8_onesOf_12 : decode cX8_onesOf 12 = .ok (.iload_n 3, 1) := by decide +kernel
theorem dX8_onesOf_13 : decode cX8_onesOf 13 = .ok (.aload_n 0, 1) := by decide +kernel
theorem dX8_onesOf_14 : decode cX8_onesOf 14 = .ok (.getfield 29, 3) := by decide +kernel
theorem dX8_onesOf_17 : decode cX8_onesOf 17 = .ok (.lload_n 1, 1) := by decide +kernel
theorem dX8_onesOf_18 : decode cX8_onesOf 18 = .ok (.iload 4, 2) := by decide +kernel
theorem dX8_onesOf_20 : decode cX8_onesOf 20 = .ok (.lshr, 1) := by decide +kernel
theorem dX8_onesOf_21 : decode cX8_onesOf 21 = .ok (.ldc2_w 246, 3) := by decide +kernel
theorem dX8_onesOf_24 : decode cX8_onesOf 24 = .ok (.land, 1) := by decide +kernel
theorem dX8_onesOf_25 : decode cX8_onesOf 25 = .ok (.l2i, 1) := by decide +kernel
theorem dX8_onesOf_26 : decode cX8_onesOf 26 = .ok (.iaload, 1) := by decide +kernel
theorem dX8_onesOf_27 : decode cX8_onesOf 27 = .ok (.iadd, 1) := by decide +kernel
theorem dX8_onesOf_28 : decode cX8_onesOf 28 = .ok (.istore_n 3, 1) := by decide +kernel
theorem dX8_onesOf_29 : decode cX8_onesOf 29 = .ok (.iinc 4 12, 3) := by decide +kernel
theorem dX8_onesOf_32 : decode cX8_onesOf 32 = .ok (.goto (-27), 3) := by decide +kernel
theorem dX8_onesOf_35 : decode cX8_onesOf 35 = .ok (.iload_n 3, 1) := by decide +kernel
theorem dX8_onesOf_36 : decode cX8_onesOf 36 = .ok (.ireturn, 1) := by decide +kernel
theorem dX8_two_0 : decode cX8_two 0 = .ok (.aload_n 0, 1) := by decide +kernel
theorem dX8_two_1 : decode cX8_two 1 = .ok (.iload_n 1, 1) := by decide +kernel
theorem dX8_two_2 : decode cX8_two 2 = .ok (.invokevirtual 234, 3) := by decide +kernel
theorem dX8_two_5 : decode cX8_two 5 = .ok (.ifCond .eq 26, 3) := by decide +kernel
theorem dX8_two_8 : decode cX8_two 8 = .ok (.iload_n 2, 1) := by decide +kernel
theorem dX8_two_9 : decode cX8_two 9 = .ok (.invokestatic 85, 3) := by decide +kernel
theorem dX8_two_12 : decode cX8_two 12 = .ok (.ifCond .eq 19, 3) := by decide +kernel
theorem dX8_two_15 : decode cX8_two 15 = .ok (.aload_n 0, 1) := by decide +kernel
theorem dX8_two_16 : decode cX8_two 16 = .ok (.iload_n 3, 1) := by decide +kernel
theorem dX8_two_17 : decode cX8_two 17 = .ok (.invokevirtual 234, 3) := by decide +kernel
theorem dX8_two_20 : decode cX8_two 20 = .ok (.ifCond .eq 11, 3) := by decide +kernel
theorem dX8_two_23 : decode cX8_two 23 = .ok (.iload 4, 2) := by decide +kernel
theorem dX8_two_25 : decode cX8_two 25 = .ok (.invokestatic 85, 3) := by decide +kernel
theorem dX8_two_28 : decode cX8_two 28 = .ok (.ifCond .ne 10, 3) := by decide +kernel
theorem dX8_two_31 : decode cX8_two 31 = .ok (.aload_n 0, 1) := by decide +kernel
theorem dX8_two_32 : decode cX8_two 32 = .ok (.bipush (-2), 2) := by decide +kernel
theorem dX8_two_34 : decode cX8_two 34 = .ok (.invokevirtual 92, 3) := by decide +kernel
theorem dX8_two_37 : decode cX8_two 37 = .ok (.ireturn, 1) := by decide +kernel
theorem dX8_two_38 : decode cX8_two 38 = .ok (.aload_n 0, 1) := by decide +kernel
theorem dX8_two_39 : decode cX8_two 39 = .ok (.iconst 0, 1) := by decide +kernel
theorem dX8_two_40 : decode cX8_two 40 = .ok (.iload_n 1, 1) := by decide +kernel
theorem dX8_two_41 : decode cX8_two 41 = .ok (.iload_n 2, 1) := by decide +kernel
theorem dX8_two_42 : decode cX8_two 42 = .ok (.invokevirtual 248, 3) := by decide +kernel
theorem dX8_two_45 : decode cX8_two 45 = .ok (.aload_n 0, 1) := by decide +kernel
theorem dX8_two_46 : decode cX8_two 46 = .ok (.iconst 1, 1) := by decide +kernel
theorem dX8_two_47 : decode cX8_two 47 = .ok (.iload_n 3, 1) := by decide +kernel
theorem dX8_two_48 : decode cX8_two 48 = .ok (.iload 4, 2) := by decide +kernel
theorem dX8_two_50 : decode cX8_two 50 = .ok (.invokevirtual 248, 3) := by decide +kernel
theorem dX8_two_53 : decode cX8_two 53 = .ok (.iconst (-1), 1) := by decide +kernel
theorem dX8_two_54 : decode cX8_two 54 = .ok (.istore 5, 2) := by decide +kernel
theorem dX8_two_56 : decode cX8_two 56 = .ok (.iconst 0, 1) := by decide +kernel
theorem dX8_two_57 : decode cX8_two 57 = .ok (.istore 6, 2) := by decide +kernel
theorem dX8_two_59 : decode cX8_two 59 = .ok (.iload 6, 2) := by decide +kernel
theorem dX8_two_61 : decode cX8_two 61 = .ok (.aload_n 0, 1) := by decide +kernel
theorem dX8_two_62 : decode cX8_two 62 = .ok (.getfield 60, 3) := by decide +kernel
theorem dX8_two_65 : decode cX8_two 65 = .ok (.iconst 0, 1) := by decide +kernel
theorem dX8_two_66 : decode cX8_two 66 = .ok (.iaload, 1) := by decide +kernel
theorem dX8_two_67 : decode cX8_two 67 = .ok (.if_icmp .ge 75, 3) := by decide +kernel
theorem dX8_two_70 : decode cX8_two 70 = .ok (.iconst 0, 1) := by decide +kernel
theorem dX8_two_71 : decode cX8_two 71 = .ok (.istore 7, 2) := by decide +kernel
theorem dX8_two_73 : decode cX8_two 73 = .ok (.iload 7, 2) := by decide +kernel
theorem dX8_two_75 : decode cX8_two 75 = .ok (.aload_n 0, 1) := by decide +kernel
theorem dX8_two_76 : decode cX8_two 76 = .ok (.getfield 60, 3) := by decide +kernel
theorem dX8_two_79 : decode cX8_two 79 = .ok (.iconst 1, 1) := by decide +kernel
theorem dX8_two_80 : decode cX8_two 80 = .ok (.iaload, 1) := by decide +kernel
theorem dX8_two_81 : decode cX8_two 81 = .ok (.if_icmp .ge 55, 3) := by decide +kernel
theorem dX8_two_84 : decode cX8_two 84 = .ok (.aload_n 0, 1) := by decide +kernel
theorem dX8_two_85 : decode cX8_two 85 = .ok (.aload_n 0, 1) := by decide +kernel
theorem dX8_two_86 : decode cX8_two 86 = .ok (.getfield 56, 3) := by decide +kernel
theorem dX8_two_89 : decode cX8_two 89 = .ok (.iload 6, 2) := by decide +kernel
theorem dX8_two_91 : decode cX8_two 91 = .ok (.laload, 1) := by decide +kernel
theorem dX8_two_92 : decode cX8_two 92 = .ok (.aload_n 0, 1) := by decide +kernel
theorem dX8_two_93 : decode cX8_two 93 = .ok (.getfield 56, 3) := by decide +kernel
theorem dX8_two_96 : decode cX8_two 96 = .ok (.bipush 64, 2) := by decide +kernel
theorem dX8_two_98 : decode cX8_two 98 = .ok (.iload 7, 2) := by decide +kernel
theorem dX8_two_100 : decode cX8_two 100 = .ok (.iadd, 1) := by decide +kernel
theorem dX8_two_101 : decode cX8_two 101 = .ok (.laload, 1) := by decide +kernel
theorem dX8_two_102 : decode cX8_two 102 = .ok (.lxor, 1) := by decide +kernel
theorem dX8_two_103 : decode cX8_two 103 = .ok (.invokevirtual 252, 3) := by decide +kernel
theorem dX8_two_106 : decode cX8_two 106 = .ok (.istore 8, 2) := by decide +kernel
theorem dX8_two_108 : decode cX8_two 108 = .ok (.iload 5, 2) := by decide +kernel
theorem dX8_two_110 : decode cX8_two 110 = .ok (.iconst (-1), 1) := by decide +kernel
theorem dX8_two_111 : decode cX8_two 111 = .ok (.if_icmp .eq 10, 3) := by decide +kernel
theorem dX8_two_114 : decode cX8_two 114 = .ok (.iload 8, 2) := by decide +kernel
theorem dX8_two_116 : decode cX8_two 116 = .ok (.iload 5, 2) := by decide +kernel
theorem dX8_two_118 : decode cX8_two 118 = .ok (.if_icmp .ge 8, 3) := by decide +kernel
theorem dX8_two_121 : decode cX8_two 121 = .ok (.iload 8, 2) := by decide +kernel
theorem dX8_two_123 : decode cX8_two 123 = .ok (.goto 5, 3) := by decide +kernel
theorem dX8_two_126 : decode cX8_two 126 = .ok (.iload 5, 2) := by decide +kernel
theorem dX8_two_128 : decode cX8_two 128 = .ok (.istore 5, 2) := by decide +kernel
theorem dX8_two_130 : decode cX8_two 130 = .ok (.iinc 7 1, 3) := by decide +kernel
theorem dX8_two_133 : decode cX8_two 133 = .ok (.goto (-60), 3) := by decide +kernel
theorem dX8_two_136 : decode cX8_two 136 = .ok (.iinc 6 1, 3) := by decide +kernel
theorem dX8_two_139 : decode cX8_two 139 = .ok (.goto (-80), 3) := by decide +kernel
theorem dX8_two_142 : decode cX8_two 142 = .ok (.iload 5, 2) := by decide +kernel
theorem dX8_two_144 : decode cX8_two 144 = .ok (.ireturn, 1) := by decide +kernel
theorem dX8_menOf_0 : decode cX8_menOf 0 = .ok (.iload 4, 2) := by decide +kernel
theorem dX8_menOf_2 : decode cX8_menOf 2 = .ok (.aload_n 0, 1) := by decide +kernel
theorem dX8_menOf_3 : decode cX8_menOf 3 = .ok (.iload_n 2, 1) := by decide +kernel
theorem dX8_menOf_4 : decode cX8_menOf 4 = .ok (.iload_n 3, 1) := by decide +kernel
theorem dX8_menOf_5 : decode cX8_menOf 5 = .ok (.invokevirtual 192, 3) := by decide +kernel
theorem dX8_menOf_8 : decode cX8_menOf 8 = .ok (.ixor, 1) := by decide +kernel
theorem dX8_menOf_9 : decode cX8_menOf 9 = .ok (.istore 5, 2) := by decide +kernel
theorem dX8_menOf_11 : decode cX8_menOf 11 = .ok (.iconst 0, 1) := by decide +kernel
theorem dX8_menOf_12 : decode cX8_menOf 12 = .ok (.istore 6, 2) := by decide +kernel
theorem dX8_menOf_14 : decode cX8_menOf 14 = .ok (.iconst 0, 1) := by decide +kernel
theorem dX8_menOf_15 : decode cX8_menOf 15 = .ok (.istore 7, 2) := by decide +kernel
theorem dX8_menOf_17 : decode cX8_menOf 17 = .ok (.iload 7, 2) := by decide +kernel
theorem dX8_menOf_19 : decode cX8_menOf 19 = .ok (.bipush 12, 2) := by decide +kernel
theorem dX8_menOf_21 : decode cX8_menOf 21 = .ok (.if_icmp .ge 59, 3) := by decide +kernel
theorem dX8_menOf_24 : decode cX8_menOf 24 = .ok (.iload 5, 2) := by decide +kernel
theorem dX8_menOf_26 : decode cX8_menOf 26 = .ok (.iload 7, 2) := by decide +kernel
theorem dX8_menOf_28 : decode cX8_menOf 28 = .ok (.ishr, 1) := by decide +kernel
theorem dX8_menOf_29 : decode cX8_menOf 29 = .ok (.iconst 1, 1) := by decide +kernel
theorem dX8_menOf_30 : decode cX8_menOf 30 = .ok (.iand, 1) := by decide +kernel
theorem dX8_menOf_31 : decode cX8_menOf 31 = .ok (.iconst 1, 1) := by decide +kernel
theorem dX8_menOf_32 : decode cX8_menOf 32 = .ok (.if_icmp .ne 42, 3) := by decide +kernel
theorem dX8_menOf_35 : decode cX8_menOf 35 = .ok (.aload_n 0, 1) := by decide +kernel
theorem dX8_menOf_36 : decode cX8_menOf 36 = .ok (.iload_n 2, 1) := by decide +kernel
theorem dX8_menOf_37 : decode cX8_menOf 37 = .ok (.iload_n 3, 1) := by decide +kernel
theorem dX8_menOf_38 : decode cX8_menOf 38 = .ok (.iload 7, 2) := by decide +kernel
theorem dX8_menOf_40 : decode cX8_menOf 40 = .ok (.invokestatic 183, 3) := by decide +kernel
theorem dX8_menOf_43 : decode cX8_menOf 43 = .ok (.iload_n 1, 1) := by decide +kernel
theorem dX8_menOf_44 : decode cX8_menOf 44 = .ok (.invokevirtual 118, 3) := by decide +kernel
theorem dX8_menOf_47 : decode cX8_menOf 47 = .ok (.iconst (-1), 1) := by decide +kernel
theorem dX8_menOf_48 : decode cX8_menOf 48 = .ok (.if_icmp .ne 5, 3) := by decide +kernel
theorem dX8_menOf_51 : decode cX8_menOf 51 = .ok (.iconst (-1), 1) := by decide +kernel
theorem dX8_menOf_52 : decode cX8_menOf 52 = .ok (.ireturn, 1) := by decide +kernel
theorem dX8_menOf_53 : decode cX8_menOf 53 = .ok (.iload 6, 2) := by decide +kernel
theorem dX8_menOf_55 : decode cX8_menOf 55 = .ok (.iconst 1, 1) := by decide +kernel
theorem dX8_menOf_56 : decode cX8_menOf 56 = .ok (.aload_n 0, 1) := by decide +kernel
theorem dX8_menOf_57 : decode cX8_menOf 57 = .ok (.getfield 7, 3) := by decide +kernel
theorem dX8_menOf_60 : decode cX8_menOf 60 = .ok (.bipush 36, 2) := by decide +kernel
theorem dX8_menOf_62 : decode cX8_menOf 62 = .ok (.iload_n 3, 1) := by decide +kernel
theorem dX8_menOf_63 : decode cX8_menOf 63 = .ok (.iload 7, 2) := by decide +kernel
theorem dX8_menOf_65 : decode cX8_menOf 65 = .ok (.invokestatic 183, 3) := by decide +kernel
theorem dX8_menOf_68 : decode cX8_menOf 68 = .ok (.iadd, 1) := by decide +kernel
theorem dX8_menOf_69 : decode cX8_menOf 69 = .ok (.iaload, 1) := by decide +kernel
theorem dX8_menOf_70 : decode cX8_menOf 70 = .ok (.ishl, 1) := by decide +kernel
theorem dX8_menOf_71 : decode cX8_menOf 71 = .ok (.ior, 1) := by decide +kernel
theorem dX8_menOf_72 : decode cX8_menOf 72 = .ok (.istore 6, 2) := by decide +kernel
theorem dX8_menOf_74 : decode cX8_menOf 74 = .ok (.iinc 7 1, 3) := by decide +kernel
theorem dX8_menOf_77 : decode cX8_menOf 77 = .ok (.goto (-60), 3) := by decide +kernel
theorem dX8_menOf_80 : decode cX8_menOf 80 = .ok (.iload 6, 2) := by decide +kernel
theorem dX8_menOf_82 : decode cX8_menOf 82 = .ok (.ireturn, 1) := by decide +kernel
theorem dX8_findEnough_0 : decode cX8_findEnough 0 = .ok (.iload_n 1, 1) := by decide +kernel
theorem dX8_findEnough_1 : decode cX8_findEnough 1 = .ok (.iload_n 3, 1) := by decide +kernel
theorem dX8_findEnough_2 : decode cX8_findEnough 2 = .ok (.invokestatic 198, 3) := by decide +kernel
theorem dX8_findEnough_5 : decode cX8_findEnough 5 = .ok (.istore 5, 2) := by decide +kernel
theorem dX8_findEnough_7 : decode cX8_findEnough 7 = .ok (.iconst 0, 1) := by decide +kernel
theorem dX8_findEnough_8 : decode cX8_findEnough 8 = .ok (.istore 6, 2) := by decide +kernel
theorem dX8_findEnough_10 : decode cX8_findEnough 10 = .ok (.iload 6, 2) := by decide +kernel
theorem dX8_findEnough_12 : decode cX8_findEnough 12 = .ok (.bipush 64, 2) := by decide +kernel
theorem dX8_findEnough_14 : decode cX8_findEnough 14 = .ok (.if_icmp .ge 17, 3) := by decide +kernel
theorem dX8_findEnough_17 : decode cX8_findEnough 17 = .ok (.aload_n 0, 1) := by decide +kernel
theorem dX8_findEnough_18 : decode cX8_findEnough 18 = .ok (.getfield 47, 3) := by decide +kernel
theorem dX8_findEnough_21 : decode cX8_findEnough 21 = .ok (.iload 6, 2) := by decide +kernel
theorem dX8_findEnough_23 : decode cX8_findEnough 23 = .ok (.iconst 0, 1) := by decide +kernel
theorem dX8_findEnough_24 : decode cX8_findEnough 24 = .ok (.bastore, 1) := by decide +kernel
theorem dX8_findEnough_25 : decode cX8_findEnough 25 = .ok (.iinc 6 1, 3) := by decide +kernel
theorem dX8_findEnough_28 : decode cX8_findEnough 28 = .ok (.goto (-18), 3) := by decide +kernel
theorem dX8_findEnough_31 : decode cX8_findEnough 31 = .ok (.iconst 0, 1) := by decide +kernel
theorem dX8_findEnough_32 : decode cX8_findEnough 32 = .ok (.istore 6, 2) := by decide +kernel
theorem dX8_findEnough_34 : decode cX8_findEnough 34 = .ok (.iload 6, 2) := by decide +kernel
theorem dX8_findEnough_36 : decode cX8_findEnough 36 = .ok (.sipush 4096, 3) := by decide +kernel
theorem dX8_findEnough_39 : decode cX8_findEnough 39 = .ok (.if_icmp .ge 51, 3) := by decide +kernel
theorem dX8_findEnough_42 : decode cX8_findEnough 42 = .ok (.aload_n 0, 1) := by decide +kernel
theorem dX8_findEnough_43 : decode cX8_findEnough 43 = .ok (.getfield 35, 3) := by decide +kernel
theorem dX8_findEnough_46 : decode cX8_findEnough 46 = .ok (.iload 6, 2) := by decide +kernel
theorem dX8_findEnough_48 : decode cX8_findEnough 48 = .ok (.iaload, 1) := by decide +kernel
theorem dX8_findEnough_49 : decode cX8_findEnough 49 = .ok (.iload 5, 2) := by decide +kernel
theorem dX8_findEnough_51 : decode cX8_findEnough 51 = .ok (.if_icmp .ne 16, 3) := by decide +kernel
theorem dX8_findEnough_54 : decode cX8_findEnough 54 = .ok (.aload_n 0, 1) := by decide +kernel
theorem dX8_findEnough_55 : decode cX8_findEnough 55 = .ok (.iload_n 1, 1) := by decide +kernel
theorem dX8_findEnough_56 : decode cX8_findEnough 56 = .ok (.iload_n 2, 1) := by decide +kernel
theorem dX8_findEnough_57 : decode cX8_findEnough 57 = .ok (.iload 4, 2) := by decide +kernel
theorem dX8_findEnough_59 : decode cX8_findEnough 59 = .ok (.iload 6, 2) := by decide +kernel
theorem dX8_findEnough_61 : decode cX8_findEnough 61 = .ok (.invokevirtual 256, 3) := by decide +kernel
theorem dX8_findEnough_64 : decode cX8_findEnough 64 = .ok (.goto 4, 3) := by decide +kernel
theorem dX8_findEnough_67 : decode cX8_findEnough 67 = .ok (.iconst (-1), 1) := by decide +kernel
theorem dX8_findEnough_68 : decode cX8_findEnough 68 = .ok (.istore 7, 2) := by decide +kernel
theorem dX8_findEnough_70 : decode cX8_findEnough 70 = .ok (.iload 7, 2) := by decide +kernel
theorem dX8_findEnough_72 : decode cX8_findEnough 72 = .ok (.iconst (-1), 1) := by decide +kernel
theorem dX8_findEnough_73 : decode cX8_findEnough 73 = .ok (.if_icmp .eq 11, 3) := by decide +kernel
theorem dX8_findEnough_76 : decode cX8_findEnough 76 = .ok (.aload_n 0, 1) := by decide +kernel
theorem dX8_findEnough_77 : decode cX8_findEnough 77 = .ok (.getfield 47, 3) := by decide +kernel
theorem dX8_findEnough_80 : decode cX8_findEnough 80 = .ok (.iload 7, 2) := by decide +kernel
theorem dX8_findEnough_82 : decode cX8_findEnough 82 = .ok (.iconst 1, 1) := by decide +kernel
theorem dX8_findEnough_83 : decode cX8_findEnough 83 = .ok (.bastore, 1) := by decide +kernel
theorem dX8_findEnough_84 : decode cX8_findEnough 84 = .ok (.iinc 6 1, 3) := by decide +kernel
theorem dX8_findEnough_87 : decode cX8_findEnough 87 = .ok (.goto (-53), 3) := by decide +kernel
theorem dX8_findEnough_90 : decode cX8_findEnough 90 = .ok (.iconst 0, 1) := by decide +kernel
theorem dX8_findEnough_91 : decode cX8_findEnough 91 = .ok (.istore 6, 2) := by decide +kernel
theorem dX8_findEnough_93 : decode cX8_findEnough 93 = .ok (.iload 6, 2) := by decide +kernel
theorem dX8_findEnough_95 : decode cX8_findEnough 95 = .ok (.bipush 64, 2) := by decide +kernel
theorem dX8_findEnough_97 : decode cX8_findEnough 97 = .ok (.if_icmp .ge 80, 3) := by decide +kernel
theorem dX8_findEnough_100 : decode cX8_findEnough 100 = .ok (.iconst 0, 1) := by decide +kernel
theorem dX8_findEnough_101 : decode cX8_findEnough 101 = .ok (.istore 7, 2) := by decide +kernel
theorem dX8_findEnough_103 : decode cX8_findEnough 103 = .ok (.iconst 0, 1) := by decide +kernel
theorem dX8_findEnough_104 : decode cX8_findEnough 104 = .ok (.istore 8, 2) := by decide +kernel
theorem dX8_findEnough_106 : decode cX8_findEnough 106 = .ok (.iload 8, 2) := by decide +kernel
theorem dX8_findEnough_108 : decode cX8_findEnough 108 = .ok (.iload 6, 2) := by decide +kernel
theorem dX8_findEnough_110 : decode cX8_findEnough 110 = .ok (.if_icmp .gt 41, 3) := by decide +kernel
theorem dX8_findEnough_113 : decode cX8_findEnough 113 = .ok (.iload 7, 2) := by decide +kernel
theorem dX8_findEnough_115 : decode cX8_findEnough 115 = .ok (.ifCond .ne 23, 3) := by decide +kernel
theorem dX8_findEnough_118 : decode cX8_findEnough 118 = .ok (.aload_n 0, 1) := by decide +kernel
theorem dX8_findEnough_119 : decode cX8_findEnough 119 = .ok (.getfield 47, 3) := by decide +kernel
theorem dX8_findEnough_122 : decode cX8_findEnough 122 = .ok (.iload 8, 2) := by decide +kernel
theorem dX8_findEnough_124 : decode cX8_findEnough 124 = .ok (.baload, 1) := by decide +kernel
theorem dX8_findEnough_125 : decode cX8_findEnough 125 = .ok (.ifCond .eq 17, 3) := by decide +kernel
theorem dX8_findEnough_128 : decode cX8_findEnough 128 = .ok (.iload 8, 2) := by decide +kernel
theorem dX8_findEnough_130 : decode cX8_findEnough 130 = .ok (.iload 6, 2) := by decide +kernel
theorem dX8_findEnough_132 : decode cX8_findEnough 132 = .ok (.iconst (-1), 1) := by decide +kernel
theorem dX8_findEnough_133 : decode cX8_findEnough 133 = .ok (.ixor, 1) := by decide +kernel
theorem dX8_findEnough_134 : decode cX8_findEnough 134 = .ok (.iand, 1) := by decide +kernel
theorem dX8_findEnough_135 : decode cX8_findEnough 135 = .ok (.ifCond .ne 7, 3) := by decide +kernel
theorem dX8_findEnough_138 : decode cX8_findEnough 138 = .ok (.iconst 1, 1) := by decide +kernel
theorem dX8_findEnough_139 : decode cX8_findEnough 139 = .ok (.goto 4, 3) := by decide +kernel
theorem dX8_findEnough_142 : decode cX8_findEnough 142 = .ok (.iconst 0, 1) := by decide +kernel
theorem dX8_findEnough_143 : decode cX8_findEnough 143 = .ok (.istore 7, 2) := by decide +kernel
theorem dX8_findEnough_145 : decode cX8_findEnough 145 = .ok (.iinc 8 1, 3) := by decide +kernel
theorem dX8_findEnough_148 : decode cX8_findEnough 148 = .ok (.goto (-42), 3) := by decide +kernel
theorem dX8_findEnough_151 : decode cX8_findEnough 151 = .ok (.aload_n 0, 1) := by decide +kernel
theorem dX8_findEnough_152 : decode cX8_findEnough 152 = .ok (.getfield 44, 3) := by decide +kernel
theorem dX8_findEnough_155 : decode cX8_findEnough 155 = .ok (.bipush 64, 2) := by decide +kernel
theorem dX8_findEnough_157 : decode cX8_findEnough 157 = .ok (.bipush 24, 2) := by decide +kernel
theorem dX8_findEnough_159 : decode cX8_findEnough 159 = .ok (.iload_n 3, 1) := by decide +kernel
theorem dX8_findEnough_160 : decode cX8_findEnough 160 = .ok (.imul, 1) := by decide +kernel
theorem dX8_findEnough_161 : decode cX8_findEnough 161 = .ok (.iload 4, 2) := by decide +kernel
theorem dX8_findEnough_163 : decode cX8_findEnough 163 = .ok (.iadd, 1) := by decide +kernel
theorem dX8_findEnough_164 : decode cX8_findEnough 164 = .ok (.imul, 1) := by decide +kernel
theorem dX8_findEnough_165 : decode cX8_findEnough 165 = .ok (.iload 6, 2) := by decide +kernel
theorem dX8_findEnough_167 : decode cX8_findEnough 167 = .ok (.iadd, 1) := by decide +kernel
theorem dX8_findEnough_168 : decode cX8_findEnough 168 = .ok (.iload 7, 2) := by decide +kernel
theorem dX8_findEnough_170 : decode cX8_findEnough 170 = .ok (.bastore, 1) := by decide +kernel
theorem dX8_findEnough_171 : decode cX8_findEnough 171 = .ok (.iinc 6 1, 3) := by decide +kernel
theorem dX8_findEnough_174 : decode cX8_findEnough 174 = .ok (.goto (-81), 3) := by decide +kernel
theorem dX8_findEnough_177 : decode cX8_findEnough 177 = .ok (.return_, 1) := by decide +kernel
theorem dX8_canBy_0 : decode cX8_canBy 0 = .ok (.iconst 0, 1) := by decide +kernel
theorem dX8_canBy_1 : decode cX8_canBy 1 = .ok (.istore_n 3, 1) := by decide +kernel
theorem dX8_canBy_2 : decode cX8_canBy 2 = .ok (.aload_n 0, 1) := by decide +kernel
theorem dX8_canBy_3 : decode cX8_canBy 3 = .ok (.iload_n 1, 1) := by decide +kernel
theorem dX8_canBy_4 : decode cX8_canBy 4 = .ok (.invokevirtual 215, 3) := by decide +kernel
theorem dX8_canBy_7 : decode cX8_canBy 7 = .ok (.aload_n 0, 1) := by decide +kernel
theorem dX8_canBy_8 : decode cX8_canBy 8 = .ok (.iload_n 1, 1) := by decide +kernel
theorem dX8_canBy_9 : decode cX8_canBy 9 = .ok (.invokevirtual 225, 3) := by decide +kernel
theorem dX8_canBy_12 : decode cX8_canBy 12 = .ok (.ifCond .eq 85, 3) := by decide +kernel
theorem dX8_canBy_15 : decode cX8_canBy 15 = .ok (.iload_n 3, 1) := by decide +kernel
theorem dX8_canBy_16 : decode cX8_canBy 16 = .ok (.ifCond .ne 81, 3) := by decide +kernel
theorem dX8_canBy_19 : decode cX8_canBy 19 = .ok (.iconst 1, 1) := by decide +kernel
theorem dX8_canBy_20 : decode cX8_canBy 20 = .ok (.istore 4, 2) := by decide +kernel
theorem dX8_canBy_22 : decode cX8_canBy 22 = .ok (.iconst 0, 1) := by decide +kernel
theorem dX8_canBy_23 : decode cX8_canBy 23 = .ok (.istore 5, 2) := by decide +kernel
theorem dX8_canBy_25 : decode cX8_canBy 25 = .ok (.iload 5, 2) := by decide +kernel
theorem dX8_canBy_27 : decode cX8_canBy 27 = .ok (.iload_n 1, 1) := by decide +kernel
theorem dX8_canBy_28 : decode cX8_canBy 28 = .ok (.invokestatic 195, 3) := by decide +kernel
theorem dX8_canBy_31 : decode cX8_canBy 31 = .ok (.if_icmp .ge 55, 3) := by decide +kernel
theorem dX8_canBy_34 : decode cX8_canBy 34 = .ok (.iload 4, 2) := by decide +kernel
theorem dX8_canBy_36 : decode cX8_canBy 36 = .ok (.ifCond .eq 41, 3) := by decide +kernel
theorem dX8_canBy_39 : decode cX8_canBy 39 = .ok (.aload_n 0, 1) := by decide +kernel
theorem dX8_canBy_40 : decode cX8_canBy 40 = .ok (.getfield 44, 3) := by decide +kernel
theorem dX8_canBy_43 : decode cX8_canBy 43 = .ok (.bipush 64, 2) := by decide +kernel
theorem dX8_canBy_45 : decode cX8_canBy 45 = .ok (.bipush 24, 2) := by decide +kernel
theorem dX8_canBy_47 : decode cX8_canBy 47 = .ok (.iload 5, 2) := by decide +kernel
theorem dX8_canBy_49 : decode cX8_canBy 49 = .ok (.imul, 1) := by decide +kernel
theorem dX8_canBy_50 : decode cX8_canBy 50 = .ok (.bipush 12, 2) := by decide +kernel
theorem dX8_canBy_52 : decode cX8_canBy 52 = .ok (.aload_n 0, 1) := by decide +kernel
theorem dX8_canBy_53 : decode cX8_canBy 53 = .ok (.getfield 212, 3) := by decide +kernel
theorem dX8_canBy_56 : decode cX8_canBy 56 = .ok (.imul, 1) := by decide +kernel
theorem dX8_canBy_57 : decode cX8_canBy 57 = .ok (.iadd, 1) := by decide +kernel
theorem dX8_canBy_58 : decode cX8_canBy 58 = .ok (.aload_n 0, 1) := by decide +kernel
theorem dX8_canBy_59 : decode cX8_canBy 59 = .ok (.getfield 50, 3) := by decide +kernel
theorem dX8_canBy_62 : decode cX8_canBy 62 = .ok (.iload 5, 2) := by decide +kernel
theorem dX8_canBy_64 : decode cX8_canBy 64 = .ok (.iaload, 1) := by decide +kernel
theorem dX8_canBy_65 : decode cX8_canBy 65 = .ok (.iadd, 1) := by decide +kernel
theorem dX8_canBy_66 : decode cX8_canBy 66 = .ok (.imul, 1) := by decide +kernel
theorem dX8_canBy_67 : decode cX8_canBy 67 = .ok (.iload_n 2, 1) := by decide +kernel
theorem dX8_canBy_68 : decode cX8_canBy 68 = .ok (.iadd, 1) := by decide +kernel
theorem dX8_canBy_69 : decode cX8_canBy 69 = .ok (.baload, 1) := by decide +kernel
theorem dX8_canBy_70 : decode cX8_canBy 70 = .ok (.ifCond .eq 7, 3) := by decide +kernel
theorem dX8_canBy_73 : decode cX8_canBy 73 = .ok (.iconst 1, 1) := by decide +kernel
theorem dX8_canBy_74 : decode cX8_canBy 74 = .ok (.goto 4, 3) := by decide +kernel
theorem dX8_canBy_77 : decode cX8_canBy 77 = .ok (.iconst 0, 1) := by decide +kernel
theorem dX8_canBy_78 : decode cX8_canBy 78 = .ok (.istore 4, 2) := by decide +kernel
theorem dX8_canBy_80 : decode cX8_canBy 80 = .ok (.iinc 5 1, 3) := by decide +kernel
theorem dX8_canBy_83 : decode cX8_canBy 83 = .ok (.goto (-58), 3) := by decide +kernel
theorem dX8_canBy_86 : decode cX8_canBy 86 = .ok (.iload 4, 2) := by decide +kernel
theorem dX8_canBy_88 : decode cX8_canBy 88 = .ok (.istore_n 3, 1) := by decide +kernel
theorem dX8_canBy_89 : decode cX8_canBy 89 = .ok (.aload_n 0, 1) := by decide +kernel
theorem dX8_canBy_90 : decode cX8_canBy 90 = .ok (.iload_n 1, 1) := by decide +kernel
theorem dX8_canBy_91 : decode cX8_canBy 91 = .ok (.invokevirtual 231, 3) := by decide +kernel
theorem dX8_canBy_94 : decode cX8_canBy 94 = .ok (.goto (-87), 3) := by decide +kernel
theorem dX8_canBy_97 : decode cX8_canBy 97 = .ok (.iload_n 3, 1) := by decide +kernel
theorem dX8_canBy_98 : decode cX8_canBy 98 = .ok (.ireturn, 1) := by decide +kernel
theorem dX8_payOf_0 : decode cX8_payOf 0 = .ok (.iconst 0, 1) := by decide +kernel
theorem dX8_payOf_1 : decode cX8_payOf 1 = .ok (.istore_n 2, 1) := by decide +kernel
theorem dX8_payOf_2 : decode cX8_payOf 2 = .ok (.iconst 0, 1) := by decide +kernel
theorem dX8_payOf_3 : decode cX8_payOf 3 = .ok (.istore_n 3, 1) := by decide +kernel
theorem dX8_payOf_4 : decode cX8_payOf 4 = .ok (.iload_n 3, 1) := by decide +kernel
theorem dX8_payOf_5 : decode cX8_payOf 5 = .ok (.aload_n 0, 1) := by decide +kernel
theorem dX8_payOf_6 : decode cX8_payOf 6 = .ok (.getfield 7, 3) := by decide +kernel
theorem dX8_payOf_9 : decode cX8_payOf 9 = .ok (.iconst 2, 1) := by decide +kernel
theorem dX8_payOf_10 : decode cX8_payOf 10 = .ok (.iaload, 1) := by decide +kernel
theorem dX8_payOf_11 : decode cX8_payOf 11 = .ok (.if_icmp .ge 31, 3) := by decide +kernel
theorem dX8_payOf_14 : decode cX8_payOf 14 = .ok (.iload_n 2, 1) := by decide +kernel
theorem dX8_payOf_15 : decode cX8_payOf 15 = .ok (.iload_n 1, 1) := by decide +kernel
theorem dX8_payOf_16 : decode cX8_payOf 16 = .ok (.iload_n 3, 1) := by decide +kernel
theorem dX8_payOf_17 : decode cX8_payOf 17 = .ok (.ishr, 1) := by decide +kernel
theorem dX8_payOf_18 : decode cX8_payOf 18 = .ok (.iconst 1, 1) := by decide +kernel
theorem dX8_payOf_19 : decode cX8_payOf 19 = .ok (.iand, 1) := by decide +kernel
theorem dX8_payOf_20 : decode cX8_payOf 20 = .ok (.aload_n 0, 1) := by decide +kernel
theorem dX8_payOf_21 : decode cX8_payOf 21 = .ok (.getfield 7, 3) := by decide +kernel
theorem dX8_payOf_24 : decode cX8_payOf 24 = .ok (.bipush 6, 2) := by decide +kernel
theorem dX8_payOf_26 : decode cX8_payOf 26 = .ok (.iconst 4, 1) := by decide +kernel
theorem dX8_payOf_27 : decode cX8_payOf 27 = .ok (.iload_n 3, 1) := by decide +kernel
theorem dX8_payOf_28 : decode cX8_payOf 28 = .ok (.imul, 1) := by decide +kernel
theorem dX8_payOf_29 : decode cX8_payOf 29 = .ok (.iadd, 1) := by decide +kernel
theorem dX8_payOf_30 : decode cX8_payOf 30 = .ok (.iconst 2, 1) := by decide +kernel
theorem dX8_payOf_31 : decode cX8_payOf 31 = .ok (.iadd, 1) := by decide +kernel
theorem dX8_payOf_32 : decode cX8_payOf 32 = .ok (.iaload, 1) := by decide +kernel
theorem dX8_payOf_33 : decode cX8_payOf 33 = .ok (.imul, 1) := by decide +kernel
theorem dX8_payOf_34 : decode cX8_payOf 34 = .ok (.iadd, 1) := by decide +kernel
theorem dX8_payOf_35 : decode cX8_payOf 35 = .ok (.istore_n 2, 1) := by decide +kernel
theorem dX8_payOf_36 : decode cX8_payOf 36 = .ok (.iinc 3 1, 3) := by decide +kernel
theorem dX8_payOf_39 : decode cX8_payOf 39 = .ok (.goto (-35), 3) := by decide +kernel
theorem dX8_payOf_42 : decode cX8_payOf 42 = .ok (.iload_n 2, 1) := by decide +kernel
theorem dX8_payOf_43 : decode cX8_payOf 43 = .ok (.ireturn, 1) := by decide +kernel
theorem dX8_bought_0 : decode cX8_bought 0 = .ok (.aload_n 0, 1) := by decide +kernel
theorem dX8_bought_1 : decode cX8_bought 1 = .ok (.iload_n 1, 1) := by decide +kernel
theorem dX8_bought_2 : decode cX8_bought 2 = .ok (.invokevirtual 234, 3) := by decide +kernel
theorem dX8_bought_5 : decode cX8_bought 5 = .ok (.ifCond .eq 19, 3) := by decide +kernel
theorem dX8_bought_8 : decode cX8_bought 8 = .ok (.iload_n 2, 1) := by decide +kernel
theorem dX8_bought_9 : decode cX8_bought 9 = .ok (.invokestatic 85, 3) := by decide +kernel
theorem dX8_bought_12 : decode cX8_bought 12 = .ok (.ifCond .eq 12, 3) := by decide +kernel
theorem dX8_bought_15 : decode cX8_bought 15 = .ok (.iload_n 3, 1) := by decide +kernel
theorem dX8_bought_16 : decode cX8_bought 16 = .ok (.iconst 0, 1) := by decide +kernel
theorem dX8_bought_17 : decode cX8_bought 17 = .ok (.iconst 1, 1) := by decide +kernel
theorem dX8_bought_18 : decode cX8_bought 18 = .ok (.invokestatic 70, 3) := by decide +kernel
theorem dX8_bought_21 : decode cX8_bought 21 = .ok (.ifCond .ne 10, 3) := by decide +kernel
theorem dX8_bought_24 : decode cX8_bought 24 = .ok (.aload_n 0, 1) := by decide +kernel
theorem dX8_bought_25 : decode cX8_bought 25 = .ok (.bipush (-2), 2) := by decide +kernel
theorem dX8_bought_27 : decode cX8_bought 27 = .ok (.invokevirtual 92, 3) := by decide +kernel
theorem dX8_bought_30 : decode cX8_bought 30 = .ok (.ireturn, 1) := by decide +kernel
theorem dX8_bought_31 : decode cX8_bought 31 = .ok (.aload_n 0, 1) := by decide +kernel
theorem dX8_bought_32 : decode cX8_bought 32 = .ok (.invokevirtual 205, 3) := by decide +kernel
theorem dX8_bought_35 : decode cX8_bought 35 = .ok (.iconst 0, 1) := by decide +kernel
theorem dX8_bought_36 : decode cX8_bought 36 = .ok (.istore 4, 2) := by decide +kernel
theorem dX8_bought_38 : decode cX8_bought 38 = .ok (.iload 4, 2) := by decide +kernel
theorem dX8_bought_40 : decode cX8_bought 40 = .ok (.iload_n 1, 1) := by decide +kernel
theorem dX8_bought_41 : decode cX8_bought 41 = .ok (.invokestatic 195, 3) := by decide +kernel
theorem dX8_bought_44 : decode cX8_bought 44 = .ok (.if_icmp .ge 44, 3) := by decide +kernel
theorem dX8_bought_47 : decode cX8_bought 47 = .ok (.iconst 0, 1) := by decide +kernel
theorem dX8_bought_48 : decode cX8_bought 48 = .ok (.istore 5, 2) := by decide +kernel
theorem dX8_bought_50 : decode cX8_bought 50 = .ok (.iload 5, 2) := by decide +kernel
theorem dX8_bought_52 : decode cX8_bought 52 = .ok (.bipush 24, 2) := by decide +kernel
theorem dX8_bought_54 : decode cX8_bought 54 = .ok (.if_icmp .ge 28, 3) := by decide +kernel
theorem dX8_bought_57 : decode cX8_bought 57 = .ok (.aload_n 0, 1) := by decide +kernel
theorem dX8_bought_58 : decode cX8_bought 58 = .ok (.iload 5, 2) := by decide +kernel
theorem dX8_bought_60 : decode cX8_bought 60 = .ok (.invokevirtual 189, 3) := by decide +kernel
theorem dX8_bought_63 : decode cX8_bought 63 = .ok (.ifCond .eq 13, 3) := by decide +kernel
theorem dX8_bought_66 : decode cX8_bought 66 = .ok (.aload_n 0, 1) := by decide +kernel
theorem dX8_bought_67 : decode cX8_bought 67 = .ok (.iload_n 1, 1) := by decide +kernel
theorem dX8_bought_68 : decode cX8_bought 68 = .ok (.iload_n 2, 1) := by decide +kernel
theorem dX8_bought_69 : decode cX8_bought 69 = .ok (.iload 4, 2) := by decide +kernel
theorem dX8_bought_71 : decode cX8_bought 71 = .ok (.iload 5, 2) := by decide +kernel
theorem dX8_bought_73 : decode cX8_bought 73 = .ok (.invokevirtual 259, 3) := by decide +kernel
theorem dX8_bought_76 : decode cX8_bought 76 = .ok (.iinc 5 1, 3) := by decide +kernel
theorem dX8_bought_79 : decode cX8_bought 79 = .ok (.goto (-29), 3) := by decide +kernel
theorem dX8_bought_82 : decode cX8_bought 82 = .ok (.iinc 4 1, 3) := by decide +kernel
theorem dX8_bought_85 : decode cX8_bought 85 = .ok (.goto (-47), 3) := by decide +kernel
theorem dX8_bought_88 : decode cX8_bought 88 = .ok (.iconst (-1), 1) := by decide +kernel
theorem dX8_bought_89 : decode cX8_bought 89 = .ok (.istore 4, 2) := by decide +kernel
theorem dX8_bought_91 : decode cX8_bought 91 = .ok (.iconst 0, 1) := by decide +kernel
theorem dX8_bought_92 : decode cX8_bought 92 = .ok (.istore 5, 2) := by decide +kernel
theorem dX8_bought_94 : decode cX8_bought 94 = .ok (.iload 5, 2) := by decide +kernel
theorem dX8_bought_96 : decode cX8_bought 96 = .ok (.iconst 1, 1) := by decide +kernel
theorem dX8_bought_97 : decode cX8_bought 97 = .ok (.aload_n 0, 1) := by decide +kernel
theorem dX8_bought_98 : decode cX8_bought 98 = .ok (.getfield 7, 3) := by decide +kernel
theorem dX8_bought_101 : decode cX8_bought 101 = .ok (.iconst 2, 1) := by decide +kernel
theorem dX8_bought_102 : decode cX8_bought 102 = .ok (.iaload, 1) := by decide +kernel
theorem dX8_bought_103 : decode cX8_bought 103 = .ok (.ishl, 1) := by decide +kernel
theorem dX8_bought_104 : decode cX8_bought 104 = .ok (.if_icmp .ge 44, 3) := by decide +kernel
theorem dX8_bought_107 : decode cX8_bought 107 = .ok (.iload 4, 2) := by decide +kernel
theorem dX8_bought_109 : decode cX8_bought 109 = .ok (.iconst (-1), 1) := by decide +kernel
theorem dX8_bought_110 : decode cX8_bought 110 = .ok (.if_icmp .eq 18, 3) := by decide +kernel
theorem dX8_bought_113 : decode cX8_bought 113 = .ok (.aload_n 0, 1) := by decide +kernel
theorem dX8_bought_114 : decode cX8_bought 114 = .ok (.iload 5, 2) := by decide +kernel
theorem dX8_bought_116 : decode cX8_bought 116 = .ok (.invokevirtual 262, 3) := by decide +kernel
theorem dX8_bought_119 : decode cX8_bought 119 = .ok (.aload_n 0, 1) := by decide +kernel
theorem dX8_bought_120 : decode cX8_bought 120 = .ok (.iload 4, 2) := by decide +kernel
theorem dX8_bought_122 : decode cX8_bought 122 = .ok (.invokevirtual 262, 3) := by decide +kernel
theorem dX8_bought_125 : decode cX8_bought 125 = .ok (.if_icmp .ge 17, 3) := by decide +kernel
theorem dX8_bought_128 : decode cX8_bought 128 = .ok (.aload_n 0, 1) := by decide +kernel
theorem dX8_bought_129 : decode cX8_bought 129 = .ok (.iload_n 1, 1) := by decide +kernel
theorem dX8_bought_130 : decode cX8_bought 130 = .ok (.iload 5, 2) := by decide +kernel
theorem dX8_bought_132 : decode cX8_bought 132 = .ok (.invokevirtual 265, 3) := by decide +kernel
theorem dX8_bought_135 : decode cX8_bought 135 = .ok (.ifCond .eq 7, 3) := by decide +kernel
theorem dX8_bought_138 : decode cX8_bought 138 = .ok (.iload 5, 2) := by decide +kernel
theorem dX8_bought_140 : decode cX8_bought 140 = .ok (.istore 4, 2) := by decide +kernel
theorem dX8_bought_142 : decode cX8_bought 142 = .ok (.iinc 5 1, 3) := by decide +kernel
theorem dX8_bought_145 : decode cX8_bought 145 = .ok (.goto (-51), 3) := by decide +kernel
theorem dX8_bought_148 : decode cX8_bought 148 = .ok (.iload 4, 2) := by decide +kernel
theorem dX8_bought_150 : decode cX8_bought 150 = .ok (.iconst (-1), 1) := by decide +kernel
theorem dX8_bought_151 : decode cX8_bought 151 = .ok (.if_icmp .ne 7, 3) := by decide +kernel
theorem dX8_bought_154 : decode cX8_bought 154 = .ok (.iconst (-1), 1) := by decide +kernel
theorem dX8_bought_155 : decode cX8_bought 155 = .ok (.goto 18, 3) := by decide +kernel
theorem dX8_bought_158 : decode cX8_bought 158 = .ok (.iload_n 3, 1) := by decide +kernel
theorem dX8_bought_159 : decode cX8_bought 159 = .ok (.ifCond .ne 12, 3) := by decide +kernel
theorem dX8_bought_162 : decode cX8_bought 162 = .ok (.aload_n 0, 1) := by decide +kernel
theorem dX8_bought_163 : decode cX8_bought 163 = .ok (.iload 4, 2) := by decide +kernel
theorem dX8_bought_165 : decode cX8_bought 165 = .ok (.invokevirtual 262, 3) := by decide +kernel
theorem dX8_bought_168 : decode cX8_bought 168 = .ok (.goto 5, 3) := by decide +kernel
theorem dX8_bought_171 : decode cX8_bought 171 = .ok (.iload 4, 2) := by decide +kernel
theorem dX8_bought_173 : decode cX8_bought 173 = .ok (.ireturn, 1) := by decide +kernel
theorem dX8_can_0 : decode cX8_can 0 = .ok (.iload_n 1, 1) := by decide +kernel
theorem dX8_can_1 : decode cX8_can 1 = .ok (.iconst 1, 1) := by decide +kernel
theorem dX8_can_2 : decode cX8_can 2 = .ok (.iconst 2, 1) := by decide +kernel
theorem dX8_can_3 : decode cX8_can 3 = .ok (.invokestatic 70, 3) := by decide +kernel
theorem dX8_can_6 : decode cX8_can 6 = .ok (.ifCond .eq 10, 3) := by decide +kernel
theorem dX8_can_9 : decode cX8_can 9 = .ok (.iload_n 2, 1) := by decide +kernel
theorem dX8_can_10 : decode cX8_can 10 = .ok (.invokestatic 85, 3) := by decide +kernel
theorem dX8_can_13 : decode cX8_can 13 = .ok (.ifCond .ne 10, 3) := by decide +kernel
theorem dX8_can_16 : decode cX8_can 16 = .ok (.aload_n 0, 1) := by decide +kernel
theorem dX8_can_17 : decode cX8_can 17 = .ok (.bipush (-2), 2) := by decide +kernel
theorem dX8_can_19 : decode cX8_can 19 = .ok (.invokevirtual 92, 3) := by decide +kernel
theorem dX8_can_22 : decode cX8_can 22 = .ok (.ireturn, 1) := by decide +kernel
theorem dX8_can_23 : decode cX8_can 23 = .ok (.iconst 0, 1) := by decide +kernel
theorem dX8_can_24 : decode cX8_can 24 = .ok (.istore_n 3, 1) := by decide +kernel
theorem dX8_can_25 : decode cX8_can 25 = .ok (.iconst 1, 1) := by decide +kernel
theorem dX8_can_26 : decode cX8_can 26 = .ok (.istore 4, 2) := by decide +kernel
theorem dX8_can_28 : decode cX8_can 28 = .ok (.iload 4, 2) := by decide +kernel
theorem dX8_can_30 : decode cX8_can 30 = .ok (.aload_n 0, 1) := by decide +kernel
theorem dX8_can_31 : decode cX8_can 31 = .ok (.getfield 7, 3) := by decide +kernel
theorem dX8_can_34 : decode cX8_can 34 = .ok (.iconst 3, 1) := by decide +kernel
theorem dX8_can_35 : decode cX8_can 35 = .ok (.iaload, 1) := by decide +kernel
theorem dX8_can_36 : decode cX8_can 36 = .ok (.if_icmp .gt 77, 3) := by decide +kernel
theorem dX8_can_39 : decode cX8_can 39 = .ok (.iconst 1, 1) := by decide +kernel
theorem dX8_can_40 : decode cX8_can 40 = .ok (.istore 5, 2) := by decide +kernel
theorem dX8_can_42 : decode cX8_can 42 = .ok (.iload 5, 2) := by decide +kernel
theorem dX8_can_44 : decode cX8_can 44 = .ok (.iload_n 1, 1) := by decide +kernel
theorem dX8_can_45 : decode cX8_can 45 = .ok (.iconst 1, 1) := by decide +kernel
theorem dX8_can_46 : decode cX8_can 46 = .ok (.if_icmp .ne 7, 3) := by decide +kernel
theorem dX8_can_49 : decode cX8_can 49 = .ok (.iconst 1, 1) := by decide +kernel
theorem dX8_can_50 : decode cX8_can 50 = .ok (.goto 9, 3) := by decide +kernel
theorem dX8_can_53 : decode cX8_can 53 = .ok (.aload_n 0, 1) := by decide +kernel
theorem dX8_can_54 : decode cX8_can 54 = .ok (.getfield 7, 3) := by decide +kernel
theorem dX8_can_57 : decode cX8_can 57 = .ok (.iconst 3, 1) := by decide +kernel
theorem dX8_can_58 : decode cX8_can 58 = .ok (.iaload, 1) := by decide +kernel
theorem dX8_can_59 : decode cX8_can 59 = .ok (.if_icmp .gt 48, 3) := by decide +kernel
theorem dX8_can_62 : decode cX8_can 62 = .ok (.aload_n 0, 1) := by decide +kernel
theorem dX8_can_63 : decode cX8_can 63 = .ok (.iload_n 1, 1) := by decide +kernel
theorem dX8_can_64 : decode cX8_can 64 = .ok (.iconst 1, 1) := by decide +kernel
theorem dX8_can_65 : decode cX8_can 65 = .ok (.if_icmp .ne 8, 3) := by decide +kernel
theorem dX8_can_68 : decode cX8_can 68 = .ok (.iload 4, 2) := by decide +kernel
theorem dX8_can_70 : decode cX8_can 70 = .ok (.goto 11, 3) := by decide +kernel
theorem dX8_can_73 : decode cX8_can 73 = .ok (.bipush 10, 2) := by decide +kernel
theorem dX8_can_75 : decode cX8_can 75 = .ok (.iload 4, 2) := by decide +kernel
theorem dX8_can_77 : decode cX8_can 77 = .ok (.imul, 1) := by decide +kernel
theorem dX8_can_78 : decode cX8_can 78 = .ok (.iload 5, 2) := by decide +kernel
theorem dX8_can_80 : decode cX8_can 80 = .ok (.iadd, 1) := by decide +kernel
theorem dX8_can_81 : decode cX8_can 81 = .ok (.iload_n 2, 1) := by decide +kernel
theorem dX8_can_82 : decode cX8_can 82 = .ok (.invokevirtual 237, 3) := by decide +kernel
theorem dX8_can_85 : decode cX8_can 85 = .ok (.iload_n 3, 1) := by decide +kernel
theorem dX8_can_86 : decode cX8_can 86 = .ok (.aload_n 0, 1) := by decide +kernel
theorem dX8_can_87 : decode cX8_can 87 = .ok (.getfield 222, 3) := by decide +kernel
theorem dX8_can_90 : decode cX8_can 90 = .ok (.iconst (-1), 1) := by decide +kernel
theorem dX8_can_91 : decode cX8_can 91 = .ok (.if_icmp .ne 7, 3) := by decide +kernel
theorem dX8_can_94 : decode cX8_can 94 = .ok (.iconst 0, 1) := by decide +kernel
theorem dX8_can_95 : decode cX8_can 95 = .ok (.goto 4, 3) := by decide +kernel
theorem dX8_can_98 : decode cX8_can 98 = .ok (.iconst 1, 1) := by decide +kernel
theorem dX8_can_99 : decode cX8_can 99 = .ok (.iadd, 1) := by decide +kernel
theorem dX8_can_100 : decode cX8_can 100 = .ok (.istore_n 3, 1) := by decide +kernel
theorem dX8_can_101 : decode cX8_can 101 = .ok (.iinc 5 1, 3) := by decide +kernel
theorem dX8_can_104 : decode cX8_can 104 = .ok (.goto (-62), 3) := by decide +kernel
theorem dX8_can_107 : decode cX8_can 107 = .ok (.iinc 4 1, 3) := by decide +kernel
theorem dX8_can_110 : decode cX8_can 110 = .ok (.goto (-82), 3) := by decide +kernel
theorem dX8_can_113 : decode cX8_can 113 = .ok (.iload_n 3, 1) := by decide +kernel
theorem dX8_can_114 : decode cX8_can 114 = .ok (.ireturn, 1) := by decide +kernel
theorem dX8_bars_0 : decode cX8_bars 0 = .ok (.aload_n 0, 1) := by decide +kernel
theorem dX8_bars_1 : decode cX8_bars 1 = .ok (.iload_n 1, 1) := by decide +kernel
theorem dX8_bars_2 : decode cX8_bars 2 = .ok (.invokevirtual 234, 3) := by decide +kernel
theorem dX8_bars_5 : decode cX8_bars 5 = .ok (.ifCond .eq 10, 3) := by decide +kernel
theorem dX8_bars_8 : decode cX8_bars 8 = .ok (.iload_n 2, 1) := by decide +kernel
theorem dX8_bars_9 : decode cX8_bars 9 = .ok (.invokestatic 85, 3) := by decide +kernel
theorem dX8_bars_12 : decode cX8_bars 12 = .ok (.ifCond .ne 10, 3) := by decide +kernel
theorem dX8_bars_15 : decode cX8_bars 15 = .ok (.aload_n 0, 1) := by decide +kernel
theorem dX8_bars_16 : decode cX8_bars 16 = .ok (.bipush (-2), 2) := by decide +kernel
theorem dX8_bars_18 : decode cX8_bars 18 = .ok (.invokevirtual 92, 3) := by decide +kernel
theorem dX8_bars_21 : decode cX8_bars 21 = .ok (.ireturn, 1) := by decide +kernel
theorem dX8_bars_22 : decode cX8_bars 22 = .ok (.aload_n 0, 1) := by decide +kernel
theorem dX8_bars_23 : decode cX8_bars 23 = .ok (.iload_n 1, 1) := by decide +kernel
theorem dX8_bars_24 : decode cX8_bars 24 = .ok (.iload_n 2, 1) := by decide +kernel
theorem dX8_bars_25 : decode cX8_bars 25 = .ok (.invokevirtual 237, 3) := by decide +kernel
theorem dX8_bars_28 : decode cX8_bars 28 = .ok (.aload_n 0, 1) := by decide +kernel
theorem dX8_bars_29 : decode cX8_bars 29 = .ok (.getfield 222, 3) := by decide +kernel
theorem dX8_bars_32 : decode cX8_bars 32 = .ok (.iconst (-1), 1) := by decide +kernel
theorem dX8_bars_33 : decode cX8_bars 33 = .ok (.if_icmp .eq 5, 3) := by decide +kernel
theorem dX8_bars_36 : decode cX8_bars 36 = .ok (.iconst (-1), 1) := by decide +kernel
theorem dX8_bars_37 : decode cX8_bars 37 = .ok (.ireturn, 1) := by decide +kernel
theorem dX8_bars_38 : decode cX8_bars 38 = .ok (.iconst 0, 1) := by decide +kernel
theorem dX8_bars_39 : decode cX8_bars 39 = .ok (.istore_n 3, 1) := by decide +kernel
theorem dX8_bars_40 : decode cX8_bars 40 = .ok (.iconst 0, 1) := by decide +kernel
theorem dX8_bars_41 : decode cX8_bars 41 = .ok (.istore 4, 2) := by decide +kernel
theorem dX8_bars_43 : decode cX8_bars 43 = .ok (.iload 4, 2) := by decide +kernel
theorem dX8_bars_45 : decode cX8_bars 45 = .ok (.iconst 3, 1) := by decide +kernel
theorem dX8_bars_46 : decode cX8_bars 46 = .ok (.iadd, 1) := by decide +kernel
theorem dX8_bars_47 : decode cX8_bars 47 = .ok (.aload_n 0, 1) := by decide +kernel
theorem dX8_bars_48 : decode cX8_bars 48 = .ok (.getfield 7, 3) := by decide +kernel
theorem dX8_bars_51 : decode cX8_bars 51 = .ok (.iconst 1, 1) := by decide +kernel
theorem dX8_bars_52 : decode cX8_bars 52 = .ok (.iaload, 1) := by decide +kernel
theorem dX8_bars_53 : decode cX8_bars 53 = .ok (.if_icmp .ge 79, 3) := by decide +kernel
theorem dX8_bars_56 : decode cX8_bars 56 = .ok (.iconst 0, 1) := by decide +kernel
theorem dX8_bars_57 : decode cX8_bars 57 = .ok (.istore 5, 2) := by decide +kernel
theorem dX8_bars_59 : decode cX8_bars 59 = .ok (.iconst 0, 1) := by decide +kernel
theorem dX8_bars_60 : decode cX8_bars 60 = .ok (.istore 6, 2) := by decide +kernel
theorem dX8_bars_62 : decode cX8_bars 62 = .ok (.iload 6, 2) := by decide +kernel
theorem dX8_bars_64 : decode cX8_bars 64 = .ok (.iconst 2, 1) := by decide +kernel
theorem dX8_bars_65 : decode cX8_bars 65 = .ok (.iadd, 1) := by decide +kernel
theorem dX8_bars_66 : decode cX8_bars 66 = .ok (.aload_n 0, 1) := by decide +kernel
theorem dX8_bars_67 : decode cX8_bars 67 = .ok (.getfield 7, 3) := by decide +kernel
theorem dX8_bars_70 : decode cX8_bars 70 = .ok (.iconst 0, 1) := by decide +kernel
theorem dX8_bars_71 : decode cX8_bars 71 = .ok (.iaload, 1) := by decide +kernel
theorem dX8_bars_72 : decode cX8_bars 72 = .ok (.if_icmp .ge 38, 3) := by decide +kernel
theorem dX8_bars_75 : decode cX8_bars 75 = .ok (.iload 5, 2) := by decide +kernel
theorem dX8_bars_77 : decode cX8_bars 77 = .ok (.ifCond .ne 20, 3) := by decide +kernel
theorem dX8_bars_80 : decode cX8_bars 80 = .ok (.aload_n 0, 1) := by decide +kernel
theorem dX8_bars_81 : decode cX8_bars 81 = .ok (.getfield 38, 3) := by decide +kernel
theorem dX8_bars_84 : decode cX8_bars 84 = .ok (.bipush 12, 2) := by decide +kernel
theorem dX8_bars_86 : decode cX8_bars 86 = .ok (.iload 4, 2) := by decide +kernel
theorem dX8_bars_88 : decode cX8_bars 88 = .ok (.imul, 1) := by decide +kernel
theorem dX8_bars_89 : decode cX8_bars 89 = .ok (.iload 6, 2) := by decide +kernel
theorem dX8_bars_91 : decode cX8_bars 91 = .ok (.iadd, 1) := by decide +kernel
theorem dX8_bars_92 : decode cX8_bars 92 = .ok (.iaload, 1) := by decide +kernel
theorem dX8_bars_93 : decode cX8_bars 93 = .ok (.iconst (-1), 1) := by decide +kernel
theorem dX8_bars_94 : decode cX8_bars 94 = .ok (.if_icmp .eq 7, 3) := by decide +kernel
theorem dX8_bars_97 : decode cX8_bars 97 = .ok (.iconst 1, 1) := by decide +kernel
theorem dX8_bars_98 : decode cX8_bars 98 = .ok (.goto 4, 3) := by decide +kernel
theorem dX8_bars_101 : decode cX8_bars 101 = .ok (.iconst 0, 1) := by decide +kernel
theorem dX8_bars_102 : decode cX8_bars 102 = .ok (.istore 5, 2) := by decide +kernel
theorem dX8_bars_104 : decode cX8_bars 104 = .ok (.iinc 6 1, 3) := by decide +kernel
theorem dX8_bars_107 : decode cX8_bars 107 = .ok (.goto (-45), 3) := by decide +kernel
theorem dX8_bars_110 : decode cX8_bars 110 = .ok (.iload_n 3, 1) := by decide +kernel
theorem dX8_bars_111 : decode cX8_bars 111 = .ok (.iload 5, 2) := by decide +kernel
theorem dX8_bars_113 : decode cX8_bars 113 = .ok (.ifCond .eq 7, 3) := by decide +kernel
theorem dX8_bars_116 : decode cX8_bars 116 = .ok (.iconst 0, 1) := by decide +kernel
theorem dX8_bars_117 : decode cX8_bars 117 = .ok (.goto 7, 3) := by decide +kernel
theorem dX8_bars_120 : decode cX8_bars 120 = .ok (.iconst 1, 1) := by decide +kernel
theorem dX8_bars_121 : decode cX8_bars 121 = .ok (.iload 4, 2) := by decide +kernel
theorem dX8_bars_123 : decode cX8_bars 123 = .ok (.ishl, 1) := by decide +kernel
theorem dX8_bars_124 : decode cX8_bars 124 = .ok (.ior, 1) := by decide +kernel
theorem dX8_bars_125 : decode cX8_bars 125 = .ok (.istore_n 3, 1) := by decide +kernel
theorem dX8_bars_126 : decode cX8_bars 126 = .ok (.iinc 4 1, 3) := by decide +kernel
theorem dX8_bars_129 : decode cX8_bars 129 = .ok (.goto (-86), 3) := by decide +kernel
theorem dX8_bars_132 : decode cX8_bars 132 = .ok (.iload_n 3, 1) := by decide +kernel
theorem dX8_bars_133 : decode cX8_bars 133 = .ok (.ireturn, 1) := by decide +kernel
theorem dX8_reading_0 : decode cX8_reading 0 = .ok (.aload_n 0, 1) := by decide +kernel
theorem dX8_reading_1 : decode cX8_reading 1 = .ok (.iload_n 1, 1) := by decide +kernel
theorem dX8_reading_2 : decode cX8_reading 2 = .ok (.invokevirtual 189, 3) := by decide +kernel
theorem dX8_reading_5 : decode cX8_reading 5 = .ok (.ifCond .eq 24, 3) := by decide +kernel
theorem dX8_reading_8 : decode cX8_reading 8 = .ok (.aload_n 0, 1) := by decide +kernel
theorem dX8_reading_9 : decode cX8_reading 9 = .ok (.iload_n 2, 1) := by decide +kernel
theorem dX8_reading_10 : decode cX8_reading 10 = .ok (.invokevirtual 100, 3) := by decide +kernel
theorem dX8_reading_13 : decode cX8_reading 13 = .ok (.ifCond .eq 16, 3) := by decide +kernel
theorem dX8_reading_16 : decode cX8_reading 16 = .ok (.iload_n 3, 1) := by decide +kernel
theorem dX8_reading_17 : decode cX8_reading 17 = .ok (.iconst (-1), 1) := by decide +kernel
theorem dX8_reading_18 : decode cX8_reading 18 = .ok (.if_icmp .eq 18, 3) := by decide +kernel
theorem dX8_reading_21 : decode cX8_reading 21 = .ok (.aload_n 0, 1) := by decide +kernel
theorem dX8_reading_22 : decode cX8_reading 22 = .ok (.iload_n 3, 1) := by decide +kernel
theorem dX8_reading_23 : decode cX8_reading 23 = .ok (.invokevirtual 100, 3) := by decide +kernel
theorem dX8_reading_26 : decode cX8_reading 26 = .ok (.ifCond .ne 10, 3) := by decide +kernel
theorem dX8_reading_29 : decode cX8_reading 29 = .ok (.aload_n 0, 1) := by decide +kernel
theorem dX8_reading_30 : decode cX8_reading 30 = .ok (.bipush (-2), 2) := by decide +kernel
theorem dX8_reading_32 : decode cX8_reading 32 = .ok (.invokevirtual 92, 3) := by decide +kernel
theorem dX8_reading_35 : decode cX8_reading 35 = .ok (.ireturn, 1) := by decide +kernel
theorem dX8_reading_36 : decode cX8_reading 36 = .ok (.aload_n 0, 1) := by decide +kernel
theorem dX8_reading_37 : decode cX8_reading 37 = .ok (.getfield 7, 3) := by decide +kernel
theorem dX8_reading_40 : decode cX8_reading 40 = .ok (.iconst 4, 1) := by decide +kernel
theorem dX8_reading_41 : decode cX8_reading 41 = .ok (.iaload, 1) := by decide +kernel
theorem dX8_reading_42 : decode cX8_reading 42 = .ok (.bipush 6, 2) := by decide +kernel
theorem dX8_reading_44 : decode cX8_reading 44 = .ok (.if_icmp .ne 10, 3) := by decide +kernel
theorem dX8_reading_47 : decode cX8_reading 47 = .ok (.aload_n 0, 1) := by decide +kernel
theorem dX8_reading_48 : decode cX8_reading 48 = .ok (.bipush (-4), 2) := by decide +kernel
theorem dX8_reading_50 : decode cX8_reading 50 = .ok (.invokevirtual 92, 3) := by decide +kernel
theorem dX8_reading_53 : decode cX8_reading 53 = .ok (.ireturn, 1) := by decide +kernel
theorem dX8_reading_54 : decode cX8_reading 54 = .ok (.sipush 336, 3) := by decide +kernel
theorem dX8_reading_57 : decode cX8_reading 57 = .ok (.iconst 3, 1) := by decide +kernel
theorem dX8_reading_58 : decode cX8_reading 58 = .ok (.aload_n 0, 1) := by decide +kernel
theorem dX8_reading_59 : decode cX8_reading 59 = .ok (.getfield 7, 3) := by decide +kernel
theorem dX8_reading_62 : decode cX8_reading 62 = .ok (.iconst 4, 1) := by decide +kernel
theorem dX8_reading_63 : decode cX8_reading 63 = .ok (.iaload, 1) := by decide +kernel
theorem dX8_reading_64 : decode cX8_reading 64 = .ok (.imul, 1) := by decide +kernel
theorem dX8_reading_65 : decode cX8_reading 65 = .ok (.iadd, 1) := by decide +kernel
theorem dX8_reading_66 : decode cX8_reading 66 = .ok (.istore 4, 2) := by decide +kernel
theorem dX8_reading_68 : decode cX8_reading 68 = .ok (.aload_n 0, 1) := by decide +kernel
theorem dX8_reading_69 : decode cX8_reading 69 = .ok (.getfield 7, 3) := by decide +kernel
theorem dX8_reading_72 : decode cX8_reading 72 = .ok (.iload 4, 2) := by decide +kernel
theorem dX8_reading_74 : decode cX8_reading 74 = .ok (.iload_n 1, 1) := by decide +kernel
theorem dX8_reading_75 : decode cX8_reading 75 = .ok (.iastore, 1) := by decide +kernel
theorem dX8_reading_76 : decode cX8_reading 76 = .ok (.aload_n 0, 1) := by decide +kernel
theorem dX8_reading_77 : decode cX8_reading 77 = .ok (.getfield 7, 3) := by decide +kernel
theorem dX8_reading_80 : decode cX8_reading 80 = .ok (.iload 4, 2) := by decide +kernel
theorem dX8_reading_82 : decode cX8_reading 82 = .ok (.iconst 1, 1) := by decide +kernel
theorem dX8_reading_83 : decode cX8_reading 83 = .ok (.iadd, 1) := by decide +kernel
theorem dX8_reading_84 : decode cX8_reading 84 = .ok (.iload_n 2, 1) := by decide +kernel
theorem dX8_reading_85 : decode cX8_reading 85 = .ok (.iastore, 1) := by decide +kernel
theorem dX8_reading_86 : decode cX8_reading 86 = .ok (.aload_n 0, 1) := by decide +kernel
theorem dX8_reading_87 : decode cX8_reading 87 = .ok (.getfield 7, 3) := by decide +kernel
theorem dX8_reading_90 : decode cX8_reading 90 = .ok (.iload 4, 2) := by decide +kernel
theorem dX8_reading_92 : decode cX8_reading 92 = .ok (.iconst 2, 1) := by decide +kernel
theorem dX8_reading_93 : decode cX8_reading 93 = .ok (.iadd, 1) := by decide +kernel
theorem dX8_reading_94 : decode cX8_reading 94 = .ok (.iload_n 3, 1) := by decide +kernel
theorem dX8_reading_95 : decode cX8_reading 95 = .ok (.iastore, 1) := by decide +kernel
theorem dX8_reading_96 : decode cX8_reading 96 = .ok (.aload_n 0, 1) := by decide +kernel
theorem dX8_reading_97 : decode cX8_reading 97 = .ok (.getfield 7, 3) := by decide +kernel
theorem dX8_reading_100 : decode cX8_reading 100 = .ok (.iconst 4, 1) := by decide +kernel
theorem dX8_reading_101 : decode cX8_reading 101 = .ok (.dup2, 1) := by decide +kernel
theorem dX8_reading_102 : decode cX8_reading 102 = .ok (.iaload, 1) := by decide +kernel
theorem dX8_reading_103 : decode cX8_reading 103 = .ok (.iconst 1, 1) := by decide +kernel
theorem dX8_reading_104 : decode cX8_reading 104 = .ok (.iadd, 1) := by decide +kernel
theorem dX8_reading_105 : decode cX8_reading 105 = .ok (.iastore, 1) := by decide +kernel
theorem dX8_reading_106 : decode cX8_reading 106 = .ok (.aload_n 0, 1) := by decide +kernel
theorem dX8_reading_107 : decode cX8_reading 107 = .ok (.getfield 7, 3) := by decide +kernel
theorem dX8_reading_110 : decode cX8_reading 110 = .ok (.iconst 4, 1) := by decide +kernel
theorem dX8_reading_111 : decode cX8_reading 111 = .ok (.iaload, 1) := by decide +kernel
theorem dX8_reading_112 : decode cX8_reading 112 = .ok (.iconst 1, 1) := by decide +kernel
theorem dX8_reading_113 : decode cX8_reading 113 = .ok (.isub, 1) := by decide +kernel
theorem dX8_reading_114 : decode cX8_reading 114 = .ok (.ireturn, 1) := by decide +kernel
theorem dX8_unread_0 : decode cX8_unread 0 = .ok (.aload_n 0, 1) := by decide +kernel
theorem dX8_unread_1 : decode cX8_unread 1 = .ok (.getfield 7, 3) := by decide +kernel
theorem dX8_unread_4 : decode cX8_unread 4 = .ok (.iconst 4, 1) := by decide +kernel
theorem dX8_unread_5 : decode cX8_unread 5 = .ok (.iaload, 1) := by decide +kernel
theorem dX8_unread_6 : decode cX8_unread 6 = .ok (.istore_n 1, 1) := by decide +kernel
theorem dX8_unread_7 : decode cX8_unread 7 = .ok (.aload_n 0, 1) := by decide +kernel
theorem dX8_unread_8 : decode cX8_unread 8 = .ok (.getfield 7, 3) := by decide +kernel
theorem dX8_unread_11 : decode cX8_unread 11 = .ok (.iconst 4, 1) := by decide +kernel
theorem dX8_unread_12 : decode cX8_unread 12 = .ok (.iconst 0, 1) := by decide +kernel
theorem dX8_unread_13 : decode cX8_unread 13 = .ok (.iastore, 1) := by decide +kernel
theorem dX8_unread_14 : decode cX8_unread 14 = .ok (.iload_n 1, 1) := by decide +kernel
theorem dX8_unread_15 : decode cX8_unread 15 = .ok (.ireturn, 1) := by decide +kernel
theorem dX8_areSo_0 : decode cX8_areSo 0 = .ok (.iconst 1, 1) := by decide +kernel
theorem dX8_areSo_1 : decode cX8_areSo 1 = .ok (.istore_n 3, 1) := by decide +kernel
theorem dX8_areSo_2 : decode cX8_areSo 2 = .ok (.iconst 0, 1) := by decide +kernel
theorem dX8_areSo_3 : decode cX8_areSo 3 = .ok (.istore 4, 2) := by decide +kernel
theorem dX8_areSo_5 : decode cX8_areSo 5 = .ok (.iload 4, 2) := by decide +kernel
theorem dX8_areSo_7 : decode cX8_areSo 7 = .ok (.aload_n 0, 1) := by decide +kernel
theorem dX8_areSo_8 : decode cX8_areSo 8 = .ok (.getfield 7, 3) := by decide +kernel
theorem dX8_areSo_11 : decode cX8_areSo 11 = .ok (.iconst 4, 1) := by decide +kernel
theorem dX8_areSo_12 : decode cX8_areSo 12 = .ok (.iaload, 1) := by decide +kernel
theorem dX8_areSo_13 : decode cX8_areSo 13 = .ok (.if_icmp .ge 123, 3) := by decide +kernel
theorem dX8_areSo_16 : decode cX8_areSo 16 = .ok (.sipush 336, 3) := by decide +kernel
theorem dX8_areSo_19 : decode cX8_areSo 19 = .ok (.iconst 3, 1) := by decide +kernel
theorem dX8_areSo_20 : decode cX8_areSo 20 = .ok (.iload 4, 2) := by decide +kernel
theorem dX8_areSo_22 : decode cX8_areSo 22 = .ok (.imul, 1) := by decide +kernel
theorem dX8_areSo_23 : decode cX8_areSo 23 = .ok (.iadd, 1) := by decide +kernel
theorem dX8_areSo_24 : decode cX8_areSo 24 = .ok (.istore 5, 2) := by decide +kernel
theorem dX8_areSo_26 : decode cX8_areSo 26 = .ok (.aload_n 0, 1) := by decide +kernel
theorem dX8_areSo_27 : decode cX8_areSo 27 = .ok (.getfield 7, 3) := by decide +kernel
theorem dX8_areSo_30 : decode cX8_areSo 30 = .ok (.bipush 30, 2) := by decide +kernel
theorem dX8_areSo_32 : decode cX8_areSo 32 = .ok (.aload_n 0, 1) := by decide +kernel
theorem dX8_areSo_33 : decode cX8_areSo 33 = .ok (.getfield 7, 3) := by decide +kernel
theorem dX8_areSo_36 : decode cX8_areSo 36 = .ok (.iload 5, 2) := by decide +kernel
theorem dX8_areSo_38 : decode cX8_areSo 38 = .ok (.iconst 1, 1) := by decide +kernel
theorem dX8_areSo_39 : decode cX8_areSo 39 = .ok (.iadd, 1) := by decide +kernel
theorem dX8_areSo_40 : decode cX8_areSo 40 = .ok (.iaload, 1) := by decide +kernel
theorem dX8_areSo_41 : decode cX8_areSo 41 = .ok (.iadd, 1) := by decide +kernel
theorem dX8_areSo_42 : decode cX8_areSo 42 = .ok (.iaload, 1) := by decide +kernel
theorem dX8_areSo_43 : decode cX8_areSo 43 = .ok (.istore 6, 2) := by decide +kernel
theorem dX8_areSo_45 : decode cX8_areSo 45 = .ok (.iconst 0, 1) := by decide +kernel
theorem dX8_areSo_46 : decode cX8_areSo 46 = .ok (.istore 7, 2) := by decide +kernel
theorem dX8_areSo_48 : decode cX8_areSo 48 = .ok (.iload 7, 2) := by decide +kernel
theorem dX8_areSo_50 : decode cX8_areSo 50 = .ok (.bipush 12, 2) := by decide +kernel
theorem dX8_areSo_52 : decode cX8_areSo 52 = .ok (.if_icmp .ge 50, 3) := by decide +kernel
theorem dX8_areSo_55 : decode cX8_areSo 55 = .ok (.aload_n 0, 1) := by decide +kernel
theorem dX8_areSo_56 : decode cX8_areSo 56 = .ok (.getfield 7, 3) := by decide +kernel
theorem dX8_areSo_59 : decode cX8_areSo 59 = .ok (.iload 5, 2) := by decide +kernel
theorem dX8_areSo_61 : decode cX8_areSo 61 = .ok (.iaload, 1) := by decide +kernel
theorem dX8_areSo_62 : decode cX8_areSo 62 = .ok (.iload 7, 2) := by decide +kernel
theorem dX8_areSo_64 : decode cX8_areSo 64 = .ok (.invokestatic 183, 3) := by decide +kernel
theorem dX8_areSo_67 : decode cX8_areSo 67 = .ok (.istore 8, 2) := by decide +kernel
theorem dX8_areSo_69 : decode cX8_areSo 69 = .ok (.iload 6, 2) := by decide +kernel
theorem dX8_areSo_71 : decode cX8_areSo 71 = .ok (.iload 8, 2) := by decide +kernel
theorem dX8_areSo_73 : decode cX8_areSo 73 = .ok (.iload_n 1, 1) := by decide +kernel
theorem dX8_areSo_74 : decode cX8_areSo 74 = .ok (.if_icmp .eq 9, 3) := by decide +kernel
theorem dX8_areSo_77 : decode cX8_areSo 77 = .ok (.iload 8, 2) := by decide +kernel
theorem dX8_areSo_79 : decode cX8_areSo 79 = .ok (.iload_n 2, 1) := by decide +kernel
theorem dX8_areSo_80 : decode cX8_areSo 80 = .ok (.if_icmp .ne 12, 3) := by decide +kernel
theorem dX8_areSo_83 : decode cX8_areSo 83 = .ok (.iconst 1, 1) := by decide +kernel
theorem dX8_areSo_84 : decode cX8_areSo 84 = .ok (.iload 7, 2) := by decide +kernel
theorem dX8_areSo_86 : decode cX8_areSo 86 = .ok (.ishl, 1) := by decide +kernel
theorem dX8_areSo_87 : decode cX8_areSo 87 = .ok (.iconst (-1), 1) := by decide +kernel
theorem dX8_areSo_88 : decode cX8_areSo 88 = .ok (.ixor, 1) := by decide +kernel
theorem dX8_areSo_89 : decode cX8_areSo 89 = .ok (.goto 4, 3) := by decide +kernel
theorem dX8_areSo_92 : decode cX8_areSo 92 = .ok (.iconst (-1), 1) := by decide +kernel
theorem dX8_areSo_93 : decode cX8_areSo 93 = .ok (.iand, 1) := by decide +kernel
theorem dX8_areSo_94 : decode cX8_areSo 94 = .ok (.istore 6, 2) := by decide +kernel
theorem dX8_areSo_96 : decode cX8_areSo 96 = .ok (.iinc 7 1, 3) := by decide +kernel
theorem dX8_areSo_99 : decode cX8_areSo 99 = .ok (.goto (-51), 3) := by decide +kernel
theorem dX8_areSo_102 : decode cX8_areSo 102 = .ok (.iload_n 3, 1) := by decide +kernel
theorem dX8_areSo_103 : decode cX8_areSo 103 = .ok (.ifCond .eq 25, 3) := by decide +kernel
theorem dX8_areSo_106 : decode cX8_areSo 106 = .ok (.aload_n 0, 1) := by decide +kernel
theorem dX8_areSo_107 : decode cX8_areSo 107 = .ok (.iload 6, 2) := by decide +kernel
theorem dX8_areSo_109 : decode cX8_areSo 109 = .ok (.invokevirtual 180, 3) := by decide +kernel
theorem dX8_areSo_112 : decode cX8_areSo 112 = .ok (.aload_n 0, 1) := by decide +kernel
theorem dX8_areSo_113 : decode cX8_areSo 113 = .ok (.getfield 7, 3) := by decide +kernel
theorem dX8_areSo_116 : decode cX8_areSo 116 = .ok (.iload 5, 2) := by decide +kernel
theorem dX8_areSo_118 : decode cX8_areSo 118 = .ok (.iconst 2, 1) := by decide +kernel
theorem dX8_areSo_119 : decode cX8_areSo 119 = .ok (.iadd, 1) := by decide +kernel
theorem dX8_areSo_120 : decode cX8_areSo 120 = .ok (.iaload, 1) := by decide +kernel
theorem dX8_areSo_121 : decode cX8_areSo 121 = .ok (.if_icmp .ne 7, 3) := by decide +kernel
theorem dX8_areSo_124 : decode cX8_areSo 124 = .ok (.iconst 1, 1) := by decide +kernel
theorem dX8_areSo_125 : decode cX8_areSo 125 = .ok (.goto 4, 3) := by decide +kernel
theorem dX8_areSo_128 : decode cX8_areSo 128 = .ok (.iconst 0, 1) := by decide +kernel
theorem dX8_areSo_129 : decode cX8_areSo 129 = .ok (.istore_n 3, 1) := by decide +kernel
theorem dX8_areSo_130 : decode cX8_areSo 130 = .ok (.iinc 4 1, 3) := by decide +kernel
theorem dX8_areSo_133 : decode cX8_areSo 133 = .ok (.goto (-128), 3) := by decide +kernel
theorem dX8_areSo_136 : decode cX8_areSo 136 = .ok (.iload_n 3, 1) := by decide +kernel
theorem dX8_areSo_137 : decode cX8_areSo 137 = .ok (.ireturn, 1) := by decide +kernel
theorem dX8_tryDead_0 : decode cX8_tryDead 0 = .ok (.aload_n 0, 1) := by decide +kernel
theorem dX8_tryDead_1 : decode cX8_tryDead 1 = .ok (.iload_n 2, 1) := by decide +kernel
theorem dX8_tryDead_2 : decode cX8_tryDead 2 = .ok (.iload_n 3, 1) := by decide +kernel
theorem dX8_tryDead_3 : decode cX8_tryDead 3 = .ok (.invokevirtual 268, 3) := by decide +kernel
theorem dX8_tryDead_6 : decode cX8_tryDead 6 = .ok (.ifCond .ne 4, 3) := by decide +kernel
theorem dX8_tryDead_9 : decode cX8_tryDead 9 = .ok (.return_, 1) := by decide +kernel
theorem dX8_tryDead_10 : decode cX8_tryDead 10 = .ok (.aload_n 0, 1) := by decide +kernel
theorem dX8_tryDead_11 : decode cX8_tryDead 11 = .ok (.getfield 271, 3) := by decide +kernel
theorem dX8_tryDead_14 : decode cX8_tryDead 14 = .ok (.ifCond .ne 27, 3) := by decide +kernel
theorem dX8_tryDead_17 : decode cX8_tryDead 17 = .ok (.aload_n 0, 1) := by decide +kernel
theorem dX8_tryDead_18 : decode cX8_tryDead 18 = .ok (.iload_n 1, 1) := by decide +kernel
theorem dX8_tryDead_19 : decode cX8_tryDead 19 = .ok (.putfield 274, 3) := by decide +kernel
theorem dX8_tryDead_22 : decode cX8_tryDead 22 = .ok (.aload_n 0, 1) := by decide +kernel
theorem dX8_tryDead_23 : decode cX8_tryDead 23 = .ok (.iload_n 2, 1) := by decide +kernel
theorem dX8_tryDead_24 : decode cX8_tryDead 24 = .ok (.putfield 277, 3) := by decide +kernel
theorem dX8_tryDead_27 : decode cX8_tryDead 27 = .ok (.aload_n 0, 1) := by decide +kernel
theorem dX8_tryDead_28 : decode cX8_tryDead 28 = .ok (.iload_n 1, 1) := by decide +kernel
theorem dX8_tryDead_29 : decode cX8_tryDead 29 = .ok (.iconst 2, 1) := by decide +kernel
theorem dX8_tryDead_30 : decode cX8_tryDead 30 = .ok (.if_icmp .ne 7, 3) := by decide +kernel
theorem dX8_tryDead_33 : decode cX8_tryDead 33 = .ok (.iload_n 3, 1) := by decide +kernel
theorem dX8_tryDead_34 : decode cX8_tryDead 34 = .ok (.goto 4, 3) := by decide +kernel
theorem dX8_tryDead_37 : decode cX8_tryDead 37 = .ok (.iload_n 2, 1) := by decide +kernel
theorem dX8_tryDead_38 : decode cX8_tryDead 38 = .ok (.putfield 280, 3) := by decide +kernel
theorem dX8_tryDead_41 : decode cX8_tryDead 41 = .ok (.aload_n 0, 1) := by decide +kernel
theorem dX8_tryDead_42 : decode cX8_tryDead 42 = .ok (.dup, 1) := by decide +kernel
theorem dX8_tryDead_43 : decode cX8_tryDead 43 = .ok (.getfield 271, 3) := by decide +kernel
theorem dX8_tryDead_46 : decode cX8_tryDead 46 = .ok (.iconst 1, 1) := by decide +kernel
theorem dX8_tryDead_47 : decode cX8_tryDead 47 = .ok (.iadd, 1) := by decide +kernel
theorem dX8_tryDead_48 : decode cX8_tryDead 48 = .ok (.putfield 271, 3) := by decide +kernel
theorem dX8_tryDead_51 : decode cX8_tryDead 51 = .ok (.return_, 1) := by decide +kernel
theorem dX8_dead_0 : decode cX8_dead 0 = .ok (.iload_n 1, 1) := by decide +kernel
theorem dX8_dead_1 : decode cX8_dead 1 = .ok (.iconst 0, 1) := by decide +kernel
theorem dX8_dead_2 : decode cX8_dead 2 = .ok (.iconst 3, 1) := by decide +kernel
theorem dX8_dead_3 : decode cX8_dead 3 = .ok (.invokestatic 70, 3) := by decide +kernel
theorem dX8_dead_6 : decode cX8_dead 6 = .ok (.ifCond .ne 10, 3) := by decide +kernel
theorem dX8_dead_9 : decode cX8_dead 9 = .ok (.aload_n 0, 1) := by decide +kernel
theorem dX8_dead_10 : decode cX8_dead 10 = .ok (.bipush (-2), 2) := by decide +kernel
theorem dX8_dead_12 : decode cX8_dead 12 = .ok (.invokevirtual 92, 3) := by decide +kernel
theorem dX8_dead_15 : decode cX8_dead 15 = .ok (.ireturn, 1) := by decide +kernel
theorem dX8_dead_16 : decode cX8_dead 16 = .ok (.aload_n 0, 1) := by decide +kernel
theorem dX8_dead_17 : decode cX8_dead 17 = .ok (.iconst 0, 1) := by decide +kernel
theorem dX8_dead_18 : decode cX8_dead 18 = .ok (.putfield 271, 3) := by decide +kernel
theorem dX8_dead_21 : decode cX8_dead 21 = .ok (.aload_n 0, 1) := by decide +kernel
theorem dX8_dead_22 : decode cX8_dead 22 = .ok (.iconst 0, 1) := by decide +kernel
theorem dX8_dead_23 : decode cX8_dead 23 = .ok (.iconst (-1), 1) := by decide +kernel
theorem dX8_dead_24 : decode cX8_dead 24 = .ok (.iconst (-1), 1) := by decide +kernel
theorem dX8_dead_25 : decode cX8_dead 25 = .ok (.invokevirtual 283, 3) := by decide +kernel
theorem dX8_dead_28 : decode cX8_dead 28 = .ok (.iconst 0, 1) := by decide +kernel
theorem dX8_dead_29 : decode cX8_dead 29 = .ok (.istore_n 2, 1) := by decide +kernel
theorem dX8_dead_30 : decode cX8_dead 30 = .ok (.iload_n 2, 1) := by decide +kernel
theorem dX8_dead_31 : decode cX8_dead 31 = .ok (.bipush 60, 2) := by decide +kernel
theorem dX8_dead_33 : decode cX8_dead 33 = .ok (.if_icmp .ge 24, 3) := by decide +kernel
theorem dX8_dead_36 : decode cX8_dead 36 = .ok (.aload_n 0, 1) := by decide +kernel
theorem dX8_dead_37 : decode cX8_dead 37 = .ok (.iload_n 2, 1) := by decide +kernel
theorem dX8_dead_38 : decode cX8_dead 38 = .ok (.invokevirtual 78, 3) := by decide +kernel
theorem dX8_dead_41 : decode cX8_dead 41 = .ok (.ifCond .eq 10, 3) := by decide +kernel
theorem dX8_dead_44 : decode cX8_dead 44 = .ok (.aload_n 0, 1) := by decide +kernel
theorem dX8_dead_45 : decode cX8_dead 45 = .ok (.iconst 1, 1) := by decide +kernel
theorem dX8_dead_46 : decode cX8_dead 46 = .ok (.iload_n 2, 1) := by decide +kernel
theorem dX8_dead_47 : decode cX8_dead 47 = .ok (.iconst (-1), 1) := by decide +kernel
theorem dX8_dead_48 : decode cX8_dead 48 = .ok (.invokevirtual 283, 3) := by decide +kernel
theorem dX8_dead_51 : decode cX8_dead 51 = .ok (.iinc 2 1, 3) := by decide +kernel
theorem dX8_dead_54 : decode cX8_dead 54 = .ok (.goto (-24), 3) := by decide +kernel
theorem dX8_dead_57 : decode cX8_dead 57 = .ok (.iconst 0, 1) := by decide +kernel
theorem dX8_dead_58 : decode cX8_dead 58 = .ok (.istore_n 2, 1) := by decide +kernel
theorem dX8_dead_59 : decode cX8_dead 59 = .ok (.iload_n 2, 1) := by decide +kernel
theorem dX8_dead_60 : decode cX8_dead 60 = .ok (.bipush 60, 2) := by decide +kernel
theorem dX8_dead_62 : decode cX8_dead 62 = .ok (.if_icmp .ge 48, 3) := by decide +kernel
theorem dX8_dead_65 : decode cX8_dead 65 = .ok (.iload_n 2, 1) := by decide +kernel
theorem dX8_dead_66 : decode cX8_dead 66 = .ok (.iconst 1, 1) := by decide +kernel
theorem dX8_dead_67 : decode cX8_dead 67 = .ok (.iadd, 1) := by decide +kernel
theorem dX8_dead_68 : decode cX8_dead 68 = .ok (.istore_n 3, 1) := by decide +kernel
theorem dX8_dead_69 : decode cX8_dead 69 = .ok (.iload_n 3, 1) := by decide +kernel
theorem dX8_dead_70 : decode cX8_dead 70 = .ok (.bipush 60, 2) := by decide +kernel
theorem dX8_dead_72 : decode cX8_dead 72 = .ok (.if_icmp .ge 32, 3) := by decide +kernel
theorem dX8_dead_75 : decode cX8_dead 75 = .ok (.aload_n 0, 1) := by decide +kernel
theorem dX8_dead_76 : decode cX8_dead 76 = .ok (.iload_n 2, 1) := by decide +kernel
theorem dX8_dead_77 : decode cX8_dead 77 = .ok (.invokevirtual 78, 3) := by decide +kernel
theorem dX8_dead_80 : decode cX8_dead 80 = .ok (.ifCond .eq 18, 3) := by decide +kernel
theorem dX8_dead_83 : decode cX8_dead 83 = .ok (.aload_n 0, 1) := by decide +kernel
theorem dX8_dead_84 : decode cX8_dead 84 = .ok (.iload_n 3, 1) := by decide +kernel
theorem dX8_dead_85 : decode cX8_dead 85 = .ok (.invokevirtual 78, 3) := by decide +kernel
theorem dX8_dead_88 : decode cX8_dead 88 = .ok (.ifCond .eq 10, 3) := by decide +kernel
theorem dX8_dead_91 : decode cX8_dead 91 = .ok (.aload_n 0, 1) := by decide +kernel
theorem dX8_dead_92 : decode cX8_dead 92 = .ok (.iconst 2, 1) := by decide +kernel
theorem dX8_dead_93 : decode cX8_dead 93 = .ok (.iload_n 2, 1) := by decide +kernel
theorem dX8_dead_94 : decode cX8_dead 94 = .ok (.iload_n 3, 1) := by decide +kernel
theorem dX8_dead_95 : decode cX8_dead 95 = .ok (.invokevirtual 283, 3) := by decide +kernel
theorem dX8_dead_98 : decode cX8_dead 98 = .ok (.iinc 3 1, 3) := by decide +kernel
theorem dX8_dead_101 : decode cX8_dead 101 = .ok (.goto (-32), 3) := by decide +kernel
theorem dX8_dead_104 : decode cX8_dead 104 = .ok (.iinc 2 1, 3) := by decide +kernel
theorem dX8_dead_107 : decode cX8_dead 107 = .ok (.goto (-48), 3) := by decide +kernel
theorem dX8_dead_110 : decode cX8_dead 110 = .ok (.iload_n 1, 1) := by decide +kernel
theorem dX8_dead_111 : decode cX8_dead 111 = .ok (.ifCond .ne 8, 3) := by decide +kernel
theorem dX8_dead_114 : decode cX8_dead 114 = .ok (.aload_n 0, 1) := by decide +kernel
theorem dX8_dead_115 : decode cX8_dead 115 = .ok (.getfield 271, 3) := by decide +kernel
theorem dX8_dead_118 : decode cX8_dead 118 = .ok (.ireturn, 1) := by decide +kernel
theorem dX8_dead_119 : decode cX8_dead 119 = .ok (.aload_n 0, 1) := by decide +kernel
theorem dX8_dead_120 : decode cX8_dead 120 = .ok (.getfield 271, 3) := by decide +kernel
theorem dX8_dead_123 : decode cX8_dead 123 = .ok (.ifCond .ne 12, 3) := by decide +kernel
theorem dX8_dead_126 : decode cX8_dead 126 = .ok (.aload_n 0, 1) := by decide +kernel
theorem dX8_dead_127 : decode cX8_dead 127 = .ok (.bipush (-3), 2) := by decide +kernel
theorem dX8_dead_129 : decode cX8_dead 129 = .ok (.invokevirtual 92, 3) := by decide +kernel
theorem dX8_dead_132 : decode cX8_dead 132 = .ok (.goto 31, 3) := by decide +kernel
theorem dX8_dead_135 : decode cX8_dead 135 = .ok (.iload_n 1, 1) := by decide +kernel
theorem dX8_dead_136 : decode cX8_dead 136 = .ok (.iconst 1, 1) := by decide +kernel
theorem dX8_dead_137 : decode cX8_dead 137 = .ok (.if_icmp .ne 10, 3) := by decide +kernel
theorem dX8_dead_140 : decode cX8_dead 140 = .ok (.aload_n 0, 1) := by decide +kernel
theorem dX8_dead_141 : decode cX8_dead 141 = .ok (.getfield 274, 3) := by decide +kernel
theorem dX8_dead_144 : decode cX8_dead 144 = .ok (.goto 19, 3) := by decide +kernel
theorem dX8_dead_147 : decode cX8_dead 147 = .ok (.iload_n 1, 1) := by decide +kernel
theorem dX8_dead_148 : decode cX8_dead 148 = .ok (.iconst 2, 1) := by decide +kernel
theorem dX8_dead_149 : decode cX8_dead 149 = .ok (.if_icmp .ne 10, 3) := by decide +kernel
theorem dX8_dead_152 : decode cX8_dead 152 = .ok (.aload_n 0, 1) := by decide +kernel
theorem dX8_dead_153 : decode cX8_dead 153 = .ok (.getfield 277, 3) := by decide +kernel
theorem dX8_dead_156 : decode cX8_dead 156 = .ok (.goto 7, 3) := by decide +kernel
theorem dX8_dead_159 : decode cX8_dead 159 = .ok (.aload_n 0, 1) := by decide +kernel
theorem dX8_dead_160 : decode cX8_dead 160 = .ok (.getfield 280, 3) := by decide +kernel
theorem dX8_dead_163 : decode cX8_dead 163 = .ok (.ireturn, 1) := by decide +kernel
theorem dX8_isUnlike_0 : decode cX8_isUnlike 0 = .ok (.iconst 1, 1) := by decide +kernel
theorem dX8_isUnlike_1 : decode cX8_isUnlike 1 = .ok (.istore 4, 2) := by decide +kernel
theorem dX8_isUnlike_3 : decode cX8_isUnlike 3 = .ok (.iconst 0, 1) := by decide +kernel
theorem dX8_isUnlike_4 : decode cX8_isUnlike 4 = .ok (.istore 5, 2) := by decide +kernel
theorem dX8_isUnlike_6 : decode cX8_isUnlike 6 = .ok (.iload 5, 2) := by decide +kernel
theorem dX8_isUnlike_8 : decode cX8_isUnlike 8 = .ok (.iload_n 2, 1) := by decide +kernel
theorem dX8_isUnlike_9 : decode cX8_isUnlike 9 = .ok (.if_icmp .ge 39, 3) := by decide +kernel
theorem dX8_isUnlike_12 : decode cX8_isUnlike 12 = .ok (.iload 4, 2) := by decide +kernel
theorem dX8_isUnlike_14 : decode cX8_isUnlike 14 = .ok (.ifCond .eq 25, 3) := by decide +kernel
theorem dX8_isUnlike_17 : decode cX8_isUnlike 17 = .ok (.aload_n 0, 1) := by decide +kernel
theorem dX8_isUnlike_18 : decode cX8_isUnlike 18 = .ok (.getfield 29, 3) := by decide +kernel
theorem dX8_isUnlike_21 : decode cX8_isUnlike 21 = .ok (.iload_n 1, 1) := by decide +kernel
theorem dX8_isUnlike_22 : decode cX8_isUnlike 22 = .ok (.aload_n 0, 1) := by decide +kernel
theorem dX8_isUnlike_23 : decode cX8_isUnlike 23 = .ok (.getfield 63, 3) := by decide +kernel
theorem dX8_isUnlike_26 : decode cX8_isUnlike 26 = .ok (.iload 5, 2) := by decide +kernel
theorem dX8_isUnlike_28 : decode cX8_isUnlike 28 = .ok (.iaload, 1) := by decide +kernel
theorem dX8_isUnlike_29 : decode cX8_isUnlike 29 = .ok (.ixor, 1) := by decide +kernel
theorem dX8_isUnlike_30 : decode cX8_isUnlike 30 = .ok (.iaload, 1) := by decide +kernel
theorem dX8_isUnlike_31 : decode cX8_isUnlike 31 = .ok (.iload_n 3, 1) := by decide +kernel
theorem dX8_isUnlike_32 : decode cX8_isUnlike 32 = .ok (.if_icmp .lt 7, 3) := by decide +kernel
theorem dX8_isUnlike_35 : decode cX8_isUnlike 35 = .ok (.iconst 1, 1) := by decide +kernel
theorem dX8_isUnlike_36 : decode cX8_isUnlike 36 = .ok (.goto 4, 3) := by decide +kernel
theorem dX8_isUnlike_39 : decode cX8_isUnlike 39 = .ok (.iconst 0, 1) := by decide +kernel
theorem dX8_isUnlike_40 : decode cX8_isUnlike 40 = .ok (.istore 4, 2) := by decide +kernel
theorem dX8_isUnlike_42 : decode cX8_isUnlike 42 = .ok (.iinc 5 1, 3) := by decide +kernel
theorem dX8_isUnlike_45 : decode cX8_isUnlike 45 = .ok (.goto (-39), 3) := by decide +kernel
theorem dX8_isUnlike_48 : decode cX8_isUnlike 48 = .ok (.iload 4, 2) := by decide +kernel
theorem dX8_isUnlike_50 : decode cX8_isUnlike 50 = .ok (.ireturn, 1) := by decide +kernel
theorem dX8_unlike_0 : decode cX8_unlike 0 = .ok (.iload_n 1, 1) := by decide +kernel
theorem dX8_unlike_1 : decode cX8_unlike 1 = .ok (.iconst 1, 1) := by decide +kernel
theorem dX8_unlike_2 : decode cX8_unlike 2 = .ok (.iconst 5, 1) := by decide +kernel
theorem dX8_unlike_3 : decode cX8_unlike 3 = .ok (.invokestatic 70, 3) := by decide +kernel
theorem dX8_unlike_6 : decode cX8_unlike 6 = .ok (.ifCond .eq 12, 3) := by decide +kernel
theorem dX8_unlike_9 : decode cX8_unlike 9 = .ok (.iload_n 2, 1) := by decide +kernel
theorem dX8_unlike_10 : decode cX8_unlike 10 = .ok (.iconst 1, 1) := by decide +kernel
theorem dX8_unlike_11 : decode cX8_unlike 11 = .ok (.iload_n 1, 1) := by decide +kernel
theorem dX8_unlike_12 : decode cX8_unlike 12 = .ok (.invokestatic 70, 3) := by decide +kernel
theorem dX8_unlike_15 : decode cX8_unlike 15 = .ok (.ifCond .ne 10, 3) := by decide +kernel
theorem dX8_unlike_18 : decode cX8_unlike 18 = .ok (.aload_n 0, 1) := by decide +kernel
theorem dX8_unlike_19 : decode cX8_unlike 19 = .ok (.bipush (-2), 2) := by decide +kernel
theorem dX8_unlike_21 : decode cX8_unlike 21 = .ok (.invokevirtual 92, 3) := by decide +kernel
theorem dX8_unlike_24 : decode cX8_unlike 24 = .ok (.ireturn, 1) := by decide +kernel
theorem dX8_unlike_25 : decode cX8_unlike 25 = .ok (.iconst 1, 1) := by decide +kernel
theorem dX8_unlike_26 : decode cX8_unlike 26 = .ok (.iload_n 1, 1) := by decide +kernel
theorem dX8_unlike_27 : decode cX8_unlike 27 = .ok (.ishl, 1) := by decide +kernel
theorem dX8_unlike_28 : decode cX8_unlike 28 = .ok (.istore_n 3, 1) := by decide +kernel
theorem dX8_unlike_29 : decode cX8_unlike 29 = .ok (.iconst 0, 1) := by decide +kernel
theorem dX8_unlike_30 : decode cX8_unlike 30 = .ok (.istore 4, 2) := by decide +kernel
theorem dX8_unlike_32 : decode cX8_unlike 32 = .ok (.iconst 0, 1) := by decide +kernel
theorem dX8_unlike_33 : decode cX8_unlike 33 = .ok (.istore 5, 2) := by decide +kernel
theorem dX8_unlike_35 : decode cX8_unlike 35 = .ok (.iconst 0, 1) := by decide +kernel
theorem dX8_unlike_36 : decode cX8_unlike 36 = .ok (.istore 6, 2) := by decide +kernel
theorem dX8_unlike_38 : decode cX8_unlike 38 = .ok (.iconst 1, 1) := by decide +kernel
theorem dX8_unlike_39 : decode cX8_unlike 39 = .ok (.istore 7, 2) := by decide +kernel
theorem dX8_unlike_41 : decode cX8_unlike 41 = .ok (.iload 7, 2) := by decide +kernel
theorem dX8_unlike_43 : decode cX8_unlike 43 = .ok (.ifCond .eq 137, 3) := by decide +kernel
theorem dX8_unlike_46 : decode cX8_unlike 46 = .ok (.iload 6, 2) := by decide +kernel
theorem dX8_unlike_48 : decode cX8_unlike 48 = .ok (.iload_n 3, 1) := by decide +kernel
theorem dX8_unlike_49 : decode cX8_unlike 49 = .ok (.if_icmp .ge 21, 3) := by decide +kernel
theorem dX8_unlike_52 : decode cX8_unlike 52 = .ok (.aload_n 0, 1) := by decide +kernel
theorem dX8_unlike_53 : decode cX8_unlike 53 = .ok (.iload 6, 2) := by decide +kernel
theorem dX8_unlike_55 : decode cX8_unlike 55 = .ok (.iload 4, 2) := by decide +kernel
theorem dX8_unlike_57 : decode cX8_unlike 57 = .ok (.iload_n 2, 1) := by decide +kernel
theorem dX8_unlike_58 : decode cX8_unlike 58 = .ok (.invokevirtual 286, 3) := by decide +kernel
theorem dX8_unlike_61 : decode cX8_unlike 61 = .ok (.ifCond .ne 9, 3) := by decide +kernel
theorem dX8_unlike_64 : decode cX8_unlike 64 = .ok (.iinc 6 1, 3) := by decide +kernel
theorem dX8_unlike_67 : decode cX8_unlike 67 = .ok (.goto (-21), 3) := by decide +kernel
theorem dX8_unlike_70 : decode cX8_unlike 70 = .ok (.iload_n 2, 1) := by decide +kernel
theorem dX8_unlike_71 : decode cX8_unlike 71 = .ok (.iconst 1, 1) := by decide +kernel
theorem dX8_unlike_72 : decode cX8_unlike 72 = .ok (.if_icmp .le 14, 3) := by decide +kernel
theorem dX8_unlike_75 : decode cX8_unlike 75 = .ok (.iload_n 3, 1) := by decide +kernel
theorem dX8_unlike_76 : decode cX8_unlike 76 = .ok (.iload 6, 2) := by decide +kernel
theorem dX8_unlike_78 : decode cX8_unlike 78 = .ok (.isub, 1) := by decide +kernel
theorem dX8_unlike_79 : decode cX8_unlike 79 = .ok (.iconst 1, 1) := by decide +kernel
theorem dX8_unlike_80 : decode cX8_unlike 80 = .ok (.iadd, 1) := by decide +kernel
theorem dX8_unlike_81 : decode cX8_unlike 81 = .ok (.iconst 2, 1) := by decide +kernel
theorem dX8_unlike_82 : decode cX8_unlike 82 = .ok (.idiv, 1) := by decide +kernel
theorem dX8_unlike_83 : decode cX8_unlike 83 = .ok (.goto 7, 3) := by decide +kernel
theorem dX8_unlike_86 : decode cX8_unlike 86 = .ok (.iload_n 3, 1) := by decide +kernel
theorem dX8_unlike_87 : decode cX8_unlike 87 = .ok (.iload 6, 2) := by decide +kernel
theorem dX8_unlike_89 : decode cX8_unlike 89 = .ok (.isub, 1) := by decide +kernel
theorem dX8_unlike_90 : decode cX8_unlike 90 = .ok (.istore 8, 2) := by decide +kernel
theorem dX8_unlike_92 : decode cX8_unlike 92 = .ok (.iload 6, 2) := by decide +kernel
theorem dX8_unlike_94 : decode cX8_unlike 94 = .ok (.iload_n 3, 1) := by decide +kernel
theorem dX8_unlike_95 : decode cX8_unlike 95 = .ok (.if_icmp .ge 47, 3) := by decide +kernel
theorem dX8_unlike_98 : decode cX8_unlike 98 = .ok (.iload 4, 2) := by decide +kernel
theorem dX8_unlike_100 : decode cX8_unlike 100 = .ok (.iload 8, 2) := by decide +kernel
theorem dX8_unlike_102 : decode cX8_unlike 102 = .ok (.iadd, 1) := by decide +kernel
theorem dX8_unlike_103 : decode cX8_unlike 103 = .ok (.iload 5, 2) := by decide +kernel
theorem dX8_unlike_105 : decode cX8_unlike 105 = .ok (.if_icmp .le 37, 3) := by decide +kernel
theorem dX8_unlike_108 : decode cX8_unlike 108 = .ok (.aload_n 0, 1) := by decide +kernel
theorem dX8_unlike_109 : decode cX8_unlike 109 = .ok (.getfield 63, 3) := by decide +kernel
theorem dX8_unlike_112 : decode cX8_unlike 112 = .ok (.iload 4, 2) := by decide +kernel
theorem dX8_unlike_114 : decode cX8_unlike 114 = .ok (.iload 6, 2) := by decide +kernel
theorem dX8_unlike_116 : decode cX8_unlike 116 = .ok (.iastore, 1) := by decide +kernel
theorem dX8_unlike_117 : decode cX8_unlike 117 = .ok (.iinc 4 1, 3) := by decide +kernel
theorem dX8_unlike_120 : decode cX8_unlike 120 = .ok (.iinc 6 1, 3) := by decide +kernel
theorem dX8_unlike_123 : decode cX8_unlike 123 = .ok (.iload 4, 2) := by decide +kernel
theorem dX8_unlike_125 : decode cX8_unlike 125 = .ok (.iload 5, 2) := by decide +kernel
theorem dX8_unlike_127 : decode cX8_unlike 127 = .ok (.if_icmp .le 8, 3) := by decide +kernel
theorem dX8_unlike_130 : decode cX8_unlike 130 = .ok (.iload 4, 2) := by decide +kernel
theorem dX8_unlike_132 : decode cX8_unlike 132 = .ok (.goto 5, 3) := by decide +kernel
theorem dX8_unlike_135 : decode cX8_unlike 135 = .ok (.iload 5, 2) := by decide +kernel
theorem dX8_unlike_137 : decode cX8_unlike 137 = .ok (.istore 5, 2) := by decide +kernel
theorem dX8_unlike_139 : decode cX8_unlike 139 = .ok (.goto 38, 3) := by decide +kernel
theorem dX8_unlike_142 : decode cX8_unlike 142 = .ok (.iinc 4 (-1), 3) := by decide +kernel
theorem dX8_unlike_145 : decode cX8_unlike 145 = .ok (.iload 4, 2) := by decide +kernel
theorem dX8_unlike_147 : decode cX8_unlike 147 = .ok (.ifCond .lt 7, 3) := by decide +kernel
theorem dX8_unlike_150 : decode cX8_unlike 150 = .ok (.iconst 1, 1) := by decide +kernel
theorem dX8_unlike_151 : decode cX8_unlike 151 = .ok (.goto 4, 3) := by decide +kernel
theorem dX8_unlike_154 : decode cX8_unlike 154 = .ok (.iconst 0, 1) := by decide +kernel
theorem dX8_unlike_155 : decode cX8_unlike 155 = .ok (.istore 7, 2) := by decide +kernel
theorem dX8_unlike_157 : decode cX8_unlike 157 = .ok (.iload 7, 2) := by decide +kernel
theorem dX8_unlike_159 : decode cX8_unlike 159 = .ok (.ifCond .eq 15, 3) := by decide +kernel
theorem dX8_unlike_162 : decode cX8_unlike 162 = .ok (.aload_n 0, 1) := by decide +kernel
theorem dX8_unlike_163 : decode cX8_unlike 163 = .ok (.getfield 63, 3) := by decide +kernel
theorem dX8_unlike_166 : decode cX8_unlike 166 = .ok (.iload 4, 2) := by decide +kernel
theorem dX8_unlike_168 : decode cX8_unlike 168 = .ok (.iaload, 1) := by decide +kernel
theorem dX8_unlike_169 : decode cX8_unlike 169 = .ok (.iconst 1, 1) := by decide +kernel
theorem dX8_unlike_170 : decode cX8_unlike 170 = .ok (.iadd, 1) := by decide +kernel
theorem dX8_unlike_171 : decode cX8_unlike 171 = .ok (.goto 4, 3) := by decide +kernel
theorem dX8_unlike_174 : decode cX8_unlike 174 = .ok (.iload_n 3, 1) := by decide +kernel
theorem dX8_unlike_175 : decode cX8_unlike 175 = .ok (.istore 6, 2) := by decide +kernel
theorem dX8_unlike_177 : decode cX8_unlike 177 = .ok (.goto (-136), 3) := by decide +kernel
theorem dX8_unlike_180 : decode cX8_unlike 180 = .ok (.iload 5, 2) := by decide +kernel
theorem dX8_unlike_182 : decode cX8_unlike 182 = .ok (.ireturn, 1) := by decide +kernel
theorem dX8_image_0 : decode cX8_image 0 = .ok (.iload_n 1, 1) := by decide +kernel
theorem dX8_image_1 : decode cX8_image 1 = .ok (.iconst 0, 1) := by decide +kernel
theorem dX8_image_2 : decode cX8_image 2 = .ok (.iconst 1, 1) := by decide +kernel
theorem dX8_image_3 : decode cX8_image 3 = .ok (.invokestatic 70, 3) := by decide +kernel
theorem dX8_image_6 : decode cX8_image 6 = .ok (.ifCond .ne 10, 3) := by decide +kernel
theorem dX8_image_9 : decode cX8_image 9 = .ok (.aload_n 0, 1) := by decide +kernel
theorem dX8_image_10 : decode cX8_image 10 = .ok (.bipush (-2), 2) := by decide +kernel
theorem dX8_image_12 : decode cX8_image 12 = .ok (.invokevirtual 92, 3) := by decide +kernel
theorem dX8_image_15 : decode cX8_image 15 = .ok (.ireturn, 1) := by decide +kernel
theorem dX8_image_16 : decode cX8_image 16 = .ok (.iconst 0, 1) := by decide +kernel
theorem dX8_image_17 : decode cX8_image 17 = .ok (.istore_n 2, 1) := by decide +kernel
theorem dX8_image_18 : decode cX8_image 18 = .ok (.iload_n 2, 1) := by decide +kernel
theorem dX8_image_19 : decode cX8_image 19 = .ok (.sipush 354, 3) := by decide +kernel
theorem dX8_image_22 : decode cX8_image 22 = .ok (.if_icmp .ge 27, 3) := by decide +kernel
theorem dX8_image_25 : decode cX8_image 25 = .ok (.aload_n 0, 1) := by decide +kernel
theorem dX8_image_26 : decode cX8_image 26 = .ok (.getfield 16, 3) := by decide +kernel
theorem dX8_image_29 : decode cX8_image 29 = .ok (.sipush 354, 3) := by decide +kernel
theorem dX8_image_32 : decode cX8_image 32 = .ok (.iload_n 1, 1) := by decide +kernel
theorem dX8_image_33 : decode cX8_image 33 = .ok (.imul, 1) := by decide +kernel
theorem dX8_image_34 : decode cX8_image 34 = .ok (.iload_n 2, 1) := by decide +kernel
theorem dX8_image_35 : decode cX8_image 35 = .ok (.iadd, 1) := by decide +kernel
theorem dX8_image_36 : decode cX8_image 36 = .ok (.aload_n 0, 1) := by decide +kernel
theorem dX8_image_37 : decode cX8_image 37 = .ok (.getfield 7, 3) := by decide +kernel
theorem dX8_image_40 : decode cX8_image 40 = .ok (.iload_n 2, 1) := by decide +kernel
theorem dX8_image_41 : decode cX8_image 41 = .ok (.iaload, 1) := by decide +kernel
theorem dX8_image_42 : decode cX8_image 42 = .ok (.iastore, 1) := by decide +kernel
theorem dX8_image_43 : decode cX8_image 43 = .ok (.iinc 2 1, 3) := by decide +kernel
theorem dX8_image_46 : decode cX8_image 46 = .ok (.goto (-28), 3) := by decide +kernel
theorem dX8_image_49 : decode cX8_image 49 = .ok (.aload_n 0, 1) := by decide +kernel
theorem dX8_image_50 : decode cX8_image 50 = .ok (.getfield 19, 3) := by decide +kernel
theorem dX8_image_53 : decode cX8_image 53 = .ok (.iload_n 1, 1) := by decide +kernel
theorem dX8_image_54 : decode cX8_image 54 = .ok (.iconst 1, 1) := by decide +kernel
theorem dX8_image_55 : decode cX8_image 55 = .ok (.bastore, 1) := by decide +kernel
theorem dX8_image_56 : decode cX8_image 56 = .ok (.iconst 1, 1) := by decide +kernel
theorem dX8_image_57 : decode cX8_image 57 = .ok (.ireturn, 1) := by decide +kernel
theorem dX8_from_0 : decode cX8_from 0 = .ok (.iload_n 1, 1) := by decide +kernel
theorem dX8_from_1 : decode cX8_from 1 = .ok (.iconst 0, 1) := by decide +kernel
theorem dX8_from_2 : decode cX8_from 2 = .ok (.iconst 1, 1) := by decide +kernel
theorem dX8_from_3 : decode cX8_from 3 = .ok (.invokestatic 70, 3) := by decide +kernel
theorem dX8_from_6 : decode cX8_from 6 = .ok (.ifCond .ne 10, 3) := by decide +kernel
theorem dX8_from_9 : decode cX8_from 9 = .ok (.aload_n 0, 1) := by decide +kernel
theorem dX8_from_10 : decode cX8_from 10 = .ok (.bipush (-2), 2) := by decide +kernel
theorem dX8_from_12 : decode cX8_from 12 = .ok (.invokevirtual 92, 3) := by decide +kernel
theorem dX8_from_15 : decode cX8_from 15 = .ok (.ireturn, 1) := by decide +kernel
theorem dX8_from_16 : decode cX8_from 16 = .ok (.aload_n 0, 1) := by decide +kernel
theorem dX8_from_17 : decode cX8_from 17 = .ok (.getfield 19, 3) := by decide +kernel
theorem dX8_from_20 : decode cX8_from 20 = .ok (.iload_n 1, 1) := by decide +kernel
theorem dX8_from_21 : decode cX8_from 21 = .ok (.baload, 1) := by decide +kernel
theorem dX8_from_22 : decode cX8_from 22 = .ok (.ifCond .ne 10, 3) := by decide +kernel
theorem dX8_from_25 : decode cX8_from 25 = .ok (.aload_n 0, 1) := by decide +kernel
theorem dX8_from_26 : decode cX8_from 26 = .ok (.bipush (-3), 2) := by decide +kernel
theorem dX8_from_28 : decode cX8_from 28 = .ok (.invokevirtual 92, 3) := by decide +kernel
theorem dX8_from_31 : decode cX8_from 31 = .ok (.ireturn, 1) := by decide +kernel
theorem dX8_from_32 : decode cX8_from 32 = .ok (.iconst 0, 1) := by decide +kernel
theorem dX8_from_33 : decode cX8_from 33 = .ok (.istore_n 2, 1) := by decide +kernel
theorem dX8_from_34 : decode cX8_from 34 = .ok (.iload_n 2, 1) := by decide +kernel
theorem dX8_from_35 : decode cX8_from 35 = .ok (.sipush 354, 3) := by decide +kernel
theorem dX8_from_38 : decode cX8_from 38 = .ok (.if_icmp .ge 27, 3) := by decide +kernel
theorem dX8_from_41 : decode cX8_from 41 = .ok (.aload_n 0, 1) := by decide +kernel
theorem dX8_from_42 : decode cX8_from 42 = .ok (.getfield 7, 3) := by decide +kernel
theorem dX8_from_45 : decode cX8_from 45 = .ok (.iload_n 2, 1) := by decide +kernel
theorem dX8_from_46 : decode cX8_from 46 = .ok (.aload_n 0, 1) := by decide +kernel
theorem dX8_from_47 : decode cX8_from 47 = .ok (.getfield 16, 3) := by decide +kernel
theorem dX8_from_50 : decode cX8_from 50 = .ok (.sipush 354, 3) := by decide +kernel
theorem dX8_from_53 : decode cX8_from 53 = .ok (.iload_n 1, 1) := by decide +kernel
theorem dX8_from_54 : decode cX8_from 54 = .ok (.imul, 1) := by decide +kernel
theorem dX8_from_55 : decode cX8_from 55 = .ok (.iload_n 2, 1) := by decide +kernel
theorem dX8_from_56 : decode cX8_from 56 = .ok (.iadd, 1) := by decide +kernel
theorem dX8_from_57 : decode cX8_from 57 = .ok (.iaload, 1) := by decide +kernel
theorem dX8_from_58 : decode cX8_from 58 = .ok (.iastore, 1) := by decide +kernel
theorem dX8_from_59 : decode cX8_from 59 = .ok (.iinc 2 1, 3) := by decide +kernel
theorem dX8_from_62 : decode cX8_from 62 = .ok (.goto (-28), 3) := by decide +kernel
theorem dX8_from_65 : decode cX8_from 65 = .ok (.iconst 1, 1) := by decide +kernel
theorem dX8_from_66 : decode cX8_from 66 = .ok (.ireturn, 1) := by decide +kernel
theorem dX8_status_0 : decode cX8_status 0 = .ok (.iload_n 1, 1) := by decide +kernel
theorem dX8_status_1 : decode cX8_status 1 = .ok (.iconst 0, 1) := by decide +kernel
theorem dX8_status_2 : decode cX8_status 2 = .ok (.iconst 2, 1) := by decide +kernel
theorem dX8_status_3 : decode cX8_status 3 = .ok (.invokestatic 70, 3) := by decide +kernel
theorem dX8_status_6 : decode cX8_status 6 = .ok (.ifCond .ne 12, 3) := by decide +kernel
theorem dX8_status_9 : decode cX8_status 9 = .ok (.aload_n 0, 1) := by decide +kernel
theorem dX8_status_10 : decode cX8_status 10 = .ok (.bipush (-2), 2) := by decide +kernel
theorem dX8_status_12 : decode cX8_status 12 = .ok (.invokevirtual 92, 3) := by decide +kernel
theorem dX8_status_15 : decode cX8_status 15 = .ok (.pop, 1) := by decide +kernel
theorem dX8_status_16 : decode cX8_status 16 = .ok (.iconst (-1), 1) := by decide +kernel
theorem dX8_status_17 : decode cX8_status 17 = .ok (.ireturn, 1) := by decide +kernel
theorem dX8_status_18 : decode cX8_status 18 = .ok (.aload_n 0, 1) := by decide +kernel
theorem dX8_status_19 : decode cX8_status 19 = .ok (.getfield 23, 3) := by decide +kernel
theorem dX8_status_22 : decode cX8_status 22 = .ok (.iload_n 1, 1) := by decide +kernel
theorem dX8_status_23 : decode cX8_status 23 = .ok (.iaload, 1) := by decide +kernel
theorem dX8_status_24 : decode cX8_status 24 = .ok (.ireturn, 1) := by decide +kernel
theorem dX8_count_0 : decode cX8_count 0 = .ok (.iload_n 1, 1) := by decide +kernel
theorem dX8_count_1 : decode cX8_count 1 = .ok (.iconst 0, 1) := by decide +kernel
theorem dX8_count_2 : decode cX8_count 2 = .ok (.iconst 4, 1) := by decide +kernel
theorem dX8_count_3 : decode cX8_count 3 = .ok (.invokestatic 70, 3) := by decide +kernel
theorem dX8_count_6 : decode cX8_count 6 = .ok (.ifCond .eq 12, 3) := by decide +kernel
theorem dX8_count_9 : decode cX8_count 9 = .ok (.aload_n 0, 1) := by decide +kernel
theorem dX8_count_10 : decode cX8_count 10 = .ok (.getfield 7, 3) := by decide +kernel
theorem dX8_count_13 : decode cX8_count 13 = .ok (.iload_n 1, 1) := by decide +kernel
theorem dX8_count_14 : decode cX8_count 14 = .ok (.iaload, 1) := by decide +kernel
theorem dX8_count_15 : decode cX8_count 15 = .ok (.goto 21, 3) := by decide +kernel
theorem dX8_count_18 : decode cX8_count 18 = .ok (.iload_n 1, 1) := by decide +kernel
theorem dX8_count_19 : decode cX8_count 19 = .ok (.iconst 5, 1) := by decide +kernel
theorem dX8_count_20 : decode cX8_count 20 = .ok (.if_icmp .ne 10, 3) := by decide +kernel
theorem dX8_count_23 : decode cX8_count 23 = .ok (.aload_n 0, 1) := by decide +kernel
theorem dX8_count_24 : decode cX8_count 24 = .ok (.getfield 121, 3) := by decide +kernel
theorem dX8_count_27 : decode cX8_count 27 = .ok (.goto 9, 3) := by decide +kernel
theorem dX8_count_30 : decode cX8_count 30 = .ok (.aload_n 0, 1) := by decide +kernel
theorem dX8_count_31 : decode cX8_count 31 = .ok (.bipush (-2), 2) := by decide +kernel
theorem dX8_count_33 : decode cX8_count 33 = .ok (.invokevirtual 92, 3) := by decide +kernel
theorem dX8_count_36 : decode cX8_count 36 = .ok (.ireturn, 1) := by decide +kernel
theorem dX8_digest_0 : decode cX8_digest 0 = .ok (.ldc2_w 289, 3) := by decide +kernel
theorem dX8_digest_3 : decode cX8_digest 3 = .ok (.lstore_n 1, 1) := by decide +kernel
theorem dX8_digest_4 : decode cX8_digest 4 = .ok (.iconst 0, 1) := by decide +kernel
theorem dX8_digest_5 : decode cX8_digest 5 = .ok (.istore_n 3, 1) := by decide +kernel
theorem dX8_digest_6 : decode cX8_digest 6 = .ok (.iload_n 3, 1) := by decide +kernel
theorem dX8_digest_7 : decode cX8_digest 7 = .ok (.iconst 5, 1) := by decide +kernel
theorem dX8_digest_8 : decode cX8_digest 8 = .ok (.if_icmp .ge 23, 3) := by decide +kernel
theorem dX8_digest_11 : decode cX8_digest 11 = .ok (.ldc2_w 291, 3) := by decide +kernel
theorem dX8_digest_14 : decode cX8_digest 14 = .ok (.lload_n 1, 1) := by decide +kernel
theorem dX8_digest_15 : decode cX8_digest 15 = .ok (.lmul, 1) := by decide +kernel
theorem dX8_digest_16 : decode cX8_digest 16 = .ok (.aload_n 0, 1) := by decide +kernel
theorem dX8_digest_17 : decode cX8_digest 17 = .ok (.getfield 7, 3) := by decide +kernel
theorem dX8_digest_20 : decode cX8_digest 20 = .ok (.iload_n 3, 1) := by decide +kernel
theorem dX8_digest_21 : decode cX8_digest 21 = .ok (.iaload, 1) := by decide +kernel
theorem dX8_digest_22 : decode cX8_digest 22 = .ok (.i2l, 1) := by decide +kernel
theorem dX8_digest_23 : decode cX8_digest 23 = .ok (.ladd, 1) := by decide +kernel
theorem dX8_digest_24 : decode cX8_digest 24 = .ok (.lstore_n 1, 1) := by decide +kernel
theorem dX8_digest_25 : decode cX8_digest 25 = .ok (.iinc 3 1, 3) := by decide +kernel
theorem dX8_digest_28 : decode cX8_digest 28 = .ok (.goto (-22), 3) := by decide +kernel
theorem dX8_digest_31 : decode cX8_digest 31 = .ok (.ldc2_w 291, 3) := by decide +kernel
theorem dX8_digest_34 : decode cX8_digest 34 = .ok (.lload_n 1, 1) := by decide +kernel
theorem dX8_digest_35 : decode cX8_digest 35 = .ok (.lmul, 1) := by decide +kernel
theorem dX8_digest_36 : decode cX8_digest 36 = .ok (.aload_n 0, 1) := by decide +kernel
theorem dX8_digest_37 : decode cX8_digest 37 = .ok (.getfield 121, 3) := by decide +kernel
theorem dX8_digest_40 : decode cX8_digest 40 = .ok (.i2l, 1) := by decide +kernel
theorem dX8_digest_41 : decode cX8_digest 41 = .ok (.ladd, 1) := by decide +kernel
theorem dX8_digest_42 : decode cX8_digest 42 = .ok (.lstore_n 1, 1) := by decide +kernel
theorem dX8_digest_43 : decode cX8_digest 43 = .ok (.iconst 0, 1) := by decide +kernel
theorem dX8_digest_44 : decode cX8_digest 44 = .ok (.istore_n 3, 1) := by decide +kernel
theorem dX8_digest_45 : decode cX8_digest 45 = .ok (.iload_n 3, 1) := by decide +kernel
theorem dX8_digest_46 : decode cX8_digest 46 = .ok (.iconst 4, 1) := by decide +kernel
theorem dX8_digest_47 : decode cX8_digest 47 = .ok (.aload_n 0, 1) := by decide +kernel
theorem dX8_digest_48 : decode cX8_digest 48 = .ok (.getfield 7, 3) := by decide +kernel
theorem dX8_digest_51 : decode cX8_digest 51 = .ok (.iconst 2, 1) := by decide +kernel
theorem dX8_digest_52 : decode cX8_digest 52 = .ok (.iaload, 1) := by decide +kernel
theorem dX8_digest_53 : decode cX8_digest 53 = .ok (.imul, 1) := by decide +kernel
theorem dX8_digest_54 : decode cX8_digest 54 = .ok (.if_icmp .ge 26, 3) := by decide +kernel
theorem dX8_digest_57 : decode cX8_digest 57 = .ok (.ldc2_w 291, 3) := by decide +kernel
theorem dX8_digest_60 : decode cX8_digest 60 = .ok (.lload_n 1, 1) := by decide +kernel
theorem dX8_digest_61 : decode cX8_digest 61 = .ok (.lmul, 1) := by decide +kernel
theorem dX8_digest_62 : decode cX8_digest 62 = .ok (.aload_n 0, 1) := by decide +kernel
theorem dX8_digest_63 : decode cX8_digest 63 = .ok (.getfield 7, 3) := by decide +kernel
theorem dX8_digest_66 : decode cX8_digest 66 = .ok (.bipush 6, 2) := by decide +kernel
theorem dX8_digest_68 : decode cX8_digest 68 = .ok (.iload_n 3, 1) := by decide +kernel
theorem dX8_digest_69 : decode cX8_digest 69 = .ok (.iadd, 1) := by decide +kernel
theorem dX8_digest_70 : decode cX8_digest 70 = .ok (.iaload, 1) := by decide +kernel
theorem dX8_digest_71 : decode cX8_digest 71 = .ok (.i2l, 1) := by decide +kernel
theorem dX8_digest_72 : decode cX8_digest 72 = .ok (.ladd, 1) := by decide +kernel
theorem dX8_digest_73 : decode cX8_digest 73 = .ok (.lstore_n 1, 1) := by decide +kernel
theorem dX8_digest_74 : decode cX8_digest 74 = .ok (.iinc 3 1, 3) := by decide +kernel
theorem dX8_digest_77 : decode cX8_digest 77 = .ok (.goto (-32), 3) := by decide +kernel
theorem dX8_digest_80 : decode cX8_digest 80 = .ok (.iconst 0, 1) := by decide +kernel
theorem dX8_digest_81 : decode cX8_digest 81 = .ok (.istore_n 3, 1) := by decide +kernel
theorem dX8_digest_82 : decode cX8_digest 82 = .ok (.iload_n 3, 1) := by decide +kernel
theorem dX8_digest_83 : decode cX8_digest 83 = .ok (.bipush 60, 2) := by decide +kernel
theorem dX8_digest_85 : decode cX8_digest 85 = .ok (.if_icmp .ge 72, 3) := by decide +kernel
theorem dX8_digest_88 : decode cX8_digest 88 = .ok (.aload_n 0, 1) := by decide +kernel
theorem dX8_digest_89 : decode cX8_digest 89 = .ok (.iload_n 3, 1) := by decide +kernel
theorem dX8_digest_90 : decode cX8_digest 90 = .ok (.invokevirtual 78, 3) := by decide +kernel
theorem dX8_digest_93 : decode cX8_digest 93 = .ok (.ifCond .eq 58, 3) := by decide +kernel
theorem dX8_digest_96 : decode cX8_digest 96 = .ok (.ldc2_w 291, 3) := by decide +kernel
theorem dX8_digest_99 : decode cX8_digest 99 = .ok (.lload_n 1, 1) := by decide +kernel
theorem dX8_digest_100 : decode cX8_digest 100 = .ok (.lmul, 1) := by decide +kernel
theorem dX8_digest_101 : decode cX8_digest 101 = .ok (.aload_n 0, 1) := by decide +kernel
theorem dX8_digest_102 : decode cX8_digest 102 = .ok (.getfield 7, 3) := by decide +kernel
theorem dX8_digest_105 : decode cX8_digest 105 = .ok (.bipush 36, 2) := by decide +kernel
theorem dX8_digest_107 : decode cX8_digest 107 = .ok (.iload_n 3, 1) := by decide +kernel
theorem dX8_digest_108 : decode cX8_digest 108 = .ok (.iadd, 1) := by decide +kernel
theorem dX8_digest_109 : decode cX8_digest 109 = .ok (.iaload, 1) := by decide +kernel
theorem dX8_digest_110 : decode cX8_digest 110 = .ok (.i2l, 1) := by decide +kernel
theorem dX8_digest_111 : decode cX8_digest 111 = .ok (.ladd, 1) := by decide +kernel
theorem dX8_digest_112 : decode cX8_digest 112 = .ok (.lstore_n 1, 1) := by decide +kernel
theorem dX8_digest_113 : decode cX8_digest 113 = .ok (.iconst 0, 1) := by decide +kernel
theorem dX8_digest_114 : decode cX8_digest 114 = .ok (.istore 4, 2) := by decide +kernel
theorem dX8_digest_116 : decode cX8_digest 116 = .ok (.iload 4, 2) := by decide +kernel
theorem dX8_digest_118 : decode cX8_digest 118 = .ok (.iconst 4, 1) := by decide +kernel
theorem dX8_digest_119 : decode cX8_digest 119 = .ok (.if_icmp .ge 32, 3) := by decide +kernel
theorem dX8_digest_122 : decode cX8_digest 122 = .ok (.ldc2_w 291, 3) := by decide +kernel
theorem dX8_digest_125 : decode cX8_digest 125 = .ok (.lload_n 1, 1) := by decide +kernel
theorem dX8_digest_126 : decode cX8_digest 126 = .ok (.lmul, 1) := by decide +kernel
theorem dX8_digest_127 : decode cX8_digest 127 = .ok (.aload_n 0, 1) := by decide +kernel
theorem dX8_digest_128 : decode cX8_digest 128 = .ok (.getfield 7, 3) := by decide +kernel
theorem dX8_digest_131 : decode cX8_digest 131 = .ok (.bipush 96, 2) := by decide +kernel
theorem dX8_digest_133 : decode cX8_digest 133 = .ok (.bipush 60, 2) := by decide +kernel
theorem dX8_digest_135 : decode cX8_digest 135 = .ok (.iload 4, 2) := by decide +kernel
theorem dX8_digest_137 : decode cX8_digest 137 = .ok (.imul, 1) := by decide +kernel
theorem dX8_digest_138 : decode cX8_digest 138 = .ok (.iadd, 1) := by decide +kernel
theorem dX8_digest_139 : decode cX8_digest 139 = .ok (.iload_n 3, 1) := by decide +kernel
theorem dX8_digest_140 : decode cX8_digest 140 = .ok (.iadd, 1) := by decide +kernel
theorem dX8_digest_141 : decode cX8_digest 141 = .ok (.iaload, 1) := by decide +kernel
theorem dX8_digest_142 : decode cX8_digest 142 = .ok (.i2l, 1) := by decide +kernel
theorem dX8_digest_143 : decode cX8_digest 143 = .ok (.ladd, 1) := by decide +kernel
theorem dX8_digest_144 : decode cX8_digest 144 = .ok (.lstore_n 1, 1) := by decide +kernel
theorem dX8_digest_145 : decode cX8_digest 145 = .ok (.iinc 4 1, 3) := by decide +kernel
theorem dX8_digest_148 : decode cX8_digest 148 = .ok (.goto (-32), 3) := by decide +kernel
theorem dX8_digest_151 : decode cX8_digest 151 = .ok (.iinc 3 1, 3) := by decide +kernel
theorem dX8_digest_154 : decode cX8_digest 154 = .ok (.goto (-72), 3) := by decide +kernel
theorem dX8_digest_157 : decode cX8_digest 157 = .ok (.iconst 0, 1) := by decide +kernel
theorem dX8_digest_158 : decode cX8_digest 158 = .ok (.istore_n 3, 1) := by decide +kernel
theorem dX8_digest_159 : decode cX8_digest 159 = .ok (.iload_n 3, 1) := by decide +kernel
theorem dX8_digest_160 : decode cX8_digest 160 = .ok (.aload_n 0, 1) := by decide +kernel
theorem dX8_digest_161 : decode cX8_digest 161 = .ok (.getfield 7, 3) := by decide +kernel
theorem dX8_digest_164 : decode cX8_digest 164 = .ok (.iconst 3, 1) := by decide +kernel
theorem dX8_digest_165 : decode cX8_digest 165 = .ok (.iaload, 1) := by decide +kernel
theorem dX8_digest_166 : decode cX8_digest 166 = .ok (.if_icmp .ge 26, 3) := by decide +kernel
theorem dX8_digest_169 : decode cX8_digest 169 = .ok (.ldc2_w 291, 3) := by decide +kernel
theorem dX8_digest_172 : decode cX8_digest 172 = .ok (.lload_n 1, 1) := by decide +kernel
theorem dX8_digest_173 : decode cX8_digest 173 = .ok (.lmul, 1) := by decide +kernel
theorem dX8_digest_174 : decode cX8_digest 174 = .ok (.aload_n 0, 1) := by decide +kernel
theorem dX8_digest_175 : decode cX8_digest 175 = .ok (.getfield 7, 3) := by decide +kernel
theorem dX8_digest_178 : decode cX8_digest 178 = .ok (.bipush 30, 2) := by decide +kernel
theorem dX8_digest_180 : decode cX8_digest 180 = .ok (.iload_n 3, 1) := by decide +kernel
theorem dX8_digest_181 : decode cX8_digest 181 = .ok (.iadd, 1) := by decide +kernel
theorem dX8_digest_182 : decode cX8_digest 182 = .ok (.iaload, 1) := by decide +kernel
theorem dX8_digest_183 : decode cX8_digest 183 = .ok (.i2l, 1) := by decide +kernel
theorem dX8_digest_184 : decode cX8_digest 184 = .ok (.ladd, 1) := by decide +kernel
theorem dX8_digest_185 : decode cX8_digest 185 = .ok (.lstore_n 1, 1) := by decide +kernel
theorem dX8_digest_186 : decode cX8_digest 186 = .ok (.iinc 3 1, 3) := by decide +kernel
theorem dX8_digest_189 : decode cX8_digest 189 = .ok (.goto (-30), 3) := by decide +kernel
theorem dX8_digest_192 : decode cX8_digest 192 = .ok (.ldc2_w 291, 3) := by decide +kernel
theorem dX8_digest_195 : decode cX8_digest 195 = .ok (.lload_n 1, 1) := by decide +kernel
theorem dX8_digest_196 : decode cX8_digest 196 = .ok (.lmul, 1) := by decide +kernel
theorem dX8_digest_197 : decode cX8_digest 197 = .ok (.aload_n 0, 1) := by decide +kernel
theorem dX8_digest_198 : decode cX8_digest 198 = .ok (.getfield 7, 3) := by decide +kernel
theorem dX8_digest_201 : decode cX8_digest 201 = .ok (.iconst 5, 1) := by decide +kernel
theorem dX8_digest_202 : decode cX8_digest 202 = .ok (.iaload, 1) := by decide +kernel
theorem dX8_digest_203 : decode cX8_digest 203 = .ok (.i2l, 1) := by decide +kernel
theorem dX8_digest_204 : decode cX8_digest 204 = .ok (.ladd, 1) := by decide +kernel
theorem dX8_digest_205 : decode cX8_digest 205 = .ok (.lstore_n 1, 1) := by decide +kernel
theorem dX8_digest_206 : decode cX8_digest 206 = .ok (.iconst 0, 1) := by decide +kernel
theorem dX8_digest_207 : decode cX8_digest 207 = .ok (.istore_n 3, 1) := by decide +kernel
theorem dX8_digest_208 : decode cX8_digest 208 = .ok (.iload_n 3, 1) := by decide +kernel
theorem dX8_digest_209 : decode cX8_digest 209 = .ok (.iconst 3, 1) := by decide +kernel
theorem dX8_digest_210 : decode cX8_digest 210 = .ok (.aload_n 0, 1) := by decide +kernel
theorem dX8_digest_211 : decode cX8_digest 211 = .ok (.getfield 7, 3) := by decide +kernel
theorem dX8_digest_214 : decode cX8_digest 214 = .ok (.iconst 4, 1) := by decide +kernel
theorem dX8_digest_215 : decode cX8_digest 215 = .ok (.iaload, 1) := by decide +kernel
theorem dX8_digest_216 : decode cX8_digest 216 = .ok (.imul, 1) := by decide +kernel
theorem dX8_digest_217 : decode cX8_digest 217 = .ok (.if_icmp .ge 27, 3) := by decide +kernel
theorem dX8_digest_220 : decode cX8_digest 220 = .ok (.ldc2_w 291, 3) := by decide +kernel
theorem dX8_digest_223 : decode cX8_digest 223 = .ok (.lload_n 1, 1) := by decide +kernel
theorem dX8_digest_224 : decode cX8_digest 224 = .ok (.lmul, 1) := by decide +kernel
theorem dX8_digest_225 : decode cX8_digest 225 = .ok (.aload_n 0, 1) := by decide +kernel
theorem dX8_digest_226 : decode cX8_digest 226 = .ok (.getfield 7, 3) := by decide +kernel
theorem dX8_digest_229 : decode cX8_digest 229 = .ok (.sipush 336, 3) := by decide +kernel
theorem dX8_digest_232 : decode cX8_digest 232 = .ok (.iload_n 3, 1) := by decide +kernel
theorem dX8_digest_233 : decode cX8_digest 233 = .ok (.iadd, 1) := by decide +kernel
theorem dX8_digest_234 : decode cX8_digest 234 = .ok (.iaload, 1) := by decide +kernel
theorem dX8_digest_235 : decode cX8_digest 235 = .ok (.i2l, 1) := by decide +kernel
theorem dX8_digest_236 : decode cX8_digest 236 = .ok (.ladd, 1) := by decide +kernel
theorem dX8_digest_237 : decode cX8_digest 237 = .ok (.lstore_n 1, 1) := by decide +kernel
theorem dX8_digest_238 : decode cX8_digest 238 = .ok (.iinc 3 1, 3) := by decide +kernel
theorem dX8_digest_241 : decode cX8_digest 241 = .ok (.goto (-33), 3) := by decide +kernel
theorem dX8_digest_244 : decode cX8_digest 244 = .ok (.lload_n 1, 1) := by decide +kernel
theorem dX8_digest_245 : decode cX8_digest 245 = .ok (.lreturn, 1) := by decide +kernel
