theorem dJ6_bitCount_0f7a4_0 : decode cJ6_bitCount_0f7a4 0 = .ok (.iload_n 0, 1) := by decide +kernel
theorem dJ6_bitCount_0f7a4_1 : decode cJ6_bitCount_0f7a4 1 = .ok (.iload_n 0, 1) := by decide +kernel
theorem dJ6_bitCount_0f7a4_2 : decode cJ6_bitCount_0f7a4 2 = .ok (.iconst 1, 1) := by decide +kernel
theorem dJ6_bitCount_0f7a4_3 : decode cJ6_bitCount_0f7a4 3 = .ok (.iushr, 1) := by decide +kernel
theorem dJ6_bitCount_0f7a4_4 : decode cJ6_bitCount_0f7a4 4 = .ok (.ldc_w 265, 3) := by decide +kernel
theorem dJ6_bitCount_0f7a4_7 : decode cJ6_bitCount_0f7a4 7 = .ok (.iand, 1) := by decide +kernel
theorem dJ6_bitCount_0f7a4_8 : decode cJ6_bitCount_0f7a4 8 = .ok (.isub, 1) := by decide +kernel
theorem dJ6_bitCount_0f7a4_9 : decode cJ6_bitCount_0f7a4 9 = .ok (.istore_n 0, 1) := by decide +kernel
theorem dJ6_bitCount_0f7a4_10 : decode cJ6_bitCount_0f7a4 10 = .ok (.iload_n 0, 1) := by decide +kernel
theorem dJ6_bitCount_0f7a4_11 : decode cJ6_bitCount_0f7a4 11 = .ok (.ldc_w 266, 3) := by decide +kernel
theorem dJ6_bitCount_0f7a4_14 : decode cJ6_bitCount_0f7a4 14 = .ok (.iand, 1) := by decide +kernel
theorem dJ6_bitCount_0f7a4_15 : decode cJ6_bitCount_0f7a4 15 = .ok (.iload_n 0, 1) := by decide +kernel
theorem dJ6_bitCount_0f7a4_16 : decode cJ6_bitCount_0f7a4 16 = .ok (.iconst 2, 1) := by decide +kernel
theorem dJ6_bitCount_0f7a4_17 : decode cJ6_bitCount_0f7a4 17 = .ok (.iushr, 1) := by decide +kernel
theorem dJ6_bitCount_0f7a4_18 : decode cJ6_bitCount_0f7a4 18 = .ok (.ldc_w 266, 3) := by decide +kernel
theorem dJ6_bitCount_0f7a4_21 : decode cJ6_bitCount_0f7a4 21 = .ok (.iand, 1) := by decide +kernel
theorem dJ6_bitCount_0f7a4_22 : decode cJ6_bitCount_0f7a4 22 = .ok (.iadd, 1) := by decide +kernel
theorem dJ6_bitCount_0f7a4_23 : decode cJ6_bitCount_0f7a4 23 = .ok (.istore_n 0, 1) := by decide +kernel
theorem dJ6_bitCount_0f7a4_24 : decode cJ6_bitCount_0f7a4 24 = .ok (.iload_n 0, 1) := by decide +kernel
theorem dJ6_bitCount_0f7a4_25 : decode cJ6_bitCount_0f7a4 25 = .ok (.iload_n 0, 1) := by decide +kernel
theorem dJ6_bitCount_0f7a4_26 : decode cJ6_bitCount_0f7a4 26 = .ok (.iconst 4, 1) := by decide +kernel
theorem dJ6_bitCount_0f7a4_27 : decode cJ6_bitCount_0f7a4 27 = .ok (.iushr, 1) := by decide +kernel
theorem dJ6_bitCount_0f7a4_28 : decode cJ6_bitCount_0f7a4 28 = .ok (.iadd, 1) := by decide +kernel
theorem dJ6_bitCount_0f7a4_29 : decode cJ6_bitCount_0f7a4 29 = .ok (.ldc_w 267, 3) := by decide +kernel
theorem dJ6_bitCount_0f7a4_32 : decode cJ6_bitCount_0f7a4 32 = .ok (.iand, 1) := by decide +kernel
theorem dJ6_bitCount_0f7a4_33 : decode cJ6_bitCount_0f7a4 33 = .ok (.istore_n 0, 1) := by decide +kernel
theorem dJ6_bitCount_0f7a4_34 : decode cJ6_bitCount_0f7a4 34 = .ok (.iload_n 0, 1) := by decide +kernel
theorem dJ6_bitCount_0f7a4_35 : decode cJ6_bitCount_0f7a4 35 = .ok (.iload_n 0, 1) := by decide +kernel
theorem dJ6_bitCount_0f7a4_36 : decode cJ6_bitCount_0f7a4 36 = .ok (.bipush 8, 2) := by decide +kernel
theorem dJ6_bitCount_0f7a4_38 : decode cJ6_bitCount_0f7a4 38 = .ok (.iushr, 1) := by decide +kernel
theorem dJ6_bitCount_0f7a4_39 : decode cJ6_bitCount_0f7a4 39 = .ok (.iadd, 1) := by decide +kernel
theorem dJ6_bitCount_0f7a4_40 : decode cJ6_bitCount_0f7a4 40 = .ok (.istore_n 0, 1) := by decide +kernel
theorem dJ6_bitCount_0f7a4_41 : decode cJ6_bitCount_0f7a4 41 = .ok (.iload_n 0, 1) := by decide +kernel
theorem dJ6_bitCount_0f7a4_42 : decode cJ6_bitCount_0f7a4 42 = .ok (.iload_n 0, 1) := by decide +kernel
theorem dJ6_bitCount_0f7a4_43 : decode cJ6_bitCount_0f7a4 43 = .ok (.bipush 16, 2) := by decide +kernel
theorem dJ6_bitCount_0f7a4_45 : decode cJ6_bitCount_0f7a4 45 = .ok (.iushr, 1) := by decide +kernel
theorem dJ6_bitCount_0f7a4_46 : decode cJ6_bitCount_0f7a4 46 = .ok (.iadd, 1) := by decide +kernel
theorem dJ6_bitCount_0f7a4_47 : decode cJ6_bitCount_0f7a4 47 = .ok (.istore_n 0, 1) := by decide +kernel
theorem dJ6_bitCount_0f7a4_48 : decode cJ6_bitCount_0f7a4 48 = .ok (.iload_n 0, 1) := by decide +kernel
theorem dJ6_bitCount_0f7a4_49 : decode cJ6_bitCount_0f7a4 49 = .ok (.bipush 63, 2) := by decide +kernel
theorem dJ6_bitCount_0f7a4_51 : decode cJ6_bitCount_0f7a4 51 = .ok (.iand, 1) := by decide +kernel
theorem dJ6_bitCount_0f7a4_52 : decode cJ6_bitCount_0f7a4 52 = .ok (.ireturn, 1) := by decide +kernel
theorem dJ13_bitCount_95d88_0 : decode cJ13_bitCount_95d88 0 = .ok (.lload_n 0, 1) := by decide +kernel
theorem dJ13_bitCount_95d88_1 : decode cJ13_bitCount_95d88 1 = .ok (.lload_n 0, 1) := by decide +kernel
theorem dJ13_bitCount_95d88_2 : decode cJ13_bitCount_95d88 2 = .ok (.iconst 1, 1) := by decide +kernel
theorem dJ13_bitCount_95d88_3 : decode cJ13_bitCount_95d88 3 = .ok (.lushr, 1) := by decide +kernel
theorem dJ13_bitCount_95d88_4 : decode cJ13_bitCount_95d88 4 = .ok (.ldc2_w 314, 3) := by decide +kernel
theorem dJ13_bitCount_95d88_7 : decode cJ13_bitCount_95d88 7 = .ok (.land, 1) := by decide +kernel
theorem dJ13_bitCount_95d88_8 : decode cJ13_bitCount_95d88 8 = .ok (.lsub, 1) := by decide +kernel
theorem dJ13_bitCount_95d88_9 : decode cJ13_bitCount_95d88 9 = .ok (.lstore_n 0, 1) := by decide +kernel
theorem dJ13_bitCount_95d88_10 : decode cJ13_bitCount_95d88 10 = .ok (.lload_n 0, 1) := by decide +kernel
theorem dJ13_bitCount_95d88_11 : decode cJ13_bitCount_95d88 11 = .ok (.ldc2_w 316, 3) := by decide +kernel
theorem dJ13_bitCount_95d88_14 : decode cJ13_bitCount_95d88 14 = .ok (.land, 1) := by decide +kernel
theorem dJ13_bitCount_95d88_15 : decode cJ13_bitCount_95d88 15 = .ok (.lload_n 0, 1) := by decide +kernel
theorem dJ13_bitCount_95d88_16 : decode cJ13_bitCount_95d88 16 = .ok (.iconst 2, 1) := by decide +kernel
theorem dJ13_bitCount_95d88_17 : decode cJ13_bitCount_95d88 17 = .ok (.lushr, 1) := by decide +kernel
theorem dJ13_bitCount_95d88_18 : decode cJ13_bitCount_95d88 18 = .ok (.ldc2_w 316, 3) := by decide +kernel
theorem dJ13_bitCount_95d88_21 : decode cJ13_bitCount_95d88 21 = .ok (.land, 1) := by decide +kernel
theorem dJ13_bitCount_95d88_22 : decode cJ13_bitCount_95d88 22 = .ok (.ladd, 1) := by decide +kernel
theorem dJ13_bitCount_95d88_23 : decode cJ13_bitCount_95d88 23 = .ok (.lstore_n 0, 1) := by decide +kernel
theorem dJ13_bitCount_95d88_24 : decode cJ13_bitCount_95d88 24 = .ok (.lload_n 0, 1) := by decide +kernel
theorem dJ13_bitCount_95d88_25 : decode cJ13_bitCount_95d88 25 = .ok (.lload_n 0, 1) := by decide +kernel
theorem dJ13_bitCount_95d88_26 : decode cJ13_bitCount_95d88 26 = .ok (.iconst 4, 1) := by decide +kernel
theorem dJ13_bitCount_95d88_27 : decode cJ13_bitCount_95d88 27 = .ok (.lushr, 1) := by decide +kernel
theorem dJ13_bitCount_95d88_28 : decode cJ13_bitCount_95d88 28 = .ok (.ladd, 1) := by decide +kernel
theorem dJ13_bitCount_95d88_29 : decode cJ13_bitCount_95d88 29 = .ok (.ldc2_w 318, 3) := by decide +kernel
theorem dJ13_bitCount_95d88_32 : decode cJ13_bitCount_95d88 32 = .ok (.land, 1) := by decide +kernel
theorem dJ13_bitCount_95d88_33 : decode cJ13_bitCount_95d88 33 = .ok (.lstore_n 0, 1) := by decide +kernel
theorem dJ13_bitCount_95d88_34 : decode cJ13_bitCount_95d88 34 = .ok (.lload_n 0, 1) := by decide +kernel
theorem dJ13_bitCount_95d88_35 : decode cJ13_bitCount_95d88 35 = .ok (.lload_n 0, 1) := by decide +kernel
theorem dJ13_bitCount_95d88_36 : decode cJ13_bitCount_95d88 36 = .ok (.bipush 8, 2) := by decide +kernel
theorem dJ13_bitCount_95d88_38 : decode cJ13_bitCount_95d88 38 = .ok (.lushr, 1) := by decide +kernel
theorem dJ13_bitCount_95d88_39 : decode cJ13_bitCount_95d88 39 = .ok (.ladd, 1) := by decide +kernel
theorem dJ13_bitCount_95d88_40 : decode cJ13_bitCount_95d88 40 = .ok (.lstore_n 0, 1) := by decide +kernel
theorem dJ13_bitCount_95d88_41 : decode cJ13_bitCount_95d88 41 = .ok (.lload_n 0, 1) := by decide +kernel
theorem dJ13_bitCount_95d88_42 : decode cJ13_bitCount_95d88 42 = .ok (.lload_n 0, 1) := by decide +kernel
theorem dJ13_bitCount_95d88_43 : decode cJ13_bitCount_95d88 43 = .ok (.bipush 16, 2) := by decide +kernel
theorem dJ13_bitCount_95d88_45 : decode cJ13_bitCount_95d88 45 = .ok (.lushr, 1) := by decide +kernel
theorem dJ13_bitCount_95d88_46 : decode cJ13_bitCount_95d88 46 = .ok (.ladd, 1) := by decide +kernel
theorem dJ13_bitCount_95d88_47 : decode cJ13_bitCount_95d88 47 = .ok (.lstore_n 0, 1) := by decide +kernel
theorem dJ13_bitCount_95d88_48 : decode cJ13_bitCount_95d88 48 = .ok (.lload_n 0, 1) := by decide +kernel
theorem dJ13_bitCount_95d88_49 : decode cJ13_bitCount_95d88 49 = .ok (.lload_n 0, 1) := by decide +kernel
theorem dJ13_bitCount_95d88_50 : decode cJ13_bitCount_95d88 50 = .ok (.bipush 32, 2) := by decide +kernel
theorem dJ13_bitCount_95d88_52 : decode cJ13_bitCount_95d88 52 = .ok (.lushr, 1) := by decide +kernel
theorem dJ13_bitCount_95d88_53 : decode cJ13_bitCount_95d88 53 = .ok (.ladd, 1) := by decide +kernel
theorem dJ13_bitCount_95d88_54 : decode cJ13_bitCount_95d88 54 = .ok (.lstore_n 0, 1) := by decide +kernel
theorem dJ13_bitCount_95d88_55 : decode cJ13_bitCount_95d88 55 = .ok (.lload_n 0, 1) := by decide +kernel
theorem dJ13_bitCount_95d88_56 : decode cJ13_bitCount_95d88 56 = .ok (.l2i, 1) := by decide +kernel
theorem dJ13_bitCount_95d88_57 : decode cJ13_bitCount_95d88 57 = .ok (.bipush 127, 2) := by decide +kernel
theorem dJ13_bitCount_95d88_59 : decode cJ13_bitCount_95d88 59 = .ok (.iand, 1) := by decide +kernel
theorem dJ13_bitCount_95d88_60 : decode cJ13_bitCount_95d88 60 = .ok (.ireturn, 1) := by decide +kernel
theorem dX0_init_0 : decode cX0_init 0 = .ok (.aload_n 0, 1) := by decide +kernel
theorem dX0_init_1 : decode cX0_init 1 = .ok (.invokespecial 3, 3) := by decide +kernel
theorem dX0_init_4 : decode cX0_init 4 = .ok (.aload_n 0, 1) := by decide +kernel
theorem dX0_init_5 : decode cX0_init 5 = .ok (.iconst 0, 1) := by decide +kernel
theorem dX0_init_6 : decode cX0_init 6 = .ok (.putfield 9, 3) := by decide +kernel
theorem dX0_init_9 : decode cX0_init 9 = .ok (.aload_n 0, 1) := by decide +kernel
theorem dX0_init_10 : decode cX0_init 10 = .ok (.iconst 0, 1) := by decide +kernel
theorem dX0_init_11 : decode cX0_init 11 = .ok (.putfield 15, 3) := by decide +kernel
theorem dX0_init_14 : decode cX0_init 14 = .ok (.aload_n 0, 1) := by decide +kernel
theorem dX0_init_15 : decode cX0_init 15 = .ok (.iconst (-1), 1) := by decide +kernel
theorem dX0_init_16 : decode cX0_init 16 = .ok (.putfield 18, 3) := by decide +kernel
theorem dX0_init_19 : decode cX0_init 19 = .ok (.aload_n 0, 1) := by decide +kernel
theorem dX0_init_20 : decode cX0_init 20 = .ok (.iconst (-1), 1) := by decide +kernel
theorem dX0_init_21 : decode cX0_init 21 = .ok (.putfield 21, 3) := by decide +kernel
theorem dX0_init_24 : decode cX0_init 24 = .ok (.aload_n 0, 1) := by decide +kernel
theorem dX0_init_25 : decode cX0_init 25 = .ok (.bipush 60, 2) := by decide +kernel
theorem dX0_init_27 : decode cX0_init 27 = .ok (.newarray .int, 2) := by decide +kernel
theorem dX0_init_29 : decode cX0_init 29 = .ok (.putfield 24, 3) := by decide +kernel
theorem dX0_init_32 : decode cX0_init 32 = .ok (.aload_n 0, 1) := by decide +kernel
theorem dX0_init_33 : decode cX0_init 33 = .ok (.bipush 6, 2) := by decide +kernel
theorem dX0_init_35 : decode cX0_init 35 = .ok (.newarray .long, 2) := by decide +kernel
theorem dX0_init_37 : decode cX0_init 37 = .ok (.putfield 28, 3) := by decide +kernel
theorem dX0_init_40 : decode cX0_init 40 = .ok (.aload_n 0, 1) := by decide +kernel
theorem dX0_init_41 : decode cX0_init 41 = .ok (.bipush 6, 2) := by decide +kernel
theorem dX0_init_43 : decode cX0_init 43 = .ok (.newarray .boolean, 2) := by decide +kernel
theorem dX0_init_45 : decode cX0_init 45 = .ok (.putfield 32, 3) := by decide +kernel
theorem dX0_init_48 : decode cX0_init 48 = .ok (.return_, 1) := by decide +kernel
theorem dX0_find_0 : decode cX0_find 0 = .ok (.aload_n 0, 1) := by decide +kernel
theorem dX0_find_1 : decode cX0_find 1 = .ok (.aload_n 1, 1) := by decide +kernel
theorem dX0_find_2 : decode cX0_find 2 = .ok (.invokevirtual 36, 3) := by decide +kernel
theorem dX0_find_5 : decode cX0_find 5 = .ok (.istore_n 2, 1) := by decide +kernel
theorem dX0_find_6 : decode cX0_find 6 = .ok (.aload_n 0, 1) := by decide +kernel
theorem dX0_find_7 : decode cX0_find 7 = .ok (.aload_n 1, 1) := by decide +kernel
theorem dX0_find_8 : decode cX0_find 8 = .ok (.invokevirtual 40, 3) := by decide +kernel
theorem dX0_find_11 : decode cX0_find 11 = .ok (.aload_n 0, 1) := by decide +kernel
theorem dX0_find_12 : decode cX0_find 12 = .ok (.iconst 0, 1) := by decide +kernel
theorem dX0_find_13 : decode cX0_find 13 = .ok (.putfield 9, 3) := by decide +kernel
theorem dX0_find_16 : decode cX0_find 16 = .ok (.aload_n 0, 1) := by decide +kernel
theorem dX0_find_17 : decode cX0_find 17 = .ok (.aload_n 1, 1) := by decide +kernel
theorem dX0_find_18 : decode cX0_find 18 = .ok (.iconst 0, 1) := by decide +kernel
theorem dX0_find_19 : decode cX0_find 19 = .ok (.iconst (-1), 1) := by decide +kernel
theorem dX0_find_20 : decode cX0_find 20 = .ok (.iconst (-1), 1) := by decide +kernel
theorem dX0_find_21 : decode cX0_find 21 = .ok (.invokevirtual 44, 3) := by decide +kernel
theorem dX0_find_24 : decode cX0_find 24 = .ok (.iconst 0, 1) := by decide +kernel
theorem dX0_find_25 : decode cX0_find 25 = .ok (.istore_n 3, 1) := by decide +kernel
theorem dX0_find_26 : decode cX0_find 26 = .ok (.iload_n 3, 1) := by decide +kernel
theorem dX0_find_27 : decode cX0_find 27 = .ok (.iload_n 2, 1) := by decide +kernel
theorem dX0_find_28 : decode cX0_find 28 = .ok (.if_icmp .ge 27, 3) := by decide +kernel
theorem dX0_find_31 : decode cX0_find 31 = .ok (.aload_n 0, 1) := by decide +kernel
theorem dX0_find_32 : decode cX0_find 32 = .ok (.aload_n 1, 1) := by decide +kernel
theorem dX0_find_33 : decode cX0_find 33 = .ok (.iconst 1, 1) := by decide +kernel
theorem dX0_find_34 : decode cX0_find 34 = .ok (.aload_n 0, 1) := by decide +kernel
theorem dX0_find_35 : decode cX0_find 35 = .ok (.getfield 24, 3) := by decide +kernel
theorem dX0_find_38 : decode cX0_find 38 = .ok (.iload_n 3, 1) := by decide +kernel
theorem dX0_find_39 : decode cX0_find 39 = .ok (.iaload, 1) := by decide +kernel
theorem dX0_find_40 : decode cX0_find 40 = .ok (.aload_n 0, 1) := by decide +kernel
theorem dX0_find_41 : decode cX0_find 41 = .ok (.getfield 24, 3) := by decide +kernel
theorem dX0_find_44 : decode cX0_find 44 = .ok (.iload_n 3, 1) := by decide +kernel
theorem dX0_find_45 : decode cX0_find 45 = .ok (.iaload, 1) := by decide +kernel
theorem dX0_find_46 : decode cX0_find 46 = .ok (.invokevirtual 44, 3) := by decide +kernel
theorem dX0_find_49 : decode cX0_find 49 = .ok (.iinc 3 1, 3) := by decide +kernel
theorem dX0_find_52 : decode cX0_find 52 = .ok (.goto (-26), 3) := by decide +kernel
theorem dX0_find_55 : decode cX0_find 55 = .ok (.iconst 0, 1) := by decide +kernel
theorem dX0_find_56 : decode cX0_find 56 = .ok (.istore_n 3, 1) := by decide +kernel
theorem dX0_find_57 : decode cX0_find 57 = .ok (.iload_n 3, 1) := by decide +kernel
theorem dX0_find_58 : decode cX0_find 58 = .ok (.iload_n 2, 1) := by decide +kernel
theorem dX0_find_59 : decode cX0_find 59 = .ok (.if_icmp .ge 45, 3) := by decide +kernel
theorem dX0_find_62 : decode cX0_find 62 = .ok (.iload_n 3, 1) := by decide +kernel
theorem dX0_find_63 : decode cX0_find 63 = .ok (.iconst 1, 1) := by decide +kernel
theorem dX0_find_64 : decode cX0_find 64 = .ok (.iadd, 1) := by decide +kernel
theorem dX0_find_65 : decode cX0_find 65 = .ok (.istore 4, 2) := by decide +kernel
theorem dX0_find_67 : decode cX0_find 67 = .ok (.iload 4, 2) := by decide +kernel
theorem dX0_find_69 : decode cX0_find 69 = .ok (.iload_n 2, 1) := by decide +kernel
theorem dX0_find_70 : decode cX0_find 70 = .ok (.if_icmp .ge 28, 3) := by decide +kernel
theorem dX0_find_73 : decode cX0_find 73 = .ok (.aload_n 0, 1) := by decide +kernel
theorem dX0_find_74 : decode cX0_find 74 = .ok (.aload_n 1, 1) := by decide +kernel
theorem dX0_find_75 : decode cX0_find 75 = .ok (.iconst 2, 1) := by decide +kernel
theorem dX0_find_76 : decode cX0_find 76 = .ok (.aload_n 0, 1) := by decide +kernel
theorem dX0_find_77 : decode cX0_find 77 = .ok (.getfield 24, 3) := by decide +kernel
theorem dX0_find_80 : decode cX0_find 80 = .ok (.iload_n 3, 1) := by decide +kernel
theorem dX0_find_81 : decode cX0_find 81 = .ok (.iaload, 1) := by decide +kernel
theorem dX0_find_82 : decode cX0_find 82 = .ok (.aload_n 0, 1) := by decide +kernel
theorem dX0_find_83 : decode cX0_find 83 = .ok (.getfield 24, 3) := by decide +kernel
theorem dX0_find_86 : decode cX0_find 86 = .ok (.iload 4, 2) := by decide +kernel
theorem dX0_find_88 : decode cX0_find 88 = .ok (.iaload, 1) := by decide +kernel
theorem dX0_find_89 : decode cX0_find 89 = .ok (.invokevirtual 44, 3) := by decide +kernel
theorem dX0_find_92 : decode cX0_find 92 = .ok (.iinc 4 1, 3) := by decide +kernel
theorem dX0_find_95 : decode cX0_find 95 = .ok (.goto (-28), 3) := by decide +kernel
theorem dX0_find_98 : decode cX0_find 98 = .ok (.iinc 3 1, 3) := by decide +kernel
theorem dX0_find_101 : decode cX0_find 101 = .ok (.goto (-44), 3) := by decide +kernel
theorem dX0_find_104 : decode cX0_find 104 = .ok (.return_, 1) := by decide +kernel
theorem dX0_tellWindows_0 : decode cX0_tellWindows 0 = .ok (.iconst 0, 1) := by decide +kernel
theorem dX0_tellWindows_1 : decode cX0_tellWindows 1 = .ok (.istore_n 2, 1) := by decide +kernel
theorem dX0_tellWindows_2 : decode cX0_tellWindows 2 = .ok (.iconst 0, 1) := by decide +kernel
theorem dX0_tellWindows_3 : decode cX0_tellWindows 3 = .ok (.istore_n 3, 1) := by decide +kernel
theorem dX0_tellWindows_4 : decode cX0_tellWindows 4 = .ok (.iload_n 3, 1) := by decide +kernel
theorem dX0_tellWindows_5 : decode cX0_tellWindows 5 = .ok (.bipush 60, 2) := by decide +kernel
theorem dX0_tellWindows_7 : decode cX0_tellWindows 7 = .ok (.if_icmp .ge 27, 3) := by decide +kernel
theorem dX0_tellWindows_10 : decode cX0_tellWindows 10 = .ok (.aload_n 1, 1) := by decide +kernel
theorem dX0_tellWindows_11 : decode cX0_tellWindows 11 = .ok (.iload_n 3, 1) := by decide +kernel
theorem dX0_tellWindows_12 : decode cX0_tellWindows 12 = .ok (.invokevirtual 48, 3) := by decide +kernel
theorem dX0_tellWindows_15 : decode cX0_tellWindows 15 = .ok (.ifCond .eq 13, 3) := by decide +kernel
theorem dX0_tellWindows_18 : decode cX0_tellWindows 18 = .ok (.aload_n 0, 1) := by decide +kernel
theorem dX0_tellWindows_19 : decode cX0_tellWindows 19 = .ok (.getfield 24, 3) := by decide +kernel
theorem dX0_tellWindows_22 : decode cX0_tellWindows 22 = .ok (.iload_n 2, 1) := by decide +kernel
theorem dX0_tellWindows_23 : decode cX0_tellWindows 23 = .ok (.iload_n 3, 1) := by decide +kernel
theorem dX0_tellWindows_24 : decode cX0_tellWindows 24 = .ok (.iastore, 1) := by decide +kernel
theorem dX0_tellWindows_25 : decode cX0_tellWindows 25 = .ok (.iinc 2 1, 3) := by decide +kernel
theorem dX0_tellWindows_28 : decode cX0_tellWindows 28 = .ok (.iinc 3 1, 3) := by decide +kernel
theorem dX0_tellWindows_31 : decode cX0_tellWindows 31 = .ok (.goto (-27), 3) := by decide +kernel
theorem dX0_tellWindows_34 : decode cX0_tellWindows 34 = .ok (.iload_n 2, 1) := by decide +kernel
theorem dX0_tellWindows_35 : decode cX0_tellWindows 35 = .ok (.ireturn, 1) := by decide +kernel
theorem dX0_tellReadings_0 : decode cX0_tellReadings 0 = .ok (.iconst 0, 1) := by decide +kernel
theorem dX0_tellReadings_1 : decode cX0_tellReadings 1 = .ok (.istore_n 2, 1) := by decide +kernel
theorem dX0_tellReadings_2 : decode cX0_tellReadings 2 = .ok (.iload_n 2, 1) := by decide +kernel
theorem dX0_tellReadings_3 : decode cX0_tellReadings 3 = .ok (.aload_n 1, 1) := by decide +kernel
theorem dX0_tellReadings_4 : decode cX0_tellReadings 4 = .ok (.getfield 54, 3) := by decide +kernel
theorem dX0_tellReadings_7 : decode cX0_tellReadings 7 = .ok (.if_icmp .ge 62, 3) := by decide +kernel
theorem dX0_tellReadings_10 : decode cX0_tellReadings 10 = .ok (.aload_n 1, 1) := by decide +kernel
theorem dX0_tellReadings_11 : decode cX0_tellReadings 11 = .ok (.getfield 57, 3) := by decide +kernel
theorem dX0_tellReadings_14 : decode cX0_tellReadings 14 = .ok (.aload_n 1, 1) := by decide +kernel
theorem dX0_tellReadings_15 : decode cX0_tellReadings 15 = .ok (.getfield 60, 3) := by decide +kernel
theorem dX0_tellReadings_18 : decode cX0_tellReadings 18 = .ok (.iload_n 2, 1) := by decide +kernel
theorem dX0_tellReadings_19 : decode cX0_tellReadings 19 = .ok (.iaload, 1) := by decide +kernel
theorem dX0_tellReadings_20 : decode cX0_tellReadings 20 = .ok (.iaload, 1) := by decide +kernel
theorem dX0_tellReadings_21 : decode cX0_tellReadings 21 = .ok (.istore_n 3, 1) := by decide +kernel
theorem dX0_tellReadings_22 : decode cX0_tellReadings 22 = .ok (.aload_n 0, 1) := by decide +kernel
theorem dX0_tellReadings_23 : decode cX0_tellReadings 23 = .ok (.getfield 28, 3) := by decide +kernel
theorem dX0_tellReadings_26 : decode cX0_tellReadings 26 = .ok (.iload_n 2, 1) := by decide +kernel
theorem dX0_tellReadings_27 : decode cX0_tellReadings 27 = .ok (.iload_n 3, 1) := by decide +kernel
theorem dX0_tellReadings_28 : decode cX0_tellReadings 28 = .ok (.aload_n 1, 1) := by decide +kernel
theorem dX0_tellReadings_29 : decode cX0_tellReadings 29 = .ok (.getfield 63, 3) := by decide +kernel
theorem dX0_tellReadings_32 : decode cX0_tellReadings 32 = .ok (.iload_n 2, 1) := by decide +kernel
theorem dX0_tellReadings_33 : decode cX0_tellReadings 33 = .ok (.iaload, 1) := by decide +kernel
theorem dX0_tellReadings_34 : decode cX0_tellReadings 34 = .ok (.invokestatic 66, 3) := by decide +kernel
theorem dX0_tellReadings_37 : decode cX0_tellReadings 37 = .ok (.lastore, 1) := by decide +kernel
theorem dX0_tellReadings_38 : decode cX0_tellReadings 38 = .ok (.aload_n 0, 1) := by decide +kernel
theorem dX0_tellReadings_39 : decode cX0_tellReadings 39 = .ok (.getfield 32, 3) := by decide +kernel
theorem dX0_tellReadings_42 : decode cX0_tellReadings 42 = .ok (.iload_n 2, 1) := by decide +kernel
theorem dX0_tellReadings_43 : decode cX0_tellReadings 43 = .ok (.aload_n 1, 1) := by decide +kernel
theorem dX0_tellReadings_44 : decode cX0_tellReadings 44 = .ok (.iload_n 3, 1) := by decide +kernel
theorem dX0_tellReadings_45 : decode cX0_tellReadings 45 = .ok (.invokevirtual 70, 3) := by decide +kernel
theorem dX0_tellReadings_48 : decode cX0_tellReadings 48 = .ok (.aload_n 1, 1) := by decide +kernel
theorem dX0_tellReadings_49 : decode cX0_tellReadings 49 = .ok (.getfield 74, 3) := by decide +kernel
theorem dX0_tellReadings_52 : decode cX0_tellReadings 52 = .ok (.iload_n 2, 1) := by decide +kernel
theorem dX0_tellReadings_53 : decode cX0_tellReadings 53 = .ok (.iaload, 1) := by decide +kernel
theorem dX0_tellReadings_54 : decode cX0_tellReadings 54 = .ok (.if_icmp .ne 7, 3) := by decide +kernel
theorem dX0_tellReadings_57 : decode cX0_tellReadings 57 = .ok (.iconst 1, 1) := by decide +kernel
theorem dX0_tellReadings_58 : decode cX0_tellReadings 58 = .ok (.goto 4, 3) := by decide +kernel
theorem dX0_tellReadings_61 : decode cX0_tellReadings 61 = .ok (.iconst 0, 1) := by decide +kernel
theorem dX0_tellReadings_62 : decode cX0_tellReadings 62 = .ok (.bastore, 1) := by decide +kernel
theorem dX0_tellReadings_63 : decode cX0_tellReadings 63 = .ok (.iinc 2 1, 3) := by decide +kernel
theorem dX0_tellReadings_66 : decode cX0_tellReadings 66 = .ok (.goto (-64), 3) := by decide +kernel
theorem dX0_tellReadings_69 : decode cX0_tellReadings 69 = .ok (.return_, 1) := by decide +kernel
theorem dX0_look_0 : decode cX0_look 0 = .ok (.iload_n 3, 1) := by decide +kernel
theorem dX0_look_1 : decode cX0_look 1 = .ok (.iconst (-1), 1) := by decide +kernel
theorem dX0_look_2 : decode cX0_look 2 = .ok (.if_icmp .ne 7, 3) := by decide +kernel
theorem dX0_look_5 : decode cX0_look 5 = .ok (.lconst 0, 1) := by decide +kernel
theorem dX0_look_6 : decode cX0_look 6 = .ok (.goto 6, 3) := by decide +kernel
theorem dX0_look_9 : decode cX0_look 9 = .ok (.lconst 1, 1) := by decide +kernel
theorem dX0_look_10 : decode cX0_look 10 = .ok (.iload_n 3, 1) := by decide +kernel
theorem dX0_look_11 : decode cX0_look 11 = .ok (.lshl, 1) := by decide +kernel
theorem dX0_look_12 : decode cX0_look 12 = .ok (.iload 4, 2) := by decide +kernel
theorem dX0_look_14 : decode cX0_look 14 = .ok (.iconst (-1), 1) := by decide +kernel
theorem dX0_look_15 : decode cX0_look 15 = .ok (.if_icmp .ne 7, 3) := by decide +kernel
theorem dX0_look_18 : decode cX0_look 18 = .ok (.lconst 0, 1) := by decide +kernel
theorem dX0_look_19 : decode cX0_look 19 = .ok (.goto 7, 3) := by decide +kernel
theorem dX0_look_22 : decode cX0_look 22 = .ok (.lconst 1, 1) := by decide +kernel
theorem dX0_look_23 : decode cX0_look 23 = .ok (.iload 4, 2) := by decide +kernel
theorem dX0_look_25 : decode cX0_look 25 = .ok (.lshl, 1) := by decide +kernel
theorem dX0_look_26 : decode cX0_look 26 = .ok (.lor, 1) := by decide +kernel
theorem dX0_look_27 : decode cX0_look 27 = .ok (.lstore 5, 2) := by decide +kernel
theorem dX0_look_29 : decode cX0_look 29 = .ok (.aload_n 0, 1) := by decide +kernel
theorem dX0_look_30 : decode cX0_look 30 = .ok (.aload_n 1, 1) := by decide +kernel
theorem dX0_look_31 : decode cX0_look 31 = .ok (.lload 5, 2) := by decide +kernel
theorem dX0_look_33 : decode cX0_look 33 = .ok (.invokevirtual 77, 3) := by decide +kernel
theorem dX0_look_36 : decode cX0_look 36 = .ok (.ifCond .ne 4, 3) := by decide +kernel
theorem dX0_look_39 : decode cX0_look 39 = .ok (.return_, 1) := by decide +kernel
theorem dX0_look_40 : decode cX0_look 40 = .ok (.aload_n 0, 1) := by decide +kernel
theorem dX0_look_41 : decode cX0_look 41 = .ok (.getfield 9, 3) := by decide +kernel
theorem dX0_look_44 : decode cX0_look 44 = .ok (.ifCond .ne 19, 3) := by decide +kernel
theorem dX0_look_47 : decode cX0_look 47 = .ok (.aload_n 0, 1) := by decide +kernel
theorem dX0_look_48 : decode cX0_look 48 = .ok (.iload_n 2, 1) := by decide +kernel
theorem dX0_look_49 : decode cX0_look 49 = .ok (.putfield 15, 3) := by decide +kernel
theorem dX0_look_52 : decode cX0_look 52 = .ok (.aload_n 0, 1) := by decide +kernel
theorem dX0_look_53 : decode cX0_look 53 = .ok (.iload_n 3, 1) := by decide +kernel
theorem dX0_look_54 : decode cX0_look 54 = .ok (.putfield 18, 3) := by decide +kernel
theorem dX0_look_57 : decode cX0_look 57 = .ok (.aload_n 0, 1) := by decide +kernel
theorem dX0_look_58 : decode cX0_look 58 = .ok (.iload 4, 2) := by decide +kernel
theorem dX0_look_60 : decode cX0_look 60 = .ok (.putfield 21, 3) := by decide +kernel
theorem dX0_look_63 : decode cX0_look 63 = .ok (.aload_n 0, 1) := by decide +kernel
theorem dX0_look_64 : decode cX0_look 64 = .ok (.dup, 1) := by decide +kernel
theorem dX0_look_65 : decode cX0_look 65 = .ok (.getfield 9, 3) := by decide +kernel
theorem dX0_look_68 : decode cX0_look 68 = .ok (.iconst 1, 1) := by decide +kernel
theorem dX0_look_69 : decode cX0_look 69 = .ok (.iadd, 1) := by decide +kernel
theorem dX0_look_70 : decode cX0_look 70 = .ok (.putfield 9, 3) := by decide +kernel
theorem dX0_look_73 : decode cX0_look 73 = .ok (.return_, 1) := by decide +kernel
theorem dX0_tellsAll_0 : decode cX0_tellsAll 0 = .ok (.iconst 0, 1) := by decide +kernel
theorem dX0_tellsAll_1 : decode cX0_tellsAll 1 = .ok (.istore 4, 2) := by decide +kernel
theorem dX0_tellsAll_3 : decode cX0_tellsAll 3 = .ok (.iload 4, 2) := by decide +kernel
theorem dX0_tellsAll_5 : decode cX0_tellsAll 5 = .ok (.aload_n 1, 1) := by decide +kernel
theorem dX0_tellsAll_6 : decode cX0_tellsAll 6 = .ok (.getfield 54, 3) := by decide +kernel
theorem dX0_tellsAll_9 : decode cX0_tellsAll 9 = .ok (.if_icmp .ge 22, 3) := by decide +kernel
theorem dX0_tellsAll_12 : decode cX0_tellsAll 12 = .ok (.aload_n 0, 1) := by decide +kernel
theorem dX0_tellsAll_13 : decode cX0_tellsAll 13 = .ok (.aload_n 1, 1) := by decide +kernel
theorem dX0_tellsAll_14 : decode cX0_tellsAll 14 = .ok (.iload 4, 2) := by decide +kernel
theorem dX0_tellsAll_16 : decode cX0_tellsAll 16 = .ok (.lload_n 2, 1) := by decide +kernel
theorem dX0_tellsAll_17 : decode cX0_tellsAll 17 = .ok (.invokevirtual 81, 3) := by decide +kernel
theorem dX0_tellsAll_20 : decode cX0_tellsAll 20 = .ok (.ifCond .ne 5, 3) := by decide +kernel
theorem dX0_tellsAll_23 : decode cX0_tellsAll 23 = .ok (.iconst 0, 1) := by decide +kernel
theorem dX0_tellsAll_24 : decode cX0_tellsAll 24 = .ok (.ireturn, 1) := by decide +kernel
theorem dX0_tellsAll_25 : decode cX0_tellsAll 25 = .ok (.iinc 4 1, 3) := by decide +kernel
theorem dX0_tellsAll_28 : decode cX0_tellsAll 28 = .ok (.goto (-25), 3) := by decide +kernel
theorem dX0_tellsAll_31 : decode cX0_tellsAll 31 = .ok (.iconst 1, 1) := by decide +kernel
theorem dX0_tellsAll_32 : decode cX0_tellsAll 32 = .ok (.ireturn, 1) := by decide +kernel
theorem dX0_tells_0 : decode cX0_tells 0 = .ok (.aload_n 0, 1) := by decide +kernel
theorem dX0_tells_1 : decode cX0_tells 1 = .ok (.getfield 28, 3) := by decide +kernel
theorem dX0_tells_4 : decode cX0_tells 4 = .ok (.iload_n 2, 1) := by decide +kernel
theorem dX0_tells_5 : decode cX0_tells 5 = .ok (.laload, 1) := by decide +kernel
theorem dX0_tells_6 : decode cX0_tells 6 = .ok (.lload_n 3, 1) := by decide +kernel
theorem dX0_tells_7 : decode cX0_tells 7 = .ok (.land, 1) := by decide +kernel
theorem dX0_tells_8 : decode cX0_tells 8 = .ok (.lconst 0, 1) := by decide +kernel
theorem dX0_tells_9 : decode cX0_tells 9 = .ok (.lcmp, 1) := by decide +kernel
theorem dX0_tells_10 : decode cX0_tells 10 = .ok (.ifCond .ne 10, 3) := by decide +kernel
theorem dX0_tells_13 : decode cX0_tells 13 = .ok (.aload_n 0, 1) := by decide +kernel
theorem dX0_tells_14 : decode cX0_tells 14 = .ok (.getfield 32, 3) := by decide +kernel
theorem dX0_tells_17 : decode cX0_tells 17 = .ok (.iload_n 2, 1) := by decide +kernel
theorem dX0_tells_18 : decode cX0_tells 18 = .ok (.baload, 1) := by decide +kernel
theorem dX0_tells_19 : decode cX0_tells 19 = .ok (.ireturn, 1) := by decide +kernel
theorem dX0_tells_20 : decode cX0_tells 20 = .ok (.aload_n 1, 1) := by decide +kernel
theorem dX0_tells_21 : decode cX0_tells 21 = .ok (.aload_n 0, 1) := by decide +kernel
theorem dX0_tells_22 : decode cX0_tells 22 = .ok (.getfield 28, 3) := by decide +kernel
theorem dX0_tells_25 : decode cX0_tells 25 = .ok (.iload_n 2, 1) := by decide +kernel
theorem dX0_tells_26 : decode cX0_tells 26 = .ok (.laload, 1) := by decide +kernel
theorem dX0_tells_27 : decode cX0_tells 27 = .ok (.lload_n 3, 1) := by decide +kernel
theorem dX0_tells_28 : decode cX0_tells 28 = .ok (.ldc2_w 85, 3) := by decide +kernel
theorem dX0_tells_31 : decode cX0_tells 31 = .ok (.lxor, 1) := by decide +kernel
theorem dX0_tells_32 : decode cX0_tells 32 = .ok (.land, 1) := by decide +kernel
theorem dX0_tells_33 : decode cX0_tells 33 = .ok (.aload_n 1, 1) := by decide +kernel
theorem dX0_tells_34 : decode cX0_tells 34 = .ok (.getfield 63, 3) := by decide +kernel
theorem dX0_tells_37 : decode cX0_tells 37 = .ok (.iload_n 2, 1) := by decide +kernel
theorem dX0_tells_38 : decode cX0_tells 38 = .ok (.iaload, 1) := by decide +kernel
theorem dX0_tells_39 : decode cX0_tells 39 = .ok (.invokestatic 87, 3) := by decide +kernel
theorem dX0_tells_42 : decode cX0_tells 42 = .ok (.invokevirtual 70, 3) := by decide +kernel
theorem dX0_tells_45 : decode cX0_tells 45 = .ok (.aload_n 1, 1) := by decide +kernel
theorem dX0_tells_46 : decode cX0_tells 46 = .ok (.getfield 74, 3) := by decide +kernel
theorem dX0_tells_49 : decode cX0_tells 49 = .ok (.iload_n 2, 1) := by decide +kernel
theorem dX0_tells_50 : decode cX0_tells 50 = .ok (.iaload, 1) := by decide +kernel
theorem dX0_tells_51 : decode cX0_tells 51 = .ok (.if_icmp .ne 7, 3) := by decide +kernel
theorem dX0_tells_54 : decode cX0_tells 54 = .ok (.iconst 1, 1) := by decide +kernel
theorem dX0_tells_55 : decode cX0_tells 55 = .ok (.goto 4, 3) := by decide +kernel
theorem dX0_tells_58 : decode cX0_tells 58 = .ok (.iconst 0, 1) := by decide +kernel
theorem dX0_tells_59 : decode cX0_tells 59 = .ok (.ireturn, 1) := by decide +kernel
theorem dX1_init_0 : decode cX1_init 0 = .ok (.aload_n 0, 1) := by decide +kernel
theorem dX1_init_1 : decode cX1_init 1 = .ok (.invokespecial 3, 3) := by decide +kernel
theorem dX1_init_4 : decode cX1_init 4 = .ok (.aload_n 0, 1) := by decide +kernel
theorem dX1_init_5 : decode cX1_init 5 = .ok (.iconst (-1), 1) := by decide +kernel
theorem dX1_init_6 : decode cX1_init 6 = .ok (.putfield 9, 3) := by decide +kernel
theorem dX1_init_9 : decode cX1_init 9 = .ok (.aload_n 0, 1) := by decide +kernel
theorem dX1_init_10 : decode cX1_init 10 = .ok (.iconst 3, 1) := by decide +kernel
theorem dX1_init_11 : decode cX1_init 11 = .ok (.newarray .int, 2) := by decide +kernel
theorem dX1_init_13 : decode cX1_init 13 = .ok (.putfield 15, 3) := by decide +kernel
theorem dX1_init_16 : decode cX1_init 16 = .ok (.aload_n 0, 1) := by decide +kernel
theorem dX1_init_17 : decode cX1_init 17 = .ok (.iconst 3, 1) := by decide +kernel
theorem dX1_init_18 : decode cX1_init 18 = .ok (.newarray .int, 2) := by decide +kernel
theorem dX1_init_20 : decode cX1_init 20 = .ok (.putfield 19, 3) := by decide +kernel
theorem dX1_init_23 : decode cX1_init 23 = .ok (.aload_n 0, 1) := by decide +kernel
theorem dX1_init_24 : decode cX1_init 24 = .ok (.new 22, 3) := by decide +kernel
theorem dX1_init_27 : decode cX1_init 27 = .ok (.dup, 1) := by decide +kernel
theorem dX1_init_28 : decode cX1_init 28 = .ok (.invokespecial 24, 3) := by decide +kernel
theorem dX1_init_31 : decode cX1_init 31 = .ok (.putfield 25, 3) := by decide +kernel
theorem dX1_init_34 : decode cX1_init 34 = .ok (.aload_n 0, 1) := by decide +kernel
theorem dX1_init_35 : decode cX1_init 35 = .ok (.sipush 299, 3) := by decide +kernel
theorem dX1_init_38 : decode cX1_init 38 = .ok (.newarray .int, 2) := by decide +kernel
theorem dX1_init_40 : decode cX1_init 40 = .ok (.putfield 29, 3) := by decide +kernel
theorem dX1_init_43 : decode cX1_init 43 = .ok (.aload_n 0, 1) := by decide +kernel
theorem dX1_init_44 : decode cX1_init 44 = .ok (.bipush 12, 2) := by decide +kernel
theorem dX1_init_46 : decode cX1_init 46 = .ok (.newarray .int, 2) := by decide +kernel
theorem dX1_init_48 : decode cX1_init 48 = .ok (.putfield 32, 3) := by decide +kernel
theorem dX1_init_51 : decode cX1_init 51 = .ok (.aload_n 0, 1) := by decide +kernel
theorem dX1_init_52 : decode cX1_init 52 = .ok (.iconst 3, 1) := by decide +kernel
theorem dX1_init_53 : decode cX1_init 53 = .ok (.bipush 60, 2) := by decide +kernel
theorem dX1_init_55 : decode cX1_init 55 = .ok (.multianewarray 35 2, 4) := by decide +kernel
theorem dX1_init_59 : decode cX1_init 59 = .ok (.putfield 37, 3) := by decide +kernel
theorem dX1_init_62 : decode cX1_init 62 = .ok (.aload_n 0, 1) := by decide +kernel
theorem dX1_init_63 : decode cX1_init 63 = .ok (.iconst 3, 1) := by decide +kernel
theorem dX1_init_64 : decode cX1_init 64 = .ok (.bipush 60, 2) := by decide +kernel
theorem dX1_init_66 : decode cX1_init 66 = .ok (.multianewarray 35 2, 4) := by decide +kernel
theorem dX1_init_70 : decode cX1_init 70 = .ok (.putfield 40, 3) := by decide +kernel
theorem dX1_init_73 : decode cX1_init 73 = .ok (.iconst 1, 1) := by decide +kernel
theorem dX1_init_74 : decode cX1_init 74 = .ok (.istore_n 1, 1) := by decide +kernel
theorem dX1_init_75 : decode cX1_init 75 = .ok (.iconst 0, 1) := by decide +kernel
theorem dX1_init_76 : decode cX1_init 76 = .ok (.istore_n 2, 1) := by decide +kernel
theorem dX1_init_77 : decode cX1_init 77 = .ok (.iconst 1, 1) := by decide +kernel
theorem dX1_init_78 : decode cX1_init 78 = .ok (.istore_n 3, 1) := by decide +kernel
theorem dX1_init_79 : decode cX1_init 79 = .ok (.iload_n 3, 1) := by decide +kernel
theorem dX1_init_80 : decode cX1_init 80 = .ok (.iconst 3, 1) := by decide +kernel
theorem dX1_init_81 : decode cX1_init 81 = .ok (.if_icmp .gt 44, 3) := by decide +kernel
theorem dX1_init_84 : decode cX1_init 84 = .ok (.iload_n 1, 1) := by decide +kernel
theorem dX1_init_85 : decode cX1_init 85 = .ok (.istore 4, 2) := by decide +kernel
theorem dX1_init_87 : decode cX1_init 87 = .ok (.iload_n 2, 1) := by decide +kernel
theorem dX1_init_88 : decode cX1_init 88 = .ok (.istore 5, 2) := by decide +kernel
theorem dX1_init_90 : decode cX1_init 90 = .ok (.iload 5, 2) := by decide +kernel
theorem dX1_init_92 : decode cX1_init 92 = .ok (.iload 4, 2) := by decide +kernel
theorem dX1_init_94 : decode cX1_init 94 = .ok (.if_icmp .ge 22, 3) := by decide +kernel
theorem dX1_init_97 : decode cX1_init 97 = .ok (.aload_n 0, 1) := by decide +kernel
theorem dX1_init_98 : decode cX1_init 98 = .ok (.aload_n 0, 1) := by decide +kernel
theorem dX1_init_99 : decode cX1_init 99 = .ok (.getfield 29, 3) := by decide +kernel
theorem dX1_init_102 : decode cX1_init 102 = .ok (.iload 5, 2) := by decide +kernel
theorem dX1_init_104 : decode cX1_init 104 = .ok (.iaload, 1) := by decide +kernel
theorem dX1_init_105 : decode cX1_init 105 = .ok (.iload_n 1, 1) := by decide +kernel
theorem dX1_init_106 : decode cX1_init 106 = .ok (.invokevirtual 43, 3) := by decide +kernel
theorem dX1_init_109 : decode cX1_init 109 = .ok (.istore_n 1, 1) := by decide +kernel
theorem dX1_init_110 : decode cX1_init 110 = .ok (.iinc 5 1, 3) := by decide +kernel
theorem dX1_init_113 : decode cX1_init 113 = .ok (.goto (-23), 3) := by decide +kernel
theorem dX1_init_116 : decode cX1_init 116 = .ok (.iload 4, 2) := by decide +kernel
theorem dX1_init_118 : decode cX1_init 118 = .ok (.istore_n 2, 1) := by decide +kernel
theorem dX1_init_119 : decode cX1_init 119 = .ok (.iinc 3 1, 3) := by decide +kernel
theorem dX1_init_122 : decode cX1_init 122 = .ok (.goto (-43), 3) := by decide +kernel
theorem dX1_init_125 : decode cX1_init 125 = .ok (.return_, 1) := by decide +kernel
theorem dX1_addLarger_0 : decode cX1_addLarger 0 = .ok (.iload_n 2, 1) := by decide +kernel
theorem dX1_addLarger_1 : decode cX1_addLarger 1 = .ok (.istore_n 3, 1) := by decide +kernel
theorem dX1_addLarger_2 : decode cX1_addLarger 2 = .ok (.iconst 0, 1) := by decide +kernel
theorem dX1_addLarger_3 : decode cX1_addLarger 3 = .ok (.istore 4, 2) := by decide +kernel
theorem dX1_addLarger_5 : decode cX1_addLarger 5 = .ok (.iload 4, 2) := by decide +kernel
theorem dX1_addLarger_7 : decode cX1_addLarger 7 = .ok (.bipush 12, 2) := by decide +kernel
theorem dX1_addLarger_9 : decode cX1_addLarger 9 = .ok (.if_icmp .ge 38, 3) := by decide +kernel
theorem dX1_addLarger_12 : decode cX1_addLarger 12 = .ok (.iload_n 1, 1) := by decide +kernel
theorem dX1_addLarger_13 : decode cX1_addLarger 13 = .ok (.iload 4, 2) := by decide +kernel
theorem dX1_addLarger_15 : decode cX1_addLarger 15 = .ok (.ishr, 1) := by decide +kernel
theorem dX1_addLarger_16 : decode cX1_addLarger 16 = .ok (.ifCond .ne 25, 3) := by decide +kernel
theorem dX1_addLarger_19 : decode cX1_addLarger 19 = .ok (.iload_n 3, 1) := by decide +kernel
theorem dX1_addLarger_20 : decode cX1_addLarger 20 = .ok (.sipush 299, 3) := by decide +kernel
theorem dX1_addLarger_23 : decode cX1_addLarger 23 = .ok (.if_icmp .ge 18, 3) := by decide +kernel
theorem dX1_addLarger_26 : decode cX1_addLarger 26 = .ok (.aload_n 0, 1) := by decide +kernel
theorem dX1_addLarger_27 : decode cX1_addLarger 27 = .ok (.getfield 29, 3) := by decide +kernel
theorem dX1_addLarger_30 : decode cX1_addLarger 30 = .ok (.iload_n 3, 1) := by decide +kernel
theorem dX1_addLarger_31 : decode cX1_addLarger 31 = .ok (.iload_n 1, 1) := by decide +kernel
theorem dX1_addLarger_32 : decode cX1_addLarger 32 = .ok (.iconst 1, 1) := by decide +kernel
theorem dX1_addLarger_33 : decode cX1_addLarger 33 = .ok (.iload 4, 2) := by decide +kernel
theorem dX1_addLarger_35 : decode cX1_addLarger 35 = .ok (.ishl, 1) := by decide +kernel
theorem dX1_addLarger_36 : decode cX1_addLarger 36 = .ok (.ior, 1) := by decide +kernel
theorem dX1_addLarger_37 : decode cX1_addLarger 37 = .ok (.iastore, 1) := by decide +kernel
theorem dX1_addLarger_38 : decode cX1_addLarger 38 = .ok (.iinc 3 1, 3) := by decide +kernel
theorem dX1_addLarger_41 : decode cX1_addLarger 41 = .ok (.iinc 4 1, 3) := by decide +kernel
theorem dX1_addLarger_44 : decode cX1_addLarger 44 = .ok (.goto (-39), 3) := by decide +kernel
theorem dX1_addLarger_47 : decode cX1_addLarger 47 = .ok (.iload_n 3, 1) := by decide +kernel
theorem dX1_addLarger_48 : decode cX1_addLarger 48 = .ok (.ireturn, 1) := by decide +kernel
theorem dX1_find_0 : decode cX1_find 0 = .ok (.aload_n 0, 1) := by decide +kernel
theorem dX1_find_1 : decode cX1_find 1 = .ok (.iconst (-1), 1) := by decide +kernel
theorem dX1_find_2 : decode cX1_find 2 = .ok (.putfield 9, 3) := by decide +kernel
theorem dX1_find_5 : decode cX1_find 5 = .ok (.aload_n 0, 1) := by decide +kernel
theorem dX1_find_6 : decode cX1_find 6 = .ok (.getfield 25, 3) := by decide +kernel
theorem dX1_find_9 : decode cX1_find 9 = .ok (.aload_n 2, 1) := by decide +kernel
theorem dX1_find_10 : decode cX1_find 10 = .ok (.getfield 47, 3) := by decide +kernel
theorem dX1_find_13 : decode cX1_find 13 = .ok (.aload_n 1, 1) := by decide +kernel
theorem dX1_find_14 : decode cX1_find 14 = .ok (.invokevirtual 52, 3) := by decide +kernel
theorem dX1_find_17 : decode cX1_find 17 = .ok (.ifCond .ne 4, 3) := by decide +kernel
theorem dX1_find_20 : decode cX1_find 20 = .ok (.return_, 1) := by decide +kernel
theorem dX1_find_21 : decode cX1_find 21 = .ok (.aload_n 0, 1) := by decide +kernel
theorem dX1_find_22 : decode cX1_find 22 = .ok (.aload_n 1, 1) := by decide +kernel
theorem dX1_find_23 : decode cX1_find 23 = .ok (.aload_n 2, 1) := by decide +kernel
theorem dX1_find_24 : decode cX1_find 24 = .ok (.iload_n 3, 1) := by decide +kernel
theorem dX1_find_25 : decode cX1_find 25 = .ok (.invokevirtual 56, 3) := by decide +kernel
theorem dX1_find_28 : decode cX1_find 28 = .ok (.ldc 60, 2) := by decide +kernel
theorem dX1_find_30 : decode cX1_find 30 = .ok (.istore 4, 2) := by decide +kernel
theorem dX1_find_32 : decode cX1_find 32 = .ok (.iconst 0, 1) := by decide +kernel
theorem dX1_find_33 : decode cX1_find 33 = .ok (.istore 5, 2) := by decide +kernel
theorem dX1_find_35 : decode cX1_find 35 = .ok (.iload 5, 2) := by decide +kernel
theorem dX1_find_37 : decode cX1_find 37 = .ok (.bipush 42, 2) := by decide +kernel
theorem dX1_find_39 : decode cX1_find 39 = .ok (.if_icmp .ge 84, 3) := by decide +kernel
theorem dX1_find_42 : decode cX1_find 42 = .ok (.iconst 0, 1) := by decide +kernel
theorem dX1_find_43 : decode cX1_find 43 = .ok (.istore 6, 2) := by decide +kernel
theorem dX1_find_45 : decode cX1_find 45 = .ok (.iconst 0, 1) := by decide +kernel
theorem dX1_find_46 : decode cX1_find 46 = .ok (.istore 7, 2) := by decide +kernel
theorem dX1_find_48 : decode cX1_find 48 = .ok (.iload 7, 2) := by decide +kernel
theorem dX1_find_50 : decode cX1_find 50 = .ok (.aload_n 2, 1) := by decide +kernel
theorem dX1_find_51 : decode cX1_find 51 = .ok (.getfield 47, 3) := by decide +kernel
theorem dX1_find_54 : decode cX1_find 54 = .ok (.if_icmp .ge 31, 3) := by decide +kernel
theorem dX1_find_57 : decode cX1_find 57 = .ok (.iload 6, 2) := by decide +kernel
theorem dX1_find_59 : decode cX1_find 59 = .ok (.aload_n 0, 1) := by decide +kernel
theorem dX1_find_60 : decode cX1_find 60 = .ok (.getfield 37, 3) := by decide +kernel
theorem dX1_find_63 : decode cX1_find 63 = .ok (.iload 7, 2) := by decide +kernel
theorem dX1_find_65 : decode cX1_find 65 = .ok (.aaload, 1) := by decide +kernel
theorem dX1_find_66 : decode cX1_find 66 = .ok (.aload_n 0, 1) := by decide +kernel
theorem dX1_find_67 : decode cX1_find 67 = .ok (.getfield 25, 3) := by decide +kernel
theorem dX1_find_70 : decode cX1_find 70 = .ok (.iload 7, 2) := by decide +kernel
theorem dX1_find_72 : decode cX1_find 72 = .ok (.invokevirtual 61, 3) := by decide +kernel
theorem dX1_find_75 : decode cX1_find 75 = .ok (.iaload, 1) := by decide +kernel
theorem dX1_find_76 : decode cX1_find 76 = .ok (.iadd, 1) := by decide +kernel
theorem dX1_find_77 : decode cX1_find 77 = .ok (.istore 6, 2) := by decide +kernel
theorem dX1_find_79 : decode cX1_find 79 = .ok (.iinc 7 1, 3) := by decide +kernel
theorem dX1_find_82 : decode cX1_find 82 = .ok (.goto (-34), 3) := by decide +kernel
theorem dX1_find_85 : decode cX1_find 85 = .ok (.iload 6, 2) := by decide +kernel
theorem dX1_find_87 : decode cX1_find 87 = .ok (.iload 4, 2) := by decide +kernel
theorem dX1_find_89 : decode cX1_find 89 = .ok (.if_icmp .ge 15, 3) := by decide +kernel
theorem dX1_find_92 : decode cX1_find 92 = .ok (.iload 6, 2) := by decide +kernel
theorem dX1_find_94 : decode cX1_find 94 = .ok (.istore 4, 2) := by decide +kernel
theorem dX1_find_96 : decode cX1_find 96 = .ok (.aload_n 0, 1) := by decide +kernel
theorem dX1_find_97 : decode cX1_find 97 = .ok (.aload_n 2, 1) := by decide +kernel
theorem dX1_find_98 : decode cX1_find 98 = .ok (.getfield 47, 3) := by decide +kernel
theorem dX1_find_101 : decode cX1_find 101 = .ok (.invokevirtual 65, 3) := by decide +kernel
theorem dX1_find_104 : decode cX1_find 104 = .ok (.aload_n 0, 1) := by decide +kernel
theorem dX1_find_105 : decode cX1_find 105 = .ok (.getfield 25, 3) := by decide +kernel
theorem dX1_find_108 : decode cX1_find 108 = .ok (.invokevirtual 69, 3) := by decide +kernel
theorem dX1_find_111 : decode cX1_find 111 = .ok (.ifCond .ne 6, 3) := by decide +kernel
theorem dX1_find_114 : decode cX1_find 114 = .ok (.goto 9, 3) := by decide +kernel
theorem dX1_find_117 : decode cX1_find 117 = .ok (.iinc 5 1, 3) := by decide +kernel
theorem dX1_find_120 : decode cX1_find 120 = .ok (.goto (-85), 3) := by decide +kernel
theorem dX1_find_123 : decode cX1_find 123 = .ok (.iload 4, 2) := by decide +kernel
theorem dX1_find_125 : decode cX1_find 125 = .ok (.ldc 60, 2) := by decide +kernel
theorem dX1_find_127 : decode cX1_find 127 = .ok (.if_icmp .ge 9, 3) := by decide +kernel
theorem dX1_find_130 : decode cX1_find 130 = .ok (.aload_n 0, 1) := by decide +kernel
theorem dX1_find_131 : decode cX1_find 131 = .ok (.iload 4, 2) := by decide +kernel
theorem dX1_find_133 : decode cX1_find 133 = .ok (.putfield 9, 3) := by decide +kernel
theorem dX1_find_136 : decode cX1_find 136 = .ok (.return_, 1) := by decide +kernel
theorem dX1_shapeAllBoxes_0 : decode cX1_shapeAllBoxes 0 = .ok (.aload_n 1, 1) := by decide +kernel
theorem dX1_shapeAllBoxes_1 : decode cX1_shapeAllBoxes 1 = .ok (.iload_n 3, 1) := by decide +kernel
theorem dX1_shapeAllBoxes_2 : decode cX1_shapeAllBoxes 2 = .ok (.aload_n 2, 1) := by decide +kernel
theorem dX1_shapeAllBoxes_3 : decode cX1_shapeAllBoxes 3 = .ok (.getfield 73, 3) := by decide +kernel
theorem dX1_shapeAllBoxes_6 : decode cX1_shapeAllBoxes 6 = .ok (.bipush 63, 2) := by decide +kernel
theorem dX1_shapeAllBoxes_8 : decode cX1_shapeAllBoxes 8 = .ok (.invokevirtual 76, 3) := by decide +kernel
theorem dX1_shapeAllBoxes_11 : decode cX1_shapeAllBoxes 11 = .ok (.lstore 4, 2) := by decide +kernel
theorem dX1_shapeAllBoxes_13 : decode cX1_shapeAllBoxes 13 = .ok (.iconst 0, 1) := by decide +kernel
theorem dX1_shapeAllBoxes_14 : decode cX1_shapeAllBoxes 14 = .ok (.istore 6, 2) := by decide +kernel
theorem dX1_shapeAllBoxes_16 : decode cX1_shapeAllBoxes 16 = .ok (.iload 6, 2) := by decide +kernel
theorem dX1_shapeAllBoxes_18 : decode cX1_shapeAllBoxes 18 = .ok (.aload_n 2, 1) := by decide +kernel
theorem dX1_shapeAllBoxes_19 : decode cX1_shapeAllBoxes 19 = .ok (.getfield 47, 3) := by decide +kernel
theorem dX1_shapeAllBoxes_22 : decode cX1_shapeAllBoxes 22 = .ok (.if_icmp .ge 80, 3) := by decide +kernel
theorem dX1_shapeAllBoxes_25 : decode cX1_shapeAllBoxes 25 = .ok (.iconst 0, 1) := by decide +kernel
theorem dX1_shapeAllBoxes_26 : decode cX1_shapeAllBoxes 26 = .ok (.istore 7, 2) := by decide +kernel
theorem dX1_shapeAllBoxes_28 : decode cX1_shapeAllBoxes 28 = .ok (.iload 7, 2) := by decide +kernel
theorem dX1_shapeAllBoxes_30 : decode cX1_shapeAllBoxes 30 = .ok (.aload_n 1, 1) := by decide +kernel
theorem dX1_shapeAllBoxes_31 : decode cX1_shapeAllBoxes 31 = .ok (.getfield 82, 3) := by decide +kernel
theorem dX1_shapeAllBoxes_34 : decode cX1_shapeAllBoxes 34 = .ok (.iconst 4, 1) := by decide +kernel
theorem dX1_shapeAllBoxes_35 : decode cX1_shapeAllBoxes 35 = .ok (.isub, 1) := by decide +kernel
theorem dX1_shapeAllBoxes_36 : decode cX1_shapeAllBoxes 36 = .ok (.if_icmp .gt 60, 3) := by decide +kernel
theorem dX1_shapeAllBoxes_39 : decode cX1_shapeAllBoxes 39 = .ok (.iconst 4, 1) := by decide +kernel
theorem dX1_shapeAllBoxes_40 : decode cX1_shapeAllBoxes 40 = .ok (.iload 6, 2) := by decide +kernel
theorem dX1_shapeAllBoxes_42 : decode cX1_shapeAllBoxes 42 = .ok (.imul, 1) := by decide +kernel
theorem dX1_shapeAllBoxes_43 : decode cX1_shapeAllBoxes 43 = .ok (.istore 8, 2) := by decide +kernel
theorem dX1_shapeAllBoxes_45 : decode cX1_shapeAllBoxes 45 = .ok (.iload 8, 2) := by decide +kernel
theorem dX1_shapeAllBoxes_47 : decode cX1_shapeAllBoxes 47 = .ok (.aload_n 0, 1) := by decide +kernel
theorem dX1_shapeAllBoxes_48 : decode cX1_shapeAllBoxes 48 = .ok (.getfield 25, 3) := by decide +kernel
theorem dX1_shapeAllBoxes_51 : decode cX1_shapeAllBoxes 51 = .ok (.iload 6, 2) := by decide +kernel
theorem dX1_shapeAllBoxes_53 : decode cX1_shapeAllBoxes 53 = .ok (.invokevirtual 85, 3) := by decide +kernel
theorem dX1_shapeAllBoxes_56 : decode cX1_shapeAllBoxes 56 = .ok (.if_icmp .gt 34, 3) := by decide +kernel
theorem dX1_shapeAllBoxes_59 : decode cX1_shapeAllBoxes 59 = .ok (.aload_n 0, 1) := by decide +kernel
theorem dX1_shapeAllBoxes_60 : decode cX1_shapeAllBoxes 60 = .ok (.aload_n 1, 1) := by decide +kernel
theorem dX1_shapeAllBoxes_61 : decode cX1_shapeAllBoxes 61 = .ok (.iload 6, 2) := by decide +kernel
theorem dX1_shapeAllBoxes_63 : decode cX1_shapeAllBoxes 63 = .ok (.aload_n 2, 1) := by decide +kernel
theorem dX1_shapeAllBoxes_64 : decode cX1_shapeAllBoxes 64 = .ok (.getfield 88, 3) := by decide +kernel
theorem dX1_shapeAllBoxes_67 : decode cX1_shapeAllBoxes 67 = .ok (.iload 6, 2) := by decide +kernel
theorem dX1_shapeAllBoxes_69 : decode cX1_shapeAllBoxes 69 = .ok (.iaload, 1) := by decide +kernel
theorem dX1_shapeAllBoxes_70 : decode cX1_shapeAllBoxes 70 = .ok (.bipush 12, 2) := by decide +kernel
theorem dX1_shapeAllBoxes_72 : decode cX1_shapeAllBoxes 72 = .ok (.iload 7, 2) := by decide +kernel
theorem dX1_shapeAllBoxes_74 : decode cX1_shapeAllBoxes 74 = .ok (.imul, 1) := by decide +kernel
theorem dX1_shapeAllBoxes_75 : decode cX1_shapeAllBoxes 75 = .ok (.iload 8, 2) := by decide +kernel
theorem dX1_shapeAllBoxes_77 : decode cX1_shapeAllBoxes 77 = .ok (.iadd, 1) := by decide +kernel
theorem dX1_shapeAllBoxes_78 : decode cX1_shapeAllBoxes 78 = .ok (.iload_n 3, 1) := by decide +kernel
theorem dX1_shapeAllBoxes_79 : decode cX1_shapeAllBoxes 79 = .ok (.lload 4, 2) := by decide +kernel
theorem dX1_shapeAllBoxes_81 : decode cX1_shapeAllBoxes 81 = .ok (.invokevirtual 91, 3) := by decide +kernel
theorem dX1_shapeAllBoxes_84 : decode cX1_shapeAllBoxes 84 = .ok (.iinc 8 1, 3) := by decide +kernel
theorem dX1_shapeAllBoxes_87 : decode cX1_shapeAllBoxes 87 = .ok (.goto (-42), 3) := by decide +kernel
theorem dX1_shapeAllBoxes_90 : decode cX1_shapeAllBoxes 90 = .ok (.iinc 7 1, 3) := by decide +kernel
theorem dX1_shapeAllBoxes_93 : decode cX1_shapeAllBoxes 93 = .ok (.goto (-65), 3) := by decide +kernel
theorem dX1_shapeAllBoxes_96 : decode cX1_shapeAllBoxes 96 = .ok (.iinc 6 1, 3) := by decide +kernel
theorem dX1_shapeAllBoxes_99 : decode cX1_shapeAllBoxes 99 = .ok (.goto (-83), 3) := by decide +kernel
theorem dX1_shapeAllBoxes_102 : decode cX1_shapeAllBoxes 102 = .ok (.return_, 1) := by decide +kernel
theorem dX1_shapeBox_0 : decode cX1_shapeBox 0 = .ok (.aload_n 1, 1) := by decide +kernel
theorem dX1_shapeBox_1 : decode cX1_shapeBox 1 = .ok (.getfield 95, 3) := by decide +kernel
theorem dX1_shapeBox_4 : decode cX1_shapeBox 4 = .ok (.iload 5, 2) := by decide +kernel
theorem dX1_shapeBox_6 : decode cX1_shapeBox 6 = .ok (.laload, 1) := by decide +kernel
theorem dX1_shapeBox_7 : decode cX1_shapeBox 7 = .ok (.iload 4, 2) := by decide +kernel
theorem dX1_shapeBox_9 : decode cX1_shapeBox 9 = .ok (.invokestatic 99, 3) := by decide +kernel
theorem dX1_shapeBox_12 : decode cX1_shapeBox 12 = .ok (.istore 8, 2) := by decide +kernel
theorem dX1_shapeBox_14 : decode cX1_shapeBox 14 = .ok (.lload 6, 2) := by decide +kernel
theorem dX1_shapeBox_16 : decode cX1_shapeBox 16 = .ok (.iload 4, 2) := by decide +kernel
theorem dX1_shapeBox_18 : decode cX1_shapeBox 18 = .ok (.invokestatic 99, 3) := by decide +kernel
theorem dX1_shapeBox_21 : decode cX1_shapeBox 21 = .ok (.iconst (-1), 1) := by decide +kernel
theorem dX1_shapeBox_22 : decode cX1_shapeBox 22 = .ok (.ixor, 1) := by decide +kernel
theorem dX1_shapeBox_23 : decode cX1_shapeBox 23 = .ok (.sipush 4095, 3) := by decide +kernel
theorem dX1_shapeBox_26 : decode cX1_shapeBox 26 = .ok (.iand, 1) := by decide +kernel
theorem dX1_shapeBox_27 : decode cX1_shapeBox 27 = .ok (.istore 9, 2) := by decide +kernel
theorem dX1_shapeBox_29 : decode cX1_shapeBox 29 = .ok (.aload_n 0, 1) := by decide +kernel
theorem dX1_shapeBox_30 : decode cX1_shapeBox 30 = .ok (.aload_n 1, 1) := by decide +kernel
theorem dX1_shapeBox_31 : decode cX1_shapeBox 31 = .ok (.iload 4, 2) := by decide +kernel
theorem dX1_shapeBox_33 : decode cX1_shapeBox 33 = .ok (.iload 5, 2) := by decide +kernel
theorem dX1_shapeBox_35 : decode cX1_shapeBox 35 = .ok (.invokevirtual 103, 3) := by decide +kernel
theorem dX1_shapeBox_38 : decode cX1_shapeBox 38 = .ok (.ldc 60, 2) := by decide +kernel
theorem dX1_shapeBox_40 : decode cX1_shapeBox 40 = .ok (.istore 10, 2) := by decide +kernel
theorem dX1_shapeBox_42 : decode cX1_shapeBox 42 = .ok (.iconst 0, 1) := by decide +kernel
theorem dX1_shapeBox_43 : decode cX1_shapeBox 43 = .ok (.istore 11, 2) := by decide +kernel
theorem dX1_shapeBox_45 : decode cX1_shapeBox 45 = .ok (.iconst 0, 1) := by decide +kernel
theorem dX1_shapeBox_46 : decode cX1_shapeBox 46 = .ok (.istore 12, 2) := by decide +kernel
theorem dX1_shapeBox_48 : decode cX1_shapeBox 48 = .ok (.iload 12, 2) := by decide +kernel
theorem dX1_shapeBox_50 : decode cX1_shapeBox 50 = .ok (.sipush 299, 3) := by decide +kernel
theorem dX1_shapeBox_53 : decode cX1_shapeBox 53 = .ok (.if_icmp .ge 119, 3) := by decide +kernel
theorem dX1_shapeBox_56 : decode cX1_shapeBox 56 = .ok (.aload_n 0, 1) := by decide +kernel
theorem dX1_shapeBox_57 : decode cX1_shapeBox 57 = .ok (.getfield 29, 3) := by decide +kernel
theorem dX1_shapeBox_60 : decode cX1_shapeBox 60 = .ok (.iload 12, 2) := by decide +kernel
theorem dX1_shapeBox_62 : decode cX1_shapeBox 62 = .ok (.iaload, 1) := by decide +kernel
theorem dX1_shapeBox_63 : decode cX1_shapeBox 63 = .ok (.invokestatic 107, 3) := by decide +kernel
theorem dX1_shapeBox_66 : decode cX1_shapeBox 66 = .ok (.aload_n 1, 1) := by decide +kernel
theorem dX1_shapeBox_67 : decode cX1_shapeBox 67 = .ok (.getfield 112, 3) := by decide +kernel
theorem dX1_shapeBox_70 : decode cX1_shapeBox 70 = .ok (.if_icmp .gt 102, 3) := by decide +kernel
theorem dX1_shapeBox_73 : decode cX1_shapeBox 73 = .ok (.aload_n 1, 1) := by decide +kernel
theorem dX1_shapeBox_74 : decode cX1_shapeBox 74 = .ok (.getfield 115, 3) := by decide +kernel
theorem dX1_shapeBox_77 : decode cX1_shapeBox 77 = .ok (.iload_n 3, 1) := by decide +kernel
theorem dX1_shapeBox_78 : decode cX1_shapeBox 78 = .ok (.iaload, 1) := by decide +kernel
theorem dX1_shapeBox_79 : decode cX1_shapeBox 79 = .ok (.aload_n 0, 1) := by decide +kernel
theorem dX1_shapeBox_80 : decode cX1_shapeBox 80 = .ok (.getfield 29, 3) := by decide +kernel
theorem dX1_shapeBox_83 : decode cX1_shapeBox 83 = .ok (.iload 12, 2) := by decide +kernel
theorem dX1_shapeBox_85 : decode cX1_shapeBox 85 = .ok (.iaload, 1) := by decide +kernel
theorem dX1_shapeBox_86 : decode cX1_shapeBox 86 = .ok (.ixor, 1) := by decide +kernel
theorem dX1_shapeBox_87 : decode cX1_shapeBox 87 = .ok (.istore 13, 2) := by decide +kernel
theorem dX1_shapeBox_89 : decode cX1_shapeBox 89 = .ok (.iload 13, 2) := by decide +kernel
theorem dX1_shapeBox_91 : decode cX1_shapeBox 91 = .ok (.iload 8, 2) := by decide +kernel
theorem dX1_shapeBox_93 : decode cX1_shapeBox 93 = .ok (.ixor, 1) := by decide +kernel
theorem dX1_shapeBox_94 : decode cX1_shapeBox 94 = .ok (.istore 14, 2) := by decide +kernel
theorem dX1_shapeBox_96 : decode cX1_shapeBox 96 = .ok (.iload 14, 2) := by decide +kernel
theorem dX1_shapeBox_98 : decode cX1_shapeBox 98 = .ok (.iload 9, 2) := by decide +kernel
theorem dX1_shapeBox_100 : decode cX1_shapeBox 100 = .ok (.iand, 1) := by decide +kernel
theorem dX1_shapeBox_101 : decode cX1_shapeBox 101 = .ok (.ifCond .eq 6, 3) := by decide +kernel
theorem dX1_shapeBox_104 : decode cX1_shapeBox 104 = .ok (.goto 62, 3) := by decide +kernel
theorem dX1_shapeBox_107 : decode cX1_shapeBox 107 = .ok (.aload_n 0, 1) := by decide +kernel
theorem dX1_shapeBox_108 : decode cX1_shapeBox 108 = .ok (.iload 14, 2) := by decide +kernel
theorem dX1_shapeBox_110 : decode cX1_shapeBox 110 = .ok (.invokevirtual 116, 3) := by decide +kernel
theorem dX1_shapeBox_113 : decode cX1_shapeBox 113 = .ok (.istore 15, 2) := by decide +kernel
theorem dX1_shapeBox_115 : decode cX1_shapeBox 115 = .ok (.iload 15, 2) := by decide +kernel
theorem dX1_shapeBox_117 : decode cX1_shapeBox 117 = .ok (.iload 10, 2) := by decide +kernel
theorem dX1_shapeBox_119 : decode cX1_shapeBox 119 = .ok (.if_icmp .lt 17, 3) := by decide +kernel
theorem dX1_shapeBox_122 : decode cX1_shapeBox 122 = .ok (.iload 15, 2) := by decide +kernel
theorem dX1_shapeBox_124 : decode cX1_shapeBox 124 = .ok (.iload 10, 2) := by decide +kernel
theorem dX1_shapeBox_126 : decode cX1_shapeBox 126 = .ok (.if_icmp .ne 14, 3) := by decide +kernel
theorem dX1_shapeBox_129 : decode cX1_shapeBox 129 = .ok (.iload 13, 2) := by decide +kernel
theorem dX1_shapeBox_131 : decode cX1_shapeBox 131 = .ok (.iload 11, 2) := by decide +kernel
theorem dX1_shapeBox_133 : decode cX1_shapeBox 133 = .ok (.if_icmp .ge 7, 3) := by decide +kernel
theorem dX1_shapeBox_136 : decode cX1_shapeBox 136 = .ok (.iconst 1, 1) := by decide +kernel
theorem dX1_shapeBox_137 : decode cX1_shapeBox 137 = .ok (.goto 4, 3) := by decide +kernel
theorem dX1_shapeBox_140 : decode cX1_shapeBox 140 = .ok (.iconst 0, 1) := by decide +kernel
theorem dX1_shapeBox_141 : decode cX1_shapeBox 141 = .ok (.istore 16, 2) := by decide +kernel
theorem dX1_shapeBox_143 : decode cX1_shapeBox 143 = .ok (.iload 16, 2) := by decide +kernel
theorem dX1_shapeBox_145 : decode cX1_shapeBox 145 = .ok (.ifCond .eq 21, 3) := by decide +kernel
theorem dX1_shapeBox_148 : decode cX1_shapeBox 148 = .ok (.aload_n 1, 1) := by decide +kernel
theorem dX1_shapeBox_149 : decode cX1_shapeBox 149 = .ok (.iload 13, 2) := by decide +kernel
theorem dX1_shapeBox_151 : decode cX1_shapeBox 151 = .ok (.invokevirtual 119, 3) := by decide +kernel
theorem dX1_shapeBox_154 : decode cX1_shapeBox 154 = .ok (.iload_n 3, 1) := by decide +kernel
theorem dX1_shapeBox_155 : decode cX1_shapeBox 155 = .ok (.if_icmp .ne 11, 3) := by decide +kernel
theorem dX1_shapeBox_158 : decode cX1_shapeBox 158 = .ok (.iload 15, 2) := by decide +kernel
theorem dX1_shapeBox_160 : decode cX1_shapeBox 160 = .ok (.istore 10, 2) := by decide +kernel
theorem dX1_shapeBox_162 : decode cX1_shapeBox 162 = .ok (.iload 13, 2) := by decide +kernel
theorem dX1_shapeBox_164 : decode cX1_shapeBox 164 = .ok (.istore 11, 2) := by decide +kernel
theorem dX1_shapeBox_166 : decode cX1_shapeBox 166 = .ok (.iinc 12 1, 3) := by decide +kernel
theorem dX1_shapeBox_169 : decode cX1_shapeBox 169 = .ok (.goto (-121), 3) := by decide +kernel
theorem dX1_shapeBox_172 : decode cX1_shapeBox 172 = .ok (.aload_n 0, 1) := by decide +kernel
theorem dX1_shapeBox_173 : decode cX1_shapeBox 173 = .ok (.getfield 37, 3) := by decide +kernel
theorem dX1_shapeBox_176 : decode cX1_shapeBox 176 = .ok (.iload_n 2, 1) := by decide +kernel
theorem dX1_shapeBox_177 : decode cX1_shapeBox 177 = .ok (.aaload, 1) := by decide +kernel
theorem dX1_shapeBox_178 : decode cX1_shapeBox 178 = .ok (.iload 4, 2) := by decide +kernel
theorem dX1_shapeBox_180 : decode cX1_shapeBox 180 = .ok (.iload 10, 2) := by decide +kernel
theorem dX1_shapeBox_182 : decode cX1_shapeBox 182 = .ok (.iastore, 1) := by decide +kernel
theorem dX1_shapeBox_183 : decode cX1_shapeBox 183 = .ok (.aload_n 0, 1) := by decide +kernel
theorem dX1_shapeBox_184 : decode cX1_shapeBox 184 = .ok (.getfield 40, 3) := by decide +kernel
theorem dX1_shapeBox_187 : decode cX1_shapeBox 187 = .ok (.iload_n 2, 1) := by decide +kernel
theorem dX1_shapeBox_188 : decode cX1_shapeBox 188 = .ok (.aaload, 1) := by decide +kernel
theorem dX1_shapeBox_189 : decode cX1_shapeBox 189 = .ok (.iload 4, 2) := by decide +kernel
theorem dX1_shapeBox_191 : decode cX1_shapeBox 191 = .ok (.iload 11, 2) := by decide +kernel
theorem dX1_shapeBox_193 : decode cX1_shapeBox 193 = .ok (.iastore, 1) := by decide +kernel
theorem dX1_shapeBox_194 : decode cX1_shapeBox 194 = .ok (.return_, 1) := by decide +kernel
theorem dX1_tellCells_0 : decode cX1_tellCells 0 = .ok (.iconst 0, 1) := by decide +kernel
theorem dX1_tellCells_1 : decode cX1_tellCells 1 = .ok (.istore 4, 2) := by decide +kernel
theorem dX1_tellCells_3 : decode cX1_tellCells 3 = .ok (.iload 4, 2) := by decide +kernel
theorem dX1_tellCells_5 : decode cX1_tellCells 5 = .ok (.bipush 12, 2) := by decide +kernel
theorem dX1_tellCells_7 : decode cX1_tellCells 7 = .ok (.if_icmp .ge 39, 3) := by decide +kernel
theorem dX1_tellCells_10 : decode cX1_tellCells 10 = .ok (.iload_n 2, 1) := by decide +kernel
theorem dX1_tellCells_11 : decode cX1_tellCells 11 = .ok (.bipush 12, 2) := by decide +kernel
theorem dX1_tellCells_13 : decode cX1_tellCells 13 = .ok (.iload 4, 2) := by decide +kernel
theorem dX1_tellCells_15 : decode cX1_tellCells 15 = .ok (.iconst 3, 1) := by decide +kernel
theorem dX1_tellCells_16 : decode cX1_tellCells 16 = .ok (.idiv, 1) := by decide +kernel
theorem dX1_tellCells_17 : decode cX1_tellCells 17 = .ok (.imul, 1) := by decide +kernel
theorem dX1_tellCells_18 : decode cX1_tellCells 18 = .ok (.iadd, 1) := by decide +kernel
theorem dX1_tellCells_19 : decode cX1_tellCells 19 = .ok (.iload 4, 2) := by decide +kernel
theorem dX1_tellCells_21 : decode cX1_tellCells 21 = .ok (.iconst 3, 1) := by decide +kernel
theorem dX1_tellCells_22 : decode cX1_tellCells 22 = .ok (.irem, 1) := by decide +kernel
theorem dX1_tellCells_23 : decode cX1_tellCells 23 = .ok (.iadd, 1) := by decide +kernel
theorem dX1_tellCells_24 : decode cX1_tellCells 24 = .ok (.istore 5, 2) := by decide +kernel
theorem dX1_tellCells_26 : decode cX1_tellCells 26 = .ok (.aload_n 0, 1) := by decide +kernel
theorem dX1_tellCells_27 : decode cX1_tellCells 27 = .ok (.getfield 32, 3) := by decide +kernel
theorem dX1_tellCells_30 : decode cX1_tellCells 30 = .ok (.iload 4, 2) := by decide +kernel
theorem dX1_tellCells_32 : decode cX1_tellCells 32 = .ok (.aload_n 1, 1) := by decide +kernel
theorem dX1_tellCells_33 : decode cX1_tellCells 33 = .ok (.iload 5, 2) := by decide +kernel
theorem dX1_tellCells_35 : decode cX1_tellCells 35 = .ok (.iload_n 3, 1) := by decide +kernel
theorem dX1_tellCells_36 : decode cX1_tellCells 36 = .ok (.invokevirtual 122, 3) := by decide +kernel
theorem dX1_tellCells_39 : decode cX1_tellCells 39 = .ok (.iastore, 1) := by decide +kernel
theorem dX1_tellCells_40 : decode cX1_tellCells 40 = .ok (.iinc 4 1, 3) := by decide +kernel
theorem dX1_tellCells_43 : decode cX1_tellCells 43 = .ok (.goto (-40), 3) := by decide +kernel
theorem dX1_tellCells_46 : decode cX1_tellCells 46 = .ok (.return_, 1) := by decide +kernel
theorem dX1_painsOfCells_0 : decode cX1_painsOfCells 0 = .ok (.iconst 0, 1) := by decide +kernel
theorem dX1_painsOfCells_1 : decode cX1_painsOfCells 1 = .ok (.istore_n 2, 1) := by decide +kernel
theorem dX1_painsOfCells_2 : decode cX1_painsOfCells 2 = .ok (.iconst 0, 1) := by decide +kernel
theorem dX1_painsOfCells_3 : decode cX1_painsOfCells 3 = .ok (.istore_n 3, 1) := by decide +kernel
theorem dX1_painsOfCells_4 : decode cX1_painsOfCells 4 = .ok (.iload_n 3, 1) := by decide +kernel
theorem dX1_painsOfCells_5 : decode cX1_painsOfCells 5 = .ok (.bipush 12, 2) := by decide +kernel
theorem dX1_painsOfCells_7 : decode cX1_painsOfCells 7 = .ok (.if_icmp .ge 27, 3) := by decide +kernel
theorem dX1_painsOfCells_10 : decode cX1_painsOfCells 10 = .ok (.iload_n 1, 1) := by decide +kernel
theorem dX1_painsOfCells_11 : decode cX1_painsOfCells 11 = .ok (.iload_n 3, 1) := by decide +kernel
theorem dX1_painsOfCells_12 : decode cX1_painsOfCells 12 = .ok (.ishr, 1) := by decide +kernel
theorem dX1_painsOfCells_13 : decode cX1_painsOfCells 13 = .ok (.iconst 1, 1) := by decide +kernel
theorem dX1_painsOfCells_14 : decode cX1_painsOfCells 14 = .ok (.iand, 1) := by decide +kernel
theorem dX1_painsOfCells_15 : decode cX1_painsOfCells 15 = .ok (.iconst 1, 1) := by decide +kernel
theorem dX1_painsOfCells_16 : decode cX1_painsOfCells 16 = .ok (.if_icmp .ne 12, 3) := by decide +kernel
theorem dX1_painsOfCells_19 : decode cX1_painsOfCells 19 = .ok (.iload_n 2, 1) := by decide +kernel
theorem dX1_painsOfCells_20 : decode cX1_painsOfCells 20 = .ok (.aload_n 0, 1) := by decide +kernel
theorem dX1_painsOfCells_21 : decode cX1_painsOfCells 21 = .ok (.getfield 32, 3) := by decide +kernel
theorem dX1_painsOfCells_24 : decode cX1_painsOfCells 24 = .ok (.iload_n 3, 1) := by decide +kernel
theorem dX1_painsOfCells_25 : decode cX1_painsOfCells 25 = .ok (.iaload, 1) := by decide +kernel
theorem dX1_painsOfCells_26 : decode cX1_painsOfCells 26 = .ok (.iadd, 1) := by decide +kernel
theorem dX1_painsOfCells_27 : decode cX1_painsOfCells 27 = .ok (.istore_n 2, 1) := by decide +kernel
theorem dX1_painsOfCells_28 : decode cX1_painsOfCells 28 = .ok (.iinc 3 1, 3) := by decide +kernel
theorem dX1_painsOfCells_31 : decode cX1_painsOfCells 31 = .ok (.goto (-27), 3) := by decide +kernel
theorem dX1_painsOfCells_34 : decode cX1_painsOfCells 34 = .ok (.iload_n 2, 1) := by decide +kernel
theorem dX1_painsOfCells_35 : decode cX1_painsOfCells 35 = .ok (.ireturn, 1) := by decide +kernel
theorem dX1_keepPlace_0 : decode cX1_keepPlace 0 = .ok (.iconst 0, 1) := by decide +kernel
theorem dX1_keepPlace_1 : decode cX1_keepPlace 1 = .ok (.istore_n 2, 1) := by decide +kernel
theorem dX1_keepPlace_2 : decode cX1_keepPlace 2 = .ok (.iload_n 2, 1) := by decide +kernel
theorem dX1_keepPlace_3 : decode cX1_keepPlace 3 = .ok (.iload_n 1, 1) := by decide +kernel
theorem dX1_keepPlace_4 : decode cX1_keepPlace 4 = .ok (.if_icmp .ge 42, 3) := by decide +kernel
theorem dX1_keepPlace_7 : decode cX1_keepPlace 7 = .ok (.aload_n 0, 1) := by decide +kernel
theorem dX1_keepPlace_8 : decode cX1_keepPlace 8 = .ok (.getfield 15, 3) := by decide +kernel
theorem dX1_keepPlace_11 : decode cX1_keepPlace 11 = .ok (.iload_n 2, 1) := by decide +kernel
theorem dX1_keepPlace_12 : decode cX1_keepPlace 12 = .ok (.aload_n 0, 1) := by decide +kernel
theorem dX1_keepPlace_13 : decode cX1_keepPlace 13 = .ok (.getfield 25, 3) := by decide +kernel
theorem dX1_keepPlace_16 : decode cX1_keepPlace 16 = .ok (.iload_n 2, 1) := by decide +kernel
theorem dX1_keepPlace_17 : decode cX1_keepPlace 17 = .ok (.invokevirtual 61, 3) := by decide +kernel
theorem dX1_keepPlace_20 : decode cX1_keepPlace 20 = .ok (.iastore, 1) := by decide +kernel
theorem dX1_keepPlace_21 : decode cX1_keepPlace 21 = .ok (.aload_n 0, 1) := by decide +kernel
theorem dX1_keepPlace_22 : decode cX1_keepPlace 22 = .ok (.getfield 19, 3) := by decide +kernel
theorem dX1_keepPlace_25 : decode cX1_keepPlace 25 = .ok (.iload_n 2, 1) := by decide +kernel
theorem dX1_keepPlace_26 : decode cX1_keepPlace 26 = .ok (.aload_n 0, 1) := by decide +kernel
theorem dX1_keepPlace_27 : decode cX1_keepPlace 27 = .ok (.getfield 40, 3) := by decide +kernel
theorem dX1_keepPlace_30 : decode cX1_keepPlace 30 = .ok (.iload_n 2, 1) := by decide +kernel
theorem dX1_keepPlace_31 : decode cX1_keepPlace 31 = .ok (.aaload, 1) := by decide +kernel
theorem dX1_keepPlace_32 : decode cX1_keepPlace 32 = .ok (.aload_n 0, 1) := by decide +kernel
theorem dX1_keepPlace_33 : decode cX1_keepPlace 33 = .ok (.getfield 15, 3) := by decide +kernel
theorem dX1_keepPlace_36 : decode cX1_keepPlace 36 = .ok (.iload_n 2, 1) := by decide +kernel
theorem dX1_keepPlace_37 : decode cX1_keepPlace 37 = .ok (.iaload, 1) := by decide +kernel
theorem dX1_keepPlace_38 : decode cX1_keepPlace 38 = .ok (.iaload, 1) := by decide +kernel
theorem dX1_keepPlace_39 : decode cX1_keepPlace 39 = .ok (.iastore, 1) := by decide +kernel
theorem dX1_keepPlace_40 : decode cX1_keepPlace 40 = .ok (.iinc 2 1, 3) := by decide +kernel
theorem dX1_keepPlace_43 : decode cX1_keepPlace 43 = .ok (.goto (-41), 3) := by decide +kernel
theorem dX1_keepPlace_46 : decode cX1_keepPlace 46 = .ok (.return_, 1) := by decide +kernel
theorem dX2_init_0 : decode cX2_init 0 = .ok (.aload_n 0, 1) := by decide +kernel
theorem dX2_init_1 : decode cX2_init 1 = .ok (.invokespecial 3, 3) := by decide +kernel
theorem dX2_init_4 : decode cX2_init 4 = .ok (.aload_n 0, 1) := by decide +kernel
theorem dX2_init_5 : decode cX2_init 5 = .ok (.bipush 42, 2) := by decide +kernel
theorem dX2_init_7 : decode cX2_init 7 = .ok (.newarray .long, 2) := by decide +kernel
theorem dX2_init_9 : decode cX2_init 9 = .ok (.putfield 9, 3) := by decide +kernel
theorem dX2_init_12 : decode cX2_init 12 = .ok (.aload_n 0, 1) := by decide +kernel
theorem dX2_init_13 : decode cX2_init 13 = .ok (.iconst 0, 1) := by decide +kernel
theorem dX2_init_14 : decode cX2_init 14 = .ok (.putfield 15, 3) := by decide +kernel
theorem dX2_init_17 : decode cX2_init 17 = .ok (.aload_n 0, 1) := by decide +kernel
theorem dX2_init_18 : decode cX2_init 18 = .ok (.new 19, 3) := by decide +kernel
theorem dX2_init_21 : decode cX2_init 21 = .ok (.dup, 1) := by decide +kernel
theorem dX2_init_22 : decode cX2_init 22 = .ok (.invokespecial 21, 3) := by decide +kernel
theorem dX2_init_25 : decode cX2_init 25 = .ok (.putfield 22, 3) := by decide +kernel
theorem dX2_init_28 : decode cX2_init 28 = .ok (.return_, 1) := by decide +kernel
theorem dX2_find_0 : decode cX2_find 0 = .ok (.aload_n 0, 1) := by decide +kernel
theorem dX2_find_1 : decode cX2_find 1 = .ok (.iconst 0, 1) := by decide +kernel
theorem dX2_find_2 : decode cX2_find 2 = .ok (.putfield 15, 3) := by decide +kernel
theorem dX2_find_5 : decode cX2_find 5 = .ok (.aload_n 0, 1) := by decide +kernel
theorem dX2_find_6 : decode cX2_find 6 = .ok (.getfield 22, 3) := by decide +kernel
theorem dX2_find_9 : decode cX2_find 9 = .ok (.aload_n 2, 1) := by decide +kernel
theorem dX2_find_10 : decode cX2_find 10 = .ok (.getfield 26, 3) := by decide +kernel
theorem dX2_find_13 : decode cX2_find 13 = .ok (.aload_n 1, 1) := by decide +kernel
theorem dX2_find_14 : decode cX2_find 14 = .ok (.invokevirtual 31, 3) := by decide +kernel
theorem dX2_find_17 : decode cX2_find 17 = .ok (.ifCond .ne 4, 3) := by decide +kernel
theorem dX2_find_20 : decode cX2_find 20 = .ok (.return_, 1) := by decide +kernel
theorem dX2_find_21 : decode cX2_find 21 = .ok (.aload_n 1, 1) := by decide +kernel
theorem dX2_find_22 : decode cX2_find 22 = .ok (.iload_n 3, 1) := by decide +kernel
theorem dX2_find_23 : decode cX2_find 23 = .ok (.aload_n 2, 1) := by decide +kernel
theorem dX2_find_24 : decode cX2_find 24 = .ok (.getfield 35, 3) := by decide +kernel
theorem dX2_find_27 : decode cX2_find 27 = .ok (.bipush 63, 2) := by decide +kernel
theorem dX2_find_29 : decode cX2_find 29 = .ok (.invokevirtual 38, 3) := by decide +kernel
theorem dX2_find_32 : decode cX2_find 32 = .ok (.lstore 4, 2) := by decide +kernel
theorem dX2_find_34 : decode cX2_find 34 = .ok (.iconst 0, 1) := by decide +kernel
theorem dX2_find_35 : decode cX2_find 35 = .ok (.istore 6, 2) := by decide +kernel
theorem dX2_find_37 : decode cX2_find 37 = .ok (.iload 6, 2) := by decide +kernel
theorem dX2_find_39 : decode cX2_find 39 = .ok (.bipush 42, 2) := by decide +kernel
theorem dX2_find_41 : decode cX2_find 41 = .ok (.if_icmp .ge 87, 3) := by decide +kernel
theorem dX2_find_44 : decode cX2_find 44 = .ok (.aload_n 0, 1) := by decide +kernel
theorem dX2_find_45 : decode cX2_find 45 = .ok (.aload_n 1, 1) := by decide +kernel
theorem dX2_find_46 : decode cX2_find 46 = .ok (.aload_n 2, 1) := by decide +kernel
theorem dX2_find_47 : decode cX2_find 47 = .ok (.aload_n 1, 1) := by decide +kernel
theorem dX2_find_48 : decode cX2_find 48 = .ok (.getfield 44, 3) := by decide +kernel
theorem dX2_find_51 : decode cX2_find 51 = .ok (.iload_n 3, 1) := by decide +kernel
theorem dX2_find_52 : decode cX2_find 52 = .ok (.laload, 1) := by decide +kernel
theorem dX2_find_53 : decode cX2_find 53 = .ok (.invokevirtual 47, 3) := by decide +kernel
theorem dX2_find_56 : decode cX2_find 56 = .ok (.lstore 7, 2) := by decide +kernel
theorem dX2_find_58 : decode cX2_find 58 = .ok (.lload 7, 2) := by decide +kernel
theorem dX2_find_60 : decode cX2_find 60 = .ok (.aload_n 1, 1) := by decide +kernel
theorem dX2_find_61 : decode cX2_find 61 = .ok (.getfield 44, 3) := by decide +kernel
theorem dX2_find_64 : decode cX2_find 64 = .ok (.iload_n 3, 1) := by decide +kernel
theorem dX2_find_65 : decode cX2_find 65 = .ok (.laload, 1) := by decide +kernel
theorem dX2_find_66 : decode cX2_find 66 = .ok (.lxor, 1) := by decide +kernel
theorem dX2_find_67 : decode cX2_find 67 = .ok (.lload 4, 2) := by decide +kernel
theorem dX2_find_69 : decode cX2_find 69 = .ok (.ldc2_w 51, 3) := by decide +kernel
theorem dX2_find_72 : decode cX2_find 72 = .ok (.lxor, 1) := by decide +kernel
theorem dX2_find_73 : decode cX2_find 73 = .ok (.land, 1) := by decide +kernel
theorem dX2_find_74 : decode cX2_find 74 = .ok (.lconst 0, 1) := by decide +kernel
theorem dX2_find_75 : decode cX2_find 75 = .ok (.lcmp, 1) := by decide +kernel
theorem dX2_find_76 : decode cX2_find 76 = .ok (.ifCond .ne 33, 3) := by decide +kernel
theorem dX2_find_79 : decode cX2_find 79 = .ok (.aload_n 0, 1) := by decide +kernel
theorem dX2_find_80 : decode cX2_find 80 = .ok (.getfield 15, 3) := by decide +kernel
theorem dX2_find_83 : decode cX2_find 83 = .ok (.bipush 42, 2) := by decide +kernel
theorem dX2_find_85 : decode cX2_find 85 = .ok (.if_icmp .ge 24, 3) := by decide +kernel
theorem dX2_find_88 : decode cX2_find 88 = .ok (.aload_n 0, 1) := by decide +kernel
theorem dX2_find_89 : decode cX2_find 89 = .ok (.getfield 9, 3) := by decide +kernel
theorem dX2_find_92 : decode cX2_find 92 = .ok (.aload_n 0, 1) := by decide +kernel
theorem dX2_find_93 : decode cX2_find 93 = .ok (.getfield 15, 3) := by decide +kernel
theorem dX2_find_96 : decode cX2_find 96 = .ok (.lload 7, 2) := by decide +kernel
theorem dX2_find_98 : decode cX2_find 98 = .ok (.lastore, 1) := by decide +kernel
theorem dX2_find_99 : decode cX2_find 99 = .ok (.aload_n 0, 1) := by decide +kernel
theorem dX2_find_100 : decode cX2_find 100 = .ok (.dup, 1) := by decide +kernel
theorem dX2_find_101 : decode cX2_find 101 = .ok (.getfield 15, 3) := by decide +kernel
theorem dX2_find_104 : decode cX2_find 104 = .ok (.iconst 1, 1) := by decide +kernel
theorem dX2_find_105 : decode cX2_find 105 = .ok (.iadd, 1) := by decide +kernel
theorem dX2_find_106 : decode cX2_find 106 = .ok (.putfield 15, 3) := by decide +kernel
theorem dX2_find_109 : decode cX2_find 109 = .ok (.aload_n 0, 1) := by decide +kernel
theorem dX2_find_110 : decode cX2_find 110 = .ok (.getfield 22, 3) := by decide +kernel
theorem dX2_find_113 : decode cX2_find 113 = .ok (.invokevirtual 53, 3) := by decide +kernel
theorem dX2_find_116 : decode cX2_find 116 = .ok (.ifCond .ne 6, 3) := by decide +kernel
theorem dX2_find_119 : decode cX2_find 119 = .ok (.goto 9, 3) := by decide +kernel
theorem dX2_find_122 : decode cX2_find 122 = .ok (.iinc 6 1, 3) := by decide +kernel
theorem dX2_find_125 : decode cX2_find 125 = .ok (.goto (-88), 3) := by decide +kernel
theorem dX2_find_128 : decode cX2_find 128 = .ok (.return_, 1) := by decide +kernel
theorem dX2_picture_0 : decode cX2_picture 0 = .ok (.lload_n 3, 1) := by decide +kernel
theorem dX2_picture_1 : decode cX2_picture 1 = .ok (.lstore 5, 2) := by decide +kernel
theorem dX2_picture_3 : decode cX2_picture 3 = .ok (.iconst 0, 1) := by decide +kernel
theorem dX2_picture_4 : decode cX2_picture 4 = .ok (.istore 7, 2) := by decide +kernel
theorem dX2_picture_6 : decode cX2_picture 6 = .ok (.iload 7, 2) := by decide +kernel
theorem dX2_picture_8 : decode cX2_picture 8 = .ok (.aload_n 2, 1) := by decide +kernel
theorem dX2_picture_9 : decode cX2_picture 9 = .ok (.getfield 26, 3) := by decide +kernel
theorem dX2_picture_12 : decode cX2_picture 12 = .ok (.if_icmp .ge 59, 3) := by decide +kernel
theorem dX2_picture_15 : decode cX2_picture 15 = .ok (.aload_n 0, 1) := by decide +kernel
theorem dX2_picture_16 : decode cX2_picture 16 = .ok (.getfield 22, 3) := by decide +kernel
theorem dX2_picture_19 : decode cX2_picture 19 = .ok (.iload 7, 2) := by decide +kernel
theorem dX2_picture_21 : decode cX2_picture 21 = .ok (.invokevirtual 57, 3) := by decide +kernel
theorem dX2_picture_24 : decode cX2_picture 24 = .ok (.istore 8, 2) := by decide +kernel
theorem dX2_picture_26 : decode cX2_picture 26 = .ok (.lload 5, 2) := by decide +kernel
theorem dX2_picture_28 : decode cX2_picture 28 = .ok (.sipush 4095, 3) := by decide +kernel
theorem dX2_picture_31 : decode cX2_picture 31 = .ok (.iload 8, 2) := by decide +kernel
theorem dX2_picture_33 : decode cX2_picture 33 = .ok (.invokestatic 61, 3) := by decide +kernel
theorem dX2_picture_36 : decode cX2_picture 36 = .ok (.ldc2_w 51, 3) := by decide +kernel
theorem dX2_picture_39 : decode cX2_picture 39 = .ok (.lxor, 1) := by decide +kernel
theorem dX2_picture_40 : decode cX2_picture 40 = .ok (.land, 1) := by decide +kernel
theorem dX2_picture_41 : decode cX2_picture 41 = .ok (.lstore 5, 2) := by decide +kernel
theorem dX2_picture_43 : decode cX2_picture 43 = .ok (.lload 5, 2) := by decide +kernel
theorem dX2_picture_45 : decode cX2_picture 45 = .ok (.aload_n 1, 1) := by decide +kernel
theorem dX2_picture_46 : decode cX2_picture 46 = .ok (.getfield 65, 3) := by decide +kernel
theorem dX2_picture_49 : decode cX2_picture 49 = .ok (.aload_n 2, 1) := by decide +kernel
theorem dX2_picture_50 : decode cX2_picture 50 = .ok (.getfield 69, 3) := by decide +kernel
theorem dX2_picture_53 : decode cX2_picture 53 = .ok (.iload 7, 2) := by decide +kernel
theorem dX2_picture_55 : decode cX2_picture 55 = .ok (.iaload, 1) := by decide +kernel
theorem dX2_picture_56 : decode cX2_picture 56 = .ok (.iaload, 1) := by decide +kernel
theorem dX2_picture_57 : decode cX2_picture 57 = .ok (.iload 8, 2) := by decide +kernel
theorem dX2_picture_59 : decode cX2_picture 59 = .ok (.invokestatic 61, 3) := by decide +kernel
theorem dX2_picture_62 : decode cX2_picture 62 = .ok (.lor, 1) := by decide +kernel
theorem dX2_picture_63 : decode cX2_picture 63 = .ok (.lstore 5, 2) := by decide +kernel
theorem dX2_picture_65 : decode cX2_picture 65 = .ok (.iinc 7 1, 3) := by decide +kernel
theorem dX2_picture_68 : decode cX2_picture 68 = .ok (.goto (-62), 3) := by decide +kernel
theorem dX2_picture_71 : decode cX2_picture 71 = .ok (.lload 5, 2) := by decide +kernel
theorem dX2_picture_73 : decode cX2_picture 73 = .ok (.lreturn, 1) := by decide +kernel
theorem dX2_fewestUnlike_0 : decode cX2_fewestUnlike 0 = .ok (.iconst (-1), 1) := by decide +kernel
theorem dX2_fewestUnlike_1 : decode cX2_fewestUnlike 1 = .ok (.istore_n 2, 1) := by decide +kernel
theorem dX2_fewestUnlike_2 : decode cX2_fewestUnlike 2 = .ok (.iconst 0, 1) := by decide +kernel
theorem dX2_fewestUnlike_3 : decode cX2_fewestUnlike 3 = .ok (.istore_n 3, 1) := by decide +kernel
theorem dX2_fewestUnlike_4 : decode cX2_fewestUnlike 4 = .ok (.iload_n 3, 1) := by decide +kernel
theorem dX2_fewestUnlike_5 : decode cX2_fewestUnlike 5 = .ok (.aload_n 0, 1) := by decide +kernel
theorem dX2_fewestUnlike_6 : decode cX2_fewestUnlike 6 = .ok (.getfield 15, 3) := by decide +kernel
theorem dX2_fewestUnlike_9 : decode cX2_fewestUnlike 9 = .ok (.if_icmp .ge 60, 3) := by decide +kernel
theorem dX2_fewestUnlike_12 : decode cX2_fewestUnlike 12 = .ok (.iconst 0, 1) := by decide +kernel
theorem dX2_fewestUnlike_13 : decode cX2_fewestUnlike 13 = .ok (.istore 4, 2) := by decide +kernel
theorem dX2_fewestUnlike_15 : decode cX2_fewestUnlike 15 = .ok (.iload 4, 2) := by decide +kernel
theorem dX2_fewestUnlike_17 : decode cX2_fewestUnlike 17 = .ok (.aload_n 1, 1) := by decide +kernel
theorem dX2_fewestUnlike_18 : decode cX2_fewestUnlike 18 = .ok (.getfield 15, 3) := by decide +kernel
theorem dX2_fewestUnlike_21 : decode cX2_fewestUnlike 21 = .ok (.if_icmp .ge 42, 3) := by decide +kernel
theorem dX2_fewestUnlike_24 : decode cX2_fewestUnlike 24 = .ok (.aload_n 0, 1) := by decide +kernel
theorem dX2_fewestUnlike_25 : decode cX2_fewestUnlike 25 = .ok (.getfield 9, 3) := by decide +kernel
theorem dX2_fewestUnlike_28 : decode cX2_fewestUnlike 28 = .ok (.iload_n 3, 1) := by decide +kernel
theorem dX2_fewestUnlike_29 : decode cX2_fewestUnlike 29 = .ok (.laload, 1) := by decide +kernel
theorem dX2_fewestUnlike_30 : decode cX2_fewestUnlike 30 = .ok (.aload_n 1, 1) := by decide +kernel
theorem dX2_fewestUnlike_31 : decode cX2_fewestUnlike 31 = .ok (.getfield 9, 3) := by decide +kernel
theorem dX2_fewestUnlike_34 : decode cX2_fewestUnlike 34 = .ok (.iload 4, 2) := by decide +kernel
theorem dX2_fewestUnlike_36 : decode cX2_fewestUnlike 36 = .ok (.laload, 1) := by decide +kernel
theorem dX2_fewestUnlike_37 : decode cX2_fewestUnlike 37 = .ok (.lxor, 1) := by decide +kernel
theorem dX2_fewestUnlike_38 : decode cX2_fewestUnlike 38 = .ok (.invokestatic 72, 3) := by decide +kernel
theorem dX2_fewestUnlike_41 : decode cX2_fewestUnlike 41 = .ok (.istore 5, 2) := by decide +kernel
theorem dX2_fewestUnlike_43 : decode cX2_fewestUnlike 43 = .ok (.iload_n 2, 1) := by decide +kernel
theorem dX2_fewestUnlike_44 : decode cX2_fewestUnlike 44 = .ok (.iconst (-1), 1) := by decide +kernel
theorem dX2_fewestUnlike_45 : decode cX2_fewestUnlike 45 = .ok (.if_icmp .eq 9, 3) := by decide +kernel
theorem dX2_fewestUnlike_48 : decode cX2_fewestUnlike 48 = .ok (.iload 5, 2) := by decide +kernel
theorem dX2_fewestUnlike_50 : decode cX2_fewestUnlike 50 = .ok (.iload_n 2, 1) := by decide +kernel
theorem dX2_fewestUnlike_51 : decode cX2_fewestUnlike 51 = .ok (.if_icmp .ge 6, 3) := by decide +kernel
theorem dX2_fewestUnlike_54 : decode cX2_fewestUnlike 54 = .ok (.iload 5, 2) := by decide +kernel
theorem dX2_fewestUnlike_56 : decode cX2_fewestUnlike 56 = .ok (.istore_n 2, 1) := by decide +kernel
theorem dX2_fewestUnlike_57 : decode cX2_fewestUnlike 57 = .ok (.iinc 4 1, 3) := by decide +kernel
theorem dX2_fewestUnlike_60 : decode cX2_fewestUnlike 60 = .ok (.goto (-45), 3) := by decide +kernel
theorem dX2_fewestUnlike_63 : decode cX2_fewestUnlike 63 = .ok (.iinc 3 1, 3) := by decide +kernel
theorem dX2_fewestUnlike_66 : decode cX2_fewestUnlike 66 = .ok (.goto (-62), 3) := by decide +kernel
theorem dX2_fewestUnlike_69 : decode cX2_fewestUnlike 69 = .ok (.iload_n 2, 1) := by decide +kernel
theorem dX2_fewestUnlike_70 : decode cX2_fewestUnlike 70 = .ok (.ireturn, 1) := by decide +kernel
theorem dX3_init_0 : decode cX3_init 0 = .ok (.aload_n 0, 1) := by decide +kernel
theorem dX3_init_1 : decode cX3_init 1 = .ok (.invokespecial 3, 3) := by decide +kernel
theorem dX3_init_4 : decode cX3_init 4 = .ok (.aload_n 0, 1) := by decide +kernel
theorem dX3_init_5 : decode cX3_init 5 = .ok (.iconst 3, 1) := by decide +kernel
theorem dX3_init_6 : decode cX3_init 6 = .ok (.newarray .int, 2) := by decide +kernel
theorem dX3_init_8 : decode cX3_init 8 = .ok (.putfield 9, 3) := by decide +kernel
theorem dX3_init_11 : decode cX3_init 11 = .ok (.aload_n 0, 1) := by decide +kernel
theorem dX3_init_12 : decode cX3_init 12 = .ok (.iconst 0, 1) := by decide +kernel
theorem dX3_init_13 : decode cX3_init 13 = .ok (.putfield 15, 3) := by decide +kernel
theorem dX3_init_16 : decode cX3_init 16 = .ok (.aload_n 0, 1) := by decide +kernel
theorem dX3_init_17 : decode cX3_init 17 = .ok (.iconst 0, 1) := by decide +kernel
theorem dX3_init_18 : decode cX3_init 18 = .ok (.putfield 19, 3) := by decide +kernel
theorem dX3_init_21 : decode cX3_init 21 = .ok (.aload_n 0, 1) := by decide +kernel
theorem dX3_init_22 : decode cX3_init 22 = .ok (.iconst 0, 1) := by decide +kernel
theorem dX3_init_23 : decode cX3_init 23 = .ok (.putfield 22, 3) := by decide +kernel
theorem dX3_init_26 : decode cX3_init 26 = .ok (.aload_n 0, 1) := by decide +kernel
theorem dX3_init_27 : decode cX3_init 27 = .ok (.iconst 0, 1) := by decide +kernel
theorem dX3_init_28 : decode cX3_init 28 = .ok (.putfield 25, 3) := by decide +kernel
theorem dX3_init_31 : decode cX3_init 31 = .ok (.return_, 1) := by decide +kernel
theorem dX3_begin_0 : decode cX3_begin 0 = .ok (.aload_n 0, 1) := by decide +kernel
theorem dX3_begin_1 : decode cX3_begin 1 = .ok (.iload_n 1, 1) := by decide +kernel
theorem dX3_begin_2 : decode cX3_begin 2 = .ok (.putfield 19, 3) := by decide +kernel
theorem dX3_begin_5 : decode cX3_begin 5 = .ok (.aload_n 0, 1) := by decide +kernel
theorem dX3_begin_6 : decode cX3_begin 6 = .ok (.aload_n 2, 1) := by decide +kernel
theorem dX3_begin_7 : decode cX3_begin 7 = .ok (.getfield 28, 3) := by decide +kernel
theorem dX3_begin_10 : decode cX3_begin 10 = .ok (.iconst 3, 1) := by decide +kernel
theorem dX3_begin_11 : decode cX3_begin 11 = .ok (.isub, 1) := by decide +kernel
theorem dX3_begin_12 : decode cX3_begin 12 = .ok (.putfield 22, 3) := by decide +kernel
theorem dX3_begin_15 : decode cX3_begin 15 = .ok (.aload_n 0, 1) := by decide +kernel
theorem dX3_begin_16 : decode cX3_begin 16 = .ok (.aload_n 2, 1) := by decide +kernel
theorem dX3_begin_17 : decode cX3_begin 17 = .ok (.getfield 33, 3) := by decide +kernel
theorem dX3_begin_20 : decode cX3_begin 20 = .ok (.iconst 4, 1) := by decide +kernel
theorem dX3_begin_21 : decode cX3_begin 21 = .ok (.isub, 1) := by decide +kernel
theorem dX3_begin_22 : decode cX3_begin 22 = .ok (.putfield 25, 3) := by decide +kernel
theorem dX3_begin_25 : decode cX3_begin 25 = .ok (.aload_n 0, 1) := by decide +kernel
theorem dX3_begin_26 : decode cX3_begin 26 = .ok (.iconst 0, 1) := by decide +kernel
theorem dX3_begin_27 : decode cX3_begin 27 = .ok (.putfield 15, 3) := by decide +kernel
theorem dX3_begin_30 : decode cX3_begin 30 = .ok (.aload_n 0, 1) := by decide +kernel
theorem dX3_begin_31 : decode cX3_begin 31 = .ok (.iconst 0, 1) := by decide +kernel
theorem dX3_begin_32 : decode cX3_begin 32 = .ok (.iconst 0, 1) := by decide +kernel
theorem dX3_begin_33 : decode cX3_begin 33 = .ok (.invokevirtual 36, 3) := by decide +kernel
theorem dX3_begin_36 : decode cX3_begin 36 = .ok (.aload_n 0, 1) := by decide +kernel
theorem dX3_begin_37 : decode cX3_begin 37 = .ok (.iconst 0, 1) := by decide +kernel
theorem dX3_begin_38 : decode cX3_begin 38 = .ok (.invokevirtual 40, 3) := by decide +kernel
theorem dX3_begin_41 : decode cX3_begin 41 = .ok (.ifCond .lt 7, 3) := by decide +kernel
theorem dX3_begin_44 : decode cX3_begin 44 = .ok (.iconst 1, 1) := by decide +kernel
theorem dX3_begin_45 : decode cX3_begin 45 = .ok (.goto 4, 3) := by decide +kernel
theorem dX3_begin_48 : decode cX3_begin 48 = .ok (.iconst 0, 1) := by decide +kernel
theorem dX3_begin_49 : decode cX3_begin 49 = .ok (.ireturn, 1) := by decide +kernel
theorem dX3_goOn_0 : decode cX3_goOn 0 = .ok (.aload_n 0, 1) := by decide +kernel
theorem dX3_goOn_1 : decode cX3_goOn 1 = .ok (.getfield 19, 3) := by decide +kernel
theorem dX3_goOn_4 : decode cX3_goOn 4 = .ok (.iconst 1, 1) := by decide +kernel
theorem dX3_goOn_5 : decode cX3_goOn 5 = .ok (.isub, 1) := by decide +kernel
theorem dX3_goOn_6 : decode cX3_goOn 6 = .ok (.istore_n 1, 1) := by decide +kernel
theorem dX3_goOn_7 : decode cX3_goOn 7 = .ok (.iload_n 1, 1) := by decide +kernel
theorem dX3_goOn_8 : decode cX3_goOn 8 = .ok (.ifCond .lt 38, 3) := by decide +kernel
theorem dX3_goOn_11 : decode cX3_goOn 11 = .ok (.aload_n 0, 1) := by decide +kernel
theorem dX3_goOn_12 : decode cX3_goOn 12 = .ok (.getfield 9, 3) := by decide +kernel
theorem dX3_goOn_15 : decode cX3_goOn 15 = .ok (.iload_n 1, 1) := by decide +kernel
theorem dX3_goOn_16 : decode cX3_goOn 16 = .ok (.iaload, 1) := by decide +kernel
theorem dX3_goOn_17 : decode cX3_goOn 17 = .ok (.aload_n 0, 1) := by decide +kernel
theorem dX3_goOn_18 : decode cX3_goOn 18 = .ok (.iload_n 1, 1) := by decide +kernel
theorem dX3_goOn_19 : decode cX3_goOn 19 = .ok (.invokevirtual 40, 3) := by decide +kernel
theorem dX3_goOn_22 : decode cX3_goOn 22 = .ok (.if_icmp .ge 18, 3) := by decide +kernel
theorem dX3_goOn_25 : decode cX3_goOn 25 = .ok (.aload_n 0, 1) := by decide +kernel
theorem dX3_goOn_26 : decode cX3_goOn 26 = .ok (.iload_n 1, 1) := by decide +kernel
theorem dX3_goOn_27 : decode cX3_goOn 27 = .ok (.aload_n 0, 1) := by decide +kernel
theorem dX3_goOn_28 : decode cX3_goOn 28 = .ok (.getfield 9, 3) := by decide +kernel
theorem dX3_goOn_31 : decode cX3_goOn 31 = .ok (.iload_n 1, 1) := by decide +kernel
theorem dX3_goOn_32 : decode cX3_goOn 32 = .ok (.iaload, 1) := by decide +kernel
theorem dX3_goOn_33 : decode cX3_goOn 33 = .ok (.iconst 1, 1) := by decide +kernel
theorem dX3_goOn_34 : decode cX3_goOn 34 = .ok (.iadd, 1) := by decide +kernel
theorem dX3_goOn_35 : decode cX3_goOn 35 = .ok (.invokevirtual 36, 3) := by decide +kernel
theorem dX3_goOn_38 : decode cX3_goOn 38 = .ok (.iconst 1, 1) := by decide +kernel
theorem dX3_goOn_39 : decode cX3_goOn 39 = .ok (.ireturn, 1) := by decide +kernel
theorem dX3_goOn_40 : decode cX3_goOn 40 = .ok (.iinc 1 (-1), 3) := by decide +kernel
theorem dX3_goOn_43 : decode cX3_goOn 43 = .ok (.goto (-36), 3) := by decide +kernel
theorem dX3_goOn_46 : decode cX3_goOn 46 = .ok (.aload_n 0, 1) := by decide +kernel
theorem dX3_goOn_47 : decode cX3_goOn 47 = .ok (.dup, 1) := by decide +kernel
theorem dX3_goOn_48 : decode cX3_goOn 48 = .ok (.getfield 15, 3) := by decide +kernel
theorem dX3_goOn_51 : decode cX3_goOn 51 = .ok (.iconst 1, 1) := by decide +kernel
theorem dX3_goOn_52 : decode cX3_goOn 52 = .ok (.iadd, 1) := by decide +kernel
theorem dX3_goOn_53 : decode cX3_goOn 53 = .ok (.putfield 15, 3) := by decide +kernel
theorem dX3_goOn_56 : decode cX3_goOn 56 = .ok (.aload_n 0, 1) := by decide +kernel
theorem dX3_goOn_57 : decode cX3_goOn 57 = .ok (.iconst 0, 1) := by decide +kernel
theorem dX3_goOn_58 : decode cX3_goOn 58 = .ok (.iconst 0, 1) := by decide +kernel
theorem dX3_goOn_59 : decode cX3_goOn 59 = .ok (.invokevirtual 36, 3) := by decide +kernel
theorem dX3_goOn_62 : decode cX3_goOn 62 = .ok (.aload_n 0, 1) := by decide +kernel
theorem dX3_goOn_63 : decode cX3_goOn 63 = .ok (.getfield 15, 3) := by decide +kernel
theorem dX3_goOn_66 : decode cX3_goOn 66 = .ok (.aload_n 0, 1) := by decide +kernel
theorem dX3_goOn_67 : decode cX3_goOn 67 = .ok (.getfield 25, 3) := by decide +kernel
theorem dX3_goOn_70 : decode cX3_goOn 70 = .ok (.if_icmp .gt 7, 3) := by decide +kernel
theorem dX3_goOn_73 : decode cX3_goOn 73 = .ok (.iconst 1, 1) := by decide +kernel
theorem dX3_goOn_74 : decode cX3_goOn 74 = .ok (.goto 4, 3) := by decide +kernel
theorem dX3_goOn_77 : decode cX3_goOn 77 = .ok (.iconst 0, 1) := by decide +kernel
theorem dX3_goOn_78 : decode cX3_goOn 78 = .ok (.ireturn, 1) := by decide +kernel
theorem dX3_window_0 : decode cX3_window 0 = .ok (.bipush 12, 2) := by decide +kernel
theorem dX3_window_2 : decode cX3_window 2 = .ok (.aload_n 0, 1) := by decide +kernel
theorem dX3_window_3 : decode cX3_window 3 = .ok (.getfield 15, 3) := by decide +kernel
theorem dX3_window_6 : decode cX3_window 6 = .ok (.imul, 1) := by decide +kernel
theorem dX3_window_7 : decode cX3_window 7 = .ok (.aload_n 0, 1) := by decide +kernel
theorem dX3_window_8 : decode cX3_window 8 = .ok (.getfield 9, 3) := by decide +kernel
theorem dX3_window_11 : decode cX3_window 11 = .ok (.iload_n 1, 1) := by decide +kernel
theorem dX3_window_12 : decode cX3_window 12 = .ok (.iaload, 1) := by decide +kernel
theorem dX3_window_13 : decode cX3_window 13 = .ok (.iadd, 1) := by decide +kernel
theorem dX3_window_14 : decode cX3_window 14 = .ok (.ireturn, 1) := by decide +kernel
theorem dX3_mostToRight_0 : decode cX3_mostToRight 0 = .ok (.aload_n 0, 1) := by decide +kernel
theorem dX3_mostToRight_1 : decode cX3_mostToRight 1 = .ok (.getfield 22, 3) := by decide +kernel
theorem dX3_mostToRight_4 : decode cX3_mostToRight 4 = .ok (.iconst 4, 1) := by decide +kernel
theorem dX3_mostToRight_5 : decode cX3_mostToRight 5 = .ok (.aload_n 0, 1) := by decide +kernel
theorem dX3_mostToRight_6 : decode cX3_mostToRight 6 = .ok (.getfield 19, 3) := by decide +kernel
theorem dX3_mostToRight_9 : decode cX3_mostToRight 9 = .ok (.iconst 1, 1) := by decide +kernel
theorem dX3_mostToRight_10 : decode cX3_mostToRight 10 = .ok (.isub, 1) := by decide +kernel
theorem dX3_mostToRight_11 : decode cX3_mostToRight 11 = .ok (.iload_n 1, 1) := by decide +kernel
theorem dX3_mostToRight_12 : decode cX3_mostToRight 12 = .ok (.isub, 1) := by decide +kernel
theorem dX3_mostToRight_13 : decode cX3_mostToRight 13 = .ok (.imul, 1) := by decide +kernel
theorem dX3_mostToRight_14 : decode cX3_mostToRight 14 = .ok (.isub, 1) := by decide +kernel
theorem dX3_mostToRight_15 : decode cX3_mostToRight 15 = .ok (.ireturn, 1) := by decide +kernel
theorem dX3_packFrom_0 : decode cX3_packFrom 0 = .ok (.iload_n 1, 1) := by decide +kernel
theorem dX3_packFrom_1 : decode cX3_packFrom 1 = .ok (.istore_n 3, 1) := by decide +kernel
theorem dX3_packFrom_2 : decode cX3_packFrom 2 = .ok (.iload_n 3, 1) := by decide +kernel
theorem dX3_packFrom_3 : decode cX3_packFrom 3 = .ok (.aload_n 0, 1) := by decide +kernel
theorem dX3_packFrom_4 : decode cX3_packFrom 4 = .ok (.getfield 19, 3) := by decide +kernel
theorem dX3_packFrom_7 : decode cX3_packFrom 7 = .ok (.if_icmp .ge 22, 3) := by decide +kernel
theorem dX3_packFrom_10 : decode cX3_packFrom 10 = .ok (.aload_n 0, 1) := by decide +kernel
theorem dX3_packFrom_11 : decode cX3_packFrom 11 = .ok (.getfield 9, 3) := by decide +kernel
theorem dX3_packFrom_14 : decode cX3_packFrom 14 = .ok (.iload_n 3, 1) := by decide +kernel
theorem dX3_packFrom_15 : decode cX3_packFrom 15 = .ok (.iload_n 2, 1) := by decide +kernel
theorem dX3_packFrom_16 : decode cX3_packFrom 16 = .ok (.iconst 4, 1) := by decide +kernel
theorem dX3_packFrom_17 : decode cX3_packFrom 17 = .ok (.iload_n 3, 1) := by decide +kernel
theorem dX3_packFrom_18 : decode cX3_packFrom 18 = .ok (.iload_n 1, 1) := by decide +kernel
theorem dX3_packFrom_19 : decode cX3_packFrom 19 = .ok (.isub, 1) := by decide +kernel
theorem dX3_packFrom_20 : decode cX3_packFrom 20 = .ok (.imul, 1) := by decide +kernel
theorem dX3_packFrom_21 : decode cX3_packFrom 21 = .ok (.iadd, 1) := by decide +kernel
theorem dX3_packFrom_22 : decode cX3_packFrom 22 = .ok (.iastore, 1) := by decide +kernel
theorem dX3_packFrom_23 : decode cX3_packFrom 23 = .ok (.iinc 3 1, 3) := by decide +kernel
theorem dX3_packFrom_26 : decode cX3_packFrom 26 = .ok (.goto (-24), 3) := by decide +kernel
theorem dX3_packFrom_29 : decode cX3_packFrom 29 = .ok (.return_, 1) := by decide +kernel
theorem dX4_init_0 : decode cX4_init 0 = .ok (.aload_n 0, 1) := by decide +kernel
theorem dX4_init_1 : decode cX4_init 1 = .ok (.invokespecial 3, 3) := by decide +kernel
theorem dX4_init_4 : decode cX4_init 4 = .ok (.aload_n 0, 1) := by decide +kernel
theorem dX4_init_5 : decode cX4_init 5 = .ok (.iconst 0, 1) := by decide +kernel
theorem dX4_init_6 : decode cX4_init 6 = .ok (.putfield 9, 3) := by decide +kernel
theorem dX4_init_9 : decode cX4_init 9 = .ok (.aload_n 0, 1) := by decide +kernel
theorem dX4_init_10 : decode cX4_init 10 = .ok (.iconst 0, 1) := by decide +kernel
theorem dX4_init_11 : decode cX4_init 11 = .ok (.putfield 15, 3) := by decide +kernel
theorem dX4_init_14 : decode cX4_init 14 = .ok (.aload_n 0, 1) := by decide +kernel
theorem dX4_init_15 : decode cX4_init 15 = .ok (.sipush 200, 3) := by decide +kernel
theorem dX4_init_18 : decode cX4_init 18 = .ok (.newarray .int, 2) := by decide +kernel
theorem dX4_init_20 : decode cX4_init 20 = .ok (.putfield 18, 3) := by decide +kernel
theorem dX4_init_23 : decode cX4_init 23 = .ok (.aload_n 0, 1) := by decide +kernel
theorem dX4_init_24 : decode cX4_init 24 = .ok (.bipush 100, 2) := by decide +kernel
theorem dX4_init_26 : decode cX4_init 26 = .ok (.newarray .int, 2) := by decide +kernel
theorem dX4_init_28 : decode cX4_init 28 = .ok (.putfield 22, 3) := by decide +kernel
theorem dX4_init_31 : decode cX4_init 31 = .ok (.aload_n 0, 1) := by decide +kernel
theorem dX4_init_32 : decode cX4_init 32 = .ok (.sipush 300, 3) := by decide +kernel
theorem dX4_init_35 : decode cX4_init 35 = .ok (.newarray .int, 2) := by decide +kernel
theorem dX4_init_37 : decode cX4_init 37 = .ok (.putfield 25, 3) := by decide +kernel
theorem dX4_init_40 : decode cX4_init 40 = .ok (.aload_n 0, 1) := by decide +kernel
theorem dX4_init_41 : decode cX4_init 41 = .ok (.iconst 0, 1) := by decide +kernel
theorem dX4_init_42 : decode cX4_init 42 = .ok (.putfield 28, 3) := by decide +kernel
theorem dX4_init_45 : decode cX4_init 45 = .ok (.aload_n 0, 1) := by decide +kernel
theorem dX4_init_46 : decode cX4_init 46 = .ok (.iconst 3, 1) := by decide +kernel
theorem dX4_init_47 : decode cX4_init 47 = .ok (.putfield 31, 3) := by decide +kernel
theorem dX4_init_50 : decode cX4_init 50 = .ok (.aload_n 0, 1) := by decide +kernel
theorem dX4_init_51 : decode cX4_init 51 = .ok (.iconst 0, 1) := by decide +kernel
theorem dX4_init_52 : decode cX4_init 52 = .ok (.putfield 34, 3) := by decide +kernel
theorem dX4_init_55 : decode cX4_init 55 = .ok (.aload_n 0, 1) := by decide +kernel
theorem dX4_init_56 : decode cX4_init 56 = .ok (.iconst 0, 1) := by decide +kernel
theorem dX4_init_57 : decode cX4_init 57 = .ok (.putfield 37, 3) := by decide +kernel
theorem dX4_init_60 : decode cX4_init 60 = .ok (.return_, 1) := by decide +kernel
theorem dX4_addBytes_0 : decode cX4_addBytes 0 = .ok (.iload_n 3, 1) := by decide +kernel
theorem dX4_addBytes_1 : decode cX4_addBytes 1 = .ok (.iconst 1, 1) := by decide +kernel
theorem dX4_addBytes_2 : decode cX4_addBytes 2 = .ok (.if_icmp .lt 9, 3) := by decide +kernel
theorem dX4_addBytes_5 : decode cX4_addBytes 5 = .ok (.iload_n 3, 1) := by decide +kernel
theorem dX4_addBytes_6 : decode cX4_addBytes 6 = .ok (.bipush 8, 2) := by decide +kernel
theorem dX4_addBytes_8 : decode cX4_addBytes 8 = .ok (.if_icmp .le 6, 3) := by decide +kernel
theorem dX4_addBytes_11 : decode cX4_addBytes 11 = .ok (.bipush (-2), 2) := by decide +kernel
theorem dX4_addBytes_13 : decode cX4_addBytes 13 = .ok (.ireturn, 1) := by decide +kernel
theorem dX4_addBytes_14 : decode cX4_addBytes 14 = .ok (.aload_n 0, 1) := by decide +kernel
theorem dX4_addBytes_15 : decode cX4_addBytes 15 = .ok (.getfield 9, 3) := by decide +kernel
theorem dX4_addBytes_18 : decode cX4_addBytes 18 = .ok (.iload_n 3, 1) := by decide +kernel
theorem dX4_addBytes_19 : decode cX4_addBytes 19 = .ok (.iadd, 1) := by decide +kernel
theorem dX4_addBytes_20 : decode cX4_addBytes 20 = .ok (.sipush 200, 3) := by decide +kernel
theorem dX4_addBytes_23 : decode cX4_addBytes 23 = .ok (.if_icmp .le 6, 3) := by decide +kernel
theorem dX4_addBytes_26 : decode cX4_addBytes 26 = .ok (.bipush (-4), 2) := by decide +kernel
theorem dX4_addBytes_28 : decode cX4_addBytes 28 = .ok (.ireturn, 1) := by decide +kernel
theorem dX4_addBytes_29 : decode cX4_addBytes 29 = .ok (.iload_n 3, 1) := by decide +kernel
theorem dX4_addBytes_30 : decode cX4_addBytes 30 = .ok (.iconst 1, 1) := by decide +kernel
theorem dX4_addBytes_31 : decode cX4_addBytes 31 = .ok (.isub, 1) := by decide +kernel
theorem dX4_addBytes_32 : decode cX4_addBytes 32 = .ok (.istore 4, 2) := by decide +kernel
theorem dX4_addBytes_34 : decode cX4_addBytes 34 = .ok (.iload 4, 2) := by decide +kernel
theorem dX4_addBytes_36 : decode cX4_addBytes 36 = .ok (.ifCond .lt 40, 3) := by decide +kernel
theorem dX4_addBytes_39 : decode cX4_addBytes 39 = .ok (.aload_n 0, 1) := by decide +kernel
theorem dX4_addBytes_40 : decode cX4_addBytes 40 = .ok (.getfield 18, 3) := by decide +kernel
theorem dX4_addBytes_43 : decode cX4_addBytes 43 = .ok (.aload_n 0, 1) := by decide +kernel
theorem dX4_addBytes_44 : decode cX4_addBytes 44 = .ok (.getfield 9, 3) := by decide +kernel
theorem dX4_addBytes_47 : decode cX4_addBytes 47 = .ok (.lload_n 1, 1) := by decide +kernel
theorem dX4_addBytes_48 : decode cX4_addBytes 48 = .ok (.bipush 8, 2) := by decide +kernel
theorem dX4_addBytes_50 : decode cX4_addBytes 50 = .ok (.iload 4, 2) := by decide +kernel
theorem dX4_addBytes_52 : decode cX4_addBytes 52 = .ok (.imul, 1) := by decide +kernel
theorem dX4_addBytes_53 : decode cX4_addBytes 53 = .ok (.lushr, 1) := by decide +kernel
theorem dX4_addBytes_54 : decode cX4_addBytes 54 = .ok (.ldc2_w 40, 3) := by decide +kernel
theorem dX4_addBytes_57 : decode cX4_addBytes 57 = .ok (.land, 1) := by decide +kernel
theorem dX4_addBytes_58 : decode cX4_addBytes 58 = .ok (.l2i, 1) := by decide +kernel
theorem dX4_addBytes_59 : decode cX4_addBytes 59 = .ok (.iastore, 1) := by decide +kernel
theorem dX4_addBytes_60 : decode cX4_addBytes 60 = .ok (.aload_n 0, 1) := by decide +kernel
theorem dX4_addBytes_61 : decode cX4_addBytes 61 = .ok (.dup, 1) := by decide +kernel
theorem dX4_addBytes_62 : decode cX4_addBytes 62 = .ok (.getfield 9, 3) := by decide +kernel
theorem dX4_addBytes_65 : decode cX4_addBytes 65 = .ok (.iconst 1, 1) := by decide +kernel
theorem dX4_addBytes_66 : decode cX4_addBytes 66 = .ok (.iadd, 1) := by decide +kernel
theorem dX4_addBytes_67 : decode cX4_addBytes 67 = .ok (.putfield 9, 3) := by decide +kernel
theorem dX4_addBytes_70 : decode cX4_addBytes 70 = .ok (.iinc 4 (-1), 3) := by decide +kernel
theorem dX4_addBytes_73 : decode cX4_addBytes 73 = .ok (.goto (-39), 3) := by decide +kernel
theorem dX4_addBytes_76 : decode cX4_addBytes 76 = .ok (.aload_n 0, 1) := by decide +kernel
theorem dX4_addBytes_77 : decode cX4_addBytes 77 = .ok (.getfield 9, 3) := by decide +kernel
theorem dX4_addBytes_80 : decode cX4_addBytes 80 = .ok (.ireturn, 1) := by decide +kernel
theorem dX4_empty_0 : decode cX4_empty 0 = .ok (.aload_n 0, 1) := by decide +kernel
theorem dX4_empty_1 : decode cX4_empty 1 = .ok (.getfield 9, 3) := by decide +kernel
theorem dX4_empty_4 : decode cX4_empty 4 = .ok (.istore_n 1, 1) := by decide +kernel
theorem dX4_empty_5 : decode cX4_empty 5 = .ok (.aload_n 0, 1) := by decide +kernel
theorem dX4_empty_6 : decode cX4_empty 6 = .ok (.iconst 0, 1) := by decide +kernel
theorem dX4_empty_7 : decode cX4_empty 7 = .ok (.putfield 9, 3) := by decide +kernel
theorem dX4_empty_10 : decode cX4_empty 10 = .ok (.iload_n 1, 1) := by decide +kernel
theorem dX4_empty_11 : decode cX4_empty 11 = .ok (.ireturn, 1) := by decide +kernel
theorem dX4_parse_0 : decode cX4_parse 0 = .ok (.aload_n 0, 1) := by decide +kernel
theorem dX4_parse_1 : decode cX4_parse 1 = .ok (.iconst 0, 1) := by decide +kernel
theorem dX4_parse_2 : decode cX4_parse 2 = .ok (.putfield 15, 3) := by decide +kernel
theorem dX4_parse_5 : decode cX4_parse 5 = .ok (.aload_n 0, 1) := by decide +kernel
theorem dX4_parse_6 : decode cX4_parse 6 = .ok (.iconst 0, 1) := by decide +kernel
theorem dX4_parse_7 : decode cX4_parse 7 = .ok (.putfield 28, 3) := by decide +kernel
theorem dX4_parse_10 : decode cX4_parse 10 = .ok (.aload_n 0, 1) := by decide +kernel
theorem dX4_parse_11 : decode cX4_parse 11 = .ok (.getfield 15, 3) := by decide +kernel
theorem dX4_parse_14 : decode cX4_parse 14 = .ok (.bipush 100, 2) := by decide +kernel
theorem dX4_parse_16 : decode cX4_parse 16 = .ok (.if_icmp .ge 58, 3) := by decide +kernel
theorem dX4_parse_19 : decode cX4_parse 19 = .ok (.aload_n 0, 1) := by decide +kernel
theorem dX4_parse_20 : decode cX4_parse 20 = .ok (.invokevirtual 42, 3) := by decide +kernel
theorem dX4_parse_23 : decode cX4_parse 23 = .ok (.aload_n 0, 1) := by decide +kernel
theorem dX4_parse_24 : decode cX4_parse 24 = .ok (.getfield 31, 3) := by decide +kernel
theorem dX4_parse_27 : decode cX4_parse 27 = .ok (.iconst 3, 1) := by decide +kernel
theorem dX4_parse_28 : decode cX4_parse 28 = .ok (.if_icmp .ne 5, 3) := by decide +kernel
theorem dX4_parse_31 : decode cX4_parse 31 = .ok (.iconst (-1), 1) := by decide +kernel
theorem dX4_parse_32 : decode cX4_parse 32 = .ok (.ireturn, 1) := by decide +kernel
theorem dX4_parse_33 : decode cX4_parse 33 = .ok (.aload_n 0, 1) := by decide +kernel
theorem dX4_parse_34 : decode cX4_parse 34 = .ok (.getfield 31, 3) := by decide +kernel
theorem dX4_parse_37 : decode cX4_parse 37 = .ok (.ifCond .eq 8, 3) := by decide +kernel
theorem dX4_parse_40 : decode cX4_parse 40 = .ok (.aload_n 0, 1) := by decide +kernel
theorem dX4_parse_41 : decode cX4_parse 41 = .ok (.getfield 34, 3) := by decide +kernel
theorem dX4_parse_44 : decode cX4_parse 44 = .ok (.ireturn, 1) := by decide +kernel
theorem dX4_parse_45 : decode cX4_parse 45 = .ok (.aload_n 0, 1) := by decide +kernel
theorem dX4_parse_46 : decode cX4_parse 46 = .ok (.aload_n 0, 1) := by decide +kernel
theorem dX4_parse_47 : decode cX4_parse 47 = .ok (.getfield 37, 3) := by decide +kernel
theorem dX4_parse_50 : decode cX4_parse 50 = .ok (.invokevirtual 45, 3) := by decide +kernel
theorem dX4_parse_53 : decode cX4_parse 53 = .ok (.ifCond .ne 8, 3) := by decide +kernel
theorem dX4_parse_56 : decode cX4_parse 56 = .ok (.aload_n 0, 1) := by decide +kernel
theorem dX4_parse_57 : decode cX4_parse 57 = .ok (.getfield 34, 3) := by decide +kernel
theorem dX4_parse_60 : decode cX4_parse 60 = .ok (.ireturn, 1) := by decide +kernel
theorem dX4_parse_61 : decode cX4_parse 61 = .ok (.aload_n 0, 1) := by decide +kernel
theorem dX4_parse_62 : decode cX4_parse 62 = .ok (.dup, 1) := by decide +kernel
theorem dX4_parse_63 : decode cX4_parse 63 = .ok (.getfield 15, 3) := by decide +kernel
theorem dX4_parse_66 : decode cX4_parse 66 = .ok (.iconst 1, 1) := by decide +kernel
theorem dX4_parse_67 : decode cX4_parse 67 = .ok (.iadd, 1) := by decide +kernel
theorem dX4_parse_68 : decode cX4_parse 68 = .ok (.putfield 15, 3) := by decide +kernel
theorem dX4_parse_71 : decode cX4_parse 71 = .ok (.goto (-61), 3) := by decide +kernel
theorem dX4_parse_74 : decode cX4_parse 74 = .ok (.aload_n 0, 1) := by decide +kernel
theorem dX4_parse_75 : decode cX4_parse 75 = .ok (.invokevirtual 42, 3) := by decide +kernel
theorem dX4_parse_78 : decode cX4_parse 78 = .ok (.aload_n 0, 1) := by decide +kernel
theorem dX4_parse_79 : decode cX4_parse 79 = .ok (.getfield 31, 3) := by decide +kernel
theorem dX4_parse_82 : decode cX4_parse 82 = .ok (.iconst 3, 1) := by decide +kernel
theorem dX4_parse_83 : decode cX4_parse 83 = .ok (.if_icmp .ne 7, 3) := by decide +kernel
theorem dX4_parse_86 : decode cX4_parse 86 = .ok (.iconst (-1), 1) := by decide +kernel
theorem dX4_parse_87 : decode cX4_parse 87 = .ok (.goto 7, 3) := by decide +kernel
theorem dX4_parse_90 : decode cX4_parse 90 = .ok (.aload_n 0, 1) := by decide +kernel
theorem dX4_parse_91 : decode cX4_parse 91 = .ok (.getfield 34, 3) := by decide +kernel
theorem dX4_parse_94 : decode cX4_parse 94 = .ok (.ireturn, 1) := by decide +kernel
theorem dX4_takeItem_0 : decode cX4_takeItem 0 = .ok (.aload_n 0, 1) := by decide +kernel
theorem dX4_takeItem_1 : decode cX4_takeItem 1 = .ok (.getfield 22, 3) := by decide +kernel
theorem dX4_takeItem_4 : decode cX4_takeItem 4 = .ok (.aload_n 0, 1) := by decide +kernel
theorem dX4_takeItem_5 : decode cX4_takeItem 5 = .ok (.getfield 15, 3) := by decide +kernel
theorem dX4_takeItem_8 : decode cX4_takeItem 8 = .ok (.iload_n 1, 1) := by decide +kernel
theorem dX4_takeItem_9 : decode cX4_takeItem 9 = .ok (.iastore, 1) := by decide +kernel
theorem dX4_takeItem_10 : decode cX4_takeItem 10 = .ok (.iconst 0, 1) := by decide +kernel
theorem dX4_takeItem_11 : decode cX4_takeItem 11 = .ok (.istore_n 2, 1) := by decide +kernel
theorem dX4_takeItem_12 : decode cX4_takeItem 12 = .ok (.iload_n 2, 1) := by decide +kernel
theorem dX4_takeItem_13 : decode cX4_takeItem 13 = .ok (.iload_n 1, 1) := by decide +kernel
theorem dX4_takeItem_14 : decode cX4_takeItem 14 = .ok (.invokestatic 49, 3) := by decide +kernel
theorem dX4_takeItem_17 : decode cX4_takeItem 17 = .ok (.if_icmp .ge 40, 3) := by decide +kernel
theorem dX4_takeItem_20 : decode cX4_takeItem 20 = .ok (.aload_n 0, 1) := by decide +kernel
theorem dX4_takeItem_21 : decode cX4_takeItem 21 = .ok (.invokevirtual 42, 3) := by decide +kernel
theorem dX4_takeItem_24 : decode cX4_takeItem 24 = .ok (.aload_n 0, 1) := by decide +kernel
theorem dX4_takeItem_25 : decode cX4_takeItem 25 = .ok (.getfield 31, 3) := by decide +kernel
theorem dX4_takeItem_28 : decode cX4_takeItem 28 = .ok (.iconst 1, 1) := by decide +kernel
theorem dX4_takeItem_29 : decode cX4_takeItem 29 = .ok (.if_icmp .eq 5, 3) := by decide +kernel
theorem dX4_takeItem_32 : decode cX4_takeItem 32 = .ok (.iconst 0, 1) := by decide +kernel
theorem dX4_takeItem_33 : decode cX4_takeItem 33 = .ok (.ireturn, 1) := by decide +kernel
theorem dX4_takeItem_34 : decode cX4_takeItem 34 = .ok (.aload_n 0, 1) := by decide +kernel
theorem dX4_takeItem_35 : decode cX4_takeItem 35 = .ok (.getfield 25, 3) := by decide +kernel
theorem dX4_takeItem_38 : decode cX4_takeItem 38 = .ok (.aload_n 0, 1) := by decide +kernel
theorem dX4_takeItem_39 : decode cX4_takeItem 39 = .ok (.getfield 15, 3) := by decide +kernel
theorem dX4_takeItem_42 : decode cX4_takeItem 42 = .ok (.iconst 3, 1) := by decide +kernel
theorem dX4_takeItem_43 : decode cX4_takeItem 43 = .ok (.imul, 1) := by decide +kernel
theorem dX4_takeItem_44 : decode cX4_takeItem 44 = .ok (.iload_n 2, 1) := by decide +kernel
theorem dX4_takeItem_45 : decode cX4_takeItem 45 = .ok (.iadd, 1) := by decide +kernel
theorem dX4_takeItem_46 : decode cX4_takeItem 46 = .ok (.aload_n 0, 1) := by decide +kernel
theorem dX4_takeItem_47 : decode cX4_takeItem 47 = .ok (.getfield 37, 3) := by decide +kernel
theorem dX4_takeItem_50 : decode cX4_takeItem 50 = .ok (.iastore, 1) := by decide +kernel
theorem dX4_takeItem_51 : decode cX4_takeItem 51 = .ok (.iinc 2 1, 3) := by decide +kernel
theorem dX4_takeItem_54 : decode cX4_takeItem 54 = .ok (.goto (-42), 3) := by decide +kernel
theorem dX4_takeItem_57 : decode cX4_takeItem 57 = .ok (.aload_n 0, 1) := by decide +kernel
theorem dX4_takeItem_58 : decode cX4_takeItem 58 = .ok (.invokevirtual 42, 3) := by decide +kernel
theorem dX4_takeItem_61 : decode cX4_takeItem 61 = .ok (.aload_n 0, 1) := by decide +kernel
theorem dX4_takeItem_62 : decode cX4_takeItem 62 = .ok (.getfield 31, 3) := by decide +kernel
theorem dX4_takeItem_65 : decode cX4_takeItem 65 = .ok (.iconst 2, 1) := by decide +kernel
theorem dX4_takeItem_66 : decode cX4_takeItem 66 = .ok (.if_icmp .ne 7, 3) := by decide +kernel
theorem dX4_takeItem_69 : decode cX4_takeItem 69 = .ok (.iconst 1, 1) := by decide +kernel
theorem dX4_takeItem_70 : decode cX4_takeItem 70 = .ok (.goto 4, 3) := by decide +kernel
theorem dX4_takeItem_73 : decode cX4_takeItem 73 = .ok (.iconst 0, 1) := by decide +kernel
theorem dX4_takeItem_74 : decode cX4_takeItem 74 = .ok (.ireturn, 1) := by decide +kernel
theorem dX4_takeToken_0 : decode cX4_takeToken 0 = .ok (.aload_n 0, 1) := by decide +kernel
theorem dX4_takeToken_1 : decode cX4_takeToken 1 = .ok (.getfield 28, 3) := by decide +kernel
theorem dX4_takeToken_4 : decode cX4_takeToken 4 = .ok (.aload_n 0, 1) := by decide +kernel
theorem dX4_takeToken_5 : decode cX4_takeToken 5 = .ok (.getfield 9, 3) := by decide +kernel
theorem dX4_takeToken_8 : decode cX4_takeToken 8 = .ok (.if_icmp .ge 30, 3) := by decide +kernel
theorem dX4_takeToken_11 : decode cX4_takeToken 11 = .ok (.aload_n 0, 1) := by decide +kernel
theorem dX4_takeToken_12 : decode cX4_takeToken 12 = .ok (.getfield 18, 3) := by decide +kernel
theorem dX4_takeToken_15 : decode cX4_takeToken 15 = .ok (.aload_n 0, 1) := by decide +kernel
theorem dX4_takeToken_16 : decode cX4_takeToken 16 = .ok (.getfield 28, 3) := by decide +kernel
theorem dX4_takeToken_19 : decode cX4_takeToken 19 = .ok (.iaload, 1) := by decide +kernel
theorem dX4_takeToken_20 : decode cX4_takeToken 20 = .ok (.bipush 32, 2) := by decide +kernel
theorem dX4_takeToken_22 : decode cX4_takeToken 22 = .ok (.if_icmp .ne 16, 3) := by decide +kernel
theorem dX4_takeToken_25 : decode cX4_takeToken 25 = .ok (.aload_n 0, 1) := by decide +kernel
theorem dX4_takeToken_26 : decode cX4_takeToken 26 = .ok (.dup, 1) := by decide +kernel
theorem dX4_takeToken_27 : decode cX4_takeToken 27 = .ok (.getfield 28, 3) := by decide +kernel
theorem dX4_takeToken_30 : decode cX4_takeToken 30 = .ok (.iconst 1, 1) := by decide +kernel
theorem dX4_takeToken_31 : decode cX4_takeToken 31 = .ok (.iadd, 1) := by decide +kernel
theorem dX4_takeToken_32 : decode cX4_takeToken 32 = .ok (.putfield 28, 3) := by decide +kernel
theorem dX4_takeToken_35 : decode cX4_takeToken 35 = .ok (.goto (-35), 3) := by decide +kernel
theorem dX4_takeToken_38 : decode cX4_takeToken 38 = .ok (.aload_n 0, 1) := by decide +kernel
theorem dX4_takeToken_39 : decode cX4_takeToken 39 = .ok (.aload_n 0, 1) := by decide +kernel
theorem dX4_takeToken_40 : decode cX4_takeToken 40 = .ok (.getfield 28, 3) := by decide +kernel
theorem dX4_takeToken_43 : decode cX4_takeToken 43 = .ok (.putfield 34, 3) := by decide +kernel
theorem dX4_takeToken_46 : decode cX4_takeToken 46 = .ok (.aload_n 0, 1) := by decide +kernel
theorem dX4_takeToken_47 : decode cX4_takeToken 47 = .ok (.getfield 28, 3) := by decide +kernel
theorem dX4_takeToken_50 : decode cX4_takeToken 50 = .ok (.aload_n 0, 1) := by decide +kernel
theorem dX4_takeToken_51 : decode cX4_takeToken 51 = .ok (.getfield 9, 3) := by decide +kernel
theorem dX4_takeToken_54 : decode cX4_takeToken 54 = .ok (.if_icmp .lt 11, 3) := by decide +kernel
theorem dX4_takeToken_57 : decode cX4_takeToken 57 = .ok (.aload_n 0, 1) := by decide +kernel
theorem dX4_takeToken_58 : decode cX4_takeToken 58 = .ok (.iconst 3, 1) := by decide +kernel
theorem dX4_takeToken_59 : decode cX4_takeToken 59 = .ok (.putfield 31, 3) := by decide +kernel
theorem dX4_takeToken_62 : decode cX4_takeToken 62 = .ok (.goto 80, 3) := by decide +kernel
theorem dX4_takeToken_65 : decode cX4_takeToken 65 = .ok (.aload_n 0, 1) := by decide +kernel
theorem dX4_takeToken_66 : decode cX4_takeToken 66 = .ok (.getfield 18, 3) := by decide +kernel
theorem dX4_takeToken_69 : decode cX4_takeToken 69 = .ok (.aload_n 0, 1) := by decide +kernel
theorem dX4_takeToken_70 : decode cX4_takeToken 70 = .ok (.getfield 28, 3) := by decide +kernel
theorem dX4_takeToken_73 : decode cX4_takeToken 73 = .ok (.iaload, 1) := by decide +kernel
theorem dX4_takeToken_74 : decode cX4_takeToken 74 = .ok (.invokestatic 53, 3) := by decide +kernel
theorem dX4_takeToken_77 : decode cX4_takeToken 77 = .ok (.ifCond .eq 10, 3) := by decide +kernel
theorem dX4_takeToken_80 : decode cX4_takeToken 80 = .ok (.aload_n 0, 1) := by decide +kernel
theorem dX4_takeToken_81 : decode cX4_takeToken 81 = .ok (.invokevirtual 56, 3) := by decide +kernel
theorem dX4_takeToken_84 : decode cX4_takeToken 84 = .ok (.goto 58, 3) := by decide +kernel
theorem dX4_takeToken_87 : decode cX4_takeToken 87 = .ok (.aload_n 0, 1) := by decide +kernel
theorem dX4_takeToken_88 : decode cX4_takeToken 88 = .ok (.getfield 18, 3) := by decide +kernel
theorem dX4_takeToken_91 : decode cX4_takeToken 91 = .ok (.aload_n 0, 1) := by decide +kernel
theorem dX4_takeToken_92 : decode cX4_takeToken 92 = .ok (.getfield 28, 3) := by decide +kernel
theorem dX4_takeToken_95 : decode cX4_takeToken 95 = .ok (.iaload, 1) := by decide +kernel
theorem dX4_takeToken_96 : decode cX4_takeToken 96 = .ok (.invokestatic 59, 3) := by decide +kernel
theorem dX4_takeToken_99 : decode cX4_takeToken 99 = .ok (.ifCond .eq 10, 3) := by decide +kernel
theorem dX4_takeToken_102 : decode cX4_takeToken 102 = .ok (.aload_n 0, 1) := by decide +kernel
theorem dX4_takeToken_103 : decode cX4_takeToken 103 = .ok (.invokevirtual 62, 3) := by decide +kernel
theorem dX4_takeToken_106 : decode cX4_takeToken 106 = .ok (.goto 36, 3) := by decide +kernel
theorem dX4_takeToken_109 : decode cX4_takeToken 109 = .ok (.aload_n 0, 1) := by decide +kernel
theorem dX4_takeToken_110 : decode cX4_takeToken 110 = .ok (.aload_n 0, 1) := by decide +kernel
theorem dX4_takeToken_111 : decode cX4_takeToken 111 = .ok (.getfield 18, 3) := by decide +kernel
theorem dX4_takeToken_114 : decode cX4_takeToken 114 = .ok (.aload_n 0, 1) := by decide +kernel
theorem dX4_takeToken_115 : decode cX4_takeToken 115 = .ok (.getfield 28, 3) := by decide +kernel
theorem dX4_takeToken_118 : decode cX4_takeToken 118 = .ok (.iaload, 1) := by decide +kernel
theorem dX4_takeToken_119 : decode cX4_takeToken 119 = .ok (.bipush 59, 2) := by decide +kernel
theorem dX4_takeToken_121 : decode cX4_takeToken 121 = .ok (.if_icmp .ne 7, 3) := by decide +kernel
theorem dX4_takeToken_124 : decode cX4_takeToken 124 = .ok (.iconst 2, 1) := by decide +kernel
theorem dX4_takeToken_125 : decode cX4_takeToken 125 = .ok (.goto 4, 3) := by decide +kernel
theorem dX4_takeToken_128 : decode cX4_takeToken 128 = .ok (.iconst 4, 1) := by decide +kernel
theorem dX4_takeToken_129 : decode cX4_takeToken 129 = .ok (.putfield 31, 3) := by decide +kernel
theorem dX4_takeToken_132 : decode cX4_takeToken 132 = .ok (.aload_n 0, 1) := by decide +kernel
theorem dX4_takeToken_133 : decode cX4_takeToken 133 = .ok (.dup, 1) := by decide +kernel
theorem dX4_takeToken_134 : decode cX4_takeToken 134 = .ok (.getfield 28, 3) := by decide +kernel
theorem dX4_takeToken_137 : decode cX4_takeToken 137 = .ok (.iconst 1, 1) := by decide +kernel
theorem dX4_takeToken_138 : decode cX4_takeToken 138 = .ok (.iadd, 1) := by decide +kernel
theorem dX4_takeToken_139 : decode cX4_takeToken 139 = .ok (.putfield 28, 3) := by decide +kernel
theorem dX4_takeToken_142 : decode cX4_takeToken 142 = .ok (.return_, 1) := by decide +kernel
theorem dX4_takeNumber_0 : decode cX4_takeNumber 0 = .ok (.aload_n 0, 1) := by decide +kernel
theorem dX4_takeNumber_1 : decode cX4_takeNumber 1 = .ok (.iconst 0, 1) := by decide +kernel
theorem dX4_takeNumber_2 : decode cX4_takeNumber 2 = .ok (.putfield 37, 3) := by decide +kernel
theorem dX4_takeNumber_5 : decode cX4_takeNumber 5 = .ok (.aload_n 0, 1) := by decide +kernel
theorem dX4_takeNumber_6 : decode cX4_takeNumber 6 = .ok (.getfield 28, 3) := by decide +kernel
theorem dX4_takeNumber_9 : decode cX4_takeNumber 9 = .ok (.aload_n 0, 1) := by decide +kernel
theorem dX4_takeNumber_10 : decode cX4_takeNumber 10 = .ok (.getfield 9, 3) := by decide +kernel
theorem dX4_takeNumber_13 : decode cX4_takeNumber 13 = .ok (.if_icmp .ge 68, 3) := by decide +kernel
theorem dX4_takeNumber_16 : decode cX4_takeNumber 16 = .ok (.aload_n 0, 1) := by decide +kernel
theorem dX4_takeNumber_17 : decode cX4_takeNumber 17 = .ok (.getfield 18, 3) := by decide +kernel
theorem dX4_takeNumber_20 : decode cX4_takeNumber 20 = .ok (.aload_n 0, 1) := by decide +kernel
theorem dX4_takeNumber_21 : decode cX4_takeNumber 21 = .ok (.getfield 28, 3) := by decide +kernel
theorem dX4_takeNumber_24 : decode cX4_takeNumber 24 = .ok (.iaload, 1) := by decide +kernel
theorem dX4_takeNumber_25 : decode cX4_takeNumber 25 = .ok (.invokestatic 53, 3) := by decide +kernel
theorem dX4_takeNumber_28 : decode cX4_takeNumber 28 = .ok (.ifCond .eq 53, 3) := by decide +kernel
theorem dX4_takeNumber_31 : decode cX4_takeNumber 31 = .ok (.aload_n 0, 1) := by decide +kernel
theorem dX4_takeNumber_32 : decode cX4_takeNumber 32 = .ok (.getfield 28, 3) := by decide +kernel
theorem dX4_takeNumber_35 : decode cX4_takeNumber 35 = .ok (.aload_n 0, 1) := by decide +kernel
theorem dX4_takeNumber_36 : decode cX4_takeNumber 36 = .ok (.getfield 34, 3) := by decide +kernel
theorem dX4_takeNumber_39 : decode cX4_takeNumber 39 = .ok (.isub, 1) := by decide +kernel
theorem dX4_takeNumber_40 : decode cX4_takeNumber 40 = .ok (.iconst 4, 1) := by decide +kernel
theorem dX4_takeNumber_41 : decode cX4_takeNumber 41 = .ok (.if_icmp .ge 27, 3) := by decide +kernel
theorem dX4_takeNumber_44 : decode cX4_takeNumber 44 = .ok (.aload_n 0, 1) := by decide +kernel
theorem dX4_takeNumber_45 : decode cX4_takeNumber 45 = .ok (.bipush 10, 2) := by decide +kernel
theorem dX4_takeNumber_47 : decode cX4_takeNumber 47 = .ok (.aload_n 0, 1) := by decide +kernel
theorem dX4_takeNumber_48 : decode cX4_takeNumber 48 = .ok (.getfield 37, 3) := by decide +kernel
theorem dX4_takeNumber_51 : decode cX4_takeNumber 51 = .ok (.imul, 1) := by decide +kernel
theorem dX4_takeNumber_52 : decode cX4_takeNumber 52 = .ok (.aload_n 0, 1) := by decide +kernel
theorem dX4_takeNumber_53 : decode cX4_takeNumber 53 = .ok (.getfield 18, 3) := by decide +kernel
theorem dX4_takeNumber_56 : decode cX4_takeNumber 56 = .ok (.aload_n 0, 1) := by decide +kernel
theorem dX4_takeNumber_57 : decode cX4_takeNumber 57 = .ok (.getfield 28, 3) := by decide +kernel
theorem dX4_takeNumber_60 : decode cX4_takeNumber 60 = .ok (.iaload, 1) := by decide +kernel
theorem dX4_takeNumber_61 : decode cX4_takeNumber 61 = .ok (.iadd, 1) := by decide +kernel
theorem dX4_takeNumber_62 : decode cX4_takeNumber 62 = .ok (.bipush 48, 2) := by decide +kernel
theorem dX4_takeNumber_64 : decode cX4_takeNumber 64 = .ok (.isub, 1) := by decide +kernel
theorem dX4_takeNumber_65 : decode cX4_takeNumber 65 = .ok (.putfield 37, 3) := by decide +kernel
theorem dX4_takeNumber_68 : decode cX4_takeNumber 68 = .ok (.aload_n 0, 1) := by decide +kernel
theorem dX4_takeNumber_69 : decode cX4_takeNumber 69 = .ok (.dup, 1) := by decide +kernel
theorem dX4_takeNumber_70 : decode cX4_takeNumber 70 = .ok (.getfield 28, 3) := by decide +kernel
theorem dX4_takeNumber_73 : decode cX4_takeNumber 73 = .ok (.iconst 1, 1) := by decide +kernel
theorem dX4_takeNumber_74 : decode cX4_takeNumber 74 = .ok (.iadd, 1) := by decide +kernel
theorem dX4_takeNumber_75 : decode cX4_takeNumber 75 = .ok (.putfield 28, 3) := by decide +kernel
theorem dX4_takeNumber_78 : decode cX4_takeNumber 78 = .ok (.goto (-73), 3) := by decide +kernel
theorem dX4_takeNumber_81 : decode cX4_takeNumber 81 = .ok (.aload_n 0, 1) := by decide +kernel
theorem dX4_takeNumber_82 : decode cX4_takeNumber 82 = .ok (.aload_n 0, 1) := by decide +kernel
theorem dX4_takeNumber_83 : decode cX4_takeNumber 83 = .ok (.getfield 28, 3) := by decide +kernel
theorem dX4_takeNumber_86 : decode cX4_takeNumber 86 = .ok (.aload_n 0, 1) := by decide +kernel
theorem dX4_takeNumber_87 : decode cX4_takeNumber 87 = .ok (.getfield 34, 3) := by decide +kernel
theorem dX4_takeNumber_90 : decode cX4_takeNumber 90 = .ok (.isub, 1) := by decide +kernel
theorem dX4_takeNumber_91 : decode cX4_takeNumber 91 = .ok (.iconst 4, 1) := by decide +kernel
theorem dX4_takeNumber_92 : decode cX4_takeNumber 92 = .ok (.if_icmp .le 7, 3) := by decide +kernel
theorem dX4_takeNumber_95 : decode cX4_takeNumber 95 = .ok (.iconst 4, 1) := by decide +kernel
theorem dX4_takeNumber_96 : decode cX4_takeNumber 96 = .ok (.goto 4, 3) := by decide +kernel
theorem dX4_takeNumber_99 : decode cX4_takeNumber 99 = .ok (.iconst 1, 1) := by decide +kernel
theorem dX4_takeNumber_100 : decode cX4_takeNumber 100 = .ok (.putfield 31, 3) := by decide +kernel
theorem dX4_takeNumber_103 : decode cX4_takeNumber 103 = .ok (.return_, 1) := by decide +kernel
theorem dX4_takeWord_0 : decode cX4_takeWord 0 = .ok (.aload_n 0, 1) := by decide +kernel
theorem dX4_takeWord_1 : decode cX4_takeWord 1 = .ok (.getfield 28, 3) := by decide +kernel
theorem dX4_takeWord_4 : decode cX4_takeWord 4 = .ok (.aload_n 0, 1) := by decide +kernel
theorem dX4_takeWord_5 : decode cX4_takeWord 5 = .ok (.getfield 9, 3) := by decide +kernel
theorem dX4_takeWord_8 : decode cX4_takeWord 8 = .ok (.if_icmp .ge 31, 3) := by decide +kernel
theorem dX4_takeWord_11 : decode cX4_takeWord 11 = .ok (.aload_n 0, 1) := by decide +kernel
theorem dX4_takeWord_12 : decode cX4_takeWord 12 = .ok (.getfield 18, 3) := by decide +kernel
theorem dX4_takeWord_15 : decode cX4_takeWord 15 = .ok (.aload_n 0, 1) := by decide +kernel
theorem dX4_takeWord_16 : decode cX4_takeWord 16 = .ok (.getfield 28, 3) := by decide +kernel
theorem dX4_takeWord_19 : decode cX4_takeWord 19 = .ok (.iaload, 1) := by decide +kernel
theorem dX4_takeWord_20 : decode cX4_takeWord 20 = .ok (.invokestatic 59, 3) := by decide +kernel
theorem dX4_takeWord_23 : decode cX4_takeWord 23 = .ok (.ifCond .eq 16, 3) := by decide +kernel
theorem dX4_takeWord_26 : decode cX4_takeWord 26 = .ok (.aload_n 0, 1) := by decide +kernel
theorem dX4_takeWord_27 : decode cX4_takeWord 27 = .ok (.dup, 1) := by decide +kernel
theorem dX4_takeWord_28 : decode cX4_takeWord 28 = .ok (.getfield 28, 3) := by decide +kernel
theorem dX4_takeWord_31 : decode cX4_takeWord 31 = .ok (.iconst 1, 1) := by decide +kernel
theorem dX4_takeWord_32 : decode cX4_takeWord 32 = .ok (.iadd, 1) := by decide +kernel
theorem dX4_takeWord_33 : decode cX4_takeWord 33 = .ok (.putfield 28, 3) := by decide +kernel
theorem dX4_takeWord_36 : decode cX4_takeWord 36 = .ok (.goto (-36), 3) := by decide +kernel
theorem dX4_takeWord_39 : decode cX4_takeWord 39 = .ok (.aload_n 0, 1) := by decide +kernel
theorem dX4_takeWord_40 : decode cX4_takeWord 40 = .ok (.iconst 4, 1) := by decide +kernel
theorem dX4_takeWord_41 : decode cX4_takeWord 41 = .ok (.putfield 31, 3) := by decide +kernel
theorem dX4_takeWord_44 : decode cX4_takeWord 44 = .ok (.iconst 0, 1) := by decide +kernel
theorem dX4_takeWord_45 : decode cX4_takeWord 45 = .ok (.istore_n 1, 1) := by decide +kernel
theorem dX4_takeWord_46 : decode cX4_takeWord 46 = .ok (.iload_n 1, 1) := by decide +kernel
theorem dX4_takeWord_47 : decode cX4_takeWord 47 = .ok (.bipush 6, 2) := by decide +kernel
theorem dX4_takeWord_49 : decode cX4_takeWord 49 = .ok (.if_icmp .ge 30, 3) := by decide +kernel
theorem dX4_takeWord_52 : decode cX4_takeWord 52 = .ok (.aload_n 0, 1) := by decide +kernel
theorem dX4_takeWord_53 : decode cX4_takeWord 53 = .ok (.iload_n 1, 1) := by decide +kernel
theorem dX4_takeWord_54 : decode cX4_takeWord 54 = .ok (.invokestatic 65, 3) := by decide +kernel
theorem dX4_takeWord_57 : decode cX4_takeWord 57 = .ok (.invokevirtual 69, 3) := by decide +kernel
theorem dX4_takeWord_60 : decode cX4_takeWord 60 = .ok (.ifCond .eq 13, 3) := by decide +kernel
theorem dX4_takeWord_63 : decode cX4_takeWord 63 = .ok (.aload_n 0, 1) := by decide +kernel
theorem dX4_takeWord_64 : decode cX4_takeWord 64 = .ok (.iconst 0, 1) := by decide +kernel
theorem dX4_takeWord_65 : decode cX4_takeWord 65 = .ok (.putfield 31, 3) := by decide +kernel
theorem dX4_takeWord_68 : decode cX4_takeWord 68 = .ok (.aload_n 0, 1) := by decide +kernel
theorem dX4_takeWord_69 : decode cX4_takeWord 69 = .ok (.iload_n 1, 1) := by decide +kernel
theorem dX4_takeWord_70 : decode cX4_takeWord 70 = .ok (.putfield 37, 3) := by decide +kernel
theorem dX4_takeWord_73 : decode cX4_takeWord 73 = .ok (.iinc 1 1, 3) := by decide +kernel
theorem dX4_takeWord_76 : decode cX4_takeWord 76 = .ok (.goto (-30), 3) := by decide +kernel
theorem dX4_takeWord_79 : decode cX4_takeWord 79 = .ok (.return_, 1) := by decide +kernel
theorem dX4_isTokenText_0 : decode cX4_isTokenText 0 = .ok (.aload_n 1, 1) := by decide +kernel
theorem dX4_isTokenText_1 : decode cX4_isTokenText 1 = .ok (.invokevirtual 73, 3) := by decide +kernel
theorem dX4_isTokenText_4 : decode cX4_isTokenText 4 = .ok (.aload_n 0, 1) := by decide +kernel
theorem dX4_isTokenText_5 : decode cX4_isTokenText 5 = .ok (.getfield 28, 3) := by decide +kernel
theorem dX4_isTokenText_8 : decode cX4_isTokenText 8 = .ok (.aload_n 0, 1) := by decide +kernel
theorem dX4_isTokenText_9 : decode cX4_isTokenText 9 = .ok (.getfield 34, 3) := by decide +kernel
theorem dX4_isTokenText_12 : decode cX4_isTokenText 12 = .ok (.isub, 1) := by decide +kernel
theorem dX4_isTokenText_13 : decode cX4_isTokenText 13 = .ok (.if_icmp .eq 5, 3) := by decide +kernel
theorem dX4_isTokenText_16 : decode cX4_isTokenText 16 = .ok (.iconst 0, 1) := by decide +kernel
theorem dX4_isTokenText_17 : decode cX4_isTokenText 17 = .ok (.ireturn, 1) := by decide +kernel
theorem dX4_isTokenText_18 : decode cX4_isTokenText 18 = .ok (.iconst 0, 1) := by decide +kernel
theorem dX4_isTokenText_19 : decode cX4_isTokenText 19 = .ok (.istore_n 2, 1) := by decide +kernel
theorem dX4_isTokenText_20 : decode cX4_isTokenText 20 = .ok (.iload_n 2, 1) := by decide +kernel
theorem dX4_isTokenText_21 : decode cX4_isTokenText 21 = .ok (.aload_n 1, 1) := by decide +kernel
theorem dX4_isTokenText_22 : decode cX4_isTokenText 22 = .ok (.invokevirtual 73, 3) := by decide +kernel
theorem dX4_isTokenText_25 : decode cX4_isTokenText 25 = .ok (.if_icmp .ge 30, 3) := by decide +kernel
theorem dX4_isTokenText_28 : decode cX4_isTokenText 28 = .ok (.aload_n 1, 1) := by decide +kernel
theorem dX4_isTokenText_29 : decode cX4_isTokenText 29 = .ok (.iload_n 2, 1) := by decide +kernel
theorem dX4_isTokenText_30 : decode cX4_isTokenText 30 = .ok (.invokevirtual 78, 3) := by decide +kernel
theorem dX4_isTokenText_33 : decode cX4_isTokenText 33 = .ok (.aload_n 0, 1) := by decide +kernel
theorem dX4_isTokenText_34 : decode cX4_isTokenText 34 = .ok (.getfield 18, 3) := by decide +kernel
theorem dX4_isTokenText_37 : decode cX4_isTokenText 37 = .ok (.aload_n 0, 1) := by decide +kernel
theorem dX4_isTokenText_38 : decode cX4_isTokenText 38 = .ok (.getfield 34, 3) := by decide +kernel
theorem dX4_isTokenText_41 : decode cX4_isTokenText 41 = .ok (.iload_n 2, 1) := by decide +kernel
theorem dX4_isTokenText_42 : decode cX4_isTokenText 42 = .ok (.iadd, 1) := by decide +kernel
theorem dX4_isTokenText_43 : decode cX4_isTokenText 43 = .ok (.iaload, 1) := by decide +kernel
theorem dX4_isTokenText_44 : decode cX4_isTokenText 44 = .ok (.if_icmp .eq 5, 3) := by decide +kernel
theorem dX4_isTokenText_47 : decode cX4_isTokenText 47 = .ok (.iconst 0, 1) := by decide +kernel
theorem dX4_isTokenText_48 : decode cX4_isTokenText 48 = .ok (.ireturn, 1) := by decide +kernel
theorem dX4_isTokenText_49 : decode cX4_isTokenText 49 = .ok (.iinc 2 1, 3) := by decide +kernel
theorem dX4_isTokenText_52 : decode cX4_isTokenText 52 = .ok (.goto (-32), 3) := by decide +kernel
theorem dX4_isTokenText_55 : decode cX4_isTokenText 55 = .ok (.iconst 1, 1) := by decide +kernel
theorem dX4_isTokenText_56 : decode cX4_isTokenText 56 = .ok (.ireturn, 1) := by decide +kernel
theorem dX4_isFigure_0 : decode cX4_isFigure 0 = .ok (.iload_n 0, 1) := by decide +kernel
theorem dX4_isFigure_1 : decode cX4_isFigure 1 = .ok (.bipush 48, 2) := by decide +kernel
theorem dX4_isFigure_3 : decode cX4_isFigure 3 = .ok (.if_icmp .lt 13, 3) := by decide +kernel
theorem dX4_isFigure_6 : decode cX4_isFigure 6 = .ok (.iload_n 0, 1) := by decide +kernel
theorem dX4_isFigure_7 : decode cX4_isFigure 7 = .ok (.bipush 57, 2) := by decide +kernel
theorem dX4_isFigure_9 : decode cX4_isFigure 9 = .ok (.if_icmp .gt 7, 3) := by decide +kernel
theorem dX4_isFigure_12 : decode cX4_isFigure 12 = .ok (.iconst 1, 1) := by decide +kernel
theorem dX4_isFigure_13 : decode cX4_isFigure 13 = .ok (.goto 4, 3) := by decide +kernel
theorem dX4_isFigure_16 : decode cX4_isFigure 16 = .ok (.iconst 0, 1) := by decide +kernel
theorem dX4_isFigure_17 : decode cX4_isFigure 17 = .ok (.ireturn, 1) := by decide +kernel
theorem dX4_isSmallLetter_0 : decode cX4_isSmallLetter 0 = .ok (.iload_n 0, 1) := by decide +kernel
theorem dX4_isSmallLetter_1 : decode cX4_isSmallLetter 1 = .ok (.bipush 97, 2) := by decide +kernel
theorem dX4_isSmallLetter_3 : decode cX4_isSmallLetter 3 = .ok (.if_icmp .lt 13, 3) := by decide +kernel
theorem dX4_isSmallLetter_6 : decode cX4_isSmallLetter 6 = .ok (.iload_n 0, 1) := by decide +kernel
theorem dX4_isSmallLetter_7 : decode cX4_isSmallLetter 7 = .ok (.bipush 122, 2) := by decide +kernel
theorem dX4_isSmallLetter_9 : decode cX4_isSmallLetter 9 = .ok (.if_icmp .gt 7, 3) := by decide +kernel
theorem dX4_isSmallLetter_12 : decode cX4_isSmallLetter 12 = .ok (.iconst 1, 1) := by decide +kernel
theorem dX4_isSmallLetter_13 : decode cX4_isSmallLetter 13 = .ok (.goto 4, 3) := by decide +kernel
theorem dX4_isSmallLetter_16 : decode cX4_isSmallLetter 16 = .ok (.iconst 0, 1) := by decide +kernel
theorem dX4_isSmallLetter_17 : decode cX4_isSmallLetter 17 = .ok (.ireturn, 1) := by decide +kernel
theorem dX4_wordOf_0 : decode cX4_wordOf 0 = .ok (.iload_n 0, 1) := by decide +kernel
theorem dX4_wordOf_1 : decode cX4_wordOf 1 = .ok (.tableswitch 50 0 4 #[35, 38, 41, 44, 47], 35) := by decide +kernel
theorem dX4_wordOf_36 : decode cX4_wordOf 36 = .ok (.ldc 82, 2) := by decide +kernel
theorem dX4_wordOf_38 : decode cX4_wordOf 38 = .ok (.areturn, 1) := by decide +kernel
theorem dX4_wordOf_39 : decode cX4_wordOf 39 = .ok (.ldc 84, 2) := by decide +kernel
theorem dX4_wordOf_41 : decode cX4_wordOf 41 = .ok (.areturn, 1) := by decide +kernel
theorem dX4_wordOf_42 : decode cX4_wordOf 42 = .ok (.ldc 86, 2) := by decide +kernel
theorem dX4_wordOf_44 : decode cX4_wordOf 44 = .ok (.areturn, 1) := by decide +kernel
theorem dX4_wordOf_45 : decode cX4_wordOf 45 = .ok (.ldc 88, 2) := by decide +kernel
theorem dX4_wordOf_47 : decode cX4_wordOf 47 = .ok (.areturn, 1) := by decide +kernel
theorem dX4_wordOf_48 : decode cX4_wordOf 48 = .ok (.ldc 90, 2) := by decide +kernel
theorem dX4_wordOf_50 : decode cX4_wordOf 50 = .ok (.areturn, 1) := by decide +kernel
theorem dX4_wordOf_51 : decode cX4_wordOf 51 = .ok (.ldc 92, 2) := by decide +kernel
theorem dX4_wordOf_53 : decode cX4_wordOf 53 = .ok (.areturn, 1) := by decide +kernel
theorem dX4_numbersOf_0 : decode cX4_numbersOf 0 = .ok (.iload_n 0, 1) := by decide +kernel
theorem dX4_numbersOf_1 : decode cX4_numbersOf 1 = .ok (.lookupswitch 41 #[(0, 35), (3, 37), (5, 39)], 35) := by decide +kernel
theorem dX4_numbersOf_36 : decode cX4_numbersOf 36 = .ok (.iconst 2, 1) := by decide +kernel
theorem dX4_numbersOf_37 : decode cX4_numbersOf 37 = .ok (.ireturn, 1) := by decide +kernel
theorem dX4_numbersOf_38 : decode cX4_numbersOf 38 = .ok (.iconst 1, 1) := by decide +kernel
theorem dX4_numbersOf_39 : decode cX4_numbersOf 39 = .ok (.ireturn, 1) := by decide +kernel
theorem dX4_numbersOf_40 : decode cX4_numbersOf 40 = .ok (.iconst 1, 1) := by decide +kernel
theorem dX4_numbersOf_41 : decode cX4_numbersOf 41 = .ok (.ireturn, 1) := by decide +kernel
theorem dX4_numbersOf_42 : decode cX4_numbersOf 42 = .ok (.iconst 3, 1) := by decide +kernel
theorem dX4_numbersOf_43 : decode cX4_numbersOf 43 = .ok (.ireturn, 1) := by decide +kernel
theorem dX4_tellTo_0 : decode cX4_tellTo 0 = .ok (.iconst 0, 1) := by decide +kernel
theorem dX4_tellTo_1 : decode cX4_tellTo 1 = .ok (.istore_n 2, 1) := by decide +kernel
theorem dX4_tellTo_2 : decode cX4_tellTo 2 = .ok (.iload_n 2, 1) := by decide +kernel
theorem dX4_tellTo_3 : decode cX4_tellTo 3 = .ok (.aload_n 0, 1) := by decide +kernel
theorem dX4_tellTo_4 : decode cX4_tellTo 4 = .ok (.getfield 15, 3) := by decide +kernel
theorem dX4_tellTo_7 : decode cX4_tellTo 7 = .ok (.if_icmp .ge 44, 3) := by decide +kernel
theorem dX4_tellTo_10 : decode cX4_tellTo 10 = .ok (.aload_n 0, 1) := by decide +kernel
theorem dX4_tellTo_11 : decode cX4_tellTo 11 = .ok (.aload_n 1, 1) := by decide +kernel
theorem dX4_tellTo_12 : decode cX4_tellTo 12 = .ok (.aload_n 0, 1) := by decide +kernel
theorem dX4_tellTo_13 : decode cX4_tellTo 13 = .ok (.getfield 22, 3) := by decide +kernel
theorem dX4_tellTo_16 : decode cX4_tellTo 16 = .ok (.iload_n 2, 1) := by decide +kernel
theorem dX4_tellTo_17 : decode cX4_tellTo 17 = .ok (.iaload, 1) := by decide +kernel
theorem dX4_tellTo_18 : decode cX4_tellTo 18 = .ok (.iload_n 2, 1) := by decide +kernel
theorem dX4_tellTo_19 : decode cX4_tellTo 19 = .ok (.iconst 3, 1) := by decide +kernel
theorem dX4_tellTo_20 : decode cX4_tellTo 20 = .ok (.imul, 1) := by decide +kernel
theorem dX4_tellTo_21 : decode cX4_tellTo 21 = .ok (.invokevirtual 94, 3) := by decide +kernel
theorem dX4_tellTo_24 : decode cX4_tellTo 24 = .ok (.istore_n 3, 1) := by decide +kernel
theorem dX4_tellTo_25 : decode cX4_tellTo 25 = .ok (.iload_n 3, 1) := by decide +kernel
theorem dX4_tellTo_26 : decode cX4_tellTo 26 = .ok (.bipush (-2), 2) := by decide +kernel
theorem dX4_tellTo_28 : decode cX4_tellTo 28 = .ok (.if_icmp .eq 15, 3) := by decide +kernel
theorem dX4_tellTo_31 : decode cX4_tellTo 31 = .ok (.iload_n 3, 1) := by decide +kernel
theorem dX4_tellTo_32 : decode cX4_tellTo 32 = .ok (.bipush (-3), 2) := by decide +kernel
theorem dX4_tellTo_34 : decode cX4_tellTo 34 = .ok (.if_icmp .eq 9, 3) := by decide +kernel
theorem dX4_tellTo_37 : decode cX4_tellTo 37 = .ok (.iload_n 3, 1) := by decide +kernel
theorem dX4_tellTo_38 : decode cX4_tellTo 38 = .ok (.bipush (-4), 2) := by decide +kernel
theorem dX4_tellTo_40 : decode cX4_tellTo 40 = .ok (.if_icmp .ne 5, 3) := by decide +kernel
theorem dX4_tellTo_43 : decode cX4_tellTo 43 = .ok (.iload_n 2, 1) := by decide +kernel
theorem dX4_tellTo_44 : decode cX4_tellTo 44 = .ok (.ireturn, 1) := by decide +kernel
theorem dX4_tellTo_45 : decode cX4_tellTo 45 = .ok (.iinc 2 1, 3) := by decide +kernel
theorem dX4_tellTo_48 : decode cX4_tellTo 48 = .ok (.goto (-46), 3) := by decide +kernel
theorem dX4_tellTo_51 : decode cX4_tellTo 51 = .ok (.iconst (-1), 1) := by decide +kernel
theorem dX4_tellTo_52 : decode cX4_tellTo 52 = .ok (.ireturn, 1) := by decide +kernel
theorem dX4_tellItem_0 : decode cX4_tellItem 0 = .ok (.aload_n 0, 1) := by decide +kernel
theorem dX4_tellItem_1 : decode cX4_tellItem 1 = .ok (.getfield 25, 3) := by decide +kernel
theorem dX4_tellItem_4 : decode cX4_tellItem 4 = .ok (.iload_n 3, 1) := by decide +kernel
theorem dX4_tellItem_5 : decode cX4_tellItem 5 = .ok (.iaload, 1) := by decide +kernel
theorem dX4_tellItem_6 : decode cX4_tellItem 6 = .ok (.istore 4, 2) := by decide +kernel
theorem dX4_tellItem_8 : decode cX4_tellItem 8 = .ok (.aload_n 0, 1) := by decide +kernel
theorem dX4_tellItem_9 : decode cX4_tellItem 9 = .ok (.getfield 25, 3) := by decide +kernel
theorem dX4_tellItem_12 : decode cX4_tellItem 12 = .ok (.iload_n 3, 1) := by decide +kernel
theorem dX4_tellItem_13 : decode cX4_tellItem 13 = .ok (.iconst 1, 1) := by decide +kernel
theorem dX4_tellItem_14 : decode cX4_tellItem 14 = .ok (.iadd, 1) := by decide +kernel
theorem dX4_tellItem_15 : decode cX4_tellItem 15 = .ok (.iaload, 1) := by decide +kernel
theorem dX4_tellItem_16 : decode cX4_tellItem 16 = .ok (.istore 5, 2) := by decide +kernel
theorem dX4_tellItem_18 : decode cX4_tellItem 18 = .ok (.aload_n 0, 1) := by decide +kernel
theorem dX4_tellItem_19 : decode cX4_tellItem 19 = .ok (.getfield 25, 3) := by decide +kernel
theorem dX4_tellItem_22 : decode cX4_tellItem 22 = .ok (.iload_n 3, 1) := by decide +kernel
theorem dX4_tellItem_23 : decode cX4_tellItem 23 = .ok (.iconst 2, 1) := by decide +kernel
theorem dX4_tellItem_24 : decode cX4_tellItem 24 = .ok (.iadd, 1) := by decide +kernel
theorem dX4_tellItem_25 : decode cX4_tellItem 25 = .ok (.iaload, 1) := by decide +kernel
theorem dX4_tellItem_26 : decode cX4_tellItem 26 = .ok (.istore 6, 2) := by decide +kernel
theorem dX4_tellItem_28 : decode cX4_tellItem 28 = .ok (.iload_n 2, 1) := by decide +kernel
theorem dX4_tellItem_29 : decode cX4_tellItem 29 = .ok (.tableswitch 73 0 5 #[39, 48, 73, 59, 73, 66], 39) := by decide +kernel
theorem dX4_tellItem_68 : decode cX4_tellItem 68 = .ok (.aload_n 1, 1) := by decide +kernel
theorem dX4_tellItem_69 : decode cX4_tellItem 69 = .ok (.iload 4, 2) := by decide +kernel
theorem dX4_tellItem_71 : decode cX4_tellItem 71 = .ok (.iload 5, 2) := by decide +kernel
theorem dX4_tellItem_73 : decode cX4_tellItem 73 = .ok (.invokevirtual 98, 3) := by decide +kernel
theorem dX4_tellItem_76 : decode cX4_tellItem 76 = .ok (.ireturn, 1) := by decide +kernel
theorem dX4_tellItem_77 : decode cX4_tellItem 77 = .ok (.aload_n 1, 1) := by decide +kernel
theorem dX4_tellItem_78 : decode cX4_tellItem 78 = .ok (.iload 4, 2) := by decide +kernel
theorem dX4_tellItem_80 : decode cX4_tellItem 80 = .ok (.iload 5, 2) := by decide +kernel
theorem dX4_tellItem_82 : decode cX4_tellItem 82 = .ok (.iload 6, 2) := by decide +kernel
theorem dX4_tellItem_84 : decode cX4_tellItem 84 = .ok (.invokevirtual 104, 3) := by decide +kernel
theorem dX4_tellItem_87 : decode cX4_tellItem 87 = .ok (.ireturn, 1) := by decide +kernel
theorem dX4_tellItem_88 : decode cX4_tellItem 88 = .ok (.aload_n 1, 1) := by decide +kernel
theorem dX4_tellItem_89 : decode cX4_tellItem 89 = .ok (.iload 4, 2) := by decide +kernel
theorem dX4_tellItem_91 : decode cX4_tellItem 91 = .ok (.invokevirtual 108, 3) := by decide +kernel
theorem dX4_tellItem_94 : decode cX4_tellItem 94 = .ok (.ireturn, 1) := by decide +kernel
theorem dX4_tellItem_95 : decode cX4_tellItem 95 = .ok (.aload_n 1, 1) := by decide +kernel
theorem dX4_tellItem_96 : decode cX4_tellItem 96 = .ok (.iload 4, 2) := by decide +kernel
theorem dX4_tellItem_98 : decode cX4_tellItem 98 = .ok (.invokevirtual 111, 3) := by decide +kernel
theorem dX4_tellItem_101 : decode cX4_tellItem 101 = .ok (.ireturn, 1) := by decide +kernel
theorem dX4_tellItem_102 : decode cX4_tellItem 102 = .ok (.aload_n 1, 1) := by decide +kernel
theorem dX4_tellItem_103 : decode cX4_tellItem 103 = .ok (.iload 5, 2) := by decide +kernel
theorem dX4_tellItem_105 : decode cX4_tellItem 105 = .ok (.iload 6, 2) := by decide +kernel
theorem dX4_tellItem_107 : decode cX4_tellItem 107 = .ok (.invokevirtual 114, 3) := by decide +kernel
theorem dX4_tellItem_110 : decode cX4_tellItem 110 = .ok (.ifCond .ne 6, 3) := by decide +kernel
theorem dX4_tellItem_113 : decode cX4_tellItem 113 = .ok (.bipush (-2), 2) := by decide +kernel
theorem dX4_tellItem_115 : decode cX4_tellItem 115 = .ok (.ireturn, 1) := by decide +kernel
theorem dX4_tellItem_116 : decode cX4_tellItem 116 = .ok (.bipush 12, 2) := by decide +kernel
theorem dX4_tellItem_118 : decode cX4_tellItem 118 = .ok (.iload 6, 2) := by decide +kernel
theorem dX4_tellItem_120 : decode cX4_tellItem 120 = .ok (.imul, 1) := by decide +kernel
theorem dX4_tellItem_121 : decode cX4_tellItem 121 = .ok (.iload 5, 2) := by decide +kernel
theorem dX4_tellItem_123 : decode cX4_tellItem 123 = .ok (.iadd, 1) := by decide +kernel
theorem dX4_tellItem_124 : decode cX4_tellItem 124 = .ok (.istore 7, 2) := by decide +kernel
theorem dX4_tellItem_126 : decode cX4_tellItem 126 = .ok (.iload_n 2, 1) := by decide +kernel
theorem dX4_tellItem_127 : decode cX4_tellItem 127 = .ok (.iconst 2, 1) := by decide +kernel
theorem dX4_tellItem_128 : decode cX4_tellItem 128 = .ok (.if_icmp .ne 14, 3) := by decide +kernel
theorem dX4_tellItem_131 : decode cX4_tellItem 131 = .ok (.aload_n 1, 1) := by decide +kernel
theorem dX4_tellItem_132 : decode cX4_tellItem 132 = .ok (.iload 7, 2) := by decide +kernel
theorem dX4_tellItem_134 : decode cX4_tellItem 134 = .ok (.iload 4, 2) := by decide +kernel
theorem dX4_tellItem_136 : decode cX4_tellItem 136 = .ok (.invokevirtual 118, 3) := by decide +kernel
theorem dX4_tellItem_139 : decode cX4_tellItem 139 = .ok (.goto 12, 3) := by decide +kernel
theorem dX4_tellItem_142 : decode cX4_tellItem 142 = .ok (.aload_n 1, 1) := by decide +kernel
theorem dX4_tellItem_143 : decode cX4_tellItem 143 = .ok (.iload 4, 2) := by decide +kernel
theorem dX4_tellItem_145 : decode cX4_tellItem 145 = .ok (.iload 7, 2) := by decide +kernel
theorem dX4_tellItem_147 : decode cX4_tellItem 147 = .ok (.iconst 1, 1) := by decide +kernel
theorem dX4_tellItem_148 : decode cX4_tellItem 148 = .ok (.invokevirtual 121, 3) := by decide +kernel
theorem dX4_tellItem_151 : decode cX4_tellItem 151 = .ok (.ireturn, 1) := by decide +kernel
theorem dX5_init_0 : decode cX5_init 0 = .ok (.aload_n 0, 1) := by decide +kernel
theorem dX5_init_1 : decode cX5_init 1 = .ok (.invokespecial 3, 3) := by decide +kernel
theorem dX5_init_4 : decode cX5_init 4 = .ok (.aload_n 0, 1) := by decide +kernel
theorem dX5_init_5 : decode cX5_init 5 = .ok (.bipush 12, 2) := by decide +kernel
theorem dX5_init_7 : decode cX5_init 7 = .ok (.putfield 9, 3) := by decide +kernel
theorem dX5_init_10 : decode cX5_init 10 = .ok (.aload_n 0, 1) := by decide +kernel
theorem dX5_init_11 : decode cX5_init 11 = .ok (.iconst 5, 1) := by decide +kernel
theorem dX5_init_12 : decode cX5_init 12 = .ok (.putfield 15, 3) := by decide +kernel
theorem dX5_init_15 : decode cX5_init 15 = .ok (.aload_n 0, 1) := by decide +kernel
theorem dX5_init_16 : decode cX5_init 16 = .ok (.iconst 0, 1) := by decide +kernel
theorem dX5_init_17 : decode cX5_init 17 = .ok (.putfield 18, 3) := by decide +kernel
theorem dX5_init_20 : decode cX5_init 20 = .ok (.aload_n 0, 1) := by decide +kernel
theorem dX5_init_21 : decode cX5_init 21 = .ok (.iconst 0, 1) := by decide +kernel
theorem dX5_init_22 : decode cX5_init 22 = .ok (.putfield 21, 3) := by decide +kernel
theorem dX5_init_25 : decode cX5_init 25 = .ok (.aload_n 0, 1) := by decide +kernel
theorem dX5_init_26 : decode cX5_init 26 = .ok (.iconst 0, 1) := by decide +kernel
theorem dX5_init_27 : decode cX5_init 27 = .ok (.putfield 24, 3) := by decide +kernel
theorem dX5_init_30 : decode cX5_init 30 = .ok (.aload_n 0, 1) := by decide +kernel
theorem dX5_init_31 : decode cX5_init 31 = .ok (.iconst 0, 1) := by decide +kernel
theorem dX5_init_32 : decode cX5_init 32 = .ok (.putfield 27, 3) := by decide +kernel
theorem dX5_init_35 : decode cX5_init 35 = .ok (.aload_n 0, 1) := by decide +kernel
theorem dX5_init_36 : decode cX5_init 36 = .ok (.bipush 6, 2) := by decide +kernel
theorem dX5_init_38 : decode cX5_init 38 = .ok (.newarray .int, 2) := by decide +kernel
theorem dX5_init_40 : decode cX5_init 40 = .ok (.putfield 30, 3) := by decide +kernel
theorem dX5_init_43 : decode cX5_init 43 = .ok (.aload_n 0, 1) := by decide +kernel
theorem dX5_init_44 : decode cX5_init 44 = .ok (.bipush 6, 2) := by decide +kernel
theorem dX5_init_46 : decode cX5_init 46 = .ok (.newarray .int, 2) := by decide +kernel
theorem dX5_init_48 : decode cX5_init 48 = .ok (.putfield 34, 3) := by decide +kernel
theorem dX5_init_51 : decode cX5_init 51 = .ok (.aload_n 0, 1) := by decide +kernel
theorem dX5_init_52 : decode cX5_init 52 = .ok (.bipush 6, 2) := by decide +kernel
theorem dX5_init_54 : decode cX5_init 54 = .ok (.newarray .int, 2) := by decide +kernel
theorem dX5_init_56 : decode cX5_init 56 = .ok (.putfield 37, 3) := by decide +kernel
theorem dX5_init_59 : decode cX5_init 59 = .ok (.aload_n 0, 1) := by decide +kernel
theorem dX5_init_60 : decode cX5_init 60 = .ok (.bipush 6, 2) := by decide +kernel
theorem dX5_init_62 : decode cX5_init 62 = .ok (.newarray .int, 2) := by decide +kernel
theorem dX5_init_64 : decode cX5_init 64 = .ok (.putfield 40, 3) := by decide +kernel
theorem dX5_init_67 : decode cX5_init 67 = .ok (.aload_n 0, 1) := by decide +kernel
theorem dX5_init_68 : decode cX5_init 68 = .ok (.bipush 6, 2) := by decide +kernel
theorem dX5_init_70 : decode cX5_init 70 = .ok (.newarray .long, 2) := by decide +kernel
theorem dX5_init_72 : decode cX5_init 72 = .ok (.putfield 43, 3) := by decide +kernel
theorem dX5_init_75 : decode cX5_init 75 = .ok (.aload_n 0, 1) := by decide +kernel
theorem dX5_init_76 : decode cX5_init 76 = .ok (.iconst 4, 1) := by decide +kernel
theorem dX5_init_77 : decode cX5_init 77 = .ok (.newarray .long, 2) := by decide +kernel
theorem dX5_init_79 : decode cX5_init 79 = .ok (.putfield 47, 3) := by decide +kernel
theorem dX5_init_82 : decode cX5_init 82 = .ok (.aload_n 0, 1) := by decide +kernel
theorem dX5_init_83 : decode cX5_init 83 = .ok (.bipush 6, 2) := by decide +kernel
theorem dX5_init_85 : decode cX5_init 85 = .ok (.newarray .int, 2) := by decide +kernel
theorem dX5_init_87 : decode cX5_init 87 = .ok (.putfield 50, 3) := by decide +kernel
theorem dX5_init_90 : decode cX5_init 90 = .ok (.aload_n 0, 1) := by decide +kernel
theorem dX5_init_91 : decode cX5_init 91 = .ok (.bipush 6, 2) := by decide +kernel
theorem dX5_init_93 : decode cX5_init 93 = .ok (.newarray .int, 2) := by decide +kernel
theorem dX5_init_95 : decode cX5_init 95 = .ok (.putfield 53, 3) := by decide +kernel
theorem dX5_init_98 : decode cX5_init 98 = .ok (.aload_n 0, 1) := by decide +kernel
theorem dX5_init_99 : decode cX5_init 99 = .ok (.bipush 6, 2) := by decide +kernel
theorem dX5_init_101 : decode cX5_init 101 = .ok (.newarray .int, 2) := by decide +kernel
theorem dX5_init_103 : decode cX5_init 103 = .ok (.putfield 56, 3) := by decide +kernel
theorem dX5_init_106 : decode cX5_init 106 = .ok (.aload_n 0, 1) := by decide +kernel
theorem dX5_init_107 : decode cX5_init 107 = .ok (.bipush 6, 2) := by decide +kernel
theorem dX5_init_109 : decode cX5_init 109 = .ok (.newarray .int, 2) := by decide +kernel
theorem dX5_init_111 : decode cX5_init 111 = .ok (.putfield 59, 3) := by decide +kernel
theorem dX5_init_114 : decode cX5_init 114 = .ok (.return_, 1) := by decide +kernel
theorem dX5_beAnew_0 : decode cX5_beAnew 0 = .ok (.aload_n 0, 1) := by decide +kernel
theorem dX5_beAnew_1 : decode cX5_beAnew 1 = .ok (.iload_n 1, 1) := by decide +kernel
theorem dX5_beAnew_2 : decode cX5_beAnew 2 = .ok (.putfield 9, 3) := by decide +kernel
theorem dX5_beAnew_5 : decode cX5_beAnew 5 = .ok (.aload_n 0, 1) := by decide +kernel
theorem dX5_beAnew_6 : decode cX5_beAnew 6 = .ok (.iload_n 2, 1) := by decide +kernel
theorem dX5_beAnew_7 : decode cX5_beAnew 7 = .ok (.putfield 15, 3) := by decide +kernel
theorem dX5_beAnew_10 : decode cX5_beAnew 10 = .ok (.aload_n 0, 1) := by decide +kernel
theorem dX5_beAnew_11 : decode cX5_beAnew 11 = .ok (.iconst 0, 1) := by decide +kernel
theorem dX5_beAnew_12 : decode cX5_beAnew 12 = .ok (.putfield 18, 3) := by decide +kernel
theorem dX5_beAnew_15 : decode cX5_beAnew 15 = .ok (.aload_n 0, 1) := by decide +kernel
theorem dX5_beAnew_16 : decode cX5_beAnew 16 = .ok (.iconst 0, 1) := by decide +kernel
theorem dX5_beAnew_17 : decode cX5_beAnew 17 = .ok (.putfield 21, 3) := by decide +kernel
theorem dX5_beAnew_20 : decode cX5_beAnew 20 = .ok (.aload_n 0, 1) := by decide +kernel
theorem dX5_beAnew_21 : decode cX5_beAnew 21 = .ok (.iconst 0, 1) := by decide +kernel
theorem dX5_beAnew_22 : decode cX5_beAnew 22 = .ok (.putfield 24, 3) := by decide +kernel
theorem dX5_beAnew_25 : decode cX5_beAnew 25 = .ok (.aload_n 0, 1) := by decide +kernel
theorem dX5_beAnew_26 : decode cX5_beAnew 26 = .ok (.iconst 0, 1) := by decide +kernel
theorem dX5_beAnew_27 : decode cX5_beAnew 27 = .ok (.putfield 27, 3) := by decide +kernel
theorem dX5_beAnew_30 : decode cX5_beAnew 30 = .ok (.iconst 0, 1) := by decide +kernel
theorem dX5_beAnew_31 : decode cX5_beAnew 31 = .ok (.istore_n 3, 1) := by decide +kernel
theorem dX5_beAnew_32 : decode cX5_beAnew 32 = .ok (.iload_n 3, 1) := by decide +kernel
theorem dX5_beAnew_33 : decode cX5_beAnew 33 = .ok (.iconst 4, 1) := by decide +kernel
theorem dX5_beAnew_34 : decode cX5_beAnew 34 = .ok (.if_icmp .ge 16, 3) := by decide +kernel
theorem dX5_beAnew_37 : decode cX5_beAnew 37 = .ok (.aload_n 0, 1) := by decide +kernel
theorem dX5_beAnew_38 : decode cX5_beAnew 38 = .ok (.getfield 47, 3) := by decide +kernel
theorem dX5_beAnew_41 : decode cX5_beAnew 41 = .ok (.iload_n 3, 1) := by decide +kernel
theorem dX5_beAnew_42 : decode cX5_beAnew 42 = .ok (.lconst 0, 1) := by decide +kernel
theorem dX5_beAnew_43 : decode cX5_beAnew 43 = .ok (.lastore, 1) := by decide +kernel
theorem dX5_beAnew_44 : decode cX5_beAnew 44 = .ok (.iinc 3 1, 3) := by decide +kernel
theorem dX5_beAnew_47 : decode cX5_beAnew 47 = .ok (.goto (-15), 3) := by decide +kernel
theorem dX5_beAnew_50 : decode cX5_beAnew 50 = .ok (.return_, 1) := by decide +kernel
theorem dX5_beLike_0 : decode cX5_beLike 0 = .ok (.aload_n 0, 1) := by decide +kernel
theorem dX5_beLike_1 : decode cX5_beLike 1 = .ok (.aload_n 1, 1) := by decide +kernel
theorem dX5_beLike_2 : decode cX5_beLike 2 = .ok (.getfield 9, 3) := by decide +kernel
theorem dX5_beLike_5 : decode cX5_beLike 5 = .ok (.putfield 9, 3) := by decide +kernel
theorem dX5_beLike_8 : decode cX5_beLike 8 = .ok (.aload_n 0, 1) := by decide +kernel
theorem dX5_beLike_9 : decode cX5_beLike 9 = .ok (.aload_n 1, 1) := by decide +kernel
theorem dX5_beLike_10 : decode cX5_beLike 10 = .ok (.getfield 15, 3) := by decide +kernel
theorem dX5_beLike_13 : decode cX5_beLike 13 = .ok (.putfield 15, 3) := by decide +kernel
theorem dX5_beLike_16 : decode cX5_beLike 16 = .ok (.aload_n 0, 1) := by decide +kernel
theorem dX5_beLike_17 : decode cX5_beLike 17 = .ok (.aload_n 1, 1) := by decide +kernel
theorem dX5_beLike_18 : decode cX5_beLike 18 = .ok (.getfield 18, 3) := by decide +kernel
theorem dX5_beLike_21 : decode cX5_beLike 21 = .ok (.putfield 18, 3) := by decide +kernel
theorem dX5_beLike_24 : decode cX5_beLike 24 = .ok (.aload_n 0, 1) := by decide +kernel
theorem dX5_beLike_25 : decode cX5_beLike 25 = .ok (.aload_n 1, 1) := by decide +kernel
theorem dX5_beLike_26 : decode cX5_beLike 26 = .ok (.getfield 21, 3) := by decide +kernel
theorem dX5_beLike_29 : decode cX5_beLike 29 = .ok (.putfield 21, 3) := by decide +kernel
theorem dX5_beLike_32 : decode cX5_beLike 32 = .ok (.aload_n 0, 1) := by decide +kernel
theorem dX5_beLike_33 : decode cX5_beLike 33 = .ok (.aload_n 1, 1) := by decide +kernel
theorem dX5_beLike_34 : decode cX5_beLike 34 = .ok (.getfield 24, 3) := by decide +kernel
theorem dX5_beLike_37 : decode cX5_beLike 37 = .ok (.putfield 24, 3) := by decide +kernel
theorem dX5_beLike_40 : decode cX5_beLike 40 = .ok (.aload_n 0, 1) := by decide +kernel
theorem dX5_beLike_41 : decode cX5_beLike 41 = .ok (.aload_n 1, 1) := by decide +kernel
theorem dX5_beLike_42 : decode cX5_beLike 42 = .ok (.getfield 27, 3) := by decide +kernel
theorem dX5_beLike_45 : decode cX5_beLike 45 = .ok (.putfield 27, 3) := by decide +kernel
theorem dX5_beLike_48 : decode cX5_beLike 48 = .ok (.aload_n 1, 1) := by decide +kernel
theorem dX5_beLike_49 : decode cX5_beLike 49 = .ok (.getfield 30, 3) := by decide +kernel
theorem dX5_beLike_52 : decode cX5_beLike 52 = .ok (.iconst 0, 1) := by decide +kernel
theorem dX5_beLike_53 : decode cX5_beLike 53 = .ok (.aload_n 0, 1) := by decide +kernel
theorem dX5_beLike_54 : decode cX5_beLike 54 = .ok (.getfield 30, 3) := by decide +kernel
theorem dX5_beLike_57 : decode cX5_beLike 57 = .ok (.iconst 0, 1) := by decide +kernel
theorem dX5_beLike_58 : decode cX5_beLike 58 = .ok (.bipush 6, 2) := by decide +kernel
theorem dX5_beLike_60 : decode cX5_beLike 60 = .ok (.invokestatic 62, 3) := by decide +kernel
theorem dX5_beLike_63 : decode cX5_beLike 63 = .ok (.aload_n 1, 1) := by decide +kernel
theorem dX5_beLike_64 : decode cX5_beLike 64 = .ok (.getfield 34, 3) := by decide +kernel
theorem dX5_beLike_67 : decode cX5_beLike 67 = .ok (.iconst 0, 1) := by decide +kernel
theorem dX5_beLike_68 : decode cX5_beLike 68 = .ok (.aload_n 0, 1) := by decide +kernel
theorem dX5_beLike_69 : decode cX5_beLike 69 = .ok (.getfield 34, 3) := by decide +kernel
theorem dX5_beLike_72 : decode cX5_beLike 72 = .ok (.iconst 0, 1) := by decide +kernel
theorem dX5_beLike_73 : decode cX5_beLike 73 = .ok (.bipush 6, 2) := by decide +kernel
theorem dX5_beLike_75 : decode cX5_beLike 75 = .ok (.invokestatic 62, 3) := by decide +kernel
theorem dX5_beLike_78 : decode cX5_beLike 78 = .ok (.aload_n 1, 1) := by decide +kernel
theorem dX5_beLike_79 : decode cX5_beLike 79 = .ok (.getfield 37, 3) := by decide +kernel
theorem dX5_beLike_82 : decode cX5_beLike 82 = .ok (.iconst 0, 1) := by decide +kernel
theorem dX5_beLike_83 : decode cX5_beLike 83 = .ok (.aload_n 0, 1) := by decide +kernel
theorem dX5_beLike_84 : decode cX5_beLike 84 = .ok (.getfield 37, 3) := by decide +kernel
theorem dX5_beLike_87 : decode cX5_beLike 87 = .ok (.iconst 0, 1) := by decide +kernel
theorem dX5_beLike_88 : decode cX5_beLike 88 = .ok (.bipush 6, 2) := by decide +kernel
theorem dX5_beLike_90 : decode cX5_beLike 90 = .ok (.invokestatic 62, 3) := by decide +kernel
theorem dX5_beLike_93 : decode cX5_beLike 93 = .ok (.aload_n 1, 1) := by decide +kernel
theorem dX5_beLike_94 : decode cX5_beLike 94 = .ok (.getfield 40, 3) := by decide +kernel
theorem dX5_beLike_97 : decode cX5_beLike 97 = .ok (.iconst 0, 1) := by decide +kernel
theorem dX5_beLike_98 : decode cX5_beLike 98 = .ok (.aload_n 0, 1) := by decide +kernel
theorem dX5_beLike_99 : decode cX5_beLike 99 = .ok (.getfield 40, 3) := by decide +kernel
theorem dX5_beLike_102 : decode cX5_beLike 102 = .ok (.iconst 0, 1) := by decide +kernel
theorem dX5_beLike_103 : decode cX5_beLike 103 = .ok (.bipush 6, 2) := by decide +kernel
theorem dX5_beLike_105 : decode cX5_beLike 105 = .ok (.invokestatic 62, 3) := by decide +kernel
theorem dX5_beLike_108 : decode cX5_beLike 108 = .ok (.aload_n 1, 1) := by decide +kernel
theorem dX5_beLike_109 : decode cX5_beLike 109 = .ok (.getfield 43, 3) := by decide +kernel
theorem dX5_beLike_112 : decode cX5_beLike 112 = .ok (.iconst 0, 1) := by decide +kernel
theorem dX5_beLike_113 : decode cX5_beLike 113 = .ok (.aload_n 0, 1) := by decide +kernel
theorem dX5_beLike_114 : decode cX5_beLike 114 = .ok (.getfield 43, 3) := by decide +kernel
theorem dX5_beLike_117 : decode cX5_beLike 117 = .ok (.iconst 0, 1) := by decide +kernel
theorem dX5_beLike_118 : decode cX5_beLike 118 = .ok (.bipush 6, 2) := by decide +kernel
theorem dX5_beLike_120 : decode cX5_beLike 120 = .ok (.invokestatic 62, 3) := by decide +kernel
theorem dX5_beLike_123 : decode cX5_beLike 123 = .ok (.aload_n 1, 1) := by decide +kernel
theorem dX5_beLike_124 : decode cX5_beLike 124 = .ok (.getfield 47, 3) := by decide +kernel
theorem dX5_beLike_127 : decode cX5_beLike 127 = .ok (.iconst 0, 1) := by decide +kernel
theorem dX5_beLike_128 : decode cX5_beLike 128 = .ok (.aload_n 0, 1) := by decide +kernel
theorem dX5_beLike_129 : decode cX5_beLike 129 = .ok (.getfield 47, 3) := by decide +kernel
theorem dX5_beLike_132 : decode cX5_beLike 132 = .ok (.iconst 0, 1) := by decide +kernel
theorem dX5_beLike_133 : decode cX5_beLike 133 = .ok (.iconst 4, 1) := by decide +kernel
theorem dX5_beLike_134 : decode cX5_beLike 134 = .ok (.invokestatic 62, 3) := by decide +kernel
theorem dX5_beLike_137 : decode cX5_beLike 137 = .ok (.aload_n 1, 1) := by decide +kernel
theorem dX5_beLike_138 : decode cX5_beLike 138 = .ok (.getfield 50, 3) := by decide +kernel
theorem dX5_beLike_141 : decode cX5_beLike 141 = .ok (.iconst 0, 1) := by decide +kernel
theorem dX5_beLike_142 : decode cX5_beLike 142 = .ok (.aload_n 0, 1) := by decide +kernel
theorem dX5_beLike_143 : decode cX5_beLike 143 = .ok (.getfield 50, 3) := by decide +kernel
theorem dX5_beLike_146 : decode cX5_beLike 146 = .ok (.iconst 0, 1) := by decide +kernel
theorem dX5_beLike_147 : decode cX5_beLike 147 = .ok (.bipush 6, 2) := by decide +kernel
theorem dX5_beLike_149 : decode cX5_beLike 149 = .ok (.invokestatic 62, 3) := by decide +kernel
theorem dX5_beLike_152 : decode cX5_beLike 152 = .ok (.aload_n 1, 1) := by decide +kernel
theorem dX5_beLike_153 : decode cX5_beLike 153 = .ok (.getfield 53, 3) := by decide +kernel
theorem dX5_beLike_156 : decode cX5_beLike 156 = .ok (.iconst 0, 1) := by decide +kernel
theorem dX5_beLike_157 : decode cX5_beLike 157 = .ok (.aload_n 0, 1) := by decide +kernel
theorem dX5_beLike_158 : decode cX5_beLike 158 = .ok (.getfield 53, 3) := by decide +kernel
theorem dX5_beLike_161 : decode cX5_beLike 161 = .ok (.iconst 0, 1) := by decide +kernel
theorem dX5_beLike_162 : decode cX5_beLike 162 = .ok (.bipush 6, 2) := by decide +kernel
theorem dX5_beLike_164 : decode cX5_beLike 164 = .ok (.invokestatic 62, 3) := by decide +kernel
theorem dX5_beLike_167 : decode cX5_beLike 167 = .ok (.aload_n 1, 1) := by decide +kernel
theorem dX5_beLike_168 : decode cX5_beLike 168 = .ok (.getfield 56, 3) := by decide +kernel
theorem dX5_beLike_171 : decode cX5_beLike 171 = .ok (.iconst 0, 1) := by decide +kernel
theorem dX5_beLike_172 : decode cX5_beLike 172 = .ok (.aload_n 0, 1) := by decide +kernel
theorem dX5_beLike_173 : decode cX5_beLike 173 = .ok (.getfield 56, 3) := by decide +kernel
theorem dX5_beLike_176 : decode cX5_beLike 176 = .ok (.iconst 0, 1) := by decide +kernel
theorem dX5_beLike_177 : decode cX5_beLike 177 = .ok (.bipush 6, 2) := by decide +kernel
theorem dX5_beLike_179 : decode cX5_beLike 179 = .ok (.invokestatic 62, 3) := by decide +kernel
theorem dX5_beLike_182 : decode cX5_beLike 182 = .ok (.aload_n 1, 1) := by decide +kernel
theorem dX5_beLike_183 : decode cX5_beLike 183 = .ok (.getfield 59, 3) := by decide +kernel
theorem dX5_beLike_186 : decode cX5_beLike 186 = .ok (.iconst 0, 1) := by decide +kernel
theorem dX5_beLike_187 : decode cX5_beLike 187 = .ok (.aload_n 0, 1) := by decide +kernel
theorem dX5_beLike_188 : decode cX5_beLike 188 = .ok (.getfield 59, 3) := by decide +kernel
theorem dX5_beLike_191 : decode cX5_beLike 191 = .ok (.iconst 0, 1) := by decide +kernel
theorem dX5_beLike_192 : decode cX5_beLike 192 = .ok (.bipush 6, 2) := by decide +kernel
theorem dX5_beLike_194 : decode cX5_beLike 194 = .ok (.invokestatic 62, 3) := by decide +kernel
theorem dX5_beLike_197 : decode cX5_beLike 197 = .ok (.return_, 1) := by decide +kernel
theorem dX5_isWindow_0 : decode cX5_isWindow 0 = .ok (.iload_n 1, 1) := by decide +kernel
theorem dX5_isWindow_1 : decode cX5_isWindow 1 = .ok (.ifCond .lt 28, 3) := by decide +kernel
theorem dX5_isWindow_4 : decode cX5_isWindow 4 = .ok (.iload_n 1, 1) := by decide +kernel
theorem dX5_isWindow_5 : decode cX5_isWindow 5 = .ok (.bipush 60, 2) := by decide +kernel
theorem dX5_isWindow_7 : decode cX5_isWindow 7 = .ok (.if_icmp .ge 22, 3) := by decide +kernel
theorem dX5_isWindow_10 : decode cX5_isWindow 10 = .ok (.aload_n 0, 1) := by decide +kernel
theorem dX5_isWindow_11 : decode cX5_isWindow 11 = .ok (.iload_n 1, 1) := by decide +kernel
theorem dX5_isWindow_12 : decode cX5_isWindow 12 = .ok (.bipush 12, 2) := by decide +kernel
theorem dX5_isWindow_14 : decode cX5_isWindow 14 = .ok (.irem, 1) := by decide +kernel
theorem dX5_isWindow_15 : decode cX5_isWindow 15 = .ok (.iload_n 1, 1) := by decide +kernel
theorem dX5_isWindow_16 : decode cX5_isWindow 16 = .ok (.bipush 12, 2) := by decide +kernel
theorem dX5_isWindow_18 : decode cX5_isWindow 18 = .ok (.idiv, 1) := by decide +kernel
theorem dX5_isWindow_19 : decode cX5_isWindow 19 = .ok (.invokevirtual 68, 3) := by decide +kernel
theorem dX5_isWindow_22 : decode cX5_isWindow 22 = .ok (.ifCond .eq 7, 3) := by decide +kernel
theorem dX5_isWindow_25 : decode cX5_isWindow 25 = .ok (.iconst 1, 1) := by decide +kernel
theorem dX5_isWindow_26 : decode cX5_isWindow 26 = .ok (.goto 4, 3) := by decide +kernel
theorem dX5_isWindow_29 : decode cX5_isWindow 29 = .ok (.iconst 0, 1) := by decide +kernel
theorem dX5_isWindow_30 : decode cX5_isWindow 30 = .ok (.ireturn, 1) := by decide +kernel
theorem dX5_isWindowAt_0 : decode cX5_isWindowAt 0 = .ok (.iload_n 1, 1) := by decide +kernel
theorem dX5_isWindowAt_1 : decode cX5_isWindowAt 1 = .ok (.ifCond .lt 27, 3) := by decide +kernel
theorem dX5_isWindowAt_4 : decode cX5_isWindowAt 4 = .ok (.iload_n 1, 1) := by decide +kernel
theorem dX5_isWindowAt_5 : decode cX5_isWindowAt 5 = .ok (.aload_n 0, 1) := by decide +kernel
theorem dX5_isWindowAt_6 : decode cX5_isWindowAt 6 = .ok (.getfield 9, 3) := by decide +kernel
theorem dX5_isWindowAt_9 : decode cX5_isWindowAt 9 = .ok (.if_icmp .ge 19, 3) := by decide +kernel
theorem dX5_isWindowAt_12 : decode cX5_isWindowAt 12 = .ok (.iload_n 2, 1) := by decide +kernel
theorem dX5_isWindowAt_13 : decode cX5_isWindowAt 13 = .ok (.ifCond .lt 15, 3) := by decide +kernel
theorem dX5_isWindowAt_16 : decode cX5_isWindowAt 16 = .ok (.iload_n 2, 1) := by decide +kernel
theorem dX5_isWindowAt_17 : decode cX5_isWindowAt 17 = .ok (.aload_n 0, 1) := by decide +kernel
theorem dX5_isWindowAt_18 : decode cX5_isWindowAt 18 = .ok (.getfield 15, 3) := by decide +kernel
theorem dX5_isWindowAt_21 : decode cX5_isWindowAt 21 = .ok (.if_icmp .ge 7, 3) := by decide +kernel
theorem dX5_isWindowAt_24 : decode cX5_isWindowAt 24 = .ok (.iconst 1, 1) := by decide +kernel
theorem dX5_isWindowAt_25 : decode cX5_isWindowAt 25 = .ok (.goto 4, 3) := by decide +kernel
theorem dX5_isWindowAt_28 : decode cX5_isWindowAt 28 = .ok (.iconst 0, 1) := by decide +kernel
theorem dX5_isWindowAt_29 : decode cX5_isWindowAt 29 = .ok (.ireturn, 1) := by decide +kernel
theorem dX5_isBox_0 : decode cX5_isBox 0 = .ok (.aload_n 0, 1) := by decide +kernel
theorem dX5_isBox_1 : decode cX5_isBox 1 = .ok (.iload_n 1, 1) := by decide +kernel
theorem dX5_isBox_2 : decode cX5_isBox 2 = .ok (.invokevirtual 72, 3) := by decide +kernel
theorem dX5_isBox_5 : decode cX5_isBox 5 = .ok (.ifCond .eq 31, 3) := by decide +kernel
theorem dX5_isBox_8 : decode cX5_isBox 8 = .ok (.iload_n 1, 1) := by decide +kernel
theorem dX5_isBox_9 : decode cX5_isBox 9 = .ok (.bipush 12, 2) := by decide +kernel
theorem dX5_isBox_11 : decode cX5_isBox 11 = .ok (.irem, 1) := by decide +kernel
theorem dX5_isBox_12 : decode cX5_isBox 12 = .ok (.aload_n 0, 1) := by decide +kernel
theorem dX5_isBox_13 : decode cX5_isBox 13 = .ok (.getfield 9, 3) := by decide +kernel
theorem dX5_isBox_16 : decode cX5_isBox 16 = .ok (.iconst 3, 1) := by decide +kernel
theorem dX5_isBox_17 : decode cX5_isBox 17 = .ok (.isub, 1) := by decide +kernel
theorem dX5_isBox_18 : decode cX5_isBox 18 = .ok (.if_icmp .gt 18, 3) := by decide +kernel
theorem dX5_isBox_21 : decode cX5_isBox 21 = .ok (.aload_n 0, 1) := by decide +kernel
theorem dX5_isBox_22 : decode cX5_isBox 22 = .ok (.iload_n 1, 1) := by decide +kernel
theorem dX5_isBox_23 : decode cX5_isBox 23 = .ok (.bipush 12, 2) := by decide +kernel
theorem dX5_isBox_25 : decode cX5_isBox 25 = .ok (.idiv, 1) := by decide +kernel
theorem dX5_isBox_26 : decode cX5_isBox 26 = .ok (.invokevirtual 76, 3) := by decide +kernel
theorem dX5_isBox_29 : decode cX5_isBox 29 = .ok (.ifCond .eq 7, 3) := by decide +kernel
theorem dX5_isBox_32 : decode cX5_isBox 32 = .ok (.iconst 1, 1) := by decide +kernel
theorem dX5_isBox_33 : decode cX5_isBox 33 = .ok (.goto 4, 3) := by decide +kernel
theorem dX5_isBox_36 : decode cX5_isBox 36 = .ok (.iconst 0, 1) := by decide +kernel
theorem dX5_isBox_37 : decode cX5_isBox 37 = .ok (.ireturn, 1) := by decide +kernel
theorem dX5_isTop_0 : decode cX5_isTop 0 = .ok (.iload_n 1, 1) := by decide +kernel
theorem dX5_isTop_1 : decode cX5_isTop 1 = .ok (.ifCond .lt 17, 3) := by decide +kernel
theorem dX5_isTop_4 : decode cX5_isTop 4 = .ok (.iload_n 1, 1) := by decide +kernel
theorem dX5_isTop_5 : decode cX5_isTop 5 = .ok (.aload_n 0, 1) := by decide +kernel
theorem dX5_isTop_6 : decode cX5_isTop 6 = .ok (.getfield 15, 3) := by decide +kernel
theorem dX5_isTop_9 : decode cX5_isTop 9 = .ok (.iconst 4, 1) := by decide +kernel
theorem dX5_isTop_10 : decode cX5_isTop 10 = .ok (.isub, 1) := by decide +kernel
theorem dX5_isTop_11 : decode cX5_isTop 11 = .ok (.if_icmp .gt 7, 3) := by decide +kernel
theorem dX5_isTop_14 : decode cX5_isTop 14 = .ok (.iconst 1, 1) := by decide +kernel
theorem dX5_isTop_15 : decode cX5_isTop 15 = .ok (.goto 4, 3) := by decide +kernel
theorem dX5_isTop_18 : decode cX5_isTop 18 = .ok (.iconst 0, 1) := by decide +kernel
theorem dX5_isTop_19 : decode cX5_isTop 19 = .ok (.ireturn, 1) := by decide +kernel
theorem dX5_isTenant_0 : decode cX5_isTenant 0 = .ok (.iload_n 1, 1) := by decide +kernel
theorem dX5_isTenant_1 : decode cX5_isTenant 1 = .ok (.ifCond .lt 21, 3) := by decide +kernel
theorem dX5_isTenant_4 : decode cX5_isTenant 4 = .ok (.iload_n 1, 1) := by decide +kernel
theorem dX5_isTenant_5 : decode cX5_isTenant 5 = .ok (.aload_n 0, 1) := by decide +kernel
theorem dX5_isTenant_6 : decode cX5_isTenant 6 = .ok (.getfield 21, 3) := by decide +kernel
theorem dX5_isTenant_9 : decode cX5_isTenant 9 = .ok (.if_icmp .ge 13, 3) := by decide +kernel
theorem dX5_isTenant_12 : decode cX5_isTenant 12 = .ok (.iload_n 1, 1) := by decide +kernel
theorem dX5_isTenant_13 : decode cX5_isTenant 13 = .ok (.bipush 6, 2) := by decide +kernel
theorem dX5_isTenant_15 : decode cX5_isTenant 15 = .ok (.if_icmp .ge 7, 3) := by decide +kernel
theorem dX5_isTenant_18 : decode cX5_isTenant 18 = .ok (.iconst 1, 1) := by decide +kernel
theorem dX5_isTenant_19 : decode cX5_isTenant 19 = .ok (.goto 4, 3) := by decide +kernel
theorem dX5_isTenant_22 : decode cX5_isTenant 22 = .ok (.iconst 0, 1) := by decide +kernel
theorem dX5_isTenant_23 : decode cX5_isTenant 23 = .ok (.ireturn, 1) := by decide +kernel
theorem dX5_isLetter_0 : decode cX5_isLetter 0 = .ok (.iload_n 1, 1) := by decide +kernel
theorem dX5_isLetter_1 : decode cX5_isLetter 1 = .ok (.ifCond .lt 21, 3) := by decide +kernel
theorem dX5_isLetter_4 : decode cX5_isLetter 4 = .ok (.iload_n 1, 1) := by decide +kernel
theorem dX5_isLetter_5 : decode cX5_isLetter 5 = .ok (.aload_n 0, 1) := by decide +kernel
theorem dX5_isLetter_6 : decode cX5_isLetter 6 = .ok (.getfield 24, 3) := by decide +kernel
theorem dX5_isLetter_9 : decode cX5_isLetter 9 = .ok (.if_icmp .ge 13, 3) := by decide +kernel
theorem dX5_isLetter_12 : decode cX5_isLetter 12 = .ok (.iload_n 1, 1) := by decide +kernel
theorem dX5_isLetter_13 : decode cX5_isLetter 13 = .ok (.bipush 6, 2) := by decide +kernel
theorem dX5_isLetter_15 : decode cX5_isLetter 15 = .ok (.if_icmp .ge 7, 3) := by decide +kernel
theorem dX5_isLetter_18 : decode cX5_isLetter 18 = .ok (.iconst 1, 1) := by decide +kernel
theorem dX5_isLetter_19 : decode cX5_isLetter 19 = .ok (.goto 4, 3) := by decide +kernel
theorem dX5_isLetter_22 : decode cX5_isLetter 22 = .ok (.iconst 0, 1) := by decide +kernel
theorem dX5_isLetter_23 : decode cX5_isLetter 23 = .ok (.ireturn, 1) := by decide +kernel
theorem dX5_setSize_0 : decode cX5_setSize 0 = .ok (.iload_n 1, 1) := by decide +kernel
theorem dX5_setSize_1 : decode cX5_setSize 1 = .ok (.iconst 3, 1) := by decide +kernel
theorem dX5_setSize_2 : decode cX5_setSize 2 = .ok (.if_icmp .lt 9, 3) := by decide +kernel
theorem dX5_setSize_5 : decode cX5_setSize 5 = .ok (.iload_n 1, 1) := by decide +kernel
theorem dX5_setSize_6 : decode cX5_setSize 6 = .ok (.bipush 12, 2) := by decide +kernel
theorem dX5_setSize_8 : decode cX5_setSize 8 = .ok (.if_icmp .le 6, 3) := by decide +kernel
theorem dX5_setSize_11 : decode cX5_setSize 11 = .ok (.bipush (-2), 2) := by decide +kernel
theorem dX5_setSize_13 : decode cX5_setSize 13 = .ok (.ireturn, 1) := by decide +kernel
theorem dX5_setSize_14 : decode cX5_setSize 14 = .ok (.iload_n 2, 1) := by decide +kernel
theorem dX5_setSize_15 : decode cX5_setSize 15 = .ok (.iconst 4, 1) := by decide +kernel
theorem dX5_setSize_16 : decode cX5_setSize 16 = .ok (.if_icmp .lt 8, 3) := by decide +kernel
theorem dX5_setSize_19 : decode cX5_setSize 19 = .ok (.iload_n 2, 1) := by decide +kernel
theorem dX5_setSize_20 : decode cX5_setSize 20 = .ok (.iconst 5, 1) := by decide +kernel
theorem dX5_setSize_21 : decode cX5_setSize 21 = .ok (.if_icmp .le 6, 3) := by decide +kernel
theorem dX5_setSize_24 : decode cX5_setSize 24 = .ok (.bipush (-2), 2) := by decide +kernel
theorem dX5_setSize_26 : decode cX5_setSize 26 = .ok (.ireturn, 1) := by decide +kernel
theorem dX5_setSize_27 : decode cX5_setSize 27 = .ok (.aload_n 0, 1) := by decide +kernel
theorem dX5_setSize_28 : decode cX5_setSize 28 = .ok (.iload_n 1, 1) := by decide +kernel
theorem dX5_setSize_29 : decode cX5_setSize 29 = .ok (.iload_n 2, 1) := by decide +kernel
theorem dX5_setSize_30 : decode cX5_setSize 30 = .ok (.invokevirtual 79, 3) := by decide +kernel
theorem dX5_setSize_33 : decode cX5_setSize 33 = .ok (.iconst 1, 1) := by decide +kernel
theorem dX5_setSize_34 : decode cX5_setSize 34 = .ok (.ireturn, 1) := by decide +kernel
theorem dX5_addTenant_0 : decode cX5_addTenant 0 = .ok (.iload_n 1, 1) := by decide +kernel
theorem dX5_addTenant_1 : decode cX5_addTenant 1 = .ok (.ifCond .lt 28, 3) := by decide +kernel
theorem dX5_addTenant_4 : decode cX5_addTenant 4 = .ok (.iload_n 1, 1) := by decide +kernel
theorem dX5_addTenant_5 : decode cX5_addTenant 5 = .ok (.iconst 5, 1) := by decide +kernel
theorem dX5_addTenant_6 : decode cX5_addTenant 6 = .ok (.if_icmp .gt 23, 3) := by decide +kernel
theorem dX5_addTenant_9 : decode cX5_addTenant 9 = .ok (.iload_n 2, 1) := by decide +kernel
theorem dX5_addTenant_10 : decode cX5_addTenant 10 = .ok (.ifCond .lt 19, 3) := by decide +kernel
theorem dX5_addTenant_13 : decode cX5_addTenant 13 = .ok (.iload_n 2, 1) := by decide +kernel
theorem dX5_addTenant_14 : decode cX5_addTenant 14 = .ok (.bipush 9, 2) := by decide +kernel
theorem dX5_addTenant_16 : decode cX5_addTenant 16 = .ok (.if_icmp .gt 13, 3) := by decide +kernel
theorem dX5_addTenant_19 : decode cX5_addTenant 19 = .ok (.iload_n 3, 1) := by decide +kernel
theorem dX5_addTenant_20 : decode cX5_addTenant 20 = .ok (.ifCond .lt 9, 3) := by decide +kernel
theorem dX5_addTenant_23 : decode cX5_addTenant 23 = .ok (.iload_n 3, 1) := by decide +kernel
theorem dX5_addTenant_24 : decode cX5_addTenant 24 = .ok (.bipush 99, 2) := by decide +kernel
theorem dX5_addTenant_26 : decode cX5_addTenant 26 = .ok (.if_icmp .le 6, 3) := by decide +kernel
theorem dX5_addTenant_29 : decode cX5_addTenant 29 = .ok (.bipush (-2), 2) := by decide +kernel
theorem dX5_addTenant_31 : decode cX5_addTenant 31 = .ok (.ireturn, 1) := by decide +kernel
theorem dX5_addTenant_32 : decode cX5_addTenant 32 = .ok (.aload_n 0, 1) := by decide +kernel
theorem dX5_addTenant_33 : decode cX5_addTenant 33 = .ok (.getfield 21, 3) := by decide +kernel
theorem dX5_addTenant_36 : decode cX5_addTenant 36 = .ok (.bipush 6, 2) := by decide +kernel
theorem dX5_addTenant_38 : decode cX5_addTenant 38 = .ok (.if_icmp .lt 6, 3) := by decide +kernel
theorem dX5_addTenant_41 : decode cX5_addTenant 41 = .ok (.bipush (-4), 2) := by decide +kernel
theorem dX5_addTenant_43 : decode cX5_addTenant 43 = .ok (.ireturn, 1) := by decide +kernel
theorem dX5_addTenant_44 : decode cX5_addTenant 44 = .ok (.aload_n 0, 1) := by decide +kernel
theorem dX5_addTenant_45 : decode cX5_addTenant 45 = .ok (.getfield 30, 3) := by decide +kernel
theorem dX5_addTenant_48 : decode cX5_addTenant 48 = .ok (.aload_n 0, 1) := by decide +kernel
theorem dX5_addTenant_49 : decode cX5_addTenant 49 = .ok (.getfield 21, 3) := by decide +kernel
theorem dX5_addTenant_52 : decode cX5_addTenant 52 = .ok (.iload_n 1, 1) := by decide +kernel
theorem dX5_addTenant_53 : decode cX5_addTenant 53 = .ok (.iastore, 1) := by decide +kernel
theorem dX5_addTenant_54 : decode cX5_addTenant 54 = .ok (.aload_n 0, 1) := by decide +kernel
theorem dX5_addTenant_55 : decode cX5_addTenant 55 = .ok (.getfield 34, 3) := by decide +kernel
theorem dX5_addTenant_58 : decode cX5_addTenant 58 = .ok (.aload_n 0, 1) := by decide +kernel
theorem dX5_addTenant_59 : decode cX5_addTenant 59 = .ok (.getfield 21, 3) := by decide +kernel
theorem dX5_addTenant_62 : decode cX5_addTenant 62 = .ok (.iload_n 2, 1) := by decide +kernel
theorem dX5_addTenant_63 : decode cX5_addTenant 63 = .ok (.iastore, 1) := by decide +kernel
theorem dX5_addTenant_64 : decode cX5_addTenant 64 = .ok (.aload_n 0, 1) := by decide +kernel
theorem dX5_addTenant_65 : decode cX5_addTenant 65 = .ok (.getfield 37, 3) := by decide +kernel
theorem dX5_addTenant_68 : decode cX5_addTenant 68 = .ok (.aload_n 0, 1) := by decide +kernel
theorem dX5_addTenant_69 : decode cX5_addTenant 69 = .ok (.getfield 21, 3) := by decide +kernel
theorem dX5_addTenant_72 : decode cX5_addTenant 72 = .ok (.iload_n 3, 1) := by decide +kernel
theorem dX5_addTenant_73 : decode cX5_addTenant 73 = .ok (.iastore, 1) := by decide +kernel
theorem dX5_addTenant_74 : decode cX5_addTenant 74 = .ok (.aload_n 0, 1) := by decide +kernel
theorem dX5_addTenant_75 : decode cX5_addTenant 75 = .ok (.getfield 40, 3) := by decide +kernel
theorem dX5_addTenant_78 : decode cX5_addTenant 78 = .ok (.aload_n 0, 1) := by decide +kernel
theorem dX5_addTenant_79 : decode cX5_addTenant 79 = .ok (.getfield 21, 3) := by decide +kernel
theorem dX5_addTenant_82 : decode cX5_addTenant 82 = .ok (.iconst (-1), 1) := by decide +kernel
theorem dX5_addTenant_83 : decode cX5_addTenant 83 = .ok (.iastore, 1) := by decide +kernel
theorem dX5_addTenant_84 : decode cX5_addTenant 84 = .ok (.aload_n 0, 1) := by decide +kernel
theorem dX5_addTenant_85 : decode cX5_addTenant 85 = .ok (.getfield 43, 3) := by decide +kernel
theorem dX5_addTenant_88 : decode cX5_addTenant 88 = .ok (.aload_n 0, 1) := by decide +kernel
theorem dX5_addTenant_89 : decode cX5_addTenant 89 = .ok (.getfield 21, 3) := by decide +kernel
theorem dX5_addTenant_92 : decode cX5_addTenant 92 = .ok (.lconst 0, 1) := by decide +kernel
theorem dX5_addTenant_93 : decode cX5_addTenant 93 = .ok (.lastore, 1) := by decide +kernel
theorem dX5_addTenant_94 : decode cX5_addTenant 94 = .ok (.aload_n 0, 1) := by decide +kernel
theorem dX5_addTenant_95 : decode cX5_addTenant 95 = .ok (.dup, 1) := by decide +kernel
theorem dX5_addTenant_96 : decode cX5_addTenant 96 = .ok (.getfield 21, 3) := by decide +kernel
theorem dX5_addTenant_99 : decode cX5_addTenant 99 = .ok (.iconst 1, 1) := by decide +kernel
theorem dX5_addTenant_100 : decode cX5_addTenant 100 = .ok (.iadd, 1) := by decide +kernel
theorem dX5_addTenant_101 : decode cX5_addTenant 101 = .ok (.putfield 21, 3) := by decide +kernel
theorem dX5_addTenant_104 : decode cX5_addTenant 104 = .ok (.aload_n 0, 1) := by decide +kernel
theorem dX5_addTenant_105 : decode cX5_addTenant 105 = .ok (.getfield 21, 3) := by decide +kernel
theorem dX5_addTenant_108 : decode cX5_addTenant 108 = .ok (.iconst 1, 1) := by decide +kernel
theorem dX5_addTenant_109 : decode cX5_addTenant 109 = .ok (.isub, 1) := by decide +kernel
theorem dX5_addTenant_110 : decode cX5_addTenant 110 = .ok (.ireturn, 1) := by decide +kernel
theorem dX5_setRefused_0 : decode cX5_setRefused 0 = .ok (.aload_n 0, 1) := by decide +kernel
theorem dX5_setRefused_1 : decode cX5_setRefused 1 = .ok (.iload_n 1, 1) := by decide +kernel
theorem dX5_setRefused_2 : decode cX5_setRefused 2 = .ok (.invokevirtual 83, 3) := by decide +kernel
theorem dX5_setRefused_5 : decode cX5_setRefused 5 = .ok (.ifCond .eq 16, 3) := by decide +kernel
theorem dX5_setRefused_8 : decode cX5_setRefused 8 = .ok (.iload_n 2, 1) := by decide +kernel
theorem dX5_setRefused_9 : decode cX5_setRefused 9 = .ok (.iconst (-1), 1) := by decide +kernel
theorem dX5_setRefused_10 : decode cX5_setRefused 10 = .ok (.if_icmp .eq 14, 3) := by decide +kernel
theorem dX5_setRefused_13 : decode cX5_setRefused 13 = .ok (.aload_n 0, 1) := by decide +kernel
theorem dX5_setRefused_14 : decode cX5_setRefused 14 = .ok (.iload_n 2, 1) := by decide +kernel
theorem dX5_setRefused_15 : decode cX5_setRefused 15 = .ok (.invokevirtual 86, 3) := by decide +kernel
theorem dX5_setRefused_18 : decode cX5_setRefused 18 = .ok (.ifCond .ne 6, 3) := by decide +kernel
theorem dX5_setRefused_21 : decode cX5_setRefused 21 = .ok (.bipush (-2), 2) := by decide +kernel
theorem dX5_setRefused_23 : decode cX5_setRefused 23 = .ok (.ireturn, 1) := by decide +kernel
theorem dX5_setRefused_24 : decode cX5_setRefused 24 = .ok (.aload_n 0, 1) := by decide +kernel
theorem dX5_setRefused_25 : decode cX5_setRefused 25 = .ok (.getfield 40, 3) := by decide +kernel
theorem dX5_setRefused_28 : decode cX5_setRefused 28 = .ok (.iload_n 1, 1) := by decide +kernel
theorem dX5_setRefused_29 : decode cX5_setRefused 29 = .ok (.iaload, 1) := by decide +kernel
theorem dX5_setRefused_30 : decode cX5_setRefused 30 = .ok (.istore_n 3, 1) := by decide +kernel
theorem dX5_setRefused_31 : decode cX5_setRefused 31 = .ok (.aload_n 0, 1) := by decide +kernel
theorem dX5_setRefused_32 : decode cX5_setRefused 32 = .ok (.getfield 40, 3) := by decide +kernel
theorem dX5_setRefused_35 : decode cX5_setRefused 35 = .ok (.iload_n 1, 1) := by decide +kernel
theorem dX5_setRefused_36 : decode cX5_setRefused 36 = .ok (.iload_n 2, 1) := by decide +kernel
theorem dX5_setRefused_37 : decode cX5_setRefused 37 = .ok (.iastore, 1) := by decide +kernel
theorem dX5_setRefused_38 : decode cX5_setRefused 38 = .ok (.iload_n 3, 1) := by decide +kernel
theorem dX5_setRefused_39 : decode cX5_setRefused 39 = .ok (.ireturn, 1) := by decide +kernel
theorem dX5_setOwner_0 : decode cX5_setOwner 0 = .ok (.aload_n 0, 1) := by decide +kernel
theorem dX5_setOwner_1 : decode cX5_setOwner 1 = .ok (.iload_n 1, 1) := by decide +kernel
theorem dX5_setOwner_2 : decode cX5_setOwner 2 = .ok (.invokevirtual 72, 3) := by decide +kernel
theorem dX5_setOwner_5 : decode cX5_setOwner 5 = .ok (.ifCond .eq 16, 3) := by decide +kernel
theorem dX5_setOwner_8 : decode cX5_setOwner 8 = .ok (.iload_n 2, 1) := by decide +kernel
theorem dX5_setOwner_9 : decode cX5_setOwner 9 = .ok (.iconst (-1), 1) := by decide +kernel
theorem dX5_setOwner_10 : decode cX5_setOwner 10 = .ok (.if_icmp .eq 14, 3) := by decide +kernel
theorem dX5_setOwner_13 : decode cX5_setOwner 13 = .ok (.aload_n 0, 1) := by decide +kernel
theorem dX5_setOwner_14 : decode cX5_setOwner 14 = .ok (.iload_n 2, 1) := by decide +kernel
theorem dX5_setOwner_15 : decode cX5_setOwner 15 = .ok (.invokevirtual 83, 3) := by decide +kernel
theorem dX5_setOwner_18 : decode cX5_setOwner 18 = .ok (.ifCond .ne 6, 3) := by decide +kernel
theorem dX5_setOwner_21 : decode cX5_setOwner 21 = .ok (.bipush (-2), 2) := by decide +kernel
theorem dX5_setOwner_23 : decode cX5_setOwner 23 = .ok (.ireturn, 1) := by decide +kernel
theorem dX5_setOwner_24 : decode cX5_setOwner 24 = .ok (.aload_n 0, 1) := by decide +kernel
theorem dX5_setOwner_25 : decode cX5_setOwner 25 = .ok (.iload_n 1, 1) := by decide +kernel
theorem dX5_setOwner_26 : decode cX5_setOwner 26 = .ok (.invokevirtual 89, 3) := by decide +kernel
theorem dX5_setOwner_29 : decode cX5_setOwner 29 = .ok (.istore_n 3, 1) := by decide +kernel
theorem dX5_setOwner_30 : decode cX5_setOwner 30 = .ok (.iload_n 3, 1) := by decide +kernel
theorem dX5_setOwner_31 : decode cX5_setOwner 31 = .ok (.iconst (-1), 1) := by decide +kernel
theorem dX5_setOwner_32 : decode cX5_setOwner 32 = .ok (.if_icmp .eq 19, 3) := by decide +kernel
theorem dX5_setOwner_35 : decode cX5_setOwner 35 = .ok (.aload_n 0, 1) := by decide +kernel
theorem dX5_setOwner_36 : decode cX5_setOwner 36 = .ok (.getfield 43, 3) := by decide +kernel
theorem dX5_setOwner_39 : decode cX5_setOwner 39 = .ok (.iload_n 3, 1) := by decide +kernel
theorem dX5_setOwner_40 : decode cX5_setOwner 40 = .ok (.dup2, 1) := by decide +kernel
theorem dX5_setOwner_41 : decode cX5_setOwner 41 = .ok (.laload, 1) := by decide +kernel
theorem dX5_setOwner_42 : decode cX5_setOwner 42 = .ok (.lconst 1, 1) := by decide +kernel
theorem dX5_setOwner_43 : decode cX5_setOwner 43 = .ok (.iload_n 1, 1) := by decide +kernel
theorem dX5_setOwner_44 : decode cX5_setOwner 44 = .ok (.lshl, 1) := by decide +kernel
theorem dX5_setOwner_45 : decode cX5_setOwner 45 = .ok (.ldc2_w 93, 3) := by decide +kernel
theorem dX5_setOwner_48 : decode cX5_setOwner 48 = .ok (.lxor, 1) := by decide +kernel
theorem dX5_setOwner_49 : decode cX5_setOwner 49 = .ok (.land, 1) := by decide +kernel
theorem dX5_setOwner_50 : decode cX5_setOwner 50 = .ok (.lastore, 1) := by decide +kernel
theorem dX5_setOwner_51 : decode cX5_setOwner 51 = .ok (.iload_n 2, 1) := by decide +kernel
theorem dX5_setOwner_52 : decode cX5_setOwner 52 = .ok (.iconst (-1), 1) := by decide +kernel
theorem dX5_setOwner_53 : decode cX5_setOwner 53 = .ok (.if_icmp .eq 15, 3) := by decide +kernel
theorem dX5_setOwner_56 : decode cX5_setOwner 56 = .ok (.aload_n 0, 1) := by decide +kernel
theorem dX5_setOwner_57 : decode cX5_setOwner 57 = .ok (.getfield 43, 3) := by decide +kernel
theorem dX5_setOwner_60 : decode cX5_setOwner 60 = .ok (.iload_n 2, 1) := by decide +kernel
theorem dX5_setOwner_61 : decode cX5_setOwner 61 = .ok (.dup2, 1) := by decide +kernel
theorem dX5_setOwner_62 : decode cX5_setOwner 62 = .ok (.laload, 1) := by decide +kernel
theorem dX5_setOwner_63 : decode cX5_setOwner 63 = .ok (.lconst 1, 1) := by decide +kernel
theorem dX5_setOwner_64 : decode cX5_setOwner 64 = .ok (.iload_n 1, 1) := by decide +kernel
theorem dX5_setOwner_65 : decode cX5_setOwner 65 = .ok (.lshl, 1) := by decide +kernel
theorem dX5_setOwner_66 : decode cX5_setOwner 66 = .ok (.lor, 1) := by decide +kernel
theorem dX5_setOwner_67 : decode cX5_setOwner 67 = .ok (.lastore, 1) := by decide +kernel
theorem dX5_setOwner_68 : decode cX5_setOwner 68 = .ok (.iload_n 3, 1) := by decide +kernel
theorem dX5_setOwner_69 : decode cX5_setOwner 69 = .ok (.ireturn, 1) := by decide +kernel
theorem dX5_ownerOf_0 : decode cX5_ownerOf 0 = .ok (.iconst 0, 1) := by decide +kernel
theorem dX5_ownerOf_1 : decode cX5_ownerOf 1 = .ok (.istore_n 2, 1) := by decide +kernel
theorem dX5_ownerOf_2 : decode cX5_ownerOf 2 = .ok (.iload_n 2, 1) := by decide +kernel
theorem dX5_ownerOf_3 : decode cX5_ownerOf 3 = .ok (.aload_n 0, 1) := by decide +kernel
theorem dX5_ownerOf_4 : decode cX5_ownerOf 4 = .ok (.getfield 21, 3) := by decide +kernel
theorem dX5_ownerOf_7 : decode cX5_ownerOf 7 = .ok (.if_icmp .ge 26, 3) := by decide +kernel
theorem dX5_ownerOf_10 : decode cX5_ownerOf 10 = .ok (.aload_n 0, 1) := by decide +kernel
theorem dX5_ownerOf_11 : decode cX5_ownerOf 11 = .ok (.getfield 43, 3) := by decide +kernel
theorem dX5_ownerOf_14 : decode cX5_ownerOf 14 = .ok (.iload_n 2, 1) := by decide +kernel
theorem dX5_ownerOf_15 : decode cX5_ownerOf 15 = .ok (.laload, 1) := by decide +kernel
theorem dX5_ownerOf_16 : decode cX5_ownerOf 16 = .ok (.iload_n 1, 1) := by decide +kernel
theorem dX5_ownerOf_17 : decode cX5_ownerOf 17 = .ok (.lushr, 1) := by decide +kernel
theorem dX5_ownerOf_18 : decode cX5_ownerOf 18 = .ok (.lconst 1, 1) := by decide +kernel
theorem dX5_ownerOf_19 : decode cX5_ownerOf 19 = .ok (.land, 1) := by decide +kernel
theorem dX5_ownerOf_20 : decode cX5_ownerOf 20 = .ok (.lconst 1, 1) := by decide +kernel
theorem dX5_ownerOf_21 : decode cX5_ownerOf 21 = .ok (.lcmp, 1) := by decide +kernel
theorem dX5_ownerOf_22 : decode cX5_ownerOf 22 = .ok (.ifCond .ne 5, 3) := by decide +kernel
theorem dX5_ownerOf_25 : decode cX5_ownerOf 25 = .ok (.iload_n 2, 1) := by decide +kernel
theorem dX5_ownerOf_26 : decode cX5_ownerOf 26 = .ok (.ireturn, 1) := by decide +kernel
theorem dX5_ownerOf_27 : decode cX5_ownerOf 27 = .ok (.iinc 2 1, 3) := by decide +kernel
theorem dX5_ownerOf_30 : decode cX5_ownerOf 30 = .ok (.goto (-28), 3) := by decide +kernel
theorem dX5_ownerOf_33 : decode cX5_ownerOf 33 = .ok (.iconst (-1), 1) := by decide +kernel
theorem dX5_ownerOf_34 : decode cX5_ownerOf 34 = .ok (.ireturn, 1) := by decide +kernel
theorem dX5_addLetter_0 : decode cX5_addLetter 0 = .ok (.iload_n 1, 1) := by decide +kernel
theorem dX5_addLetter_1 : decode cX5_addLetter 1 = .ok (.invokestatic 95, 3) := by decide +kernel
theorem dX5_addLetter_4 : decode cX5_addLetter 4 = .ok (.ifCond .ne 6, 3) := by decide +kernel
theorem dX5_addLetter_7 : decode cX5_addLetter 7 = .ok (.bipush (-2), 2) := by decide +kernel
theorem dX5_addLetter_9 : decode cX5_addLetter 9 = .ok (.ireturn, 1) := by decide +kernel
theorem dX5_addLetter_10 : decode cX5_addLetter 10 = .ok (.iconst 0, 1) := by decide +kernel
theorem dX5_addLetter_11 : decode cX5_addLetter 11 = .ok (.istore_n 2, 1) := by decide +kernel
theorem dX5_addLetter_12 : decode cX5_addLetter 12 = .ok (.iload_n 2, 1) := by decide +kernel
theorem dX5_addLetter_13 : decode cX5_addLetter 13 = .ok (.aload_n 0, 1) := by decide +kernel
theorem dX5_addLetter_14 : decode cX5_addLetter 14 = .ok (.getfield 24, 3) := by decide +kernel
theorem dX5_addLetter_17 : decode cX5_addLetter 17 = .ok (.if_icmp .ge 22, 3) := by decide +kernel
theorem dX5_addLetter_20 : decode cX5_addLetter 20 = .ok (.aload_n 0, 1) := by decide +kernel
theorem dX5_addLetter_21 : decode cX5_addLetter 21 = .ok (.getfield 50, 3) := by decide +kernel
theorem dX5_addLetter_24 : decode cX5_addLetter 24 = .ok (.iload_n 2, 1) := by decide +kernel
theorem dX5_addLetter_25 : decode cX5_addLetter 25 = .ok (.iaload, 1) := by decide +kernel
theorem dX5_addLetter_26 : decode cX5_addLetter 26 = .ok (.iload_n 1, 1) := by decide +kernel
theorem dX5_addLetter_27 : decode cX5_addLetter 27 = .ok (.if_icmp .ne 6, 3) := by decide +kernel
theorem dX5_addLetter_30 : decode cX5_addLetter 30 = .ok (.bipush (-2), 2) := by decide +kernel
theorem dX5_addLetter_32 : decode cX5_addLetter 32 = .ok (.ireturn, 1) := by decide +kernel
theorem dX5_addLetter_33 : decode cX5_addLetter 33 = .ok (.iinc 2 1, 3) := by decide +kernel
theorem dX5_addLetter_36 : decode cX5_addLetter 36 = .ok (.goto (-24), 3) := by decide +kernel
theorem dX5_addLetter_39 : decode cX5_addLetter 39 = .ok (.aload_n 0, 1) := by decide +kernel
theorem dX5_addLetter_40 : decode cX5_addLetter 40 = .ok (.getfield 24, 3) := by decide +kernel
theorem dX5_addLetter_43 : decode cX5_addLetter 43 = .ok (.bipush 6, 2) := by decide +kernel
theorem dX5_addLetter_45 : decode cX5_addLetter 45 = .ok (.if_icmp .lt 6, 3) := by decide +kernel
theorem dX5_addLetter_48 : decode cX5_addLetter 48 = .ok (.bipush (-4), 2) := by decide +kernel
theorem dX5_addLetter_50 : decode cX5_addLetter 50 = .ok (.ireturn, 1) := by decide +kernel
theorem dX5_addLetter_51 : decode cX5_addLetter 51 = .ok (.aload_n 0, 1) := by decide +kernel
theorem dX5_addLetter_52 : decode cX5_addLetter 52 = .ok (.getfield 50, 3) := by decide +kernel
theorem dX5_addLetter_55 : decode cX5_addLetter 55 = .ok (.aload_n 0, 1) := by decide +kernel
theorem dX5_addLetter_56 : decode cX5_addLetter 56 = .ok (.getfield 24, 3) := by decide +kernel
theorem dX5_addLetter_59 : decode cX5_addLetter 59 = .ok (.iload_n 1, 1) := by decide +kernel
theorem dX5_addLetter_60 : decode cX5_addLetter 60 = .ok (.iastore, 1) := by decide +kernel
theorem dX5_addLetter_61 : decode cX5_addLetter 61 = .ok (.aload_n 0, 1) := by decide +kernel
theorem dX5_addLetter_62 : decode cX5_addLetter 62 = .ok (.dup, 1) := by decide +kernel
theorem dX5_addLetter_63 : decode cX5_addLetter 63 = .ok (.getfield 24, 3) := by decide +kernel
theorem dX5_addLetter_66 : decode cX5_addLetter 66 = .ok (.iconst 1, 1) := by decide +kernel
theorem dX5_addLetter_67 : decode cX5_addLetter 67 = .ok (.iadd, 1) := by decide +kernel
theorem dX5_addLetter_68 : decode cX5_addLetter 68 = .ok (.putfield 24, 3) := by decide +kernel
theorem dX5_addLetter_71 : decode cX5_addLetter 71 = .ok (.aload_n 0, 1) := by decide +kernel
theorem dX5_addLetter_72 : decode cX5_addLetter 72 = .ok (.getfield 24, 3) := by decide +kernel
theorem dX5_addLetter_75 : decode cX5_addLetter 75 = .ok (.iconst 1, 1) := by decide +kernel
theorem dX5_addLetter_76 : decode cX5_addLetter 76 = .ok (.isub, 1) := by decide +kernel
theorem dX5_addLetter_77 : decode cX5_addLetter 77 = .ok (.ireturn, 1) := by decide +kernel
theorem dX5_setLit_0 : decode cX5_setLit 0 = .ok (.iload_n 1, 1) := by decide +kernel
theorem dX5_setLit_1 : decode cX5_setLit 1 = .ok (.invokestatic 98, 3) := by decide +kernel
theorem dX5_setLit_4 : decode cX5_setLit 4 = .ok (.ifCond .eq 11, 3) := by decide +kernel
theorem dX5_setLit_7 : decode cX5_setLit 7 = .ok (.aload_n 0, 1) := by decide +kernel
theorem dX5_setLit_8 : decode cX5_setLit 8 = .ok (.iload_n 2, 1) := by decide +kernel
theorem dX5_setLit_9 : decode cX5_setLit 9 = .ok (.invokevirtual 72, 3) := by decide +kernel
theorem dX5_setLit_12 : decode cX5_setLit 12 = .ok (.ifCond .ne 6, 3) := by decide +kernel
theorem dX5_setLit_15 : decode cX5_setLit 15 = .ok (.bipush (-2), 2) := by decide +kernel
theorem dX5_setLit_17 : decode cX5_setLit 17 = .ok (.ireturn, 1) := by decide +kernel
theorem dX5_setLit_18 : decode cX5_setLit 18 = .ok (.aload_n 0, 1) := by decide +kernel
theorem dX5_setLit_19 : decode cX5_setLit 19 = .ok (.iload_n 1, 1) := by decide +kernel
theorem dX5_setLit_20 : decode cX5_setLit 20 = .ok (.iload_n 2, 1) := by decide +kernel
theorem dX5_setLit_21 : decode cX5_setLit 21 = .ok (.invokevirtual 101, 3) := by decide +kernel
theorem dX5_setLit_24 : decode cX5_setLit 24 = .ok (.iload_n 3, 1) := by decide +kernel
theorem dX5_setLit_25 : decode cX5_setLit 25 = .ok (.if_icmp .ne 6, 3) := by decide +kernel
theorem dX5_setLit_28 : decode cX5_setLit 28 = .ok (.bipush (-3), 2) := by decide +kernel
theorem dX5_setLit_30 : decode cX5_setLit 30 = .ok (.ireturn, 1) := by decide +kernel
theorem dX5_setLit_31 : decode cX5_setLit 31 = .ok (.aload_n 0, 1) := by decide +kernel
theorem dX5_setLit_32 : decode cX5_setLit 32 = .ok (.getfield 47, 3) := by decide +kernel
theorem dX5_setLit_35 : decode cX5_setLit 35 = .ok (.iload_n 1, 1) := by decide +kernel
theorem dX5_setLit_36 : decode cX5_setLit 36 = .ok (.dup2, 1) := by decide +kernel
theorem dX5_setLit_37 : decode cX5_setLit 37 = .ok (.laload, 1) := by decide +kernel
theorem dX5_setLit_38 : decode cX5_setLit 38 = .ok (.lconst 1, 1) := by decide +kernel
theorem dX5_setLit_39 : decode cX5_setLit 39 = .ok (.iload_n 2, 1) := by decide +kernel
theorem dX5_setLit_40 : decode cX5_setLit 40 = .ok (.lshl, 1) := by decide +kernel
theorem dX5_setLit_41 : decode cX5_setLit 41 = .ok (.lxor, 1) := by decide +kernel
theorem dX5_setLit_42 : decode cX5_setLit 42 = .ok (.lastore, 1) := by decide +kernel
theorem dX5_setLit_43 : decode cX5_setLit 43 = .ok (.iconst 1, 1) := by decide +kernel
theorem dX5_setLit_44 : decode cX5_setLit 44 = .ok (.ireturn, 1) := by decide +kernel
theorem dX5_isLit_0 : decode cX5_isLit 0 = .ok (.aload_n 0, 1) := by decide +kernel
theorem dX5_isLit_1 : decode cX5_isLit 1 = .ok (.getfield 47, 3) := by decide +kernel
theorem dX5_isLit_4 : decode cX5_isLit 4 = .ok (.iload_n 1, 1) := by decide +kernel
theorem dX5_isLit_5 : decode cX5_isLit 5 = .ok (.laload, 1) := by decide +kernel
theorem dX5_isLit_6 : decode cX5_isLit 6 = .ok (.iload_n 2, 1) := by decide +kernel
theorem dX5_isLit_7 : decode cX5_isLit 7 = .ok (.lushr, 1) := by decide +kernel
theorem dX5_isLit_8 : decode cX5_isLit 8 = .ok (.lconst 1, 1) := by decide +kernel
theorem dX5_isLit_9 : decode cX5_isLit 9 = .ok (.land, 1) := by decide +kernel
theorem dX5_isLit_10 : decode cX5_isLit 10 = .ok (.lconst 1, 1) := by decide +kernel
theorem dX5_isLit_11 : decode cX5_isLit 11 = .ok (.lcmp, 1) := by decide +kernel
theorem dX5_isLit_12 : decode cX5_isLit 12 = .ok (.ifCond .ne 7, 3) := by decide +kernel
theorem dX5_isLit_15 : decode cX5_isLit 15 = .ok (.iconst 1, 1) := by decide +kernel
theorem dX5_isLit_16 : decode cX5_isLit 16 = .ok (.goto 4, 3) := by decide +kernel
theorem dX5_isLit_19 : decode cX5_isLit 19 = .ok (.iconst 0, 1) := by decide +kernel
theorem dX5_isLit_20 : decode cX5_isLit 20 = .ok (.ireturn, 1) := by decide +kernel
theorem dX5_setSlack_0 : decode cX5_setSlack 0 = .ok (.iload_n 1, 1) := by decide +kernel
theorem dX5_setSlack_1 : decode cX5_setSlack 1 = .ok (.ifCond .lt 8, 3) := by decide +kernel
theorem dX5_setSlack_4 : decode cX5_setSlack 4 = .ok (.iload_n 1, 1) := by decide +kernel
theorem dX5_setSlack_5 : decode cX5_setSlack 5 = .ok (.iconst 3, 1) := by decide +kernel
theorem dX5_setSlack_6 : decode cX5_setSlack 6 = .ok (.if_icmp .le 6, 3) := by decide +kernel
theorem dX5_setSlack_9 : decode cX5_setSlack 9 = .ok (.bipush (-2), 2) := by decide +kernel
theorem dX5_setSlack_11 : decode cX5_setSlack 11 = .ok (.ireturn, 1) := by decide +kernel
theorem dX5_setSlack_12 : decode cX5_setSlack 12 = .ok (.aload_n 0, 1) := by decide +kernel
theorem dX5_setSlack_13 : decode cX5_setSlack 13 = .ok (.getfield 18, 3) := by decide +kernel
theorem dX5_setSlack_16 : decode cX5_setSlack 16 = .ok (.istore_n 2, 1) := by decide +kernel
theorem dX5_setSlack_17 : decode cX5_setSlack 17 = .ok (.aload_n 0, 1) := by decide +kernel
theorem dX5_setSlack_18 : decode cX5_setSlack 18 = .ok (.iload_n 1, 1) := by decide +kernel
theorem dX5_setSlack_19 : decode cX5_setSlack 19 = .ok (.putfield 18, 3) := by decide +kernel
theorem dX5_setSlack_22 : decode cX5_setSlack 22 = .ok (.iload_n 2, 1) := by decide +kernel
theorem dX5_setSlack_23 : decode cX5_setSlack 23 = .ok (.ireturn, 1) := by decide +kernel
theorem dX5_addReading_0 : decode cX5_addReading 0 = .ok (.aload_n 0, 1) := by decide +kernel
theorem dX5_addReading_1 : decode cX5_addReading 1 = .ok (.iload_n 1, 1) := by decide +kernel
theorem dX5_addReading_2 : decode cX5_addReading 2 = .ok (.invokevirtual 104, 3) := by decide +kernel
theorem dX5_addReading_5 : decode cX5_addReading 5 = .ok (.ifCond .eq 24, 3) := by decide +kernel
theorem dX5_addReading_8 : decode cX5_addReading 8 = .ok (.aload_n 0, 1) := by decide +kernel
theorem dX5_addReading_9 : decode cX5_addReading 9 = .ok (.iload_n 2, 1) := by decide +kernel
theorem dX5_addReading_10 : decode cX5_addReading 10 = .ok (.invokevirtual 86, 3) := by decide +kernel
theorem dX5_addReading_13 : decode cX5_addReading 13 = .ok (.ifCond .eq 16, 3) := by decide +kernel
theorem dX5_addReading_16 : decode cX5_addReading 16 = .ok (.iload_n 3, 1) := by decide +kernel
theorem dX5_addReading_17 : decode cX5_addReading 17 = .ok (.iconst (-1), 1) := by decide +kernel
theorem dX5_addReading_18 : decode cX5_addReading 18 = .ok (.if_icmp .eq 14, 3) := by decide +kernel
theorem dX5_addReading_21 : decode cX5_addReading 21 = .ok (.aload_n 0, 1) := by decide +kernel
theorem dX5_addReading_22 : decode cX5_addReading 22 = .ok (.iload_n 3, 1) := by decide +kernel
theorem dX5_addReading_23 : decode cX5_addReading 23 = .ok (.invokevirtual 86, 3) := by decide +kernel
theorem dX5_addReading_26 : decode cX5_addReading 26 = .ok (.ifCond .ne 6, 3) := by decide +kernel
theorem dX5_addReading_29 : decode cX5_addReading 29 = .ok (.bipush (-2), 2) := by decide +kernel
theorem dX5_addReading_31 : decode cX5_addReading 31 = .ok (.ireturn, 1) := by decide +kernel
theorem dX5_addReading_32 : decode cX5_addReading 32 = .ok (.aload_n 0, 1) := by decide +kernel
theorem dX5_addReading_33 : decode cX5_addReading 33 = .ok (.getfield 27, 3) := by decide +kernel
theorem dX5_addReading_36 : decode cX5_addReading 36 = .ok (.bipush 6, 2) := by decide +kernel
theorem dX5_addReading_38 : decode cX5_addReading 38 = .ok (.if_icmp .lt 6, 3) := by decide +kernel
theorem dX5_addReading_41 : decode cX5_addReading 41 = .ok (.bipush (-4), 2) := by decide +kernel
theorem dX5_addReading_43 : decode cX5_addReading 43 = .ok (.ireturn, 1) := by decide +kernel
theorem dX5_addReading_44 : decode cX5_addReading 44 = .ok (.aload_n 0, 1) := by decide +kernel
theorem dX5_addReading_45 : decode cX5_addReading 45 = .ok (.getfield 53, 3) := by decide +kernel
theorem dX5_addReading_48 : decode cX5_addReading 48 = .ok (.aload_n 0, 1) := by decide +kernel
theorem dX5_addReading_49 : decode cX5_addReading 49 = .ok (.getfield 27, 3) := by decide +kernel
theorem dX5_addReading_52 : decode cX5_addReading 52 = .ok (.iload_n 1, 1) := by decide +kernel
theorem dX5_addReading_53 : decode cX5_addReading 53 = .ok (.iastore, 1) := by decide +kernel
theorem dX5_addReading_54 : decode cX5_addReading 54 = .ok (.aload_n 0, 1) := by decide +kernel
theorem dX5_addReading_55 : decode cX5_addReading 55 = .ok (.getfield 56, 3) := by decide +kernel
theorem dX5_addReading_58 : decode cX5_addReading 58 = .ok (.aload_n 0, 1) := by decide +kernel
theorem dX5_addReading_59 : decode cX5_addReading 59 = .ok (.getfield 27, 3) := by decide +kernel
theorem dX5_addReading_62 : decode cX5_addReading 62 = .ok (.iload_n 2, 1) := by decide +kernel
theorem dX5_addReading_63 : decode cX5_addReading 63 = .ok (.iastore, 1) := by decide +kernel
theorem dX5_addReading_64 : decode cX5_addReading 64 = .ok (.aload_n 0, 1) := by decide +kernel
theorem dX5_addReading_65 : decode cX5_addReading 65 = .ok (.getfield 59, 3) := by decide +kernel
theorem dX5_addReading_68 : decode cX5_addReading 68 = .ok (.aload_n 0, 1) := by decide +kernel
theorem dX5_addReading_69 : decode cX5_addReading 69 = .ok (.getfield 27, 3) := by decide +kernel
theorem dX5_addReading_72 : decode cX5_addReading 72 = .ok (.iload_n 3, 1) := by decide +kernel
theorem dX5_addReading_73 : decode cX5_addReading 73 = .ok (.iastore, 1) := by decide +kernel
theorem dX5_addReading_74 : decode cX5_addReading 74 = .ok (.aload_n 0, 1) := by decide +kernel
theorem dX5_addReading_75 : decode cX5_addReading 75 = .ok (.dup, 1) := by decide +kernel
theorem dX5_addReading_76 : decode cX5_addReading 76 = .ok (.getfield 27, 3) := by decide +kernel
theorem dX5_addReading_79 : decode cX5_addReading 79 = .ok (.iconst 1, 1) := by decide +kernel
theorem dX5_addReading_80 : decode cX5_addReading 80 = .ok (.iadd, 1) := by decide +kernel
theorem dX5_addReading_81 : decode cX5_addReading 81 = .ok (.putfield 27, 3) := by decide +kernel
theorem dX5_addReading_84 : decode cX5_addReading 84 = .ok (.aload_n 0, 1) := by decide +kernel
theorem dX5_addReading_85 : decode cX5_addReading 85 = .ok (.getfield 27, 3) := by decide +kernel
theorem dX5_addReading_88 : decode cX5_addReading 88 = .ok (.iconst 1, 1) := by decide +kernel
theorem dX5_addReading_89 : decode cX5_addReading 89 = .ok (.isub, 1) := by decide +kernel
theorem dX5_addReading_90 : decode cX5_addReading 90 = .ok (.ireturn, 1) := by decide +kernel
theorem dX5_readAs_0 : decode cX5_readAs 0 = .ok (.aload_n 0, 1) := by decide +kernel
theorem dX5_readAs_1 : decode cX5_readAs 1 = .ok (.getfield 18, 3) := by decide +kernel
theorem dX5_readAs_4 : decode cX5_readAs 4 = .ok (.iconst 1, 1) := by decide +kernel
theorem dX5_readAs_5 : decode cX5_readAs 5 = .ok (.iadd, 1) := by decide +kernel
theorem dX5_readAs_6 : decode cX5_readAs 6 = .ok (.istore_n 2, 1) := by decide +kernel
theorem dX5_readAs_7 : decode cX5_readAs 7 = .ok (.iconst (-1), 1) := by decide +kernel
theorem dX5_readAs_8 : decode cX5_readAs 8 = .ok (.istore_n 3, 1) := by decide +kernel
theorem dX5_readAs_9 : decode cX5_readAs 9 = .ok (.iconst 0, 1) := by decide +kernel
theorem dX5_readAs_10 : decode cX5_readAs 10 = .ok (.istore 4, 2) := by decide +kernel
theorem dX5_readAs_12 : decode cX5_readAs 12 = .ok (.iload 4, 2) := by decide +kernel
theorem dX5_readAs_14 : decode cX5_readAs 14 = .ok (.aload_n 0, 1) := by decide +kernel
theorem dX5_readAs_15 : decode cX5_readAs 15 = .ok (.getfield 24, 3) := by decide +kernel
theorem dX5_readAs_18 : decode cX5_readAs 18 = .ok (.if_icmp .ge 46, 3) := by decide +kernel
theorem dX5_readAs_21 : decode cX5_readAs 21 = .ok (.iload_n 1, 1) := by decide +kernel
theorem dX5_readAs_22 : decode cX5_readAs 22 = .ok (.aload_n 0, 1) := by decide +kernel
theorem dX5_readAs_23 : decode cX5_readAs 23 = .ok (.getfield 50, 3) := by decide +kernel
theorem dX5_readAs_26 : decode cX5_readAs 26 = .ok (.iload 4, 2) := by decide +kernel
theorem dX5_readAs_28 : decode cX5_readAs 28 = .ok (.iaload, 1) := by decide +kernel
theorem dX5_readAs_29 : decode cX5_readAs 29 = .ok (.ixor, 1) := by decide +kernel
theorem dX5_readAs_30 : decode cX5_readAs 30 = .ok (.invokestatic 107, 3) := by decide +kernel
theorem dX5_readAs_33 : decode cX5_readAs 33 = .ok (.istore 5, 2) := by decide +kernel
theorem dX5_readAs_35 : decode cX5_readAs 35 = .ok (.iload 5, 2) := by decide +kernel
theorem dX5_readAs_37 : decode cX5_readAs 37 = .ok (.iload_n 2, 1) := by decide +kernel
theorem dX5_readAs_38 : decode cX5_readAs 38 = .ok (.if_icmp .ge 12, 3) := by decide +kernel
theorem dX5_readAs_41 : decode cX5_readAs 41 = .ok (.iload 5, 2) := by decide +kernel
theorem dX5_readAs_43 : decode cX5_readAs 43 = .ok (.istore_n 2, 1) := by decide +kernel
theorem dX5_readAs_44 : decode cX5_readAs 44 = .ok (.iload 4, 2) := by decide +kernel
theorem dX5_readAs_46 : decode cX5_readAs 46 = .ok (.istore_n 3, 1) := by decide +kernel
theorem dX5_readAs_47 : decode cX5_readAs 47 = .ok (.goto 11, 3) := by decide +kernel
theorem dX5_readAs_50 : decode cX5_readAs 50 = .ok (.iload 5, 2) := by decide +kernel
theorem dX5_readAs_52 : decode cX5_readAs 52 = .ok (.iload_n 2, 1) := by decide +kernel
theorem dX5_readAs_53 : decode cX5_readAs 53 = .ok (.if_icmp .ne 5, 3) := by decide +kernel
theorem dX5_readAs_56 : decode cX5_readAs 56 = .ok (.iconst (-1), 1) := by decide +kernel
theorem dX5_readAs_57 : decode cX5_readAs 57 = .ok (.istore_n 3, 1) := by decide +kernel
theorem dX5_readAs_58 : decode cX5_readAs 58 = .ok (.iinc 4 1, 3) := by decide +kernel
theorem dX5_readAs_61 : decode cX5_readAs 61 = .ok (.goto (-49), 3) := by decide +kernel
theorem dX5_readAs_64 : decode cX5_readAs 64 = .ok (.iload_n 3, 1) := by decide +kernel
theorem dX5_readAs_65 : decode cX5_readAs 65 = .ok (.ireturn, 1) := by decide +kernel
theorem dX5_painsOfChange_0 : decode cX5_painsOfChange 0 = .ok (.aload_n 0, 1) := by decide +kernel
theorem dX5_painsOfChange_1 : decode cX5_painsOfChange 1 = .ok (.iload_n 1, 1) := by decide +kernel
theorem dX5_painsOfChange_2 : decode cX5_painsOfChange 2 = .ok (.invokevirtual 89, 3) := by decide +kernel
theorem dX5_painsOfChange_5 : decode cX5_painsOfChange 5 = .ok (.istore_n 3, 1) := by decide +kernel
theorem dX5_painsOfChange_6 : decode cX5_painsOfChange 6 = .ok (.iload_n 3, 1) := by decide +kernel
theorem dX5_painsOfChange_7 : decode cX5_painsOfChange 7 = .ok (.iconst (-1), 1) := by decide +kernel
theorem dX5_painsOfChange_8 : decode cX5_painsOfChange 8 = .ok (.if_icmp .eq 22, 3) := by decide +kernel
theorem dX5_painsOfChange_11 : decode cX5_painsOfChange 11 = .ok (.aload_n 0, 1) := by decide +kernel
theorem dX5_painsOfChange_12 : decode cX5_painsOfChange 12 = .ok (.getfield 30, 3) := by decide +kernel
theorem dX5_painsOfChange_15 : decode cX5_painsOfChange 15 = .ok (.iload_n 3, 1) := by decide +kernel
theorem dX5_painsOfChange_16 : decode cX5_painsOfChange 16 = .ok (.iaload, 1) := by decide +kernel
theorem dX5_painsOfChange_17 : decode cX5_painsOfChange 17 = .ok (.iconst 4, 1) := by decide +kernel
theorem dX5_painsOfChange_18 : decode cX5_painsOfChange 18 = .ok (.if_icmp .ne 14, 3) := by decide +kernel
theorem dX5_painsOfChange_21 : decode cX5_painsOfChange 21 = .ok (.aload_n 0, 1) := by decide +kernel
theorem dX5_painsOfChange_22 : decode cX5_painsOfChange 22 = .ok (.iload_n 2, 1) := by decide +kernel
theorem dX5_painsOfChange_23 : decode cX5_painsOfChange 23 = .ok (.iload_n 1, 1) := by decide +kernel
theorem dX5_painsOfChange_24 : decode cX5_painsOfChange 24 = .ok (.invokevirtual 101, 3) := by decide +kernel
theorem dX5_painsOfChange_27 : decode cX5_painsOfChange 27 = .ok (.ifCond .ne 5, 3) := by decide +kernel
theorem dX5_painsOfChange_30 : decode cX5_painsOfChange 30 = .ok (.iconst (-1), 1) := by decide +kernel
theorem dX5_painsOfChange_31 : decode cX5_painsOfChange 31 = .ok (.ireturn, 1) := by decide +kernel
theorem dX5_painsOfChange_32 : decode cX5_painsOfChange 32 = .ok (.aload_n 0, 1) := by decide +kernel
theorem dX5_painsOfChange_33 : decode cX5_painsOfChange 33 = .ok (.getfield 30, 3) := by decide +kernel
theorem dX5_painsOfChange_36 : decode cX5_painsOfChange 36 = .ok (.iload_n 3, 1) := by decide +kernel
theorem dX5_painsOfChange_37 : decode cX5_painsOfChange 37 = .ok (.iaload, 1) := by decide +kernel
theorem dX5_painsOfChange_38 : decode cX5_painsOfChange 38 = .ok (.aload_n 0, 1) := by decide +kernel
theorem dX5_painsOfChange_39 : decode cX5_painsOfChange 39 = .ok (.getfield 34, 3) := by decide +kernel
theorem dX5_painsOfChange_42 : decode cX5_painsOfChange 42 = .ok (.iload_n 3, 1) := by decide +kernel
theorem dX5_painsOfChange_43 : decode cX5_painsOfChange 43 = .ok (.iaload, 1) := by decide +kernel
theorem dX5_painsOfChange_44 : decode cX5_painsOfChange 44 = .ok (.iload_n 2, 1) := by decide +kernel
theorem dX5_painsOfChange_45 : decode cX5_painsOfChange 45 = .ok (.invokestatic 112, 3) := by decide +kernel
theorem dX5_painsOfChange_48 : decode cX5_painsOfChange 48 = .ok (.ireturn, 1) := by decide +kernel
theorem dX5_painsOfTenant_0 : decode cX5_painsOfTenant 0 = .ok (.iload_n 2, 1) := by decide +kernel
theorem dX5_painsOfTenant_1 : decode cX5_painsOfTenant 1 = .ok (.iconst 2, 1) := by decide +kernel
theorem dX5_painsOfTenant_2 : decode cX5_painsOfTenant 2 = .ok (.if_icmp .lt 9, 3) := by decide +kernel
theorem dX5_painsOfTenant_5 : decode cX5_painsOfTenant 5 = .ok (.iconst 2, 1) := by decide +kernel
theorem dX5_painsOfTenant_6 : decode cX5_painsOfTenant 6 = .ok (.iload_n 1, 1) := by decide +kernel
theorem dX5_painsOfTenant_7 : decode cX5_painsOfTenant 7 = .ok (.imul, 1) := by decide +kernel
theorem dX5_painsOfTenant_8 : decode cX5_painsOfTenant 8 = .ok (.goto 4, 3) := by decide +kernel
theorem dX5_painsOfTenant_11 : decode cX5_painsOfTenant 11 = .ok (.iload_n 1, 1) := by decide +kernel
theorem dX5_painsOfTenant_12 : decode cX5_painsOfTenant 12 = .ok (.istore_n 3, 1) := by decide +kernel
theorem dX5_painsOfTenant_13 : decode cX5_painsOfTenant 13 = .ok (.iload_n 0, 1) := by decide +kernel
theorem dX5_painsOfTenant_14 : decode cX5_painsOfTenant 14 = .ok (.tableswitch 57 1 5 #[34, 36, 47, 51, 55], 34) := by decide +kernel
theorem dX5_painsOfTenant_48 : decode cX5_painsOfTenant 48 = .ok (.iload_n 3, 1) := by decide +kernel
theorem dX5_painsOfTenant_49 : decode cX5_painsOfTenant 49 = .ok (.ireturn, 1) := by decide +kernel
theorem dX5_painsOfTenant_50 : decode cX5_painsOfTenant 50 = .ok (.iload_n 2, 1) := by decide +kernel
theorem dX5_painsOfTenant_51 : decode cX5_painsOfTenant 51 = .ok (.iconst 2, 1) := by decide +kernel
theorem dX5_painsOfTenant_52 : decode cX5_painsOfTenant 52 = .ok (.if_icmp .ge 7, 3) := by decide +kernel
theorem dX5_painsOfTenant_55 : decode cX5_painsOfTenant 55 = .ok (.iconst 0, 1) := by decide +kernel
theorem dX5_painsOfTenant_56 : decode cX5_painsOfTenant 56 = .ok (.goto 4, 3) := by decide +kernel
theorem dX5_painsOfTenant_59 : decode cX5_painsOfTenant 59 = .ok (.iload_n 1, 1) := by decide +kernel
theorem dX5_painsOfTenant_60 : decode cX5_painsOfTenant 60 = .ok (.ireturn, 1) := by decide +kernel
theorem dX5_painsOfTenant_61 : decode cX5_painsOfTenant 61 = .ok (.iload_n 3, 1) := by decide +kernel
theorem dX5_painsOfTenant_62 : decode cX5_painsOfTenant 62 = .ok (.iconst 3, 1) := by decide +kernel
theorem dX5_painsOfTenant_63 : decode cX5_painsOfTenant 63 = .ok (.iadd, 1) := by decide +kernel
theorem dX5_painsOfTenant_64 : decode cX5_painsOfTenant 64 = .ok (.ireturn, 1) := by decide +kernel
theorem dX5_painsOfTenant_65 : decode cX5_painsOfTenant 65 = .ok (.iload_n 3, 1) := by decide +kernel
theorem dX5_painsOfTenant_66 : decode cX5_painsOfTenant 66 = .ok (.iconst 3, 1) := by decide +kernel
theorem dX5_painsOfTenant_67 : decode cX5_painsOfTenant 67 = .ok (.iadd, 1) := by decide +kernel
theorem dX5_painsOfTenant_68 : decode cX5_painsOfTenant 68 = .ok (.ireturn, 1) := by decide +kernel
theorem dX5_painsOfTenant_69 : decode cX5_painsOfTenant 69 = .ok (.iconst 0, 1) := by decide +kernel
theorem dX5_painsOfTenant_70 : decode cX5_painsOfTenant 70 = .ok (.ireturn, 1) := by decide +kernel
theorem dX5_painsOfTenant_71 : decode cX5_painsOfTenant 71 = .ok (.iload_n 1, 1) := by decide +kernel
theorem dX5_painsOfTenant_72 : decode cX5_painsOfTenant 72 = .ok (.ireturn, 1) := by decide +kernel
theorem dX5_changeable_0 : decode cX5_changeable 0 = .ok (.lconst 0, 1) := by decide +kernel
theorem dX5_changeable_1 : decode cX5_changeable 1 = .ok (.lstore 4, 2) := by decide +kernel
theorem dX5_changeable_3 : decode cX5_changeable 3 = .ok (.iconst 0, 1) := by decide +kernel
theorem dX5_changeable_4 : decode cX5_changeable 4 = .ok (.istore 6, 2) := by decide +kernel
theorem dX5_changeable_6 : decode cX5_changeable 6 = .ok (.iload 6, 2) := by decide +kernel
theorem dX5_changeable_8 : decode cX5_changeable 8 = .ok (.aload_n 0, 1) := by decide +kernel
theorem dX5_changeable_9 : decode cX5_changeable 9 = .ok (.getfield 21, 3) := by decide +kernel
theorem dX5_changeable_12 : decode cX5_changeable 12 = .ok (.if_icmp .ge 98, 3) := by decide +kernel
theorem dX5_changeable_15 : decode cX5_changeable 15 = .ok (.aload_n 0, 1) := by decide +kernel
theorem dX5_changeable_16 : decode cX5_changeable 16 = .ok (.getfield 40, 3) := by decide +kernel
theorem dX5_changeable_19 : decode cX5_changeable 19 = .ok (.iload 6, 2) := by decide +kernel
theorem dX5_changeable_21 : decode cX5_changeable 21 = .ok (.iaload, 1) := by decide +kernel
theorem dX5_changeable_22 : decode cX5_changeable 22 = .ok (.iconst (-1), 1) := by decide +kernel
theorem dX5_changeable_23 : decode cX5_changeable 23 = .ok (.if_icmp .eq 17, 3) := by decide +kernel
theorem dX5_changeable_26 : decode cX5_changeable 26 = .ok (.iload_n 2, 1) := by decide +kernel
theorem dX5_changeable_27 : decode cX5_changeable 27 = .ok (.aload_n 0, 1) := by decide +kernel
theorem dX5_changeable_28 : decode cX5_changeable 28 = .ok (.getfield 40, 3) := by decide +kernel
theorem dX5_changeable_31 : decode cX5_changeable 31 = .ok (.iload 6, 2) := by decide +kernel
theorem dX5_changeable_33 : decode cX5_changeable 33 = .ok (.iaload, 1) := by decide +kernel
theorem dX5_changeable_34 : decode cX5_changeable 34 = .ok (.ishr, 1) := by decide +kernel
theorem dX5_changeable_35 : decode cX5_changeable 35 = .ok (.iconst 1, 1) := by decide +kernel
theorem dX5_changeable_36 : decode cX5_changeable 36 = .ok (.iand, 1) := by decide +kernel
theorem dX5_changeable_37 : decode cX5_changeable 37 = .ok (.ifCond .ne 7, 3) := by decide +kernel
theorem dX5_changeable_40 : decode cX5_changeable 40 = .ok (.iconst 1, 1) := by decide +kernel
theorem dX5_changeable_41 : decode cX5_changeable 41 = .ok (.goto 4, 3) := by decide +kernel
theorem dX5_changeable_44 : decode cX5_changeable 44 = .ok (.iconst 0, 1) := by decide +kernel
theorem dX5_changeable_45 : decode cX5_changeable 45 = .ok (.istore 7, 2) := by decide +kernel
theorem dX5_changeable_47 : decode cX5_changeable 47 = .ok (.iload_n 3, 1) := by decide +kernel
theorem dX5_changeable_48 : decode cX5_changeable 48 = .ok (.iload 6, 2) := by decide +kernel
theorem dX5_changeable_50 : decode cX5_changeable 50 = .ok (.ishr, 1) := by decide +kernel
theorem dX5_changeable_51 : decode cX5_changeable 51 = .ok (.iconst 1, 1) := by decide +kernel
theorem dX5_changeable_52 : decode cX5_changeable 52 = .ok (.iand, 1) := by decide +kernel
theorem dX5_changeable_53 : decode cX5_changeable 53 = .ok (.ifCond .eq 51, 3) := by decide +kernel
theorem dX5_changeable_56 : decode cX5_changeable 56 = .ok (.iload 7, 2) := by decide +kernel
theorem dX5_changeable_58 : decode cX5_changeable 58 = .ok (.ifCond .ne 6, 3) := by decide +kernel
theorem dX5_changeable_61 : decode cX5_changeable 61 = .ok (.goto 43, 3) := by decide +kernel
theorem dX5_changeable_64 : decode cX5_changeable 64 = .ok (.lload 4, 2) := by decide +kernel
theorem dX5_changeable_66 : decode cX5_changeable 66 = .ok (.aload_n 0, 1) := by decide +kernel
theorem dX5_changeable_67 : decode cX5_changeable 67 = .ok (.getfield 30, 3) := by decide +kernel
theorem dX5_changeable_70 : decode cX5_changeable 70 = .ok (.iload 6, 2) := by decide +kernel
theorem dX5_changeable_72 : decode cX5_changeable 72 = .ok (.iaload, 1) := by decide +kernel
theorem dX5_changeable_73 : decode cX5_changeable 73 = .ok (.iconst 4, 1) := by decide +kernel
theorem dX5_changeable_74 : decode cX5_changeable 74 = .ok (.if_icmp .ne 20, 3) := by decide +kernel
theorem dX5_changeable_77 : decode cX5_changeable 77 = .ok (.aload_n 0, 1) := by decide +kernel
theorem dX5_changeable_78 : decode cX5_changeable 78 = .ok (.getfield 43, 3) := by decide +kernel
theorem dX5_changeable_81 : decode cX5_changeable 81 = .ok (.iload 6, 2) := by decide +kernel
theorem dX5_changeable_83 : decode cX5_changeable 83 = .ok (.laload, 1) := by decide +kernel
theorem dX5_changeable_84 : decode cX5_changeable 84 = .ok (.aload_n 0, 1) := by decide +kernel
theorem dX5_changeable_85 : decode cX5_changeable 85 = .ok (.getfield 47, 3) := by decide +kernel
theorem dX5_changeable_88 : decode cX5_changeable 88 = .ok (.iload_n 1, 1) := by decide +kernel
theorem dX5_changeable_89 : decode cX5_changeable 89 = .ok (.laload, 1) := by decide +kernel
theorem dX5_changeable_90 : decode cX5_changeable 90 = .ok (.land, 1) := by decide +kernel
theorem dX5_changeable_91 : decode cX5_changeable 91 = .ok (.goto 10, 3) := by decide +kernel
theorem dX5_changeable_94 : decode cX5_changeable 94 = .ok (.aload_n 0, 1) := by decide +kernel
theorem dX5_changeable_95 : decode cX5_changeable 95 = .ok (.getfield 43, 3) := by decide +kernel
theorem dX5_changeable_98 : decode cX5_changeable 98 = .ok (.iload 6, 2) := by decide +kernel
theorem dX5_changeable_100 : decode cX5_changeable 100 = .ok (.laload, 1) := by decide +kernel
theorem dX5_changeable_101 : decode cX5_changeable 101 = .ok (.lor, 1) := by decide +kernel
theorem dX5_changeable_102 : decode cX5_changeable 102 = .ok (.lstore 4, 2) := by decide +kernel
theorem dX5_changeable_104 : decode cX5_changeable 104 = .ok (.iinc 6 1, 3) := by decide +kernel
theorem dX5_changeable_107 : decode cX5_changeable 107 = .ok (.goto (-101), 3) := by decide +kernel
theorem dX5_changeable_110 : decode cX5_changeable 110 = .ok (.lload 4, 2) := by decide +kernel
theorem dX5_changeable_112 : decode cX5_changeable 112 = .ok (.lreturn, 1) := by decide +kernel
theorem dX5_payOf_0 : decode cX5_payOf 0 = .ok (.iconst 0, 1) := by decide +kernel
theorem dX5_payOf_1 : decode cX5_payOf 1 = .ok (.istore_n 2, 1) := by decide +kernel
theorem dX5_payOf_2 : decode cX5_payOf 2 = .ok (.iconst 0, 1) := by decide +kernel
theorem dX5_payOf_3 : decode cX5_payOf 3 = .ok (.istore_n 3, 1) := by decide +kernel
theorem dX5_payOf_4 : decode cX5_payOf 4 = .ok (.iload_n 3, 1) := by decide +kernel
theorem dX5_payOf_5 : decode cX5_payOf 5 = .ok (.aload_n 0, 1) := by decide +kernel
theorem dX5_payOf_6 : decode cX5_payOf 6 = .ok (.getfield 21, 3) := by decide +kernel
theorem dX5_payOf_9 : decode cX5_payOf 9 = .ok (.if_icmp .ge 27, 3) := by decide +kernel
theorem dX5_payOf_12 : decode cX5_payOf 12 = .ok (.iload_n 1, 1) := by decide +kernel
theorem dX5_payOf_13 : decode cX5_payOf 13 = .ok (.iload_n 3, 1) := by decide +kernel
theorem dX5_payOf_14 : decode cX5_payOf 14 = .ok (.ishr, 1) := by decide +kernel
theorem dX5_payOf_15 : decode cX5_payOf 15 = .ok (.iconst 1, 1) := by decide +kernel
theorem dX5_payOf_16 : decode cX5_payOf 16 = .ok (.iand, 1) := by decide +kernel
theorem dX5_payOf_17 : decode cX5_payOf 17 = .ok (.iconst 1, 1) := by decide +kernel
theorem dX5_payOf_18 : decode cX5_payOf 18 = .ok (.if_icmp .ne 12, 3) := by decide +kernel
theorem dX5_payOf_21 : decode cX5_payOf 21 = .ok (.iload_n 2, 1) := by decide +kernel
theorem dX5_payOf_22 : decode cX5_payOf 22 = .ok (.aload_n 0, 1) := by decide +kernel
theorem dX5_payOf_23 : decode cX5_payOf 23 = .ok (.getfield 37, 3) := by decide +kernel
theorem dX5_payOf_26 : decode cX5_payOf 26 = .ok (.iload_n 3, 1) := by decide +kernel
theorem dX5_payOf_27 : decode cX5_payOf 27 = .ok (.iaload, 1) := by decide +kernel
theorem dX5_payOf_28 : decode cX5_payOf 28 = .ok (.iadd, 1) := by decide +kernel
theorem dX5_payOf_29 : decode cX5_payOf 29 = .ok (.istore_n 2, 1) := by decide +kernel
theorem dX5_payOf_30 : decode cX5_payOf 30 = .ok (.iinc 3 1, 3) := by decide +kernel
theorem dX5_payOf_33 : decode cX5_payOf 33 = .ok (.goto (-29), 3) := by decide +kernel
theorem dX5_payOf_36 : decode cX5_payOf 36 = .ok (.iload_n 2, 1) := by decide +kernel
theorem dX5_payOf_37 : decode cX5_payOf 37 = .ok (.ireturn, 1) := by decide +kernel
theorem dX5_fits_0 : decode cX5_fits 0 = .ok (.lload 4, 2) := by decide +kernel
theorem dX5_fits_2 : decode cX5_fits 2 = .ok (.iload_n 2, 1) := by decide +kernel
theorem dX5_fits_3 : decode cX5_fits 3 = .ok (.invokestatic 116, 3) := by decide +kernel
theorem dX5_fits_6 : decode cX5_fits 6 = .ok (.iconst (-1), 1) := by decide +kernel
theorem dX5_fits_7 : decode cX5_fits 7 = .ok (.ixor, 1) := by decide +kernel
theorem dX5_fits_8 : decode cX5_fits 8 = .ok (.sipush 4095, 3) := by decide +kernel
theorem dX5_fits_11 : decode cX5_fits 11 = .ok (.iand, 1) := by decide +kernel
theorem dX5_fits_12 : decode cX5_fits 12 = .ok (.istore 6, 2) := by decide +kernel
theorem dX5_fits_14 : decode cX5_fits 14 = .ok (.aload_n 0, 1) := by decide +kernel
theorem dX5_fits_15 : decode cX5_fits 15 = .ok (.getfield 50, 3) := by decide +kernel
theorem dX5_fits_18 : decode cX5_fits 18 = .ok (.iload_n 1, 1) := by decide +kernel
theorem dX5_fits_19 : decode cX5_fits 19 = .ok (.iaload, 1) := by decide +kernel
theorem dX5_fits_20 : decode cX5_fits 20 = .ok (.aload_n 0, 1) := by decide +kernel
theorem dX5_fits_21 : decode cX5_fits 21 = .ok (.getfield 47, 3) := by decide +kernel
theorem dX5_fits_24 : decode cX5_fits 24 = .ok (.iload_n 3, 1) := by decide +kernel
theorem dX5_fits_25 : decode cX5_fits 25 = .ok (.laload, 1) := by decide +kernel
theorem dX5_fits_26 : decode cX5_fits 26 = .ok (.iload_n 2, 1) := by decide +kernel
theorem dX5_fits_27 : decode cX5_fits 27 = .ok (.invokestatic 116, 3) := by decide +kernel
theorem dX5_fits_30 : decode cX5_fits 30 = .ok (.ixor, 1) := by decide +kernel
theorem dX5_fits_31 : decode cX5_fits 31 = .ok (.iload 6, 2) := by decide +kernel
theorem dX5_fits_33 : decode cX5_fits 33 = .ok (.iand, 1) := by decide +kernel
theorem dX5_fits_34 : decode cX5_fits 34 = .ok (.istore 7, 2) := by decide +kernel
theorem dX5_fits_36 : decode cX5_fits 36 = .ok (.aload_n 0, 1) := by decide +kernel
theorem dX5_fits_37 : decode cX5_fits 37 = .ok (.aload_n 0, 1) := by decide +kernel
theorem dX5_fits_38 : decode cX5_fits 38 = .ok (.getfield 50, 3) := by decide +kernel
theorem dX5_fits_41 : decode cX5_fits 41 = .ok (.iload_n 1, 1) := by decide +kernel
theorem dX5_fits_42 : decode cX5_fits 42 = .ok (.iaload, 1) := by decide +kernel
theorem dX5_fits_43 : decode cX5_fits 43 = .ok (.iload 7, 2) := by decide +kernel
theorem dX5_fits_45 : decode cX5_fits 45 = .ok (.ixor, 1) := by decide +kernel
theorem dX5_fits_46 : decode cX5_fits 46 = .ok (.invokevirtual 120, 3) := by decide +kernel
theorem dX5_fits_49 : decode cX5_fits 49 = .ok (.iload_n 1, 1) := by decide +kernel
theorem dX5_fits_50 : decode cX5_fits 50 = .ok (.if_icmp .ne 7, 3) := by decide +kernel
theorem dX5_fits_53 : decode cX5_fits 53 = .ok (.iconst 1, 1) := by decide +kernel
theorem dX5_fits_54 : decode cX5_fits 54 = .ok (.goto 4, 3) := by decide +kernel
theorem dX5_fits_57 : decode cX5_fits 57 = .ok (.iconst 0, 1) := by decide +kernel
theorem dX5_fits_58 : decode cX5_fits 58 = .ok (.ireturn, 1) := by decide +kernel
theorem dX5_firstColumn_0 : decode cX5_firstColumn 0 = .ok (.iload_n 3, 1) := by decide +kernel
theorem dX5_firstColumn_1 : decode cX5_firstColumn 1 = .ok (.istore 7, 2) := by decide +kernel
theorem dX5_firstColumn_3 : decode cX5_firstColumn 3 = .ok (.iload 7, 2) := by decide +kernel
theorem dX5_firstColumn_5 : decode cX5_firstColumn 5 = .ok (.aload_n 0, 1) := by decide +kernel
theorem dX5_firstColumn_6 : decode cX5_firstColumn 6 = .ok (.getfield 9, 3) := by decide +kernel
theorem dX5_firstColumn_9 : decode cX5_firstColumn 9 = .ok (.iconst 3, 1) := by decide +kernel
theorem dX5_firstColumn_10 : decode cX5_firstColumn 10 = .ok (.isub, 1) := by decide +kernel
theorem dX5_firstColumn_11 : decode cX5_firstColumn 11 = .ok (.if_icmp .gt 31, 3) := by decide +kernel
theorem dX5_firstColumn_14 : decode cX5_firstColumn 14 = .ok (.aload_n 0, 1) := by decide +kernel
theorem dX5_firstColumn_15 : decode cX5_firstColumn 15 = .ok (.iload_n 1, 1) := by decide +kernel
theorem dX5_firstColumn_16 : decode cX5_firstColumn 16 = .ok (.bipush 12, 2) := by decide +kernel
theorem dX5_firstColumn_18 : decode cX5_firstColumn 18 = .ok (.iload_n 2, 1) := by decide +kernel
theorem dX5_firstColumn_19 : decode cX5_firstColumn 19 = .ok (.imul, 1) := by decide +kernel
theorem dX5_firstColumn_20 : decode cX5_firstColumn 20 = .ok (.iload 7, 2) := by decide +kernel
theorem dX5_firstColumn_22 : decode cX5_firstColumn 22 = .ok (.iadd, 1) := by decide +kernel
theorem dX5_firstColumn_23 : decode cX5_firstColumn 23 = .ok (.iload 4, 2) := by decide +kernel
theorem dX5_firstColumn_25 : decode cX5_firstColumn 25 = .ok (.lload 5, 2) := by decide +kernel
theorem dX5_firstColumn_27 : decode cX5_firstColumn 27 = .ok (.invokevirtual 123, 3) := by decide +kernel
theorem dX5_firstColumn_30 : decode cX5_firstColumn 30 = .ok (.ifCond .eq 6, 3) := by decide +kernel
theorem dX5_firstColumn_33 : decode cX5_firstColumn 33 = .ok (.iload 7, 2) := by decide +kernel
theorem dX5_firstColumn_35 : decode cX5_firstColumn 35 = .ok (.ireturn, 1) := by decide +kernel
theorem dX5_firstColumn_36 : decode cX5_firstColumn 36 = .ok (.iinc 7 1, 3) := by decide +kernel
theorem dX5_firstColumn_39 : decode cX5_firstColumn 39 = .ok (.goto (-36), 3) := by decide +kernel
theorem dX5_firstColumn_42 : decode cX5_firstColumn 42 = .ok (.iconst (-1), 1) := by decide +kernel
theorem dX5_firstColumn_43 : decode cX5_firstColumn 43 = .ok (.ireturn, 1) := by decide +kernel
theorem dX5_canBeSaid_0 : decode cX5_canBeSaid 0 = .ok (.iconst 0, 1) := by decide +kernel
theorem dX5_canBeSaid_1 : decode cX5_canBeSaid 1 = .ok (.istore 5, 2) := by decide +kernel
theorem dX5_canBeSaid_3 : decode cX5_canBeSaid 3 = .ok (.iload 5, 2) := by decide +kernel
theorem dX5_canBeSaid_5 : decode cX5_canBeSaid 5 = .ok (.aload_n 0, 1) := by decide +kernel
theorem dX5_canBeSaid_6 : decode cX5_canBeSaid 6 = .ok (.getfield 15, 3) := by decide +kernel
theorem dX5_canBeSaid_9 : decode cX5_canBeSaid 9 = .ok (.iconst 4, 1) := by decide +kernel
theorem dX5_canBeSaid_10 : decode cX5_canBeSaid 10 = .ok (.isub, 1) := by decide +kernel
theorem dX5_canBeSaid_11 : decode cX5_canBeSaid 11 = .ok (.if_icmp .gt 23, 3) := by decide +kernel
theorem dX5_canBeSaid_14 : decode cX5_canBeSaid 14 = .ok (.aload_n 0, 1) := by decide +kernel
theorem dX5_canBeSaid_15 : decode cX5_canBeSaid 15 = .ok (.aload_n 1, 1) := by decide +kernel
theorem dX5_canBeSaid_16 : decode cX5_canBeSaid 16 = .ok (.iload 5, 2) := by decide +kernel
theorem dX5_canBeSaid_18 : decode cX5_canBeSaid 18 = .ok (.iload_n 2, 1) := by decide +kernel
theorem dX5_canBeSaid_19 : decode cX5_canBeSaid 19 = .ok (.lload_n 3, 1) := by decide +kernel
theorem dX5_canBeSaid_20 : decode cX5_canBeSaid 20 = .ok (.invokevirtual 127, 3) := by decide +kernel
theorem dX5_canBeSaid_23 : decode cX5_canBeSaid 23 = .ok (.ifCond .eq 5, 3) := by decide +kernel
theorem dX5_canBeSaid_26 : decode cX5_canBeSaid 26 = .ok (.iconst 1, 1) := by decide +kernel
theorem dX5_canBeSaid_27 : decode cX5_canBeSaid 27 = .ok (.ireturn, 1) := by decide +kernel
theorem dX5_canBeSaid_28 : decode cX5_canBeSaid 28 = .ok (.iinc 5 1, 3) := by decide +kernel
theorem dX5_canBeSaid_31 : decode cX5_canBeSaid 31 = .ok (.goto (-28), 3) := by decide +kernel
theorem dX5_canBeSaid_34 : decode cX5_canBeSaid 34 = .ok (.iconst 0, 1) := by decide +kernel
theorem dX5_canBeSaid_35 : decode cX5_canBeSaid 35 = .ok (.ireturn, 1) := by decide +kernel
theorem dX5_canBeSaidAt_0 : decode cX5_canBeSaidAt 0 = .ok (.iconst 0, 1) := by decide +kernel
theorem dX5_canBeSaidAt_1 : decode cX5_canBeSaidAt 1 = .ok (.istore 6, 2) := by decide +kernel
theorem dX5_canBeSaidAt_3 : decode cX5_canBeSaidAt 3 = .ok (.iconst 0, 1) := by decide +kernel
theorem dX5_canBeSaidAt_4 : decode cX5_canBeSaidAt 4 = .ok (.istore 7, 2) := by decide +kernel
theorem dX5_canBeSaidAt_6 : decode cX5_canBeSaidAt 6 = .ok (.iload 7, 2) := by decide +kernel
theorem dX5_canBeSaidAt_8 : decode cX5_canBeSaidAt 8 = .ok (.aload_n 1, 1) := by decide +kernel
theorem dX5_canBeSaidAt_9 : decode cX5_canBeSaidAt 9 = .ok (.getfield 131, 3) := by decide +kernel
theorem dX5_canBeSaidAt_12 : decode cX5_canBeSaidAt 12 = .ok (.if_icmp .ge 42, 3) := by decide +kernel
theorem dX5_canBeSaidAt_15 : decode cX5_canBeSaidAt 15 = .ok (.aload_n 0, 1) := by decide +kernel
theorem dX5_canBeSaidAt_16 : decode cX5_canBeSaidAt 16 = .ok (.aload_n 1, 1) := by decide +kernel
theorem dX5_canBeSaidAt_17 : decode cX5_canBeSaidAt 17 = .ok (.getfield 136, 3) := by decide +kernel
theorem dX5_canBeSaidAt_20 : decode cX5_canBeSaidAt 20 = .ok (.iload 7, 2) := by decide +kernel
theorem dX5_canBeSaidAt_22 : decode cX5_canBeSaidAt 22 = .ok (.iaload, 1) := by decide +kernel
theorem dX5_canBeSaidAt_23 : decode cX5_canBeSaidAt 23 = .ok (.iload_n 2, 1) := by decide +kernel
theorem dX5_canBeSaidAt_24 : decode cX5_canBeSaidAt 24 = .ok (.iload 6, 2) := by decide +kernel
theorem dX5_canBeSaidAt_26 : decode cX5_canBeSaidAt 26 = .ok (.iload_n 3, 1) := by decide +kernel
theorem dX5_canBeSaidAt_27 : decode cX5_canBeSaidAt 27 = .ok (.lload 4, 2) := by decide +kernel
theorem dX5_canBeSaidAt_29 : decode cX5_canBeSaidAt 29 = .ok (.invokevirtual 138, 3) := by decide +kernel
theorem dX5_canBeSaidAt_32 : decode cX5_canBeSaidAt 32 = .ok (.istore 8, 2) := by decide +kernel
theorem dX5_canBeSaidAt_34 : decode cX5_canBeSaidAt 34 = .ok (.iload 8, 2) := by decide +kernel
theorem dX5_canBeSaidAt_36 : decode cX5_canBeSaidAt 36 = .ok (.iconst (-1), 1) := by decide +kernel
theorem dX5_canBeSaidAt_37 : decode cX5_canBeSaidAt 37 = .ok (.if_icmp .ne 5, 3) := by decide +kernel
theorem dX5_canBeSaidAt_40 : decode cX5_canBeSaidAt 40 = .ok (.iconst 0, 1) := by decide +kernel
theorem dX5_canBeSaidAt_41 : decode cX5_canBeSaidAt 41 = .ok (.ireturn, 1) := by decide +kernel
theorem dX5_canBeSaidAt_42 : decode cX5_canBeSaidAt 42 = .ok (.iload 8, 2) := by decide +kernel
theorem dX5_canBeSaidAt_44 : decode cX5_canBeSaidAt 44 = .ok (.iconst 4, 1) := by decide +kernel
theorem dX5_canBeSaidAt_45 : decode cX5_canBeSaidAt 45 = .ok (.iadd, 1) := by decide +kernel
theorem dX5_canBeSaidAt_46 : decode cX5_canBeSaidAt 46 = .ok (.istore 6, 2) := by decide +kernel
theorem dX5_canBeSaidAt_48 : decode cX5_canBeSaidAt 48 = .ok (.iinc 7 1, 3) := by decide +kernel
theorem dX5_canBeSaidAt_51 : decode cX5_canBeSaidAt 51 = .ok (.goto (-45), 3) := by decide +kernel
theorem dX5_canBeSaidAt_54 : decode cX5_canBeSaidAt 54 = .ok (.iconst 1, 1) := by decide +kernel
theorem dX5_canBeSaidAt_55 : decode cX5_canBeSaidAt 55 = .ok (.ireturn, 1) := by decide +kernel
theorem dX5_digestOn_0 : decode cX5_digestOn 0 = .ok (.lload_n 1, 1) := by decide +kernel
theorem dX5_digestOn_1 : decode cX5_digestOn 1 = .ok (.lstore_n 3, 1) := by decide +kernel
theorem dX5_digestOn_2 : decode cX5_digestOn 2 = .ok (.iconst 0, 1) := by decide +kernel
theorem dX5_digestOn_3 : decode cX5_digestOn 3 = .ok (.istore 5, 2) := by decide +kernel
theorem dX5_digestOn_5 : decode cX5_digestOn 5 = .ok (.iload 5, 2) := by decide +kernel
theorem dX5_digestOn_7 : decode cX5_digestOn 7 = .ok (.aload_n 0, 1) := by decide +kernel
theorem dX5_digestOn_8 : decode cX5_digestOn 8 = .ok (.getfield 21, 3) := by decide +kernel
theorem dX5_digestOn_11 : decode cX5_digestOn 11 = .ok (.if_icmp .ge 69, 3) := by decide +kernel
theorem dX5_digestOn_14 : decode cX5_digestOn 14 = .ok (.ldc2_w 142, 3) := by decide +kernel
theorem dX5_digestOn_17 : decode cX5_digestOn 17 = .ok (.lload_n 3, 1) := by decide +kernel
theorem dX5_digestOn_18 : decode cX5_digestOn 18 = .ok (.lmul, 1) := by decide +kernel
theorem dX5_digestOn_19 : decode cX5_digestOn 19 = .ok (.aload_n 0, 1) := by decide +kernel
theorem dX5_digestOn_20 : decode cX5_digestOn 20 = .ok (.getfield 30, 3) := by decide +kernel
theorem dX5_digestOn_23 : decode cX5_digestOn 23 = .ok (.iload 5, 2) := by decide +kernel
theorem dX5_digestOn_25 : decode cX5_digestOn 25 = .ok (.iaload, 1) := by decide +kernel
theorem dX5_digestOn_26 : decode cX5_digestOn 26 = .ok (.i2l, 1) := by decide +kernel
theorem dX5_digestOn_27 : decode cX5_digestOn 27 = .ok (.ladd, 1) := by decide +kernel
theorem dX5_digestOn_28 : decode cX5_digestOn 28 = .ok (.lstore_n 3, 1) := by decide +kernel
theorem dX5_digestOn_29 : decode cX5_digestOn 29 = .ok (.ldc2_w 142, 3) := by decide +kernel
theorem dX5_digestOn_32 : decode cX5_digestOn 32 = .ok (.lload_n 3, 1) := by decide +kernel
theorem dX5_digestOn_33 : decode cX5_digestOn 33 = .ok (.lmul, 1) := by decide +kernel
theorem dX5_digestOn_34 : decode cX5_digestOn 34 = .ok (.aload_n 0, 1) := by decide +kernel
theorem dX5_digestOn_35 : decode cX5_digestOn 35 = .ok (.getfield 34, 3) := by decide +kernel
theorem dX5_digestOn_38 : decode cX5_digestOn 38 = .ok (.iload 5, 2) := by decide +kernel
theorem dX5_digestOn_40 : decode cX5_digestOn 40 = .ok (.iaload, 1) := by decide +kernel
theorem dX5_digestOn_41 : decode cX5_digestOn 41 = .ok (.i2l, 1) := by decide +kernel
theorem dX5_digestOn_42 : decode cX5_digestOn 42 = .ok (.ladd, 1) := by decide +kernel
theorem dX5_digestOn_43 : decode cX5_digestOn 43 = .ok (.lstore_n 3, 1) := by decide +kernel
theorem dX5_digestOn_44 : decode cX5_digestOn 44 = .ok (.ldc2_w 142, 3) := by decide +kernel
theorem dX5_digestOn_47 : decode cX5_digestOn 47 = .ok (.lload_n 3, 1) := by decide +kernel
theorem dX5_digestOn_48 : decode cX5_digestOn 48 = .ok (.lmul, 1) := by decide +kernel
theorem dX5_digestOn_49 : decode cX5_digestOn 49 = .ok (.aload_n 0, 1) := by decide +kernel
theorem dX5_digestOn_50 : decode cX5_digestOn 50 = .ok (.getfield 37, 3) := by decide +kernel
theorem dX5_digestOn_53 : decode cX5_digestOn 53 = .ok (.iload 5, 2) := by decide +kernel
theorem dX5_digestOn_55 : decode cX5_digestOn 55 = .ok (.iaload, 1) := by decide +kernel
theorem dX5_digestOn_56 : decode cX5_digestOn 56 = .ok (.i2l, 1) := by decide +kernel
theorem dX5_digestOn_57 : decode cX5_digestOn 57 = .ok (.ladd, 1) := by decide +kernel
theorem dX5_digestOn_58 : decode cX5_digestOn 58 = .ok (.lstore_n 3, 1) := by decide +kernel
theorem dX5_digestOn_59 : decode cX5_digestOn 59 = .ok (.ldc2_w 142, 3) := by decide +kernel
theorem dX5_digestOn_62 : decode cX5_digestOn 62 = .ok (.lload_n 3, 1) := by decide +kernel
theorem dX5_digestOn_63 : decode cX5_digestOn 63 = .ok (.lmul, 1) := by decide +kernel
theorem dX5_digestOn_64 : decode cX5_digestOn 64 = .ok (.aload_n 0, 1) := by decide +kernel
theorem dX5_digestOn_65 : decode cX5_digestOn 65 = .ok (.getfield 40, 3) := by decide +kernel
theorem dX5_digestOn_68 : decode cX5_digestOn 68 = .ok (.iload 5, 2) := by decide +kernel
theorem dX5_digestOn_70 : decode cX5_digestOn 70 = .ok (.iaload, 1) := by decide +kernel
theorem dX5_digestOn_71 : decode cX5_digestOn 71 = .ok (.i2l, 1) := by decide +kernel
theorem dX5_digestOn_72 : decode cX5_digestOn 72 = .ok (.ladd, 1) := by decide +kernel
theorem dX5_digestOn_73 : decode cX5_digestOn 73 = .ok (.lstore_n 3, 1) := by decide +kernel
theorem dX5_digestOn_74 : decode cX5_digestOn 74 = .ok (.iinc 5 1, 3) := by decide +kernel
theorem dX5_digestOn_77 : decode cX5_digestOn 77 = .ok (.goto (-72), 3) := by decide +kernel
theorem dX5_digestOn_80 : decode cX5_digestOn 80 = .ok (.iconst 0, 1) := by decide +kernel
theorem dX5_digestOn_81 : decode cX5_digestOn 81 = .ok (.istore 5, 2) := by decide +kernel
theorem dX5_digestOn_83 : decode cX5_digestOn 83 = .ok (.iload 5, 2) := by decide +kernel
theorem dX5_digestOn_85 : decode cX5_digestOn 85 = .ok (.aload_n 0, 1) := by decide +kernel
theorem dX5_digestOn_86 : decode cX5_digestOn 86 = .ok (.getfield 15, 3) := by decide +kernel
theorem dX5_digestOn_89 : decode cX5_digestOn 89 = .ok (.if_icmp .ge 41, 3) := by decide +kernel
theorem dX5_digestOn_92 : decode cX5_digestOn 92 = .ok (.iconst 0, 1) := by decide +kernel
theorem dX5_digestOn_93 : decode cX5_digestOn 93 = .ok (.istore 6, 2) := by decide +kernel
theorem dX5_digestOn_95 : decode cX5_digestOn 95 = .ok (.iload 6, 2) := by decide +kernel
theorem dX5_digestOn_97 : decode cX5_digestOn 97 = .ok (.aload_n 0, 1) := by decide +kernel
theorem dX5_digestOn_98 : decode cX5_digestOn 98 = .ok (.getfield 9, 3) := by decide +kernel
theorem dX5_digestOn_101 : decode cX5_digestOn 101 = .ok (.if_icmp .ge 23, 3) := by decide +kernel
theorem dX5_digestOn_104 : decode cX5_digestOn 104 = .ok (.aload_n 0, 1) := by decide +kernel
theorem dX5_digestOn_105 : decode cX5_digestOn 105 = .ok (.lload_n 3, 1) := by decide +kernel
theorem dX5_digestOn_106 : decode cX5_digestOn 106 = .ok (.bipush 12, 2) := by decide +kernel
theorem dX5_digestOn_108 : decode cX5_digestOn 108 = .ok (.iload 5, 2) := by decide +kernel
theorem dX5_digestOn_110 : decode cX5_digestOn 110 = .ok (.imul, 1) := by decide +kernel
theorem dX5_digestOn_111 : decode cX5_digestOn 111 = .ok (.iload 6, 2) := by decide +kernel
theorem dX5_digestOn_113 : decode cX5_digestOn 113 = .ok (.iadd, 1) := by decide +kernel
theorem dX5_digestOn_114 : decode cX5_digestOn 114 = .ok (.invokevirtual 144, 3) := by decide +kernel
theorem dX5_digestOn_117 : decode cX5_digestOn 117 = .ok (.lstore_n 3, 1) := by decide +kernel
theorem dX5_digestOn_118 : decode cX5_digestOn 118 = .ok (.iinc 6 1, 3) := by decide +kernel
theorem dX5_digestOn_121 : decode cX5_digestOn 121 = .ok (.goto (-26), 3) := by decide +kernel
theorem dX5_digestOn_124 : decode cX5_digestOn 124 = .ok (.iinc 5 1, 3) := by decide +kernel
theorem dX5_digestOn_127 : decode cX5_digestOn 127 = .ok (.goto (-44), 3) := by decide +kernel
theorem dX5_digestOn_130 : decode cX5_digestOn 130 = .ok (.iconst 0, 1) := by decide +kernel
theorem dX5_digestOn_131 : decode cX5_digestOn 131 = .ok (.istore 5, 2) := by decide +kernel
theorem dX5_digestOn_133 : decode cX5_digestOn 133 = .ok (.iload 5, 2) := by decide +kernel
theorem dX5_digestOn_135 : decode cX5_digestOn 135 = .ok (.aload_n 0, 1) := by decide +kernel
theorem dX5_digestOn_136 : decode cX5_digestOn 136 = .ok (.getfield 24, 3) := by decide +kernel
theorem dX5_digestOn_139 : decode cX5_digestOn 139 = .ok (.if_icmp .ge 24, 3) := by decide +kernel
theorem dX5_digestOn_142 : decode cX5_digestOn 142 = .ok (.ldc2_w 142, 3) := by decide +kernel
theorem dX5_digestOn_145 : decode cX5_digestOn 145 = .ok (.lload_n 3, 1) := by decide +kernel
theorem dX5_digestOn_146 : decode cX5_digestOn 146 = .ok (.lmul, 1) := by decide +kernel
theorem dX5_digestOn_147 : decode cX5_digestOn 147 = .ok (.aload_n 0, 1) := by decide +kernel
theorem dX5_digestOn_148 : decode cX5_digestOn 148 = .ok (.getfield 50, 3) := by decide +kernel
theorem dX5_digestOn_151 : decode cX5_digestOn 151 = .ok (.iload 5, 2) := by decide +kernel
theorem dX5_digestOn_153 : decode cX5_digestOn 153 = .ok (.iaload, 1) := by decide +kernel
theorem dX5_digestOn_154 : decode cX5_digestOn 154 = .ok (.i2l, 1) := by decide +kernel
theorem dX5_digestOn_155 : decode cX5_digestOn 155 = .ok (.ladd, 1) := by decide +kernel
theorem dX5_digestOn_156 : decode cX5_digestOn 156 = .ok (.lstore_n 3, 1) := by decide +kernel
theorem dX5_digestOn_157 : decode cX5_digestOn 157 = .ok (.iinc 5 1, 3) := by decide +kernel
theorem dX5_digestOn_160 : decode cX5_digestOn 160 = .ok (.goto (-27), 3) := by decide +kernel
theorem dX5_digestOn_163 : decode cX5_digestOn 163 = .ok (.ldc2_w 142, 3) := by decide +kernel
theorem dX5_digestOn_166 : decode cX5_digestOn 166 = .ok (.lload_n 3, 1) := by decide +kernel
theorem dX5_digestOn_167 : decode cX5_digestOn 167 = .ok (.lmul, 1) := by decide +kernel
theorem dX5_digestOn_168 : decode cX5_digestOn 168 = .ok (.aload_n 0, 1) := by decide +kernel
theorem dX5_digestOn_169 : decode cX5_digestOn 169 = .ok (.getfield 18, 3) := by decide +kernel
theorem dX5_digestOn_172 : decode cX5_digestOn 172 = .ok (.i2l, 1) := by decide +kernel
theorem dX5_digestOn_173 : decode cX5_digestOn 173 = .ok (.ladd, 1) := by decide +kernel
theorem dX5_digestOn_174 : decode cX5_digestOn 174 = .ok (.lstore_n 3, 1) := by decide +kernel
theorem dX5_digestOn_175 : decode cX5_digestOn 175 = .ok (.iconst 0, 1) := by decide +kernel
theorem dX5_digestOn_176 : decode cX5_digestOn 176 = .ok (.istore 5, 2) := by decide +kernel
theorem dX5_digestOn_178 : decode cX5_digestOn 178 = .ok (.iload 5, 2) := by decide +kernel
theorem dX5_digestOn_180 : decode cX5_digestOn 180 = .ok (.aload_n 0, 1) := by decide +kernel
theorem dX5_digestOn_181 : decode cX5_digestOn 181 = .ok (.getfield 27, 3) := by decide +kernel
theorem dX5_digestOn_184 : decode cX5_digestOn 184 = .ok (.if_icmp .ge 54, 3) := by decide +kernel
theorem dX5_digestOn_187 : decode cX5_digestOn 187 = .ok (.ldc2_w 142, 3) := by decide +kernel
theorem dX5_digestOn_190 : decode cX5_digestOn 190 = .ok (.lload_n 3, 1) := by decide +kernel
theorem dX5_digestOn_191 : decode cX5_digestOn 191 = .ok (.lmul, 1) := by decide +kernel
theorem dX5_digestOn_192 : decode cX5_digestOn 192 = .ok (.aload_n 0, 1) := by decide +kernel
theorem dX5_digestOn_193 : decode cX5_digestOn 193 = .ok (.getfield 53, 3) := by decide +kernel
theorem dX5_digestOn_196 : decode cX5_digestOn 196 = .ok (.iload 5, 2) := by decide +kernel
theorem dX5_digestOn_198 : decode cX5_digestOn 198 = .ok (.iaload, 1) := by decide +kernel
theorem dX5_digestOn_199 : decode cX5_digestOn 199 = .ok (.i2l, 1) := by decide +kernel
theorem dX5_digestOn_200 : decode cX5_digestOn 200 = .ok (.ladd, 1) := by decide +kernel
theorem dX5_digestOn_201 : decode cX5_digestOn 201 = .ok (.lstore_n 3, 1) := by decide +kernel
theorem dX5_digestOn_202 : decode cX5_digestOn 202 = .ok (.ldc2_w 142, 3) := by decide +kernel
theorem dX5_digestOn_205 : decode cX5_digestOn 205 = .ok (.lload_n 3, 1) := by decide +kernel
theorem dX5_digestOn_206 : decode cX5_digestOn 206 = .ok (.lmul, 1) := by decide +kernel
theorem dX5_digestOn_207 : decode cX5_digestOn 207 = .ok (.aload_n 0, 1) := by decide +kernel
theorem dX5_digestOn_208 : decode cX5_digestOn 208 = .ok (.getfield 56, 3) := by decide +kernel
theorem dX5_digestOn_211 : decode cX5_digestOn 211 = .ok (.iload 5, 2) := by decide +kernel
theorem dX5_digestOn_213 : decode cX5_digestOn 213 = .ok (.iaload, 1) := by decide +kernel
theorem dX5_digestOn_214 : decode cX5_digestOn 214 = .ok (.i2l, 1) := by decide +kernel
theorem dX5_digestOn_215 : decode cX5_digestOn 215 = .ok (.ladd, 1) := by decide +kernel
theorem dX5_digestOn_216 : decode cX5_digestOn 216 = .ok (.lstore_n 3, 1) := by decide +kernel
theorem dX5_digestOn_217 : decode cX5_digestOn 217 = .ok (.ldc2_w 142, 3) := by decide +kernel
theorem dX5_digestOn_220 : decode cX5_digestOn 220 = .ok (.lload_n 3, 1) := by decide +kernel
theorem dX5_digestOn_221 : decode cX5_digestOn 221 = .ok (.lmul, 1) := by decide +kernel
theorem dX5_digestOn_222 : decode cX5_digestOn 222 = .ok (.aload_n 0, 1) := by decide +kernel
theorem dX5_digestOn_223 : decode cX5_digestOn 223 = .ok (.getfield 59, 3) := by decide +kernel
theorem dX5_digestOn_226 : decode cX5_digestOn 226 = .ok (.iload 5, 2) := by decide +kernel
theorem dX5_digestOn_228 : decode cX5_digestOn 228 = .ok (.iaload, 1) := by decide +kernel
theorem dX5_digestOn_229 : decode cX5_digestOn 229 = .ok (.i2l, 1) := by decide +kernel
theorem dX5_digestOn_230 : decode cX5_digestOn 230 = .ok (.ladd, 1) := by decide +kernel
theorem dX5_digestOn_231 : decode cX5_digestOn 231 = .ok (.lstore_n 3, 1) := by decide +kernel
theorem dX5_digestOn_232 : decode cX5_digestOn 232 = .ok (.iinc 5 1, 3) := by decide +kernel
theorem dX5_digestOn_235 : decode cX5_digestOn 235 = .ok (.goto (-57), 3) := by decide +kernel
theorem dX5_digestOn_238 : decode cX5_digestOn 238 = .ok (.lload_n 3, 1) := by decide +kernel
theorem dX5_digestOn_239 : decode cX5_digestOn 239 = .ok (.lreturn, 1) := by decide +kernel
theorem dX5_digestOfWindow_0 : decode cX5_digestOfWindow 0 = .ok (.ldc2_w 142, 3) := by decide +kernel
theorem dX5_digestOfWindow_3 : decode cX5_digestOfWindow 3 = .ok (.lload_n 1, 1) := by decide +kernel
theorem dX5_digestOfWindow_4 : decode cX5_digestOfWindow 4 = .ok (.lmul, 1) := by decide +kernel
theorem dX5_digestOfWindow_5 : decode cX5_digestOfWindow 5 = .ok (.aload_n 0, 1) := by decide +kernel
theorem dX5_digestOfWindow_6 : decode cX5_digestOfWindow 6 = .ok (.iload_n 3, 1) := by decide +kernel
theorem dX5_digestOfWindow_7 : decode cX5_digestOfWindow 7 = .ok (.invokevirtual 89, 3) := by decide +kernel
theorem dX5_digestOfWindow_10 : decode cX5_digestOfWindow 10 = .ok (.i2l, 1) := by decide +kernel
theorem dX5_digestOfWindow_11 : decode cX5_digestOfWindow 11 = .ok (.ladd, 1) := by decide +kernel
theorem dX5_digestOfWindow_12 : decode cX5_digestOfWindow 12 = .ok (.lstore 4, 2) := by decide +kernel
theorem dX5_digestOfWindow_14 : decode cX5_digestOfWindow 14 = .ok (.iconst 0, 1) := by decide +kernel
theorem dX5_digestOfWindow_15 : decode cX5_digestOfWindow 15 = .ok (.istore 6, 2) := by decide +kernel
theorem dX5_digestOfWindow_17 : decode cX5_digestOfWindow 17 = .ok (.iload 6, 2) := by decide +kernel
theorem dX5_digestOfWindow_19 : decode cX5_digestOfWindow 19 = .ok (.iconst 4, 1) := by decide +kernel
theorem dX5_digestOfWindow_20 : decode cX5_digestOfWindow 20 = .ok (.if_icmp .ge 34, 3) := by decide +kernel
theorem dX5_digestOfWindow_23 : decode cX5_digestOfWindow 23 = .ok (.ldc2_w 142, 3) := by decide +kernel
theorem dX5_digestOfWindow_26 : decode cX5_digestOfWindow 26 = .ok (.lload 4, 2) := by decide +kernel
theorem dX5_digestOfWindow_28 : decode cX5_digestOfWindow 28 = .ok (.lmul, 1) := by decide +kernel
theorem dX5_digestOfWindow_29 : decode cX5_digestOfWindow 29 = .ok (.aload_n 0, 1) := by decide +kernel
theorem dX5_digestOfWindow_30 : decode cX5_digestOfWindow 30 = .ok (.iload 6, 2) := by decide +kernel
theorem dX5_digestOfWindow_32 : decode cX5_digestOfWindow 32 = .ok (.iload_n 3, 1) := by decide +kernel
theorem dX5_digestOfWindow_33 : decode cX5_digestOfWindow 33 = .ok (.invokevirtual 101, 3) := by decide +kernel
theorem dX5_digestOfWindow_36 : decode cX5_digestOfWindow 36 = .ok (.ifCond .eq 7, 3) := by decide +kernel
theorem dX5_digestOfWindow_39 : decode cX5_digestOfWindow 39 = .ok (.iconst 1, 1) := by decide +kernel
theorem dX5_digestOfWindow_40 : decode cX5_digestOfWindow 40 = .ok (.goto 4, 3) := by decide +kernel
theorem dX5_digestOfWindow_43 : decode cX5_digestOfWindow 43 = .ok (.iconst 0, 1) := by decide +kernel
theorem dX5_digestOfWindow_44 : decode cX5_digestOfWindow 44 = .ok (.i2l, 1) := by decide +kernel
theorem dX5_digestOfWindow_45 : decode cX5_digestOfWindow 45 = .ok (.ladd, 1) := by decide +kernel
theorem dX5_digestOfWindow_46 : decode cX5_digestOfWindow 46 = .ok (.lstore 4, 2) := by decide +kernel
theorem dX5_digestOfWindow_48 : decode cX5_digestOfWindow 48 = .ok (.iinc 6 1, 3) := by decide +kernel
theorem dX5_digestOfWindow_51 : decode cX5_digestOfWindow 51 = .ok (.goto (-34), 3) := by decide +kernel
theorem dX5_digestOfWindow_54 : decode cX5_digestOfWindow 54 = .ok (.lload 4, 2) := by decide +kernel
theorem dX5_digestOfWindow_56 : decode cX5_digestOfWindow 56 = .ok (.lreturn, 1) := by decide +kernel
theorem dX6_init_0 : decode cX6_init 0 = .ok (.aload_n 0, 1) := by decide +kernel
theorem dX6_init_1 : decode cX6_init 1 = .ok (.invokespecial 3, 3) := by decide +kernel
theorem dX6_init_4 : decode cX6_init 4 = .ok (.aload_n 0, 1) := by decide +kernel
theorem dX6_init_5 : decode cX6_init 5 = .ok (.iconst 3, 1) := by decide +kernel
theorem dX6_init_6 : decode cX6_init 6 = .ok (.newarray .int, 2) := by decide +kernel
theorem dX6_init_8 : decode cX6_init 8 = .ok (.putfield 9, 3) := by decide +kernel
theorem dX6_init_11 : decode cX6_init 11 = .ok (.aload_n 0, 1) := by decide +kernel
theorem dX6_init_12 : decode cX6_init 12 = .ok (.iconst 0, 1) := by decide +kernel
theorem dX6_init_13 : decode cX6_init 13 = .ok (.putfield 15, 3) := by decide +kernel
theorem dX6_init_16 : decode cX6_init 16 = .ok (.aload_n 0, 1) := by decide +kernel
theorem dX6_init_17 : decode cX6_init 17 = .ok (.iconst 0, 1) := by decide +kernel
theorem dX6_init_18 : decode cX6_init 18 = .ok (.putfield 19, 3) := by decide +kernel
theorem dX6_init_21 : decode cX6_init 21 = .ok (.return_, 1) := by decide +kernel
theorem dX6_spell_0 : decode cX6_spell 0 = .ok (.iload_n 1, 1) := by decide +kernel
theorem dX6_spell_1 : decode cX6_spell 1 = .ok (.iconst 1, 1) := by decide +kernel
theorem dX6_spell_2 : decode cX6_spell 2 = .ok (.if_icmp .lt 10, 3) := by decide +kernel
theorem dX6_spell_5 : decode cX6_spell 5 = .ok (.iload_n 1, 1) := by decide +kernel
theorem dX6_spell_6 : decode cX6_spell 6 = .ok (.sipush 666, 3) := by decide +kernel
theorem dX6_spell_9 : decode cX6_spell 9 = .ok (.if_icmp .le 5, 3) := by decide +kernel
theorem dX6_spell_12 : decode cX6_spell 12 = .ok (.iconst 0, 1) := by decide +kernel
theorem dX6_spell_13 : decode cX6_spell 13 = .ok (.ireturn, 1) := by decide +kernel
theorem dX6_spell_14 : decode cX6_spell 14 = .ok (.aload_n 0, 1) := by decide +kernel
theorem dX6_spell_15 : decode cX6_spell 15 = .ok (.iload_n 1, 1) := by decide +kernel
theorem dX6_spell_16 : decode cX6_spell 16 = .ok (.bipush 100, 2) := by decide +kernel
theorem dX6_spell_18 : decode cX6_spell 18 = .ok (.if_icmp .lt 7, 3) := by decide +kernel
theorem dX6_spell_21 : decode cX6_spell 21 = .ok (.iconst 3, 1) := by decide +kernel
theorem dX6_spell_22 : decode cX6_spell 22 = .ok (.goto 14, 3) := by decide +kernel
theorem dX6_spell_25 : decode cX6_spell 25 = .ok (.iload_n 1, 1) := by decide +kernel
theorem dX6_spell_26 : decode cX6_spell 26 = .ok (.bipush 10, 2) := by decide +kernel
theorem dX6_spell_28 : decode cX6_spell 28 = .ok (.if_icmp .lt 7, 3) := by decide +kernel
theorem dX6_spell_31 : decode cX6_spell 31 = .ok (.iconst 2, 1) := by decide +kernel
theorem dX6_spell_32 : decode cX6_spell 32 = .ok (.goto 4, 3) := by decide +kernel
theorem dX6_spell_35 : decode cX6_spell 35 = .ok (.iconst 1, 1) := by decide +kernel
theorem dX6_spell_36 : decode cX6_spell 36 = .ok (.putfield 15, 3) := by decide +kernel
theorem dX6_spell_39 : decode cX6_spell 39 = .ok (.aload_n 0, 1) := by decide +kernel
theorem dX6_spell_40 : decode cX6_spell 40 = .ok (.iconst 0, 1) := by decide +kernel
theorem dX6_spell_41 : decode cX6_spell 41 = .ok (.putfield 19, 3) := by decide +kernel
theorem dX6_spell_44 : decode cX6_spell 44 = .ok (.iload_n 1, 1) := by decide +kernel
theorem dX6_spell_45 : decode cX6_spell 45 = .ok (.istore_n 3, 1) := by decide +kernel
theorem dX6_spell_46 : decode cX6_spell 46 = .ok (.aload_n 0, 1) := by decide +kernel
theorem dX6_spell_47 : decode cX6_spell 47 = .ok (.getfield 15, 3) := by decide +kernel
theorem dX6_spell_50 : decode cX6_spell 50 = .ok (.iconst 1, 1) := by decide +kernel
theorem dX6_spell_51 : decode cX6_spell 51 = .ok (.isub, 1) := by decide +kernel
theorem dX6_spell_52 : decode cX6_spell 52 = .ok (.istore 4, 2) := by decide +kernel
theorem dX6_spell_54 : decode cX6_spell 54 = .ok (.iload 4, 2) := by decide +kernel
theorem dX6_spell_56 : decode cX6_spell 56 = .ok (.ifCond .lt 60, 3) := by decide +kernel
theorem dX6_spell_59 : decode cX6_spell 59 = .ok (.iload_n 3, 1) := by decide +kernel
theorem dX6_spell_60 : decode cX6_spell 60 = .ok (.bipush 10, 2) := by decide +kernel
theorem dX6_spell_62 : decode cX6_spell 62 = .ok (.irem, 1) := by decide +kernel
theorem dX6_spell_63 : decode cX6_spell 63 = .ok (.istore 5, 2) := by decide +kernel
theorem dX6_spell_65 : decode cX6_spell 65 = .ok (.iload 5, 2) := by decide +kernel
theorem dX6_spell_67 : decode cX6_spell 67 = .ok (.iconst 1, 1) := by decide +kernel
theorem dX6_spell_68 : decode cX6_spell 68 = .ok (.if_icmp .lt 9, 3) := by decide +kernel
theorem dX6_spell_71 : decode cX6_spell 71 = .ok (.iload 5, 2) := by decide +kernel
theorem dX6_spell_73 : decode cX6_spell 73 = .ok (.iload_n 2, 1) := by decide +kernel
theorem dX6_spell_74 : decode cX6_spell 74 = .ok (.if_icmp .le 5, 3) := by decide +kernel
theorem dX6_spell_77 : decode cX6_spell 77 = .ok (.iconst 0, 1) := by decide +kernel
theorem dX6_spell_78 : decode cX6_spell 78 = .ok (.ireturn, 1) := by decide +kernel
theorem dX6_spell_79 : decode cX6_spell 79 = .ok (.aload_n 0, 1) := by decide +kernel
theorem dX6_spell_80 : decode cX6_spell 80 = .ok (.getfield 9, 3) := by decide +kernel
theorem dX6_spell_83 : decode cX6_spell 83 = .ok (.iload 4, 2) := by decide +kernel
theorem dX6_spell_85 : decode cX6_spell 85 = .ok (.iload 5, 2) := by decide +kernel
theorem dX6_spell_87 : decode cX6_spell 87 = .ok (.iconst 1, 1) := by decide +kernel
theorem dX6_spell_88 : decode cX6_spell 88 = .ok (.isub, 1) := by decide +kernel
theorem dX6_spell_89 : decode cX6_spell 89 = .ok (.iastore, 1) := by decide +kernel
theorem dX6_spell_90 : decode cX6_spell 90 = .ok (.aload_n 0, 1) := by decide +kernel
theorem dX6_spell_91 : decode cX6_spell 91 = .ok (.dup, 1) := by decide +kernel
theorem dX6_spell_92 : decode cX6_spell 92 = .ok (.getfield 19, 3) := by decide +kernel
theorem dX6_spell_95 : decode cX6_spell 95 = .ok (.iconst 1, 1) := by decide +kernel
theorem dX6_spell_96 : decode cX6_spell 96 = .ok (.iload 5, 2) := by decide +kernel
theorem dX6_spell_98 : decode cX6_spell 98 = .ok (.iconst 1, 1) := by decide +kernel
theorem dX6_spell_99 : decode cX6_spell 99 = .ok (.isub, 1) := by decide +kernel
theorem dX6_spell_100 : decode cX6_spell 100 = .ok (.ishl, 1) := by decide +kernel
theorem dX6_spell_101 : decode cX6_spell 101 = .ok (.ior, 1) := by decide +kernel
theorem dX6_spell_102 : decode cX6_spell 102 = .ok (.putfield 19, 3) := by decide +kernel
theorem dX6_spell_105 : decode cX6_spell 105 = .ok (.iload_n 3, 1) := by decide +kernel
theorem dX6_spell_106 : decode cX6_spell 106 = .ok (.bipush 10, 2) := by decide +kernel
theorem dX6_spell_108 : decode cX6_spell 108 = .ok (.idiv, 1) := by decide +kernel
theorem dX6_spell_109 : decode cX6_spell 109 = .ok (.istore_n 3, 1) := by decide +kernel
theorem dX6_spell_110 : decode cX6_spell 110 = .ok (.iinc 4 (-1), 3) := by decide +kernel
theorem dX6_spell_113 : decode cX6_spell 113 = .ok (.goto (-59), 3) := by decide +kernel
theorem dX6_spell_116 : decode cX6_spell 116 = .ok (.iconst 1, 1) := by decide +kernel
theorem dX6_spell_117 : decode cX6_spell 117 = .ok (.ireturn, 1) := by decide +kernel
