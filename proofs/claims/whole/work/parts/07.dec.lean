theorem dJ6_bitCount_0f7a4_0 : decode cJ6_bitCount_0f7a4 0 = .ok (.iload_n 0, 1) := by decide +kernel
theorem dJ6_bitCount_0f7a4_1 : decode cJ6_bitCount_0f7a4 1 = .ok (.iload_n 0, 1) := by decide +kernel
theorem dJ6_bitCount_0f7a4_2 : decode cJ6_bitCount_0f7a4 2 = .ok (.iconst 1, 1) := by decide +kernel
theorem dJ6_bitCount_0f7a4_3 : decode cJ6_bitCount_0f7a4 3 = .ok (.iushr, 1) := by decide +kernel
theorem dJ6_bitCount_0f7a4_4 : decode cJ6_bitCount_0f7a4 4 = .ok (.ldc_w 265, 3) := by decide +kernel
theorem dJ6_bitCount_0f7a4_7 : decode cJ6_bitCount_0f7a4 7 = .ok (.iand, 1) := by decide +kernel
theorem dJ6_bitCount_0f7a4_8 : decode cJ6_bitCount_0f7a4 8 = .ok (.isub, 1) := by decide +kernel
theorem dJ6_bitCount_0f7a4_9 : decode cJ6_bitCount_0f7a4 9 = .ok (.istore_n 0, 1) := by decide +kernel
theorem dJ6_bitCount_0f7a4_10 : decode cJ6_bitCount_0f7a4 10 = .ok (.iload_n 0, 1) := by decide +kernel
theorem dJ6_bitCount_0f7a4_11 : decode cJ6_bitCount_0f7a4 11 = .ok (.ldc_w 266, 3) := by decide +kernel
theorem dJ6_bitCount_0f7a4_14 : decode cJ6_bitCount_0f7a4 14 = .ok (.iand, 1) := by decide +kernel
theorem dJ6_bitCount_0f7a4_15 : decode cJ6_bitCount_0f7a4 15 = .ok (.iload_n 0, 1) := by decide +kernel
theorem dJ6_bitCount_0f7a4_16 : decode cJ6_bitCount_0f7a4 16 = .ok (.iconst 2, 1) := by decide +kernel
theorem dJ6_bitCount_0f7a4_17 : decode cJ6_bitCount_0f7a4 17 = .ok (.iushr, 1) := by decide +kernel
theorem dJ6_bitCount_0f7a4_18 : decode cJ6_bitCount_0f7a4 18 = .ok (.ldc_w 266, 3) := by decide +kernel
theorem dJ6_bitCount_0f7a4_21 : decode cJ6_bitCount_0f7a4 21 = .ok (.iand, 1) := by decide +kernel
theorem dJ6_bitCount_0f7a4_22 : decode cJ6_bitCount_0f7a4 22 = .ok (.iadd, 1) := by decide +kernel
theorem dJ6_bitCount_0f7a4_23 : decode cJ6_bitCount_0f7a4 23 = .ok (.istore_n 0, 1) := by decide +kernel
theorem dJ6_bitCount_0f7a4_24 : decode cJ6_bitCount_0f7a4 24 = .ok (.iload_n 0, 1) := by decide +kernel
theorem dJ6_bitCount_0f7a4_25 : decode cJ6_bitCount_0f7a4 25 = .ok (.iload_n 0, 1) := by decide +kernel
theorem dJ6_bitCount_0f7a4_26 : decode cJ6_bitCount_0f7a4 26 = .ok (.iconst 4, 1) := by decide +kernel
theorem dJ6_bitCount_0f7a4_27 : decode cJ6_bitCount_0f7a4 27 = .ok (.iushr, 1) := by decide +kernel
theorem dJ6_bitCount_0f7a4_28 : decode cJ6_bitCount_0f7a4 28 = .ok (.iadd, 1) := by decide +kernel
theorem dJ6_bitCount_0f7a4_29 : decode cJ6_bitCount_0f7a4 29 = .ok (.ldc_w 267, 3) := by decide +kernel
theorem dJ6_bitCount_0f7a4_32 : decode cJ6_bitCount_0f7a4 32 = .ok (.iand, 1) := by decide +kernel
theorem dJ6_bitCount_0f7a4_33 : decode cJ6_bitCount_0f7a4 33 = .ok (.istore_n 0, 1) := by decide +kernel
theorem dJ6_bitCount_0f7a4_34 : decode cJ6_bitCount_0f7a4 34 = .ok (.iload_n 0, 1) := by decide +kernel
theorem dJ6_bitCount_0f7a4_35 : decode cJ6_bitCount_0f7a4 35 = .ok (.iload_n 0, 1) := by decide +kernel
theorem dJ6_bitCount_0f7a4_36 : decode cJ6_bitCount_0f7a4 36 = .ok (.bipush 8, 2) := by decide +kernel
theorem dJ6_bitCount_0f7a4_38 : decode cJ6_bitCount_0f7a4 38 = .ok (.iushr, 1) := by decide +kernel
theorem dJ6_bitCount_0f7a4_39 : decode cJ6_bitCount_0f7a4 39 = .ok (.iadd, 1) := by decide +kernel
theorem dJ6_bitCount_0f7a4_40 : decode cJ6_bitCount_0f7a4 40 = .ok (.istore_n 0, 1) := by decide +kernel
theorem dJ6_bitCount_0f7a4_41 : decode cJ6_bitCount_0f7a4 41 = .ok (.iload_n 0, 1) := by decide +kernel
theorem dJ6_bitCount_0f7a4_42 : decode cJ6_bitCount_0f7a4 42 = .ok (.iload_n 0, 1) := by decide +kernel
theorem dJ6_bitCount_0f7a4_43 : decode cJ6_bitCount_0f7a4 43 = .ok (.bipush 16, 2) := by decide +kernel
theorem dJ6_bitCount_0f7a4_45 : decode cJ6_bitCount_0f7a4 45 = .ok (.iushr, 1) := by decide +kernel
theorem dJ6_bitCount_0f7a4_46 : decode cJ6_bitCount_0f7a4 46 = .ok (.iadd, 1) := by decide +kernel
theorem dJ6_bitCount_0f7a4_47 : decode cJ6_bitCount_0f7a4 47 = .ok (.istore_n 0, 1) := by decide +kernel
theorem dJ6_bitCount_0f7a4_48 : decode cJ6_bitCount_0f7a4 48 = .ok (.iload_n 0, 1) := by decide +kernel
theorem dJ6_bitCount_0f7a4_49 : decode cJ6_bitCount_0f7a4 49 = .ok (.bipush 63, 2) := by decide +kernel
theorem dJ6_bitCount_0f7a4_51 : decode cJ6_bitCount_0f7a4 51 = .ok (.iand, 1) := by decide +kernel
theorem dJ6_bitCount_0f7a4_52 : decode cJ6_bitCount_0f7a4 52 = .ok (.ireturn, 1) := by decide +kernel
theorem dX5_readAs_0 : decode cX5_readAs 0 = .ok (.aload_n 0, 1) := by decide +kernel
theorem dX5_readAs_1 : decode cX5_readAs 1 = .ok (.getfield 18, 3) := by decide +kernel
theorem dX5_readAs_4 : decode cX5_readAs 4 = .ok (.iconst 1, 1) := by decide +kernel
theorem dX5_readAs_5 : decode cX5_readAs 5 = .ok (.iadd, 1) := by decide +kernel
theorem dX5_readAs_6 : decode cX5_readAs 6 = .ok (.istore_n 2, 1) := by decide +kernel
theorem dX5_readAs_7 : decode cX5_readAs 7 = .ok (.iconst (-1), 1) := by decide +kernel
theorem dX5_readAs_8 : decode cX5_readAs 8 = .ok (.istore_n 3, 1) := by decide +kernel
theorem dX5_readAs_9 : decode cX5_readAs 9 = .ok (.iconst 0, 1) := by decide +kernel
theorem dX5_readAs_10 : decode cX5_readAs 10 = .ok (.istore 4, 2) := by decide +kernel
theorem dX5_readAs_12 : decode cX5_readAs 12 = .ok (.iload 4, 2) := by decide +kernel
theorem dX5_readAs_14 : decode cX5_readAs 14 = .ok (.aload_n 0, 1) := by decide +kernel
theorem dX5_readAs_15 : decode cX5_readAs 15 = .ok (.getfield 24, 3) := by decide +kernel
theorem dX5_readAs_18 : decode cX5_readAs 18 = .ok (.if_icmp .ge 46, 3) := by decide +kernel
theorem dX5_readAs_21 : decode cX5_readAs 21 = .ok (.iload_n 1, 1) := by decide +kernel
theorem dX5_readAs_22 : decode cX5_readAs 22 = .ok (.aload_n 0, 1) := by decide +kernel
theorem dX5_readAs_23 : decode cX5_readAs 23 = .ok (.getfield 50, 3) := by decide +kernel
theorem dX5_readAs_26 : decode cX5_readAs 26 = .ok (.iload 4, 2) := by decide +kernel
theorem dX5_readAs_28 : decode cX5_readAs 28 = .ok (.iaload, 1) := by decide +kernel
theorem dX5_readAs_29 : decode cX5_readAs 29 = .ok (.ixor, 1) := by decide +kernel
theorem dX5_readAs_30 : decode cX5_readAs 30 = .ok (.invokestatic 107, 3) := by decide +kernel
theorem dX5_readAs_33 : decode cX5_readAs 33 = .ok (.istore 5, 2) := by decide +kernel
theorem dX5_readAs_35 : decode cX5_readAs 35 = .ok (.iload 5, 2) := by decide +kernel
theorem dX5_readAs_37 : decode cX5_readAs 37 = .ok (.iload_n 2, 1) := by decide +kernel
theorem dX5_readAs_38 : decode cX5_readAs 38 = .ok (.if_icmp .ge 12, 3) := by decide +kernel
theorem dX5_readAs_41 : decode cX5_readAs 41 = .ok (.iload 5, 2) := by decide +kernel
theorem dX5_readAs_43 : decode cX5_readAs 43 = .ok (.istore_n 2, 1) := by decide +kernel
theorem dX5_readAs_44 : decode cX5_readAs 44 = .ok (.iload 4, 2) := by decide +kernel
theorem dX5_readAs_46 : decode cX5_readAs 46 = .ok (.istore_n 3, 1) := by decide +kernel
theorem dX5_readAs_47 : decode cX5_readAs 47 = .ok (.goto 11, 3) := by decide +kernel
theorem dX5_readAs_50 : decode cX5_readAs 50 = .ok (.iload 5, 2) := by decide +kernel
theorem dX5_readAs_52 : decode cX5_readAs 52 = .ok (.iload_n 2, 1) := by decide +kernel
theorem dX5_readAs_53 : decode cX5_readAs 53 = .ok (.if_icmp .ne 5, 3) := by decide +kernel
theorem dX5_readAs_56 : decode cX5_readAs 56 = .ok (.iconst (-1), 1) := by decide +kernel
theorem dX5_readAs_57 : decode cX5_readAs 57 = .ok (.istore_n 3, 1) := by decide +kernel
theorem dX5_readAs_58 : decode cX5_readAs 58 = .ok (.iinc 4 1, 3) := by decide +kernel
theorem dX5_readAs_61 : decode cX5_readAs 61 = .ok (.goto (-49), 3) := by decide +kernel
theorem dX5_readAs_64 : decode cX5_readAs 64 = .ok (.iload_n 3, 1) := by decide +kernel
theorem dX5_readAs_65 : decode cX5_readAs 65 = .ok (.ireturn, 1) := by decide +kernel
theorem dX5_isWindowAt_0 : decode cX5_isWindowAt 0 = .ok (.iload_n 1, 1) := by decide +kernel
theorem dX5_isWindowAt_1 : decode cX5_isWindowAt 1 = .ok (.ifCond .lt 27, 3) := by decide +kernel
theorem dX5_isWindowAt_4 : decode cX5_isWindowAt 4 = .ok (.iload_n 1, 1) := by decide +kernel
theorem dX5_isWindowAt_5 : decode cX5_isWindowAt 5 = .ok (.aload_n 0, 1) := by decide +kernel
theorem dX5_isWindowAt_6 : decode cX5_isWindowAt 6 = .ok (.getfield 9, 3) := by decide +kernel
theorem dX5_isWindowAt_9 : decode cX5_isWindowAt 9 = .ok (.if_icmp .ge 19, 3) := by decide +kernel
theorem dX5_isWindowAt_12 : decode cX5_isWindowAt 12 = .ok (.iload_n 2, 1) := by decide +kernel
theorem dX5_isWindowAt_13 : decode cX5_isWindowAt 13 = .ok (.ifCond .lt 15, 3) := by decide +kernel
theorem dX5_isWindowAt_16 : decode cX5_isWindowAt 16 = .ok (.iload_n 2, 1) := by decide +kernel
theorem dX5_isWindowAt_17 : decode cX5_isWindowAt 17 = .ok (.aload_n 0, 1) := by decide +kernel
theorem dX5_isWindowAt_18 : decode cX5_isWindowAt 18 = .ok (.getfield 15, 3) := by decide +kernel
theorem dX5_isWindowAt_21 : decode cX5_isWindowAt 21 = .ok (.if_icmp .ge 7, 3) := by decide +kernel
theorem dX5_isWindowAt_24 : decode cX5_isWindowAt 24 = .ok (.iconst 1, 1) := by decide +kernel
theorem dX5_isWindowAt_25 : decode cX5_isWindowAt 25 = .ok (.goto 4, 3) := by decide +kernel
theorem dX5_isWindowAt_28 : decode cX5_isWindowAt 28 = .ok (.iconst 0, 1) := by decide +kernel
theorem dX5_isWindowAt_29 : decode cX5_isWindowAt 29 = .ok (.ireturn, 1) := by decide +kernel
theorem dX5_isWindow_0 : decode cX5_isWindow 0 = .ok (.iload_n 1, 1) := by decide +kernel
theorem dX5_isWindow_1 : decode cX5_isWindow 1 = .ok (.ifCond .lt 28, 3) := by decide +kernel
theorem dX5_isWindow_4 : decode cX5_isWindow 4 = .ok (.iload_n 1, 1) := by decide +kernel
theorem dX5_isWindow_5 : decode cX5_isWindow 5 = .ok (.bipush 60, 2) := by decide +kernel
theorem dX5_isWindow_7 : decode cX5_isWindow 7 = .ok (.if_icmp .ge 22, 3) := by decide +kernel
theorem dX5_isWindow_10 : decode cX5_isWindow 10 = .ok (.aload_n 0, 1) := by decide +kernel
theorem dX5_isWindow_11 : decode cX5_isWindow 11 = .ok (.iload_n 1, 1) := by decide +kernel
theorem dX5_isWindow_12 : decode cX5_isWindow 12 = .ok (.bipush 12, 2) := by decide +kernel
theorem dX5_isWindow_14 : decode cX5_isWindow 14 = .ok (.irem, 1) := by decide +kernel
theorem dX5_isWindow_15 : decode cX5_isWindow 15 = .ok (.iload_n 1, 1) := by decide +kernel
theorem dX5_isWindow_16 : decode cX5_isWindow 16 = .ok (.bipush 12, 2) := by decide +kernel
theorem dX5_isWindow_18 : decode cX5_isWindow 18 = .ok (.idiv, 1) := by decide +kernel
theorem dX5_isWindow_19 : decode cX5_isWindow 19 = .ok (.invokevirtual 68, 3) := by decide +kernel
theorem dX5_isWindow_22 : decode cX5_isWindow 22 = .ok (.ifCond .eq 7, 3) := by decide +kernel
theorem dX5_isWindow_25 : decode cX5_isWindow 25 = .ok (.iconst 1, 1) := by decide +kernel
theorem dX5_isWindow_26 : decode cX5_isWindow 26 = .ok (.goto 4, 3) := by decide +kernel
theorem dX5_isWindow_29 : decode cX5_isWindow 29 = .ok (.iconst 0, 1) := by decide +kernel
theorem dX5_isWindow_30 : decode cX5_isWindow 30 = .ok (.ireturn, 1) := by decide +kernel
theorem dX5_isTop_0 : decode cX5_isTop 0 = .ok (.iload_n 1, 1) := by decide +kernel
theorem dX5_isTop_1 : decode cX5_isTop 1 = .ok (.ifCond .lt 17, 3) := by decide +kernel
theorem dX5_isTop_4 : decode cX5_isTop 4 = .ok (.iload_n 1, 1) := by decide +kernel
theorem dX5_isTop_5 : decode cX5_isTop 5 = .ok (.aload_n 0, 1) := by decide +kernel
theorem dX5_isTop_6 : decode cX5_isTop 6 = .ok (.getfield 15, 3) := by decide +kernel
theorem dX5_isTop_9 : decode cX5_isTop 9 = .ok (.iconst 4, 1) := by decide +kernel
theorem dX5_isTop_10 : decode cX5_isTop 10 = .ok (.isub, 1) := by decide +kernel
theorem dX5_isTop_11 : decode cX5_isTop 11 = .ok (.if_icmp .gt 7, 3) := by decide +kernel
theorem dX5_isTop_14 : decode cX5_isTop 14 = .ok (.iconst 1, 1) := by decide +kernel
theorem dX5_isTop_15 : decode cX5_isTop 15 = .ok (.goto 4, 3) := by decide +kernel
theorem dX5_isTop_18 : decode cX5_isTop 18 = .ok (.iconst 0, 1) := by decide +kernel
theorem dX5_isTop_19 : decode cX5_isTop 19 = .ok (.ireturn, 1) := by decide +kernel
theorem dX5_isBox_0 : decode cX5_isBox 0 = .ok (.aload_n 0, 1) := by decide +kernel
theorem dX5_isBox_1 : decode cX5_isBox 1 = .ok (.iload_n 1, 1) := by decide +kernel
theorem dX5_isBox_2 : decode cX5_isBox 2 = .ok (.invokevirtual 72, 3) := by decide +kernel
theorem dX5_isBox_5 : decode cX5_isBox 5 = .ok (.ifCond .eq 31, 3) := by decide +kernel
theorem dX5_isBox_8 : decode cX5_isBox 8 = .ok (.iload_n 1, 1) := by decide +kernel
theorem dX5_isBox_9 : decode cX5_isBox 9 = .ok (.bipush 12, 2) := by decide +kernel
theorem dX5_isBox_11 : decode cX5_isBox 11 = .ok (.irem, 1) := by decide +kernel
theorem dX5_isBox_12 : decode cX5_isBox 12 = .ok (.aload_n 0, 1) := by decide +kernel
theorem dX5_isBox_13 : decode cX5_isBox 13 = .ok (.getfield 9, 3) := by decide +kernel
theorem dX5_isBox_16 : decode cX5_isBox 16 = .ok (.iconst 3, 1) := by decide +kernel
theorem dX5_isBox_17 : decode cX5_isBox 17 = .ok (.isub, 1) := by decide +kernel
theorem dX5_isBox_18 : decode cX5_isBox 18 = .ok (.if_icmp .gt 18, 3) := by decide +kernel
theorem dX5_isBox_21 : decode cX5_isBox 21 = .ok (.aload_n 0, 1) := by decide +kernel
theorem dX5_isBox_22 : decode cX5_isBox 22 = .ok (.iload_n 1, 1) := by decide +kernel
theorem dX5_isBox_23 : decode cX5_isBox 23 = .ok (.bipush 12, 2) := by decide +kernel
theorem dX5_isBox_25 : decode cX5_isBox 25 = .ok (.idiv, 1) := by decide +kernel
theorem dX5_isBox_26 : decode cX5_isBox 26 = .ok (.invokevirtual 76, 3) := by decide +kernel
theorem dX5_isBox_29 : decode cX5_isBox 29 = .ok (.ifCond .eq 7, 3) := by decide +kernel
theorem dX5_isBox_32 : decode cX5_isBox 32 = .ok (.iconst 1, 1) := by decide +kernel
theorem dX5_isBox_33 : decode cX5_isBox 33 = .ok (.goto 4, 3) := by decide +kernel
theorem dX5_isBox_36 : decode cX5_isBox 36 = .ok (.iconst 0, 1) := by decide +kernel
theorem dX5_isBox_37 : decode cX5_isBox 37 = .ok (.ireturn, 1) := by decide +kernel
theorem dX7_shapeIn_0 : decode cX7_shapeIn 0 = .ok (.iconst 0, 1) := by decide +kernel
theorem dX7_shapeIn_1 : decode cX7_shapeIn 1 = .ok (.istore_n 3, 1) := by decide +kernel
theorem dX7_shapeIn_2 : decode cX7_shapeIn 2 = .ok (.iconst 0, 1) := by decide +kernel
theorem dX7_shapeIn_3 : decode cX7_shapeIn 3 = .ok (.istore 4, 2) := by decide +kernel
theorem dX7_shapeIn_5 : decode cX7_shapeIn 5 = .ok (.iload 4, 2) := by decide +kernel
theorem dX7_shapeIn_7 : decode cX7_shapeIn 7 = .ok (.iconst 4, 1) := by decide +kernel
theorem dX7_shapeIn_8 : decode cX7_shapeIn 8 = .ok (.if_icmp .ge 31, 3) := by decide +kernel
theorem dX7_shapeIn_11 : decode cX7_shapeIn 11 = .ok (.iload_n 3, 1) := by decide +kernel
theorem dX7_shapeIn_12 : decode cX7_shapeIn 12 = .ok (.lload_n 0, 1) := by decide +kernel
theorem dX7_shapeIn_13 : decode cX7_shapeIn 13 = .ok (.iload_n 2, 1) := by decide +kernel
theorem dX7_shapeIn_14 : decode cX7_shapeIn 14 = .ok (.bipush 12, 2) := by decide +kernel
theorem dX7_shapeIn_16 : decode cX7_shapeIn 16 = .ok (.iload 4, 2) := by decide +kernel
theorem dX7_shapeIn_18 : decode cX7_shapeIn 18 = .ok (.imul, 1) := by decide +kernel
theorem dX7_shapeIn_19 : decode cX7_shapeIn 19 = .ok (.iadd, 1) := by decide +kernel
theorem dX7_shapeIn_20 : decode cX7_shapeIn 20 = .ok (.lushr, 1) := by decide +kernel
theorem dX7_shapeIn_21 : decode cX7_shapeIn 21 = .ok (.ldc2_w 275, 3) := by decide +kernel
theorem dX7_shapeIn_24 : decode cX7_shapeIn 24 = .ok (.land, 1) := by decide +kernel
theorem dX7_shapeIn_25 : decode cX7_shapeIn 25 = .ok (.l2i, 1) := by decide +kernel
theorem dX7_shapeIn_26 : decode cX7_shapeIn 26 = .ok (.iconst 3, 1) := by decide +kernel
theorem dX7_shapeIn_27 : decode cX7_shapeIn 27 = .ok (.iload 4, 2) := by decide +kernel
theorem dX7_shapeIn_29 : decode cX7_shapeIn 29 = .ok (.imul, 1) := by decide +kernel
theorem dX7_shapeIn_30 : decode cX7_shapeIn 30 = .ok (.ishl, 1) := by decide +kernel
theorem dX7_shapeIn_31 : decode cX7_shapeIn 31 = .ok (.ior, 1) := by decide +kernel
theorem dX7_shapeIn_32 : decode cX7_shapeIn 32 = .ok (.istore_n 3, 1) := by decide +kernel
theorem dX7_shapeIn_33 : decode cX7_shapeIn 33 = .ok (.iinc 4 1, 3) := by decide +kernel
theorem dX7_shapeIn_36 : decode cX7_shapeIn 36 = .ok (.goto (-31), 3) := by decide +kernel
theorem dX7_shapeIn_39 : decode cX7_shapeIn 39 = .ok (.iload_n 3, 1) := by decide +kernel
theorem dX7_shapeIn_40 : decode cX7_shapeIn 40 = .ok (.ireturn, 1) := by decide +kernel
theorem dX5_changeable_0 : decode cX5_changeable 0 = .ok (.lconst 0, 1) := by decide +kernel
theorem dX5_changeable_1 : decode cX5_changeable 1 = .ok (.lstore 4, 2) := by decide +kernel
theorem dX5_changeable_3 : decode cX5_changeable 3 = .ok (.iconst 0, 1) := by decide +kernel
theorem dX5_changeable_4 : decode cX5_changeable 4 = .ok (.istore 6, 2) := by decide +kernel
theorem dX5_changeable_6 : decode cX5_changeable 6 = .ok (.iload 6, 2) := by decide +kernel
theorem dX5_changeable_8 : decode cX5_changeable 8 = .ok (.aload_n 0, 1) := by decide +kernel
theorem dX5_changeable_9 : decode cX5_changeable 9 = .ok (.getfield 21, 3) := by decide +kernel
theorem dX5_changeable_12 : decode cX5_changeable 12 = .ok (.if_icmp .ge 98, 3) := by decide +kernel
theorem dX5_changeable_15 : decode cX5_changeable 15 = .ok (.aload_n 0, 1) := by decide +kernel
theorem dX5_changeable_16 : decode cX5_changeable 16 = .ok (.getfield 40, 3) := by decide +kernel
theorem dX5_changeable_19 : decode cX5_changeable 19 = .ok (.iload 6, 2) := by decide +kernel
theorem dX5_changeable_21 : decode cX5_changeable 21 = .ok (.iaload, 1) := by decide +kernel
theorem dX5_changeable_22 : decode cX5_changeable 22 = .ok (.iconst (-1), 1) := by decide +kernel
theorem dX5_changeable_23 : decode cX5_changeable 23 = .ok (.if_icmp .eq 17, 3) := by decide +kernel
theorem dX5_changeable_26 : decode cX5_changeable 26 = .ok (.iload_n 2, 1) := by decide +kernel
theorem dX5_changeable_27 : decode cX5_changeable 27 = .ok (.aload_n 0, 1) := by decide +kernel
theorem dX5_changeable_28 : decode cX5_changeable 28 = .ok (.getfield 40, 3) := by decide +kernel
theorem dX5_changeable_31 : decode cX5_changeable 31 = .ok (.iload 6, 2) := by decide +kernel
theorem dX5_changeable_33 : decode cX5_changeable 33 = .ok (.iaload, 1) := by decide +kernel
theorem dX5_changeable_34 : decode cX5_changeable 34 = .ok (.ishr, 1) := by decide +kernel
theorem dX5_changeable_35 : decode cX5_changeable 35 = .ok (.iconst 1, 1) := by decide +kernel
theorem dX5_changeable_36 : decode cX5_changeable 36 = .ok (.iand, 1) := by decide +kernel
theorem dX5_changeable_37 : decode cX5_changeable 37 = .ok (.ifCond .ne 7, 3) := by decide +kernel
theorem dX5_changeable_40 : decode cX5_changeable 40 = .ok (.iconst 1, 1) := by decide +kernel
theorem dX5_changeable_41 : decode cX5_changeable 41 = .ok (.goto 4, 3) := by decide +kernel
theorem dX5_changeable_44 : decode cX5_changeable 44 = .ok (.iconst 0, 1) := by decide +kernel
theorem dX5_changeable_45 : decode cX5_changeable 45 = .ok (.istore 7, 2) := by decide +kernel
theorem dX5_changeable_47 : decode cX5_changeable 47 = .ok (.iload_n 3, 1) := by decide +kernel
theorem dX5_changeable_48 : decode cX5_changeable 48 = .ok (.iload 6, 2) := by decide +kernel
theorem dX5_changeable_50 : decode cX5_changeable 50 = .ok (.ishr, 1) := by decide +kernel
theorem dX5_changeable_51 : decode cX5_changeable 51 = .ok (.iconst 1, 1) := by decide +kernel
theorem dX5_changeable_52 : decode cX5_changeable 52 = .ok (.iand, 1) := by decide +kernel
theorem dX5_changeable_53 : decode cX5_changeable 53 = .ok (.ifCond .eq 51, 3) := by decide +kernel
theorem dX5_changeable_56 : decode cX5_changeable 56 = .ok (.iload 7, 2) := by decide +kernel
theorem dX5_changeable_58 : decode cX5_changeable 58 = .ok (.ifCond .ne 6, 3) := by decide +kernel
theorem dX5_changeable_61 : decode cX5_changeable 61 = .ok (.goto 43, 3) := by decide +kernel
theorem dX5_changeable_64 : decode cX5_changeable 64 = .ok (.lload 4, 2) := by decide +kernel
theorem dX5_changeable_66 : decode cX5_changeable 66 = .ok (.aload_n 0, 1) := by decide +kernel
theorem dX5_changeable_67 : decode cX5_changeable 67 = .ok (.getfield 30, 3) := by decide +kernel
theorem dX5_changeable_70 : decode cX5_changeable 70 = .ok (.iload 6, 2) := by decide +kernel
theorem dX5_changeable_72 : decode cX5_changeable 72 = .ok (.iaload, 1) := by decide +kernel
theorem dX5_changeable_73 : decode cX5_changeable 73 = .ok (.iconst 4, 1) := by decide +kernel
theorem dX5_changeable_74 : decode cX5_changeable 74 = .ok (.if_icmp .ne 20, 3) := by decide +kernel
theorem dX5_changeable_77 : decode cX5_changeable 77 = .ok (.aload_n 0, 1) := by decide +kernel
theorem dX5_changeable_78 : decode cX5_changeable 78 = .ok (.getfield 43, 3) := by decide +kernel
theorem dX5_changeable_81 : decode cX5_changeable 81 = .ok (.iload 6, 2) := by decide +kernel
theorem dX5_changeable_83 : decode cX5_changeable 83 = .ok (.laload, 1) := by decide +kernel
theorem dX5_changeable_84 : decode cX5_changeable 84 = .ok (.aload_n 0, 1) := by decide +kernel
theorem dX5_changeable_85 : decode cX5_changeable 85 = .ok (.getfield 47, 3) := by decide +kernel
theorem dX5_changeable_88 : decode cX5_changeable 88 = .ok (.iload_n 1, 1) := by decide +kernel
theorem dX5_changeable_89 : decode cX5_changeable 89 = .ok (.laload, 1) := by decide +kernel
theorem dX5_changeable_90 : decode cX5_changeable 90 = .ok (.land, 1) := by decide +kernel
theorem dX5_changeable_91 : decode cX5_changeable 91 = .ok (.goto 10, 3) := by decide +kernel
theorem dX5_changeable_94 : decode cX5_changeable 94 = .ok (.aload_n 0, 1) := by decide +kernel
theorem dX5_changeable_95 : decode cX5_changeable 95 = .ok (.getfield 43, 3) := by decide +kernel
theorem dX5_changeable_98 : decode cX5_changeable 98 = .ok (.iload 6, 2) := by decide +kernel
theorem dX5_changeable_100 : decode cX5_changeable 100 = .ok (.laload, 1) := by decide +kernel
theorem dX5_changeable_101 : decode cX5_changeable 101 = .ok (.lor, 1) := by decide +kernel
theorem dX5_changeable_102 : decode cX5_changeable 102 = .ok (.lstore 4, 2) := by decide +kernel
theorem dX5_changeable_104 : decode cX5_changeable 104 = .ok (.iinc 6 1, 3) := by decide +kernel
theorem dX5_changeable_107 : decode cX5_changeable 107 = .ok (.goto (-101), 3) := by decide +kernel
theorem dX5_changeable_110 : decode cX5_changeable 110 = .ok (.lload 4, 2) := by decide +kernel
theorem dX5_changeable_112 : decode cX5_changeable 112 = .ok (.lreturn, 1) := by decide +kernel
theorem dX5_addTenant_0 : decode cX5_addTenant 0 = .ok (.iload_n 1, 1) := by decide +kernel
theorem dX5_addTenant_1 : decode cX5_addTenant 1 = .ok (.ifCond .lt 28, 3) := by decide +kernel
theorem dX5_addTenant_4 : decode cX5_addTenant 4 = .ok (.iload_n 1, 1) := by decide +kernel
theorem dX5_addTenant_5 : decode cX5_addTenant 5 = .ok (.iconst 5, 1) := by decide +kernel
theorem dX5_addTenant_6 : decode cX5_addTenant 6 = .ok (.if_icmp .gt 23, 3) := by decide +kernel
theorem dX5_addTenant_9 : decode cX5_addTenant 9 = .ok (.iload_n 2, 1) := by decide +kernel
theorem dX5_addTenant_10 : decode cX5_addTenant 10 = .ok (.ifCond .lt 19, 3) := by decide +kernel
theorem dX5_addTenant_13 : decode cX5_addTenant 13 = .ok (.iload_n 2, 1) := by decide +kernel
theorem dX5_addTenant_14 : decode cX5_addTenant 14 = .ok (.bipush 9, 2) := by decide +kernel
theorem dX5_addTenant_16 : decode cX5_addTenant 16 = .ok (.if_icmp .gt 13, 3) := by decide +kernel
theorem dX5_addTenant_19 : decode cX5_addTenant 19 = .ok (.iload_n 3, 1) := by decide +kernel
theorem dX5_addTenant_20 : decode cX5_addTenant 20 = .ok (.ifCond .lt 9, 3) := by decide +kernel
theorem dX5_addTenant_23 : decode cX5_addTenant 23 = .ok (.iload_n 3, 1) := by decide +kernel
theorem dX5_addTenant_24 : decode cX5_addTenant 24 = .ok (.bipush 99, 2) := by decide +kernel
theorem dX5_addTenant_26 : decode cX5_addTenant 26 = .ok (.if_icmp .le 6, 3) := by decide +kernel
theorem dX5_addTenant_29 : decode cX5_addTenant 29 = .ok (.bipush (-2), 2) := by decide +kernel
theorem dX5_addTenant_31 : decode cX5_addTenant 31 = .ok (.ireturn, 1) := by decide +kernel
theorem dX5_addTenant_32 : decode cX5_addTenant 32 = .ok (.aload_n 0, 1) := by decide +kernel
theorem dX5_addTenant_33 : decode cX5_addTenant 33 = .ok (.getfield 21, 3) := by decide +kernel
theorem dX5_addTenant_36 : decode cX5_addTenant 36 = .ok (.bipush 6, 2) := by decide +kernel
theorem dX5_addTenant_38 : decode cX5_addTenant 38 = .ok (.if_icmp .lt 6, 3) := by decide +kernel
theorem dX5_addTenant_41 : decode cX5_addTenant 41 = .ok (.bipush (-4), 2) := by decide +kernel
theorem dX5_addTenant_43 : decode cX5_addTenant 43 = .ok (.ireturn, 1) := by decide +kernel
theorem dX5_addTenant_44 : decode cX5_addTenant 44 = .ok (.aload_n 0, 1) := by decide +kernel
theorem dX5_addTenant_45 : decode cX5_addTenant 45 = .ok (.getfield 30, 3) := by decide +kernel
theorem dX5_addTenant_48 : decode cX5_addTenant 48 = .ok (.aload_n 0, 1) := by decide +kernel
theorem dX5_addTenant_49 : decode cX5_addTenant 49 = .ok (.getfield 21, 3) := by decide +kernel
theorem dX5_addTenant_52 : decode cX5_addTenant 52 = .ok (.iload_n 1, 1) := by decide +kernel
theorem dX5_addTenant_53 : decode cX5_addTenant 53 = .ok (.iastore, 1) := by decide +kernel
theorem dX5_addTenant_54 : decode cX5_addTenant 54 = .ok (.aload_n 0, 1) := by decide +kernel
theorem dX5_addTenant_55 : decode cX5_addTenant 55 = .ok (.getfield 34, 3) := by decide +kernel
theorem dX5_addTenant_58 : decode cX5_addTenant 58 = .ok (.aload_n 0, 1) := by decide +kernel
theorem dX5_addTenant_59 : decode cX5_addTenant 59 = .ok (.getfield 21, 3) := by decide +kernel
theorem dX5_addTenant_62 : decode cX5_addTenant 62 = .ok (.iload_n 2, 1) := by decide +kernel
theorem dX5_addTenant_63 : decode cX5_addTenant 63 = .ok (.iastore, 1) := by decide +kernel
theorem dX5_addTenant_64 : decode cX5_addTenant 64 = .ok (.aload_n 0, 1) := by decide +kernel
theorem dX5_addTenant_65 : decode cX5_addTenant 65 = .ok (.getfield 37, 3) := by decide +kernel
theorem dX5_addTenant_68 : decode cX5_addTenant 68 = .ok (.aload_n 0, 1) := by decide +kernel
theorem dX5_addTenant_69 : decode cX5_addTenant 69 = .ok (.getfield 21, 3) := by decide +kernel
theorem dX5_addTenant_72 : decode cX5_addTenant 72 = .ok (.iload_n 3, 1) := by decide +kernel
theorem dX5_addTenant_73 : decode cX5_addTenant 73 = .ok (.iastore, 1) := by decide +kernel
theorem dX5_addTenant_74 : decode cX5_addTenant 74 = .ok (.aload_n 0, 1) := by decide +kernel
theorem dX5_addTenant_75 : decode cX5_addTenant 75 = .ok (.getfield 40, 3) := by decide +kernel
theorem dX5_addTenant_78 : decode cX5_addTenant 78 = .ok (.aload_n 0, 1) := by decide +kernel
theorem dX5_addTenant_79 : decode cX5_addTenant 79 = .ok (.getfield 21, 3) := by decide +kernel
theorem dX5_addTenant_82 : decode cX5_addTenant 82 = .ok (.iconst (-1), 1) := by decide +kernel
theorem dX5_addTenant_83 : decode cX5_addTenant 83 = .ok (.iastore, 1) := by decide +kernel
theorem dX5_addTenant_84 : decode cX5_addTenant 84 = .ok (.aload_n 0, 1) := by decide +kernel
theorem dX5_addTenant_85 : decode cX5_addTenant 85 = .ok (.getfield 43, 3) := by decide +kernel
theorem dX5_addTenant_88 : decode cX5_addTenant 88 = .ok (.aload_n 0, 1) := by decide +kernel
theorem dX5_addTenant_89 : decode cX5_addTenant 89 = .ok (.getfield 21, 3) := by decide +kernel
theorem dX5_addTenant_92 : decode cX5_addTenant 92 = .ok (.lconst 0, 1) := by decide +kernel
theorem dX5_addTenant_93 : decode cX5_addTenant 93 = .ok (.lastore, 1) := by decide +kernel
theorem dX5_addTenant_94 : decode cX5_addTenant 94 = .ok (.aload_n 0, 1) := by decide +kernel
theorem dX5_addTenant_95 : decode cX5_addTenant 95 = .ok (.dup, 1) := by decide +kernel
theorem dX5_addTenant_96 : decode cX5_addTenant 96 = .ok (.getfield 21, 3) := by decide +kernel
theorem dX5_addTenant_99 : decode cX5_addTenant 99 = .ok (.iconst 1, 1) := by decide +kernel
theorem dX5_addTenant_100 : decode cX5_addTenant 100 = .ok (.iadd, 1) := by decide +kernel
theorem dX5_addTenant_101 : decode cX5_addTenant 101 = .ok (.putfield 21, 3) := by decide +kernel
theorem dX5_addTenant_104 : decode cX5_addTenant 104 = .ok (.aload_n 0, 1) := by decide +kernel
theorem dX5_addTenant_105 : decode cX5_addTenant 105 = .ok (.getfield 21, 3) := by decide +kernel
theorem dX5_addTenant_108 : decode cX5_addTenant 108 = .ok (.iconst 1, 1) := by decide +kernel
theorem dX5_addTenant_109 : decode cX5_addTenant 109 = .ok (.isub, 1) := by decide +kernel
theorem dX5_addTenant_110 : decode cX5_addTenant 110 = .ok (.ireturn, 1) := by decide +kernel
