theorem dX7_init_0 : decode cX7_init 0 = .ok (.aload_n 0, 1) := by decide +kernel
theorem dX7_init_1 : decode cX7_init 1 = .ok (.invokespecial 3, 3) := by decide +kernel
theorem dX7_init_4 : decode cX7_init 4 = .ok (.aload_n 0, 1) := by decide +kernel
theorem dX7_init_5 : decode cX7_init 5 = .ok (.new 9, 3) := by decide +kernel
theorem dX7_init_8 : decode cX7_init 8 = .ok (.dup, 1) := by decide +kernel
theorem dX7_init_9 : decode cX7_init 9 = .ok (.invokespecial 11, 3) := by decide +kernel
theorem dX7_init_12 : decode cX7_init 12 = .ok (.putfield 12, 3) := by decide +kernel
theorem dX7_init_15 : decode cX7_init 15 = .ok (.aload_n 0, 1) := by decide +kernel
theorem dX7_init_16 : decode cX7_init 16 = .ok (.new 9, 3) := by decide +kernel
theorem dX7_init_19 : decode cX7_init 19 = .ok (.dup, 1) := by decide +kernel
theorem dX7_init_20 : decode cX7_init 20 = .ok (.invokespecial 11, 3) := by decide +kernel
theorem dX7_init_23 : decode cX7_init 23 = .ok (.putfield 16, 3) := by decide +kernel
theorem dX7_init_26 : decode cX7_init 26 = .ok (.aload_n 0, 1) := by decide +kernel
theorem dX7_init_27 : decode cX7_init 27 = .ok (.new 9, 3) := by decide +kernel
theorem dX7_init_30 : decode cX7_init 30 = .ok (.dup, 1) := by decide +kernel
theorem dX7_init_31 : decode cX7_init 31 = .ok (.invokespecial 11, 3) := by decide +kernel
theorem dX7_init_34 : decode cX7_init 34 = .ok (.putfield 19, 3) := by decide +kernel
theorem dX7_init_37 : decode cX7_init 37 = .ok (.aload_n 0, 1) := by decide +kernel
theorem dX7_init_38 : decode cX7_init 38 = .ok (.new 9, 3) := by decide +kernel
theorem dX7_init_41 : decode cX7_init 41 = .ok (.dup, 1) := by decide +kernel
theorem dX7_init_42 : decode cX7_init 42 = .ok (.invokespecial 11, 3) := by decide +kernel
theorem dX7_init_45 : decode cX7_init 45 = .ok (.putfield 22, 3) := by decide +kernel
theorem dX7_init_48 : decode cX7_init 48 = .ok (.aload_n 0, 1) := by decide +kernel
theorem dX7_init_49 : decode cX7_init 49 = .ok (.iconst 0, 1) := by decide +kernel
theorem dX7_init_50 : decode cX7_init 50 = .ok (.putfield 25, 3) := by decide +kernel
theorem dX7_init_53 : decode cX7_init 53 = .ok (.aload_n 0, 1) := by decide +kernel
theorem dX7_init_54 : decode cX7_init 54 = .ok (.iconst 0, 1) := by decide +kernel
theorem dX7_init_55 : decode cX7_init 55 = .ok (.putfield 29, 3) := by decide +kernel
theorem dX7_init_58 : decode cX7_init 58 = .ok (.aload_n 0, 1) := by decide +kernel
theorem dX7_init_59 : decode cX7_init 59 = .ok (.new 32, 3) := by decide +kernel
theorem dX7_init_62 : decode cX7_init 62 = .ok (.dup, 1) := by decide +kernel
theorem dX7_init_63 : decode cX7_init 63 = .ok (.invokespecial 34, 3) := by decide +kernel
theorem dX7_init_66 : decode cX7_init 66 = .ok (.putfield 35, 3) := by decide +kernel
theorem dX7_init_69 : decode cX7_init 69 = .ok (.aload_n 0, 1) := by decide +kernel
theorem dX7_init_70 : decode cX7_init 70 = .ok (.new 39, 3) := by decide +kernel
theorem dX7_init_73 : decode cX7_init 73 = .ok (.dup, 1) := by decide +kernel
theorem dX7_init_74 : decode cX7_init 74 = .ok (.invokespecial 41, 3) := by decide +kernel
theorem dX7_init_77 : decode cX7_init 77 = .ok (.putfield 42, 3) := by decide +kernel
theorem dX7_init_80 : decode cX7_init 80 = .ok (.aload_n 0, 1) := by decide +kernel
theorem dX7_init_81 : decode cX7_init 81 = .ok (.new 39, 3) := by decide +kernel
theorem dX7_init_84 : decode cX7_init 84 = .ok (.dup, 1) := by decide +kernel
theorem dX7_init_85 : decode cX7_init 85 = .ok (.invokespecial 41, 3) := by decide +kernel
theorem dX7_init_88 : decode cX7_init 88 = .ok (.putfield 46, 3) := by decide +kernel
theorem dX7_init_91 : decode cX7_init 91 = .ok (.aload_n 0, 1) := by decide +kernel
theorem dX7_init_92 : decode cX7_init 92 = .ok (.new 49, 3) := by decide +kernel
theorem dX7_init_95 : decode cX7_init 95 = .ok (.dup, 1) := by decide +kernel
theorem dX7_init_96 : decode cX7_init 96 = .ok (.invokespecial 51, 3) := by decide +kernel
theorem dX7_init_99 : decode cX7_init 99 = .ok (.putfield 52, 3) := by decide +kernel
theorem dX7_init_102 : decode cX7_init 102 = .ok (.aload_n 0, 1) := by decide +kernel
theorem dX7_init_103 : decode cX7_init 103 = .ok (.new 56, 3) := by decide +kernel
theorem dX7_init_106 : decode cX7_init 106 = .ok (.dup, 1) := by decide +kernel
theorem dX7_init_107 : decode cX7_init 107 = .ok (.invokespecial 58, 3) := by decide +kernel
theorem dX7_init_110 : decode cX7_init 110 = .ok (.putfield 59, 3) := by decide +kernel
theorem dX7_init_113 : decode cX7_init 113 = .ok (.aload_n 0, 1) := by decide +kernel
theorem dX7_init_114 : decode cX7_init 114 = .ok (.new 56, 3) := by decide +kernel
theorem dX7_init_117 : decode cX7_init 117 = .ok (.dup, 1) := by decide +kernel
theorem dX7_init_118 : decode cX7_init 118 = .ok (.invokespecial 58, 3) := by decide +kernel
theorem dX7_init_121 : decode cX7_init 121 = .ok (.putfield 63, 3) := by decide +kernel
theorem dX7_init_124 : decode cX7_init 124 = .ok (.aload_n 0, 1) := by decide +kernel
theorem dX7_init_125 : decode cX7_init 125 = .ok (.new 66, 3) := by decide +kernel
theorem dX7_init_128 : decode cX7_init 128 = .ok (.dup, 1) := by decide +kernel
theorem dX7_init_129 : decode cX7_init 129 = .ok (.invokespecial 68, 3) := by decide +kernel
theorem dX7_init_132 : decode cX7_init 132 = .ok (.putfield 69, 3) := by decide +kernel
theorem dX7_init_135 : decode cX7_init 135 = .ok (.aload_n 0, 1) := by decide +kernel
theorem dX7_init_136 : decode cX7_init 136 = .ok (.iconst 0, 1) := by decide +kernel
theorem dX7_init_137 : decode cX7_init 137 = .ok (.putfield 73, 3) := by decide +kernel
theorem dX7_init_140 : decode cX7_init 140 = .ok (.aload_n 0, 1) := by decide +kernel
theorem dX7_init_141 : decode cX7_init 141 = .ok (.iconst 0, 1) := by decide +kernel
theorem dX7_init_142 : decode cX7_init 142 = .ok (.putfield 77, 3) := by decide +kernel
theorem dX7_init_145 : decode cX7_init 145 = .ok (.aload_n 0, 1) := by decide +kernel
theorem dX7_init_146 : decode cX7_init 146 = .ok (.iconst 0, 1) := by decide +kernel
theorem dX7_init_147 : decode cX7_init 147 = .ok (.putfield 80, 3) := by decide +kernel
theorem dX7_init_150 : decode cX7_init 150 = .ok (.return_, 1) := by decide +kernel
theorem dX7_wall_0 : decode cX7_wall 0 = .ok (.aload_n 0, 1) := by decide +kernel
theorem dX7_wall_1 : decode cX7_wall 1 = .ok (.aload_n 0, 1) := by decide +kernel
theorem dX7_wall_2 : decode cX7_wall 2 = .ok (.getfield 12, 3) := by decide +kernel
theorem dX7_wall_5 : decode cX7_wall 5 = .ok (.iload_n 1, 1) := by decide +kernel
theorem dX7_wall_6 : decode cX7_wall 6 = .ok (.iload_n 2, 1) := by decide +kernel
theorem dX7_wall_7 : decode cX7_wall 7 = .ok (.invokevirtual 83, 3) := by decide +kernel
theorem dX7_wall_10 : decode cX7_wall 10 = .ok (.invokevirtual 87, 3) := by decide +kernel
theorem dX7_wall_13 : decode cX7_wall 13 = .ok (.ireturn, 1) := by decide +kernel
theorem dX7_tenant_0 : decode cX7_tenant 0 = .ok (.aload_n 0, 1) := by decide +kernel
theorem dX7_tenant_1 : decode cX7_tenant 1 = .ok (.aload_n 0, 1) := by decide +kernel
theorem dX7_tenant_2 : decode cX7_tenant 2 = .ok (.getfield 12, 3) := by decide +kernel
theorem dX7_tenant_5 : decode cX7_tenant 5 = .ok (.iload_n 1, 1) := by decide +kernel
theorem dX7_tenant_6 : decode cX7_tenant 6 = .ok (.iload_n 2, 1) := by decide +kernel
theorem dX7_tenant_7 : decode cX7_tenant 7 = .ok (.iload_n 3, 1) := by decide +kernel
theorem dX7_tenant_8 : decode cX7_tenant 8 = .ok (.invokevirtual 91, 3) := by decide +kernel
theorem dX7_tenant_11 : decode cX7_tenant 11 = .ok (.invokevirtual 87, 3) := by decide +kernel
theorem dX7_tenant_14 : decode cX7_tenant 14 = .ok (.ireturn, 1) := by decide +kernel
theorem dX7_refuses_0 : decode cX7_refuses 0 = .ok (.aload_n 0, 1) := by decide +kernel
theorem dX7_refuses_1 : decode cX7_refuses 1 = .ok (.aload_n 0, 1) := by decide +kernel
theorem dX7_refuses_2 : decode cX7_refuses 2 = .ok (.getfield 12, 3) := by decide +kernel
theorem dX7_refuses_5 : decode cX7_refuses 5 = .ok (.iload_n 1, 1) := by decide +kernel
theorem dX7_refuses_6 : decode cX7_refuses 6 = .ok (.iload_n 2, 1) := by decide +kernel
theorem dX7_refuses_7 : decode cX7_refuses 7 = .ok (.invokevirtual 95, 3) := by decide +kernel
theorem dX7_refuses_10 : decode cX7_refuses 10 = .ok (.invokevirtual 98, 3) := by decide +kernel
theorem dX7_refuses_13 : decode cX7_refuses 13 = .ok (.ireturn, 1) := by decide +kernel
theorem dX7_has_0 : decode cX7_has 0 = .ok (.aload_n 0, 1) := by decide +kernel
theorem dX7_has_1 : decode cX7_has 1 = .ok (.aload_n 0, 1) := by decide +kernel
theorem dX7_has_2 : decode cX7_has 2 = .ok (.getfield 12, 3) := by decide +kernel
theorem dX7_has_5 : decode cX7_has 5 = .ok (.iload_n 1, 1) := by decide +kernel
theorem dX7_has_6 : decode cX7_has 6 = .ok (.iload_n 2, 1) := by decide +kernel
theorem dX7_has_7 : decode cX7_has 7 = .ok (.invokevirtual 101, 3) := by decide +kernel
theorem dX7_has_10 : decode cX7_has 10 = .ok (.invokevirtual 98, 3) := by decide +kernel
theorem dX7_has_13 : decode cX7_has 13 = .ok (.ireturn, 1) := by decide +kernel
theorem dX7_letter_0 : decode cX7_letter 0 = .ok (.aload_n 0, 1) := by decide +kernel
theorem dX7_letter_1 : decode cX7_letter 1 = .ok (.aload_n 0, 1) := by decide +kernel
theorem dX7_letter_2 : decode cX7_letter 2 = .ok (.getfield 12, 3) := by decide +kernel
theorem dX7_letter_5 : decode cX7_letter 5 = .ok (.iload_n 1, 1) := by decide +kernel
theorem dX7_letter_6 : decode cX7_letter 6 = .ok (.invokevirtual 104, 3) := by decide +kernel
theorem dX7_letter_9 : decode cX7_letter 9 = .ok (.invokevirtual 87, 3) := by decide +kernel
theorem dX7_letter_12 : decode cX7_letter 12 = .ok (.ireturn, 1) := by decide +kernel
theorem dX7_lit_0 : decode cX7_lit 0 = .ok (.aload_n 0, 1) := by decide +kernel
theorem dX7_lit_1 : decode cX7_lit 1 = .ok (.aload_n 0, 1) := by decide +kernel
theorem dX7_lit_2 : decode cX7_lit 2 = .ok (.getfield 12, 3) := by decide +kernel
theorem dX7_lit_5 : decode cX7_lit 5 = .ok (.iload_n 1, 1) := by decide +kernel
theorem dX7_lit_6 : decode cX7_lit 6 = .ok (.iload_n 2, 1) := by decide +kernel
theorem dX7_lit_7 : decode cX7_lit 7 = .ok (.iload_n 3, 1) := by decide +kernel
theorem dX7_lit_8 : decode cX7_lit 8 = .ok (.invokevirtual 107, 3) := by decide +kernel
theorem dX7_lit_11 : decode cX7_lit 11 = .ok (.invokevirtual 87, 3) := by decide +kernel
theorem dX7_lit_14 : decode cX7_lit 14 = .ok (.ireturn, 1) := by decide +kernel
theorem dX7_slack_0 : decode cX7_slack 0 = .ok (.aload_n 0, 1) := by decide +kernel
theorem dX7_slack_1 : decode cX7_slack 1 = .ok (.aload_n 0, 1) := by decide +kernel
theorem dX7_slack_2 : decode cX7_slack 2 = .ok (.getfield 12, 3) := by decide +kernel
theorem dX7_slack_5 : decode cX7_slack 5 = .ok (.iload_n 1, 1) := by decide +kernel
theorem dX7_slack_6 : decode cX7_slack 6 = .ok (.invokevirtual 111, 3) := by decide +kernel
theorem dX7_slack_9 : decode cX7_slack 9 = .ok (.invokevirtual 87, 3) := by decide +kernel
theorem dX7_slack_12 : decode cX7_slack 12 = .ok (.ireturn, 1) := by decide +kernel
theorem dX7_pains_0 : decode cX7_pains 0 = .ok (.iload_n 2, 1) := by decide +kernel
theorem dX7_pains_1 : decode cX7_pains 1 = .ok (.invokestatic 114, 3) := by decide +kernel
theorem dX7_pains_4 : decode cX7_pains 4 = .ok (.ifCond .eq 14, 3) := by decide +kernel
theorem dX7_pains_7 : decode cX7_pains 7 = .ok (.aload_n 0, 1) := by decide +kernel
theorem dX7_pains_8 : decode cX7_pains 8 = .ok (.getfield 12, 3) := by decide +kernel
theorem dX7_pains_11 : decode cX7_pains 11 = .ok (.iload_n 1, 1) := by decide +kernel
theorem dX7_pains_12 : decode cX7_pains 12 = .ok (.invokevirtual 118, 3) := by decide +kernel
theorem dX7_pains_15 : decode cX7_pains 15 = .ok (.ifCond .ne 10, 3) := by decide +kernel
theorem dX7_pains_18 : decode cX7_pains 18 = .ok (.aload_n 0, 1) := by decide +kernel
theorem dX7_pains_19 : decode cX7_pains 19 = .ok (.bipush (-2), 2) := by decide +kernel
theorem dX7_pains_21 : decode cX7_pains 21 = .ok (.invokevirtual 87, 3) := by decide +kernel
theorem dX7_pains_24 : decode cX7_pains 24 = .ok (.ireturn, 1) := by decide +kernel
theorem dX7_pains_25 : decode cX7_pains 25 = .ok (.aload_n 0, 1) := by decide +kernel
theorem dX7_pains_26 : decode cX7_pains 26 = .ok (.getfield 12, 3) := by decide +kernel
theorem dX7_pains_29 : decode cX7_pains 29 = .ok (.iload_n 1, 1) := by decide +kernel
theorem dX7_pains_30 : decode cX7_pains 30 = .ok (.iload_n 2, 1) := by decide +kernel
theorem dX7_pains_31 : decode cX7_pains 31 = .ok (.invokevirtual 121, 3) := by decide +kernel
theorem dX7_pains_34 : decode cX7_pains 34 = .ok (.ireturn, 1) := by decide +kernel
theorem dX7_type_0 : decode cX7_type 0 = .ok (.aload_n 0, 1) := by decide +kernel
theorem dX7_type_1 : decode cX7_type 1 = .ok (.aload_n 0, 1) := by decide +kernel
theorem dX7_type_2 : decode cX7_type 2 = .ok (.getfield 35, 3) := by decide +kernel
theorem dX7_type_5 : decode cX7_type 5 = .ok (.lload_n 1, 1) := by decide +kernel
theorem dX7_type_6 : decode cX7_type 6 = .ok (.iload_n 3, 1) := by decide +kernel
theorem dX7_type_7 : decode cX7_type 7 = .ok (.invokevirtual 124, 3) := by decide +kernel
theorem dX7_type_10 : decode cX7_type 10 = .ok (.invokevirtual 87, 3) := by decide +kernel
theorem dX7_type_13 : decode cX7_type 13 = .ok (.ireturn, 1) := by decide +kernel
theorem dX7_clear_0 : decode cX7_clear 0 = .ok (.aload_n 0, 1) := by decide +kernel
theorem dX7_clear_1 : decode cX7_clear 1 = .ok (.getfield 35, 3) := by decide +kernel
theorem dX7_clear_4 : decode cX7_clear 4 = .ok (.invokevirtual 128, 3) := by decide +kernel
theorem dX7_clear_7 : decode cX7_clear 7 = .ok (.ireturn, 1) := by decide +kernel
theorem dX7_read_0 : decode cX7_read 0 = .ok (.aload_n 0, 1) := by decide +kernel
theorem dX7_read_1 : decode cX7_read 1 = .ok (.getfield 35, 3) := by decide +kernel
theorem dX7_read_4 : decode cX7_read 4 = .ok (.invokevirtual 132, 3) := by decide +kernel
theorem dX7_read_7 : decode cX7_read 7 = .ok (.istore_n 1, 1) := by decide +kernel
theorem dX7_read_8 : decode cX7_read 8 = .ok (.iload_n 1, 1) := by decide +kernel
theorem dX7_read_9 : decode cX7_read 9 = .ok (.iconst (-1), 1) := by decide +kernel
theorem dX7_read_10 : decode cX7_read 10 = .ok (.if_icmp .eq 8, 3) := by decide +kernel
theorem dX7_read_13 : decode cX7_read 13 = .ok (.bipush (-10), 2) := by decide +kernel
theorem dX7_read_15 : decode cX7_read 15 = .ok (.iload_n 1, 1) := by decide +kernel
theorem dX7_read_16 : decode cX7_read 16 = .ok (.isub, 1) := by decide +kernel
theorem dX7_read_17 : decode cX7_read 17 = .ok (.ireturn, 1) := by decide +kernel
theorem dX7_read_18 : decode cX7_read 18 = .ok (.aload_n 0, 1) := by decide +kernel
theorem dX7_read_19 : decode cX7_read 19 = .ok (.getfield 16, 3) := by decide +kernel
theorem dX7_read_22 : decode cX7_read 22 = .ok (.bipush 12, 2) := by decide +kernel
theorem dX7_read_24 : decode cX7_read 24 = .ok (.iconst 5, 1) := by decide +kernel
theorem dX7_read_25 : decode cX7_read 25 = .ok (.invokevirtual 135, 3) := by decide +kernel
theorem dX7_read_28 : decode cX7_read 28 = .ok (.aload_n 0, 1) := by decide +kernel
theorem dX7_read_29 : decode cX7_read 29 = .ok (.getfield 35, 3) := by decide +kernel
theorem dX7_read_32 : decode cX7_read 32 = .ok (.aload_n 0, 1) := by decide +kernel
theorem dX7_read_33 : decode cX7_read 33 = .ok (.getfield 16, 3) := by decide +kernel
theorem dX7_read_36 : decode cX7_read 36 = .ok (.invokevirtual 139, 3) := by decide +kernel
theorem dX7_read_39 : decode cX7_read 39 = .ok (.istore_n 2, 1) := by decide +kernel
theorem dX7_read_40 : decode cX7_read 40 = .ok (.iload_n 2, 1) := by decide +kernel
theorem dX7_read_41 : decode cX7_read 41 = .ok (.iconst (-1), 1) := by decide +kernel
theorem dX7_read_42 : decode cX7_read 42 = .ok (.if_icmp .eq 9, 3) := by decide +kernel
theorem dX7_read_45 : decode cX7_read 45 = .ok (.sipush (-1000), 3) := by decide +kernel
theorem dX7_read_48 : decode cX7_read 48 = .ok (.iload_n 2, 1) := by decide +kernel
theorem dX7_read_49 : decode cX7_read 49 = .ok (.isub, 1) := by decide +kernel
theorem dX7_read_50 : decode cX7_read 50 = .ok (.ireturn, 1) := by decide +kernel
theorem dX7_read_51 : decode cX7_read 51 = .ok (.aload_n 0, 1) := by decide +kernel
theorem dX7_read_52 : decode cX7_read 52 = .ok (.getfield 12, 3) := by decide +kernel
theorem dX7_read_55 : decode cX7_read 55 = .ok (.aload_n 0, 1) := by decide +kernel
theorem dX7_read_56 : decode cX7_read 56 = .ok (.getfield 16, 3) := by decide +kernel
theorem dX7_read_59 : decode cX7_read 59 = .ok (.invokevirtual 143, 3) := by decide +kernel
theorem dX7_read_62 : decode cX7_read 62 = .ok (.aload_n 0, 1) := by decide +kernel
theorem dX7_read_63 : decode cX7_read 63 = .ok (.getfield 35, 3) := by decide +kernel
theorem dX7_read_66 : decode cX7_read 66 = .ok (.getfield 147, 3) := by decide +kernel
theorem dX7_read_69 : decode cX7_read 69 = .ok (.ireturn, 1) := by decide +kernel
theorem dX7_reads_0 : decode cX7_reads 0 = .ok (.iload_n 1, 1) := by decide +kernel
theorem dX7_reads_1 : decode cX7_reads 1 = .ok (.invokestatic 150, 3) := by decide +kernel
theorem dX7_reads_4 : decode cX7_reads 4 = .ok (.ifCond .ne 10, 3) := by decide +kernel
theorem dX7_reads_7 : decode cX7_reads 7 = .ok (.aload_n 0, 1) := by decide +kernel
theorem dX7_reads_8 : decode cX7_reads 8 = .ok (.bipush (-2), 2) := by decide +kernel
theorem dX7_reads_10 : decode cX7_reads 10 = .ok (.invokevirtual 87, 3) := by decide +kernel
theorem dX7_reads_13 : decode cX7_reads 13 = .ok (.ireturn, 1) := by decide +kernel
theorem dX7_reads_14 : decode cX7_reads 14 = .ok (.aload_n 0, 1) := by decide +kernel
theorem dX7_reads_15 : decode cX7_reads 15 = .ok (.getfield 12, 3) := by decide +kernel
theorem dX7_reads_18 : decode cX7_reads 18 = .ok (.iload_n 1, 1) := by decide +kernel
theorem dX7_reads_19 : decode cX7_reads 19 = .ok (.iload_n 2, 1) := by decide +kernel
theorem dX7_reads_20 : decode cX7_reads 20 = .ok (.invokestatic 153, 3) := by decide +kernel
theorem dX7_reads_23 : decode cX7_reads 23 = .ok (.invokevirtual 157, 3) := by decide +kernel
theorem dX7_reads_26 : decode cX7_reads 26 = .ok (.ireturn, 1) := by decide +kernel
theorem dX7_shape_0 : decode cX7_shape 0 = .ok (.iload_n 1, 1) := by decide +kernel
theorem dX7_shape_1 : decode cX7_shape 1 = .ok (.invokestatic 114, 3) := by decide +kernel
theorem dX7_shape_4 : decode cX7_shape 4 = .ok (.ifCond .eq 14, 3) := by decide +kernel
theorem dX7_shape_7 : decode cX7_shape 7 = .ok (.aload_n 0, 1) := by decide +kernel
theorem dX7_shape_8 : decode cX7_shape 8 = .ok (.getfield 12, 3) := by decide +kernel
theorem dX7_shape_11 : decode cX7_shape 11 = .ok (.iload_n 2, 1) := by decide +kernel
theorem dX7_shape_12 : decode cX7_shape 12 = .ok (.invokevirtual 160, 3) := by decide +kernel
theorem dX7_shape_15 : decode cX7_shape 15 = .ok (.ifCond .ne 10, 3) := by decide +kernel
theorem dX7_shape_18 : decode cX7_shape 18 = .ok (.aload_n 0, 1) := by decide +kernel
theorem dX7_shape_19 : decode cX7_shape 19 = .ok (.bipush (-2), 2) := by decide +kernel
theorem dX7_shape_21 : decode cX7_shape 21 = .ok (.invokevirtual 87, 3) := by decide +kernel
theorem dX7_shape_24 : decode cX7_shape 24 = .ok (.ireturn, 1) := by decide +kernel
theorem dX7_shape_25 : decode cX7_shape 25 = .ok (.aload_n 0, 1) := by decide +kernel
theorem dX7_shape_26 : decode cX7_shape 26 = .ok (.getfield 12, 3) := by decide +kernel
theorem dX7_shape_29 : decode cX7_shape 29 = .ok (.getfield 163, 3) := by decide +kernel
theorem dX7_shape_32 : decode cX7_shape 32 = .ok (.iload_n 1, 1) := by decide +kernel
theorem dX7_shape_33 : decode cX7_shape 33 = .ok (.laload, 1) := by decide +kernel
theorem dX7_shape_34 : decode cX7_shape 34 = .ok (.iload_n 2, 1) := by decide +kernel
theorem dX7_shape_35 : decode cX7_shape 35 = .ok (.invokestatic 167, 3) := by decide +kernel
theorem dX7_shape_38 : decode cX7_shape 38 = .ok (.ireturn, 1) := by decide +kernel
theorem dX7_says_0 : decode cX7_says 0 = .ok (.iload_n 1, 1) := by decide +kernel
theorem dX7_says_1 : decode cX7_says 1 = .ok (.invokestatic 114, 3) := by decide +kernel
theorem dX7_says_4 : decode cX7_says 4 = .ok (.ifCond .eq 25, 3) := by decide +kernel
theorem dX7_says_7 : decode cX7_says 7 = .ok (.aload_n 0, 1) := by decide +kernel
theorem dX7_says_8 : decode cX7_says 8 = .ok (.getfield 12, 3) := by decide +kernel
theorem dX7_says_11 : decode cX7_says 11 = .ok (.iload_n 2, 1) := by decide +kernel
theorem dX7_says_12 : decode cX7_says 12 = .ok (.invokevirtual 170, 3) := by decide +kernel
theorem dX7_says_15 : decode cX7_says 15 = .ok (.ifCond .eq 14, 3) := by decide +kernel
theorem dX7_says_18 : decode cX7_says 18 = .ok (.aload_n 0, 1) := by decide +kernel
theorem dX7_says_19 : decode cX7_says 19 = .ok (.getfield 12, 3) := by decide +kernel
theorem dX7_says_22 : decode cX7_says 22 = .ok (.iload_n 3, 1) := by decide +kernel
theorem dX7_says_23 : decode cX7_says 23 = .ok (.invokevirtual 173, 3) := by decide +kernel
theorem dX7_says_26 : decode cX7_says 26 = .ok (.ifCond .ne 10, 3) := by decide +kernel
theorem dX7_says_29 : decode cX7_says 29 = .ok (.aload_n 0, 1) := by decide +kernel
theorem dX7_says_30 : decode cX7_says 30 = .ok (.bipush (-2), 2) := by decide +kernel
theorem dX7_says_32 : decode cX7_says 32 = .ok (.invokevirtual 87, 3) := by decide +kernel
theorem dX7_says_35 : decode cX7_says 35 = .ok (.ireturn, 1) := by decide +kernel
theorem dX7_says_36 : decode cX7_says 36 = .ok (.iconst 0, 1) := by decide +kernel
theorem dX7_says_37 : decode cX7_says 37 = .ok (.istore 5, 2) := by decide +kernel
theorem dX7_says_39 : decode cX7_says 39 = .ok (.iconst 0, 1) := by decide +kernel
theorem dX7_says_40 : decode cX7_says 40 = .ok (.istore 6, 2) := by decide +kernel
theorem dX7_says_42 : decode cX7_says 42 = .ok (.iload 6, 2) := by decide +kernel
theorem dX7_says_44 : decode cX7_says 44 = .ok (.aload_n 0, 1) := by decide +kernel
theorem dX7_says_45 : decode cX7_says 45 = .ok (.getfield 12, 3) := by decide +kernel
theorem dX7_says_48 : decode cX7_says 48 = .ok (.getfield 176, 3) := by decide +kernel
theorem dX7_says_51 : decode cX7_says 51 = .ok (.iconst 3, 1) := by decide +kernel
theorem dX7_says_52 : decode cX7_says 52 = .ok (.isub, 1) := by decide +kernel
theorem dX7_says_53 : decode cX7_says 53 = .ok (.if_icmp .gt 57, 3) := by decide +kernel
theorem dX7_says_56 : decode cX7_says 56 = .ok (.aload_n 0, 1) := by decide +kernel
theorem dX7_says_57 : decode cX7_says 57 = .ok (.getfield 12, 3) := by decide +kernel
theorem dX7_says_60 : decode cX7_says 60 = .ok (.getfield 163, 3) := by decide +kernel
theorem dX7_says_63 : decode cX7_says 63 = .ok (.iload_n 1, 1) := by decide +kernel
theorem dX7_says_64 : decode cX7_says 64 = .ok (.laload, 1) := by decide +kernel
theorem dX7_says_65 : decode cX7_says 65 = .ok (.bipush 12, 2) := by decide +kernel
theorem dX7_says_67 : decode cX7_says 67 = .ok (.iload_n 2, 1) := by decide +kernel
theorem dX7_says_68 : decode cX7_says 68 = .ok (.imul, 1) := by decide +kernel
theorem dX7_says_69 : decode cX7_says 69 = .ok (.iload 6, 2) := by decide +kernel
theorem dX7_says_71 : decode cX7_says 71 = .ok (.iadd, 1) := by decide +kernel
theorem dX7_says_72 : decode cX7_says 72 = .ok (.invokestatic 167, 3) := by decide +kernel
theorem dX7_says_75 : decode cX7_says 75 = .ok (.istore 7, 2) := by decide +kernel
theorem dX7_says_77 : decode cX7_says 77 = .ok (.aload_n 0, 1) := by decide +kernel
theorem dX7_says_78 : decode cX7_says 78 = .ok (.getfield 12, 3) := by decide +kernel
theorem dX7_says_81 : decode cX7_says 81 = .ok (.iload 7, 2) := by decide +kernel
theorem dX7_says_83 : decode cX7_says 83 = .ok (.iload 4, 2) := by decide +kernel
theorem dX7_says_85 : decode cX7_says 85 = .ok (.invokestatic 153, 3) := by decide +kernel
theorem dX7_says_88 : decode cX7_says 88 = .ok (.invokevirtual 157, 3) := by decide +kernel
theorem dX7_says_91 : decode cX7_says 91 = .ok (.iload_n 3, 1) := by decide +kernel
theorem dX7_says_92 : decode cX7_says 92 = .ok (.if_icmp .ne 12, 3) := by decide +kernel
theorem dX7_says_95 : decode cX7_says 95 = .ok (.iload 5, 2) := by decide +kernel
theorem dX7_says_97 : decode cX7_says 97 = .ok (.iconst 1, 1) := by decide +kernel
theorem dX7_says_98 : decode cX7_says 98 = .ok (.iload 6, 2) := by decide +kernel
theorem dX7_says_100 : decode cX7_says 100 = .ok (.ishl, 1) := by decide +kernel
theorem dX7_says_101 : decode cX7_says 101 = .ok (.ior, 1) := by decide +kernel
theorem dX7_says_102 : decode cX7_says 102 = .ok (.istore 5, 2) := by decide +kernel
theorem dX7_says_104 : decode cX7_says 104 = .ok (.iinc 6 1, 3) := by decide +kernel
theorem dX7_says_107 : decode cX7_says 107 = .ok (.goto (-65), 3) := by decide +kernel
theorem dX7_says_110 : decode cX7_says 110 = .ok (.iload 5, 2) := by decide +kernel
theorem dX7_says_112 : decode cX7_says 112 = .ok (.ireturn, 1) := by decide +kernel
theorem dX7_least_0 : decode cX7_least 0 = .ok (.aload_n 0, 1) := by decide +kernel
theorem dX7_least_1 : decode cX7_least 1 = .ok (.iload_n 1, 1) := by decide +kernel
theorem dX7_least_2 : decode cX7_least 2 = .ok (.iload_n 2, 1) := by decide +kernel
theorem dX7_least_3 : decode cX7_least 3 = .ok (.invokevirtual 179, 3) := by decide +kernel
theorem dX7_least_6 : decode cX7_least 6 = .ok (.ifCond .ne 10, 3) := by decide +kernel
theorem dX7_least_9 : decode cX7_least 9 = .ok (.aload_n 0, 1) := by decide +kernel
theorem dX7_least_10 : decode cX7_least 10 = .ok (.bipush (-2), 2) := by decide +kernel
theorem dX7_least_12 : decode cX7_least 12 = .ok (.invokevirtual 87, 3) := by decide +kernel
theorem dX7_least_15 : decode cX7_least 15 = .ok (.ireturn, 1) := by decide +kernel
theorem dX7_least_16 : decode cX7_least 16 = .ok (.aload_n 0, 1) := by decide +kernel
theorem dX7_least_17 : decode cX7_least 17 = .ok (.getfield 52, 3) := by decide +kernel
theorem dX7_least_20 : decode cX7_least 20 = .ok (.aload_n 0, 1) := by decide +kernel
theorem dX7_least_21 : decode cX7_least 21 = .ok (.getfield 12, 3) := by decide +kernel
theorem dX7_least_24 : decode cX7_least 24 = .ok (.aload_n 0, 1) := by decide +kernel
theorem dX7_least_25 : decode cX7_least 25 = .ok (.getfield 42, 3) := by decide +kernel
theorem dX7_least_28 : decode cX7_least 28 = .ok (.iload_n 2, 1) := by decide +kernel
theorem dX7_least_29 : decode cX7_least 29 = .ok (.invokevirtual 183, 3) := by decide +kernel
theorem dX7_least_32 : decode cX7_least 32 = .ok (.aload_n 0, 1) := by decide +kernel
theorem dX7_least_33 : decode cX7_least 33 = .ok (.getfield 52, 3) := by decide +kernel
theorem dX7_least_36 : decode cX7_least 36 = .ok (.getfield 187, 3) := by decide +kernel
theorem dX7_least_39 : decode cX7_least 39 = .ok (.ireturn, 1) := by decide +kernel
theorem dX7_box_0 : decode cX7_box 0 = .ok (.aload_n 0, 1) := by decide +kernel
theorem dX7_box_1 : decode cX7_box 1 = .ok (.iload_n 1, 1) := by decide +kernel
theorem dX7_box_2 : decode cX7_box 2 = .ok (.iload_n 2, 1) := by decide +kernel
theorem dX7_box_3 : decode cX7_box 3 = .ok (.invokevirtual 179, 3) := by decide +kernel
theorem dX7_box_6 : decode cX7_box 6 = .ok (.ifCond .eq 18, 3) := by decide +kernel
theorem dX7_box_9 : decode cX7_box 9 = .ok (.iload_n 3, 1) := by decide +kernel
theorem dX7_box_10 : decode cX7_box 10 = .ok (.ifCond .lt 14, 3) := by decide +kernel
theorem dX7_box_13 : decode cX7_box 13 = .ok (.iload 4, 2) := by decide +kernel
theorem dX7_box_15 : decode cX7_box 15 = .ok (.ifCond .lt 9, 3) := by decide +kernel
theorem dX7_box_18 : decode cX7_box 18 = .ok (.iload 4, 2) := by decide +kernel
theorem dX7_box_20 : decode cX7_box 20 = .ok (.iconst 1, 1) := by decide +kernel
theorem dX7_box_21 : decode cX7_box 21 = .ok (.if_icmp .le 10, 3) := by decide +kernel
theorem dX7_box_24 : decode cX7_box 24 = .ok (.aload_n 0, 1) := by decide +kernel
theorem dX7_box_25 : decode cX7_box 25 = .ok (.bipush (-2), 2) := by decide +kernel
theorem dX7_box_27 : decode cX7_box 27 = .ok (.invokevirtual 98, 3) := by decide +kernel
theorem dX7_box_30 : decode cX7_box 30 = .ok (.ireturn, 1) := by decide +kernel
theorem dX7_box_31 : decode cX7_box 31 = .ok (.aload_n 0, 1) := by decide +kernel
theorem dX7_box_32 : decode cX7_box 32 = .ok (.getfield 52, 3) := by decide +kernel
theorem dX7_box_35 : decode cX7_box 35 = .ok (.aload_n 0, 1) := by decide +kernel
theorem dX7_box_36 : decode cX7_box 36 = .ok (.getfield 12, 3) := by decide +kernel
theorem dX7_box_39 : decode cX7_box 39 = .ok (.aload_n 0, 1) := by decide +kernel
theorem dX7_box_40 : decode cX7_box 40 = .ok (.getfield 42, 3) := by decide +kernel
theorem dX7_box_43 : decode cX7_box 43 = .ok (.iload_n 2, 1) := by decide +kernel
theorem dX7_box_44 : decode cX7_box 44 = .ok (.invokevirtual 183, 3) := by decide +kernel
theorem dX7_box_47 : decode cX7_box 47 = .ok (.aload_n 0, 1) := by decide +kernel
theorem dX7_box_48 : decode cX7_box 48 = .ok (.getfield 52, 3) := by decide +kernel
theorem dX7_box_51 : decode cX7_box 51 = .ok (.getfield 187, 3) := by decide +kernel
theorem dX7_box_54 : decode cX7_box 54 = .ok (.iconst (-1), 1) := by decide +kernel
theorem dX7_box_55 : decode cX7_box 55 = .ok (.if_icmp .eq 19, 3) := by decide +kernel
theorem dX7_box_58 : decode cX7_box 58 = .ok (.iload_n 3, 1) := by decide +kernel
theorem dX7_box_59 : decode cX7_box 59 = .ok (.aload_n 0, 1) := by decide +kernel
theorem dX7_box_60 : decode cX7_box 60 = .ok (.getfield 42, 3) := by decide +kernel
theorem dX7_box_63 : decode cX7_box 63 = .ok (.getfield 190, 3) := by decide +kernel
theorem dX7_box_66 : decode cX7_box 66 = .ok (.if_icmp .ge 8, 3) := by decide +kernel
theorem dX7_box_69 : decode cX7_box 69 = .ok (.iload_n 3, 1) := by decide +kernel
theorem dX7_box_70 : decode cX7_box 70 = .ok (.iconst 3, 1) := by decide +kernel
theorem dX7_box_71 : decode cX7_box 71 = .ok (.if_icmp .lt 6, 3) := by decide +kernel
theorem dX7_box_74 : decode cX7_box 74 = .ok (.bipush (-5), 2) := by decide +kernel
theorem dX7_box_76 : decode cX7_box 76 = .ok (.ireturn, 1) := by decide +kernel
theorem dX7_box_77 : decode cX7_box 77 = .ok (.iload 4, 2) := by decide +kernel
theorem dX7_box_79 : decode cX7_box 79 = .ok (.ifCond .ne 15, 3) := by decide +kernel
theorem dX7_box_82 : decode cX7_box 82 = .ok (.aload_n 0, 1) := by decide +kernel
theorem dX7_box_83 : decode cX7_box 83 = .ok (.getfield 52, 3) := by decide +kernel
theorem dX7_box_86 : decode cX7_box 86 = .ok (.getfield 193, 3) := by decide +kernel
theorem dX7_box_89 : decode cX7_box 89 = .ok (.iload_n 3, 1) := by decide +kernel
theorem dX7_box_90 : decode cX7_box 90 = .ok (.iaload, 1) := by decide +kernel
theorem dX7_box_91 : decode cX7_box 91 = .ok (.goto 12, 3) := by decide +kernel
theorem dX7_box_94 : decode cX7_box 94 = .ok (.aload_n 0, 1) := by decide +kernel
theorem dX7_box_95 : decode cX7_box 95 = .ok (.getfield 52, 3) := by decide +kernel
theorem dX7_box_98 : decode cX7_box 98 = .ok (.getfield 197, 3) := by decide +kernel
theorem dX7_box_101 : decode cX7_box 101 = .ok (.iload_n 3, 1) := by decide +kernel
theorem dX7_box_102 : decode cX7_box 102 = .ok (.iaload, 1) := by decide +kernel
theorem dX7_box_103 : decode cX7_box 103 = .ok (.ireturn, 1) := by decide +kernel
theorem dX7_two_0 : decode cX7_two 0 = .ok (.aload_n 0, 1) := by decide +kernel
theorem dX7_two_1 : decode cX7_two 1 = .ok (.iload_n 1, 1) := by decide +kernel
theorem dX7_two_2 : decode cX7_two 2 = .ok (.iload_n 2, 1) := by decide +kernel
theorem dX7_two_3 : decode cX7_two 3 = .ok (.invokevirtual 179, 3) := by decide +kernel
theorem dX7_two_6 : decode cX7_two 6 = .ok (.ifCond .eq 29, 3) := by decide +kernel
theorem dX7_two_9 : decode cX7_two 9 = .ok (.iload 4, 2) := by decide +kernel
theorem dX7_two_11 : decode cX7_two 11 = .ok (.invokestatic 114, 3) := by decide +kernel
theorem dX7_two_14 : decode cX7_two 14 = .ok (.ifCond .eq 21, 3) := by decide +kernel
theorem dX7_two_17 : decode cX7_two 17 = .ok (.aload_n 0, 1) := by decide +kernel
theorem dX7_two_18 : decode cX7_two 18 = .ok (.getfield 46, 3) := by decide +kernel
theorem dX7_two_21 : decode cX7_two 21 = .ok (.iload_n 3, 1) := by decide +kernel
theorem dX7_two_22 : decode cX7_two 22 = .ok (.aload_n 0, 1) := by decide +kernel
theorem dX7_two_23 : decode cX7_two 23 = .ok (.getfield 12, 3) := by decide +kernel
theorem dX7_two_26 : decode cX7_two 26 = .ok (.getfield 200, 3) := by decide +kernel
theorem dX7_two_29 : decode cX7_two 29 = .ok (.invokevirtual 203, 3) := by decide +kernel
theorem dX7_two_32 : decode cX7_two 32 = .ok (.ifCond .ne 10, 3) := by decide +kernel
theorem dX7_two_35 : decode cX7_two 35 = .ok (.aload_n 0, 1) := by decide +kernel
theorem dX7_two_36 : decode cX7_two 36 = .ok (.bipush (-2), 2) := by decide +kernel
theorem dX7_two_38 : decode cX7_two 38 = .ok (.invokevirtual 87, 3) := by decide +kernel
theorem dX7_two_41 : decode cX7_two 41 = .ok (.ireturn, 1) := by decide +kernel
theorem dX7_two_42 : decode cX7_two 42 = .ok (.aload_n 0, 1) := by decide +kernel
theorem dX7_two_43 : decode cX7_two 43 = .ok (.getfield 59, 3) := by decide +kernel
theorem dX7_two_46 : decode cX7_two 46 = .ok (.aload_n 0, 1) := by decide +kernel
theorem dX7_two_47 : decode cX7_two 47 = .ok (.getfield 12, 3) := by decide +kernel
theorem dX7_two_50 : decode cX7_two 50 = .ok (.aload_n 0, 1) := by decide +kernel
theorem dX7_two_51 : decode cX7_two 51 = .ok (.getfield 42, 3) := by decide +kernel
theorem dX7_two_54 : decode cX7_two 54 = .ok (.iload_n 2, 1) := by decide +kernel
theorem dX7_two_55 : decode cX7_two 55 = .ok (.invokevirtual 206, 3) := by decide +kernel
theorem dX7_two_58 : decode cX7_two 58 = .ok (.aload_n 0, 1) := by decide +kernel
theorem dX7_two_59 : decode cX7_two 59 = .ok (.getfield 63, 3) := by decide +kernel
theorem dX7_two_62 : decode cX7_two 62 = .ok (.aload_n 0, 1) := by decide +kernel
theorem dX7_two_63 : decode cX7_two 63 = .ok (.getfield 12, 3) := by decide +kernel
theorem dX7_two_66 : decode cX7_two 66 = .ok (.aload_n 0, 1) := by decide +kernel
theorem dX7_two_67 : decode cX7_two 67 = .ok (.getfield 46, 3) := by decide +kernel
theorem dX7_two_70 : decode cX7_two 70 = .ok (.iload 4, 2) := by decide +kernel
theorem dX7_two_72 : decode cX7_two 72 = .ok (.invokevirtual 206, 3) := by decide +kernel
theorem dX7_two_75 : decode cX7_two 75 = .ok (.aload_n 0, 1) := by decide +kernel
theorem dX7_two_76 : decode cX7_two 76 = .ok (.getfield 59, 3) := by decide +kernel
theorem dX7_two_79 : decode cX7_two 79 = .ok (.aload_n 0, 1) := by decide +kernel
theorem dX7_two_80 : decode cX7_two 80 = .ok (.getfield 63, 3) := by decide +kernel
theorem dX7_two_83 : decode cX7_two 83 = .ok (.invokevirtual 207, 3) := by decide +kernel
theorem dX7_two_86 : decode cX7_two 86 = .ok (.ireturn, 1) := by decide +kernel
theorem dX7_bought_0 : decode cX7_bought 0 = .ok (.aload_n 0, 1) := by decide +kernel
theorem dX7_bought_1 : decode cX7_bought 1 = .ok (.iload_n 1, 1) := by decide +kernel
theorem dX7_bought_2 : decode cX7_bought 2 = .ok (.iload_n 2, 1) := by decide +kernel
theorem dX7_bought_3 : decode cX7_bought 3 = .ok (.invokevirtual 179, 3) := by decide +kernel
theorem dX7_bought_6 : decode cX7_bought 6 = .ok (.ifCond .eq 12, 3) := by decide +kernel
theorem dX7_bought_9 : decode cX7_bought 9 = .ok (.iload_n 3, 1) := by decide +kernel
theorem dX7_bought_10 : decode cX7_bought 10 = .ok (.ifCond .lt 8, 3) := by decide +kernel
theorem dX7_bought_13 : decode cX7_bought 13 = .ok (.iload_n 3, 1) := by decide +kernel
theorem dX7_bought_14 : decode cX7_bought 14 = .ok (.iconst 1, 1) := by decide +kernel
theorem dX7_bought_15 : decode cX7_bought 15 = .ok (.if_icmp .le 10, 3) := by decide +kernel
theorem dX7_bought_18 : decode cX7_bought 18 = .ok (.aload_n 0, 1) := by decide +kernel
theorem dX7_bought_19 : decode cX7_bought 19 = .ok (.bipush (-2), 2) := by decide +kernel
theorem dX7_bought_21 : decode cX7_bought 21 = .ok (.invokevirtual 87, 3) := by decide +kernel
theorem dX7_bought_24 : decode cX7_bought 24 = .ok (.ireturn, 1) := by decide +kernel
theorem dX7_bought_25 : decode cX7_bought 25 = .ok (.iconst (-1), 1) := by decide +kernel
theorem dX7_bought_26 : decode cX7_bought 26 = .ok (.istore 4, 2) := by decide +kernel
theorem dX7_bought_28 : decode cX7_bought 28 = .ok (.iconst (-1), 1) := by decide +kernel
theorem dX7_bought_29 : decode cX7_bought 29 = .ok (.istore 5, 2) := by decide +kernel
theorem dX7_bought_31 : decode cX7_bought 31 = .ok (.iconst 0, 1) := by decide +kernel
theorem dX7_bought_32 : decode cX7_bought 32 = .ok (.istore 6, 2) := by decide +kernel
theorem dX7_bought_34 : decode cX7_bought 34 = .ok (.iload 6, 2) := by decide +kernel
theorem dX7_bought_36 : decode cX7_bought 36 = .ok (.iconst 1, 1) := by decide +kernel
theorem dX7_bought_37 : decode cX7_bought 37 = .ok (.aload_n 0, 1) := by decide +kernel
theorem dX7_bought_38 : decode cX7_bought 38 = .ok (.getfield 12, 3) := by decide +kernel
theorem dX7_bought_41 : decode cX7_bought 41 = .ok (.getfield 211, 3) := by decide +kernel
theorem dX7_bought_44 : decode cX7_bought 44 = .ok (.ishl, 1) := by decide +kernel
theorem dX7_bought_45 : decode cX7_bought 45 = .ok (.if_icmp .ge 76, 3) := by decide +kernel
theorem dX7_bought_48 : decode cX7_bought 48 = .ok (.aload_n 0, 1) := by decide +kernel
theorem dX7_bought_49 : decode cX7_bought 49 = .ok (.getfield 12, 3) := by decide +kernel
theorem dX7_bought_52 : decode cX7_bought 52 = .ok (.iload 6, 2) := by decide +kernel
theorem dX7_bought_54 : decode cX7_bought 54 = .ok (.invokevirtual 214, 3) := by decide +kernel
theorem dX7_bought_57 : decode cX7_bought 57 = .ok (.istore 7, 2) := by decide +kernel
theorem dX7_bought_59 : decode cX7_bought 59 = .ok (.iload 5, 2) := by decide +kernel
theorem dX7_bought_61 : decode cX7_bought 61 = .ok (.iconst (-1), 1) := by decide +kernel
theorem dX7_bought_62 : decode cX7_bought 62 = .ok (.if_icmp .eq 13, 3) := by decide +kernel
theorem dX7_bought_65 : decode cX7_bought 65 = .ok (.iload 7, 2) := by decide +kernel
theorem dX7_bought_67 : decode cX7_bought 67 = .ok (.iload 4, 2) := by decide +kernel
theorem dX7_bought_69 : decode cX7_bought 69 = .ok (.if_icmp .lt 6, 3) := by decide +kernel
theorem dX7_bought_72 : decode cX7_bought 72 = .ok (.goto 43, 3) := by decide +kernel
theorem dX7_bought_75 : decode cX7_bought 75 = .ok (.aload_n 0, 1) := by decide +kernel
theorem dX7_bought_76 : decode cX7_bought 76 = .ok (.getfield 12, 3) := by decide +kernel
theorem dX7_bought_79 : decode cX7_bought 79 = .ok (.aload_n 0, 1) := by decide +kernel
theorem dX7_bought_80 : decode cX7_bought 80 = .ok (.getfield 42, 3) := by decide +kernel
theorem dX7_bought_83 : decode cX7_bought 83 = .ok (.iload_n 2, 1) := by decide +kernel
theorem dX7_bought_84 : decode cX7_bought 84 = .ok (.aload_n 0, 1) := by decide +kernel
theorem dX7_bought_85 : decode cX7_bought 85 = .ok (.getfield 12, 3) := by decide +kernel
theorem dX7_bought_88 : decode cX7_bought 88 = .ok (.iload_n 2, 1) := by decide +kernel
theorem dX7_bought_89 : decode cX7_bought 89 = .ok (.aload_n 0, 1) := by decide +kernel
theorem dX7_bought_90 : decode cX7_bought 90 = .ok (.getfield 42, 3) := by decide +kernel
theorem dX7_bought_93 : decode cX7_bought 93 = .ok (.getfield 217, 3) := by decide +kernel
theorem dX7_bought_96 : decode cX7_bought 96 = .ok (.iload 6, 2) := by decide +kernel
theorem dX7_bought_98 : decode cX7_bought 98 = .ok (.invokevirtual 220, 3) := by decide +kernel
theorem dX7_bought_101 : decode cX7_bought 101 = .ok (.invokevirtual 224, 3) := by decide +kernel
theorem dX7_bought_104 : decode cX7_bought 104 = .ok (.ifCond .eq 11, 3) := by decide +kernel
theorem dX7_bought_107 : decode cX7_bought 107 = .ok (.iload 7, 2) := by decide +kernel
theorem dX7_bought_109 : decode cX7_bought 109 = .ok (.istore 4, 2) := by decide +kernel
theorem dX7_bought_111 : decode cX7_bought 111 = .ok (.iload 6, 2) := by decide +kernel
theorem dX7_bought_113 : decode cX7_bought 113 = .ok (.istore 5, 2) := by decide +kernel
theorem dX7_bought_115 : decode cX7_bought 115 = .ok (.iinc 6 1, 3) := by decide +kernel
theorem dX7_bought_118 : decode cX7_bought 118 = .ok (.goto (-84), 3) := by decide +kernel
theorem dX7_bought_121 : decode cX7_bought 121 = .ok (.iload_n 3, 1) := by decide +kernel
theorem dX7_bought_122 : decode cX7_bought 122 = .ok (.ifCond .ne 8, 3) := by decide +kernel
theorem dX7_bought_125 : decode cX7_bought 125 = .ok (.iload 4, 2) := by decide +kernel
theorem dX7_bought_127 : decode cX7_bought 127 = .ok (.goto 5, 3) := by decide +kernel
theorem dX7_bought_130 : decode cX7_bought 130 = .ok (.iload 5, 2) := by decide +kernel
theorem dX7_bought_132 : decode cX7_bought 132 = .ok (.ireturn, 1) := by decide +kernel
theorem dX7_can_0 : decode cX7_can 0 = .ok (.iload_n 1, 1) := by decide +kernel
theorem dX7_can_1 : decode cX7_can 1 = .ok (.iconst 1, 1) := by decide +kernel
theorem dX7_can_2 : decode cX7_can 2 = .ok (.if_icmp .lt 15, 3) := by decide +kernel
theorem dX7_can_5 : decode cX7_can 5 = .ok (.iload_n 1, 1) := by decide +kernel
theorem dX7_can_6 : decode cX7_can 6 = .ok (.iconst 2, 1) := by decide +kernel
theorem dX7_can_7 : decode cX7_can 7 = .ok (.if_icmp .gt 10, 3) := by decide +kernel
theorem dX7_can_10 : decode cX7_can 10 = .ok (.iload_n 2, 1) := by decide +kernel
theorem dX7_can_11 : decode cX7_can 11 = .ok (.invokestatic 114, 3) := by decide +kernel
theorem dX7_can_14 : decode cX7_can 14 = .ok (.ifCond .ne 10, 3) := by decide +kernel
theorem dX7_can_17 : decode cX7_can 17 = .ok (.aload_n 0, 1) := by decide +kernel
theorem dX7_can_18 : decode cX7_can 18 = .ok (.bipush (-2), 2) := by decide +kernel
theorem dX7_can_20 : decode cX7_can 20 = .ok (.invokevirtual 87, 3) := by decide +kernel
theorem dX7_can_23 : decode cX7_can 23 = .ok (.ireturn, 1) := by decide +kernel
theorem dX7_can_24 : decode cX7_can 24 = .ok (.iconst 0, 1) := by decide +kernel
theorem dX7_can_25 : decode cX7_can 25 = .ok (.istore_n 3, 1) := by decide +kernel
theorem dX7_can_26 : decode cX7_can 26 = .ok (.iconst 1, 1) := by decide +kernel
theorem dX7_can_27 : decode cX7_can 27 = .ok (.istore 4, 2) := by decide +kernel
theorem dX7_can_29 : decode cX7_can 29 = .ok (.iload 4, 2) := by decide +kernel
theorem dX7_can_31 : decode cX7_can 31 = .ok (.bipush 66, 2) := by decide +kernel
theorem dX7_can_33 : decode cX7_can 33 = .ok (.if_icmp .gt 77, 3) := by decide +kernel
theorem dX7_can_36 : decode cX7_can 36 = .ok (.aload_n 0, 1) := by decide +kernel
theorem dX7_can_37 : decode cX7_can 37 = .ok (.getfield 42, 3) := by decide +kernel
theorem dX7_can_40 : decode cX7_can 40 = .ok (.iload 4, 2) := by decide +kernel
theorem dX7_can_42 : decode cX7_can 42 = .ok (.aload_n 0, 1) := by decide +kernel
theorem dX7_can_43 : decode cX7_can 43 = .ok (.getfield 12, 3) := by decide +kernel
theorem dX7_can_46 : decode cX7_can 46 = .ok (.getfield 200, 3) := by decide +kernel
theorem dX7_can_49 : decode cX7_can 49 = .ok (.invokevirtual 203, 3) := by decide +kernel
theorem dX7_can_52 : decode cX7_can 52 = .ok (.ifCond .eq 52, 3) := by decide +kernel
theorem dX7_can_55 : decode cX7_can 55 = .ok (.aload_n 0, 1) := by decide +kernel
theorem dX7_can_56 : decode cX7_can 56 = .ok (.getfield 42, 3) := by decide +kernel
theorem dX7_can_59 : decode cX7_can 59 = .ok (.getfield 190, 3) := by decide +kernel
theorem dX7_can_62 : decode cX7_can 62 = .ok (.iload_n 1, 1) := by decide +kernel
theorem dX7_can_63 : decode cX7_can 63 = .ok (.if_icmp .eq 6, 3) := by decide +kernel
theorem dX7_can_66 : decode cX7_can 66 = .ok (.goto 38, 3) := by decide +kernel
theorem dX7_can_69 : decode cX7_can 69 = .ok (.aload_n 0, 1) := by decide +kernel
theorem dX7_can_70 : decode cX7_can 70 = .ok (.getfield 12, 3) := by decide +kernel
theorem dX7_can_73 : decode cX7_can 73 = .ok (.aload_n 0, 1) := by decide +kernel
theorem dX7_can_74 : decode cX7_can 74 = .ok (.getfield 42, 3) := by decide +kernel
theorem dX7_can_77 : decode cX7_can 77 = .ok (.iload_n 2, 1) := by decide +kernel
theorem dX7_can_78 : decode cX7_can 78 = .ok (.aload_n 0, 1) := by decide +kernel
theorem dX7_can_79 : decode cX7_can 79 = .ok (.getfield 12, 3) := by decide +kernel
theorem dX7_can_82 : decode cX7_can 82 = .ok (.iload_n 2, 1) := by decide +kernel
theorem dX7_can_83 : decode cX7_can 83 = .ok (.aload_n 0, 1) := by decide +kernel
theorem dX7_can_84 : decode cX7_can 84 = .ok (.getfield 42, 3) := by decide +kernel
theorem dX7_can_87 : decode cX7_can 87 = .ok (.getfield 217, 3) := by decide +kernel
theorem dX7_can_90 : decode cX7_can 90 = .ok (.bipush 63, 2) := by decide +kernel
theorem dX7_can_92 : decode cX7_can 92 = .ok (.invokevirtual 220, 3) := by decide +kernel
theorem dX7_can_95 : decode cX7_can 95 = .ok (.invokevirtual 224, 3) := by decide +kernel
theorem dX7_can_98 : decode cX7_can 98 = .ok (.ifCond .eq 6, 3) := by decide +kernel
theorem dX7_can_101 : decode cX7_can 101 = .ok (.iinc 3 1, 3) := by decide +kernel
theorem dX7_can_104 : decode cX7_can 104 = .ok (.iinc 4 1, 3) := by decide +kernel
theorem dX7_can_107 : decode cX7_can 107 = .ok (.goto (-78), 3) := by decide +kernel
theorem dX7_can_110 : decode cX7_can 110 = .ok (.iload_n 3, 1) := by decide +kernel
theorem dX7_can_111 : decode cX7_can 111 = .ok (.ireturn, 1) := by decide +kernel
theorem dX7_bars_0 : decode cX7_bars 0 = .ok (.aload_n 0, 1) := by decide +kernel
theorem dX7_bars_1 : decode cX7_bars 1 = .ok (.iload_n 1, 1) := by decide +kernel
theorem dX7_bars_2 : decode cX7_bars 2 = .ok (.iload_n 2, 1) := by decide +kernel
theorem dX7_bars_3 : decode cX7_bars 3 = .ok (.invokevirtual 179, 3) := by decide +kernel
theorem dX7_bars_6 : decode cX7_bars 6 = .ok (.ifCond .ne 10, 3) := by decide +kernel
theorem dX7_bars_9 : decode cX7_bars 9 = .ok (.aload_n 0, 1) := by decide +kernel
theorem dX7_bars_10 : decode cX7_bars 10 = .ok (.bipush (-2), 2) := by decide +kernel
theorem dX7_bars_12 : decode cX7_bars 12 = .ok (.invokevirtual 87, 3) := by decide +kernel
theorem dX7_bars_15 : decode cX7_bars 15 = .ok (.ireturn, 1) := by decide +kernel
theorem dX7_bars_16 : decode cX7_bars 16 = .ok (.aload_n 0, 1) := by decide +kernel
theorem dX7_bars_17 : decode cX7_bars 17 = .ok (.getfield 12, 3) := by decide +kernel
theorem dX7_bars_20 : decode cX7_bars 20 = .ok (.iload_n 2, 1) := by decide +kernel
theorem dX7_bars_21 : decode cX7_bars 21 = .ok (.aload_n 0, 1) := by decide +kernel
theorem dX7_bars_22 : decode cX7_bars 22 = .ok (.getfield 42, 3) := by decide +kernel
theorem dX7_bars_25 : decode cX7_bars 25 = .ok (.getfield 217, 3) := by decide +kernel
theorem dX7_bars_28 : decode cX7_bars 28 = .ok (.bipush 63, 2) := by decide +kernel
theorem dX7_bars_30 : decode cX7_bars 30 = .ok (.invokevirtual 220, 3) := by decide +kernel
theorem dX7_bars_33 : decode cX7_bars 33 = .ok (.lstore_n 3, 1) := by decide +kernel
theorem dX7_bars_34 : decode cX7_bars 34 = .ok (.aload_n 0, 1) := by decide +kernel
theorem dX7_bars_35 : decode cX7_bars 35 = .ok (.getfield 12, 3) := by decide +kernel
theorem dX7_bars_38 : decode cX7_bars 38 = .ok (.aload_n 0, 1) := by decide +kernel
theorem dX7_bars_39 : decode cX7_bars 39 = .ok (.getfield 42, 3) := by decide +kernel
theorem dX7_bars_42 : decode cX7_bars 42 = .ok (.iload_n 2, 1) := by decide +kernel
theorem dX7_bars_43 : decode cX7_bars 43 = .ok (.lload_n 3, 1) := by decide +kernel
theorem dX7_bars_44 : decode cX7_bars 44 = .ok (.invokevirtual 224, 3) := by decide +kernel
theorem dX7_bars_47 : decode cX7_bars 47 = .ok (.ifCond .eq 5, 3) := by decide +kernel
theorem dX7_bars_50 : decode cX7_bars 50 = .ok (.iconst (-1), 1) := by decide +kernel
theorem dX7_bars_51 : decode cX7_bars 51 = .ok (.ireturn, 1) := by decide +kernel
theorem dX7_bars_52 : decode cX7_bars 52 = .ok (.iconst 0, 1) := by decide +kernel
theorem dX7_bars_53 : decode cX7_bars 53 = .ok (.istore 5, 2) := by decide +kernel
theorem dX7_bars_55 : decode cX7_bars 55 = .ok (.iconst 0, 1) := by decide +kernel
theorem dX7_bars_56 : decode cX7_bars 56 = .ok (.istore 6, 2) := by decide +kernel
theorem dX7_bars_58 : decode cX7_bars 58 = .ok (.iload 6, 2) := by decide +kernel
theorem dX7_bars_60 : decode cX7_bars 60 = .ok (.aload_n 0, 1) := by decide +kernel
theorem dX7_bars_61 : decode cX7_bars 61 = .ok (.getfield 12, 3) := by decide +kernel
theorem dX7_bars_64 : decode cX7_bars 64 = .ok (.getfield 228, 3) := by decide +kernel
theorem dX7_bars_67 : decode cX7_bars 67 = .ok (.iconst 4, 1) := by decide +kernel
theorem dX7_bars_68 : decode cX7_bars 68 = .ok (.isub, 1) := by decide +kernel
theorem dX7_bars_69 : decode cX7_bars 69 = .ok (.if_icmp .gt 43, 3) := by decide +kernel
theorem dX7_bars_72 : decode cX7_bars 72 = .ok (.aload_n 0, 1) := by decide +kernel
theorem dX7_bars_73 : decode cX7_bars 73 = .ok (.getfield 12, 3) := by decide +kernel
theorem dX7_bars_76 : decode cX7_bars 76 = .ok (.aload_n 0, 1) := by decide +kernel
theorem dX7_bars_77 : decode cX7_bars 77 = .ok (.getfield 42, 3) := by decide +kernel
theorem dX7_bars_80 : decode cX7_bars 80 = .ok (.getfield 231, 3) := by decide +kernel
theorem dX7_bars_83 : decode cX7_bars 83 = .ok (.iconst 0, 1) := by decide +kernel
theorem dX7_bars_84 : decode cX7_bars 84 = .ok (.iaload, 1) := by decide +kernel
theorem dX7_bars_85 : decode cX7_bars 85 = .ok (.iload 6, 2) := by decide +kernel
theorem dX7_bars_87 : decode cX7_bars 87 = .ok (.iconst 0, 1) := by decide +kernel
theorem dX7_bars_88 : decode cX7_bars 88 = .ok (.iload_n 2, 1) := by decide +kernel
theorem dX7_bars_89 : decode cX7_bars 89 = .ok (.lload_n 3, 1) := by decide +kernel
theorem dX7_bars_90 : decode cX7_bars 90 = .ok (.invokevirtual 233, 3) := by decide +kernel
theorem dX7_bars_93 : decode cX7_bars 93 = .ok (.iconst (-1), 1) := by decide +kernel
theorem dX7_bars_94 : decode cX7_bars 94 = .ok (.if_icmp .ne 12, 3) := by decide +kernel
theorem dX7_bars_97 : decode cX7_bars 97 = .ok (.iload 5, 2) := by decide +kernel
theorem dX7_bars_99 : decode cX7_bars 99 = .ok (.iconst 1, 1) := by decide +kernel
theorem dX7_bars_100 : decode cX7_bars 100 = .ok (.iload 6, 2) := by decide +kernel
theorem dX7_bars_102 : decode cX7_bars 102 = .ok (.ishl, 1) := by decide +kernel
theorem dX7_bars_103 : decode cX7_bars 103 = .ok (.ior, 1) := by decide +kernel
theorem dX7_bars_104 : decode cX7_bars 104 = .ok (.istore 5, 2) := by decide +kernel
theorem dX7_bars_106 : decode cX7_bars 106 = .ok (.iinc 6 1, 3) := by decide +kernel
theorem dX7_bars_109 : decode cX7_bars 109 = .ok (.goto (-51), 3) := by decide +kernel
theorem dX7_bars_112 : decode cX7_bars 112 = .ok (.iload 5, 2) := by decide +kernel
theorem dX7_bars_114 : decode cX7_bars 114 = .ok (.ireturn, 1) := by decide +kernel
theorem dX7_reading_0 : decode cX7_reading 0 = .ok (.aload_n 0, 1) := by decide +kernel
theorem dX7_reading_1 : decode cX7_reading 1 = .ok (.aload_n 0, 1) := by decide +kernel
theorem dX7_reading_2 : decode cX7_reading 2 = .ok (.getfield 12, 3) := by decide +kernel
theorem dX7_reading_5 : decode cX7_reading 5 = .ok (.iload_n 1, 1) := by decide +kernel
theorem dX7_reading_6 : decode cX7_reading 6 = .ok (.iload_n 2, 1) := by decide +kernel
theorem dX7_reading_7 : decode cX7_reading 7 = .ok (.iload_n 3, 1) := by decide +kernel
theorem dX7_reading_8 : decode cX7_reading 8 = .ok (.invokevirtual 237, 3) := by decide +kernel
theorem dX7_reading_11 : decode cX7_reading 11 = .ok (.invokevirtual 87, 3) := by decide +kernel
theorem dX7_reading_14 : decode cX7_reading 14 = .ok (.ireturn, 1) := by decide +kernel
theorem dX7_unread_0 : decode cX7_unread 0 = .ok (.aload_n 0, 1) := by decide +kernel
theorem dX7_unread_1 : decode cX7_unread 1 = .ok (.getfield 12, 3) := by decide +kernel
theorem dX7_unread_4 : decode cX7_unread 4 = .ok (.getfield 240, 3) := by decide +kernel
theorem dX7_unread_7 : decode cX7_unread 7 = .ok (.istore_n 1, 1) := by decide +kernel
theorem dX7_unread_8 : decode cX7_unread 8 = .ok (.aload_n 0, 1) := by decide +kernel
theorem dX7_unread_9 : decode cX7_unread 9 = .ok (.getfield 12, 3) := by decide +kernel
theorem dX7_unread_12 : decode cX7_unread 12 = .ok (.iconst 0, 1) := by decide +kernel
theorem dX7_unread_13 : decode cX7_unread 13 = .ok (.putfield 240, 3) := by decide +kernel
theorem dX7_unread_16 : decode cX7_unread 16 = .ok (.iload_n 1, 1) := by decide +kernel
theorem dX7_unread_17 : decode cX7_unread 17 = .ok (.ireturn, 1) := by decide +kernel
theorem dX7_dead_0 : decode cX7_dead 0 = .ok (.iload_n 1, 1) := by decide +kernel
theorem dX7_dead_1 : decode cX7_dead 1 = .ok (.ifCond .lt 8, 3) := by decide +kernel
theorem dX7_dead_4 : decode cX7_dead 4 = .ok (.iload_n 1, 1) := by decide +kernel
theorem dX7_dead_5 : decode cX7_dead 5 = .ok (.iconst 3, 1) := by decide +kernel
theorem dX7_dead_6 : decode cX7_dead 6 = .ok (.if_icmp .le 10, 3) := by decide +kernel
theorem dX7_dead_9 : decode cX7_dead 9 = .ok (.aload_n 0, 1) := by decide +kernel
theorem dX7_dead_10 : decode cX7_dead 10 = .ok (.bipush (-2), 2) := by decide +kernel
theorem dX7_dead_12 : decode cX7_dead 12 = .ok (.invokevirtual 87, 3) := by decide +kernel
theorem dX7_dead_15 : decode cX7_dead 15 = .ok (.ireturn, 1) := by decide +kernel
theorem dX7_dead_16 : decode cX7_dead 16 = .ok (.aload_n 0, 1) := by decide +kernel
theorem dX7_dead_17 : decode cX7_dead 17 = .ok (.getfield 69, 3) := by decide +kernel
theorem dX7_dead_20 : decode cX7_dead 20 = .ok (.aload_n 0, 1) := by decide +kernel
theorem dX7_dead_21 : decode cX7_dead 21 = .ok (.getfield 12, 3) := by decide +kernel
theorem dX7_dead_24 : decode cX7_dead 24 = .ok (.invokevirtual 243, 3) := by decide +kernel
theorem dX7_dead_27 : decode cX7_dead 27 = .ok (.iload_n 1, 1) := by decide +kernel
theorem dX7_dead_28 : decode cX7_dead 28 = .ok (.ifCond .ne 11, 3) := by decide +kernel
theorem dX7_dead_31 : decode cX7_dead 31 = .ok (.aload_n 0, 1) := by decide +kernel
theorem dX7_dead_32 : decode cX7_dead 32 = .ok (.getfield 69, 3) := by decide +kernel
theorem dX7_dead_35 : decode cX7_dead 35 = .ok (.getfield 245, 3) := by decide +kernel
theorem dX7_dead_38 : decode cX7_dead 38 = .ok (.ireturn, 1) := by decide +kernel
theorem dX7_dead_39 : decode cX7_dead 39 = .ok (.aload_n 0, 1) := by decide +kernel
theorem dX7_dead_40 : decode cX7_dead 40 = .ok (.getfield 69, 3) := by decide +kernel
theorem dX7_dead_43 : decode cX7_dead 43 = .ok (.getfield 245, 3) := by decide +kernel
theorem dX7_dead_46 : decode cX7_dead 46 = .ok (.ifCond .ne 10, 3) := by decide +kernel
theorem dX7_dead_49 : decode cX7_dead 49 = .ok (.aload_n 0, 1) := by decide +kernel
theorem dX7_dead_50 : decode cX7_dead 50 = .ok (.bipush (-3), 2) := by decide +kernel
theorem dX7_dead_52 : decode cX7_dead 52 = .ok (.invokevirtual 87, 3) := by decide +kernel
theorem dX7_dead_55 : decode cX7_dead 55 = .ok (.ireturn, 1) := by decide +kernel
theorem dX7_dead_56 : decode cX7_dead 56 = .ok (.iload_n 1, 1) := by decide +kernel
theorem dX7_dead_57 : decode cX7_dead 57 = .ok (.iconst 1, 1) := by decide +kernel
theorem dX7_dead_58 : decode cX7_dead 58 = .ok (.if_icmp .ne 11, 3) := by decide +kernel
theorem dX7_dead_61 : decode cX7_dead 61 = .ok (.aload_n 0, 1) := by decide +kernel
theorem dX7_dead_62 : decode cX7_dead 62 = .ok (.getfield 69, 3) := by decide +kernel
theorem dX7_dead_65 : decode cX7_dead 65 = .ok (.getfield 248, 3) := by decide +kernel
theorem dX7_dead_68 : decode cX7_dead 68 = .ok (.ireturn, 1) := by decide +kernel
theorem dX7_dead_69 : decode cX7_dead 69 = .ok (.iload_n 1, 1) := by decide +kernel
theorem dX7_dead_70 : decode cX7_dead 70 = .ok (.iconst 2, 1) := by decide +kernel
theorem dX7_dead_71 : decode cX7_dead 71 = .ok (.if_icmp .ne 13, 3) := by decide +kernel
theorem dX7_dead_74 : decode cX7_dead 74 = .ok (.aload_n 0, 1) := by decide +kernel
theorem dX7_dead_75 : decode cX7_dead 75 = .ok (.getfield 69, 3) := by decide +kernel
theorem dX7_dead_78 : decode cX7_dead 78 = .ok (.getfield 251, 3) := by decide +kernel
theorem dX7_dead_81 : decode cX7_dead 81 = .ok (.goto 10, 3) := by decide +kernel
theorem dX7_dead_84 : decode cX7_dead 84 = .ok (.aload_n 0, 1) := by decide +kernel
theorem dX7_dead_85 : decode cX7_dead 85 = .ok (.getfield 69, 3) := by decide +kernel
theorem dX7_dead_88 : decode cX7_dead 88 = .ok (.getfield 254, 3) := by decide +kernel
theorem dX7_dead_91 : decode cX7_dead 91 = .ok (.ireturn, 1) := by decide +kernel
theorem dX7_unlike_0 : decode cX7_unlike 0 = .ok (.iload_n 1, 1) := by decide +kernel
theorem dX7_unlike_1 : decode cX7_unlike 1 = .ok (.iconst 1, 1) := by decide +kernel
theorem dX7_unlike_2 : decode cX7_unlike 2 = .ok (.if_icmp .lt 18, 3) := by decide +kernel
theorem dX7_unlike_5 : decode cX7_unlike 5 = .ok (.iload_n 1, 1) := by decide +kernel
theorem dX7_unlike_6 : decode cX7_unlike 6 = .ok (.iconst 5, 1) := by decide +kernel
theorem dX7_unlike_7 : decode cX7_unlike 7 = .ok (.if_icmp .gt 13, 3) := by decide +kernel
theorem dX7_unlike_10 : decode cX7_unlike 10 = .ok (.iload_n 2, 1) := by decide +kernel
theorem dX7_unlike_11 : decode cX7_unlike 11 = .ok (.iconst 1, 1) := by decide +kernel
theorem dX7_unlike_12 : decode cX7_unlike 12 = .ok (.if_icmp .lt 8, 3) := by decide +kernel
theorem dX7_unlike_15 : decode cX7_unlike 15 = .ok (.iload_n 2, 1) := by decide +kernel
theorem dX7_unlike_16 : decode cX7_unlike 16 = .ok (.iload_n 1, 1) := by decide +kernel
theorem dX7_unlike_17 : decode cX7_unlike 17 = .ok (.if_icmp .le 10, 3) := by decide +kernel
theorem dX7_unlike_20 : decode cX7_unlike 20 = .ok (.aload_n 0, 1) := by decide +kernel
theorem dX7_unlike_21 : decode cX7_unlike 21 = .ok (.bipush (-2), 2) := by decide +kernel
theorem dX7_unlike_23 : decode cX7_unlike 23 = .ok (.invokevirtual 87, 3) := by decide +kernel
theorem dX7_unlike_26 : decode cX7_unlike 26 = .ok (.ireturn, 1) := by decide +kernel
theorem dX7_unlike_27 : decode cX7_unlike 27 = .ok (.iload_n 1, 1) := by decide +kernel
theorem dX7_unlike_28 : decode cX7_unlike 28 = .ok (.iload_n 2, 1) := by decide +kernel
theorem dX7_unlike_29 : decode cX7_unlike 29 = .ok (.invokestatic 257, 3) := by decide +kernel
theorem dX7_unlike_32 : decode cX7_unlike 32 = .ok (.ireturn, 1) := by decide +kernel
theorem dX7_image_0 : decode cX7_image 0 = .ok (.iload_n 1, 1) := by decide +kernel
theorem dX7_image_1 : decode cX7_image 1 = .ok (.ifCond .lt 8, 3) := by decide +kernel
theorem dX7_image_4 : decode cX7_image 4 = .ok (.iload_n 1, 1) := by decide +kernel
theorem dX7_image_5 : decode cX7_image 5 = .ok (.iconst 2, 1) := by decide +kernel
theorem dX7_image_6 : decode cX7_image 6 = .ok (.if_icmp .lt 10, 3) := by decide +kernel
theorem dX7_image_9 : decode cX7_image 9 = .ok (.aload_n 0, 1) := by decide +kernel
theorem dX7_image_10 : decode cX7_image 10 = .ok (.bipush (-2), 2) := by decide +kernel
theorem dX7_image_12 : decode cX7_image 12 = .ok (.invokevirtual 87, 3) := by decide +kernel
theorem dX7_image_15 : decode cX7_image 15 = .ok (.ireturn, 1) := by decide +kernel
theorem dX7_image_16 : decode cX7_image 16 = .ok (.iload_n 1, 1) := by decide +kernel
theorem dX7_image_17 : decode cX7_image 17 = .ok (.ifCond .ne 22, 3) := by decide +kernel
theorem dX7_image_20 : decode cX7_image 20 = .ok (.aload_n 0, 1) := by decide +kernel
theorem dX7_image_21 : decode cX7_image 21 = .ok (.getfield 19, 3) := by decide +kernel
theorem dX7_image_24 : decode cX7_image 24 = .ok (.aload_n 0, 1) := by decide +kernel
theorem dX7_image_25 : decode cX7_image 25 = .ok (.getfield 12, 3) := by decide +kernel
theorem dX7_image_28 : decode cX7_image 28 = .ok (.invokevirtual 143, 3) := by decide +kernel
theorem dX7_image_31 : decode cX7_image 31 = .ok (.aload_n 0, 1) := by decide +kernel
theorem dX7_image_32 : decode cX7_image 32 = .ok (.iconst 1, 1) := by decide +kernel
theorem dX7_image_33 : decode cX7_image 33 = .ok (.putfield 25, 3) := by decide +kernel
theorem dX7_image_36 : decode cX7_image 36 = .ok (.goto 19, 3) := by decide +kernel
theorem dX7_image_39 : decode cX7_image 39 = .ok (.aload_n 0, 1) := by decide +kernel
theorem dX7_image_40 : decode cX7_image 40 = .ok (.getfield 22, 3) := by decide +kernel
theorem dX7_image_43 : decode cX7_image 43 = .ok (.aload_n 0, 1) := by decide +kernel
theorem dX7_image_44 : decode cX7_image 44 = .ok (.getfield 12, 3) := by decide +kernel
theorem dX7_image_47 : decode cX7_image 47 = .ok (.invokevirtual 143, 3) := by decide +kernel
theorem dX7_image_50 : decode cX7_image 50 = .ok (.aload_n 0, 1) := by decide +kernel
theorem dX7_image_51 : decode cX7_image 51 = .ok (.iconst 1, 1) := by decide +kernel
theorem dX7_image_52 : decode cX7_image 52 = .ok (.putfield 29, 3) := by decide +kernel
theorem dX7_image_55 : decode cX7_image 55 = .ok (.iconst 1, 1) := by decide +kernel
theorem dX7_image_56 : decode cX7_image 56 = .ok (.ireturn, 1) := by decide +kernel
theorem dX7_from_0 : decode cX7_from 0 = .ok (.iload_n 1, 1) := by decide +kernel
theorem dX7_from_1 : decode cX7_from 1 = .ok (.ifCond .lt 8, 3) := by decide +kernel
theorem dX7_from_4 : decode cX7_from 4 = .ok (.iload_n 1, 1) := by decide +kernel
theorem dX7_from_5 : decode cX7_from 5 = .ok (.iconst 2, 1) := by decide +kernel
theorem dX7_from_6 : decode cX7_from 6 = .ok (.if_icmp .lt 10, 3) := by decide +kernel
theorem dX7_from_9 : decode cX7_from 9 = .ok (.aload_n 0, 1) := by decide +kernel
theorem dX7_from_10 : decode cX7_from 10 = .ok (.bipush (-2), 2) := by decide +kernel
theorem dX7_from_12 : decode cX7_from 12 = .ok (.invokevirtual 87, 3) := by decide +kernel
theorem dX7_from_15 : decode cX7_from 15 = .ok (.ireturn, 1) := by decide +kernel
theorem dX7_from_16 : decode cX7_from 16 = .ok (.iload_n 1, 1) := by decide +kernel
theorem dX7_from_17 : decode cX7_from 17 = .ok (.ifCond .ne 13, 3) := by decide +kernel
theorem dX7_from_20 : decode cX7_from 20 = .ok (.aload_n 0, 1) := by decide +kernel
theorem dX7_from_21 : decode cX7_from 21 = .ok (.getfield 25, 3) := by decide +kernel
theorem dX7_from_24 : decode cX7_from 24 = .ok (.ifCond .ne 20, 3) := by decide +kernel
theorem dX7_from_27 : decode cX7_from 27 = .ok (.goto 10, 3) := by decide +kernel
theorem dX7_from_30 : decode cX7_from 30 = .ok (.aload_n 0, 1) := by decide +kernel
theorem dX7_from_31 : decode cX7_from 31 = .ok (.getfield 29, 3) := by decide +kernel
theorem dX7_from_34 : decode cX7_from 34 = .ok (.ifCond .ne 10, 3) := by decide +kernel
theorem dX7_from_37 : decode cX7_from 37 = .ok (.aload_n 0, 1) := by decide +kernel
theorem dX7_from_38 : decode cX7_from 38 = .ok (.bipush (-3), 2) := by decide +kernel
theorem dX7_from_40 : decode cX7_from 40 = .ok (.invokevirtual 87, 3) := by decide +kernel
theorem dX7_from_43 : decode cX7_from 43 = .ok (.ireturn, 1) := by decide +kernel
theorem dX7_from_44 : decode cX7_from 44 = .ok (.aload_n 0, 1) := by decide +kernel
theorem dX7_from_45 : decode cX7_from 45 = .ok (.getfield 12, 3) := by decide +kernel
theorem dX7_from_48 : decode cX7_from 48 = .ok (.iload_n 1, 1) := by decide +kernel
theorem dX7_from_49 : decode cX7_from 49 = .ok (.ifCond .ne 10, 3) := by decide +kernel
theorem dX7_from_52 : decode cX7_from 52 = .ok (.aload_n 0, 1) := by decide +kernel
theorem dX7_from_53 : decode cX7_from 53 = .ok (.getfield 19, 3) := by decide +kernel
theorem dX7_from_56 : decode cX7_from 56 = .ok (.goto 7, 3) := by decide +kernel
theorem dX7_from_59 : decode cX7_from 59 = .ok (.aload_n 0, 1) := by decide +kernel
theorem dX7_from_60 : decode cX7_from 60 = .ok (.getfield 22, 3) := by decide +kernel
theorem dX7_from_63 : decode cX7_from 63 = .ok (.invokevirtual 143, 3) := by decide +kernel
theorem dX7_from_66 : decode cX7_from 66 = .ok (.iconst 1, 1) := by decide +kernel
theorem dX7_from_67 : decode cX7_from 67 = .ok (.ireturn, 1) := by decide +kernel
theorem dX7_status_0 : decode cX7_status 0 = .ok (.iload_n 1, 1) := by decide +kernel
theorem dX7_status_1 : decode cX7_status 1 = .ok (.tableswitch 42 0 2 #[27, 32, 37], 27) := by decide +kernel
theorem dX7_status_28 : decode cX7_status 28 = .ok (.aload_n 0, 1) := by decide +kernel
theorem dX7_status_29 : decode cX7_status 29 = .ok (.getfield 73, 3) := by decide +kernel
theorem dX7_status_32 : decode cX7_status 32 = .ok (.ireturn, 1) := by decide +kernel
theorem dX7_status_33 : decode cX7_status 33 = .ok (.aload_n 0, 1) := by decide +kernel
theorem dX7_status_34 : decode cX7_status 34 = .ok (.getfield 77, 3) := by decide +kernel
theorem dX7_status_37 : decode cX7_status 37 = .ok (.ireturn, 1) := by decide +kernel
theorem dX7_status_38 : decode cX7_status 38 = .ok (.aload_n 0, 1) := by decide +kernel
theorem dX7_status_39 : decode cX7_status 39 = .ok (.getfield 80, 3) := by decide +kernel
theorem dX7_status_42 : decode cX7_status 42 = .ok (.ireturn, 1) := by decide +kernel
theorem dX7_status_43 : decode cX7_status 43 = .ok (.aload_n 0, 1) := by decide +kernel
theorem dX7_status_44 : decode cX7_status 44 = .ok (.dup, 1) := by decide +kernel
theorem dX7_status_45 : decode cX7_status 45 = .ok (.getfield 73, 3) := by decide +kernel
theorem dX7_status_48 : decode cX7_status 48 = .ok (.iconst 1, 1) := by decide +kernel
theorem dX7_status_49 : decode cX7_status 49 = .ok (.iadd, 1) := by decide +kernel
theorem dX7_status_50 : decode cX7_status 50 = .ok (.putfield 73, 3) := by decide +kernel
theorem dX7_status_53 : decode cX7_status 53 = .ok (.iconst (-1), 1) := by decide +kernel
theorem dX7_status_54 : decode cX7_status 54 = .ok (.ireturn, 1) := by decide +kernel
theorem dX7_count_0 : decode cX7_count 0 = .ok (.aload_n 0, 1) := by decide +kernel
theorem dX7_count_1 : decode cX7_count 1 = .ok (.aload_n 0, 1) := by decide +kernel
theorem dX7_count_2 : decode cX7_count 2 = .ok (.iload_n 1, 1) := by decide +kernel
theorem dX7_count_3 : decode cX7_count 3 = .ok (.invokevirtual 260, 3) := by decide +kernel
theorem dX7_count_6 : decode cX7_count 6 = .ok (.invokevirtual 87, 3) := by decide +kernel
theorem dX7_count_9 : decode cX7_count 9 = .ok (.ireturn, 1) := by decide +kernel
theorem dX7_digest_0 : decode cX7_digest 0 = .ok (.ldc2_w 263, 3) := by decide +kernel
theorem dX7_digest_3 : decode cX7_digest 3 = .ok (.lstore_n 1, 1) := by decide +kernel
theorem dX7_digest_4 : decode cX7_digest 4 = .ok (.iconst 0, 1) := by decide +kernel
theorem dX7_digest_5 : decode cX7_digest 5 = .ok (.istore_n 3, 1) := by decide +kernel
theorem dX7_digest_6 : decode cX7_digest 6 = .ok (.iload_n 3, 1) := by decide +kernel
theorem dX7_digest_7 : decode cX7_digest 7 = .ok (.iconst 5, 1) := by decide +kernel
theorem dX7_digest_8 : decode cX7_digest 8 = .ok (.if_icmp .gt 22, 3) := by decide +kernel
theorem dX7_digest_11 : decode cX7_digest 11 = .ok (.ldc2_w 265, 3) := by decide +kernel
theorem dX7_digest_14 : decode cX7_digest 14 = .ok (.lload_n 1, 1) := by decide +kernel
theorem dX7_digest_15 : decode cX7_digest 15 = .ok (.lmul, 1) := by decide +kernel
theorem dX7_digest_16 : decode cX7_digest 16 = .ok (.aload_n 0, 1) := by decide +kernel
theorem dX7_digest_17 : decode cX7_digest 17 = .ok (.iload_n 3, 1) := by decide +kernel
theorem dX7_digest_18 : decode cX7_digest 18 = .ok (.invokevirtual 260, 3) := by decide +kernel
theorem dX7_digest_21 : decode cX7_digest 21 = .ok (.i2l, 1) := by decide +kernel
theorem dX7_digest_22 : decode cX7_digest 22 = .ok (.ladd, 1) := by decide +kernel
theorem dX7_digest_23 : decode cX7_digest 23 = .ok (.lstore_n 1, 1) := by decide +kernel
theorem dX7_digest_24 : decode cX7_digest 24 = .ok (.iinc 3 1, 3) := by decide +kernel
theorem dX7_digest_27 : decode cX7_digest 27 = .ok (.goto (-21), 3) := by decide +kernel
theorem dX7_digest_30 : decode cX7_digest 30 = .ok (.aload_n 0, 1) := by decide +kernel
theorem dX7_digest_31 : decode cX7_digest 31 = .ok (.getfield 12, 3) := by decide +kernel
theorem dX7_digest_34 : decode cX7_digest 34 = .ok (.lload_n 1, 1) := by decide +kernel
theorem dX7_digest_35 : decode cX7_digest 35 = .ok (.invokevirtual 267, 3) := by decide +kernel
theorem dX7_digest_38 : decode cX7_digest 38 = .ok (.lreturn, 1) := by decide +kernel
theorem dX7_howMany_0 : decode cX7_howMany 0 = .ok (.iload_n 1, 1) := by decide +kernel
theorem dX7_howMany_1 : decode cX7_howMany 1 = .ok (.tableswitch 87 0 5 #[39, 47, 55, 63, 71, 79], 39) := by decide +kernel
theorem dX7_howMany_40 : decode cX7_howMany 40 = .ok (.aload_n 0, 1) := by decide +kernel
theorem dX7_howMany_41 : decode cX7_howMany 41 = .ok (.getfield 12, 3) := by decide +kernel
theorem dX7_howMany_44 : decode cX7_howMany 44 = .ok (.getfield 176, 3) := by decide +kernel
theorem dX7_howMany_47 : decode cX7_howMany 47 = .ok (.ireturn, 1) := by decide +kernel
theorem dX7_howMany_48 : decode cX7_howMany 48 = .ok (.aload_n 0, 1) := by decide +kernel
theorem dX7_howMany_49 : decode cX7_howMany 49 = .ok (.getfield 12, 3) := by decide +kernel
theorem dX7_howMany_52 : decode cX7_howMany 52 = .ok (.getfield 228, 3) := by decide +kernel
theorem dX7_howMany_55 : decode cX7_howMany 55 = .ok (.ireturn, 1) := by decide +kernel
theorem dX7_howMany_56 : decode cX7_howMany 56 = .ok (.aload_n 0, 1) := by decide +kernel
theorem dX7_howMany_57 : decode cX7_howMany 57 = .ok (.getfield 12, 3) := by decide +kernel
theorem dX7_howMany_60 : decode cX7_howMany 60 = .ok (.getfield 211, 3) := by decide +kernel
theorem dX7_howMany_63 : decode cX7_howMany 63 = .ok (.ireturn, 1) := by decide +kernel
theorem dX7_howMany_64 : decode cX7_howMany 64 = .ok (.aload_n 0, 1) := by decide +kernel
theorem dX7_howMany_65 : decode cX7_howMany 65 = .ok (.getfield 12, 3) := by decide +kernel
theorem dX7_howMany_68 : decode cX7_howMany 68 = .ok (.getfield 200, 3) := by decide +kernel
theorem dX7_howMany_71 : decode cX7_howMany 71 = .ok (.ireturn, 1) := by decide +kernel
theorem dX7_howMany_72 : decode cX7_howMany 72 = .ok (.aload_n 0, 1) := by decide +kernel
theorem dX7_howMany_73 : decode cX7_howMany 73 = .ok (.getfield 12, 3) := by decide +kernel
theorem dX7_howMany_76 : decode cX7_howMany 76 = .ok (.getfield 240, 3) := by decide +kernel
theorem dX7_howMany_79 : decode cX7_howMany 79 = .ok (.ireturn, 1) := by decide +kernel
theorem dX7_howMany_80 : decode cX7_howMany 80 = .ok (.aload_n 0, 1) := by decide +kernel
theorem dX7_howMany_81 : decode cX7_howMany 81 = .ok (.getfield 35, 3) := by decide +kernel
theorem dX7_howMany_84 : decode cX7_howMany 84 = .ok (.getfield 271, 3) := by decide +kernel
theorem dX7_howMany_87 : decode cX7_howMany 87 = .ok (.ireturn, 1) := by decide +kernel
theorem dX7_howMany_88 : decode cX7_howMany 88 = .ok (.bipush (-2), 2) := by decide +kernel
theorem dX7_howMany_90 : decode cX7_howMany 90 = .ok (.ireturn, 1) := by decide +kernel
theorem dX7_counted_0 : decode cX7_counted 0 = .ok (.iload_n 1, 1) := by decide +kernel
theorem dX7_counted_1 : decode cX7_counted 1 = .ok (.bipush (-2), 2) := by decide +kernel
theorem dX7_counted_3 : decode cX7_counted 3 = .ok (.if_icmp .ne 13, 3) := by decide +kernel
theorem dX7_counted_6 : decode cX7_counted 6 = .ok (.aload_n 0, 1) := by decide +kernel
theorem dX7_counted_7 : decode cX7_counted 7 = .ok (.dup, 1) := by decide +kernel
theorem dX7_counted_8 : decode cX7_counted 8 = .ok (.getfield 73, 3) := by decide +kernel
theorem dX7_counted_11 : decode cX7_counted 11 = .ok (.iconst 1, 1) := by decide +kernel
theorem dX7_counted_12 : decode cX7_counted 12 = .ok (.iadd, 1) := by decide +kernel
theorem dX7_counted_13 : decode cX7_counted 13 = .ok (.putfield 73, 3) := by decide +kernel
theorem dX7_counted_16 : decode cX7_counted 16 = .ok (.iload_n 1, 1) := by decide +kernel
theorem dX7_counted_17 : decode cX7_counted 17 = .ok (.bipush (-3), 2) := by decide +kernel
theorem dX7_counted_19 : decode cX7_counted 19 = .ok (.if_icmp .ne 13, 3) := by decide +kernel
theorem dX7_counted_22 : decode cX7_counted 22 = .ok (.aload_n 0, 1) := by decide +kernel
theorem dX7_counted_23 : decode cX7_counted 23 = .ok (.dup, 1) := by decide +kernel
theorem dX7_counted_24 : decode cX7_counted 24 = .ok (.getfield 77, 3) := by decide +kernel
theorem dX7_counted_27 : decode cX7_counted 27 = .ok (.iconst 1, 1) := by decide +kernel
theorem dX7_counted_28 : decode cX7_counted 28 = .ok (.iadd, 1) := by decide +kernel
theorem dX7_counted_29 : decode cX7_counted 29 = .ok (.putfield 77, 3) := by decide +kernel
theorem dX7_counted_32 : decode cX7_counted 32 = .ok (.iload_n 1, 1) := by decide +kernel
theorem dX7_counted_33 : decode cX7_counted 33 = .ok (.bipush (-4), 2) := by decide +kernel
theorem dX7_counted_35 : decode cX7_counted 35 = .ok (.if_icmp .ne 13, 3) := by decide +kernel
theorem dX7_counted_38 : decode cX7_counted 38 = .ok (.aload_n 0, 1) := by decide +kernel
theorem dX7_counted_39 : decode cX7_counted 39 = .ok (.dup, 1) := by decide +kernel
theorem dX7_counted_40 : decode cX7_counted 40 = .ok (.getfield 80, 3) := by decide +kernel
theorem dX7_counted_43 : decode cX7_counted 43 = .ok (.iconst 1, 1) := by decide +kernel
theorem dX7_counted_44 : decode cX7_counted 44 = .ok (.iadd, 1) := by decide +kernel
theorem dX7_counted_45 : decode cX7_counted 45 = .ok (.putfield 80, 3) := by decide +kernel
theorem dX7_counted_48 : decode cX7_counted 48 = .ok (.iload_n 1, 1) := by decide +kernel
theorem dX7_counted_49 : decode cX7_counted 49 = .ok (.ireturn, 1) := by decide +kernel
theorem dX7_countedApart_0 : decode cX7_countedApart 0 = .ok (.aload_n 0, 1) := by decide +kernel
theorem dX7_countedApart_1 : decode cX7_countedApart 1 = .ok (.iload_n 1, 1) := by decide +kernel
theorem dX7_countedApart_2 : decode cX7_countedApart 2 = .ok (.invokevirtual 87, 3) := by decide +kernel
theorem dX7_countedApart_5 : decode cX7_countedApart 5 = .ok (.bipush (-2), 2) := by decide +kernel
theorem dX7_countedApart_7 : decode cX7_countedApart 7 = .ok (.if_icmp .ne 8, 3) := by decide +kernel
theorem dX7_countedApart_10 : decode cX7_countedApart 10 = .ok (.bipush (-10), 2) := by decide +kernel
theorem dX7_countedApart_12 : decode cX7_countedApart 12 = .ok (.goto 4, 3) := by decide +kernel
theorem dX7_countedApart_15 : decode cX7_countedApart 15 = .ok (.iload_n 1, 1) := by decide +kernel
theorem dX7_countedApart_16 : decode cX7_countedApart 16 = .ok (.ireturn, 1) := by decide +kernel
theorem dX7_isAsked_0 : decode cX7_isAsked 0 = .ok (.iload_n 2, 1) := by decide +kernel
theorem dX7_isAsked_1 : decode cX7_isAsked 1 = .ok (.invokestatic 114, 3) := by decide +kernel
theorem dX7_isAsked_4 : decode cX7_isAsked 4 = .ok (.ifCond .eq 25, 3) := by decide +kernel
theorem dX7_isAsked_7 : decode cX7_isAsked 7 = .ok (.aload_n 0, 1) := by decide +kernel
theorem dX7_isAsked_8 : decode cX7_isAsked 8 = .ok (.getfield 42, 3) := by decide +kernel
theorem dX7_isAsked_11 : decode cX7_isAsked 11 = .ok (.iload_n 1, 1) := by decide +kernel
theorem dX7_isAsked_12 : decode cX7_isAsked 12 = .ok (.aload_n 0, 1) := by decide +kernel
theorem dX7_isAsked_13 : decode cX7_isAsked 13 = .ok (.getfield 12, 3) := by decide +kernel
theorem dX7_isAsked_16 : decode cX7_isAsked 16 = .ok (.getfield 200, 3) := by decide +kernel
theorem dX7_isAsked_19 : decode cX7_isAsked 19 = .ok (.invokevirtual 203, 3) := by decide +kernel
theorem dX7_isAsked_22 : decode cX7_isAsked 22 = .ok (.ifCond .eq 7, 3) := by decide +kernel
theorem dX7_isAsked_25 : decode cX7_isAsked 25 = .ok (.iconst 1, 1) := by decide +kernel
theorem dX7_isAsked_26 : decode cX7_isAsked 26 = .ok (.goto 4, 3) := by decide +kernel
theorem dX7_isAsked_29 : decode cX7_isAsked 29 = .ok (.iconst 0, 1) := by decide +kernel
theorem dX7_isAsked_30 : decode cX7_isAsked 30 = .ok (.ireturn, 1) := by decide +kernel
theorem dX7_isHour_0 : decode cX7_isHour 0 = .ok (.iload_n 0, 1) := by decide +kernel
theorem dX7_isHour_1 : decode cX7_isHour 1 = .ok (.ifCond .lt 12, 3) := by decide +kernel
theorem dX7_isHour_4 : decode cX7_isHour 4 = .ok (.iload_n 0, 1) := by decide +kernel
theorem dX7_isHour_5 : decode cX7_isHour 5 = .ok (.iconst 4, 1) := by decide +kernel
theorem dX7_isHour_6 : decode cX7_isHour 6 = .ok (.if_icmp .ge 7, 3) := by decide +kernel
theorem dX7_isHour_9 : decode cX7_isHour 9 = .ok (.iconst 1, 1) := by decide +kernel
theorem dX7_isHour_10 : decode cX7_isHour 10 = .ok (.goto 4, 3) := by decide +kernel
theorem dX7_isHour_13 : decode cX7_isHour 13 = .ok (.iconst 0, 1) := by decide +kernel
theorem dX7_isHour_14 : decode cX7_isHour 14 = .ok (.ireturn, 1) := by decide +kernel
theorem dX7_isShape_0 : decode cX7_isShape 0 = .ok (.iload_n 0, 1) := by decide +kernel
theorem dX7_isShape_1 : decode cX7_isShape 1 = .ok (.ifCond .lt 14, 3) := by decide +kernel
theorem dX7_isShape_4 : decode cX7_isShape 4 = .ok (.iload_n 0, 1) := by decide +kernel
theorem dX7_isShape_5 : decode cX7_isShape 5 = .ok (.sipush 4095, 3) := by decide +kernel
theorem dX7_isShape_8 : decode cX7_isShape 8 = .ok (.if_icmp .gt 7, 3) := by decide +kernel
theorem dX7_isShape_11 : decode cX7_isShape 11 = .ok (.iconst 1, 1) := by decide +kernel
theorem dX7_isShape_12 : decode cX7_isShape 12 = .ok (.goto 4, 3) := by decide +kernel
theorem dX7_isShape_15 : decode cX7_isShape 15 = .ok (.iconst 0, 1) := by decide +kernel
theorem dX7_isShape_16 : decode cX7_isShape 16 = .ok (.ireturn, 1) := by decide +kernel
theorem dX7_seen_0 : decode cX7_seen 0 = .ok (.iload_n 1, 1) := by decide +kernel
theorem dX7_seen_1 : decode cX7_seen 1 = .ok (.ifCond .ne 5, 3) := by decide +kernel
theorem dX7_seen_4 : decode cX7_seen 4 = .ok (.iload_n 0, 1) := by decide +kernel
theorem dX7_seen_5 : decode cX7_seen 5 = .ok (.ireturn, 1) := by decide +kernel
theorem dX7_seen_6 : decode cX7_seen 6 = .ok (.iload_n 0, 1) := by decide +kernel
theorem dX7_seen_7 : decode cX7_seen 7 = .ok (.sipush 585, 3) := by decide +kernel
theorem dX7_seen_10 : decode cX7_seen 10 = .ok (.iand, 1) := by decide +kernel
theorem dX7_seen_11 : decode cX7_seen 11 = .ok (.iconst 2, 1) := by decide +kernel
theorem dX7_seen_12 : decode cX7_seen 12 = .ok (.ishl, 1) := by decide +kernel
theorem dX7_seen_13 : decode cX7_seen 13 = .ok (.iload_n 0, 1) := by decide +kernel
theorem dX7_seen_14 : decode cX7_seen 14 = .ok (.sipush 1170, 3) := by decide +kernel
theorem dX7_seen_17 : decode cX7_seen 17 = .ok (.iand, 1) := by decide +kernel
theorem dX7_seen_18 : decode cX7_seen 18 = .ok (.ior, 1) := by decide +kernel
theorem dX7_seen_19 : decode cX7_seen 19 = .ok (.iload_n 0, 1) := by decide +kernel
theorem dX7_seen_20 : decode cX7_seen 20 = .ok (.iconst 2, 1) := by decide +kernel
theorem dX7_seen_21 : decode cX7_seen 21 = .ok (.ishr, 1) := by decide +kernel
theorem dX7_seen_22 : decode cX7_seen 22 = .ok (.sipush 585, 3) := by decide +kernel
theorem dX7_seen_25 : decode cX7_seen 25 = .ok (.iand, 1) := by decide +kernel
theorem dX7_seen_26 : decode cX7_seen 26 = .ok (.ior, 1) := by decide +kernel
theorem dX7_seen_27 : decode cX7_seen 27 = .ok (.ireturn, 1) := by decide +kernel
theorem dX7_shapeIn_0 : decode cX7_shapeIn 0 = .ok (.iconst 0, 1) := by decide +kernel
theorem dX7_shapeIn_1 : decode cX7_shapeIn 1 = .ok (.istore_n 3, 1) := by decide +kernel
theorem dX7_shapeIn_2 : decode cX7_shapeIn 2 = .ok (.iconst 0, 1) := by decide +kernel
theorem dX7_shapeIn_3 : decode cX7_shapeIn 3 = .ok (.istore 4, 2) := by decide +kernel
theorem dX7_shapeIn_5 : decode cX7_shapeIn 5 = .ok (.iload 4, 2) := by decide +kernel
theorem dX7_shapeIn_7 : decode cX7_shapeIn 7 = .ok (.iconst 4, 1) := by decide +kernel
theorem dX7_shapeIn_8 : decode cX7_shapeIn 8 = .ok (.if_icmp .ge 31, 3) := by decide +kernel
theorem dX7_shapeIn_11 : decode cX7_shapeIn 11 = .ok (.iload_n 3, 1) := by decide +kernel
theorem dX7_shapeIn_12 : decode cX7_shapeIn 12 = .ok (.lload_n 0, 1) := by decide +kernel
theorem dX7_shapeIn_13 : decode cX7_shapeIn 13 = .ok (.iload_n 2, 1) := by decide +kernel
theorem dX7_shapeIn_14 : decode cX7_shapeIn 14 = .ok (.bipush 12, 2) := by decide +kernel
theorem dX7_shapeIn_16 : decode cX7_shapeIn 16 = .ok (.iload 4, 2) := by decide +kernel
theorem dX7_shapeIn_18 : decode cX7_shapeIn 18 = .ok (.imul, 1) := by decide +kernel
theorem dX7_shapeIn_19 : decode cX7_shapeIn 19 = .ok (.iadd, 1) := by decide +kernel
theorem dX7_shapeIn_20 : decode cX7_shapeIn 20 = .ok (.lushr, 1) := by decide +kernel
theorem dX7_shapeIn_21 : decode cX7_shapeIn 21 = .ok (.ldc2_w 272, 3) := by decide +kernel
theorem dX7_shapeIn_24 : decode cX7_shapeIn 24 = .ok (.land, 1) := by decide +kernel
theorem dX7_shapeIn_25 : decode cX7_shapeIn 25 = .ok (.l2i, 1) := by decide +kernel
theorem dX7_shapeIn_26 : decode cX7_shapeIn 26 = .ok (.iconst 3, 1) := by decide +kernel
theorem dX7_shapeIn_27 : decode cX7_shapeIn 27 = .ok (.iload 4, 2) := by decide +kernel
theorem dX7_shapeIn_29 : decode cX7_shapeIn 29 = .ok (.imul, 1) := by decide +kernel
theorem dX7_shapeIn_30 : decode cX7_shapeIn 30 = .ok (.ishl, 1) := by decide +kernel
theorem dX7_shapeIn_31 : decode cX7_shapeIn 31 = .ok (.ior, 1) := by decide +kernel
theorem dX7_shapeIn_32 : decode cX7_shapeIn 32 = .ok (.istore_n 3, 1) := by decide +kernel
theorem dX7_shapeIn_33 : decode cX7_shapeIn 33 = .ok (.iinc 4 1, 3) := by decide +kernel
theorem dX7_shapeIn_36 : decode cX7_shapeIn 36 = .ok (.goto (-31), 3) := by decide +kernel
theorem dX7_shapeIn_39 : decode cX7_shapeIn 39 = .ok (.iload_n 3, 1) := by decide +kernel
theorem dX7_shapeIn_40 : decode cX7_shapeIn 40 = .ok (.ireturn, 1) := by decide +kernel
theorem dX7_windowsOf_0 : decode cX7_windowsOf 0 = .ok (.lconst 0, 1) := by decide +kernel
theorem dX7_windowsOf_1 : decode cX7_windowsOf 1 = .ok (.lstore_n 2, 1) := by decide +kernel
theorem dX7_windowsOf_2 : decode cX7_windowsOf 2 = .ok (.iconst 0, 1) := by decide +kernel
theorem dX7_windowsOf_3 : decode cX7_windowsOf 3 = .ok (.istore 4, 2) := by decide +kernel
theorem dX7_windowsOf_5 : decode cX7_windowsOf 5 = .ok (.iload 4, 2) := by decide +kernel
theorem dX7_windowsOf_7 : decode cX7_windowsOf 7 = .ok (.iconst 4, 1) := by decide +kernel
theorem dX7_windowsOf_8 : decode cX7_windowsOf 8 = .ok (.if_icmp .ge 30, 3) := by decide +kernel
theorem dX7_windowsOf_11 : decode cX7_windowsOf 11 = .ok (.lload_n 2, 1) := by decide +kernel
theorem dX7_windowsOf_12 : decode cX7_windowsOf 12 = .ok (.iload_n 0, 1) := by decide +kernel
theorem dX7_windowsOf_13 : decode cX7_windowsOf 13 = .ok (.iconst 3, 1) := by decide +kernel
theorem dX7_windowsOf_14 : decode cX7_windowsOf 14 = .ok (.iload 4, 2) := by decide +kernel
theorem dX7_windowsOf_16 : decode cX7_windowsOf 16 = .ok (.imul, 1) := by decide +kernel
theorem dX7_windowsOf_17 : decode cX7_windowsOf 17 = .ok (.ishr, 1) := by decide +kernel
theorem dX7_windowsOf_18 : decode cX7_windowsOf 18 = .ok (.bipush 7, 2) := by decide +kernel
theorem dX7_windowsOf_20 : decode cX7_windowsOf 20 = .ok (.iand, 1) := by decide +kernel
theorem dX7_windowsOf_21 : decode cX7_windowsOf 21 = .ok (.i2l, 1) := by decide +kernel
theorem dX7_windowsOf_22 : decode cX7_windowsOf 22 = .ok (.iload_n 1, 1) := by decide +kernel
theorem dX7_windowsOf_23 : decode cX7_windowsOf 23 = .ok (.bipush 12, 2) := by decide +kernel
theorem dX7_windowsOf_25 : decode cX7_windowsOf 25 = .ok (.iload 4, 2) := by decide +kernel
theorem dX7_windowsOf_27 : decode cX7_windowsOf 27 = .ok (.imul, 1) := by decide +kernel
theorem dX7_windowsOf_28 : decode cX7_windowsOf 28 = .ok (.iadd, 1) := by decide +kernel
theorem dX7_windowsOf_29 : decode cX7_windowsOf 29 = .ok (.lshl, 1) := by decide +kernel
theorem dX7_windowsOf_30 : decode cX7_windowsOf 30 = .ok (.lor, 1) := by decide +kernel
theorem dX7_windowsOf_31 : decode cX7_windowsOf 31 = .ok (.lstore_n 2, 1) := by decide +kernel
theorem dX7_windowsOf_32 : decode cX7_windowsOf 32 = .ok (.iinc 4 1, 3) := by decide +kernel
theorem dX7_windowsOf_35 : decode cX7_windowsOf 35 = .ok (.goto (-30), 3) := by decide +kernel
theorem dX7_windowsOf_38 : decode cX7_windowsOf 38 = .ok (.lload_n 2, 1) := by decide +kernel
theorem dX7_windowsOf_39 : decode cX7_windowsOf 39 = .ok (.lreturn, 1) := by decide +kernel
theorem dX7_mostUnlike_0 : decode cX7_mostUnlike 0 = .ok (.iload_n 1, 1) := by decide +kernel
theorem dX7_mostUnlike_1 : decode cX7_mostUnlike 1 = .ok (.iconst 1, 1) := by decide +kernel
theorem dX7_mostUnlike_2 : decode cX7_mostUnlike 2 = .ok (.if_icmp .ne 7, 3) := by decide +kernel
theorem dX7_mostUnlike_5 : decode cX7_mostUnlike 5 = .ok (.iconst 1, 1) := by decide +kernel
theorem dX7_mostUnlike_6 : decode cX7_mostUnlike 6 = .ok (.iload_n 0, 1) := by decide +kernel
theorem dX7_mostUnlike_7 : decode cX7_mostUnlike 7 = .ok (.ishl, 1) := by decide +kernel
theorem dX7_mostUnlike_8 : decode cX7_mostUnlike 8 = .ok (.ireturn, 1) := by decide +kernel
theorem dX7_mostUnlike_9 : decode cX7_mostUnlike 9 = .ok (.iload_n 1, 1) := by decide +kernel
theorem dX7_mostUnlike_10 : decode cX7_mostUnlike 10 = .ok (.iconst 2, 1) := by decide +kernel
theorem dX7_mostUnlike_11 : decode cX7_mostUnlike 11 = .ok (.if_icmp .ne 9, 3) := by decide +kernel
theorem dX7_mostUnlike_14 : decode cX7_mostUnlike 14 = .ok (.iconst 1, 1) := by decide +kernel
theorem dX7_mostUnlike_15 : decode cX7_mostUnlike 15 = .ok (.iload_n 0, 1) := by decide +kernel
theorem dX7_mostUnlike_16 : decode cX7_mostUnlike 16 = .ok (.iconst 1, 1) := by decide +kernel
theorem dX7_mostUnlike_17 : decode cX7_mostUnlike 17 = .ok (.isub, 1) := by decide +kernel
theorem dX7_mostUnlike_18 : decode cX7_mostUnlike 18 = .ok (.ishl, 1) := by decide +kernel
theorem dX7_mostUnlike_19 : decode cX7_mostUnlike 19 = .ok (.ireturn, 1) := by decide +kernel
theorem dX7_mostUnlike_20 : decode cX7_mostUnlike 20 = .ok (.iload_n 0, 1) := by decide +kernel
theorem dX7_mostUnlike_21 : decode cX7_mostUnlike 21 = .ok (.iconst 5, 1) := by decide +kernel
theorem dX7_mostUnlike_22 : decode cX7_mostUnlike 22 = .ok (.if_icmp .ne 12, 3) := by decide +kernel
theorem dX7_mostUnlike_25 : decode cX7_mostUnlike 25 = .ok (.iload_n 1, 1) := by decide +kernel
theorem dX7_mostUnlike_26 : decode cX7_mostUnlike 26 = .ok (.iconst 3, 1) := by decide +kernel
theorem dX7_mostUnlike_27 : decode cX7_mostUnlike 27 = .ok (.if_icmp .ne 7, 3) := by decide +kernel
theorem dX7_mostUnlike_30 : decode cX7_mostUnlike 30 = .ok (.iconst 4, 1) := by decide +kernel
theorem dX7_mostUnlike_31 : decode cX7_mostUnlike 31 = .ok (.goto 4, 3) := by decide +kernel
theorem dX7_mostUnlike_34 : decode cX7_mostUnlike 34 = .ok (.iconst 2, 1) := by decide +kernel
theorem dX7_mostUnlike_35 : decode cX7_mostUnlike 35 = .ok (.ireturn, 1) := by decide +kernel
