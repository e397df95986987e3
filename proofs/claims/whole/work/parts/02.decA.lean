theorem dX0_init_0 : decode cX0_init 0 = .ok (.aload_n 0, 1) := by decide +kernel
theorem dX0_init_1 : decode cX0_init 1 = .ok (.invokespecial 3, 3) := by decide +kernel
theorem dX0_init_4 : decode cX0_init 4 = .ok (.return_, 1) := by decide +kernel
theorem dX0_firmness_0 : decode cX0_firmness 0 = .ok (.iload_n 2, 1) := by decide +kernel
theorem dX0_firmness_1 : decode cX0_firmness 1 = .ok (.iload 4, 2) := by decide +kernel
theorem dX0_firmness_3 : decode cX0_firmness 3 = .ok (.bipush 8, 2) := by decide +kernel
theorem dX0_firmness_5 : decode cX0_firmness 5 = .ok (.irem, 1) := by decide +kernel
theorem dX0_firmness_6 : decode cX0_firmness 6 = .ok (.if_icmp .ne 7, 3) := by decide +kernel
theorem dX0_firmness_9 : decode cX0_firmness 9 = .ok (.iconst 0, 1) := by decide +kernel
theorem dX0_firmness_10 : decode cX0_firmness 10 = .ok (.goto 14, 3) := by decide +kernel
theorem dX0_firmness_13 : decode cX0_firmness 13 = .ok (.aload_n 0, 1) := by decide +kernel
theorem dX0_firmness_14 : decode cX0_firmness 14 = .ok (.iload_n 1, 1) := by decide +kernel
theorem dX0_firmness_15 : decode cX0_firmness 15 = .ok (.iload_n 2, 1) := by decide +kernel
theorem dX0_firmness_16 : decode cX0_firmness 16 = .ok (.iload_n 3, 1) := by decide +kernel
theorem dX0_firmness_17 : decode cX0_firmness 17 = .ok (.iload 4, 2) := by decide +kernel
theorem dX0_firmness_19 : decode cX0_firmness 19 = .ok (.iload 5, 2) := by decide +kernel
theorem dX0_firmness_21 : decode cX0_firmness 21 = .ok (.invokespecial 9, 3) := by decide +kernel
theorem dX0_firmness_24 : decode cX0_firmness 24 = .ok (.ireturn, 1) := by decide +kernel
theorem dX0_dines_0 : decode cX0_dines 0 = .ok (.aload_n 1, 1) := by decide +kernel
theorem dX0_dines_1 : decode cX0_dines 1 = .ok (.bipush 50, 2) := by decide +kernel
theorem dX0_dines_3 : decode cX0_dines 3 = .ok (.invokevirtual 13, 3) := by decide +kernel
theorem dX0_dines_6 : decode cX0_dines 6 = .ok (.aload_n 0, 1) := by decide +kernel
theorem dX0_dines_7 : decode cX0_dines 7 = .ok (.aload_n 1, 1) := by decide +kernel
theorem dX0_dines_8 : decode cX0_dines 8 = .ok (.iload_n 2, 1) := by decide +kernel
theorem dX0_dines_9 : decode cX0_dines 9 = .ok (.invokespecial 19, 3) := by decide +kernel
theorem dX0_dines_12 : decode cX0_dines 12 = .ok (.ineg, 1) := by decide +kernel
theorem dX0_dines_13 : decode cX0_dines 13 = .ok (.ireturn, 1) := by decide +kernel
theorem dX0_nods_0 : decode cX0_nods 0 = .ok (.aload_n 1, 1) := by decide +kernel
theorem dX0_nods_1 : decode cX0_nods 1 = .ok (.bipush 51, 2) := by decide +kernel
theorem dX0_nods_3 : decode cX0_nods 3 = .ok (.invokevirtual 13, 3) := by decide +kernel
theorem dX0_nods_6 : decode cX0_nods 6 = .ok (.aload_n 0, 1) := by decide +kernel
theorem dX0_nods_7 : decode cX0_nods 7 = .ok (.aload_n 1, 1) := by decide +kernel
theorem dX0_nods_8 : decode cX0_nods 8 = .ok (.iload_n 2, 1) := by decide +kernel
theorem dX0_nods_9 : decode cX0_nods 9 = .ok (.iconst 1, 1) := by decide +kernel
theorem dX0_nods_10 : decode cX0_nods 10 = .ok (.iadd, 1) := by decide +kernel
theorem dX0_nods_11 : decode cX0_nods 11 = .ok (.invokespecial 23, 3) := by decide +kernel
theorem dX0_nods_14 : decode cX0_nods 14 = .ok (.ireturn, 1) := by decide +kernel
theorem dX1_init_0 : decode cX1_init 0 = .ok (.aload_n 0, 1) := by decide +kernel
theorem dX1_init_1 : decode cX1_init 1 = .ok (.invokespecial 1, 3) := by decide +kernel
theorem dX1_init_4 : decode cX1_init 4 = .ok (.return_, 1) := by decide +kernel
theorem dX1_firmness_0 : decode cX1_firmness 0 = .ok (.aload_n 0, 1) := by decide +kernel
theorem dX1_firmness_1 : decode cX1_firmness 1 = .ok (.iload_n 1, 1) := by decide +kernel
theorem dX1_firmness_2 : decode cX1_firmness 2 = .ok (.iload_n 2, 1) := by decide +kernel
theorem dX1_firmness_3 : decode cX1_firmness 3 = .ok (.iload_n 3, 1) := by decide +kernel
theorem dX1_firmness_4 : decode cX1_firmness 4 = .ok (.iload 4, 2) := by decide +kernel
theorem dX1_firmness_6 : decode cX1_firmness 6 = .ok (.iload 5, 2) := by decide +kernel
theorem dX1_firmness_8 : decode cX1_firmness 8 = .ok (.invokespecial 7, 3) := by decide +kernel
theorem dX1_firmness_11 : decode cX1_firmness 11 = .ok (.iconst 2, 1) := by decide +kernel
theorem dX1_firmness_12 : decode cX1_firmness 12 = .ok (.idiv, 1) := by decide +kernel
theorem dX1_firmness_13 : decode cX1_firmness 13 = .ok (.ireturn, 1) := by decide +kernel
theorem dX1_tells_0 : decode cX1_tells 0 = .ok (.aload_n 1, 1) := by decide +kernel
theorem dX1_tells_1 : decode cX1_tells 1 = .ok (.bipush 40, 2) := by decide +kernel
theorem dX1_tells_3 : decode cX1_tells 3 = .ok (.invokevirtual 11, 3) := by decide +kernel
theorem dX1_tells_6 : decode cX1_tells 6 = .ok (.aload_n 0, 1) := by decide +kernel
theorem dX1_tells_7 : decode cX1_tells 7 = .ok (.aload_n 1, 1) := by decide +kernel
theorem dX1_tells_8 : decode cX1_tells 8 = .ok (.iload_n 2, 1) := by decide +kernel
theorem dX1_tells_9 : decode cX1_tells 9 = .ok (.invokespecial 17, 3) := by decide +kernel
theorem dX1_tells_12 : decode cX1_tells 12 = .ok (.aload_n 0, 1) := by decide +kernel
theorem dX1_tells_13 : decode cX1_tells 13 = .ok (.aload_n 1, 1) := by decide +kernel
theorem dX1_tells_14 : decode cX1_tells 14 = .ok (.iconst 1, 1) := by decide +kernel
theorem dX1_tells_15 : decode cX1_tells 15 = .ok (.invokevirtual 21, 3) := by decide +kernel
theorem dX1_tells_18 : decode cX1_tells 18 = .ok (.iadd, 1) := by decide +kernel
theorem dX1_tells_19 : decode cX1_tells 19 = .ok (.ireturn, 1) := by decide +kernel
theorem dX2_init_0 : decode cX2_init 0 = .ok (.aload_n 0, 1) := by decide +kernel
theorem dX2_init_1 : decode cX2_init 1 = .ok (.invokespecial 1, 3) := by decide +kernel
theorem dX2_init_4 : decode cX2_init 4 = .ok (.return_, 1) := by decide +kernel
theorem dX2_firmness_0 : decode cX2_firmness 0 = .ok (.aload_n 0, 1) := by decide +kernel
theorem dX2_firmness_1 : decode cX2_firmness 1 = .ok (.iload_n 1, 1) := by decide +kernel
theorem dX2_firmness_2 : decode cX2_firmness 2 = .ok (.iload_n 2, 1) := by decide +kernel
theorem dX2_firmness_3 : decode cX2_firmness 3 = .ok (.iload_n 3, 1) := by decide +kernel
theorem dX2_firmness_4 : decode cX2_firmness 4 = .ok (.iload 4, 2) := by decide +kernel
theorem dX2_firmness_6 : decode cX2_firmness 6 = .ok (.iload 5, 2) := by decide +kernel
theorem dX2_firmness_8 : decode cX2_firmness 8 = .ok (.invokespecial 7, 3) := by decide +kernel
theorem dX2_firmness_11 : decode cX2_firmness 11 = .ok (.iload 4, 2) := by decide +kernel
theorem dX2_firmness_13 : decode cX2_firmness 13 = .ok (.iconst 3, 1) := by decide +kernel
theorem dX2_firmness_14 : decode cX2_firmness 14 = .ok (.irem, 1) := by decide +kernel
theorem dX2_firmness_15 : decode cX2_firmness 15 = .ok (.iadd, 1) := by decide +kernel
theorem dX2_firmness_16 : decode cX2_firmness 16 = .ok (.ireturn, 1) := by decide +kernel
theorem dX2_tells_0 : decode cX2_tells 0 = .ok (.aload_n 1, 1) := by decide +kernel
theorem dX2_tells_1 : decode cX2_tells 1 = .ok (.bipush 60, 2) := by decide +kernel
theorem dX2_tells_3 : decode cX2_tells 3 = .ok (.invokevirtual 11, 3) := by decide +kernel
theorem dX2_tells_6 : decode cX2_tells 6 = .ok (.aload_n 0, 1) := by decide +kernel
theorem dX2_tells_7 : decode cX2_tells 7 = .ok (.aload_n 1, 1) := by decide +kernel
theorem dX2_tells_8 : decode cX2_tells 8 = .ok (.iload_n 2, 1) := by decide +kernel
theorem dX2_tells_9 : decode cX2_tells 9 = .ok (.aload_n 1, 1) := by decide +kernel
theorem dX2_tells_10 : decode cX2_tells 10 = .ok (.getfield 17, 3) := by decide +kernel
theorem dX2_tells_13 : decode cX2_tells 13 = .ok (.isub, 1) := by decide +kernel
theorem dX2_tells_14 : decode cX2_tells 14 = .ok (.invokespecial 21, 3) := by decide +kernel
theorem dX2_tells_17 : decode cX2_tells 17 = .ok (.ireturn, 1) := by decide +kernel
theorem dX3_init_0 : decode cX3_init 0 = .ok (.aload_n 0, 1) := by decide +kernel
theorem dX3_init_1 : decode cX3_init 1 = .ok (.invokespecial 1, 3) := by decide +kernel
theorem dX3_init_4 : decode cX3_init 4 = .ok (.return_, 1) := by decide +kernel
theorem dX3_firmness_0 : decode cX3_firmness 0 = .ok (.iload_n 3, 1) := by decide +kernel
theorem dX3_firmness_1 : decode cX3_firmness 1 = .ok (.iconst 2, 1) := by decide +kernel
theorem dX3_firmness_2 : decode cX3_firmness 2 = .ok (.irem, 1) := by decide +kernel
theorem dX3_firmness_3 : decode cX3_firmness 3 = .ok (.ifCond .eq 7, 3) := by decide +kernel
theorem dX3_firmness_6 : decode cX3_firmness 6 = .ok (.iconst 0, 1) := by decide +kernel
theorem dX3_firmness_7 : decode cX3_firmness 7 = .ok (.goto 14, 3) := by decide +kernel
theorem dX3_firmness_10 : decode cX3_firmness 10 = .ok (.aload_n 0, 1) := by decide +kernel
theorem dX3_firmness_11 : decode cX3_firmness 11 = .ok (.iload_n 1, 1) := by decide +kernel
theorem dX3_firmness_12 : decode cX3_firmness 12 = .ok (.iload_n 2, 1) := by decide +kernel
theorem dX3_firmness_13 : decode cX3_firmness 13 = .ok (.iload_n 3, 1) := by decide +kernel
theorem dX3_firmness_14 : decode cX3_firmness 14 = .ok (.iload 4, 2) := by decide +kernel
theorem dX3_firmness_16 : decode cX3_firmness 16 = .ok (.iload 5, 2) := by decide +kernel
theorem dX3_firmness_18 : decode cX3_firmness 18 = .ok (.invokespecial 7, 3) := by decide +kernel
theorem dX3_firmness_21 : decode cX3_firmness 21 = .ok (.ireturn, 1) := by decide +kernel
theorem dX3_dines_0 : decode cX3_dines 0 = .ok (.aload_n 1, 1) := by decide +kernel
theorem dX3_dines_1 : decode cX3_dines 1 = .ok (.bipush 30, 2) := by decide +kernel
theorem dX3_dines_3 : decode cX3_dines 3 = .ok (.invokevirtual 11, 3) := by decide +kernel
theorem dX3_dines_6 : decode cX3_dines 6 = .ok (.aload_n 0, 1) := by decide +kernel
theorem dX3_dines_7 : decode cX3_dines 7 = .ok (.aload_n 1, 1) := by decide +kernel
theorem dX3_dines_8 : decode cX3_dines 8 = .ok (.iload_n 2, 1) := by decide +kernel
theorem dX3_dines_9 : decode cX3_dines 9 = .ok (.iconst 3, 1) := by decide +kernel
theorem dX3_dines_10 : decode cX3_dines 10 = .ok (.imul, 1) := by decide +kernel
theorem dX3_dines_11 : decode cX3_dines 11 = .ok (.invokespecial 17, 3) := by decide +kernel
theorem dX3_dines_14 : decode cX3_dines 14 = .ok (.ireturn, 1) := by decide +kernel
theorem dX4_init_0 : decode cX4_init 0 = .ok (.aload_n 0, 1) := by decide +kernel
theorem dX4_init_1 : decode cX4_init 1 = .ok (.invokespecial 1, 3) := by decide +kernel
theorem dX4_init_4 : decode cX4_init 4 = .ok (.return_, 1) := by decide +kernel
theorem dX4_firmness_0 : decode cX4_firmness 0 = .ok (.aload_n 0, 1) := by decide +kernel
theorem dX4_firmness_1 : decode cX4_firmness 1 = .ok (.iload_n 1, 1) := by decide +kernel
theorem dX4_firmness_2 : decode cX4_firmness 2 = .ok (.iload_n 2, 1) := by decide +kernel
theorem dX4_firmness_3 : decode cX4_firmness 3 = .ok (.iload_n 3, 1) := by decide +kernel
theorem dX4_firmness_4 : decode cX4_firmness 4 = .ok (.iload 4, 2) := by decide +kernel
theorem dX4_firmness_6 : decode cX4_firmness 6 = .ok (.iload 5, 2) := by decide +kernel
theorem dX4_firmness_8 : decode cX4_firmness 8 = .ok (.invokespecial 7, 3) := by decide +kernel
theorem dX4_firmness_11 : decode cX4_firmness 11 = .ok (.iload_n 2, 1) := by decide +kernel
theorem dX4_firmness_12 : decode cX4_firmness 12 = .ok (.iload 4, 2) := by decide +kernel
theorem dX4_firmness_14 : decode cX4_firmness 14 = .ok (.if_icmp .ge 7, 3) := by decide +kernel
theorem dX4_firmness_17 : decode cX4_firmness 17 = .ok (.iconst 2, 1) := by decide +kernel
theorem dX4_firmness_18 : decode cX4_firmness 18 = .ok (.goto 4, 3) := by decide +kernel
theorem dX4_firmness_21 : decode cX4_firmness 21 = .ok (.iconst 0, 1) := by decide +kernel
theorem dX4_firmness_22 : decode cX4_firmness 22 = .ok (.iadd, 1) := by decide +kernel
theorem dX4_firmness_23 : decode cX4_firmness 23 = .ok (.ireturn, 1) := by decide +kernel
theorem dX4_nods_0 : decode cX4_nods 0 = .ok (.aload_n 1, 1) := by decide +kernel
theorem dX4_nods_1 : decode cX4_nods 1 = .ok (.bipush 20, 2) := by decide +kernel
theorem dX4_nods_3 : decode cX4_nods 3 = .ok (.invokevirtual 11, 3) := by decide +kernel
theorem dX4_nods_6 : decode cX4_nods 6 = .ok (.aload_n 0, 1) := by decide +kernel
theorem dX4_nods_7 : decode cX4_nods 7 = .ok (.aload_n 1, 1) := by decide +kernel
theorem dX4_nods_8 : decode cX4_nods 8 = .ok (.iload_n 2, 1) := by decide +kernel
theorem dX4_nods_9 : decode cX4_nods 9 = .ok (.invokespecial 17, 3) := by decide +kernel
theorem dX4_nods_12 : decode cX4_nods 12 = .ok (.bipush 6, 2) := by decide +kernel
theorem dX4_nods_14 : decode cX4_nods 14 = .ok (.ixor, 1) := by decide +kernel
theorem dX4_nods_15 : decode cX4_nods 15 = .ok (.ireturn, 1) := by decide +kernel
theorem dX5_init_0 : decode cX5_init 0 = .ok (.aload_n 0, 1) := by decide +kernel
theorem dX5_init_1 : decode cX5_init 1 = .ok (.invokespecial 5, 3) := by decide +kernel
theorem dX5_init_4 : decode cX5_init 4 = .ok (.aload_n 0, 1) := by decide +kernel
theorem dX5_init_5 : decode cX5_init 5 = .ok (.bipush 6, 2) := by decide +kernel
theorem dX5_init_7 : decode cX5_init 7 = .ok (.putfield 11, 3) := by decide +kernel
theorem dX5_init_10 : decode cX5_init 10 = .ok (.aload_n 0, 1) := by decide +kernel
theorem dX5_init_11 : decode cX5_init 11 = .ok (.bipush 100, 2) := by decide +kernel
theorem dX5_init_13 : decode cX5_init 13 = .ok (.newarray .int, 2) := by decide +kernel
theorem dX5_init_15 : decode cX5_init 15 = .ok (.putfield 15, 3) := by decide +kernel
theorem dX5_init_18 : decode cX5_init 18 = .ok (.aload_n 0, 1) := by decide +kernel
theorem dX5_init_19 : decode cX5_init 19 = .ok (.iconst 0, 1) := by decide +kernel
theorem dX5_init_20 : decode cX5_init 20 = .ok (.putfield 19, 3) := by decide +kernel
theorem dX5_init_23 : decode cX5_init 23 = .ok (.aload_n 0, 1) := by decide +kernel
theorem dX5_init_24 : decode cX5_init 24 = .ok (.bipush 11, 2) := by decide +kernel
theorem dX5_init_26 : decode cX5_init 26 = .ok (.newarray .int, 2) := by decide +kernel
theorem dX5_init_28 : decode cX5_init 28 = .ok (.putfield 22, 3) := by decide +kernel
theorem dX5_init_31 : decode cX5_init 31 = .ok (.aload_n 0, 1) := by decide +kernel
theorem dX5_init_32 : decode cX5_init 32 = .ok (.iconst 0, 1) := by decide +kernel
theorem dX5_init_33 : decode cX5_init 33 = .ok (.putfield 25, 3) := by decide +kernel
theorem dX5_init_36 : decode cX5_init 36 = .ok (.aload_n 0, 1) := by decide +kernel
theorem dX5_init_37 : decode cX5_init 37 = .ok (.iconst 0, 1) := by decide +kernel
theorem dX5_init_38 : decode cX5_init 38 = .ok (.newarray .byte, 2) := by decide +kernel
theorem dX5_init_40 : decode cX5_init 40 = .ok (.putfield 28, 3) := by decide +kernel
theorem dX5_init_43 : decode cX5_init 43 = .ok (.aload_n 0, 1) := by decide +kernel
theorem dX5_init_44 : decode cX5_init 44 = .ok (.iconst 0, 1) := by decide +kernel
theorem dX5_init_45 : decode cX5_init 45 = .ok (.putfield 32, 3) := by decide +kernel
theorem dX5_init_48 : decode cX5_init 48 = .ok (.aload_n 0, 1) := by decide +kernel
theorem dX5_init_49 : decode cX5_init 49 = .ok (.iconst 0, 1) := by decide +kernel
theorem dX5_init_50 : decode cX5_init 50 = .ok (.putfield 35, 3) := by decide +kernel
theorem dX5_init_53 : decode cX5_init 53 = .ok (.aload_n 0, 1) := by decide +kernel
theorem dX5_init_54 : decode cX5_init 54 = .ok (.iconst 0, 1) := by decide +kernel
theorem dX5_init_55 : decode cX5_init 55 = .ok (.putfield 38, 3) := by decide +kernel
theorem dX5_init_58 : decode cX5_init 58 = .ok (.return_, 1) := by decide +kernel
theorem dX5_learn_0 : decode cX5_learn 0 = .ok (.aload_n 0, 1) := by decide +kernel
theorem dX5_learn_1 : decode cX5_learn 1 = .ok (.aload_n 1, 1) := by decide +kernel
theorem dX5_learn_2 : decode cX5_learn 2 = .ok (.putfield 28, 3) := by decide +kernel
theorem dX5_learn_5 : decode cX5_learn 5 = .ok (.aload_n 0, 1) := by decide +kernel
theorem dX5_learn_6 : decode cX5_learn 6 = .ok (.iload_n 2, 1) := by decide +kernel
theorem dX5_learn_7 : decode cX5_learn 7 = .ok (.aload_n 1, 1) := by decide +kernel
theorem dX5_learn_8 : decode cX5_learn 8 = .ok (.arraylength, 1) := by decide +kernel
theorem dX5_learn_9 : decode cX5_learn 9 = .ok (.invokestatic 41, 3) := by decide +kernel
theorem dX5_learn_12 : decode cX5_learn 12 = .ok (.putfield 32, 3) := by decide +kernel
theorem dX5_learn_15 : decode cX5_learn 15 = .ok (.aload_n 0, 1) := by decide +kernel
theorem dX5_learn_16 : decode cX5_learn 16 = .ok (.iconst 0, 1) := by decide +kernel
theorem dX5_learn_17 : decode cX5_learn 17 = .ok (.putfield 35, 3) := by decide +kernel
theorem dX5_learn_20 : decode cX5_learn 20 = .ok (.aload_n 0, 1) := by decide +kernel
theorem dX5_learn_21 : decode cX5_learn 21 = .ok (.iconst 0, 1) := by decide +kernel
theorem dX5_learn_22 : decode cX5_learn 22 = .ok (.putfield 19, 3) := by decide +kernel
theorem dX5_learn_25 : decode cX5_learn 25 = .ok (.aload_n 0, 1) := by decide +kernel
theorem dX5_learn_26 : decode cX5_learn 26 = .ok (.bipush 6, 2) := by decide +kernel
theorem dX5_learn_28 : decode cX5_learn 28 = .ok (.putfield 11, 3) := by decide +kernel
theorem dX5_learn_31 : decode cX5_learn 31 = .ok (.aload_n 0, 1) := by decide +kernel
theorem dX5_learn_32 : decode cX5_learn 32 = .ok (.invokevirtual 47, 3) := by decide +kernel
theorem dX5_learn_35 : decode cX5_learn 35 = .ok (.istore_n 3, 1) := by decide +kernel
theorem dX5_learn_36 : decode cX5_learn 36 = .ok (.iconst 1, 1) := by decide +kernel
theorem dX5_learn_37 : decode cX5_learn 37 = .ok (.istore 4, 2) := by decide +kernel
theorem dX5_learn_39 : decode cX5_learn 39 = .ok (.iload 4, 2) := by decide +kernel
theorem dX5_learn_41 : decode cX5_learn 41 = .ok (.bipush 10, 2) := by decide +kernel
theorem dX5_learn_43 : decode cX5_learn 43 = .ok (.if_icmp .ge 37, 3) := by decide +kernel
theorem dX5_learn_46 : decode cX5_learn 46 = .ok (.iload_n 3, 1) := by decide +kernel
theorem dX5_learn_47 : decode cX5_learn 47 = .ok (.ifCond .eq 33, 3) := by decide +kernel
theorem dX5_learn_50 : decode cX5_learn 50 = .ok (.aload_n 0, 1) := by decide +kernel
theorem dX5_learn_51 : decode cX5_learn 51 = .ok (.invokevirtual 51, 3) := by decide +kernel
theorem dX5_learn_54 : decode cX5_learn 54 = .ok (.bipush 59, 2) := by decide +kernel
theorem dX5_learn_56 : decode cX5_learn 56 = .ok (.if_icmp .ne 24, 3) := by decide +kernel
theorem dX5_learn_59 : decode cX5_learn 59 = .ok (.aload_n 0, 1) := by decide +kernel
theorem dX5_learn_60 : decode cX5_learn 60 = .ok (.dup, 1) := by decide +kernel
theorem dX5_learn_61 : decode cX5_learn 61 = .ok (.getfield 35, 3) := by decide +kernel
theorem dX5_learn_64 : decode cX5_learn 64 = .ok (.iconst 1, 1) := by decide +kernel
theorem dX5_learn_65 : decode cX5_learn 65 = .ok (.iadd, 1) := by decide +kernel
theorem dX5_learn_66 : decode cX5_learn 66 = .ok (.putfield 35, 3) := by decide +kernel
theorem dX5_learn_69 : decode cX5_learn 69 = .ok (.aload_n 0, 1) := by decide +kernel
theorem dX5_learn_70 : decode cX5_learn 70 = .ok (.invokevirtual 47, 3) := by decide +kernel
theorem dX5_learn_73 : decode cX5_learn 73 = .ok (.istore_n 3, 1) := by decide +kernel
theorem dX5_learn_74 : decode cX5_learn 74 = .ok (.iinc 4 1, 3) := by decide +kernel
theorem dX5_learn_77 : decode cX5_learn 77 = .ok (.goto (-38), 3) := by decide +kernel
theorem dX5_learn_80 : decode cX5_learn 80 = .ok (.iload_n 3, 1) := by decide +kernel
theorem dX5_learn_81 : decode cX5_learn 81 = .ok (.ifCond .eq 18, 3) := by decide +kernel
theorem dX5_learn_84 : decode cX5_learn 84 = .ok (.aload_n 0, 1) := by decide +kernel
theorem dX5_learn_85 : decode cX5_learn 85 = .ok (.getfield 35, 3) := by decide +kernel
theorem dX5_learn_88 : decode cX5_learn 88 = .ok (.aload_n 0, 1) := by decide +kernel
theorem dX5_learn_89 : decode cX5_learn 89 = .ok (.getfield 32, 3) := by decide +kernel
theorem dX5_learn_92 : decode cX5_learn 92 = .ok (.if_icmp .ne 7, 3) := by decide +kernel
theorem dX5_learn_95 : decode cX5_learn 95 = .ok (.iconst (-1), 1) := by decide +kernel
theorem dX5_learn_96 : decode cX5_learn 96 = .ok (.goto 7, 3) := by decide +kernel
theorem dX5_learn_99 : decode cX5_learn 99 = .ok (.aload_n 0, 1) := by decide +kernel
theorem dX5_learn_100 : decode cX5_learn 100 = .ok (.getfield 35, 3) := by decide +kernel
theorem dX5_learn_103 : decode cX5_learn 103 = .ok (.ireturn, 1) := by decide +kernel
theorem dX5_sign_0 : decode cX5_sign 0 = .ok (.aload_n 0, 1) := by decide +kernel
theorem dX5_sign_1 : decode cX5_sign 1 = .ok (.getfield 35, 3) := by decide +kernel
theorem dX5_sign_4 : decode cX5_sign 4 = .ok (.ifCond .lt 26, 3) := by decide +kernel
theorem dX5_sign_7 : decode cX5_sign 7 = .ok (.aload_n 0, 1) := by decide +kernel
theorem dX5_sign_8 : decode cX5_sign 8 = .ok (.getfield 35, 3) := by decide +kernel
theorem dX5_sign_11 : decode cX5_sign 11 = .ok (.aload_n 0, 1) := by decide +kernel
theorem dX5_sign_12 : decode cX5_sign 12 = .ok (.getfield 32, 3) := by decide +kernel
theorem dX5_sign_15 : decode cX5_sign 15 = .ok (.if_icmp .ge 15, 3) := by decide +kernel
theorem dX5_sign_18 : decode cX5_sign 18 = .ok (.aload_n 0, 1) := by decide +kernel
theorem dX5_sign_19 : decode cX5_sign 19 = .ok (.getfield 28, 3) := by decide +kernel
theorem dX5_sign_22 : decode cX5_sign 22 = .ok (.aload_n 0, 1) := by decide +kernel
theorem dX5_sign_23 : decode cX5_sign 23 = .ok (.getfield 35, 3) := by decide +kernel
theorem dX5_sign_26 : decode cX5_sign 26 = .ok (.baload, 1) := by decide +kernel
theorem dX5_sign_27 : decode cX5_sign 27 = .ok (.goto 4, 3) := by decide +kernel
theorem dX5_sign_30 : decode cX5_sign 30 = .ok (.iconst (-1), 1) := by decide +kernel
theorem dX5_sign_31 : decode cX5_sign 31 = .ok (.ireturn, 1) := by decide +kernel
theorem dX5_takeWord_0 : decode cX5_takeWord 0 = .ok (.iconst 0, 1) := by decide +kernel
theorem dX5_takeWord_1 : decode cX5_takeWord 1 = .ok (.istore_n 2, 1) := by decide +kernel
theorem dX5_takeWord_2 : decode cX5_takeWord 2 = .ok (.iload_n 2, 1) := by decide +kernel
theorem dX5_takeWord_3 : decode cX5_takeWord 3 = .ok (.aload_n 1, 1) := by decide +kernel
theorem dX5_takeWord_4 : decode cX5_takeWord 4 = .ok (.invokevirtual 55, 3) := by decide +kernel
theorem dX5_takeWord_7 : decode cX5_takeWord 7 = .ok (.if_icmp .ge 33, 3) := by decide +kernel
theorem dX5_takeWord_10 : decode cX5_takeWord 10 = .ok (.aload_n 0, 1) := by decide +kernel
theorem dX5_takeWord_11 : decode cX5_takeWord 11 = .ok (.invokevirtual 51, 3) := by decide +kernel
theorem dX5_takeWord_14 : decode cX5_takeWord 14 = .ok (.aload_n 1, 1) := by decide +kernel
theorem dX5_takeWord_15 : decode cX5_takeWord 15 = .ok (.iload_n 2, 1) := by decide +kernel
theorem dX5_takeWord_16 : decode cX5_takeWord 16 = .ok (.invokevirtual 59, 3) := by decide +kernel
theorem dX5_takeWord_19 : decode cX5_takeWord 19 = .ok (.if_icmp .eq 5, 3) := by decide +kernel
theorem dX5_takeWord_22 : decode cX5_takeWord 22 = .ok (.iconst 0, 1) := by decide +kernel
theorem dX5_takeWord_23 : decode cX5_takeWord 23 = .ok (.ireturn, 1) := by decide +kernel
theorem dX5_takeWord_24 : decode cX5_takeWord 24 = .ok (.aload_n 0, 1) := by decide +kernel
theorem dX5_takeWord_25 : decode cX5_takeWord 25 = .ok (.dup, 1) := by decide +kernel
theorem dX5_takeWord_26 : decode cX5_takeWord 26 = .ok (.getfield 35, 3) := by decide +kernel
theorem dX5_takeWord_29 : decode cX5_takeWord 29 = .ok (.iconst 1, 1) := by decide +kernel
theorem dX5_takeWord_30 : decode cX5_takeWord 30 = .ok (.iadd, 1) := by decide +kernel
theorem dX5_takeWord_31 : decode cX5_takeWord 31 = .ok (.putfield 35, 3) := by decide +kernel
theorem dX5_takeWord_34 : decode cX5_takeWord 34 = .ok (.iinc 2 1, 3) := by decide +kernel
theorem dX5_takeWord_37 : decode cX5_takeWord 37 = .ok (.goto (-35), 3) := by decide +kernel
theorem dX5_takeWord_40 : decode cX5_takeWord 40 = .ok (.iconst 1, 1) := by decide +kernel
theorem dX5_takeWord_41 : decode cX5_takeWord 41 = .ok (.ireturn, 1) := by decide +kernel
theorem dX5_takeClause_0 : decode cX5_takeClause 0 = .ok (.aload_n 0, 1) := by decide +kernel
theorem dX5_takeClause_1 : decode cX5_takeClause 1 = .ok (.invokevirtual 51, 3) := by decide +kernel
theorem dX5_takeClause_4 : decode cX5_takeClause 4 = .ok (.bipush 104, 2) := by decide +kernel
theorem dX5_takeClause_6 : decode cX5_takeClause 6 = .ok (.if_icmp .ne 46, 3) := by decide +kernel
theorem dX5_takeClause_9 : decode cX5_takeClause 9 = .ok (.aload_n 0, 1) := by decide +kernel
theorem dX5_takeClause_10 : decode cX5_takeClause 10 = .ok (.ldc 63, 2) := by decide +kernel
theorem dX5_takeClause_12 : decode cX5_takeClause 12 = .ok (.invokevirtual 65, 3) := by decide +kernel
theorem dX5_takeClause_15 : decode cX5_takeClause 15 = .ok (.ifCond .eq 14, 3) := by decide +kernel
theorem dX5_takeClause_18 : decode cX5_takeClause 18 = .ok (.aload_n 0, 1) := by decide +kernel
theorem dX5_takeClause_19 : decode cX5_takeClause 19 = .ok (.invokevirtual 69, 3) := by decide +kernel
theorem dX5_takeClause_22 : decode cX5_takeClause 22 = .ok (.ifCond .eq 7, 3) := by decide +kernel
theorem dX5_takeClause_25 : decode cX5_takeClause 25 = .ok (.iconst 1, 1) := by decide +kernel
theorem dX5_takeClause_26 : decode cX5_takeClause 26 = .ok (.goto 4, 3) := by decide +kernel
theorem dX5_takeClause_29 : decode cX5_takeClause 29 = .ok (.iconst 0, 1) := by decide +kernel
theorem dX5_takeClause_30 : decode cX5_takeClause 30 = .ok (.istore_n 1, 1) := by decide +kernel
theorem dX5_takeClause_31 : decode cX5_takeClause 31 = .ok (.aload_n 0, 1) := by decide +kernel
theorem dX5_takeClause_32 : decode cX5_takeClause 32 = .ok (.iload_n 1, 1) := by decide +kernel
theorem dX5_takeClause_33 : decode cX5_takeClause 33 = .ok (.ifCond .eq 10, 3) := by decide +kernel
theorem dX5_takeClause_36 : decode cX5_takeClause 36 = .ok (.aload_n 0, 1) := by decide +kernel
theorem dX5_takeClause_37 : decode cX5_takeClause 37 = .ok (.getfield 38, 3) := by decide +kernel
theorem dX5_takeClause_40 : decode cX5_takeClause 40 = .ok (.goto 7, 3) := by decide +kernel
theorem dX5_takeClause_43 : decode cX5_takeClause 43 = .ok (.aload_n 0, 1) := by decide +kernel
theorem dX5_takeClause_44 : decode cX5_takeClause 44 = .ok (.getfield 11, 3) := by decide +kernel
theorem dX5_takeClause_47 : decode cX5_takeClause 47 = .ok (.putfield 11, 3) := by decide +kernel
theorem dX5_takeClause_50 : decode cX5_takeClause 50 = .ok (.iload_n 1, 1) := by decide +kernel
theorem dX5_takeClause_51 : decode cX5_takeClause 51 = .ok (.ireturn, 1) := by decide +kernel
theorem dX5_takeClause_52 : decode cX5_takeClause 52 = .ok (.aload_n 0, 1) := by decide +kernel
theorem dX5_takeClause_53 : decode cX5_takeClause 53 = .ok (.invokevirtual 51, 3) := by decide +kernel
theorem dX5_takeClause_56 : decode cX5_takeClause 56 = .ok (.bipush 107, 2) := by decide +kernel
theorem dX5_takeClause_58 : decode cX5_takeClause 58 = .ok (.if_icmp .ne 7, 3) := by decide +kernel
theorem dX5_takeClause_61 : decode cX5_takeClause 61 = .ok (.iconst 1, 1) := by decide +kernel
theorem dX5_takeClause_62 : decode cX5_takeClause 62 = .ok (.goto 4, 3) := by decide +kernel
theorem dX5_takeClause_65 : decode cX5_takeClause 65 = .ok (.iconst 0, 1) := by decide +kernel
theorem dX5_takeClause_66 : decode cX5_takeClause 66 = .ok (.istore_n 1, 1) := by decide +kernel
theorem dX5_takeClause_67 : decode cX5_takeClause 67 = .ok (.aload_n 0, 1) := by decide +kernel
theorem dX5_takeClause_68 : decode cX5_takeClause 68 = .ok (.iload_n 1, 1) := by decide +kernel
theorem dX5_takeClause_69 : decode cX5_takeClause 69 = .ok (.ifCond .eq 8, 3) := by decide +kernel
theorem dX5_takeClause_72 : decode cX5_takeClause 72 = .ok (.ldc 72, 2) := by decide +kernel
theorem dX5_takeClause_74 : decode cX5_takeClause 74 = .ok (.goto 5, 3) := by decide +kernel
theorem dX5_takeClause_77 : decode cX5_takeClause 77 = .ok (.ldc 74, 2) := by decide +kernel
theorem dX5_takeClause_79 : decode cX5_takeClause 79 = .ok (.invokevirtual 65, 3) := by decide +kernel
theorem dX5_takeClause_82 : decode cX5_takeClause 82 = .ok (.ifCond .eq 10, 3) := by decide +kernel
theorem dX5_takeClause_85 : decode cX5_takeClause 85 = .ok (.aload_n 0, 1) := by decide +kernel
theorem dX5_takeClause_86 : decode cX5_takeClause 86 = .ok (.invokevirtual 69, 3) := by decide +kernel
theorem dX5_takeClause_89 : decode cX5_takeClause 89 = .ok (.ifCond .ne 5, 3) := by decide +kernel
theorem dX5_takeClause_92 : decode cX5_takeClause 92 = .ok (.iconst 0, 1) := by decide +kernel
theorem dX5_takeClause_93 : decode cX5_takeClause 93 = .ok (.ireturn, 1) := by decide +kernel
theorem dX5_takeClause_94 : decode cX5_takeClause 94 = .ok (.aload_n 0, 1) := by decide +kernel
theorem dX5_takeClause_95 : decode cX5_takeClause 95 = .ok (.getfield 38, 3) := by decide +kernel
theorem dX5_takeClause_98 : decode cX5_takeClause 98 = .ok (.istore_n 2, 1) := by decide +kernel
theorem dX5_takeClause_99 : decode cX5_takeClause 99 = .ok (.aload_n 0, 1) := by decide +kernel
theorem dX5_takeClause_100 : decode cX5_takeClause 100 = .ok (.ldc 76, 2) := by decide +kernel
theorem dX5_takeClause_102 : decode cX5_takeClause 102 = .ok (.invokevirtual 65, 3) := by decide +kernel
theorem dX5_takeClause_105 : decode cX5_takeClause 105 = .ok (.ifCond .eq 34, 3) := by decide +kernel
theorem dX5_takeClause_108 : decode cX5_takeClause 108 = .ok (.aload_n 0, 1) := by decide +kernel
theorem dX5_takeClause_109 : decode cX5_takeClause 109 = .ok (.iconst 0, 1) := by decide +kernel
theorem dX5_takeClause_110 : decode cX5_takeClause 110 = .ok (.invokevirtual 78, 3) := by decide +kernel
theorem dX5_takeClause_113 : decode cX5_takeClause 113 = .ok (.ifCond .eq 26, 3) := by decide +kernel
theorem dX5_takeClause_116 : decode cX5_takeClause 116 = .ok (.aload_n 0, 1) := by decide +kernel
theorem dX5_takeClause_117 : decode cX5_takeClause 117 = .ok (.iload_n 1, 1) := by decide +kernel
theorem dX5_takeClause_118 : decode cX5_takeClause 118 = .ok (.ifCond .eq 8, 3) := by decide +kernel
theorem dX5_takeClause_121 : decode cX5_takeClause 121 = .ok (.bipush 22, 2) := by decide +kernel
theorem dX5_takeClause_123 : decode cX5_takeClause 123 = .ok (.goto 5, 3) := by decide +kernel
theorem dX5_takeClause_126 : decode cX5_takeClause 126 = .ok (.bipush 23, 2) := by decide +kernel
theorem dX5_takeClause_128 : decode cX5_takeClause 128 = .ok (.iload_n 2, 1) := by decide +kernel
theorem dX5_takeClause_129 : decode cX5_takeClause 129 = .ok (.invokevirtual 82, 3) := by decide +kernel
theorem dX5_takeClause_132 : decode cX5_takeClause 132 = .ok (.ifCond .eq 7, 3) := by decide +kernel
theorem dX5_takeClause_135 : decode cX5_takeClause 135 = .ok (.iconst 1, 1) := by decide +kernel
theorem dX5_takeClause_136 : decode cX5_takeClause 136 = .ok (.goto 4, 3) := by decide +kernel
theorem dX5_takeClause_139 : decode cX5_takeClause 139 = .ok (.iconst 0, 1) := by decide +kernel
theorem dX5_takeClause_140 : decode cX5_takeClause 140 = .ok (.ireturn, 1) := by decide +kernel
theorem dX5_takeEither_0 : decode cX5_takeEither 0 = .ok (.aload_n 0, 1) := by decide +kernel
theorem dX5_takeEither_1 : decode cX5_takeEither 1 = .ok (.iload_n 1, 1) := by decide +kernel
theorem dX5_takeEither_2 : decode cX5_takeEither 2 = .ok (.invokevirtual 86, 3) := by decide +kernel
theorem dX5_takeEither_5 : decode cX5_takeEither 5 = .ok (.istore_n 2, 1) := by decide +kernel
theorem dX5_takeEither_6 : decode cX5_takeEither 6 = .ok (.iconst 0, 1) := by decide +kernel
theorem dX5_takeEither_7 : decode cX5_takeEither 7 = .ok (.istore_n 3, 1) := by decide +kernel
theorem dX5_takeEither_8 : decode cX5_takeEither 8 = .ok (.iload_n 3, 1) := by decide +kernel
theorem dX5_takeEither_9 : decode cX5_takeEither 9 = .ok (.bipush 100, 2) := by decide +kernel
theorem dX5_takeEither_11 : decode cX5_takeEither 11 = .ok (.if_icmp .ge 56, 3) := by decide +kernel
theorem dX5_takeEither_14 : decode cX5_takeEither 14 = .ok (.iload_n 2, 1) := by decide +kernel
theorem dX5_takeEither_15 : decode cX5_takeEither 15 = .ok (.ifCond .eq 52, 3) := by decide +kernel
theorem dX5_takeEither_18 : decode cX5_takeEither 18 = .ok (.aload_n 0, 1) := by decide +kernel
theorem dX5_takeEither_19 : decode cX5_takeEither 19 = .ok (.invokevirtual 51, 3) := by decide +kernel
theorem dX5_takeEither_22 : decode cX5_takeEither 22 = .ok (.bipush 124, 2) := by decide +kernel
theorem dX5_takeEither_24 : decode cX5_takeEither 24 = .ok (.if_icmp .ne 43, 3) := by decide +kernel
theorem dX5_takeEither_27 : decode cX5_takeEither 27 = .ok (.aload_n 0, 1) := by decide +kernel
theorem dX5_takeEither_28 : decode cX5_takeEither 28 = .ok (.dup, 1) := by decide +kernel
theorem dX5_takeEither_29 : decode cX5_takeEither 29 = .ok (.getfield 35, 3) := by decide +kernel
theorem dX5_takeEither_32 : decode cX5_takeEither 32 = .ok (.iconst 1, 1) := by decide +kernel
theorem dX5_takeEither_33 : decode cX5_takeEither 33 = .ok (.iadd, 1) := by decide +kernel
theorem dX5_takeEither_34 : decode cX5_takeEither 34 = .ok (.putfield 35, 3) := by decide +kernel
theorem dX5_takeEither_37 : decode cX5_takeEither 37 = .ok (.aload_n 0, 1) := by decide +kernel
theorem dX5_takeEither_38 : decode cX5_takeEither 38 = .ok (.iload_n 1, 1) := by decide +kernel
theorem dX5_takeEither_39 : decode cX5_takeEither 39 = .ok (.invokevirtual 86, 3) := by decide +kernel
theorem dX5_takeEither_42 : decode cX5_takeEither 42 = .ok (.ifCond .eq 17, 3) := by decide +kernel
theorem dX5_takeEither_45 : decode cX5_takeEither 45 = .ok (.aload_n 0, 1) := by decide +kernel
theorem dX5_takeEither_46 : decode cX5_takeEither 46 = .ok (.bipush 20, 2) := by decide +kernel
theorem dX5_takeEither_48 : decode cX5_takeEither 48 = .ok (.iconst 0, 1) := by decide +kernel
theorem dX5_takeEither_49 : decode cX5_takeEither 49 = .ok (.invokevirtual 82, 3) := by decide +kernel
theorem dX5_takeEither_52 : decode cX5_takeEither 52 = .ok (.ifCond .eq 7, 3) := by decide +kernel
theorem dX5_takeEither_55 : decode cX5_takeEither 55 = .ok (.iconst 1, 1) := by decide +kernel
theorem dX5_takeEither_56 : decode cX5_takeEither 56 = .ok (.goto 4, 3) := by decide +kernel
theorem dX5_takeEither_59 : decode cX5_takeEither 59 = .ok (.iconst 0, 1) := by decide +kernel
theorem dX5_takeEither_60 : decode cX5_takeEither 60 = .ok (.istore_n 2, 1) := by decide +kernel
theorem dX5_takeEither_61 : decode cX5_takeEither 61 = .ok (.iinc 3 1, 3) := by decide +kernel
theorem dX5_takeEither_64 : decode cX5_takeEither 64 = .ok (.goto (-56), 3) := by decide +kernel
theorem dX5_takeEither_67 : decode cX5_takeEither 67 = .ok (.iload_n 2, 1) := by decide +kernel
theorem dX5_takeEither_68 : decode cX5_takeEither 68 = .ok (.ireturn, 1) := by decide +kernel
theorem dX5_takeBoth_0 : decode cX5_takeBoth 0 = .ok (.aload_n 0, 1) := by decide +kernel
theorem dX5_takeBoth_1 : decode cX5_takeBoth 1 = .ok (.iload_n 1, 1) := by decide +kernel
theorem dX5_takeBoth_2 : decode cX5_takeBoth 2 = .ok (.invokevirtual 89, 3) := by decide +kernel
theorem dX5_takeBoth_5 : decode cX5_takeBoth 5 = .ok (.istore_n 2, 1) := by decide +kernel
theorem dX5_takeBoth_6 : decode cX5_takeBoth 6 = .ok (.iconst 0, 1) := by decide +kernel
theorem dX5_takeBoth_7 : decode cX5_takeBoth 7 = .ok (.istore_n 3, 1) := by decide +kernel
theorem dX5_takeBoth_8 : decode cX5_takeBoth 8 = .ok (.iload_n 3, 1) := by decide +kernel
theorem dX5_takeBoth_9 : decode cX5_takeBoth 9 = .ok (.bipush 100, 2) := by decide +kernel
theorem dX5_takeBoth_11 : decode cX5_takeBoth 11 = .ok (.if_icmp .ge 56, 3) := by decide +kernel
theorem dX5_takeBoth_14 : decode cX5_takeBoth 14 = .ok (.iload_n 2, 1) := by decide +kernel
theorem dX5_takeBoth_15 : decode cX5_takeBoth 15 = .ok (.ifCond .eq 52, 3) := by decide +kernel
theorem dX5_takeBoth_18 : decode cX5_takeBoth 18 = .ok (.aload_n 0, 1) := by decide +kernel
theorem dX5_takeBoth_19 : decode cX5_takeBoth 19 = .ok (.invokevirtual 51, 3) := by decide +kernel
theorem dX5_takeBoth_22 : decode cX5_takeBoth 22 = .ok (.bipush 38, 2) := by decide +kernel
theorem dX5_takeBoth_24 : decode cX5_takeBoth 24 = .ok (.if_icmp .ne 43, 3) := by decide +kernel
theorem dX5_takeBoth_27 : decode cX5_takeBoth 27 = .ok (.aload_n 0, 1) := by decide +kernel
theorem dX5_takeBoth_28 : decode cX5_takeBoth 28 = .ok (.dup, 1) := by decide +kernel
theorem dX5_takeBoth_29 : decode cX5_takeBoth 29 = .ok (.getfield 35, 3) := by decide +kernel
theorem dX5_takeBoth_32 : decode cX5_takeBoth 32 = .ok (.iconst 1, 1) := by decide +kernel
theorem dX5_takeBoth_33 : decode cX5_takeBoth 33 = .ok (.iadd, 1) := by decide +kernel
theorem dX5_takeBoth_34 : decode cX5_takeBoth 34 = .ok (.putfield 35, 3) := by decide +kernel
theorem dX5_takeBoth_37 : decode cX5_takeBoth 37 = .ok (.aload_n 0, 1) := by decide +kernel
theorem dX5_takeBoth_38 : decode cX5_takeBoth 38 = .ok (.iload_n 1, 1) := by decide +kernel
theorem dX5_takeBoth_39 : decode cX5_takeBoth 39 = .ok (.invokevirtual 89, 3) := by decide +kernel
theorem dX5_takeBoth_42 : decode cX5_takeBoth 42 = .ok (.ifCond .eq 17, 3) := by decide +kernel
theorem dX5_takeBoth_45 : decode cX5_takeBoth 45 = .ok (.aload_n 0, 1) := by decide +kernel
theorem dX5_takeBoth_46 : decode cX5_takeBoth 46 = .ok (.bipush 19, 2) := by decide +kernel
theorem dX5_takeBoth_48 : decode cX5_takeBoth 48 = .ok (.iconst 0, 1) := by decide +kernel
theorem dX5_takeBoth_49 : decode cX5_takeBoth 49 = .ok (.invokevirtual 82, 3) := by decide +kernel
theorem dX5_takeBoth_52 : decode cX5_takeBoth 52 = .ok (.ifCond .eq 7, 3) := by decide +kernel
theorem dX5_takeBoth_55 : decode cX5_takeBoth 55 = .ok (.iconst 1, 1) := by decide +kernel
theorem dX5_takeBoth_56 : decode cX5_takeBoth 56 = .ok (.goto 4, 3) := by decide +kernel
theorem dX5_takeBoth_59 : decode cX5_takeBoth 59 = .ok (.iconst 0, 1) := by decide +kernel
theorem dX5_takeBoth_60 : decode cX5_takeBoth 60 = .ok (.istore_n 2, 1) := by decide +kernel
theorem dX5_takeBoth_61 : decode cX5_takeBoth 61 = .ok (.iinc 3 1, 3) := by decide +kernel
theorem dX5_takeBoth_64 : decode cX5_takeBoth 64 = .ok (.goto (-56), 3) := by decide +kernel
theorem dX5_takeBoth_67 : decode cX5_takeBoth 67 = .ok (.iload_n 2, 1) := by decide +kernel
theorem dX5_takeBoth_68 : decode cX5_takeBoth 68 = .ok (.ireturn, 1) := by decide +kernel
theorem dX5_takeOne_0 : decode cX5_takeOne 0 = .ok (.aload_n 0, 1) := by decide +kernel
theorem dX5_takeOne_1 : decode cX5_takeOne 1 = .ok (.invokevirtual 51, 3) := by decide +kernel
theorem dX5_takeOne_4 : decode cX5_takeOne 4 = .ok (.istore_n 2, 1) := by decide +kernel
theorem dX5_takeOne_5 : decode cX5_takeOne 5 = .ok (.iload_n 2, 1) := by decide +kernel
theorem dX5_takeOne_6 : decode cX5_takeOne 6 = .ok (.bipush 33, 2) := by decide +kernel
theorem dX5_takeOne_8 : decode cX5_takeOne 8 = .ok (.if_icmp .eq 14, 3) := by decide +kernel
theorem dX5_takeOne_11 : decode cX5_takeOne 11 = .ok (.iload_n 2, 1) := by decide +kernel
theorem dX5_takeOne_12 : decode cX5_takeOne 12 = .ok (.bipush 40, 2) := by decide +kernel
theorem dX5_takeOne_14 : decode cX5_takeOne 14 = .ok (.if_icmp .eq 8, 3) := by decide +kernel
theorem dX5_takeOne_17 : decode cX5_takeOne 17 = .ok (.aload_n 0, 1) := by decide +kernel
theorem dX5_takeOne_18 : decode cX5_takeOne 18 = .ok (.invokevirtual 92, 3) := by decide +kernel
theorem dX5_takeOne_21 : decode cX5_takeOne 21 = .ok (.ireturn, 1) := by decide +kernel
theorem dX5_takeOne_22 : decode cX5_takeOne 22 = .ok (.iload_n 1, 1) := by decide +kernel
theorem dX5_takeOne_23 : decode cX5_takeOne 23 = .ok (.iconst 4, 1) := by decide +kernel
theorem dX5_takeOne_24 : decode cX5_takeOne 24 = .ok (.if_icmp .lt 5, 3) := by decide +kernel
theorem dX5_takeOne_27 : decode cX5_takeOne 27 = .ok (.iconst 0, 1) := by decide +kernel
theorem dX5_takeOne_28 : decode cX5_takeOne 28 = .ok (.ireturn, 1) := by decide +kernel
theorem dX5_takeOne_29 : decode cX5_takeOne 29 = .ok (.aload_n 0, 1) := by decide +kernel
theorem dX5_takeOne_30 : decode cX5_takeOne 30 = .ok (.dup, 1) := by decide +kernel
theorem dX5_takeOne_31 : decode cX5_takeOne 31 = .ok (.getfield 35, 3) := by decide +kernel
theorem dX5_takeOne_34 : decode cX5_takeOne 34 = .ok (.iconst 1, 1) := by decide +kernel
theorem dX5_takeOne_35 : decode cX5_takeOne 35 = .ok (.iadd, 1) := by decide +kernel
theorem dX5_takeOne_36 : decode cX5_takeOne 36 = .ok (.putfield 35, 3) := by decide +kernel
theorem dX5_takeOne_39 : decode cX5_takeOne 39 = .ok (.iload_n 2, 1) := by decide +kernel
theorem dX5_takeOne_40 : decode cX5_takeOne 40 = .ok (.bipush 33, 2) := by decide +kernel
theorem dX5_takeOne_42 : decode cX5_takeOne 42 = .ok (.if_icmp .ne 29, 3) := by decide +kernel
theorem dX5_takeOne_45 : decode cX5_takeOne 45 = .ok (.aload_n 0, 1) := by decide +kernel
theorem dX5_takeOne_46 : decode cX5_takeOne 46 = .ok (.iload_n 1, 1) := by decide +kernel
theorem dX5_takeOne_47 : decode cX5_takeOne 47 = .ok (.iconst 1, 1) := by decide +kernel
theorem dX5_takeOne_48 : decode cX5_takeOne 48 = .ok (.iadd, 1) := by decide +kernel
theorem dX5_takeOne_49 : decode cX5_takeOne 49 = .ok (.invokevirtual 89, 3) := by decide +kernel
theorem dX5_takeOne_52 : decode cX5_takeOne 52 = .ok (.ifCond .eq 17, 3) := by decide +kernel
theorem dX5_takeOne_55 : decode cX5_takeOne 55 = .ok (.aload_n 0, 1) := by decide +kernel
theorem dX5_takeOne_56 : decode cX5_takeOne 56 = .ok (.bipush 21, 2) := by decide +kernel
theorem dX5_takeOne_58 : decode cX5_takeOne 58 = .ok (.iconst 0, 1) := by decide +kernel
theorem dX5_takeOne_59 : decode cX5_takeOne 59 = .ok (.invokevirtual 82, 3) := by decide +kernel
theorem dX5_takeOne_62 : decode cX5_takeOne 62 = .ok (.ifCond .eq 7, 3) := by decide +kernel
theorem dX5_takeOne_65 : decode cX5_takeOne 65 = .ok (.iconst 1, 1) := by decide +kernel
theorem dX5_takeOne_66 : decode cX5_takeOne 66 = .ok (.goto 4, 3) := by decide +kernel
theorem dX5_takeOne_69 : decode cX5_takeOne 69 = .ok (.iconst 0, 1) := by decide +kernel
theorem dX5_takeOne_70 : decode cX5_takeOne 70 = .ok (.ireturn, 1) := by decide +kernel
theorem dX5_takeOne_71 : decode cX5_takeOne 71 = .ok (.aload_n 0, 1) := by decide +kernel
theorem dX5_takeOne_72 : decode cX5_takeOne 72 = .ok (.iload_n 1, 1) := by decide +kernel
theorem dX5_takeOne_73 : decode cX5_takeOne 73 = .ok (.iconst 1, 1) := by decide +kernel
theorem dX5_takeOne_74 : decode cX5_takeOne 74 = .ok (.iadd, 1) := by decide +kernel
theorem dX5_takeOne_75 : decode cX5_takeOne 75 = .ok (.invokevirtual 78, 3) := by decide +kernel
theorem dX5_takeOne_78 : decode cX5_takeOne 78 = .ok (.ifCond .eq 16, 3) := by decide +kernel
theorem dX5_takeOne_81 : decode cX5_takeOne 81 = .ok (.aload_n 0, 1) := by decide +kernel
theorem dX5_takeOne_82 : decode cX5_takeOne 82 = .ok (.ldc 95, 2) := by decide +kernel
theorem dX5_takeOne_84 : decode cX5_takeOne 84 = .ok (.invokevirtual 65, 3) := by decide +kernel
theorem dX5_takeOne_87 : decode cX5_takeOne 87 = .ok (.ifCond .eq 7, 3) := by decide +kernel
theorem dX5_takeOne_90 : decode cX5_takeOne 90 = .ok (.iconst 1, 1) := by decide +kernel
theorem dX5_takeOne_91 : decode cX5_takeOne 91 = .ok (.goto 4, 3) := by decide +kernel
theorem dX5_takeOne_94 : decode cX5_takeOne 94 = .ok (.iconst 0, 1) := by decide +kernel
theorem dX5_takeOne_95 : decode cX5_takeOne 95 = .ok (.ireturn, 1) := by decide +kernel
theorem dX5_takeTest_0 : decode cX5_takeTest 0 = .ok (.ldc 97, 2) := by decide +kernel
theorem dX5_takeTest_2 : decode cX5_takeTest 2 = .ok (.aload_n 0, 1) := by decide +kernel
theorem dX5_takeTest_3 : decode cX5_takeTest 3 = .ok (.invokevirtual 51, 3) := by decide +kernel
theorem dX5_takeTest_6 : decode cX5_takeTest 6 = .ok (.i2c, 1) := by decide +kernel
theorem dX5_takeTest_7 : decode cX5_takeTest 7 = .ok (.invokevirtual 99, 3) := by decide +kernel
theorem dX5_takeTest_10 : decode cX5_takeTest 10 = .ok (.istore_n 1, 1) := by decide +kernel
theorem dX5_takeTest_11 : decode cX5_takeTest 11 = .ok (.iload_n 1, 1) := by decide +kernel
theorem dX5_takeTest_12 : decode cX5_takeTest 12 = .ok (.ifCond .ge 5, 3) := by decide +kernel
theorem dX5_takeTest_15 : decode cX5_takeTest 15 = .ok (.iconst 0, 1) := by decide +kernel
theorem dX5_takeTest_16 : decode cX5_takeTest 16 = .ok (.ireturn, 1) := by decide +kernel
theorem dX5_takeTest_17 : decode cX5_takeTest 17 = .ok (.aload_n 0, 1) := by decide +kernel
theorem dX5_takeTest_18 : decode cX5_takeTest 18 = .ok (.dup, 1) := by decide +kernel
theorem dX5_takeTest_19 : decode cX5_takeTest 19 = .ok (.getfield 35, 3) := by decide +kernel
theorem dX5_takeTest_22 : decode cX5_takeTest 22 = .ok (.iconst 1, 1) := by decide +kernel
theorem dX5_takeTest_23 : decode cX5_takeTest 23 = .ok (.iadd, 1) := by decide +kernel
theorem dX5_takeTest_24 : decode cX5_takeTest 24 = .ok (.putfield 35, 3) := by decide +kernel
theorem dX5_takeTest_27 : decode cX5_takeTest 27 = .ok (.ldc 103, 2) := by decide +kernel
theorem dX5_takeTest_29 : decode cX5_takeTest 29 = .ok (.aload_n 0, 1) := by decide +kernel
theorem dX5_takeTest_30 : decode cX5_takeTest 30 = .ok (.invokevirtual 51, 3) := by decide +kernel
theorem dX5_takeTest_33 : decode cX5_takeTest 33 = .ok (.i2c, 1) := by decide +kernel
theorem dX5_takeTest_34 : decode cX5_takeTest 34 = .ok (.invokevirtual 99, 3) := by decide +kernel
theorem dX5_takeTest_37 : decode cX5_takeTest 37 = .ok (.istore_n 2, 1) := by decide +kernel
theorem dX5_takeTest_38 : decode cX5_takeTest 38 = .ok (.iload_n 2, 1) := by decide +kernel
theorem dX5_takeTest_39 : decode cX5_takeTest 39 = .ok (.ifCond .ge 5, 3) := by decide +kernel
theorem dX5_takeTest_42 : decode cX5_takeTest 42 = .ok (.iconst 0, 1) := by decide +kernel
theorem dX5_takeTest_43 : decode cX5_takeTest 43 = .ok (.ireturn, 1) := by decide +kernel
theorem dX5_takeTest_44 : decode cX5_takeTest 44 = .ok (.aload_n 0, 1) := by decide +kernel
theorem dX5_takeTest_45 : decode cX5_takeTest 45 = .ok (.dup, 1) := by decide +kernel
theorem dX5_takeTest_46 : decode cX5_takeTest 46 = .ok (.getfield 35, 3) := by decide +kernel
theorem dX5_takeTest_49 : decode cX5_takeTest 49 = .ok (.iconst 1, 1) := by decide +kernel
theorem dX5_takeTest_50 : decode cX5_takeTest 50 = .ok (.iadd, 1) := by decide +kernel
theorem dX5_takeTest_51 : decode cX5_takeTest 51 = .ok (.putfield 35, 3) := by decide +kernel
theorem dX5_takeTest_54 : decode cX5_takeTest 54 = .ok (.aload_n 0, 1) := by decide +kernel
theorem dX5_takeTest_55 : decode cX5_takeTest 55 = .ok (.invokevirtual 69, 3) := by decide +kernel
theorem dX5_takeTest_58 : decode cX5_takeTest 58 = .ok (.ifCond .ne 5, 3) := by decide +kernel
theorem dX5_takeTest_61 : decode cX5_takeTest 61 = .ok (.iconst 0, 1) := by decide +kernel
theorem dX5_takeTest_62 : decode cX5_takeTest 62 = .ok (.ireturn, 1) := by decide +kernel
theorem dX5_takeTest_63 : decode cX5_takeTest 63 = .ok (.iload_n 1, 1) := by decide +kernel
theorem dX5_takeTest_64 : decode cX5_takeTest 64 = .ok (.iconst 3, 1) := by decide +kernel
theorem dX5_takeTest_65 : decode cX5_takeTest 65 = .ok (.if_icmp .ne 18, 3) := by decide +kernel
theorem dX5_takeTest_68 : decode cX5_takeTest 68 = .ok (.aload_n 0, 1) := by decide +kernel
theorem dX5_takeTest_69 : decode cX5_takeTest 69 = .ok (.bipush 18, 2) := by decide +kernel
theorem dX5_takeTest_71 : decode cX5_takeTest 71 = .ok (.iload_n 2, 1) := by decide +kernel
theorem dX5_takeTest_72 : decode cX5_takeTest 72 = .ok (.aload_n 0, 1) := by decide +kernel
theorem dX5_takeTest_73 : decode cX5_takeTest 73 = .ok (.getfield 38, 3) := by decide +kernel
theorem dX5_takeTest_76 : decode cX5_takeTest 76 = .ok (.invokestatic 105, 3) := by decide +kernel
theorem dX5_takeTest_79 : decode cX5_takeTest 79 = .ok (.invokevirtual 82, 3) := by decide +kernel
theorem dX5_takeTest_82 : decode cX5_takeTest 82 = .ok (.ireturn, 1) := by decide +kernel
theorem dX5_takeTest_83 : decode cX5_takeTest 83 = .ok (.aload_n 0, 1) := by decide +kernel
theorem dX5_takeTest_84 : decode cX5_takeTest 84 = .ok (.iload_n 1, 1) := by decide +kernel
theorem dX5_takeTest_85 : decode cX5_takeTest 85 = .ok (.iconst 3, 1) := by decide +kernel
theorem dX5_takeTest_86 : decode cX5_takeTest 86 = .ok (.imul, 1) := by decide +kernel
theorem dX5_takeTest_87 : decode cX5_takeTest 87 = .ok (.iload_n 2, 1) := by decide +kernel
theorem dX5_takeTest_88 : decode cX5_takeTest 88 = .ok (.iadd, 1) := by decide +kernel
theorem dX5_takeTest_89 : decode cX5_takeTest 89 = .ok (.aload_n 0, 1) := by decide +kernel
theorem dX5_takeTest_90 : decode cX5_takeTest 90 = .ok (.getfield 38, 3) := by decide +kernel
theorem dX5_takeTest_93 : decode cX5_takeTest 93 = .ok (.invokevirtual 82, 3) := by decide +kernel
theorem dX5_takeTest_96 : decode cX5_takeTest 96 = .ok (.ireturn, 1) := by decide +kernel
theorem dX5_takeNumber_0 : decode cX5_takeNumber 0 = .ok (.aload_n 0, 1) := by decide +kernel
theorem dX5_takeNumber_1 : decode cX5_takeNumber 1 = .ok (.getfield 35, 3) := by decide +kernel
theorem dX5_takeNumber_4 : decode cX5_takeNumber 4 = .ok (.istore_n 1, 1) := by decide +kernel
theorem dX5_takeNumber_5 : decode cX5_takeNumber 5 = .ok (.aload_n 0, 1) := by decide +kernel
theorem dX5_takeNumber_6 : decode cX5_takeNumber 6 = .ok (.iconst 0, 1) := by decide +kernel
theorem dX5_takeNumber_7 : decode cX5_takeNumber 7 = .ok (.putfield 38, 3) := by decide +kernel
theorem dX5_takeNumber_10 : decode cX5_takeNumber 10 = .ok (.iconst 0, 1) := by decide +kernel
theorem dX5_takeNumber_11 : decode cX5_takeNumber 11 = .ok (.istore_n 2, 1) := by decide +kernel
theorem dX5_takeNumber_12 : decode cX5_takeNumber 12 = .ok (.iload_n 2, 1) := by decide +kernel
theorem dX5_takeNumber_13 : decode cX5_takeNumber 13 = .ok (.iconst 2, 1) := by decide +kernel
theorem dX5_takeNumber_14 : decode cX5_takeNumber 14 = .ok (.if_icmp .ge 82, 3) := by decide +kernel
theorem dX5_takeNumber_17 : decode cX5_takeNumber 17 = .ok (.aload_n 0, 1) := by decide +kernel
theorem dX5_takeNumber_18 : decode cX5_takeNumber 18 = .ok (.getfield 35, 3) := by decide +kernel
theorem dX5_takeNumber_21 : decode cX5_takeNumber 21 = .ok (.aload_n 0, 1) := by decide +kernel
theorem dX5_takeNumber_22 : decode cX5_takeNumber 22 = .ok (.getfield 32, 3) := by decide +kernel
theorem dX5_takeNumber_25 : decode cX5_takeNumber 25 = .ok (.if_icmp .ge 71, 3) := by decide +kernel
theorem dX5_takeNumber_28 : decode cX5_takeNumber 28 = .ok (.aload_n 0, 1) := by decide +kernel
theorem dX5_takeNumber_29 : decode cX5_takeNumber 29 = .ok (.getfield 28, 3) := by decide +kernel
theorem dX5_takeNumber_32 : decode cX5_takeNumber 32 = .ok (.aload_n 0, 1) := by decide +kernel
theorem dX5_takeNumber_33 : decode cX5_takeNumber 33 = .ok (.getfield 35, 3) := by decide +kernel
theorem dX5_takeNumber_36 : decode cX5_takeNumber 36 = .ok (.baload, 1) := by decide +kernel
theorem dX5_takeNumber_37 : decode cX5_takeNumber 37 = .ok (.bipush 48, 2) := by decide +kernel
theorem dX5_takeNumber_39 : decode cX5_takeNumber 39 = .ok (.if_icmp .lt 57, 3) := by decide +kernel
theorem dX5_takeNumber_42 : decode cX5_takeNumber 42 = .ok (.aload_n 0, 1) := by decide +kernel
theorem dX5_takeNumber_43 : decode cX5_takeNumber 43 = .ok (.getfield 28, 3) := by decide +kernel
theorem dX5_takeNumber_46 : decode cX5_takeNumber 46 = .ok (.aload_n 0, 1) := by decide +kernel
theorem dX5_takeNumber_47 : decode cX5_takeNumber 47 = .ok (.getfield 35, 3) := by decide +kernel
theorem dX5_takeNumber_50 : decode cX5_takeNumber 50 = .ok (.baload, 1) := by decide +kernel
theorem dX5_takeNumber_51 : decode cX5_takeNumber 51 = .ok (.bipush 57, 2) := by decide +kernel
theorem dX5_takeNumber_53 : decode cX5_takeNumber 53 = .ok (.if_icmp .gt 43, 3) := by decide +kernel
theorem dX5_takeNumber_56 : decode cX5_takeNumber 56 = .ok (.aload_n 0, 1) := by decide +kernel
theorem dX5_takeNumber_57 : decode cX5_takeNumber 57 = .ok (.aload_n 0, 1) := by decide +kernel
theorem dX5_takeNumber_58 : decode cX5_takeNumber 58 = .ok (.getfield 38, 3) := by decide +kernel
theorem dX5_takeNumber_61 : decode cX5_takeNumber 61 = .ok (.bipush 10, 2) := by decide +kernel
theorem dX5_takeNumber_63 : decode cX5_takeNumber 63 = .ok (.imul, 1) := by decide +kernel
theorem dX5_takeNumber_64 : decode cX5_takeNumber 64 = .ok (.aload_n 0, 1) := by decide +kernel
theorem dX5_takeNumber_65 : decode cX5_takeNumber 65 = .ok (.getfield 28, 3) := by decide +kernel
theorem dX5_takeNumber_68 : decode cX5_takeNumber 68 = .ok (.aload_n 0, 1) := by decide +kernel
theorem dX5_takeNumber_69 : decode cX5_takeNumber 69 = .ok (.getfield 35, 3) := by decide +kernel
theorem dX5_takeNumber_72 : decode cX5_takeNumber 72 = .ok (.baload, 1) := by decide +kernel
theorem dX5_takeNumber_73 : decode cX5_takeNumber 73 = .ok (.iadd, 1) := by decide +kernel
theorem dX5_takeNumber_74 : decode cX5_takeNumber 74 = .ok (.bipush 48, 2) := by decide +kernel
theorem dX5_takeNumber_76 : decode cX5_takeNumber 76 = .ok (.isub, 1) := by decide +kernel
theorem dX5_takeNumber_77 : decode cX5_takeNumber 77 = .ok (.putfield 38, 3) := by decide +kernel
theorem dX5_takeNumber_80 : decode cX5_takeNumber 80 = .ok (.aload_n 0, 1) := by decide +kernel
theorem dX5_takeNumber_81 : decode cX5_takeNumber 81 = .ok (.dup, 1) := by decide +kernel
theorem dX5_takeNumber_82 : decode cX5_takeNumber 82 = .ok (.getfield 35, 3) := by decide +kernel
theorem dX5_takeNumber_85 : decode cX5_takeNumber 85 = .ok (.iconst 1, 1) := by decide +kernel
theorem dX5_takeNumber_86 : decode cX5_takeNumber 86 = .ok (.iadd, 1) := by decide +kernel
theorem dX5_takeNumber_87 : decode cX5_takeNumber 87 = .ok (.putfield 35, 3) := by decide +kernel
theorem dX5_takeNumber_90 : decode cX5_takeNumber 90 = .ok (.iinc 2 1, 3) := by decide +kernel
theorem dX5_takeNumber_93 : decode cX5_takeNumber 93 = .ok (.goto (-81), 3) := by decide +kernel
theorem dX5_takeNumber_96 : decode cX5_takeNumber 96 = .ok (.aload_n 0, 1) := by decide +kernel
theorem dX5_takeNumber_97 : decode cX5_takeNumber 97 = .ok (.getfield 35, 3) := by decide +kernel
theorem dX5_takeNumber_100 : decode cX5_takeNumber 100 = .ok (.iload_n 1, 1) := by decide +kernel
theorem dX5_takeNumber_101 : decode cX5_takeNumber 101 = .ok (.if_icmp .le 7, 3) := by decide +kernel
theorem dX5_takeNumber_104 : decode cX5_takeNumber 104 = .ok (.iconst 1, 1) := by decide +kernel
theorem dX5_takeNumber_105 : decode cX5_takeNumber 105 = .ok (.goto 4, 3) := by decide +kernel
theorem dX5_takeNumber_108 : decode cX5_takeNumber 108 = .ok (.iconst 0, 1) := by decide +kernel
theorem dX5_takeNumber_109 : decode cX5_takeNumber 109 = .ok (.ireturn, 1) := by decide +kernel
theorem dX5_addStep_0 : decode cX5_addStep 0 = .ok (.aload_n 0, 1) := by decide +kernel
theorem dX5_addStep_1 : decode cX5_addStep 1 = .ok (.getfield 19, 3) := by decide +kernel
theorem dX5_addStep_4 : decode cX5_addStep 4 = .ok (.aload_n 0, 1) := by decide +kernel
theorem dX5_addStep_5 : decode cX5_addStep 5 = .ok (.getfield 15, 3) := by decide +kernel
theorem dX5_addStep_8 : decode cX5_addStep 8 = .ok (.arraylength, 1) := by decide +kernel
theorem dX5_addStep_9 : decode cX5_addStep 9 = .ok (.if_icmp .lt 5, 3) := by decide +kernel
theorem dX5_addStep_12 : decode cX5_addStep 12 = .ok (.iconst 0, 1) := by decide +kernel
theorem dX5_addStep_13 : decode cX5_addStep 13 = .ok (.ireturn, 1) := by decide +kernel
theorem dX5_addStep_14 : decode cX5_addStep 14 = .ok (.aload_n 0, 1) := by decide +kernel
theorem dX5_addStep_15 : decode cX5_addStep 15 = .ok (.getfield 15, 3) := by decide +kernel
theorem dX5_addStep_18 : decode cX5_addStep 18 = .ok (.aload_n 0, 1) := by decide +kernel
theorem dX5_addStep_19 : decode cX5_addStep 19 = .ok (.getfield 19, 3) := by decide +kernel
theorem dX5_addStep_22 : decode cX5_addStep 22 = .ok (.iload_n 1, 1) := by decide +kernel
theorem dX5_addStep_23 : decode cX5_addStep 23 = .ok (.sipush 256, 3) := by decide +kernel
theorem dX5_addStep_26 : decode cX5_addStep 26 = .ok (.imul, 1) := by decide +kernel
theorem dX5_addStep_27 : decode cX5_addStep 27 = .ok (.iload_n 2, 1) := by decide +kernel
theorem dX5_addStep_28 : decode cX5_addStep 28 = .ok (.iadd, 1) := by decide +kernel
theorem dX5_addStep_29 : decode cX5_addStep 29 = .ok (.iastore, 1) := by decide +kernel
theorem dX5_addStep_30 : decode cX5_addStep 30 = .ok (.aload_n 0, 1) := by decide +kernel
theorem dX5_addStep_31 : decode cX5_addStep 31 = .ok (.dup, 1) := by decide +kernel
theorem dX5_addStep_32 : decode cX5_addStep 32 = .ok (.getfield 19, 3) := by decide +kernel
theorem dX5_addStep_35 : decode cX5_addStep 35 = .ok (.iconst 1, 1) := by decide +kernel
theorem dX5_addStep_36 : decode cX5_addStep 36 = .ok (.iadd, 1) := by decide +kernel
theorem dX5_addStep_37 : decode cX5_addStep 37 = .ok (.putfield 19, 3) := by decide +kernel
theorem dX5_addStep_40 : decode cX5_addStep 40 = .ok (.iconst 1, 1) := by decide +kernel
theorem dX5_addStep_41 : decode cX5_addStep 41 = .ok (.ireturn, 1) := by decide +kernel
theorem dX5_compares_0 : decode cX5_compares 0 = .ok (.iload_n 1, 1) := by decide +kernel
theorem dX5_compares_1 : decode cX5_compares 1 = .ok (.lookupswitch 49 #[(0, 27), (1, 38)], 27) := by decide +kernel
theorem dX5_compares_28 : decode cX5_compares 28 = .ok (.iload_n 0, 1) := by decide +kernel
theorem dX5_compares_29 : decode cX5_compares 29 = .ok (.iload_n 2, 1) := by decide +kernel
theorem dX5_compares_30 : decode cX5_compares 30 = .ok (.if_icmp .ge 7, 3) := by decide +kernel
theorem dX5_compares_33 : decode cX5_compares 33 = .ok (.iconst 1, 1) := by decide +kernel
theorem dX5_compares_34 : decode cX5_compares 34 = .ok (.goto 4, 3) := by decide +kernel
theorem dX5_compares_37 : decode cX5_compares 37 = .ok (.iconst 0, 1) := by decide +kernel
theorem dX5_compares_38 : decode cX5_compares 38 = .ok (.ireturn, 1) := by decide +kernel
theorem dX5_compares_39 : decode cX5_compares 39 = .ok (.iload_n 0, 1) := by decide +kernel
theorem dX5_compares_40 : decode cX5_compares 40 = .ok (.iload_n 2, 1) := by decide +kernel
theorem dX5_compares_41 : decode cX5_compares 41 = .ok (.if_icmp .ne 7, 3) := by decide +kernel
theorem dX5_compares_44 : decode cX5_compares 44 = .ok (.iconst 1, 1) := by decide +kernel
theorem dX5_compares_45 : decode cX5_compares 45 = .ok (.goto 4, 3) := by decide +kernel
theorem dX5_compares_48 : decode cX5_compares 48 = .ok (.iconst 0, 1) := by decide +kernel
theorem dX5_compares_49 : decode cX5_compares 49 = .ok (.ireturn, 1) := by decide +kernel
theorem dX5_compares_50 : decode cX5_compares 50 = .ok (.iload_n 0, 1) := by decide +kernel
theorem dX5_compares_51 : decode cX5_compares 51 = .ok (.iload_n 2, 1) := by decide +kernel
theorem dX5_compares_52 : decode cX5_compares 52 = .ok (.if_icmp .le 7, 3) := by decide +kernel
theorem dX5_compares_55 : decode cX5_compares 55 = .ok (.iconst 1, 1) := by decide +kernel
theorem dX5_compares_56 : decode cX5_compares 56 = .ok (.goto 4, 3) := by decide +kernel
theorem dX5_compares_59 : decode cX5_compares 59 = .ok (.iconst 0, 1) := by decide +kernel
theorem dX5_compares_60 : decode cX5_compares 60 = .ok (.ireturn, 1) := by decide +kernel
theorem dX5_factsThat_0 : decode cX5_factsThat 0 = .ok (.iconst 0, 1) := by decide +kernel
theorem dX5_factsThat_1 : decode cX5_factsThat 1 = .ok (.istore_n 2, 1) := by decide +kernel
theorem dX5_factsThat_2 : decode cX5_factsThat 2 = .ok (.iconst 0, 1) := by decide +kernel
theorem dX5_factsThat_3 : decode cX5_factsThat 3 = .ok (.istore_n 3, 1) := by decide +kernel
theorem dX5_factsThat_4 : decode cX5_factsThat 4 = .ok (.iload_n 3, 1) := by decide +kernel
theorem dX5_factsThat_5 : decode cX5_factsThat 5 = .ok (.bipush 8, 2) := by decide +kernel
theorem dX5_factsThat_7 : decode cX5_factsThat 7 = .ok (.if_icmp .ge 24, 3) := by decide +kernel
theorem dX5_factsThat_10 : decode cX5_factsThat 10 = .ok (.iload_n 3, 1) := by decide +kernel
theorem dX5_factsThat_11 : decode cX5_factsThat 11 = .ok (.iload_n 0, 1) := by decide +kernel
theorem dX5_factsThat_12 : decode cX5_factsThat 12 = .ok (.iload_n 1, 1) := by decide +kernel
theorem dX5_factsThat_13 : decode cX5_factsThat 13 = .ok (.invokestatic 108, 3) := by decide +kernel
theorem dX5_factsThat_16 : decode cX5_factsThat 16 = .ok (.ifCond .eq 9, 3) := by decide +kernel
theorem dX5_factsThat_19 : decode cX5_factsThat 19 = .ok (.iload_n 2, 1) := by decide +kernel
theorem dX5_factsThat_20 : decode cX5_factsThat 20 = .ok (.iconst 1, 1) := by decide +kernel
theorem dX5_factsThat_21 : decode cX5_factsThat 21 = .ok (.iload_n 3, 1) := by decide +kernel
theorem dX5_factsThat_22 : decode cX5_factsThat 22 = .ok (.ishl, 1) := by decide +kernel
theorem dX5_factsThat_23 : decode cX5_factsThat 23 = .ok (.ior, 1) := by decide +kernel
theorem dX5_factsThat_24 : decode cX5_factsThat 24 = .ok (.istore_n 2, 1) := by decide +kernel
theorem dX5_factsThat_25 : decode cX5_factsThat 25 = .ok (.iinc 3 1, 3) := by decide +kernel
theorem dX5_factsThat_28 : decode cX5_factsThat 28 = .ok (.goto (-24), 3) := by decide +kernel
theorem dX5_factsThat_31 : decode cX5_factsThat 31 = .ok (.iload_n 2, 1) := by decide +kernel
theorem dX5_factsThat_32 : decode cX5_factsThat 32 = .ok (.ireturn, 1) := by decide +kernel
theorem dX5_weigh_0 : decode cX5_weigh 0 = .ok (.aload 5, 2) := by decide +kernel
theorem dX5_weigh_2 : decode cX5_weigh 2 = .ok (.iconst 1, 1) := by decide +kernel
theorem dX5_weigh_3 : decode cX5_weigh 3 = .ok (.invokestatic 112, 3) := by decide +kernel
theorem dX5_weigh_6 : decode cX5_weigh 6 = .ok (.aload_n 0, 1) := by decide +kernel
theorem dX5_weigh_7 : decode cX5_weigh 7 = .ok (.iconst 0, 1) := by decide +kernel
theorem dX5_weigh_8 : decode cX5_weigh 8 = .ok (.putfield 25, 3) := by decide +kernel
theorem dX5_weigh_11 : decode cX5_weigh 11 = .ok (.iconst 0, 1) := by decide +kernel
theorem dX5_weigh_12 : decode cX5_weigh 12 = .ok (.istore 6, 2) := by decide +kernel
theorem dX5_weigh_14 : decode cX5_weigh 14 = .ok (.iload 6, 2) := by decide +kernel
theorem dX5_weigh_16 : decode cX5_weigh 16 = .ok (.aload_n 0, 1) := by decide +kernel
theorem dX5_weigh_17 : decode cX5_weigh 17 = .ok (.getfield 19, 3) := by decide +kernel
theorem dX5_weigh_20 : decode cX5_weigh 20 = .ok (.if_icmp .ge 135, 3) := by decide +kernel
theorem dX5_weigh_23 : decode cX5_weigh 23 = .ok (.aload_n 0, 1) := by decide +kernel
theorem dX5_weigh_24 : decode cX5_weigh 24 = .ok (.getfield 15, 3) := by decide +kernel
theorem dX5_weigh_27 : decode cX5_weigh 27 = .ok (.iload 6, 2) := by decide +kernel
theorem dX5_weigh_29 : decode cX5_weigh 29 = .ok (.iaload, 1) := by decide +kernel
theorem dX5_weigh_30 : decode cX5_weigh 30 = .ok (.sipush 256, 3) := by decide +kernel
theorem dX5_weigh_33 : decode cX5_weigh 33 = .ok (.idiv, 1) := by decide +kernel
theorem dX5_weigh_34 : decode cX5_weigh 34 = .ok (.istore 7, 2) := by decide +kernel
theorem dX5_weigh_36 : decode cX5_weigh 36 = .ok (.aload_n 0, 1) := by decide +kernel
theorem dX5_weigh_37 : decode cX5_weigh 37 = .ok (.getfield 15, 3) := by decide +kernel
theorem dX5_weigh_40 : decode cX5_weigh 40 = .ok (.iload 6, 2) := by decide +kernel
theorem dX5_weigh_42 : decode cX5_weigh 42 = .ok (.iaload, 1) := by decide +kernel
theorem dX5_weigh_43 : decode cX5_weigh 43 = .ok (.sipush 256, 3) := by decide +kernel
theorem dX5_weigh_46 : decode cX5_weigh 46 = .ok (.irem, 1) := by decide +kernel
theorem dX5_weigh_47 : decode cX5_weigh 47 = .ok (.istore 8, 2) := by decide +kernel
theorem dX5_weigh_49 : decode cX5_weigh 49 = .ok (.iload 7, 2) := by decide +kernel
theorem dX5_weigh_51 : decode cX5_weigh 51 = .ok (.bipush 18, 2) := by decide +kernel
theorem dX5_weigh_53 : decode cX5_weigh 53 = .ok (.if_icmp .ge 45, 3) := by decide +kernel
theorem dX5_weigh_56 : decode cX5_weigh 56 = .ok (.iload 7, 2) := by decide +kernel
theorem dX5_weigh_58 : decode cX5_weigh 58 = .ok (.iconst 3, 1) := by decide +kernel
theorem dX5_weigh_59 : decode cX5_weigh 59 = .ok (.idiv, 1) := by decide +kernel
theorem dX5_weigh_60 : decode cX5_weigh 60 = .ok (.iload_n 1, 1) := by decide +kernel
theorem dX5_weigh_61 : decode cX5_weigh 61 = .ok (.iload_n 2, 1) := by decide +kernel
theorem dX5_weigh_62 : decode cX5_weigh 62 = .ok (.iload_n 3, 1) := by decide +kernel
theorem dX5_weigh_63 : decode cX5_weigh 63 = .ok (.iload 4, 2) := by decide +kernel
theorem dX5_weigh_65 : decode cX5_weigh 65 = .ok (.invokestatic 118, 3) := by decide +kernel
theorem dX5_weigh_68 : decode cX5_weigh 68 = .ok (.istore 9, 2) := by decide +kernel
theorem dX5_weigh_70 : decode cX5_weigh 70 = .ok (.aload_n 0, 1) := by decide +kernel
theorem dX5_weigh_71 : decode cX5_weigh 71 = .ok (.iload 9, 2) := by decide +kernel
theorem dX5_weigh_73 : decode cX5_weigh 73 = .ok (.iload 7, 2) := by decide +kernel
theorem dX5_weigh_75 : decode cX5_weigh 75 = .ok (.iconst 3, 1) := by decide +kernel
theorem dX5_weigh_76 : decode cX5_weigh 76 = .ok (.irem, 1) := by decide +kernel
theorem dX5_weigh_77 : decode cX5_weigh 77 = .ok (.iload 8, 2) := by decide +kernel
theorem dX5_weigh_79 : decode cX5_weigh 79 = .ok (.invokestatic 108, 3) := by decide +kernel
theorem dX5_weigh_82 : decode cX5_weigh 82 = .ok (.ifCond .eq 9, 3) := by decide +kernel
theorem dX5_weigh_85 : decode cX5_weigh 85 = .ok (.sipush 255, 3) := by decide +kernel
theorem dX5_weigh_88 : decode cX5_weigh 88 = .ok (.goto 4, 3) := by decide +kernel
theorem dX5_weigh_91 : decode cX5_weigh 91 = .ok (.iconst 0, 1) := by decide +kernel
theorem dX5_weigh_92 : decode cX5_weigh 92 = .ok (.invokevirtual 122, 3) := by decide +kernel
theorem dX5_weigh_95 : decode cX5_weigh 95 = .ok (.goto 54, 3) := by decide +kernel
theorem dX5_weigh_98 : decode cX5_weigh 98 = .ok (.iload 7, 2) := by decide +kernel
theorem dX5_weigh_100 : decode cX5_weigh 100 = .ok (.bipush 22, 2) := by decide +kernel
theorem dX5_weigh_102 : decode cX5_weigh 102 = .ok (.if_icmp .ne 17, 3) := by decide +kernel
theorem dX5_weigh_105 : decode cX5_weigh 105 = .ok (.aload_n 0, 1) := by decide +kernel
theorem dX5_weigh_106 : decode cX5_weigh 106 = .ok (.invokevirtual 126, 3) := by decide +kernel
theorem dX5_weigh_109 : decode cX5_weigh 109 = .ok (.iload 8, 2) := by decide +kernel
theorem dX5_weigh_111 : decode cX5_weigh 111 = .ok (.aload 5, 2) := by decide +kernel
theorem dX5_weigh_113 : decode cX5_weigh 113 = .ok (.invokestatic 129, 3) := by decide +kernel
theorem dX5_weigh_116 : decode cX5_weigh 116 = .ok (.goto 33, 3) := by decide +kernel
theorem dX5_weigh_119 : decode cX5_weigh 119 = .ok (.iload 7, 2) := by decide +kernel
theorem dX5_weigh_121 : decode cX5_weigh 121 = .ok (.bipush 23, 2) := by decide +kernel
theorem dX5_weigh_123 : decode cX5_weigh 123 = .ok (.if_icmp .ne 18, 3) := by decide +kernel
theorem dX5_weigh_126 : decode cX5_weigh 126 = .ok (.aload_n 0, 1) := by decide +kernel
theorem dX5_weigh_127 : decode cX5_weigh 127 = .ok (.invokevirtual 126, 3) := by decide +kernel
theorem dX5_weigh_130 : decode cX5_weigh 130 = .ok (.iload 8, 2) := by decide +kernel
theorem dX5_weigh_132 : decode cX5_weigh 132 = .ok (.ineg, 1) := by decide +kernel
theorem dX5_weigh_133 : decode cX5_weigh 133 = .ok (.aload 5, 2) := by decide +kernel
theorem dX5_weigh_135 : decode cX5_weigh 135 = .ok (.invokestatic 129, 3) := by decide +kernel
theorem dX5_weigh_138 : decode cX5_weigh 138 = .ok (.goto 11, 3) := by decide +kernel
theorem dX5_weigh_141 : decode cX5_weigh 141 = .ok (.aload_n 0, 1) := by decide +kernel
theorem dX5_weigh_142 : decode cX5_weigh 142 = .ok (.iload 7, 2) := by decide +kernel
theorem dX5_weigh_144 : decode cX5_weigh 144 = .ok (.iload 8, 2) := by decide +kernel
theorem dX5_weigh_146 : decode cX5_weigh 146 = .ok (.invokevirtual 133, 3) := by decide +kernel
theorem dX5_weigh_149 : decode cX5_weigh 149 = .ok (.iinc 6 1, 3) := by decide +kernel
theorem dX5_weigh_152 : decode cX5_weigh 152 = .ok (.goto (-138), 3) := by decide +kernel
theorem dX5_weigh_155 : decode cX5_weigh 155 = .ok (.return_, 1) := by decide +kernel
theorem dX5_valueOf_0 : decode cX5_valueOf 0 = .ok (.iload_n 0, 1) := by decide +kernel
theorem dX5_valueOf_1 : decode cX5_valueOf 1 = .ok (.tableswitch 47 0 4 #[35, 37, 39, 47, 41], 35) := by decide +kernel
theorem dX5_valueOf_36 : decode cX5_valueOf 36 = .ok (.iload_n 1, 1) := by decide +kernel
theorem dX5_valueOf_37 : decode cX5_valueOf 37 = .ok (.ireturn, 1) := by decide +kernel
theorem dX5_valueOf_38 : decode cX5_valueOf 38 = .ok (.iload_n 2, 1) := by decide +kernel
theorem dX5_valueOf_39 : decode cX5_valueOf 39 = .ok (.ireturn, 1) := by decide +kernel
theorem dX5_valueOf_40 : decode cX5_valueOf 40 = .ok (.iload_n 3, 1) := by decide +kernel
theorem dX5_valueOf_41 : decode cX5_valueOf 41 = .ok (.ireturn, 1) := by decide +kernel
theorem dX5_valueOf_42 : decode cX5_valueOf 42 = .ok (.iload 4, 2) := by decide +kernel
theorem dX5_valueOf_44 : decode cX5_valueOf 44 = .ok (.bipush 10, 2) := by decide +kernel
theorem dX5_valueOf_46 : decode cX5_valueOf 46 = .ok (.irem, 1) := by decide +kernel
theorem dX5_valueOf_47 : decode cX5_valueOf 47 = .ok (.ireturn, 1) := by decide +kernel
theorem dX5_valueOf_48 : decode cX5_valueOf 48 = .ok (.iload 4, 2) := by decide +kernel
theorem dX5_valueOf_50 : decode cX5_valueOf 50 = .ok (.bipush 7, 2) := by decide +kernel
theorem dX5_valueOf_52 : decode cX5_valueOf 52 = .ok (.irem, 1) := by decide +kernel
theorem dX5_valueOf_53 : decode cX5_valueOf 53 = .ok (.ireturn, 1) := by decide +kernel
theorem dX5_join_0 : decode cX5_join 0 = .ok (.iload_n 1, 1) := by decide +kernel
theorem dX5_join_1 : decode cX5_join 1 = .ok (.tableswitch 76 19 21 #[27, 43, 59], 27) := by decide +kernel
theorem dX5_join_28 : decode cX5_join 28 = .ok (.aload_n 0, 1) := by decide +kernel
theorem dX5_join_29 : decode cX5_join 29 = .ok (.aload_n 0, 1) := by decide +kernel
theorem dX5_join_30 : decode cX5_join 30 = .ok (.invokevirtual 126, 3) := by decide +kernel
theorem dX5_join_33 : decode cX5_join 33 = .ok (.aload_n 0, 1) := by decide +kernel
theorem dX5_join_34 : decode cX5_join 34 = .ok (.invokevirtual 126, 3) := by decide +kernel
theorem dX5_join_37 : decode cX5_join 37 = .ok (.iand, 1) := by decide +kernel
theorem dX5_join_38 : decode cX5_join 38 = .ok (.invokevirtual 122, 3) := by decide +kernel
theorem dX5_join_41 : decode cX5_join 41 = .ok (.goto 41, 3) := by decide +kernel
theorem dX5_join_44 : decode cX5_join 44 = .ok (.aload_n 0, 1) := by decide +kernel
theorem dX5_join_45 : decode cX5_join 45 = .ok (.aload_n 0, 1) := by decide +kernel
theorem dX5_join_46 : decode cX5_join 46 = .ok (.invokevirtual 126, 3) := by decide +kernel
theorem dX5_join_49 : decode cX5_join 49 = .ok (.aload_n 0, 1) := by decide +kernel
theorem dX5_join_50 : decode cX5_join 50 = .ok (.invokevirtual 126, 3) := by decide +kernel
theorem dX5_join_53 : decode cX5_join 53 = .ok (.ior, 1) := by decide +kernel
theorem dX5_join_54 : decode cX5_join 54 = .ok (.invokevirtual 122, 3) := by decide +kernel
theorem dX5_join_57 : decode cX5_join 57 = .ok (.goto 25, 3) := by decide +kernel
theorem dX5_join_60 : decode cX5_join 60 = .ok (.aload_n 0, 1) := by decide +kernel
theorem dX5_join_61 : decode cX5_join 61 = .ok (.sipush 255, 3) := by decide +kernel
theorem dX5_join_64 : decode cX5_join 64 = .ok (.aload_n 0, 1) := by decide +kernel
theorem dX5_join_65 : decode cX5_join 65 = .ok (.invokevirtual 126, 3) := by decide +kernel
theorem dX5_join_68 : decode cX5_join 68 = .ok (.iconst (-1), 1) := by decide +kernel
theorem dX5_join_69 : decode cX5_join 69 = .ok (.ixor, 1) := by decide +kernel
theorem dX5_join_70 : decode cX5_join 70 = .ok (.iand, 1) := by decide +kernel
theorem dX5_join_71 : decode cX5_join 71 = .ok (.invokevirtual 122, 3) := by decide +kernel
theorem dX5_join_74 : decode cX5_join 74 = .ok (.goto 8, 3) := by decide +kernel
theorem dX5_join_77 : decode cX5_join 77 = .ok (.aload_n 0, 1) := by decide +kernel
theorem dX5_join_78 : decode cX5_join 78 = .ok (.iload_n 2, 1) := by decide +kernel
theorem dX5_join_79 : decode cX5_join 79 = .ok (.invokevirtual 122, 3) := by decide +kernel
theorem dX5_join_82 : decode cX5_join 82 = .ok (.return_, 1) := by decide +kernel
theorem dX5_push_0 : decode cX5_push 0 = .ok (.aload_n 0, 1) := by decide +kernel
theorem dX5_push_1 : decode cX5_push 1 = .ok (.getfield 25, 3) := by decide +kernel
theorem dX5_push_4 : decode cX5_push 4 = .ok (.ifCond .lt 35, 3) := by decide +kernel
theorem dX5_push_7 : decode cX5_push 7 = .ok (.aload_n 0, 1) := by decide +kernel
theorem dX5_push_8 : decode cX5_push 8 = .ok (.getfield 25, 3) := by decide +kernel
theorem dX5_push_11 : decode cX5_push 11 = .ok (.aload_n 0, 1) := by decide +kernel
theorem dX5_push_12 : decode cX5_push 12 = .ok (.getfield 22, 3) := by decide +kernel
theorem dX5_push_15 : decode cX5_push 15 = .ok (.arraylength, 1) := by decide +kernel
theorem dX5_push_16 : decode cX5_push 16 = .ok (.if_icmp .ge 23, 3) := by decide +kernel
theorem dX5_push_19 : decode cX5_push 19 = .ok (.aload_n 0, 1) := by decide +kernel
theorem dX5_push_20 : decode cX5_push 20 = .ok (.getfield 22, 3) := by decide +kernel
theorem dX5_push_23 : decode cX5_push 23 = .ok (.aload_n 0, 1) := by decide +kernel
theorem dX5_push_24 : decode cX5_push 24 = .ok (.getfield 25, 3) := by decide +kernel
theorem dX5_push_27 : decode cX5_push 27 = .ok (.iload_n 1, 1) := by decide +kernel
theorem dX5_push_28 : decode cX5_push 28 = .ok (.iastore, 1) := by decide +kernel
theorem dX5_push_29 : decode cX5_push 29 = .ok (.aload_n 0, 1) := by decide +kernel
theorem dX5_push_30 : decode cX5_push 30 = .ok (.dup, 1) := by decide +kernel
theorem dX5_push_31 : decode cX5_push 31 = .ok (.getfield 25, 3) := by decide +kernel
theorem dX5_push_34 : decode cX5_push 34 = .ok (.iconst 1, 1) := by decide +kernel
theorem dX5_push_35 : decode cX5_push 35 = .ok (.iadd, 1) := by decide +kernel
theorem dX5_push_36 : decode cX5_push 36 = .ok (.putfield 25, 3) := by decide +kernel
theorem dX5_push_39 : decode cX5_push 39 = .ok (.return_, 1) := by decide +kernel
theorem dX5_pop_0 : decode cX5_pop 0 = .ok (.aload_n 0, 1) := by decide +kernel
theorem dX5_pop_1 : decode cX5_pop 1 = .ok (.getfield 25, 3) := by decide +kernel
theorem dX5_pop_4 : decode cX5_pop 4 = .ok (.ifCond .le 15, 3) := by decide +kernel
theorem dX5_pop_7 : decode cX5_pop 7 = .ok (.aload_n 0, 1) := by decide +kernel
theorem dX5_pop_8 : decode cX5_pop 8 = .ok (.getfield 25, 3) := by decide +kernel
theorem dX5_pop_11 : decode cX5_pop 11 = .ok (.aload_n 0, 1) := by decide +kernel
theorem dX5_pop_12 : decode cX5_pop 12 = .ok (.getfield 22, 3) := by decide +kernel
theorem dX5_pop_15 : decode cX5_pop 15 = .ok (.arraylength, 1) := by decide +kernel
theorem dX5_pop_16 : decode cX5_pop 16 = .ok (.if_icmp .le 5, 3) := by decide +kernel
theorem dX5_pop_19 : decode cX5_pop 19 = .ok (.iconst 0, 1) := by decide +kernel
theorem dX5_pop_20 : decode cX5_pop 20 = .ok (.ireturn, 1) := by decide +kernel
theorem dX5_pop_21 : decode cX5_pop 21 = .ok (.aload_n 0, 1) := by decide +kernel
theorem dX5_pop_22 : decode cX5_pop 22 = .ok (.dup, 1) := by decide +kernel
theorem dX5_pop_23 : decode cX5_pop 23 = .ok (.getfield 25, 3) := by decide +kernel
theorem dX5_pop_26 : decode cX5_pop 26 = .ok (.iconst 1, 1) := by decide +kernel
theorem dX5_pop_27 : decode cX5_pop 27 = .ok (.isub, 1) := by decide +kernel
theorem dX5_pop_28 : decode cX5_pop 28 = .ok (.putfield 25, 3) := by decide +kernel
theorem dX5_pop_31 : decode cX5_pop 31 = .ok (.aload_n 0, 1) := by decide +kernel
theorem dX5_pop_32 : decode cX5_pop 32 = .ok (.getfield 22, 3) := by decide +kernel
theorem dX5_pop_35 : decode cX5_pop 35 = .ok (.aload_n 0, 1) := by decide +kernel
theorem dX5_pop_36 : decode cX5_pop 36 = .ok (.getfield 25, 3) := by decide +kernel
theorem dX5_pop_39 : decode cX5_pop 39 = .ok (.iaload, 1) := by decide +kernel
theorem dX5_pop_40 : decode cX5_pop 40 = .ok (.ireturn, 1) := by decide +kernel
theorem dX5_addWeight_0 : decode cX5_addWeight 0 = .ok (.iconst 0, 1) := by decide +kernel
theorem dX5_addWeight_1 : decode cX5_addWeight 1 = .ok (.istore_n 3, 1) := by decide +kernel
theorem dX5_addWeight_2 : decode cX5_addWeight 2 = .ok (.iload_n 3, 1) := by decide +kernel
theorem dX5_addWeight_3 : decode cX5_addWeight 3 = .ok (.aload_n 2, 1) := by decide +kernel
theorem dX5_addWeight_4 : decode cX5_addWeight 4 = .ok (.arraylength, 1) := by decide +kernel
theorem dX5_addWeight_5 : decode cX5_addWeight 5 = .ok (.if_icmp .ge 30, 3) := by decide +kernel
theorem dX5_addWeight_8 : decode cX5_addWeight 8 = .ok (.iload_n 3, 1) := by decide +kernel
theorem dX5_addWeight_9 : decode cX5_addWeight 9 = .ok (.bipush 8, 2) := by decide +kernel
theorem dX5_addWeight_11 : decode cX5_addWeight 11 = .ok (.if_icmp .ge 24, 3) := by decide +kernel
theorem dX5_addWeight_14 : decode cX5_addWeight 14 = .ok (.iload_n 0, 1) := by decide +kernel
theorem dX5_addWeight_15 : decode cX5_addWeight 15 = .ok (.iload_n 3, 1) := by decide +kernel
theorem dX5_addWeight_16 : decode cX5_addWeight 16 = .ok (.ishr, 1) := by decide +kernel
theorem dX5_addWeight_17 : decode cX5_addWeight 17 = .ok (.iconst 1, 1) := by decide +kernel
theorem dX5_addWeight_18 : decode cX5_addWeight 18 = .ok (.iand, 1) := by decide +kernel
theorem dX5_addWeight_19 : decode cX5_addWeight 19 = .ok (.ifCond .eq 10, 3) := by decide +kernel
theorem dX5_addWeight_22 : decode cX5_addWeight 22 = .ok (.aload_n 2, 1) := by decide +kernel
theorem dX5_addWeight_23 : decode cX5_addWeight 23 = .ok (.iload_n 3, 1) := by decide +kernel
theorem dX5_addWeight_24 : decode cX5_addWeight 24 = .ok (.dup2, 1) := by decide +kernel
theorem dX5_addWeight_25 : decode cX5_addWeight 25 = .ok (.iaload, 1) := by decide +kernel
theorem dX5_addWeight_26 : decode cX5_addWeight 26 = .ok (.iload_n 1, 1) := by decide +kernel
theorem dX5_addWeight_27 : decode cX5_addWeight 27 = .ok (.iadd, 1) := by decide +kernel
theorem dX5_addWeight_28 : decode cX5_addWeight 28 = .ok (.iastore, 1) := by decide +kernel
theorem dX5_addWeight_29 : decode cX5_addWeight 29 = .ok (.iinc 3 1, 3) := by decide +kernel
theorem dX5_addWeight_32 : decode cX5_addWeight 32 = .ok (.goto (-30), 3) := by decide +kernel
theorem dX5_addWeight_35 : decode cX5_addWeight 35 = .ok (.return_, 1) := by decide +kernel
theorem dX6_init_0 : decode cX6_init 0 = .ok (.aload_n 0, 1) := by decide +kernel
theorem dX6_init_1 : decode cX6_init 1 = .ok (.invokespecial 3, 3) := by decide +kernel
theorem dX6_init_4 : decode cX6_init 4 = .ok (.aload_n 0, 1) := by decide +kernel
theorem dX6_init_5 : decode cX6_init 5 = .ok (.iconst 0, 1) := by decide +kernel
theorem dX6_init_6 : decode cX6_init 6 = .ok (.putfield 9, 3) := by decide +kernel
theorem dX6_init_9 : decode cX6_init 9 = .ok (.aload_n 0, 1) := by decide +kernel
theorem dX6_init_10 : decode cX6_init 10 = .ok (.bipush 6, 2) := by decide +kernel
theorem dX6_init_12 : decode cX6_init 12 = .ok (.newarray .int, 2) := by decide +kernel
theorem dX6_init_14 : decode cX6_init 14 = .ok (.putfield 15, 3) := by decide +kernel
theorem dX6_init_17 : decode cX6_init 17 = .ok (.aload_n 0, 1) := by decide +kernel
theorem dX6_init_18 : decode cX6_init 18 = .ok (.bipush 6, 2) := by decide +kernel
theorem dX6_init_20 : decode cX6_init 20 = .ok (.newarray .int, 2) := by decide +kernel
theorem dX6_init_22 : decode cX6_init 22 = .ok (.putfield 19, 3) := by decide +kernel
theorem dX6_init_25 : decode cX6_init 25 = .ok (.aload_n 0, 1) := by decide +kernel
theorem dX6_init_26 : decode cX6_init 26 = .ok (.bipush 6, 2) := by decide +kernel
theorem dX6_init_28 : decode cX6_init 28 = .ok (.newarray .int, 2) := by decide +kernel
theorem dX6_init_30 : decode cX6_init 30 = .ok (.putfield 22, 3) := by decide +kernel
theorem dX6_init_33 : decode cX6_init 33 = .ok (.aload_n 0, 1) := by decide +kernel
theorem dX6_init_34 : decode cX6_init 34 = .ok (.bipush 24, 2) := by decide +kernel
theorem dX6_init_36 : decode cX6_init 36 = .ok (.newarray .int, 2) := by decide +kernel
theorem dX6_init_38 : decode cX6_init 38 = .ok (.putfield 25, 3) := by decide +kernel
theorem dX6_init_41 : decode cX6_init 41 = .ok (.aload_n 0, 1) := by decide +kernel
theorem dX6_init_42 : decode cX6_init 42 = .ok (.iconst 0, 1) := by decide +kernel
theorem dX6_init_43 : decode cX6_init 43 = .ok (.putfield 28, 3) := by decide +kernel
theorem dX6_init_46 : decode cX6_init 46 = .ok (.aload_n 0, 1) := by decide +kernel
theorem dX6_init_47 : decode cX6_init 47 = .ok (.bipush 8, 2) := by decide +kernel
theorem dX6_init_49 : decode cX6_init 49 = .ok (.newarray .int, 2) := by decide +kernel
theorem dX6_init_51 : decode cX6_init 51 = .ok (.putfield 31, 3) := by decide +kernel
theorem dX6_init_54 : decode cX6_init 54 = .ok (.aload_n 0, 1) := by decide +kernel
theorem dX6_init_55 : decode cX6_init 55 = .ok (.bipush 8, 2) := by decide +kernel
theorem dX6_init_57 : decode cX6_init 57 = .ok (.newarray .int, 2) := by decide +kernel
theorem dX6_init_59 : decode cX6_init 59 = .ok (.putfield 34, 3) := by decide +kernel
theorem dX6_init_62 : decode cX6_init 62 = .ok (.aload_n 0, 1) := by decide +kernel
theorem dX6_init_63 : decode cX6_init 63 = .ok (.bipush 8, 2) := by decide +kernel
theorem dX6_init_65 : decode cX6_init 65 = .ok (.newarray .int, 2) := by decide +kernel
theorem dX6_init_67 : decode cX6_init 67 = .ok (.putfield 37, 3) := by decide +kernel
theorem dX6_init_70 : decode cX6_init 70 = .ok (.aload_n 0, 1) := by decide +kernel
theorem dX6_init_71 : decode cX6_init 71 = .ok (.iconst 0, 1) := by decide +kernel
theorem dX6_init_72 : decode cX6_init 72 = .ok (.putfield 40, 3) := by decide +kernel
theorem dX6_init_75 : decode cX6_init 75 = .ok (.aload_n 0, 1) := by decide +kernel
theorem dX6_init_76 : decode cX6_init 76 = .ok (.iconst 5, 1) := by decide +kernel
theorem dX6_init_77 : decode cX6_init 77 = .ok (.newarray .int, 2) := by decide +kernel
theorem dX6_init_79 : decode cX6_init 79 = .ok (.putfield 43, 3) := by decide +kernel
theorem dX6_init_82 : decode cX6_init 82 = .ok (.aload_n 0, 1) := by decide +kernel
theorem dX6_init_83 : decode cX6_init 83 = .ok (.iconst 0, 1) := by decide +kernel
theorem dX6_init_84 : decode cX6_init 84 = .ok (.putfield 46, 3) := by decide +kernel
theorem dX6_init_87 : decode cX6_init 87 = .ok (.aload_n 0, 1) := by decide +kernel
theorem dX6_init_88 : decode cX6_init 88 = .ok (.iconst 0, 1) := by decide +kernel
theorem dX6_init_89 : decode cX6_init 89 = .ok (.putfield 49, 3) := by decide +kernel
theorem dX6_init_92 : decode cX6_init 92 = .ok (.aload_n 0, 1) := by decide +kernel
theorem dX6_init_93 : decode cX6_init 93 = .ok (.iconst (-1), 1) := by decide +kernel
theorem dX6_init_94 : decode cX6_init 94 = .ok (.putfield 52, 3) := by decide +kernel
theorem dX6_init_97 : decode cX6_init 97 = .ok (.aload_n 0, 1) := by decide +kernel
theorem dX6_init_98 : decode cX6_init 98 = .ok (.iconst 0, 1) := by decide +kernel
theorem dX6_init_99 : decode cX6_init 99 = .ok (.putfield 55, 3) := by decide +kernel
theorem dX6_init_102 : decode cX6_init 102 = .ok (.aload_n 0, 1) := by decide +kernel
theorem dX6_init_103 : decode cX6_init 103 = .ok (.iconst 5, 1) := by decide +kernel
theorem dX6_init_104 : decode cX6_init 104 = .ok (.iconst 4, 1) := by decide +kernel
theorem dX6_init_105 : decode cX6_init 105 = .ok (.multianewarray 58 2, 4) := by decide +kernel
theorem dX6_init_109 : decode cX6_init 109 = .ok (.putfield 60, 3) := by decide +kernel
theorem dX6_init_112 : decode cX6_init 112 = .ok (.aload_n 0, 1) := by decide +kernel
theorem dX6_init_113 : decode cX6_init 113 = .ok (.iconst 0, 1) := by decide +kernel
theorem dX6_init_114 : decode cX6_init 114 = .ok (.putfield 63, 3) := by decide +kernel
theorem dX6_init_117 : decode cX6_init 117 = .ok (.aload_n 0, 1) := by decide +kernel
theorem dX6_init_118 : decode cX6_init 118 = .ok (.bipush 10, 2) := by decide +kernel
theorem dX6_init_120 : decode cX6_init 120 = .ok (.iconst 2, 1) := by decide +kernel
theorem dX6_init_121 : decode cX6_init 121 = .ok (.multianewarray 58 2, 4) := by decide +kernel
theorem dX6_init_125 : decode cX6_init 125 = .ok (.putfield 66, 3) := by decide +kernel
theorem dX6_init_128 : decode cX6_init 128 = .ok (.aload_n 0, 1) := by decide +kernel
theorem dX6_init_129 : decode cX6_init 129 = .ok (.iconst 0, 1) := by decide +kernel
theorem dX6_init_130 : decode cX6_init 130 = .ok (.putfield 69, 3) := by decide +kernel
theorem dX6_init_133 : decode cX6_init 133 = .ok (.aload_n 0, 1) := by decide +kernel
theorem dX6_init_134 : decode cX6_init 134 = .ok (.bipush 8, 2) := by decide +kernel
theorem dX6_init_136 : decode cX6_init 136 = .ok (.iconst 2, 1) := by decide +kernel
theorem dX6_init_137 : decode cX6_init 137 = .ok (.multianewarray 58 2, 4) := by decide +kernel
theorem dX6_init_141 : decode cX6_init 141 = .ok (.putfield 72, 3) := by decide +kernel
theorem dX6_init_144 : decode cX6_init 144 = .ok (.return_, 1) := by decide +kernel
theorem dX6_hasMaster_0 : decode cX6_hasMaster 0 = .ok (.iload_n 1, 1) := by decide +kernel
theorem dX6_hasMaster_1 : decode cX6_hasMaster 1 = .ok (.ifCond .lt 15, 3) := by decide +kernel
theorem dX6_hasMaster_4 : decode cX6_hasMaster 4 = .ok (.iload_n 1, 1) := by decide +kernel
theorem dX6_hasMaster_5 : decode cX6_hasMaster 5 = .ok (.aload_n 0, 1) := by decide +kernel
theorem dX6_hasMaster_6 : decode cX6_hasMaster 6 = .ok (.getfield 9, 3) := by decide +kernel
theorem dX6_hasMaster_9 : decode cX6_hasMaster 9 = .ok (.if_icmp .ge 7, 3) := by decide +kernel
theorem dX6_hasMaster_12 : decode cX6_hasMaster 12 = .ok (.iconst 1, 1) := by decide +kernel
theorem dX6_hasMaster_13 : decode cX6_hasMaster 13 = .ok (.goto 4, 3) := by decide +kernel
theorem dX6_hasMaster_16 : decode cX6_hasMaster 16 = .ok (.iconst 0, 1) := by decide +kernel
theorem dX6_hasMaster_17 : decode cX6_hasMaster 17 = .ok (.ireturn, 1) := by decide +kernel
theorem dX6_hasFootman_0 : decode cX6_hasFootman 0 = .ok (.iload_n 1, 1) := by decide +kernel
theorem dX6_hasFootman_1 : decode cX6_hasFootman 1 = .ok (.ifCond .lt 15, 3) := by decide +kernel
theorem dX6_hasFootman_4 : decode cX6_hasFootman 4 = .ok (.iload_n 1, 1) := by decide +kernel
theorem dX6_hasFootman_5 : decode cX6_hasFootman 5 = .ok (.aload_n 0, 1) := by decide +kernel
theorem dX6_hasFootman_6 : decode cX6_hasFootman 6 = .ok (.getfield 40, 3) := by decide +kernel
theorem dX6_hasFootman_9 : decode cX6_hasFootman 9 = .ok (.if_icmp .ge 7, 3) := by decide +kernel
theorem dX6_hasFootman_12 : decode cX6_hasFootman 12 = .ok (.iconst 1, 1) := by decide +kernel
theorem dX6_hasFootman_13 : decode cX6_hasFootman 13 = .ok (.goto 4, 3) := by decide +kernel
theorem dX6_hasFootman_16 : decode cX6_hasFootman 16 = .ok (.iconst 0, 1) := by decide +kernel
theorem dX6_hasFootman_17 : decode cX6_hasFootman 17 = .ok (.ireturn, 1) := by decide +kernel
theorem dX6_isOut_0 : decode cX6_isOut 0 = .ok (.aload_n 0, 1) := by decide +kernel
theorem dX6_isOut_1 : decode cX6_isOut 1 = .ok (.getfield 46, 3) := by decide +kernel
theorem dX6_isOut_4 : decode cX6_isOut 4 = .ok (.iload_n 1, 1) := by decide +kernel
theorem dX6_isOut_5 : decode cX6_isOut 5 = .ok (.ishr, 1) := by decide +kernel
theorem dX6_isOut_6 : decode cX6_isOut 6 = .ok (.iconst 1, 1) := by decide +kernel
theorem dX6_isOut_7 : decode cX6_isOut 7 = .ok (.iand, 1) := by decide +kernel
theorem dX6_isOut_8 : decode cX6_isOut 8 = .ok (.ifCond .eq 7, 3) := by decide +kernel
theorem dX6_isOut_11 : decode cX6_isOut 11 = .ok (.iconst 1, 1) := by decide +kernel
theorem dX6_isOut_12 : decode cX6_isOut 12 = .ok (.goto 4, 3) := by decide +kernel
theorem dX6_isOut_15 : decode cX6_isOut 15 = .ok (.iconst 0, 1) := by decide +kernel
theorem dX6_isOut_16 : decode cX6_isOut 16 = .ok (.ireturn, 1) := by decide +kernel
theorem dX6_addMaster_0 : decode cX6_addMaster 0 = .ok (.aload_n 0, 1) := by decide +kernel
theorem dX6_addMaster_1 : decode cX6_addMaster 1 = .ok (.getfield 9, 3) := by decide +kernel
theorem dX6_addMaster_4 : decode cX6_addMaster 4 = .ok (.bipush 6, 2) := by decide +kernel
theorem dX6_addMaster_6 : decode cX6_addMaster 6 = .ok (.if_icmp .lt 6, 3) := by decide +kernel
theorem dX6_addMaster_9 : decode cX6_addMaster 9 = .ok (.bipush (-4), 2) := by decide +kernel
theorem dX6_addMaster_11 : decode cX6_addMaster 11 = .ok (.ireturn, 1) := by decide +kernel
theorem dX6_addMaster_12 : decode cX6_addMaster 12 = .ok (.aload_n 0, 1) := by decide +kernel
theorem dX6_addMaster_13 : decode cX6_addMaster 13 = .ok (.getfield 15, 3) := by decide +kernel
theorem dX6_addMaster_16 : decode cX6_addMaster 16 = .ok (.aload_n 0, 1) := by decide +kernel
theorem dX6_addMaster_17 : decode cX6_addMaster 17 = .ok (.getfield 9, 3) := by decide +kernel
theorem dX6_addMaster_20 : decode cX6_addMaster 20 = .ok (.iload_n 1, 1) := by decide +kernel
theorem dX6_addMaster_21 : decode cX6_addMaster 21 = .ok (.iastore, 1) := by decide +kernel
theorem dX6_addMaster_22 : decode cX6_addMaster 22 = .ok (.aload_n 0, 1) := by decide +kernel
theorem dX6_addMaster_23 : decode cX6_addMaster 23 = .ok (.getfield 19, 3) := by decide +kernel
theorem dX6_addMaster_26 : decode cX6_addMaster 26 = .ok (.aload_n 0, 1) := by decide +kernel
theorem dX6_addMaster_27 : decode cX6_addMaster 27 = .ok (.getfield 9, 3) := by decide +kernel
theorem dX6_addMaster_30 : decode cX6_addMaster 30 = .ok (.iload_n 2, 1) := by decide +kernel
theorem dX6_addMaster_31 : decode cX6_addMaster 31 = .ok (.iastore, 1) := by decide +kernel
theorem dX6_addMaster_32 : decode cX6_addMaster 32 = .ok (.aload_n 0, 1) := by decide +kernel
theorem dX6_addMaster_33 : decode cX6_addMaster 33 = .ok (.getfield 22, 3) := by decide +kernel
theorem dX6_addMaster_36 : decode cX6_addMaster 36 = .ok (.aload_n 0, 1) := by decide +kernel
theorem dX6_addMaster_37 : decode cX6_addMaster 37 = .ok (.getfield 9, 3) := by decide +kernel
theorem dX6_addMaster_40 : decode cX6_addMaster 40 = .ok (.iconst 0, 1) := by decide +kernel
theorem dX6_addMaster_41 : decode cX6_addMaster 41 = .ok (.iastore, 1) := by decide +kernel
theorem dX6_addMaster_42 : decode cX6_addMaster 42 = .ok (.iconst 0, 1) := by decide +kernel
theorem dX6_addMaster_43 : decode cX6_addMaster 43 = .ok (.istore_n 3, 1) := by decide +kernel
theorem dX6_addMaster_44 : decode cX6_addMaster 44 = .ok (.iload_n 3, 1) := by decide +kernel
theorem dX6_addMaster_45 : decode cX6_addMaster 45 = .ok (.iconst 4, 1) := by decide +kernel
theorem dX6_addMaster_46 : decode cX6_addMaster 46 = .ok (.if_icmp .ge 23, 3) := by decide +kernel
theorem dX6_addMaster_49 : decode cX6_addMaster 49 = .ok (.aload_n 0, 1) := by decide +kernel
theorem dX6_addMaster_50 : decode cX6_addMaster 50 = .ok (.getfield 25, 3) := by decide +kernel
theorem dX6_addMaster_53 : decode cX6_addMaster 53 = .ok (.aload_n 0, 1) := by decide +kernel
theorem dX6_addMaster_54 : decode cX6_addMaster 54 = .ok (.getfield 9, 3) := by decide +kernel
theorem dX6_addMaster_57 : decode cX6_addMaster 57 = .ok (.iconst 4, 1) := by decide +kernel
theorem dX6_addMaster_58 : decode cX6_addMaster 58 = .ok (.imul, 1) := by decide +kernel
theorem dX6_addMaster_59 : decode cX6_addMaster 59 = .ok (.iload_n 3, 1) := by decide +kernel
theorem dX6_addMaster_60 : decode cX6_addMaster 60 = .ok (.iadd, 1) := by decide +kernel
theorem dX6_addMaster_61 : decode cX6_addMaster 61 = .ok (.iconst 0, 1) := by decide +kernel
theorem dX6_addMaster_62 : decode cX6_addMaster 62 = .ok (.iastore, 1) := by decide +kernel
theorem dX6_addMaster_63 : decode cX6_addMaster 63 = .ok (.iinc 3 1, 3) := by decide +kernel
theorem dX6_addMaster_66 : decode cX6_addMaster 66 = .ok (.goto (-22), 3) := by decide +kernel
theorem dX6_addMaster_69 : decode cX6_addMaster 69 = .ok (.aload_n 0, 1) := by decide +kernel
theorem dX6_addMaster_70 : decode cX6_addMaster 70 = .ok (.dup, 1) := by decide +kernel
theorem dX6_addMaster_71 : decode cX6_addMaster 71 = .ok (.getfield 9, 3) := by decide +kernel
theorem dX6_addMaster_74 : decode cX6_addMaster 74 = .ok (.iconst 1, 1) := by decide +kernel
theorem dX6_addMaster_75 : decode cX6_addMaster 75 = .ok (.iadd, 1) := by decide +kernel
theorem dX6_addMaster_76 : decode cX6_addMaster 76 = .ok (.putfield 9, 3) := by decide +kernel
theorem dX6_addMaster_79 : decode cX6_addMaster 79 = .ok (.aload_n 0, 1) := by decide +kernel
theorem dX6_addMaster_80 : decode cX6_addMaster 80 = .ok (.getfield 9, 3) := by decide +kernel
theorem dX6_addMaster_83 : decode cX6_addMaster 83 = .ok (.iconst 1, 1) := by decide +kernel
theorem dX6_addMaster_84 : decode cX6_addMaster 84 = .ok (.isub, 1) := by decide +kernel
theorem dX6_addMaster_85 : decode cX6_addMaster 85 = .ok (.ireturn, 1) := by decide +kernel
theorem dX6_addDeed_0 : decode cX6_addDeed 0 = .ok (.aload_n 0, 1) := by decide +kernel
theorem dX6_addDeed_1 : decode cX6_addDeed 1 = .ok (.getfield 28, 3) := by decide +kernel
theorem dX6_addDeed_4 : decode cX6_addDeed 4 = .ok (.bipush 8, 2) := by decide +kernel
theorem dX6_addDeed_6 : decode cX6_addDeed 6 = .ok (.if_icmp .lt 6, 3) := by decide +kernel
theorem dX6_addDeed_9 : decode cX6_addDeed 9 = .ok (.bipush (-4), 2) := by decide +kernel
theorem dX6_addDeed_11 : decode cX6_addDeed 11 = .ok (.ireturn, 1) := by decide +kernel
theorem dX6_addDeed_12 : decode cX6_addDeed 12 = .ok (.aload_n 0, 1) := by decide +kernel
theorem dX6_addDeed_13 : decode cX6_addDeed 13 = .ok (.getfield 31, 3) := by decide +kernel
theorem dX6_addDeed_16 : decode cX6_addDeed 16 = .ok (.aload_n 0, 1) := by decide +kernel
theorem dX6_addDeed_17 : decode cX6_addDeed 17 = .ok (.getfield 28, 3) := by decide +kernel
theorem dX6_addDeed_20 : decode cX6_addDeed 20 = .ok (.iload_n 1, 1) := by decide +kernel
theorem dX6_addDeed_21 : decode cX6_addDeed 21 = .ok (.iastore, 1) := by decide +kernel
theorem dX6_addDeed_22 : decode cX6_addDeed 22 = .ok (.aload_n 0, 1) := by decide +kernel
theorem dX6_addDeed_23 : decode cX6_addDeed 23 = .ok (.getfield 34, 3) := by decide +kernel
theorem dX6_addDeed_26 : decode cX6_addDeed 26 = .ok (.aload_n 0, 1) := by decide +kernel
theorem dX6_addDeed_27 : decode cX6_addDeed 27 = .ok (.getfield 28, 3) := by decide +kernel
theorem dX6_addDeed_30 : decode cX6_addDeed 30 = .ok (.iload_n 2, 1) := by decide +kernel
theorem dX6_addDeed_31 : decode cX6_addDeed 31 = .ok (.iastore, 1) := by decide +kernel
theorem dX6_addDeed_32 : decode cX6_addDeed 32 = .ok (.aload_n 0, 1) := by decide +kernel
theorem dX6_addDeed_33 : decode cX6_addDeed 33 = .ok (.getfield 37, 3) := by decide +kernel
theorem dX6_addDeed_36 : decode cX6_addDeed 36 = .ok (.aload_n 0, 1) := by decide +kernel
theorem dX6_addDeed_37 : decode cX6_addDeed 37 = .ok (.getfield 28, 3) := by decide +kernel
theorem dX6_addDeed_40 : decode cX6_addDeed 40 = .ok (.iload_n 3, 1) := by decide +kernel
theorem dX6_addDeed_41 : decode cX6_addDeed 41 = .ok (.iastore, 1) := by decide +kernel
theorem dX6_addDeed_42 : decode cX6_addDeed 42 = .ok (.aload_n 0, 1) := by decide +kernel
theorem dX6_addDeed_43 : decode cX6_addDeed 43 = .ok (.dup, 1) := by decide +kernel
theorem dX6_addDeed_44 : decode cX6_addDeed 44 = .ok (.getfield 28, 3) := by decide +kernel
theorem dX6_addDeed_47 : decode cX6_addDeed 47 = .ok (.iconst 1, 1) := by decide +kernel
theorem dX6_addDeed_48 : decode cX6_addDeed 48 = .ok (.iadd, 1) := by decide +kernel
theorem dX6_addDeed_49 : decode cX6_addDeed 49 = .ok (.putfield 28, 3) := by decide +kernel
theorem dX6_addDeed_52 : decode cX6_addDeed 52 = .ok (.aload_n 0, 1) := by decide +kernel
theorem dX6_addDeed_53 : decode cX6_addDeed 53 = .ok (.getfield 28, 3) := by decide +kernel
theorem dX6_addDeed_56 : decode cX6_addDeed 56 = .ok (.iconst 1, 1) := by decide +kernel
theorem dX6_addDeed_57 : decode cX6_addDeed 57 = .ok (.isub, 1) := by decide +kernel
theorem dX6_addDeed_58 : decode cX6_addDeed 58 = .ok (.ireturn, 1) := by decide +kernel
theorem dX6_addFootman_0 : decode cX6_addFootman 0 = .ok (.aload_n 0, 1) := by decide +kernel
theorem dX6_addFootman_1 : decode cX6_addFootman 1 = .ok (.getfield 40, 3) := by decide +kernel
theorem dX6_addFootman_4 : decode cX6_addFootman 4 = .ok (.iconst 5, 1) := by decide +kernel
theorem dX6_addFootman_5 : decode cX6_addFootman 5 = .ok (.if_icmp .lt 6, 3) := by decide +kernel
theorem dX6_addFootman_8 : decode cX6_addFootman 8 = .ok (.bipush (-4), 2) := by decide +kernel
theorem dX6_addFootman_10 : decode cX6_addFootman 10 = .ok (.ireturn, 1) := by decide +kernel
theorem dX6_addFootman_11 : decode cX6_addFootman 11 = .ok (.aload_n 0, 1) := by decide +kernel
theorem dX6_addFootman_12 : decode cX6_addFootman 12 = .ok (.getfield 43, 3) := by decide +kernel
theorem dX6_addFootman_15 : decode cX6_addFootman 15 = .ok (.aload_n 0, 1) := by decide +kernel
theorem dX6_addFootman_16 : decode cX6_addFootman 16 = .ok (.getfield 40, 3) := by decide +kernel
theorem dX6_addFootman_19 : decode cX6_addFootman 19 = .ok (.iload_n 1, 1) := by decide +kernel
theorem dX6_addFootman_20 : decode cX6_addFootman 20 = .ok (.iastore, 1) := by decide +kernel
theorem dX6_addFootman_21 : decode cX6_addFootman 21 = .ok (.aload_n 0, 1) := by decide +kernel
theorem dX6_addFootman_22 : decode cX6_addFootman 22 = .ok (.dup, 1) := by decide +kernel
theorem dX6_addFootman_23 : decode cX6_addFootman 23 = .ok (.getfield 40, 3) := by decide +kernel
theorem dX6_addFootman_26 : decode cX6_addFootman 26 = .ok (.iconst 1, 1) := by decide +kernel
theorem dX6_addFootman_27 : decode cX6_addFootman 27 = .ok (.iadd, 1) := by decide +kernel
theorem dX6_addFootman_28 : decode cX6_addFootman 28 = .ok (.putfield 40, 3) := by decide +kernel
theorem dX6_addFootman_31 : decode cX6_addFootman 31 = .ok (.aload_n 0, 1) := by decide +kernel
theorem dX6_addFootman_32 : decode cX6_addFootman 32 = .ok (.getfield 40, 3) := by decide +kernel
theorem dX6_addFootman_35 : decode cX6_addFootman 35 = .ok (.iconst 1, 1) := by decide +kernel
theorem dX6_addFootman_36 : decode cX6_addFootman 36 = .ok (.isub, 1) := by decide +kernel
theorem dX6_addFootman_37 : decode cX6_addFootman 37 = .ok (.ireturn, 1) := by decide +kernel
theorem dX6_addSeen_0 : decode cX6_addSeen 0 = .ok (.aload_n 0, 1) := by decide +kernel
theorem dX6_addSeen_1 : decode cX6_addSeen 1 = .ok (.getfield 55, 3) := by decide +kernel
theorem dX6_addSeen_4 : decode cX6_addSeen 4 = .ok (.iconst 5, 1) := by decide +kernel
theorem dX6_addSeen_5 : decode cX6_addSeen 5 = .ok (.if_icmp .lt 6, 3) := by decide +kernel
theorem dX6_addSeen_8 : decode cX6_addSeen 8 = .ok (.bipush (-4), 2) := by decide +kernel
theorem dX6_addSeen_10 : decode cX6_addSeen 10 = .ok (.ireturn, 1) := by decide +kernel
theorem dX6_addSeen_11 : decode cX6_addSeen 11 = .ok (.aload_n 0, 1) := by decide +kernel
theorem dX6_addSeen_12 : decode cX6_addSeen 12 = .ok (.getfield 60, 3) := by decide +kernel
theorem dX6_addSeen_15 : decode cX6_addSeen 15 = .ok (.aload_n 0, 1) := by decide +kernel
theorem dX6_addSeen_16 : decode cX6_addSeen 16 = .ok (.getfield 55, 3) := by decide +kernel
theorem dX6_addSeen_19 : decode cX6_addSeen 19 = .ok (.aaload, 1) := by decide +kernel
theorem dX6_addSeen_20 : decode cX6_addSeen 20 = .ok (.astore 5, 2) := by decide +kernel
theorem dX6_addSeen_22 : decode cX6_addSeen 22 = .ok (.aload 5, 2) := by decide +kernel
theorem dX6_addSeen_24 : decode cX6_addSeen 24 = .ok (.iconst 0, 1) := by decide +kernel
theorem dX6_addSeen_25 : decode cX6_addSeen 25 = .ok (.iload_n 1, 1) := by decide +kernel
theorem dX6_addSeen_26 : decode cX6_addSeen 26 = .ok (.iastore, 1) := by decide +kernel
theorem dX6_addSeen_27 : decode cX6_addSeen 27 = .ok (.aload 5, 2) := by decide +kernel
theorem dX6_addSeen_29 : decode cX6_addSeen 29 = .ok (.iconst 1, 1) := by decide +kernel
theorem dX6_addSeen_30 : decode cX6_addSeen 30 = .ok (.iload_n 2, 1) := by decide +kernel
theorem dX6_addSeen_31 : decode cX6_addSeen 31 = .ok (.iastore, 1) := by decide +kernel
theorem dX6_addSeen_32 : decode cX6_addSeen 32 = .ok (.aload 5, 2) := by decide +kernel
theorem dX6_addSeen_34 : decode cX6_addSeen 34 = .ok (.iconst 2, 1) := by decide +kernel
theorem dX6_addSeen_35 : decode cX6_addSeen 35 = .ok (.iload_n 3, 1) := by decide +kernel
theorem dX6_addSeen_36 : decode cX6_addSeen 36 = .ok (.iastore, 1) := by decide +kernel
theorem dX6_addSeen_37 : decode cX6_addSeen 37 = .ok (.aload 5, 2) := by decide +kernel
theorem dX6_addSeen_39 : decode cX6_addSeen 39 = .ok (.iconst 3, 1) := by decide +kernel
theorem dX6_addSeen_40 : decode cX6_addSeen 40 = .ok (.iload 4, 2) := by decide +kernel
theorem dX6_addSeen_42 : decode cX6_addSeen 42 = .ok (.ifCond .eq 7, 3) := by decide +kernel
theorem dX6_addSeen_45 : decode cX6_addSeen 45 = .ok (.iconst 1, 1) := by decide +kernel
theorem dX6_addSeen_46 : decode cX6_addSeen 46 = .ok (.goto 4, 3) := by decide +kernel
theorem dX6_addSeen_49 : decode cX6_addSeen 49 = .ok (.iconst 0, 1) := by decide +kernel
theorem dX6_addSeen_50 : decode cX6_addSeen 50 = .ok (.iastore, 1) := by decide +kernel
theorem dX6_addSeen_51 : decode cX6_addSeen 51 = .ok (.aload_n 0, 1) := by decide +kernel
theorem dX6_addSeen_52 : decode cX6_addSeen 52 = .ok (.dup, 1) := by decide +kernel
theorem dX6_addSeen_53 : decode cX6_addSeen 53 = .ok (.getfield 55, 3) := by decide +kernel
theorem dX6_addSeen_56 : decode cX6_addSeen 56 = .ok (.iconst 1, 1) := by decide +kernel
theorem dX6_addSeen_57 : decode cX6_addSeen 57 = .ok (.iadd, 1) := by decide +kernel
theorem dX6_addSeen_58 : decode cX6_addSeen 58 = .ok (.putfield 55, 3) := by decide +kernel
theorem dX6_addSeen_61 : decode cX6_addSeen 61 = .ok (.aload_n 0, 1) := by decide +kernel
theorem dX6_addSeen_62 : decode cX6_addSeen 62 = .ok (.getfield 55, 3) := by decide +kernel
theorem dX6_addSeen_65 : decode cX6_addSeen 65 = .ok (.ireturn, 1) := by decide +kernel
theorem dX6_addPlan_0 : decode cX6_addPlan 0 = .ok (.aload_n 0, 1) := by decide +kernel
theorem dX6_addPlan_1 : decode cX6_addPlan 1 = .ok (.getfield 63, 3) := by decide +kernel
theorem dX6_addPlan_4 : decode cX6_addPlan 4 = .ok (.bipush 10, 2) := by decide +kernel
theorem dX6_addPlan_6 : decode cX6_addPlan 6 = .ok (.if_icmp .lt 6, 3) := by decide +kernel
theorem dX6_addPlan_9 : decode cX6_addPlan 9 = .ok (.bipush (-4), 2) := by decide +kernel
theorem dX6_addPlan_11 : decode cX6_addPlan 11 = .ok (.ireturn, 1) := by decide +kernel
theorem dX6_addPlan_12 : decode cX6_addPlan 12 = .ok (.aload_n 0, 1) := by decide +kernel
theorem dX6_addPlan_13 : decode cX6_addPlan 13 = .ok (.getfield 66, 3) := by decide +kernel
theorem dX6_addPlan_16 : decode cX6_addPlan 16 = .ok (.aload_n 0, 1) := by decide +kernel
theorem dX6_addPlan_17 : decode cX6_addPlan 17 = .ok (.getfield 63, 3) := by decide +kernel
theorem dX6_addPlan_20 : decode cX6_addPlan 20 = .ok (.aaload, 1) := by decide +kernel
theorem dX6_addPlan_21 : decode cX6_addPlan 21 = .ok (.iconst 0, 1) := by decide +kernel
theorem dX6_addPlan_22 : decode cX6_addPlan 22 = .ok (.iload_n 1, 1) := by decide +kernel
theorem dX6_addPlan_23 : decode cX6_addPlan 23 = .ok (.iastore, 1) := by decide +kernel
theorem dX6_addPlan_24 : decode cX6_addPlan 24 = .ok (.aload_n 0, 1) := by decide +kernel
theorem dX6_addPlan_25 : decode cX6_addPlan 25 = .ok (.getfield 66, 3) := by decide +kernel
theorem dX6_addPlan_28 : decode cX6_addPlan 28 = .ok (.aload_n 0, 1) := by decide +kernel
theorem dX6_addPlan_29 : decode cX6_addPlan 29 = .ok (.getfield 63, 3) := by decide +kernel
theorem dX6_addPlan_32 : decode cX6_addPlan 32 = .ok (.aaload, 1) := by decide +kernel
theorem dX6_addPlan_33 : decode cX6_addPlan 33 = .ok (.iconst 1, 1) := by decide +kernel
theorem dX6_addPlan_34 : decode cX6_addPlan 34 = .ok (.iload_n 2, 1) := by decide +kernel
theorem dX6_addPlan_35 : decode cX6_addPlan 35 = .ok (.iastore, 1) := by decide +kernel
theorem dX6_addPlan_36 : decode cX6_addPlan 36 = .ok (.aload_n 0, 1) := by decide +kernel
theorem dX6_addPlan_37 : decode cX6_addPlan 37 = .ok (.dup, 1) := by decide +kernel
theorem dX6_addPlan_38 : decode cX6_addPlan 38 = .ok (.getfield 63, 3) := by decide +kernel
theorem dX6_addPlan_41 : decode cX6_addPlan 41 = .ok (.iconst 1, 1) := by decide +kernel
theorem dX6_addPlan_42 : decode cX6_addPlan 42 = .ok (.iadd, 1) := by decide +kernel
theorem dX6_addPlan_43 : decode cX6_addPlan 43 = .ok (.putfield 63, 3) := by decide +kernel
theorem dX6_addPlan_46 : decode cX6_addPlan 46 = .ok (.aload_n 0, 1) := by decide +kernel
theorem dX6_addPlan_47 : decode cX6_addPlan 47 = .ok (.getfield 63, 3) := by decide +kernel
theorem dX6_addPlan_50 : decode cX6_addPlan 50 = .ok (.ireturn, 1) := by decide +kernel
theorem dX6_addBook_0 : decode cX6_addBook 0 = .ok (.aload_n 0, 1) := by decide +kernel
theorem dX6_addBook_1 : decode cX6_addBook 1 = .ok (.getfield 69, 3) := by decide +kernel
theorem dX6_addBook_4 : decode cX6_addBook 4 = .ok (.bipush 8, 2) := by decide +kernel
theorem dX6_addBook_6 : decode cX6_addBook 6 = .ok (.if_icmp .lt 6, 3) := by decide +kernel
theorem dX6_addBook_9 : decode cX6_addBook 9 = .ok (.bipush (-4), 2) := by decide +kernel
theorem dX6_addBook_11 : decode cX6_addBook 11 = .ok (.ireturn, 1) := by decide +kernel
theorem dX6_addBook_12 : decode cX6_addBook 12 = .ok (.aload_n 0, 1) := by decide +kernel
theorem dX6_addBook_13 : decode cX6_addBook 13 = .ok (.getfield 72, 3) := by decide +kernel
theorem dX6_addBook_16 : decode cX6_addBook 16 = .ok (.aload_n 0, 1) := by decide +kernel
theorem dX6_addBook_17 : decode cX6_addBook 17 = .ok (.getfield 69, 3) := by decide +kernel
theorem dX6_addBook_20 : decode cX6_addBook 20 = .ok (.aaload, 1) := by decide +kernel
theorem dX6_addBook_21 : decode cX6_addBook 21 = .ok (.iconst 0, 1) := by decide +kernel
theorem dX6_addBook_22 : decode cX6_addBook 22 = .ok (.iload_n 1, 1) := by decide +kernel
theorem dX6_addBook_23 : decode cX6_addBook 23 = .ok (.iastore, 1) := by decide +kernel
theorem dX6_addBook_24 : decode cX6_addBook 24 = .ok (.aload_n 0, 1) := by decide +kernel
theorem dX6_addBook_25 : decode cX6_addBook 25 = .ok (.getfield 72, 3) := by decide +kernel
theorem dX6_addBook_28 : decode cX6_addBook 28 = .ok (.aload_n 0, 1) := by decide +kernel
theorem dX6_addBook_29 : decode cX6_addBook 29 = .ok (.getfield 69, 3) := by decide +kernel
theorem dX6_addBook_32 : decode cX6_addBook 32 = .ok (.aaload, 1) := by decide +kernel
theorem dX6_addBook_33 : decode cX6_addBook 33 = .ok (.iconst 1, 1) := by decide +kernel
theorem dX6_addBook_34 : decode cX6_addBook 34 = .ok (.iload_n 2, 1) := by decide +kernel
theorem dX6_addBook_35 : decode cX6_addBook 35 = .ok (.iastore, 1) := by decide +kernel
theorem dX6_addBook_36 : decode cX6_addBook 36 = .ok (.aload_n 0, 1) := by decide +kernel
theorem dX6_addBook_37 : decode cX6_addBook 37 = .ok (.dup, 1) := by decide +kernel
theorem dX6_addBook_38 : decode cX6_addBook 38 = .ok (.getfield 69, 3) := by decide +kernel
theorem dX6_addBook_41 : decode cX6_addBook 41 = .ok (.iconst 1, 1) := by decide +kernel
theorem dX6_addBook_42 : decode cX6_addBook 42 = .ok (.iadd, 1) := by decide +kernel
theorem dX6_addBook_43 : decode cX6_addBook 43 = .ok (.putfield 69, 3) := by decide +kernel
theorem dX6_addBook_46 : decode cX6_addBook 46 = .ok (.aload_n 0, 1) := by decide +kernel
theorem dX6_addBook_47 : decode cX6_addBook 47 = .ok (.getfield 69, 3) := by decide +kernel
theorem dX6_addBook_50 : decode cX6_addBook 50 = .ok (.ireturn, 1) := by decide +kernel
theorem dX6_doneWith_0 : decode cX6_doneWith 0 = .ok (.iconst 0, 1) := by decide +kernel
theorem dX6_doneWith_1 : decode cX6_doneWith 1 = .ok (.istore_n 2, 1) := by decide +kernel
theorem dX6_doneWith_2 : decode cX6_doneWith 2 = .ok (.iconst 0, 1) := by decide +kernel
theorem dX6_doneWith_3 : decode cX6_doneWith 3 = .ok (.istore_n 3, 1) := by decide +kernel
theorem dX6_doneWith_4 : decode cX6_doneWith 4 = .ok (.iload_n 3, 1) := by decide +kernel
theorem dX6_doneWith_5 : decode cX6_doneWith 5 = .ok (.aload_n 0, 1) := by decide +kernel
theorem dX6_doneWith_6 : decode cX6_doneWith 6 = .ok (.getfield 28, 3) := by decide +kernel
theorem dX6_doneWith_9 : decode cX6_doneWith 9 = .ok (.if_icmp .ge 48, 3) := by decide +kernel
theorem dX6_doneWith_12 : decode cX6_doneWith 12 = .ok (.aload_n 0, 1) := by decide +kernel
theorem dX6_doneWith_13 : decode cX6_doneWith 13 = .ok (.getfield 31, 3) := by decide +kernel
theorem dX6_doneWith_16 : decode cX6_doneWith 16 = .ok (.iload_n 3, 1) := by decide +kernel
theorem dX6_doneWith_17 : decode cX6_doneWith 17 = .ok (.iaload, 1) := by decide +kernel
theorem dX6_doneWith_18 : decode cX6_doneWith 18 = .ok (.istore 4, 2) := by decide +kernel
theorem dX6_doneWith_20 : decode cX6_doneWith 20 = .ok (.aload_n 0, 1) := by decide +kernel
theorem dX6_doneWith_21 : decode cX6_doneWith 21 = .ok (.iload 4, 2) := by decide +kernel
theorem dX6_doneWith_23 : decode cX6_doneWith 23 = .ok (.invokevirtual 75, 3) := by decide +kernel
theorem dX6_doneWith_26 : decode cX6_doneWith 26 = .ok (.ifCond .eq 25, 3) := by decide +kernel
theorem dX6_doneWith_29 : decode cX6_doneWith 29 = .ok (.aload_n 0, 1) := by decide +kernel
theorem dX6_doneWith_30 : decode cX6_doneWith 30 = .ok (.getfield 34, 3) := by decide +kernel
theorem dX6_doneWith_33 : decode cX6_doneWith 33 = .ok (.iload_n 3, 1) := by decide +kernel
theorem dX6_doneWith_34 : decode cX6_doneWith 34 = .ok (.iaload, 1) := by decide +kernel
theorem dX6_doneWith_35 : decode cX6_doneWith 35 = .ok (.aload_n 1, 1) := by decide +kernel
theorem dX6_doneWith_36 : decode cX6_doneWith 36 = .ok (.iload 4, 2) := by decide +kernel
theorem dX6_doneWith_38 : decode cX6_doneWith 38 = .ok (.iaload, 1) := by decide +kernel
theorem dX6_doneWith_39 : decode cX6_doneWith 39 = .ok (.iconst (-1), 1) := by decide +kernel
theorem dX6_doneWith_40 : decode cX6_doneWith 40 = .ok (.ixor, 1) := by decide +kernel
theorem dX6_doneWith_41 : decode cX6_doneWith 41 = .ok (.iand, 1) := by decide +kernel
theorem dX6_doneWith_42 : decode cX6_doneWith 42 = .ok (.ifCond .ne 9, 3) := by decide +kernel
theorem dX6_doneWith_45 : decode cX6_doneWith 45 = .ok (.iload_n 2, 1) := by decide +kernel
theorem dX6_doneWith_46 : decode cX6_doneWith 46 = .ok (.iconst 1, 1) := by decide +kernel
theorem dX6_doneWith_47 : decode cX6_doneWith 47 = .ok (.iload_n 3, 1) := by decide +kernel
theorem dX6_doneWith_48 : decode cX6_doneWith 48 = .ok (.ishl, 1) := by decide +kernel
theorem dX6_doneWith_49 : decode cX6_doneWith 49 = .ok (.ior, 1) := by decide +kernel
theorem dX6_doneWith_50 : decode cX6_doneWith 50 = .ok (.istore_n 2, 1) := by decide +kernel
theorem dX6_doneWith_51 : decode cX6_doneWith 51 = .ok (.iinc 3 1, 3) := by decide +kernel
theorem dX6_doneWith_54 : decode cX6_doneWith 54 = .ok (.goto (-50), 3) := by decide +kernel
theorem dX6_doneWith_57 : decode cX6_doneWith 57 = .ok (.iload_n 2, 1) := by decide +kernel
theorem dX6_doneWith_58 : decode cX6_doneWith 58 = .ok (.ireturn, 1) := by decide +kernel
theorem dX6_knownIn_0 : decode cX6_knownIn 0 = .ok (.iconst 0, 1) := by decide +kernel
theorem dX6_knownIn_1 : decode cX6_knownIn 1 = .ok (.istore_n 2, 1) := by decide +kernel
theorem dX6_knownIn_2 : decode cX6_knownIn 2 = .ok (.iconst 0, 1) := by decide +kernel
theorem dX6_knownIn_3 : decode cX6_knownIn 3 = .ok (.istore_n 3, 1) := by decide +kernel
theorem dX6_knownIn_4 : decode cX6_knownIn 4 = .ok (.iload_n 3, 1) := by decide +kernel
theorem dX6_knownIn_5 : decode cX6_knownIn 5 = .ok (.aload_n 0, 1) := by decide +kernel
theorem dX6_knownIn_6 : decode cX6_knownIn 6 = .ok (.getfield 9, 3) := by decide +kernel
theorem dX6_knownIn_9 : decode cX6_knownIn 9 = .ok (.if_icmp .ge 18, 3) := by decide +kernel
theorem dX6_knownIn_12 : decode cX6_knownIn 12 = .ok (.iload_n 2, 1) := by decide +kernel
theorem dX6_knownIn_13 : decode cX6_knownIn 13 = .ok (.aload_n 1, 1) := by decide +kernel
theorem dX6_knownIn_14 : decode cX6_knownIn 14 = .ok (.iload_n 3, 1) := by decide +kernel
theorem dX6_knownIn_15 : decode cX6_knownIn 15 = .ok (.iaload, 1) := by decide +kernel
theorem dX6_knownIn_16 : decode cX6_knownIn 16 = .ok (.invokestatic 79, 3) := by decide +kernel
theorem dX6_knownIn_19 : decode cX6_knownIn 19 = .ok (.iadd, 1) := by decide +kernel
theorem dX6_knownIn_20 : decode cX6_knownIn 20 = .ok (.istore_n 2, 1) := by decide +kernel
theorem dX6_knownIn_21 : decode cX6_knownIn 21 = .ok (.iinc 3 1, 3) := by decide +kernel
theorem dX6_knownIn_24 : decode cX6_knownIn 24 = .ok (.goto (-20), 3) := by decide +kernel
theorem dX6_knownIn_27 : decode cX6_knownIn 27 = .ok (.iload_n 2, 1) := by decide +kernel
theorem dX6_knownIn_28 : decode cX6_knownIn 28 = .ok (.ireturn, 1) := by decide +kernel
theorem dX6_takenBy_0 : decode cX6_takenBy 0 = .ok (.iconst 0, 1) := by decide +kernel
theorem dX6_takenBy_1 : decode cX6_takenBy 1 = .ok (.istore_n 3, 1) := by decide +kernel
theorem dX6_takenBy_2 : decode cX6_takenBy 2 = .ok (.iconst 0, 1) := by decide +kernel
theorem dX6_takenBy_3 : decode cX6_takenBy 3 = .ok (.istore 4, 2) := by decide +kernel
theorem dX6_takenBy_5 : decode cX6_takenBy 5 = .ok (.iload 4, 2) := by decide +kernel
theorem dX6_takenBy_7 : decode cX6_takenBy 7 = .ok (.aload_n 0, 1) := by decide +kernel
theorem dX6_takenBy_8 : decode cX6_takenBy 8 = .ok (.getfield 28, 3) := by decide +kernel
theorem dX6_takenBy_11 : decode cX6_takenBy 11 = .ok (.if_icmp .ge 46, 3) := by decide +kernel
theorem dX6_takenBy_14 : decode cX6_takenBy 14 = .ok (.aload_n 0, 1) := by decide +kernel
theorem dX6_takenBy_15 : decode cX6_takenBy 15 = .ok (.getfield 31, 3) := by decide +kernel
theorem dX6_takenBy_18 : decode cX6_takenBy 18 = .ok (.iload 4, 2) := by decide +kernel
theorem dX6_takenBy_20 : decode cX6_takenBy 20 = .ok (.iaload, 1) := by decide +kernel
theorem dX6_takenBy_21 : decode cX6_takenBy 21 = .ok (.iload_n 1, 1) := by decide +kernel
theorem dX6_takenBy_22 : decode cX6_takenBy 22 = .ok (.if_icmp .ne 29, 3) := by decide +kernel
theorem dX6_takenBy_25 : decode cX6_takenBy 25 = .ok (.iload_n 2, 1) := by decide +kernel
theorem dX6_takenBy_26 : decode cX6_takenBy 26 = .ok (.iconst (-1), 1) := by decide +kernel
theorem dX6_takenBy_27 : decode cX6_takenBy 27 = .ok (.if_icmp .eq 14, 3) := by decide +kernel
theorem dX6_takenBy_30 : decode cX6_takenBy 30 = .ok (.aload_n 0, 1) := by decide +kernel
theorem dX6_takenBy_31 : decode cX6_takenBy 31 = .ok (.getfield 37, 3) := by decide +kernel
theorem dX6_takenBy_34 : decode cX6_takenBy 34 = .ok (.iload 4, 2) := by decide +kernel
theorem dX6_takenBy_36 : decode cX6_takenBy 36 = .ok (.iaload, 1) := by decide +kernel
theorem dX6_takenBy_37 : decode cX6_takenBy 37 = .ok (.iload_n 2, 1) := by decide +kernel
theorem dX6_takenBy_38 : decode cX6_takenBy 38 = .ok (.if_icmp .ne 13, 3) := by decide +kernel
theorem dX6_takenBy_41 : decode cX6_takenBy 41 = .ok (.iload_n 3, 1) := by decide +kernel
theorem dX6_takenBy_42 : decode cX6_takenBy 42 = .ok (.aload_n 0, 1) := by decide +kernel
theorem dX6_takenBy_43 : decode cX6_takenBy 43 = .ok (.getfield 34, 3) := by decide +kernel
theorem dX6_takenBy_46 : decode cX6_takenBy 46 = .ok (.iload 4, 2) := by decide +kernel
theorem dX6_takenBy_48 : decode cX6_takenBy 48 = .ok (.iaload, 1) := by decide +kernel
theorem dX6_takenBy_49 : decode cX6_takenBy 49 = .ok (.ior, 1) := by decide +kernel
theorem dX6_takenBy_50 : decode cX6_takenBy 50 = .ok (.istore_n 3, 1) := by decide +kernel
theorem dX6_takenBy_51 : decode cX6_takenBy 51 = .ok (.iinc 4 1, 3) := by decide +kernel
theorem dX6_takenBy_54 : decode cX6_takenBy 54 = .ok (.goto (-49), 3) := by decide +kernel
theorem dX6_takenBy_57 : decode cX6_takenBy 57 = .ok (.iload_n 3, 1) := by decide +kernel
theorem dX6_takenBy_58 : decode cX6_takenBy 58 = .ok (.ireturn, 1) := by decide +kernel
theorem dX6_heldWithout_0 : decode cX6_heldWithout 0 = .ok (.iconst 0, 1) := by decide +kernel
theorem dX6_heldWithout_1 : decode cX6_heldWithout 1 = .ok (.istore_n 2, 1) := by decide +kernel
theorem dX6_heldWithout_2 : decode cX6_heldWithout 2 = .ok (.iconst 0, 1) := by decide +kernel
theorem dX6_heldWithout_3 : decode cX6_heldWithout 3 = .ok (.istore_n 3, 1) := by decide +kernel
theorem dX6_heldWithout_4 : decode cX6_heldWithout 4 = .ok (.iload_n 3, 1) := by decide +kernel
theorem dX6_heldWithout_5 : decode cX6_heldWithout 5 = .ok (.aload_n 0, 1) := by decide +kernel
theorem dX6_heldWithout_6 : decode cX6_heldWithout 6 = .ok (.getfield 40, 3) := by decide +kernel
theorem dX6_heldWithout_9 : decode cX6_heldWithout 9 = .ok (.if_icmp .ge 31, 3) := by decide +kernel
theorem dX6_heldWithout_12 : decode cX6_heldWithout 12 = .ok (.iload_n 3, 1) := by decide +kernel
theorem dX6_heldWithout_13 : decode cX6_heldWithout 13 = .ok (.iload_n 1, 1) := by decide +kernel
theorem dX6_heldWithout_14 : decode cX6_heldWithout 14 = .ok (.if_icmp .eq 20, 3) := by decide +kernel
theorem dX6_heldWithout_17 : decode cX6_heldWithout 17 = .ok (.aload_n 0, 1) := by decide +kernel
theorem dX6_heldWithout_18 : decode cX6_heldWithout 18 = .ok (.iload_n 3, 1) := by decide +kernel
theorem dX6_heldWithout_19 : decode cX6_heldWithout 19 = .ok (.invokevirtual 85, 3) := by decide +kernel
theorem dX6_heldWithout_22 : decode cX6_heldWithout 22 = .ok (.ifCond .ne 12, 3) := by decide +kernel
theorem dX6_heldWithout_25 : decode cX6_heldWithout 25 = .ok (.iload_n 2, 1) := by decide +kernel
theorem dX6_heldWithout_26 : decode cX6_heldWithout 26 = .ok (.aload_n 0, 1) := by decide +kernel
theorem dX6_heldWithout_27 : decode cX6_heldWithout 27 = .ok (.getfield 43, 3) := by decide +kernel
theorem dX6_heldWithout_30 : decode cX6_heldWithout 30 = .ok (.iload_n 3, 1) := by decide +kernel
theorem dX6_heldWithout_31 : decode cX6_heldWithout 31 = .ok (.iaload, 1) := by decide +kernel
theorem dX6_heldWithout_32 : decode cX6_heldWithout 32 = .ok (.ior, 1) := by decide +kernel
theorem dX6_heldWithout_33 : decode cX6_heldWithout 33 = .ok (.istore_n 2, 1) := by decide +kernel
theorem dX6_heldWithout_34 : decode cX6_heldWithout 34 = .ok (.iinc 3 1, 3) := by decide +kernel
theorem dX6_heldWithout_37 : decode cX6_heldWithout 37 = .ok (.goto (-33), 3) := by decide +kernel
theorem dX6_heldWithout_40 : decode cX6_heldWithout 40 = .ok (.iload_n 2, 1) := by decide +kernel
theorem dX6_heldWithout_41 : decode cX6_heldWithout 41 = .ok (.ireturn, 1) := by decide +kernel
theorem dX6_heldByCrew_0 : decode cX6_heldByCrew 0 = .ok (.iconst 0, 1) := by decide +kernel
theorem dX6_heldByCrew_1 : decode cX6_heldByCrew 1 = .ok (.istore_n 2, 1) := by decide +kernel
theorem dX6_heldByCrew_2 : decode cX6_heldByCrew 2 = .ok (.iconst 0, 1) := by decide +kernel
theorem dX6_heldByCrew_3 : decode cX6_heldByCrew 3 = .ok (.istore_n 3, 1) := by decide +kernel
theorem dX6_heldByCrew_4 : decode cX6_heldByCrew 4 = .ok (.iload_n 3, 1) := by decide +kernel
theorem dX6_heldByCrew_5 : decode cX6_heldByCrew 5 = .ok (.aload_n 0, 1) := by decide +kernel
theorem dX6_heldByCrew_6 : decode cX6_heldByCrew 6 = .ok (.getfield 40, 3) := by decide +kernel
theorem dX6_heldByCrew_9 : decode cX6_heldByCrew 9 = .ok (.if_icmp .ge 26, 3) := by decide +kernel
theorem dX6_heldByCrew_12 : decode cX6_heldByCrew 12 = .ok (.iload_n 1, 1) := by decide +kernel
theorem dX6_heldByCrew_13 : decode cX6_heldByCrew 13 = .ok (.iload_n 3, 1) := by decide +kernel
theorem dX6_heldByCrew_14 : decode cX6_heldByCrew 14 = .ok (.ishr, 1) := by decide +kernel
theorem dX6_heldByCrew_15 : decode cX6_heldByCrew 15 = .ok (.iconst 1, 1) := by decide +kernel
theorem dX6_heldByCrew_16 : decode cX6_heldByCrew 16 = .ok (.iand, 1) := by decide +kernel
theorem dX6_heldByCrew_17 : decode cX6_heldByCrew 17 = .ok (.ifCond .eq 12, 3) := by decide +kernel
theorem dX6_heldByCrew_20 : decode cX6_heldByCrew 20 = .ok (.iload_n 2, 1) := by decide +kernel
theorem dX6_heldByCrew_21 : decode cX6_heldByCrew 21 = .ok (.aload_n 0, 1) := by decide +kernel
theorem dX6_heldByCrew_22 : decode cX6_heldByCrew 22 = .ok (.getfield 43, 3) := by decide +kernel
theorem dX6_heldByCrew_25 : decode cX6_heldByCrew 25 = .ok (.iload_n 3, 1) := by decide +kernel
theorem dX6_heldByCrew_26 : decode cX6_heldByCrew 26 = .ok (.iaload, 1) := by decide +kernel
theorem dX6_heldByCrew_27 : decode cX6_heldByCrew 27 = .ok (.ior, 1) := by decide +kernel
theorem dX6_heldByCrew_28 : decode cX6_heldByCrew 28 = .ok (.istore_n 2, 1) := by decide +kernel
theorem dX6_heldByCrew_29 : decode cX6_heldByCrew 29 = .ok (.iinc 3 1, 3) := by decide +kernel
theorem dX6_heldByCrew_32 : decode cX6_heldByCrew 32 = .ok (.goto (-28), 3) := by decide +kernel
theorem dX6_heldByCrew_35 : decode cX6_heldByCrew 35 = .ok (.iload_n 2, 1) := by decide +kernel
theorem dX6_heldByCrew_36 : decode cX6_heldByCrew 36 = .ok (.ireturn, 1) := by decide +kernel
theorem dX6_smallestCrew_0 : decode cX6_smallestCrew 0 = .ok (.aload_n 0, 1) := by decide +kernel
theorem dX6_smallestCrew_1 : decode cX6_smallestCrew 1 = .ok (.iconst (-1), 1) := by decide +kernel
theorem dX6_smallestCrew_2 : decode cX6_smallestCrew 2 = .ok (.invokevirtual 88, 3) := by decide +kernel
theorem dX6_smallestCrew_5 : decode cX6_smallestCrew 5 = .ok (.istore_n 1, 1) := by decide +kernel
theorem dX6_smallestCrew_6 : decode cX6_smallestCrew 6 = .ok (.iconst 1, 1) := by decide +kernel
theorem dX6_smallestCrew_7 : decode cX6_smallestCrew 7 = .ok (.aload_n 0, 1) := by decide +kernel
theorem dX6_smallestCrew_8 : decode cX6_smallestCrew 8 = .ok (.getfield 40, 3) := by decide +kernel
theorem dX6_smallestCrew_11 : decode cX6_smallestCrew 11 = .ok (.ishl, 1) := by decide +kernel
theorem dX6_smallestCrew_12 : decode cX6_smallestCrew 12 = .ok (.iconst 1, 1) := by decide +kernel
theorem dX6_smallestCrew_13 : decode cX6_smallestCrew 13 = .ok (.isub, 1) := by decide +kernel
theorem dX6_smallestCrew_14 : decode cX6_smallestCrew 14 = .ok (.aload_n 0, 1) := by decide +kernel
theorem dX6_smallestCrew_15 : decode cX6_smallestCrew 15 = .ok (.getfield 46, 3) := by decide +kernel
theorem dX6_smallestCrew_18 : decode cX6_smallestCrew 18 = .ok (.iconst (-1), 1) := by decide +kernel
theorem dX6_smallestCrew_19 : decode cX6_smallestCrew 19 = .ok (.ixor, 1) := by decide +kernel
theorem dX6_smallestCrew_20 : decode cX6_smallestCrew 20 = .ok (.iand, 1) := by decide +kernel
theorem dX6_smallestCrew_21 : decode cX6_smallestCrew 21 = .ok (.istore_n 2, 1) := by decide +kernel
theorem dX6_smallestCrew_22 : decode cX6_smallestCrew 22 = .ok (.iload_n 2, 1) := by decide +kernel
theorem dX6_smallestCrew_23 : decode cX6_smallestCrew 23 = .ok (.istore_n 3, 1) := by decide +kernel
theorem dX6_smallestCrew_24 : decode cX6_smallestCrew 24 = .ok (.iload_n 3, 1) := by decide +kernel
theorem dX6_smallestCrew_25 : decode cX6_smallestCrew 25 = .ok (.ifCond .lt 64, 3) := by decide +kernel
theorem dX6_smallestCrew_28 : decode cX6_smallestCrew 28 = .ok (.iload_n 3, 1) := by decide +kernel
theorem dX6_smallestCrew_29 : decode cX6_smallestCrew 29 = .ok (.aload_n 0, 1) := by decide +kernel
theorem dX6_smallestCrew_30 : decode cX6_smallestCrew 30 = .ok (.getfield 46, 3) := by decide +kernel
theorem dX6_smallestCrew_33 : decode cX6_smallestCrew 33 = .ok (.iand, 1) := by decide +kernel
theorem dX6_smallestCrew_34 : decode cX6_smallestCrew 34 = .ok (.ifCond .ne 7, 3) := by decide +kernel
theorem dX6_smallestCrew_37 : decode cX6_smallestCrew 37 = .ok (.iconst 1, 1) := by decide +kernel
theorem dX6_smallestCrew_38 : decode cX6_smallestCrew 38 = .ok (.goto 4, 3) := by decide +kernel
theorem dX6_smallestCrew_41 : decode cX6_smallestCrew 41 = .ok (.iconst 0, 1) := by decide +kernel
theorem dX6_smallestCrew_42 : decode cX6_smallestCrew 42 = .ok (.istore 4, 2) := by decide +kernel
theorem dX6_smallestCrew_44 : decode cX6_smallestCrew 44 = .ok (.iload_n 3, 1) := by decide +kernel
theorem dX6_smallestCrew_45 : decode cX6_smallestCrew 45 = .ok (.invokestatic 79, 3) := by decide +kernel
theorem dX6_smallestCrew_48 : decode cX6_smallestCrew 48 = .ok (.iload_n 2, 1) := by decide +kernel
theorem dX6_smallestCrew_49 : decode cX6_smallestCrew 49 = .ok (.invokestatic 79, 3) := by decide +kernel
theorem dX6_smallestCrew_52 : decode cX6_smallestCrew 52 = .ok (.if_icmp .gt 7, 3) := by decide +kernel
theorem dX6_smallestCrew_55 : decode cX6_smallestCrew 55 = .ok (.iconst 1, 1) := by decide +kernel
theorem dX6_smallestCrew_56 : decode cX6_smallestCrew 56 = .ok (.goto 4, 3) := by decide +kernel
theorem dX6_smallestCrew_59 : decode cX6_smallestCrew 59 = .ok (.iconst 0, 1) := by decide +kernel
theorem dX6_smallestCrew_60 : decode cX6_smallestCrew 60 = .ok (.istore 5, 2) := by decide +kernel
theorem dX6_smallestCrew_62 : decode cX6_smallestCrew 62 = .ok (.iload 4, 2) := by decide +kernel
theorem dX6_smallestCrew_64 : decode cX6_smallestCrew 64 = .ok (.ifCond .eq 19, 3) := by decide +kernel
theorem dX6_smallestCrew_67 : decode cX6_smallestCrew 67 = .ok (.iload 5, 2) := by decide +kernel
theorem dX6_smallestCrew_69 : decode cX6_smallestCrew 69 = .ok (.ifCond .eq 14, 3) := by decide +kernel
theorem dX6_smallestCrew_72 : decode cX6_smallestCrew 72 = .ok (.aload_n 0, 1) := by decide +kernel
theorem dX6_smallestCrew_73 : decode cX6_smallestCrew 73 = .ok (.iload_n 3, 1) := by decide +kernel
theorem dX6_smallestCrew_74 : decode cX6_smallestCrew 74 = .ok (.invokevirtual 91, 3) := by decide +kernel
theorem dX6_smallestCrew_77 : decode cX6_smallestCrew 77 = .ok (.iload_n 1, 1) := by decide +kernel
theorem dX6_smallestCrew_78 : decode cX6_smallestCrew 78 = .ok (.if_icmp .ne 5, 3) := by decide +kernel
theorem dX6_smallestCrew_81 : decode cX6_smallestCrew 81 = .ok (.iload_n 3, 1) := by decide +kernel
theorem dX6_smallestCrew_82 : decode cX6_smallestCrew 82 = .ok (.istore_n 2, 1) := by decide +kernel
theorem dX6_smallestCrew_83 : decode cX6_smallestCrew 83 = .ok (.iinc 3 (-1), 3) := by decide +kernel
theorem dX6_smallestCrew_86 : decode cX6_smallestCrew 86 = .ok (.goto (-62), 3) := by decide +kernel
theorem dX6_smallestCrew_89 : decode cX6_smallestCrew 89 = .ok (.iload_n 2, 1) := by decide +kernel
theorem dX6_smallestCrew_90 : decode cX6_smallestCrew 90 = .ok (.ireturn, 1) := by decide +kernel
theorem dX6_lostWith_0 : decode cX6_lostWith 0 = .ok (.aload_n 0, 1) := by decide +kernel
theorem dX6_lostWith_1 : decode cX6_lostWith 1 = .ok (.iload_n 1, 1) := by decide +kernel
theorem dX6_lostWith_2 : decode cX6_lostWith 2 = .ok (.invokevirtual 85, 3) := by decide +kernel
theorem dX6_lostWith_5 : decode cX6_lostWith 5 = .ok (.ifCond .eq 7, 3) := by decide +kernel
theorem dX6_lostWith_8 : decode cX6_lostWith 8 = .ok (.iconst 0, 1) := by decide +kernel
theorem dX6_lostWith_9 : decode cX6_lostWith 9 = .ok (.goto 17, 3) := by decide +kernel
theorem dX6_lostWith_12 : decode cX6_lostWith 12 = .ok (.aload_n 0, 1) := by decide +kernel
theorem dX6_lostWith_13 : decode cX6_lostWith 13 = .ok (.getfield 43, 3) := by decide +kernel
theorem dX6_lostWith_16 : decode cX6_lostWith 16 = .ok (.iload_n 1, 1) := by decide +kernel
theorem dX6_lostWith_17 : decode cX6_lostWith 17 = .ok (.iaload, 1) := by decide +kernel
theorem dX6_lostWith_18 : decode cX6_lostWith 18 = .ok (.aload_n 0, 1) := by decide +kernel
theorem dX6_lostWith_19 : decode cX6_lostWith 19 = .ok (.iload_n 1, 1) := by decide +kernel
theorem dX6_lostWith_20 : decode cX6_lostWith 20 = .ok (.invokevirtual 88, 3) := by decide +kernel
theorem dX6_lostWith_23 : decode cX6_lostWith 23 = .ok (.iconst (-1), 1) := by decide +kernel
theorem dX6_lostWith_24 : decode cX6_lostWith 24 = .ok (.ixor, 1) := by decide +kernel
theorem dX6_lostWith_25 : decode cX6_lostWith 25 = .ok (.iand, 1) := by decide +kernel
theorem dX6_lostWith_26 : decode cX6_lostWith 26 = .ok (.ireturn, 1) := by decide +kernel
theorem dX6_isSafe_0 : decode cX6_isSafe 0 = .ok (.iconst 0, 1) := by decide +kernel
theorem dX6_isSafe_1 : decode cX6_isSafe 1 = .ok (.istore_n 1, 1) := by decide +kernel
theorem dX6_isSafe_2 : decode cX6_isSafe 2 = .ok (.iload_n 1, 1) := by decide +kernel
theorem dX6_isSafe_3 : decode cX6_isSafe 3 = .ok (.aload_n 0, 1) := by decide +kernel
theorem dX6_isSafe_4 : decode cX6_isSafe 4 = .ok (.getfield 40, 3) := by decide +kernel
theorem dX6_isSafe_7 : decode cX6_isSafe 7 = .ok (.if_icmp .ge 19, 3) := by decide +kernel
theorem dX6_isSafe_10 : decode cX6_isSafe 10 = .ok (.aload_n 0, 1) := by decide +kernel
theorem dX6_isSafe_11 : decode cX6_isSafe 11 = .ok (.iload_n 1, 1) := by decide +kernel
theorem dX6_isSafe_12 : decode cX6_isSafe 12 = .ok (.invokevirtual 94, 3) := by decide +kernel
theorem dX6_isSafe_15 : decode cX6_isSafe 15 = .ok (.ifCond .eq 5, 3) := by decide +kernel
theorem dX6_isSafe_18 : decode cX6_isSafe 18 = .ok (.iconst 0, 1) := by decide +kernel
theorem dX6_isSafe_19 : decode cX6_isSafe 19 = .ok (.ireturn, 1) := by decide +kernel
theorem dX6_isSafe_20 : decode cX6_isSafe 20 = .ok (.iinc 1 1, 3) := by decide +kernel
theorem dX6_isSafe_23 : decode cX6_isSafe 23 = .ok (.goto (-21), 3) := by decide +kernel
theorem dX6_isSafe_26 : decode cX6_isSafe 26 = .ok (.iconst 1, 1) := by decide +kernel
theorem dX6_isSafe_27 : decode cX6_isSafe 27 = .ok (.ireturn, 1) := by decide +kernel
theorem dX6_copyFrom_0 : decode cX6_copyFrom 0 = .ok (.aload_n 0, 1) := by decide +kernel
theorem dX6_copyFrom_1 : decode cX6_copyFrom 1 = .ok (.aload_n 1, 1) := by decide +kernel
theorem dX6_copyFrom_2 : decode cX6_copyFrom 2 = .ok (.getfield 9, 3) := by decide +kernel
theorem dX6_copyFrom_5 : decode cX6_copyFrom 5 = .ok (.putfield 9, 3) := by decide +kernel
theorem dX6_copyFrom_8 : decode cX6_copyFrom 8 = .ok (.aload_n 1, 1) := by decide +kernel
theorem dX6_copyFrom_9 : decode cX6_copyFrom 9 = .ok (.getfield 15, 3) := by decide +kernel
theorem dX6_copyFrom_12 : decode cX6_copyFrom 12 = .ok (.aload_n 0, 1) := by decide +kernel
theorem dX6_copyFrom_13 : decode cX6_copyFrom 13 = .ok (.getfield 15, 3) := by decide +kernel
theorem dX6_copyFrom_16 : decode cX6_copyFrom 16 = .ok (.invokestatic 97, 3) := by decide +kernel
theorem dX6_copyFrom_19 : decode cX6_copyFrom 19 = .ok (.aload_n 1, 1) := by decide +kernel
theorem dX6_copyFrom_20 : decode cX6_copyFrom 20 = .ok (.getfield 19, 3) := by decide +kernel
theorem dX6_copyFrom_23 : decode cX6_copyFrom 23 = .ok (.aload_n 0, 1) := by decide +kernel
theorem dX6_copyFrom_24 : decode cX6_copyFrom 24 = .ok (.getfield 19, 3) := by decide +kernel
theorem dX6_copyFrom_27 : decode cX6_copyFrom 27 = .ok (.invokestatic 97, 3) := by decide +kernel
theorem dX6_copyFrom_30 : decode cX6_copyFrom 30 = .ok (.aload_n 1, 1) := by decide +kernel
theorem dX6_copyFrom_31 : decode cX6_copyFrom 31 = .ok (.getfield 22, 3) := by decide +kernel
theorem dX6_copyFrom_34 : decode cX6_copyFrom 34 = .ok (.aload_n 0, 1) := by decide +kernel
theorem dX6_copyFrom_35 : decode cX6_copyFrom 35 = .ok (.getfield 22, 3) := by decide +kernel
theorem dX6_copyFrom_38 : decode cX6_copyFrom 38 = .ok (.invokestatic 97, 3) := by decide +kernel
theorem dX6_copyFrom_41 : decode cX6_copyFrom 41 = .ok (.aload_n 1, 1) := by decide +kernel
theorem dX6_copyFrom_42 : decode cX6_copyFrom 42 = .ok (.getfield 25, 3) := by decide +kernel
theorem dX6_copyFrom_45 : decode cX6_copyFrom 45 = .ok (.aload_n 0, 1) := by decide +kernel
theorem dX6_copyFrom_46 : decode cX6_copyFrom 46 = .ok (.getfield 25, 3) := by decide +kernel
theorem dX6_copyFrom_49 : decode cX6_copyFrom 49 = .ok (.invokestatic 97, 3) := by decide +kernel
theorem dX6_copyFrom_52 : decode cX6_copyFrom 52 = .ok (.aload_n 0, 1) := by decide +kernel
theorem dX6_copyFrom_53 : decode cX6_copyFrom 53 = .ok (.aload_n 1, 1) := by decide +kernel
theorem dX6_copyFrom_54 : decode cX6_copyFrom 54 = .ok (.getfield 28, 3) := by decide +kernel
theorem dX6_copyFrom_57 : decode cX6_copyFrom 57 = .ok (.putfield 28, 3) := by decide +kernel
theorem dX6_copyFrom_60 : decode cX6_copyFrom 60 = .ok (.aload_n 1, 1) := by decide +kernel
theorem dX6_copyFrom_61 : decode cX6_copyFrom 61 = .ok (.getfield 31, 3) := by decide +kernel
theorem dX6_copyFrom_64 : decode cX6_copyFrom 64 = .ok (.aload_n 0, 1) := by decide +kernel
theorem dX6_copyFrom_65 : decode cX6_copyFrom 65 = .ok (.getfield 31, 3) := by decide +kernel
theorem dX6_copyFrom_68 : decode cX6_copyFrom 68 = .ok (.invokestatic 97, 3) := by decide +kernel
theorem dX6_copyFrom_71 : decode cX6_copyFrom 71 = .ok (.aload_n 1, 1) := by decide +kernel
theorem dX6_copyFrom_72 : decode cX6_copyFrom 72 = .ok (.getfield 34, 3) := by decide +kernel
theorem dX6_copyFrom_75 : decode cX6_copyFrom 75 = .ok (.aload_n 0, 1) := by decide +kernel
theorem dX6_copyFrom_76 : decode cX6_copyFrom 76 = .ok (.getfield 34, 3) := by decide +kernel
theorem dX6_copyFrom_79 : decode cX6_copyFrom 79 = .ok (.invokestatic 97, 3) := by decide +kernel
theorem dX6_copyFrom_82 : decode cX6_copyFrom 82 = .ok (.aload_n 1, 1) := by decide +kernel
theorem dX6_copyFrom_83 : decode cX6_copyFrom 83 = .ok (.getfield 37, 3) := by decide +kernel
theorem dX6_copyFrom_86 : decode cX6_copyFrom 86 = .ok (.aload_n 0, 1) := by decide +kernel
theorem dX6_copyFrom_87 : decode cX6_copyFrom 87 = .ok (.getfield 37, 3) := by decide +kernel
theorem dX6_copyFrom_90 : decode cX6_copyFrom 90 = .ok (.invokestatic 97, 3) := by decide +kernel
theorem dX6_copyFrom_93 : decode cX6_copyFrom 93 = .ok (.aload_n 0, 1) := by decide +kernel
theorem dX6_copyFrom_94 : decode cX6_copyFrom 94 = .ok (.aload_n 1, 1) := by decide +kernel
theorem dX6_copyFrom_95 : decode cX6_copyFrom 95 = .ok (.getfield 40, 3) := by decide +kernel
theorem dX6_copyFrom_98 : decode cX6_copyFrom 98 = .ok (.putfield 40, 3) := by decide +kernel
theorem dX6_copyFrom_101 : decode cX6_copyFrom 101 = .ok (.aload_n 1, 1) := by decide +kernel
theorem dX6_copyFrom_102 : decode cX6_copyFrom 102 = .ok (.getfield 43, 3) := by decide +kernel
theorem dX6_copyFrom_105 : decode cX6_copyFrom 105 = .ok (.aload_n 0, 1) := by decide +kernel
theorem dX6_copyFrom_106 : decode cX6_copyFrom 106 = .ok (.getfield 43, 3) := by decide +kernel
theorem dX6_copyFrom_109 : decode cX6_copyFrom 109 = .ok (.invokestatic 97, 3) := by decide +kernel
theorem dX6_copyFrom_112 : decode cX6_copyFrom 112 = .ok (.aload_n 0, 1) := by decide +kernel
theorem dX6_copyFrom_113 : decode cX6_copyFrom 113 = .ok (.aload_n 1, 1) := by decide +kernel
theorem dX6_copyFrom_114 : decode cX6_copyFrom 114 = .ok (.getfield 46, 3) := by decide +kernel
theorem dX6_copyFrom_117 : decode cX6_copyFrom 117 = .ok (.putfield 46, 3) := by decide +kernel
theorem dX6_copyFrom_120 : decode cX6_copyFrom 120 = .ok (.aload_n 0, 1) := by decide +kernel
theorem dX6_copyFrom_121 : decode cX6_copyFrom 121 = .ok (.aload_n 1, 1) := by decide +kernel
theorem dX6_copyFrom_122 : decode cX6_copyFrom 122 = .ok (.getfield 49, 3) := by decide +kernel
theorem dX6_copyFrom_125 : decode cX6_copyFrom 125 = .ok (.putfield 49, 3) := by decide +kernel
theorem dX6_copyFrom_128 : decode cX6_copyFrom 128 = .ok (.aload_n 0, 1) := by decide +kernel
theorem dX6_copyFrom_129 : decode cX6_copyFrom 129 = .ok (.aload_n 1, 1) := by decide +kernel
theorem dX6_copyFrom_130 : decode cX6_copyFrom 130 = .ok (.getfield 52, 3) := by decide +kernel
theorem dX6_copyFrom_133 : decode cX6_copyFrom 133 = .ok (.putfield 52, 3) := by decide +kernel
theorem dX6_copyFrom_136 : decode cX6_copyFrom 136 = .ok (.aload_n 0, 1) := by decide +kernel
theorem dX6_copyFrom_137 : decode cX6_copyFrom 137 = .ok (.aload_n 1, 1) := by decide +kernel
theorem dX6_copyFrom_138 : decode cX6_copyFrom 138 = .ok (.getfield 55, 3) := by decide +kernel
theorem dX6_copyFrom_141 : decode cX6_copyFrom 141 = .ok (.putfield 55, 3) := by decide +kernel
theorem dX6_copyFrom_144 : decode cX6_copyFrom 144 = .ok (.aload_n 1, 1) := by decide +kernel
theorem dX6_copyFrom_145 : decode cX6_copyFrom 145 = .ok (.getfield 60, 3) := by decide +kernel
theorem dX6_copyFrom_148 : decode cX6_copyFrom 148 = .ok (.aload_n 0, 1) := by decide +kernel
theorem dX6_copyFrom_149 : decode cX6_copyFrom 149 = .ok (.getfield 60, 3) := by decide +kernel
theorem dX6_copyFrom_152 : decode cX6_copyFrom 152 = .ok (.invokestatic 101, 3) := by decide +kernel
theorem dX6_copyFrom_155 : decode cX6_copyFrom 155 = .ok (.aload_n 0, 1) := by decide +kernel
theorem dX6_copyFrom_156 : decode cX6_copyFrom 156 = .ok (.aload_n 1, 1) := by decide +kernel
theorem dX6_copyFrom_157 : decode cX6_copyFrom 157 = .ok (.getfield 63, 3) := by decide +kernel
theorem dX6_copyFrom_160 : decode cX6_copyFrom 160 = .ok (.putfield 63, 3) := by decide +kernel
theorem dX6_copyFrom_163 : decode cX6_copyFrom 163 = .ok (.aload_n 1, 1) := by decide +kernel
theorem dX6_copyFrom_164 : decode cX6_copyFrom 164 = .ok (.getfield 66, 3) := by decide +kernel
theorem dX6_copyFrom_167 : decode cX6_copyFrom 167 = .ok (.aload_n 0, 1) := by decide +kernel
theorem dX6_copyFrom_168 : decode cX6_copyFrom 168 = .ok (.getfield 66, 3) := by decide +kernel
theorem dX6_copyFrom_171 : decode cX6_copyFrom 171 = .ok (.invokestatic 101, 3) := by decide +kernel
theorem dX6_copyFrom_174 : decode cX6_copyFrom 174 = .ok (.aload_n 0, 1) := by decide +kernel
theorem dX6_copyFrom_175 : decode cX6_copyFrom 175 = .ok (.aload_n 1, 1) := by decide +kernel
theorem dX6_copyFrom_176 : decode cX6_copyFrom 176 = .ok (.getfield 69, 3) := by decide +kernel
theorem dX6_copyFrom_179 : decode cX6_copyFrom 179 = .ok (.putfield 69, 3) := by decide +kernel
theorem dX6_copyFrom_182 : decode cX6_copyFrom 182 = .ok (.aload_n 1, 1) := by decide +kernel
theorem dX6_copyFrom_183 : decode cX6_copyFrom 183 = .ok (.getfield 72, 3) := by decide +kernel
theorem dX6_copyFrom_186 : decode cX6_copyFrom 186 = .ok (.aload_n 0, 1) := by decide +kernel
theorem dX6_copyFrom_187 : decode cX6_copyFrom 187 = .ok (.getfield 72, 3) := by decide +kernel
theorem dX6_copyFrom_190 : decode cX6_copyFrom 190 = .ok (.invokestatic 101, 3) := by decide +kernel
theorem dX6_copyFrom_193 : decode cX6_copyFrom 193 = .ok (.return_, 1) := by decide +kernel
theorem dX6_copyRow_0 : decode cX6_copyRow 0 = .ok (.aload_n 0, 1) := by decide +kernel
theorem dX6_copyRow_1 : decode cX6_copyRow 1 = .ok (.iconst 0, 1) := by decide +kernel
theorem dX6_copyRow_2 : decode cX6_copyRow 2 = .ok (.aload_n 1, 1) := by decide +kernel
theorem dX6_copyRow_3 : decode cX6_copyRow 3 = .ok (.iconst 0, 1) := by decide +kernel
theorem dX6_copyRow_4 : decode cX6_copyRow 4 = .ok (.aload_n 0, 1) := by decide +kernel
theorem dX6_copyRow_5 : decode cX6_copyRow 5 = .ok (.arraylength, 1) := by decide +kernel
theorem dX6_copyRow_6 : decode cX6_copyRow 6 = .ok (.aload_n 1, 1) := by decide +kernel
theorem dX6_copyRow_7 : decode cX6_copyRow 7 = .ok (.arraylength, 1) := by decide +kernel
theorem dX6_copyRow_8 : decode cX6_copyRow 8 = .ok (.invokestatic 105, 3) := by decide +kernel
theorem dX6_copyRow_11 : decode cX6_copyRow 11 = .ok (.invokestatic 111, 3) := by decide +kernel
theorem dX6_copyRow_14 : decode cX6_copyRow 14 = .ok (.return_, 1) := by decide +kernel
theorem dX6_copyTable_0 : decode cX6_copyTable 0 = .ok (.iconst 0, 1) := by decide +kernel
theorem dX6_copyTable_1 : decode cX6_copyTable 1 = .ok (.istore_n 2, 1) := by decide +kernel
theorem dX6_copyTable_2 : decode cX6_copyTable 2 = .ok (.iload_n 2, 1) := by decide +kernel
theorem dX6_copyTable_3 : decode cX6_copyTable 3 = .ok (.aload_n 0, 1) := by decide +kernel
theorem dX6_copyTable_4 : decode cX6_copyTable 4 = .ok (.arraylength, 1) := by decide +kernel
theorem dX6_copyTable_5 : decode cX6_copyTable 5 = .ok (.if_icmp .ge 24, 3) := by decide +kernel
theorem dX6_copyTable_8 : decode cX6_copyTable 8 = .ok (.iload_n 2, 1) := by decide +kernel
theorem dX6_copyTable_9 : decode cX6_copyTable 9 = .ok (.aload_n 1, 1) := by decide +kernel
theorem dX6_copyTable_10 : decode cX6_copyTable 10 = .ok (.arraylength, 1) := by decide +kernel
theorem dX6_copyTable_11 : decode cX6_copyTable 11 = .ok (.if_icmp .ge 18, 3) := by decide +kernel
theorem dX6_copyTable_14 : decode cX6_copyTable 14 = .ok (.aload_n 0, 1) := by decide +kernel
theorem dX6_copyTable_15 : decode cX6_copyTable 15 = .ok (.iload_n 2, 1) := by decide +kernel
theorem dX6_copyTable_16 : decode cX6_copyTable 16 = .ok (.aaload, 1) := by decide +kernel
theorem dX6_copyTable_17 : decode cX6_copyTable 17 = .ok (.aload_n 1, 1) := by decide +kernel
theorem dX6_copyTable_18 : decode cX6_copyTable 18 = .ok (.iload_n 2, 1) := by decide +kernel
theorem dX6_copyTable_19 : decode cX6_copyTable 19 = .ok (.aaload, 1) := by decide +kernel
theorem dX6_copyTable_20 : decode cX6_copyTable 20 = .ok (.invokestatic 97, 3) := by decide +kernel
theorem dX6_copyTable_23 : decode cX6_copyTable 23 = .ok (.iinc 2 1, 3) := by decide +kernel
theorem dX6_copyTable_26 : decode cX6_copyTable 26 = .ok (.goto (-24), 3) := by decide +kernel
theorem dX6_copyTable_29 : decode cX6_copyTable 29 = .ok (.return_, 1) := by decide +kernel
theorem dX7_init_0 : decode cX7_init 0 = .ok (.aload_n 0, 1) := by decide +kernel
theorem dX7_init_1 : decode cX7_init 1 = .ok (.invokespecial 1, 3) := by decide +kernel
theorem dX7_init_4 : decode cX7_init 4 = .ok (.return_, 1) := by decide +kernel
theorem dX7_firmness_0 : decode cX7_firmness 0 = .ok (.iload_n 1, 1) := by decide +kernel
theorem dX7_firmness_1 : decode cX7_firmness 1 = .ok (.ireturn, 1) := by decide +kernel
theorem dX7_dines_0 : decode cX7_dines 0 = .ok (.aload_n 1, 1) := by decide +kernel
theorem dX7_dines_1 : decode cX7_dines 1 = .ok (.bipush 10, 2) := by decide +kernel
theorem dX7_dines_3 : decode cX7_dines 3 = .ok (.invokevirtual 7, 3) := by decide +kernel
theorem dX7_dines_6 : decode cX7_dines 6 = .ok (.iload_n 2, 1) := by decide +kernel
theorem dX7_dines_7 : decode cX7_dines 7 = .ok (.aload_n 1, 1) := by decide +kernel
theorem dX7_dines_8 : decode cX7_dines 8 = .ok (.getfield 13, 3) := by decide +kernel
theorem dX7_dines_11 : decode cX7_dines 11 = .ok (.iadd, 1) := by decide +kernel
theorem dX7_dines_12 : decode cX7_dines 12 = .ok (.ireturn, 1) := by decide +kernel
theorem dX7_nods_0 : decode cX7_nods 0 = .ok (.aload_n 1, 1) := by decide +kernel
theorem dX7_nods_1 : decode cX7_nods 1 = .ok (.bipush 11, 2) := by decide +kernel
theorem dX7_nods_3 : decode cX7_nods 3 = .ok (.invokevirtual 7, 3) := by decide +kernel
theorem dX7_nods_6 : decode cX7_nods 6 = .ok (.aload_n 0, 1) := by decide +kernel
theorem dX7_nods_7 : decode cX7_nods 7 = .ok (.aload_n 1, 1) := by decide +kernel
theorem dX7_nods_8 : decode cX7_nods 8 = .ok (.iload_n 2, 1) := by decide +kernel
theorem dX7_nods_9 : decode cX7_nods 9 = .ok (.invokevirtual 17, 3) := by decide +kernel
theorem dX7_nods_12 : decode cX7_nods 12 = .ok (.aload_n 1, 1) := by decide +kernel
theorem dX7_nods_13 : decode cX7_nods 13 = .ok (.getfield 23, 3) := by decide +kernel
theorem dX7_nods_16 : decode cX7_nods 16 = .ok (.isub, 1) := by decide +kernel
theorem dX7_nods_17 : decode cX7_nods 17 = .ok (.ireturn, 1) := by decide +kernel
theorem dX7_tells_0 : decode cX7_tells 0 = .ok (.aload_n 1, 1) := by decide +kernel
theorem dX7_tells_1 : decode cX7_tells 1 = .ok (.bipush 12, 2) := by decide +kernel
theorem dX7_tells_3 : decode cX7_tells 3 = .ok (.invokevirtual 7, 3) := by decide +kernel
theorem dX7_tells_6 : decode cX7_tells 6 = .ok (.aload_n 0, 1) := by decide +kernel
theorem dX7_tells_7 : decode cX7_tells 7 = .ok (.aload_n 1, 1) := by decide +kernel
theorem dX7_tells_8 : decode cX7_tells 8 = .ok (.iload_n 2, 1) := by decide +kernel
theorem dX7_tells_9 : decode cX7_tells 9 = .ok (.invokevirtual 26, 3) := by decide +kernel
theorem dX7_tells_12 : decode cX7_tells 12 = .ok (.iconst 2, 1) := by decide +kernel
theorem dX7_tells_13 : decode cX7_tells 13 = .ok (.imul, 1) := by decide +kernel
theorem dX7_tells_14 : decode cX7_tells 14 = .ok (.ireturn, 1) := by decide +kernel
theorem dX8_init_0 : decode cX8_init 0 = .ok (.aload_n 0, 1) := by decide +kernel
theorem dX8_init_1 : decode cX8_init 1 = .ok (.invokespecial 3, 3) := by decide +kernel
theorem dX8_init_4 : decode cX8_init 4 = .ok (.aload_n 0, 1) := by decide +kernel
theorem dX8_init_5 : decode cX8_init 5 = .ok (.iconst (-1), 1) := by decide +kernel
theorem dX8_init_6 : decode cX8_init 6 = .ok (.putfield 11, 3) := by decide +kernel
theorem dX8_init_9 : decode cX8_init 9 = .ok (.aload_n 0, 1) := by decide +kernel
theorem dX8_init_10 : decode cX8_init 10 = .ok (.iconst 0, 1) := by decide +kernel
theorem dX8_init_11 : decode cX8_init 11 = .ok (.putfield 15, 3) := by decide +kernel
theorem dX8_init_14 : decode cX8_init 14 = .ok (.aload_n 0, 1) := by decide +kernel
theorem dX8_init_15 : decode cX8_init 15 = .ok (.bipush 60, 2) := by decide +kernel
theorem dX8_init_17 : decode cX8_init 17 = .ok (.newarray .long, 2) := by decide +kernel
theorem dX8_init_19 : decode cX8_init 19 = .ok (.putfield 18, 3) := by decide +kernel
theorem dX8_init_22 : decode cX8_init 22 = .ok (.return_, 1) := by decide +kernel
theorem dX8_become_0 : decode cX8_become 0 = .ok (.aload_n 0, 1) := by decide +kernel
theorem dX8_become_1 : decode cX8_become 1 = .ok (.iload_n 1, 1) := by decide +kernel
theorem dX8_become_2 : decode cX8_become 2 = .ok (.putfield 11, 3) := by decide +kernel
theorem dX8_become_5 : decode cX8_become 5 = .ok (.aload_n 0, 1) := by decide +kernel
theorem dX8_become_6 : decode cX8_become 6 = .ok (.iload_n 2, 1) := by decide +kernel
theorem dX8_become_7 : decode cX8_become 7 = .ok (.putfield 15, 3) := by decide +kernel
theorem dX8_become_10 : decode cX8_become 10 = .ok (.aload_n 0, 1) := by decide +kernel
theorem dX8_become_11 : decode cX8_become 11 = .ok (.getfield 18, 3) := by decide +kernel
theorem dX8_become_14 : decode cX8_become 14 = .ok (.lconst 0, 1) := by decide +kernel
theorem dX8_become_15 : decode cX8_become 15 = .ok (.invokestatic 22, 3) := by decide +kernel
theorem dX8_become_18 : decode cX8_become 18 = .ok (.return_, 1) := by decide +kernel
theorem dX8_holdsRow_0 : decode cX8_holdsRow 0 = .ok (.aload_n 0, 1) := by decide +kernel
theorem dX8_holdsRow_1 : decode cX8_holdsRow 1 = .ok (.getfield 11, 3) := by decide +kernel
theorem dX8_holdsRow_4 : decode cX8_holdsRow 4 = .ok (.iconst (-1), 1) := by decide +kernel
theorem dX8_holdsRow_5 : decode cX8_holdsRow 5 = .ok (.if_icmp .eq 7, 3) := by decide +kernel
theorem dX8_holdsRow_8 : decode cX8_holdsRow 8 = .ok (.iconst 1, 1) := by decide +kernel
theorem dX8_holdsRow_9 : decode cX8_holdsRow 9 = .ok (.goto 4, 3) := by decide +kernel
theorem dX8_holdsRow_12 : decode cX8_holdsRow 12 = .ok (.iconst 0, 1) := by decide +kernel
theorem dX8_holdsRow_13 : decode cX8_holdsRow 13 = .ok (.ireturn, 1) := by decide +kernel
theorem dX8_hasPlace_0 : decode cX8_hasPlace 0 = .ok (.aload_n 0, 1) := by decide +kernel
theorem dX8_hasPlace_1 : decode cX8_hasPlace 1 = .ok (.invokevirtual 28, 3) := by decide +kernel
theorem dX8_hasPlace_4 : decode cX8_hasPlace 4 = .ok (.ifCond .eq 23, 3) := by decide +kernel
theorem dX8_hasPlace_7 : decode cX8_hasPlace 7 = .ok (.lload_n 1, 1) := by decide +kernel
theorem dX8_hasPlace_8 : decode cX8_hasPlace 8 = .ok (.lconst 0, 1) := by decide +kernel
theorem dX8_hasPlace_9 : decode cX8_hasPlace 9 = .ok (.lcmp, 1) := by decide +kernel
theorem dX8_hasPlace_10 : decode cX8_hasPlace 10 = .ok (.ifCond .lt 17, 3) := by decide +kernel
theorem dX8_hasPlace_13 : decode cX8_hasPlace 13 = .ok (.lload_n 1, 1) := by decide +kernel
theorem dX8_hasPlace_14 : decode cX8_hasPlace 14 = .ok (.aload_n 0, 1) := by decide +kernel
theorem dX8_hasPlace_15 : decode cX8_hasPlace 15 = .ok (.getfield 15, 3) := by decide +kernel
theorem dX8_hasPlace_18 : decode cX8_hasPlace 18 = .ok (.i2l, 1) := by decide +kernel
theorem dX8_hasPlace_19 : decode cX8_hasPlace 19 = .ok (.lcmp, 1) := by decide +kernel
theorem dX8_hasPlace_20 : decode cX8_hasPlace 20 = .ok (.ifCond .ge 7, 3) := by decide +kernel
theorem dX8_hasPlace_23 : decode cX8_hasPlace 23 = .ok (.iconst 1, 1) := by decide +kernel
theorem dX8_hasPlace_24 : decode cX8_hasPlace 24 = .ok (.goto 4, 3) := by decide +kernel
theorem dX8_hasPlace_27 : decode cX8_hasPlace 27 = .ok (.iconst 0, 1) := by decide +kernel
theorem dX8_hasPlace_28 : decode cX8_hasPlace 28 = .ok (.ireturn, 1) := by decide +kernel
theorem dX8_hasStretch_0 : decode cX8_hasStretch 0 = .ok (.iload_n 1, 1) := by decide +kernel
theorem dX8_hasStretch_1 : decode cX8_hasStretch 1 = .ok (.ifCond .lt 25, 3) := by decide +kernel
theorem dX8_hasStretch_4 : decode cX8_hasStretch 4 = .ok (.iload_n 2, 1) := by decide +kernel
theorem dX8_hasStretch_5 : decode cX8_hasStretch 5 = .ok (.ifCond .lt 21, 3) := by decide +kernel
theorem dX8_hasStretch_8 : decode cX8_hasStretch 8 = .ok (.iload_n 1, 1) := by decide +kernel
theorem dX8_hasStretch_9 : decode cX8_hasStretch 9 = .ok (.i2l, 1) := by decide +kernel
theorem dX8_hasStretch_10 : decode cX8_hasStretch 10 = .ok (.iload_n 2, 1) := by decide +kernel
theorem dX8_hasStretch_11 : decode cX8_hasStretch 11 = .ok (.i2l, 1) := by decide +kernel
theorem dX8_hasStretch_12 : decode cX8_hasStretch 12 = .ok (.ladd, 1) := by decide +kernel
theorem dX8_hasStretch_13 : decode cX8_hasStretch 13 = .ok (.aload_n 0, 1) := by decide +kernel
theorem dX8_hasStretch_14 : decode cX8_hasStretch 14 = .ok (.getfield 15, 3) := by decide +kernel
theorem dX8_hasStretch_17 : decode cX8_hasStretch 17 = .ok (.i2l, 1) := by decide +kernel
theorem dX8_hasStretch_18 : decode cX8_hasStretch 18 = .ok (.lcmp, 1) := by decide +kernel
theorem dX8_hasStretch_19 : decode cX8_hasStretch 19 = .ok (.ifCond .gt 7, 3) := by decide +kernel
theorem dX8_hasStretch_22 : decode cX8_hasStretch 22 = .ok (.iconst 1, 1) := by decide +kernel
theorem dX8_hasStretch_23 : decode cX8_hasStretch 23 = .ok (.goto 4, 3) := by decide +kernel
theorem dX8_hasStretch_26 : decode cX8_hasStretch 26 = .ok (.iconst 0, 1) := by decide +kernel
theorem dX8_hasStretch_27 : decode cX8_hasStretch 27 = .ok (.ireturn, 1) := by decide +kernel
theorem dX8_narrowed_0 : decode cX8_narrowed 0 = .ok (.aload_n 0, 1) := by decide +kernel
theorem dX8_narrowed_1 : decode cX8_narrowed 1 = .ok (.getfield 11, 3) := by decide +kernel
theorem dX8_narrowed_4 : decode cX8_narrowed 4 = .ok (.tableswitch 62 0 4 #[36, 41, 46, 62, 50], 36) := by decide +kernel
theorem dX8_narrowed_40 : decode cX8_narrowed 40 = .ok (.lload_n 1, 1) := by decide +kernel
theorem dX8_narrowed_41 : decode cX8_narrowed 41 = .ok (.l2i, 1) := by decide +kernel
theorem dX8_narrowed_42 : decode cX8_narrowed 42 = .ok (.i2b, 1) := by decide +kernel
theorem dX8_narrowed_43 : decode cX8_narrowed 43 = .ok (.i2l, 1) := by decide +kernel
theorem dX8_narrowed_44 : decode cX8_narrowed 44 = .ok (.lreturn, 1) := by decide +kernel
theorem dX8_narrowed_45 : decode cX8_narrowed 45 = .ok (.lload_n 1, 1) := by decide +kernel
theorem dX8_narrowed_46 : decode cX8_narrowed 46 = .ok (.l2i, 1) := by decide +kernel
theorem dX8_narrowed_47 : decode cX8_narrowed 47 = .ok (.i2s, 1) := by decide +kernel
theorem dX8_narrowed_48 : decode cX8_narrowed 48 = .ok (.i2l, 1) := by decide +kernel
theorem dX8_narrowed_49 : decode cX8_narrowed 49 = .ok (.lreturn, 1) := by decide +kernel
theorem dX8_narrowed_50 : decode cX8_narrowed 50 = .ok (.lload_n 1, 1) := by decide +kernel
theorem dX8_narrowed_51 : decode cX8_narrowed 51 = .ok (.l2i, 1) := by decide +kernel
theorem dX8_narrowed_52 : decode cX8_narrowed 52 = .ok (.i2l, 1) := by decide +kernel
theorem dX8_narrowed_53 : decode cX8_narrowed 53 = .ok (.lreturn, 1) := by decide +kernel
theorem dX8_narrowed_54 : decode cX8_narrowed 54 = .ok (.lload_n 1, 1) := by decide +kernel
theorem dX8_narrowed_55 : decode cX8_narrowed 55 = .ok (.lconst 0, 1) := by decide +kernel
theorem dX8_narrowed_56 : decode cX8_narrowed 56 = .ok (.lcmp, 1) := by decide +kernel
theorem dX8_narrowed_57 : decode cX8_narrowed 57 = .ok (.ifCond .eq 7, 3) := by decide +kernel
theorem dX8_narrowed_60 : decode cX8_narrowed 60 = .ok (.lconst 1, 1) := by decide +kernel
theorem dX8_narrowed_61 : decode cX8_narrowed 61 = .ok (.goto 4, 3) := by decide +kernel
theorem dX8_narrowed_64 : decode cX8_narrowed 64 = .ok (.lconst 0, 1) := by decide +kernel
theorem dX8_narrowed_65 : decode cX8_narrowed 65 = .ok (.lreturn, 1) := by decide +kernel
theorem dX8_narrowed_66 : decode cX8_narrowed 66 = .ok (.lload_n 1, 1) := by decide +kernel
theorem dX8_narrowed_67 : decode cX8_narrowed 67 = .ok (.lreturn, 1) := by decide +kernel
theorem dX9_init_0 : decode cX9_init 0 = .ok (.aload_n 0, 1) := by decide +kernel
theorem dX9_init_1 : decode cX9_init 1 = .ok (.invokespecial 1, 3) := by decide +kernel
theorem dX9_init_4 : decode cX9_init 4 = .ok (.return_, 1) := by decide +kernel
theorem dX9_firmness_0 : decode cX9_firmness 0 = .ok (.aload_n 0, 1) := by decide +kernel
theorem dX9_firmness_1 : decode cX9_firmness 1 = .ok (.iload_n 1, 1) := by decide +kernel
theorem dX9_firmness_2 : decode cX9_firmness 2 = .ok (.iload_n 2, 1) := by decide +kernel
theorem dX9_firmness_3 : decode cX9_firmness 3 = .ok (.iload_n 3, 1) := by decide +kernel
theorem dX9_firmness_4 : decode cX9_firmness 4 = .ok (.iload 4, 2) := by decide +kernel
theorem dX9_firmness_6 : decode cX9_firmness 6 = .ok (.iload 5, 2) := by decide +kernel
theorem dX9_firmness_8 : decode cX9_firmness 8 = .ok (.invokespecial 7, 3) := by decide +kernel
theorem dX9_firmness_11 : decode cX9_firmness 11 = .ok (.iload 5, 2) := by decide +kernel
theorem dX9_firmness_13 : decode cX9_firmness 13 = .ok (.iadd, 1) := by decide +kernel
theorem dX9_firmness_14 : decode cX9_firmness 14 = .ok (.ireturn, 1) := by decide +kernel
theorem dX9_nods_0 : decode cX9_nods 0 = .ok (.aload_n 1, 1) := by decide +kernel
theorem dX9_nods_1 : decode cX9_nods 1 = .ok (.bipush 70, 2) := by decide +kernel
theorem dX9_nods_3 : decode cX9_nods 3 = .ok (.invokevirtual 11, 3) := by decide +kernel
theorem dX9_nods_6 : decode cX9_nods 6 = .ok (.aload_n 0, 1) := by decide +kernel
theorem dX9_nods_7 : decode cX9_nods 7 = .ok (.aload_n 1, 1) := by decide +kernel
theorem dX9_nods_8 : decode cX9_nods 8 = .ok (.iload_n 2, 1) := by decide +kernel
theorem dX9_nods_9 : decode cX9_nods 9 = .ok (.invokespecial 17, 3) := by decide +kernel
theorem dX9_nods_12 : decode cX9_nods 12 = .ok (.aload_n 0, 1) := by decide +kernel
theorem dX9_nods_13 : decode cX9_nods 13 = .ok (.aload_n 1, 1) := by decide +kernel
theorem dX9_nods_14 : decode cX9_nods 14 = .ok (.iconst 2, 1) := by decide +kernel
theorem dX9_nods_15 : decode cX9_nods 15 = .ok (.invokespecial 21, 3) := by decide +kernel
theorem dX9_nods_18 : decode cX9_nods 18 = .ok (.iadd, 1) := by decide +kernel
theorem dX9_nods_19 : decode cX9_nods 19 = .ok (.ireturn, 1) := by decide +kernel
theorem dX9_dines_0 : decode cX9_dines 0 = .ok (.aload_n 1, 1) := by decide +kernel
theorem dX9_dines_1 : decode cX9_dines 1 = .ok (.bipush 71, 2) := by decide +kernel
theorem dX9_dines_3 : decode cX9_dines 3 = .ok (.invokevirtual 11, 3) := by decide +kernel
theorem dX9_dines_6 : decode cX9_dines 6 = .ok (.aload_n 0, 1) := by decide +kernel
theorem dX9_dines_7 : decode cX9_dines 7 = .ok (.aload_n 1, 1) := by decide +kernel
theorem dX9_dines_8 : decode cX9_dines 8 = .ok (.iload_n 2, 1) := by decide +kernel
theorem dX9_dines_9 : decode cX9_dines 9 = .ok (.invokespecial 21, 3) := by decide +kernel
theorem dX9_dines_12 : decode cX9_dines 12 = .ok (.aload_n 1, 1) := by decide +kernel
theorem dX9_dines_13 : decode cX9_dines 13 = .ok (.getfield 24, 3) := by decide +kernel
theorem dX9_dines_16 : decode cX9_dines 16 = .ok (.ixor, 1) := by decide +kernel
theorem dX9_dines_17 : decode cX9_dines 17 = .ok (.ireturn, 1) := by decide +kernel
theorem dX10_init_0 : decode cX10_init 0 = .ok (.aload_n 0, 1) := by decide +kernel
theorem dX10_init_1 : decode cX10_init 1 = .ok (.invokespecial 1, 3) := by decide +kernel
theorem dX10_init_4 : decode cX10_init 4 = .ok (.aload_n 0, 1) := by decide +kernel
theorem dX10_init_5 : decode cX10_init 5 = .ok (.iconst 0, 1) := by decide +kernel
theorem dX10_init_6 : decode cX10_init 6 = .ok (.putfield 7, 3) := by decide +kernel
theorem dX10_init_9 : decode cX10_init 9 = .ok (.aload_n 0, 1) := by decide +kernel
theorem dX10_init_10 : decode cX10_init 10 = .ok (.iconst 0, 1) := by decide +kernel
theorem dX10_init_11 : decode cX10_init 11 = .ok (.putfield 13, 3) := by decide +kernel
theorem dX10_init_14 : decode cX10_init 14 = .ok (.aload_n 0, 1) := by decide +kernel
theorem dX10_init_15 : decode cX10_init 15 = .ok (.iconst 0, 1) := by decide +kernel
theorem dX10_init_16 : decode cX10_init 16 = .ok (.putfield 16, 3) := by decide +kernel
theorem dX10_init_19 : decode cX10_init 19 = .ok (.aload_n 0, 1) := by decide +kernel
theorem dX10_init_20 : decode cX10_init 20 = .ok (.bipush 20, 2) := by decide +kernel
theorem dX10_init_22 : decode cX10_init 22 = .ok (.newarray .int, 2) := by decide +kernel
theorem dX10_init_24 : decode cX10_init 24 = .ok (.putfield 19, 3) := by decide +kernel
theorem dX10_init_27 : decode cX10_init 27 = .ok (.return_, 1) := by decide +kernel
theorem dX10_clear_0 : decode cX10_clear 0 = .ok (.aload_n 0, 1) := by decide +kernel
theorem dX10_clear_1 : decode cX10_clear 1 = .ok (.iconst 0, 1) := by decide +kernel
theorem dX10_clear_2 : decode cX10_clear 2 = .ok (.putfield 16, 3) := by decide +kernel
theorem dX10_clear_5 : decode cX10_clear 5 = .ok (.return_, 1) := by decide +kernel
theorem dX10_begin_0 : decode cX10_begin 0 = .ok (.aload_n 0, 1) := by decide +kernel
theorem dX10_begin_1 : decode cX10_begin 1 = .ok (.getfield 16, 3) := by decide +kernel
theorem dX10_begin_4 : decode cX10_begin 4 = .ok (.bipush 20, 2) := by decide +kernel
theorem dX10_begin_6 : decode cX10_begin 6 = .ok (.if_icmp .ge 13, 3) := by decide +kernel
theorem dX10_begin_9 : decode cX10_begin 9 = .ok (.aload_n 0, 1) := by decide +kernel
theorem dX10_begin_10 : decode cX10_begin 10 = .ok (.getfield 19, 3) := by decide +kernel
theorem dX10_begin_13 : decode cX10_begin 13 = .ok (.aload_n 0, 1) := by decide +kernel
theorem dX10_begin_14 : decode cX10_begin 14 = .ok (.getfield 16, 3) := by decide +kernel
theorem dX10_begin_17 : decode cX10_begin 17 = .ok (.iload_n 1, 1) := by decide +kernel
theorem dX10_begin_18 : decode cX10_begin 18 = .ok (.iastore, 1) := by decide +kernel
theorem dX10_begin_19 : decode cX10_begin 19 = .ok (.aload_n 0, 1) := by decide +kernel
theorem dX10_begin_20 : decode cX10_begin 20 = .ok (.dup, 1) := by decide +kernel
theorem dX10_begin_21 : decode cX10_begin 21 = .ok (.getfield 16, 3) := by decide +kernel
theorem dX10_begin_24 : decode cX10_begin 24 = .ok (.iconst 1, 1) := by decide +kernel
theorem dX10_begin_25 : decode cX10_begin 25 = .ok (.iadd, 1) := by decide +kernel
theorem dX10_begin_26 : decode cX10_begin 26 = .ok (.putfield 16, 3) := by decide +kernel
theorem dX10_begin_29 : decode cX10_begin 29 = .ok (.return_, 1) := by decide +kernel
theorem dX10_keptCount_0 : decode cX10_keptCount 0 = .ok (.aload_n 0, 1) := by decide +kernel
theorem dX10_keptCount_1 : decode cX10_keptCount 1 = .ok (.getfield 16, 3) := by decide +kernel
theorem dX10_keptCount_4 : decode cX10_keptCount 4 = .ok (.bipush 20, 2) := by decide +kernel
theorem dX10_keptCount_6 : decode cX10_keptCount 6 = .ok (.invokestatic 23, 3) := by decide +kernel
theorem dX10_keptCount_9 : decode cX10_keptCount 9 = .ok (.ireturn, 1) := by decide +kernel
theorem dJ11_isValidCodePoint_9a6ad_0 : decode cJ11_isValidCodePoint_9a6ad 0 = .ok (.iload_n 0, 1) := by decide +kernel
theorem dJ11_isValidCodePoint_9a6ad_1 : decode cJ11_isValidCodePoint_9a6ad 1 = .ok (.bipush 16, 2) := by decide +kernel
theorem dJ11_isValidCodePoint_9a6ad_3 : decode cJ11_isValidCodePoint_9a6ad 3 = .ok (.iushr, 1) := by decide +kernel
theorem dJ11_isValidCodePoint_9a6ad_4 : decode cJ11_isValidCodePoint_9a6ad 4 = .ok (.istore_n 1, 1) := by decide +kernel
theorem dJ11_isValidCodePoint_9a6ad_5 : decode cJ11_isValidCodePoint_9a6ad 5 = .ok (.iload_n 1, 1) := by decide +kernel
theorem dJ11_isValidCodePoint_9a6ad_6 : decode cJ11_isValidCodePoint_9a6ad 6 = .ok (.bipush 17, 2) := by decide +kernel
theorem dJ11_isValidCodePoint_9a6ad_8 : decode cJ11_isValidCodePoint_9a6ad 8 = .ok (.if_icmp .ge 7, 3) := by decide +kernel
theorem dJ11_isValidCodePoint_9a6ad_11 : decode cJ11_isValidCodePoint_9a6ad 11 = .ok (.iconst 1, 1) := by decide +kernel
theorem dJ11_isValidCodePoint_9a6ad_12 : decode cJ11_isValidCodePoint_9a6ad 12 = .ok (.goto 4, 3) := by decide +kernel
theorem dJ11_isValidCodePoint_9a6ad_15 : decode cJ11_isValidCodePoint_9a6ad 15 = .ok (.iconst 0, 1) := by decide +kernel
theorem dJ11_isValidCodePoint_9a6ad_16 : decode cJ11_isValidCodePoint_9a6ad 16 = .ok (.ireturn, 1) := by decide +kernel
theorem dJ11_highSurrogate_5068e_0 : decode cJ11_highSurrogate_5068e 0 = .ok (.iload_n 0, 1) := by decide +kernel
theorem dJ11_highSurrogate_5068e_1 : decode cJ11_highSurrogate_5068e 1 = .ok (.bipush 10, 2) := by decide +kernel
theorem dJ11_highSurrogate_5068e_3 : decode cJ11_highSurrogate_5068e 3 = .ok (.iushr, 1) := by decide +kernel
theorem dJ11_highSurrogate_5068e_4 : decode cJ11_highSurrogate_5068e 4 = .ok (.ldc 110, 2) := by decide +kernel
theorem dJ11_highSurrogate_5068e_6 : decode cJ11_highSurrogate_5068e 6 = .ok (.iadd, 1) := by decide +kernel
theorem dJ11_highSurrogate_5068e_7 : decode cJ11_highSurrogate_5068e 7 = .ok (.i2c, 1) := by decide +kernel
theorem dJ11_highSurrogate_5068e_8 : decode cJ11_highSurrogate_5068e 8 = .ok (.ireturn, 1) := by decide +kernel
theorem dJ11_lowSurrogate_5068e_0 : decode cJ11_lowSurrogate_5068e 0 = .ok (.iload_n 0, 1) := by decide +kernel
theorem dJ11_lowSurrogate_5068e_1 : decode cJ11_lowSurrogate_5068e 1 = .ok (.sipush 1023, 3) := by decide +kernel
theorem dJ11_lowSurrogate_5068e_4 : decode cJ11_lowSurrogate_5068e 4 = .ok (.iand, 1) := by decide +kernel
theorem dJ11_lowSurrogate_5068e_5 : decode cJ11_lowSurrogate_5068e 5 = .ok (.ldc 76, 2) := by decide +kernel
theorem dJ11_lowSurrogate_5068e_7 : decode cJ11_lowSurrogate_5068e 7 = .ok (.iadd, 1) := by decide +kernel
theorem dJ11_lowSurrogate_5068e_8 : decode cJ11_lowSurrogate_5068e 8 = .ok (.i2c, 1) := by decide +kernel
theorem dJ11_lowSurrogate_5068e_9 : decode cJ11_lowSurrogate_5068e 9 = .ok (.ireturn, 1) := by decide +kernel
theorem dJ6_bitCount_0f7a4_0 : decode cJ6_bitCount_0f7a4 0 = .ok (.iload_n 0, 1) := by decide +kernel
theorem dJ6_bitCount_0f7a4_1 : decode cJ6_bitCount_0f7a4 1 = .ok (.iload_n 0, 1) := by decide +kernel
theorem dJ6_bitCount_0f7a4_2 : decode cJ6_bitCount_0f7a4 2 = .ok (.iconst 1, 1) := by decide +kernel
theorem dJ6_bitCount_0f7a4_3 : decode cJ6_bitCount_0f7a4 3 = .ok (.iushr, 1) := by decide +kernel
theorem dJ6_bitCount_0f7a4_4 : decode cJ6_bitCount_0f7a4 4 = .ok (.ldc_w 265, 3) := by decide +kernel
theorem dJ6_bitCount_0f7a4_7 : decode cJ6_bitCount_0f7a4 7 = .ok (.iand, 1) := by decide +kernel
theorem dJ6_bitCount_0f7a4_8 : decode cJ6_bitCount_0f7a4 8 = .ok (.isub, 1) := by decide +kernel
theorem dJ6_bitCount_0f7a4_9 : decode cJ6_bitCount_0f7a4 9 = .ok (.istore_n 0, 1) := by decide +kernel
theorem dJ6_bitCount_0f7a4_10 : decode cJ6_bitCount_0f7a4 10 = .ok (.iload_n 0, 1) := by decide +kernel
theorem dJ6_bitCount_0f7a4_11 : decode cJ6_bitCount_0f7a4 11 = .ok (.ldc_w 266, 3) := by decide +kernel
theorem dJ6_bitCount_0f7a4_14 : decode cJ6_bitCount_0f7a4 14 = .ok (.iand, 1) := by decide +kernel
theorem dJ6_bitCount_0f7a4_15 : decode cJ6_bitCount_0f7a4 15 = .ok (.iload_n 0, 1) := by decide +kernel
theorem dJ6_bitCount_0f7a4_16 : decode cJ6_bitCount_0f7a4 16 = .ok (.iconst 2, 1) := by decide +kernel
theorem dJ6_bitCount_0f7a4_17 : decode cJ6_bitCount_0f7a4 17 = .ok (.iushr, 1) := by decide +kernel
theorem dJ6_bitCount_0f7a4_18 : decode cJ6_bitCount_0f7a4 18 = .ok (.ldc_w 266, 3) := by decide +kernel
theorem dJ6_bitCount_0f7a4_21 : decode cJ6_bitCount_0f7a4 21 = .ok (.iand, 1) := by decide +kernel
theorem dJ6_bitCount_0f7a4_22 : decode cJ6_bitCount_0f7a4 22 = .ok (.iadd, 1) := by decide +kernel
theorem dJ6_bitCount_0f7a4_23 : decode cJ6_bitCount_0f7a4 23 = .ok (.istore_n 0, 1) := by decide +kernel
theorem dJ6_bitCount_0f7a4_24 : decode cJ6_bitCount_0f7a4 24 = .ok (.iload_n 0, 1) := by decide +kernel
theorem dJ6_bitCount_0f7a4_25 : decode cJ6_bitCount_0f7a4 25 = .ok (.iload_n 0, 1) := by decide +kernel
theorem dJ6_bitCount_0f7a4_26 : decode cJ6_bitCount_0f7a4 26 = .ok (.iconst 4, 1) := by decide +kernel
theorem dJ6_bitCount_0f7a4_27 : decode cJ6_bitCount_0f7a4 27 = .ok (.iushr, 1) := by decide +kernel
theorem dJ6_bitCount_0f7a4_28 : decode cJ6_bitCount_0f7a4 28 = .ok (.iadd, 1) := by decide +kernel
theorem dJ6_bitCount_0f7a4_29 : decode cJ6_bitCount_0f7a4 29 = .ok (.ldc_w 267, 3) := by decide +kernel
theorem dJ6_bitCount_0f7a4_32 : decode cJ6_bitCount_0f7a4 32 = .ok (.iand, 1) := by decide +kernel
theorem dJ6_bitCount_0f7a4_33 : decode cJ6_bitCount_0f7a4 33 = .ok (.istore_n 0, 1) := by decide +kernel
theorem dJ6_bitCount_0f7a4_34 : decode cJ6_bitCount_0f7a4 34 = .ok (.iload_n 0, 1) := by decide +kernel
theorem dJ6_bitCount_0f7a4_35 : decode cJ6_bitCount_0f7a4 35 = .ok (.iload_n 0, 1) := by decide +kernel
theorem dJ6_bitCount_0f7a4_36 : decode cJ6_bitCount_0f7a4 36 = .ok (.bipush 8, 2) := by decide +kernel
theorem dJ6_bitCount_0f7a4_38 : decode cJ6_bitCount_0f7a4 38 = .ok (.iushr, 1) := by decide +kernel
theorem dJ6_bitCount_0f7a4_39 : decode cJ6_bitCount_0f7a4 39 = .ok (.iadd, 1) := by decide +kernel
theorem dJ6_bitCount_0f7a4_40 : decode cJ6_bitCount_0f7a4 40 = .ok (.istore_n 0, 1) := by decide +kernel
theorem dJ6_bitCount_0f7a4_41 : decode cJ6_bitCount_0f7a4 41 = .ok (.iload_n 0, 1) := by decide +kernel
theorem dJ6_bitCount_0f7a4_42 : decode cJ6_bitCount_0f7a4 42 = .ok (.iload_n 0, 1) := by decide +kernel
theorem dJ6_bitCount_0f7a4_43 : decode cJ6_bitCount_0f7a4 43 = .ok (.bipush 16, 2) := by decide +kernel
theorem dJ6_bitCount_0f7a4_45 : decode cJ6_bitCount_0f7a4 45 = .ok (.iushr, 1) := by decide +kernel
theorem dJ6_bitCount_0f7a4_46 : decode cJ6_bitCount_0f7a4 46 = .ok (.iadd, 1) := by decide +kernel
theorem dJ6_bitCount_0f7a4_47 : decode cJ6_bitCount_0f7a4 47 = .ok (.istore_n 0, 1) := by decide +kernel
theorem dJ6_bitCount_0f7a4_48 : decode cJ6_bitCount_0f7a4 48 = .ok (.iload_n 0, 1) := by decide +kernel
theorem dJ6_bitCount_0f7a4_49 : decode cJ6_bitCount_0f7a4 49 = .ok (.bipush 63, 2) := by decide +kernel
theorem dJ6_bitCount_0f7a4_51 : decode cJ6_bitCount_0f7a4 51 = .ok (.iand, 1) := by decide +kernel
theorem dJ6_bitCount_0f7a4_52 : decode cJ6_bitCount_0f7a4 52 = .ok (.ireturn, 1) := by decide +kernel
theorem dJ9_max_7cf53_0 : decode cJ9_max_7cf53 0 = .ok (.iload_n 0, 1) := by decide +kernel
theorem dJ9_max_7cf53_1 : decode cJ9_max_7cf53 1 = .ok (.iload_n 1, 1) := by decide +kernel
theorem dJ9_max_7cf53_2 : decode cJ9_max_7cf53 2 = .ok (.if_icmp .lt 7, 3) := by decide +kernel
theorem dJ9_max_7cf53_5 : decode cJ9_max_7cf53 5 = .ok (.iload_n 0, 1) := by decide +kernel
theorem dJ9_max_7cf53_6 : decode cJ9_max_7cf53 6 = .ok (.goto 4, 3) := by decide +kernel
theorem dJ9_max_7cf53_9 : decode cJ9_max_7cf53 9 = .ok (.iload_n 1, 1) := by decide +kernel
theorem dJ9_max_7cf53_10 : decode cJ9_max_7cf53 10 = .ok (.ireturn, 1) := by decide +kernel
theorem dJ9_min_7cf53_0 : decode cJ9_min_7cf53 0 = .ok (.iload_n 0, 1) := by decide +kernel
theorem dJ9_min_7cf53_1 : decode cJ9_min_7cf53 1 = .ok (.iload_n 1, 1) := by decide +kernel
theorem dJ9_min_7cf53_2 : decode cJ9_min_7cf53 2 = .ok (.if_icmp .gt 7, 3) := by decide +kernel
theorem dJ9_min_7cf53_5 : decode cJ9_min_7cf53 5 = .ok (.iload_n 0, 1) := by decide +kernel
theorem dJ9_min_7cf53_6 : decode cJ9_min_7cf53 6 = .ok (.goto 4, 3) := by decide +kernel
theorem dJ9_min_7cf53_9 : decode cJ9_min_7cf53 9 = .ok (.iload_n 1, 1) := by decide +kernel
theorem dJ9_min_7cf53_10 : decode cJ9_min_7cf53 10 = .ok (.ireturn, 1) := by decide +kernel
theorem dJ0_length_8abf5_0 : decode cJ0_length_8abf5 0 = .ok (.aload_n 0, 1) := by decide +kernel
theorem dJ0_length_8abf5_1 : decode cJ0_length_8abf5 1 = .ok (.getfield 9, 3) := by decide +kernel
theorem dJ0_length_8abf5_4 : decode cJ0_length_8abf5 4 = .ok (.arraylength, 1) := by decide +kernel
theorem dJ0_length_8abf5_5 : decode cJ0_length_8abf5 5 = .ok (.aload_n 0, 1) := by decide +kernel
theorem dJ0_length_8abf5_6 : decode cJ0_length_8abf5 6 = .ok (.invokevirtual 335, 3) := by decide +kernel
theorem dJ0_length_8abf5_9 : decode cJ0_length_8abf5 9 = .ok (.ishr, 1) := by decide +kernel
theorem dJ0_length_8abf5_10 : decode cJ0_length_8abf5 10 = .ok (.ireturn, 1) := by decide +kernel
theorem dJ0_charAt_5068e_0 : decode cJ0_charAt_5068e 0 = .ok (.aload_n 0, 1) := by decide +kernel
theorem dJ0_charAt_5068e_1 : decode cJ0_charAt_5068e 1 = .ok (.invokevirtual 492, 3) := by decide +kernel
theorem dJ0_charAt_5068e_4 : decode cJ0_charAt_5068e 4 = .ok (.ifCond .eq 12, 3) := by decide +kernel
theorem dJ0_charAt_5068e_7 : decode cJ0_charAt_5068e 7 = .ok (.aload_n 0, 1) := by decide +kernel
theorem dJ0_charAt_5068e_8 : decode cJ0_charAt_5068e 8 = .ok (.getfield 9, 3) := by decide +kernel
theorem dJ0_charAt_5068e_11 : decode cJ0_charAt_5068e 11 = .ok (.iload_n 1, 1) := by decide +kernel
theorem dJ0_charAt_5068e_12 : decode cJ0_charAt_5068e 12 = .ok (.invokestatic 495, 3) := by decide +kernel
theorem dJ0_charAt_5068e_15 : decode cJ0_charAt_5068e 15 = .ok (.ireturn, 1) := by decide +kernel
theorem dJ0_charAt_5068e_16 : decode cJ0_charAt_5068e 16 = .ok (.aload_n 0, 1) := by decide +kernel
theorem dJ0_charAt_5068e_17 : decode cJ0_charAt_5068e 17 = .ok (.getfield 9, 3) := by decide +kernel
theorem dJ0_charAt_5068e_20 : decode cJ0_charAt_5068e 20 = .ok (.iload_n 1, 1) := by decide +kernel
theorem dJ0_charAt_5068e_21 : decode cJ0_charAt_5068e 21 = .ok (.invokestatic 498, 3) := by decide +kernel
theorem dJ0_charAt_5068e_24 : decode cJ0_charAt_5068e 24 = .ok (.ireturn, 1) := by decide +kernel
theorem dJ0_indexOf_0f7a4_0 : decode cJ0_indexOf_0f7a4 0 = .ok (.aload_n 0, 1) := by decide +kernel
theorem dJ0_indexOf_0f7a4_1 : decode cJ0_indexOf_0f7a4 1 = .ok (.iload_n 1, 1) := by decide +kernel
theorem dJ0_indexOf_0f7a4_2 : decode cJ0_indexOf_0f7a4 2 = .ok (.iconst 0, 1) := by decide +kernel
theorem dJ0_indexOf_0f7a4_3 : decode cJ0_indexOf_0f7a4 3 = .ok (.invokevirtual 633, 3) := by decide +kernel
theorem dJ0_indexOf_0f7a4_6 : decode cJ0_indexOf_0f7a4 6 = .ok (.ireturn, 1) := by decide +kernel
theorem dJ0_indexOf_7cf53_0 : decode cJ0_indexOf_7cf53 0 = .ok (.aload_n 0, 1) := by decide +kernel
theorem dJ0_indexOf_7cf53_1 : decode cJ0_indexOf_7cf53 1 = .ok (.invokevirtual 492, 3) := by decide +kernel
theorem dJ0_indexOf_7cf53_4 : decode cJ0_indexOf_7cf53 4 = .ok (.ifCond .eq 19, 3) := by decide +kernel
theorem dJ0_indexOf_7cf53_7 : decode cJ0_indexOf_7cf53 7 = .ok (.aload_n 0, 1) := by decide +kernel
theorem dJ0_indexOf_7cf53_8 : decode cJ0_indexOf_7cf53 8 = .ok (.getfield 9, 3) := by decide +kernel
theorem dJ0_indexOf_7cf53_11 : decode cJ0_indexOf_7cf53 11 = .ok (.iload_n 1, 1) := by decide +kernel
theorem dJ0_indexOf_7cf53_12 : decode cJ0_indexOf_7cf53 12 = .ok (.iload_n 2, 1) := by decide +kernel
theorem dJ0_indexOf_7cf53_13 : decode cJ0_indexOf_7cf53 13 = .ok (.aload_n 0, 1) := by decide +kernel
theorem dJ0_indexOf_7cf53_14 : decode cJ0_indexOf_7cf53 14 = .ok (.invokevirtual 505, 3) := by decide +kernel
theorem dJ0_indexOf_7cf53_17 : decode cJ0_indexOf_7cf53 17 = .ok (.invokestatic 637, 3) := by decide +kernel
theorem dJ0_indexOf_7cf53_20 : decode cJ0_indexOf_7cf53 20 = .ok (.goto 16, 3) := by decide +kernel
theorem dJ0_indexOf_7cf53_23 : decode cJ0_indexOf_7cf53 23 = .ok (.aload_n 0, 1) := by decide +kernel
theorem dJ0_indexOf_7cf53_24 : decode cJ0_indexOf_7cf53 24 = .ok (.getfield 9, 3) := by decide +kernel
theorem dJ0_indexOf_7cf53_27 : decode cJ0_indexOf_7cf53 27 = .ok (.iload_n 1, 1) := by decide +kernel
theorem dJ0_indexOf_7cf53_28 : decode cJ0_indexOf_7cf53 28 = .ok (.iload_n 2, 1) := by decide +kernel
theorem dJ0_indexOf_7cf53_29 : decode cJ0_indexOf_7cf53 29 = .ok (.aload_n 0, 1) := by decide +kernel
theorem dJ0_indexOf_7cf53_30 : decode cJ0_indexOf_7cf53 30 = .ok (.invokevirtual 505, 3) := by decide +kernel
theorem dJ0_indexOf_7cf53_33 : decode cJ0_indexOf_7cf53 33 = .ok (.invokestatic 640, 3) := by decide +kernel
theorem dJ0_indexOf_7cf53_36 : decode cJ0_indexOf_7cf53 36 = .ok (.ireturn, 1) := by decide +kernel
theorem dJ0_coder_7d493_0 : decode cJ0_coder_7d493 0 = .ok (.getstatic 38, 3) := by decide +kernel
theorem dJ0_coder_7d493_3 : decode cJ0_coder_7d493 3 = .ok (.ifCond .eq 10, 3) := by decide +kernel
theorem dJ0_coder_7d493_6 : decode cJ0_coder_7d493 6 = .ok (.aload_n 0, 1) := by decide +kernel
theorem dJ0_coder_7d493_7 : decode cJ0_coder_7d493 7 = .ok (.getfield 15, 3) := by decide +kernel
theorem dJ0_coder_7d493_10 : decode cJ0_coder_7d493 10 = .ok (.goto 4, 3) := by decide +kernel
theorem dJ0_coder_7d493_13 : decode cJ0_coder_7d493 13 = .ok (.iconst 1, 1) := by decide +kernel
theorem dJ0_coder_7d493_14 : decode cJ0_coder_7d493 14 = .ok (.ireturn, 1) := by decide +kernel
theorem dJ0_isLatin1_aae02_0 : decode cJ0_isLatin1_aae02 0 = .ok (.getstatic 38, 3) := by decide +kernel
theorem dJ0_isLatin1_aae02_3 : decode cJ0_isLatin1_aae02 3 = .ok (.ifCond .eq 14, 3) := by decide +kernel
theorem dJ0_isLatin1_aae02_6 : decode cJ0_isLatin1_aae02 6 = .ok (.aload_n 0, 1) := by decide +kernel
theorem dJ0_isLatin1_aae02_7 : decode cJ0_isLatin1_aae02 7 = .ok (.getfield 15, 3) := by decide +kernel
theorem dJ0_isLatin1_aae02_10 : decode cJ0_isLatin1_aae02 10 = .ok (.ifCond .ne 7, 3) := by decide +kernel
theorem dJ0_isLatin1_aae02_13 : decode cJ0_isLatin1_aae02 13 = .ok (.iconst 1, 1) := by decide +kernel
theorem dJ0_isLatin1_aae02_14 : decode cJ0_isLatin1_aae02 14 = .ok (.goto 4, 3) := by decide +kernel
theorem dJ0_isLatin1_aae02_17 : decode cJ0_isLatin1_aae02 17 = .ok (.iconst 0, 1) := by decide +kernel
theorem dJ0_isLatin1_aae02_18 : decode cJ0_isLatin1_aae02 18 = .ok (.ireturn, 1) := by decide +kernel
theorem dJ0_checkIndex_df160_0 : decode cJ0_checkIndex_df160 0 = .ok (.iload_n 0, 1) := by decide +kernel
theorem dJ0_checkIndex_df160_1 : decode cJ0_checkIndex_df160 1 = .ok (.iload_n 1, 1) := by decide +kernel
theorem dJ0_checkIndex_df160_2 : decode cJ0_checkIndex_df160 2 = .ok (.getstatic 1053, 3) := by decide +kernel
theorem dJ0_checkIndex_df160_5 : decode cJ0_checkIndex_df160 5 = .ok (.invokestatic 1059, 3) := by decide +kernel
theorem dJ0_checkIndex_df160_8 : decode cJ0_checkIndex_df160 8 = .ok (.pop, 1) := by decide +kernel
theorem dJ0_checkIndex_df160_9 : decode cJ0_checkIndex_df160 9 = .ok (.return_, 1) := by decide +kernel
theorem dJ0_checkBoundsBeginEnd_23922_0 : decode cJ0_checkBoundsBeginEnd_23922 0 = .ok (.iload_n 0, 1) := by decide +kernel
theorem dJ0_checkBoundsBeginEnd_23922_1 : decode cJ0_checkBoundsBeginEnd_23922 1 = .ok (.iload_n 1, 1) := by decide +kernel
theorem dJ0_checkBoundsBeginEnd_23922_2 : decode cJ0_checkBoundsBeginEnd_23922 2 = .ok (.iload_n 2, 1) := by decide +kernel
theorem dJ0_checkBoundsBeginEnd_23922_3 : decode cJ0_checkBoundsBeginEnd_23922 3 = .ok (.getstatic 1053, 3) := by decide +kernel
theorem dJ0_checkBoundsBeginEnd_23922_6 : decode cJ0_checkBoundsBeginEnd_23922 6 = .ok (.invokestatic 1062, 3) := by decide +kernel
theorem dJ0_checkBoundsBeginEnd_23922_9 : decode cJ0_checkBoundsBeginEnd_23922 9 = .ok (.pop, 1) := by decide +kernel
theorem dJ0_checkBoundsBeginEnd_23922_10 : decode cJ0_checkBoundsBeginEnd_23922 10 = .ok (.return_, 1) := by decide +kernel
theorem dJ1_charAt_3b067_0 : decode cJ1_charAt_3b067 0 = .ok (.iload_n 1, 1) := by decide +kernel
theorem dJ1_charAt_3b067_1 : decode cJ1_charAt_3b067 1 = .ok (.aload_n 0, 1) := by decide +kernel
theorem dJ1_charAt_3b067_2 : decode cJ1_charAt_3b067 2 = .ok (.arraylength, 1) := by decide +kernel
theorem dJ1_charAt_3b067_3 : decode cJ1_charAt_3b067 3 = .ok (.invokestatic 9, 3) := by decide +kernel
theorem dJ1_charAt_3b067_6 : decode cJ1_charAt_3b067 6 = .ok (.aload_n 0, 1) := by decide +kernel
theorem dJ1_charAt_3b067_7 : decode cJ1_charAt_3b067 7 = .ok (.iload_n 1, 1) := by decide +kernel
theorem dJ1_charAt_3b067_8 : decode cJ1_charAt_3b067 8 = .ok (.baload, 1) := by decide +kernel
theorem dJ1_charAt_3b067_9 : decode cJ1_charAt_3b067 9 = .ok (.sipush 255, 3) := by decide +kernel
theorem dJ1_charAt_3b067_12 : decode cJ1_charAt_3b067 12 = .ok (.iand, 1) := by decide +kernel
theorem dJ1_charAt_3b067_13 : decode cJ1_charAt_3b067 13 = .ok (.i2c, 1) := by decide +kernel
theorem dJ1_charAt_3b067_14 : decode cJ1_charAt_3b067 14 = .ok (.ireturn, 1) := by decide +kernel
theorem dJ1_canEncode_9a6ad_0 : decode cJ1_canEncode_9a6ad 0 = .ok (.iload_n 0, 1) := by decide +kernel
theorem dJ1_canEncode_9a6ad_1 : decode cJ1_canEncode_9a6ad 1 = .ok (.ifCond .lt 14, 3) := by decide +kernel
theorem dJ1_canEncode_9a6ad_4 : decode cJ1_canEncode_9a6ad 4 = .ok (.iload_n 0, 1) := by decide +kernel
theorem dJ1_canEncode_9a6ad_5 : decode cJ1_canEncode_9a6ad 5 = .ok (.sipush 255, 3) := by decide +kernel
theorem dJ1_canEncode_9a6ad_8 : decode cJ1_canEncode_9a6ad 8 = .ok (.if_icmp .gt 7, 3) := by decide +kernel
theorem dJ1_canEncode_9a6ad_11 : decode cJ1_canEncode_9a6ad 11 = .ok (.iconst 1, 1) := by decide +kernel
theorem dJ1_canEncode_9a6ad_12 : decode cJ1_canEncode_9a6ad 12 = .ok (.goto 4, 3) := by decide +kernel
theorem dJ1_canEncode_9a6ad_15 : decode cJ1_canEncode_9a6ad 15 = .ok (.iconst 0, 1) := by decide +kernel
theorem dJ1_canEncode_9a6ad_16 : decode cJ1_canEncode_9a6ad 16 = .ok (.ireturn, 1) := by decide +kernel
theorem dJ1_indexOf_4cfef_0 : decode cJ1_indexOf_4cfef 0 = .ok (.iload_n 1, 1) := by decide +kernel
theorem dJ1_indexOf_4cfef_1 : decode cJ1_indexOf_4cfef 1 = .ok (.invokestatic 88, 3) := by decide +kernel
theorem dJ1_indexOf_4cfef_4 : decode cJ1_indexOf_4cfef 4 = .ok (.ifCond .ne 5, 3) := by decide +kernel
theorem dJ1_indexOf_4cfef_7 : decode cJ1_indexOf_4cfef 7 = .ok (.iconst (-1), 1) := by decide +kernel
theorem dJ1_indexOf_4cfef_8 : decode cJ1_indexOf_4cfef 8 = .ok (.ireturn, 1) := by decide +kernel
theorem dJ1_indexOf_4cfef_9 : decode cJ1_indexOf_4cfef 9 = .ok (.iload_n 2, 1) := by decide +kernel
theorem dJ1_indexOf_4cfef_10 : decode cJ1_indexOf_4cfef 10 = .ok (.iconst 0, 1) := by decide +kernel
theorem dJ1_indexOf_4cfef_11 : decode cJ1_indexOf_4cfef 11 = .ok (.invokestatic 92, 3) := by decide +kernel
theorem dJ1_indexOf_4cfef_14 : decode cJ1_indexOf_4cfef 14 = .ok (.istore_n 2, 1) := by decide +kernel
theorem dJ1_indexOf_4cfef_15 : decode cJ1_indexOf_4cfef 15 = .ok (.iload_n 3, 1) := by decide +kernel
theorem dJ1_indexOf_4cfef_16 : decode cJ1_indexOf_4cfef 16 = .ok (.aload_n 0, 1) := by decide +kernel
theorem dJ1_indexOf_4cfef_17 : decode cJ1_indexOf_4cfef 17 = .ok (.arraylength, 1) := by decide +kernel
theorem dJ1_indexOf_4cfef_18 : decode cJ1_indexOf_4cfef 18 = .ok (.invokestatic 38, 3) := by decide +kernel
theorem dJ1_indexOf_4cfef_21 : decode cJ1_indexOf_4cfef 21 = .ok (.istore_n 3, 1) := by decide +kernel
theorem dJ1_indexOf_4cfef_22 : decode cJ1_indexOf_4cfef 22 = .ok (.iload_n 2, 1) := by decide +kernel
theorem dJ1_indexOf_4cfef_23 : decode cJ1_indexOf_4cfef 23 = .ok (.iload_n 3, 1) := by decide +kernel
theorem dJ1_indexOf_4cfef_24 : decode cJ1_indexOf_4cfef 24 = .ok (.if_icmp .lt 5, 3) := by decide +kernel
theorem dJ1_indexOf_4cfef_27 : decode cJ1_indexOf_4cfef 27 = .ok (.iconst (-1), 1) := by decide +kernel
theorem dJ1_indexOf_4cfef_28 : decode cJ1_indexOf_4cfef 28 = .ok (.ireturn, 1) := by decide +kernel
theorem dJ1_indexOf_4cfef_29 : decode cJ1_indexOf_4cfef 29 = .ok (.aload_n 0, 1) := by decide +kernel
theorem dJ1_indexOf_4cfef_30 : decode cJ1_indexOf_4cfef 30 = .ok (.iload_n 1, 1) := by decide +kernel
theorem dJ1_indexOf_4cfef_31 : decode cJ1_indexOf_4cfef 31 = .ok (.iload_n 2, 1) := by decide +kernel
theorem dJ1_indexOf_4cfef_32 : decode cJ1_indexOf_4cfef 32 = .ok (.iload_n 3, 1) := by decide +kernel
theorem dJ1_indexOf_4cfef_33 : decode cJ1_indexOf_4cfef 33 = .ok (.invokestatic 95, 3) := by decide +kernel
theorem dJ1_indexOf_4cfef_36 : decode cJ1_indexOf_4cfef 36 = .ok (.ireturn, 1) := by decide +kernel
theorem dJ1_indexOfChar_4cfef_0 : decode cJ1_indexOfChar_4cfef 0 = .ok (.iload_n 1, 1) := by decide +kernel
theorem dJ1_indexOfChar_4cfef_1 : decode cJ1_indexOfChar_4cfef 1 = .ok (.i2b, 1) := by decide +kernel
theorem dJ1_indexOfChar_4cfef_2 : decode cJ1_indexOfChar_4cfef 2 = .ok (.istore 4, 2) := by decide +kernel
theorem dJ1_indexOfChar_4cfef_4 : decode cJ1_indexOfChar_4cfef 4 = .ok (.iload_n 2, 1) := by decide +kernel
theorem dJ1_indexOfChar_4cfef_5 : decode cJ1_indexOfChar_4cfef 5 = .ok (.istore 5, 2) := by decide +kernel
theorem dJ1_indexOfChar_4cfef_7 : decode cJ1_indexOfChar_4cfef 7 = .ok (.iload 5, 2) := by decide +kernel
theorem dJ1_indexOfChar_4cfef_9 : decode cJ1_indexOfChar_4cfef 9 = .ok (.iload_n 3, 1) := by decide +kernel
theorem dJ1_indexOfChar_4cfef_10 : decode cJ1_indexOfChar_4cfef 10 = .ok (.if_icmp .ge 21, 3) := by decide +kernel
theorem dJ1_indexOfChar_4cfef_13 : decode cJ1_indexOfChar_4cfef 13 = .ok (.aload_n 0, 1) := by decide +kernel
theorem dJ1_indexOfChar_4cfef_14 : decode cJ1_indexOfChar_4cfef 14 = .ok (.iload 5, 2) := by decide +kernel
theorem dJ1_indexOfChar_4cfef_16 : decode cJ1_indexOfChar_4cfef 16 = .ok (.baload, 1) := by decide +kernel
theorem dJ1_indexOfChar_4cfef_17 : decode cJ1_indexOfChar_4cfef 17 = .ok (.iload 4, 2) := by decide +kernel
theorem dJ1_indexOfChar_4cfef_19 : decode cJ1_indexOfChar_4cfef 19 = .ok (.if_icmp .ne 6, 3) := by decide +kernel
theorem dJ1_indexOfChar_4cfef_22 : decode cJ1_indexOfChar_4cfef 22 = .ok (.iload 5, 2) := by decide +kernel
theorem dJ1_indexOfChar_4cfef_24 : decode cJ1_indexOfChar_4cfef 24 = .ok (.ireturn, 1) := by decide +kernel
theorem dJ1_indexOfChar_4cfef_25 : decode cJ1_indexOfChar_4cfef 25 = .ok (.iinc 5 1, 3) := by decide +kernel
theorem dJ1_indexOfChar_4cfef_28 : decode cJ1_indexOfChar_4cfef 28 = .ok (.goto (-21), 3) := by decide +kernel
theorem dJ1_indexOfChar_4cfef_31 : decode cJ1_indexOfChar_4cfef 31 = .ok (.iconst (-1), 1) := by decide +kernel
theorem dJ1_indexOfChar_4cfef_32 : decode cJ1_indexOfChar_4cfef 32 = .ok (.ireturn, 1) := by decide +kernel
theorem dJ2_getChar_3b067_0 : decode cJ2_getChar_3b067 0 = .ok (.getstatic 44, 3) := by decide +kernel
theorem dJ2_getChar_3b067_3 : decode cJ2_getChar_3b067 3 = .ok (.ifCond .ne 25, 3) := by decide +kernel
theorem dJ2_getChar_3b067_6 : decode cJ2_getChar_3b067 6 = .ok (.iload_n 1, 1) := by decide +kernel
theorem dJ2_getChar_3b067_7 : decode cJ2_getChar_3b067 7 = .ok (.ifCond .lt 11, 3) := by decide +kernel
theorem dJ2_getChar_3b067_10 : decode cJ2_getChar_3b067 10 = .ok (.iload_n 1, 1) := by decide +kernel
theorem dJ2_getChar_3b067_11 : decode cJ2_getChar_3b067 11 = .ok (.aload_n 0, 1) := by decide +kernel
theorem dJ2_getChar_3b067_12 : decode cJ2_getChar_3b067 12 = .ok (.invokestatic 48, 3) := by decide +kernel
theorem dJ2_getChar_3b067_15 : decode cJ2_getChar_3b067 15 = .ok (.if_icmp .lt 13, 3) := by decide +kernel
theorem dJ2_getChar_3b067_18 : decode cJ2_getChar_3b067 18 = .ok (.new 52, 3) := by decide +kernel
theorem dJ2_getChar_3b067_21 : decode cJ2_getChar_3b067 21 = .ok (.dup, 1) := by decide +kernel
theorem dJ2_getChar_3b067_22 : decode cJ2_getChar_3b067 22 = .ok (.ldc 54, 2) := by decide +kernel
theorem dJ2_getChar_3b067_24 : decode cJ2_getChar_3b067 24 = .ok (.invokespecial 56, 3) := by decide +kernel
theorem dJ2_getChar_3b067_27 : decode cJ2_getChar_3b067 27 = .ok (.athrow, 1) := by decide +kernel
theorem dJ2_getChar_3b067_28 : decode cJ2_getChar_3b067 28 = .ok (.iload_n 1, 1) := by decide +kernel
theorem dJ2_getChar_3b067_29 : decode cJ2_getChar_3b067 29 = .ok (.iconst 1, 1) := by decide +kernel
theorem dJ2_getChar_3b067_30 : decode cJ2_getChar_3b067 30 = .ok (.ishl, 1) := by decide +kernel
theorem dJ2_getChar_3b067_31 : decode cJ2_getChar_3b067 31 = .ok (.istore_n 1, 1) := by decide +kernel
theorem dJ2_getChar_3b067_32 : decode cJ2_getChar_3b067 32 = .ok (.aload_n 0, 1) := by decide +kernel
theorem dJ2_getChar_3b067_33 : decode cJ2_getChar_3b067 33 = .ok (.iload_n 1, 1) := by decide +kernel
theorem dJ2_getChar_3b067_34 : decode cJ2_getChar_3b067 34 = .ok (.iinc 1 1, 3) := by decide +kernel
theorem dJ2_getChar_3b067_37 : decode cJ2_getChar_3b067 37 = .ok (.baload, 1) := by decide +kernel
theorem dJ2_getChar_3b067_38 : decode cJ2_getChar_3b067 38 = .ok (.sipush 255, 3) := by decide +kernel
theorem dJ2_getChar_3b067_41 : decode cJ2_getChar_3b067 41 = .ok (.iand, 1) := by decide +kernel
theorem dJ2_getChar_3b067_42 : decode cJ2_getChar_3b067 42 = .ok (.getstatic 59, 3) := by decide +kernel
theorem dJ2_getChar_3b067_45 : decode cJ2_getChar_3b067 45 = .ok (.ishl, 1) := by decide +kernel
theorem dJ2_getChar_3b067_46 : decode cJ2_getChar_3b067 46 = .ok (.aload_n 0, 1) := by decide +kernel
theorem dJ2_getChar_3b067_47 : decode cJ2_getChar_3b067 47 = .ok (.iload_n 1, 1) := by decide +kernel
theorem dJ2_getChar_3b067_48 : decode cJ2_getChar_3b067 48 = .ok (.baload, 1) := by decide +kernel
theorem dJ2_getChar_3b067_49 : decode cJ2_getChar_3b067 49 = .ok (.sipush 255, 3) := by decide +kernel
theorem dJ2_getChar_3b067_52 : decode cJ2_getChar_3b067 52 = .ok (.iand, 1) := by decide +kernel
theorem dJ2_getChar_3b067_53 : decode cJ2_getChar_3b067 53 = .ok (.getstatic 63, 3) := by decide +kernel
theorem dJ2_getChar_3b067_56 : decode cJ2_getChar_3b067 56 = .ok (.ishl, 1) := by decide +kernel
theorem dJ2_getChar_3b067_57 : decode cJ2_getChar_3b067 57 = .ok (.ior, 1) := by decide +kernel
theorem dJ2_getChar_3b067_58 : decode cJ2_getChar_3b067 58 = .ok (.i2c, 1) := by decide +kernel
theorem dJ2_getChar_3b067_59 : decode cJ2_getChar_3b067 59 = .ok (.ireturn, 1) := by decide +kernel
theorem dJ2_length_9d52b_0 : decode cJ2_length_9d52b 0 = .ok (.aload_n 0, 1) := by decide +kernel
theorem dJ2_length_9d52b_1 : decode cJ2_length_9d52b 1 = .ok (.arraylength, 1) := by decide +kernel
theorem dJ2_length_9d52b_2 : decode cJ2_length_9d52b 2 = .ok (.iconst 1, 1) := by decide +kernel
theorem dJ2_length_9d52b_3 : decode cJ2_length_9d52b 3 = .ok (.ishr, 1) := by decide +kernel
theorem dJ2_length_9d52b_4 : decode cJ2_length_9d52b 4 = .ok (.ireturn, 1) := by decide +kernel
theorem dJ2_indexOf_4cfef_0 : decode cJ2_indexOf_4cfef 0 = .ok (.iload_n 2, 1) := by decide +kernel
theorem dJ2_indexOf_4cfef_1 : decode cJ2_indexOf_4cfef 1 = .ok (.iconst 0, 1) := by decide +kernel
theorem dJ2_indexOf_4cfef_2 : decode cJ2_indexOf_4cfef 2 = .ok (.invokestatic 224, 3) := by decide +kernel
theorem dJ2_indexOf_4cfef_5 : decode cJ2_indexOf_4cfef 5 = .ok (.istore_n 2, 1) := by decide +kernel
theorem dJ2_indexOf_4cfef_6 : decode cJ2_indexOf_4cfef 6 = .ok (.iload_n 3, 1) := by decide +kernel
theorem dJ2_indexOf_4cfef_7 : decode cJ2_indexOf_4cfef 7 = .ok (.aload_n 0, 1) := by decide +kernel
theorem dJ2_indexOf_4cfef_8 : decode cJ2_indexOf_4cfef 8 = .ok (.arraylength, 1) := by decide +kernel
theorem dJ2_indexOf_4cfef_9 : decode cJ2_indexOf_4cfef 9 = .ok (.iconst 1, 1) := by decide +kernel
theorem dJ2_indexOf_4cfef_10 : decode cJ2_indexOf_4cfef 10 = .ok (.ishr, 1) := by decide +kernel
theorem dJ2_indexOf_4cfef_11 : decode cJ2_indexOf_4cfef 11 = .ok (.invokestatic 183, 3) := by decide +kernel
theorem dJ2_indexOf_4cfef_14 : decode cJ2_indexOf_4cfef 14 = .ok (.istore_n 3, 1) := by decide +kernel
theorem dJ2_indexOf_4cfef_15 : decode cJ2_indexOf_4cfef 15 = .ok (.iload_n 2, 1) := by decide +kernel
theorem dJ2_indexOf_4cfef_16 : decode cJ2_indexOf_4cfef 16 = .ok (.iload_n 3, 1) := by decide +kernel
theorem dJ2_indexOf_4cfef_17 : decode cJ2_indexOf_4cfef 17 = .ok (.if_icmp .lt 5, 3) := by decide +kernel
theorem dJ2_indexOf_4cfef_20 : decode cJ2_indexOf_4cfef 20 = .ok (.iconst (-1), 1) := by decide +kernel
theorem dJ2_indexOf_4cfef_21 : decode cJ2_indexOf_4cfef 21 = .ok (.ireturn, 1) := by decide +kernel
theorem dJ2_indexOf_4cfef_22 : decode cJ2_indexOf_4cfef 22 = .ok (.iload_n 1, 1) := by decide +kernel
theorem dJ2_indexOf_4cfef_23 : decode cJ2_indexOf_4cfef 23 = .ok (.ldc 227, 2) := by decide +kernel
theorem dJ2_indexOf_4cfef_25 : decode cJ2_indexOf_4cfef 25 = .ok (.if_icmp .ge 11, 3) := by decide +kernel
theorem dJ2_indexOf_4cfef_28 : decode cJ2_indexOf_4cfef 28 = .ok (.aload_n 0, 1) := by decide +kernel
theorem dJ2_indexOf_4cfef_29 : decode cJ2_indexOf_4cfef 29 = .ok (.iload_n 1, 1) := by decide +kernel
theorem dJ2_indexOf_4cfef_30 : decode cJ2_indexOf_4cfef 30 = .ok (.iload_n 2, 1) := by decide +kernel
theorem dJ2_indexOf_4cfef_31 : decode cJ2_indexOf_4cfef 31 = .ok (.iload_n 3, 1) := by decide +kernel
theorem dJ2_indexOf_4cfef_32 : decode cJ2_indexOf_4cfef 32 = .ok (.invokestatic 228, 3) := by decide +kernel
theorem dJ2_indexOf_4cfef_35 : decode cJ2_indexOf_4cfef 35 = .ok (.ireturn, 1) := by decide +kernel
theorem dJ2_indexOf_4cfef_36 : decode cJ2_indexOf_4cfef 36 = .ok (.aload_n 0, 1) := by decide +kernel
theorem dJ2_indexOf_4cfef_37 : decode cJ2_indexOf_4cfef 37 = .ok (.iload_n 1, 1) := by decide +kernel
theorem dJ2_indexOf_4cfef_38 : decode cJ2_indexOf_4cfef 38 = .ok (.iload_n 2, 1) := by decide +kernel
theorem dJ2_indexOf_4cfef_39 : decode cJ2_indexOf_4cfef 39 = .ok (.iload_n 3, 1) := by decide +kernel
theorem dJ2_indexOf_4cfef_40 : decode cJ2_indexOf_4cfef 40 = .ok (.invokestatic 232, 3) := by decide +kernel
theorem dJ2_indexOf_4cfef_43 : decode cJ2_indexOf_4cfef 43 = .ok (.ireturn, 1) := by decide +kernel
theorem dJ2_indexOfChar_4cfef_0 : decode cJ2_indexOfChar_4cfef 0 = .ok (.iload_n 2, 1) := by decide +kernel
theorem dJ2_indexOfChar_4cfef_1 : decode cJ2_indexOfChar_4cfef 1 = .ok (.iload_n 3, 1) := by decide +kernel
theorem dJ2_indexOfChar_4cfef_2 : decode cJ2_indexOfChar_4cfef 2 = .ok (.aload_n 0, 1) := by decide +kernel
theorem dJ2_indexOfChar_4cfef_3 : decode cJ2_indexOfChar_4cfef 3 = .ok (.invokestatic 96, 3) := by decide +kernel
theorem dJ2_indexOfChar_4cfef_6 : decode cJ2_indexOfChar_4cfef 6 = .ok (.aload_n 0, 1) := by decide +kernel
theorem dJ2_indexOfChar_4cfef_7 : decode cJ2_indexOfChar_4cfef 7 = .ok (.iload_n 1, 1) := by decide +kernel
theorem dJ2_indexOfChar_4cfef_8 : decode cJ2_indexOfChar_4cfef 8 = .ok (.iload_n 2, 1) := by decide +kernel
theorem dJ2_indexOfChar_4cfef_9 : decode cJ2_indexOfChar_4cfef 9 = .ok (.iload_n 3, 1) := by decide +kernel
theorem dJ2_indexOfChar_4cfef_10 : decode cJ2_indexOfChar_4cfef 10 = .ok (.invokestatic 244, 3) := by decide +kernel
theorem dJ2_indexOfChar_4cfef_13 : decode cJ2_indexOfChar_4cfef 13 = .ok (.ireturn, 1) := by decide +kernel
theorem dJ2_indexOfCharUnsafe_4cfef_0 : decode cJ2_indexOfCharUnsafe_4cfef 0 = .ok (.iload_n 2, 1) := by decide +kernel
theorem dJ2_indexOfCharUnsafe_4cfef_1 : decode cJ2_indexOfCharUnsafe_4cfef 1 = .ok (.istore 4, 2) := by decide +kernel
theorem dJ2_indexOfCharUnsafe_4cfef_3 : decode cJ2_indexOfCharUnsafe_4cfef 3 = .ok (.iload 4, 2) := by decide +kernel
theorem dJ2_indexOfCharUnsafe_4cfef_5 : decode cJ2_indexOfCharUnsafe_4cfef 5 = .ok (.iload_n 3, 1) := by decide +kernel
theorem dJ2_indexOfCharUnsafe_4cfef_6 : decode cJ2_indexOfCharUnsafe_4cfef 6 = .ok (.if_icmp .ge 22, 3) := by decide +kernel
theorem dJ2_indexOfCharUnsafe_4cfef_9 : decode cJ2_indexOfCharUnsafe_4cfef 9 = .ok (.aload_n 0, 1) := by decide +kernel
theorem dJ2_indexOfCharUnsafe_4cfef_10 : decode cJ2_indexOfCharUnsafe_4cfef 10 = .ok (.iload 4, 2) := by decide +kernel
theorem dJ2_indexOfCharUnsafe_4cfef_12 : decode cJ2_indexOfCharUnsafe_4cfef 12 = .ok (.invokestatic 71, 3) := by decide +kernel
theorem dJ2_indexOfCharUnsafe_4cfef_15 : decode cJ2_indexOfCharUnsafe_4cfef 15 = .ok (.iload_n 1, 1) := by decide +kernel
theorem dJ2_indexOfCharUnsafe_4cfef_16 : decode cJ2_indexOfCharUnsafe_4cfef 16 = .ok (.if_icmp .ne 6, 3) := by decide +kernel
theorem dJ2_indexOfCharUnsafe_4cfef_19 : decode cJ2_indexOfCharUnsafe_4cfef 19 = .ok (.iload 4, 2) := by decide +kernel
theorem dJ2_indexOfCharUnsafe_4cfef_21 : decode cJ2_indexOfCharUnsafe_4cfef 21 = .ok (.ireturn, 1) := by decide +kernel
theorem dJ2_indexOfCharUnsafe_4cfef_22 : decode cJ2_indexOfCharUnsafe_4cfef 22 = .ok (.iinc 4 1, 3) := by decide +kernel
theorem dJ2_indexOfCharUnsafe_4cfef_25 : decode cJ2_indexOfCharUnsafe_4cfef 25 = .ok (.goto (-22), 3) := by decide +kernel
theorem dJ2_indexOfCharUnsafe_4cfef_28 : decode cJ2_indexOfCharUnsafe_4cfef 28 = .ok (.iconst (-1), 1) := by decide +kernel
theorem dJ2_indexOfCharUnsafe_4cfef_29 : decode cJ2_indexOfCharUnsafe_4cfef 29 = .ok (.ireturn, 1) := by decide +kernel
theorem dJ2_indexOfSupplementary_4cfef_0 : decode cJ2_indexOfSupplementary_4cfef 0 = .ok (.iload_n 1, 1) := by decide +kernel
theorem dJ2_indexOfSupplementary_4cfef_1 : decode cJ2_indexOfSupplementary_4cfef 1 = .ok (.invokestatic 164, 3) := by decide +kernel
theorem dJ2_indexOfSupplementary_4cfef_4 : decode cJ2_indexOfSupplementary_4cfef 4 = .ok (.ifCond .eq 65, 3) := by decide +kernel
theorem dJ2_indexOfSupplementary_4cfef_7 : decode cJ2_indexOfSupplementary_4cfef 7 = .ok (.iload_n 1, 1) := by decide +kernel
theorem dJ2_indexOfSupplementary_4cfef_8 : decode cJ2_indexOfSupplementary_4cfef 8 = .ok (.invokestatic 157, 3) := by decide +kernel
theorem dJ2_indexOfSupplementary_4cfef_11 : decode cJ2_indexOfSupplementary_4cfef 11 = .ok (.istore 4, 2) := by decide +kernel
theorem dJ2_indexOfSupplementary_4cfef_13 : decode cJ2_indexOfSupplementary_4cfef 13 = .ok (.iload_n 1, 1) := by decide +kernel
theorem dJ2_indexOfSupplementary_4cfef_14 : decode cJ2_indexOfSupplementary_4cfef 14 = .ok (.invokestatic 161, 3) := by decide +kernel
theorem dJ2_indexOfSupplementary_4cfef_17 : decode cJ2_indexOfSupplementary_4cfef 17 = .ok (.istore 5, 2) := by decide +kernel
theorem dJ2_indexOfSupplementary_4cfef_19 : decode cJ2_indexOfSupplementary_4cfef 19 = .ok (.iload_n 2, 1) := by decide +kernel
theorem dJ2_indexOfSupplementary_4cfef_20 : decode cJ2_indexOfSupplementary_4cfef 20 = .ok (.iload_n 3, 1) := by decide +kernel
theorem dJ2_indexOfSupplementary_4cfef_21 : decode cJ2_indexOfSupplementary_4cfef 21 = .ok (.aload_n 0, 1) := by decide +kernel
theorem dJ2_indexOfSupplementary_4cfef_22 : decode cJ2_indexOfSupplementary_4cfef 22 = .ok (.invokestatic 96, 3) := by decide +kernel
theorem dJ2_indexOfSupplementary_4cfef_25 : decode cJ2_indexOfSupplementary_4cfef 25 = .ok (.iload_n 2, 1) := by decide +kernel
theorem dJ2_indexOfSupplementary_4cfef_26 : decode cJ2_indexOfSupplementary_4cfef 26 = .ok (.istore 6, 2) := by decide +kernel
theorem dJ2_indexOfSupplementary_4cfef_28 : decode cJ2_indexOfSupplementary_4cfef 28 = .ok (.iload 6, 2) := by decide +kernel
theorem dJ2_indexOfSupplementary_4cfef_30 : decode cJ2_indexOfSupplementary_4cfef 30 = .ok (.iload_n 3, 1) := by decide +kernel
theorem dJ2_indexOfSupplementary_4cfef_31 : decode cJ2_indexOfSupplementary_4cfef 31 = .ok (.iconst 1, 1) := by decide +kernel
theorem dJ2_indexOfSupplementary_4cfef_32 : decode cJ2_indexOfSupplementary_4cfef 32 = .ok (.isub, 1) := by decide +kernel
theorem dJ2_indexOfSupplementary_4cfef_33 : decode cJ2_indexOfSupplementary_4cfef 33 = .ok (.if_icmp .ge 36, 3) := by decide +kernel
theorem dJ2_indexOfSupplementary_4cfef_36 : decode cJ2_indexOfSupplementary_4cfef 36 = .ok (.aload_n 0, 1) := by decide +kernel
theorem dJ2_indexOfSupplementary_4cfef_37 : decode cJ2_indexOfSupplementary_4cfef 37 = .ok (.iload 6, 2) := by decide +kernel
theorem dJ2_indexOfSupplementary_4cfef_39 : decode cJ2_indexOfSupplementary_4cfef 39 = .ok (.invokestatic 71, 3) := by decide +kernel
theorem dJ2_indexOfSupplementary_4cfef_42 : decode cJ2_indexOfSupplementary_4cfef 42 = .ok (.iload 4, 2) := by decide +kernel
theorem dJ2_indexOfSupplementary_4cfef_44 : decode cJ2_indexOfSupplementary_4cfef 44 = .ok (.if_icmp .ne 19, 3) := by decide +kernel
theorem dJ2_indexOfSupplementary_4cfef_47 : decode cJ2_indexOfSupplementary_4cfef 47 = .ok (.aload_n 0, 1) := by decide +kernel
theorem dJ2_indexOfSupplementary_4cfef_48 : decode cJ2_indexOfSupplementary_4cfef 48 = .ok (.iload 6, 2) := by decide +kernel
theorem dJ2_indexOfSupplementary_4cfef_50 : decode cJ2_indexOfSupplementary_4cfef 50 = .ok (.iconst 1, 1) := by decide +kernel
theorem dJ2_indexOfSupplementary_4cfef_51 : decode cJ2_indexOfSupplementary_4cfef 51 = .ok (.iadd, 1) := by decide +kernel
theorem dJ2_indexOfSupplementary_4cfef_52 : decode cJ2_indexOfSupplementary_4cfef 52 = .ok (.invokestatic 71, 3) := by decide +kernel
theorem dJ2_indexOfSupplementary_4cfef_55 : decode cJ2_indexOfSupplementary_4cfef 55 = .ok (.iload 5, 2) := by decide +kernel
theorem dJ2_indexOfSupplementary_4cfef_57 : decode cJ2_indexOfSupplementary_4cfef 57 = .ok (.if_icmp .ne 6, 3) := by decide +kernel
theorem dJ2_indexOfSupplementary_4cfef_60 : decode cJ2_indexOfSupplementary_4cfef 60 = .ok (.iload 6, 2) := by decide +kernel
theorem dJ2_indexOfSupplementary_4cfef_62 : decode cJ2_indexOfSupplementary_4cfef 62 = .ok (.ireturn, 1) := by decide +kernel
theorem dJ2_indexOfSupplementary_4cfef_63 : decode cJ2_indexOfSupplementary_4cfef 63 = .ok (.iinc 6 1, 3) := by decide +kernel
theorem dJ2_indexOfSupplementary_4cfef_66 : decode cJ2_indexOfSupplementary_4cfef 66 = .ok (.goto (-38), 3) := by decide +kernel
theorem dJ2_indexOfSupplementary_4cfef_69 : decode cJ2_indexOfSupplementary_4cfef 69 = .ok (.iconst (-1), 1) := by decide +kernel
theorem dJ2_indexOfSupplementary_4cfef_70 : decode cJ2_indexOfSupplementary_4cfef 70 = .ok (.ireturn, 1) := by decide +kernel
theorem dJ2_charAt_3b067_0 : decode cJ2_charAt_3b067 0 = .ok (.iload_n 1, 1) := by decide +kernel
theorem dJ2_charAt_3b067_1 : decode cJ2_charAt_3b067 1 = .ok (.aload_n 0, 1) := by decide +kernel
theorem dJ2_charAt_3b067_2 : decode cJ2_charAt_3b067 2 = .ok (.invokestatic 67, 3) := by decide +kernel
theorem dJ2_charAt_3b067_5 : decode cJ2_charAt_3b067 5 = .ok (.aload_n 0, 1) := by decide +kernel
theorem dJ2_charAt_3b067_6 : decode cJ2_charAt_3b067 6 = .ok (.iload_n 1, 1) := by decide +kernel
theorem dJ2_charAt_3b067_7 : decode cJ2_charAt_3b067 7 = .ok (.invokestatic 71, 3) := by decide +kernel
theorem dJ2_charAt_3b067_10 : decode cJ2_charAt_3b067 10 = .ok (.ireturn, 1) := by decide +kernel
theorem dJ2_checkIndex_2214a_0 : decode cJ2_checkIndex_2214a 0 = .ok (.iload_n 0, 1) := by decide +kernel
theorem dJ2_checkIndex_2214a_1 : decode cJ2_checkIndex_2214a 1 = .ok (.aload_n 1, 1) := by decide +kernel
theorem dJ2_checkIndex_2214a_2 : decode cJ2_checkIndex_2214a 2 = .ok (.invokestatic 48, 3) := by decide +kernel
theorem dJ2_checkIndex_2214a_5 : decode cJ2_checkIndex_2214a 5 = .ok (.invokestatic 414, 3) := by decide +kernel
theorem dJ2_checkIndex_2214a_8 : decode cJ2_checkIndex_2214a 8 = .ok (.return_, 1) := by decide +kernel
theorem dJ2_checkBoundsBeginEnd_d044e_0 : decode cJ2_checkBoundsBeginEnd_d044e 0 = .ok (.iload_n 0, 1) := by decide +kernel
theorem dJ2_checkBoundsBeginEnd_d044e_1 : decode cJ2_checkBoundsBeginEnd_d044e 1 = .ok (.iload_n 1, 1) := by decide +kernel
theorem dJ2_checkBoundsBeginEnd_d044e_2 : decode cJ2_checkBoundsBeginEnd_d044e 2 = .ok (.aload_n 2, 1) := by decide +kernel
theorem dJ2_checkBoundsBeginEnd_d044e_3 : decode cJ2_checkBoundsBeginEnd_d044e 3 = .ok (.invokestatic 48, 3) := by decide +kernel
theorem dJ2_checkBoundsBeginEnd_d044e_6 : decode cJ2_checkBoundsBeginEnd_d044e 6 = .ok (.invokestatic 241, 3) := by decide +kernel
theorem dJ2_checkBoundsBeginEnd_d044e_9 : decode cJ2_checkBoundsBeginEnd_d044e 9 = .ok (.return_, 1) := by decide +kernel
theorem dJ7_fill_d0a16_0 : decode cJ7_fill_d0a16 0 = .ok (.iconst 0, 1) := by decide +kernel
theorem dJ7_fill_d0a16_1 : decode cJ7_fill_d0a16 1 = .ok (.istore_n 3, 1) := by decide +kernel
theorem dJ7_fill_d0a16_2 : decode cJ7_fill_d0a16 2 = .ok (.aload_n 0, 1) := by decide +kernel
theorem dJ7_fill_d0a16_3 : decode cJ7_fill_d0a16 3 = .ok (.arraylength, 1) := by decide +kernel
theorem dJ7_fill_d0a16_4 : decode cJ7_fill_d0a16 4 = .ok (.istore 4, 2) := by decide +kernel
theorem dJ7_fill_d0a16_6 : decode cJ7_fill_d0a16 6 = .ok (.iload_n 3, 1) := by decide +kernel
theorem dJ7_fill_d0a16_7 : decode cJ7_fill_d0a16 7 = .ok (.iload 4, 2) := by decide +kernel
theorem dJ7_fill_d0a16_9 : decode cJ7_fill_d0a16 9 = .ok (.if_icmp .ge 13, 3) := by decide +kernel
theorem dJ7_fill_d0a16_12 : decode cJ7_fill_d0a16 12 = .ok (.aload_n 0, 1) := by decide +kernel
theorem dJ7_fill_d0a16_13 : decode cJ7_fill_d0a16 13 = .ok (.iload_n 3, 1) := by decide +kernel
theorem dJ7_fill_d0a16_14 : decode cJ7_fill_d0a16 14 = .ok (.lload_n 1, 1) := by decide +kernel
theorem dJ7_fill_d0a16_15 : decode cJ7_fill_d0a16 15 = .ok (.lastore, 1) := by decide +kernel
theorem dJ7_fill_d0a16_16 : decode cJ7_fill_d0a16 16 = .ok (.iinc 3 1, 3) := by decide +kernel
theorem dJ7_fill_d0a16_19 : decode cJ7_fill_d0a16 19 = .ok (.goto (-13), 3) := by decide +kernel
theorem dJ7_fill_d0a16_22 : decode cJ7_fill_d0a16 22 = .ok (.return_, 1) := by decide +kernel
theorem dJ7_fill_53178_0 : decode cJ7_fill_53178 0 = .ok (.iconst 0, 1) := by decide +kernel
theorem dJ7_fill_53178_1 : decode cJ7_fill_53178 1 = .ok (.istore_n 2, 1) := by decide +kernel
theorem dJ7_fill_53178_2 : decode cJ7_fill_53178 2 = .ok (.aload_n 0, 1) := by decide +kernel
theorem dJ7_fill_53178_3 : decode cJ7_fill_53178 3 = .ok (.arraylength, 1) := by decide +kernel
theorem dJ7_fill_53178_4 : decode cJ7_fill_53178 4 = .ok (.istore_n 3, 1) := by decide +kernel
theorem dJ7_fill_53178_5 : decode cJ7_fill_53178 5 = .ok (.iload_n 2, 1) := by decide +kernel
theorem dJ7_fill_53178_6 : decode cJ7_fill_53178 6 = .ok (.iload_n 3, 1) := by decide +kernel
theorem dJ7_fill_53178_7 : decode cJ7_fill_53178 7 = .ok (.if_icmp .ge 13, 3) := by decide +kernel
theorem dJ7_fill_53178_10 : decode cJ7_fill_53178 10 = .ok (.aload_n 0, 1) := by decide +kernel
theorem dJ7_fill_53178_11 : decode cJ7_fill_53178 11 = .ok (.iload_n 2, 1) := by decide +kernel
theorem dJ7_fill_53178_12 : decode cJ7_fill_53178 12 = .ok (.iload_n 1, 1) := by decide +kernel
theorem dJ7_fill_53178_13 : decode cJ7_fill_53178 13 = .ok (.iastore, 1) := by decide +kernel
theorem dJ7_fill_53178_14 : decode cJ7_fill_53178 14 = .ok (.iinc 2 1, 3) := by decide +kernel
theorem dJ7_fill_53178_17 : decode cJ7_fill_53178 17 = .ok (.goto (-12), 3) := by decide +kernel
theorem dJ7_fill_53178_20 : decode cJ7_fill_53178 20 = .ok (.return_, 1) := by decide +kernel
theorem dJ3_checkIndex_8e157_0 : decode cJ3_checkIndex_8e157 0 = .ok (.iload_n 0, 1) := by decide +kernel
theorem dJ3_checkIndex_8e157_1 : decode cJ3_checkIndex_8e157 1 = .ok (.ifCond .lt 8, 3) := by decide +kernel
theorem dJ3_checkIndex_8e157_4 : decode cJ3_checkIndex_8e157 4 = .ok (.iload_n 0, 1) := by decide +kernel
theorem dJ3_checkIndex_8e157_5 : decode cJ3_checkIndex_8e157 5 = .ok (.iload_n 1, 1) := by decide +kernel
theorem dJ3_checkIndex_8e157_6 : decode cJ3_checkIndex_8e157 6 = .ok (.if_icmp .lt 10, 3) := by decide +kernel
theorem dJ3_checkIndex_8e157_9 : decode cJ3_checkIndex_8e157 9 = .ok (.aload_n 2, 1) := by decide +kernel
theorem dJ3_checkIndex_8e157_10 : decode cJ3_checkIndex_8e157 10 = .ok (.iload_n 0, 1) := by decide +kernel
theorem dJ3_checkIndex_8e157_11 : decode cJ3_checkIndex_8e157 11 = .ok (.iload_n 1, 1) := by decide +kernel
theorem dJ3_checkIndex_8e157_12 : decode cJ3_checkIndex_8e157 12 = .ok (.invokestatic 95, 3) := by decide +kernel
theorem dJ3_checkIndex_8e157_15 : decode cJ3_checkIndex_8e157 15 = .ok (.athrow, 1) := by decide +kernel
theorem dJ3_checkIndex_8e157_16 : decode cJ3_checkIndex_8e157 16 = .ok (.iload_n 0, 1) := by decide +kernel
theorem dJ3_checkIndex_8e157_17 : decode cJ3_checkIndex_8e157 17 = .ok (.ireturn, 1) := by decide +kernel
theorem dJ3_checkFromToIndex_8c36e_0 : decode cJ3_checkFromToIndex_8c36e 0 = .ok (.iload_n 0, 1) := by decide +kernel
theorem dJ3_checkFromToIndex_8c36e_1 : decode cJ3_checkFromToIndex_8c36e 1 = .ok (.ifCond .lt 13, 3) := by decide +kernel
theorem dJ3_checkFromToIndex_8c36e_4 : decode cJ3_checkFromToIndex_8c36e 4 = .ok (.iload_n 0, 1) := by decide +kernel
theorem dJ3_checkFromToIndex_8c36e_5 : decode cJ3_checkFromToIndex_8c36e 5 = .ok (.iload_n 1, 1) := by decide +kernel
theorem dJ3_checkFromToIndex_8c36e_6 : decode cJ3_checkFromToIndex_8c36e 6 = .ok (.if_icmp .gt 8, 3) := by decide +kernel
theorem dJ3_checkFromToIndex_8c36e_9 : decode cJ3_checkFromToIndex_8c36e 9 = .ok (.iload_n 1, 1) := by decide +kernel
theorem dJ3_checkFromToIndex_8c36e_10 : decode cJ3_checkFromToIndex_8c36e 10 = .ok (.iload_n 2, 1) := by decide +kernel
theorem dJ3_checkFromToIndex_8c36e_11 : decode cJ3_checkFromToIndex_8c36e 11 = .ok (.if_icmp .le 11, 3) := by decide +kernel
theorem dJ3_checkFromToIndex_8c36e_14 : decode cJ3_checkFromToIndex_8c36e 14 = .ok (.aload_n 3, 1) := by decide +kernel
theorem dJ3_checkFromToIndex_8c36e_15 : decode cJ3_checkFromToIndex_8c36e 15 = .ok (.iload_n 0, 1) := by decide +kernel
theorem dJ3_checkFromToIndex_8c36e_16 : decode cJ3_checkFromToIndex_8c36e 16 = .ok (.iload_n 1, 1) := by decide +kernel
theorem dJ3_checkFromToIndex_8c36e_17 : decode cJ3_checkFromToIndex_8c36e 17 = .ok (.iload_n 2, 1) := by decide +kernel
theorem dJ3_checkFromToIndex_8c36e_18 : decode cJ3_checkFromToIndex_8c36e 18 = .ok (.invokestatic 99, 3) := by decide +kernel
theorem dJ3_checkFromToIndex_8c36e_21 : decode cJ3_checkFromToIndex_8c36e 21 = .ok (.athrow, 1) := by decide +kernel
theorem dJ3_checkFromToIndex_8c36e_22 : decode cJ3_checkFromToIndex_8c36e 22 = .ok (.iload_n 0, 1) := by decide +kernel
theorem dJ3_checkFromToIndex_8c36e_23 : decode cJ3_checkFromToIndex_8c36e 23 = .ok (.ireturn, 1) := by decide +kernel
