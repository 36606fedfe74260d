/-! ===== each instruction, each link ===== -/
theorem i_0_0 : pm_at q_0 0 = some (.aload_n 0, 1) := by decide +kernel
theorem i_0_1 : pm_at q_0 1 = some (.invokespecial 3, 3) := by decide +kernel
theorem i_0_4 : pm_at q_0 4 = some (.return_, 1) := by decide +kernel
theorem i_1_0 : pm_at q_1 0 = some (.aload_n 0, 1) := by decide +kernel
theorem i_1_1 : pm_at q_1 1 = some (.iload_n 1, 1) := by decide +kernel
theorem i_1_2 : pm_at q_1 2 = some (.iload_n 2, 1) := by decide +kernel
theorem i_1_3 : pm_at q_1 3 = some (.bipush 6, 2) := by decide +kernel
theorem i_1_5 : pm_at q_1 5 = some (.if_icmp .gt 9, 3) := by decide +kernel
theorem i_1_8 : pm_at q_1 8 = some (.iconst 2, 1) := by decide +kernel
theorem i_1_9 : pm_at q_1 9 = some (.iload_n 2, 1) := by decide +kernel
theorem i_1_10 : pm_at q_1 10 = some (.imul, 1) := by decide +kernel
theorem i_1_11 : pm_at q_1 11 = some (.goto 9, 3) := by decide +kernel
theorem i_1_14 : pm_at q_1 14 = some (.iconst 2, 1) := by decide +kernel
theorem i_1_15 : pm_at q_1 15 = some (.bipush 12, 2) := by decide +kernel
theorem i_1_17 : pm_at q_1 17 = some (.iload_n 2, 1) := by decide +kernel
theorem i_1_18 : pm_at q_1 18 = some (.isub, 1) := by decide +kernel
theorem i_1_19 : pm_at q_1 19 = some (.imul, 1) := by decide +kernel
theorem i_1_20 : pm_at q_1 20 = some (.iload_n 3, 1) := by decide +kernel
theorem i_1_21 : pm_at q_1 21 = some (.invokespecial 9, 3) := by decide +kernel
theorem i_1_24 : pm_at q_1 24 = some (.ireturn, 1) := by decide +kernel
theorem i_2_0 : pm_at q_2 0 = some (.aload_n 0, 1) := by decide +kernel
theorem i_2_1 : pm_at q_2 1 = some (.iload_n 1, 1) := by decide +kernel
theorem i_2_2 : pm_at q_2 2 = some (.iload_n 2, 1) := by decide +kernel
theorem i_2_3 : pm_at q_2 3 = some (.invokespecial 13, 3) := by decide +kernel
theorem i_2_6 : pm_at q_2 6 = some (.iconst 2, 1) := by decide +kernel
theorem i_2_7 : pm_at q_2 7 = some (.iload_n 1, 1) := by decide +kernel
theorem i_2_8 : pm_at q_2 8 = some (.imul, 1) := by decide +kernel
theorem i_2_9 : pm_at q_2 9 = some (.iadd, 1) := by decide +kernel
theorem i_2_10 : pm_at q_2 10 = some (.ireturn, 1) := by decide +kernel
theorem i_3_0 : pm_at q_3 0 = some (.aload_n 0, 1) := by decide +kernel
theorem i_3_1 : pm_at q_3 1 = some (.invokespecial 17, 3) := by decide +kernel
theorem i_3_4 : pm_at q_3 4 = some (.bipush 50, 2) := by decide +kernel
theorem i_3_6 : pm_at q_3 6 = some (.iadd, 1) := by decide +kernel
theorem i_3_7 : pm_at q_3 7 = some (.ireturn, 1) := by decide +kernel
theorem i_4_0 : pm_at q_4 0 = some (.aload_n 0, 1) := by decide +kernel
theorem i_4_1 : pm_at q_4 1 = some (.invokespecial 1, 3) := by decide +kernel
theorem i_4_4 : pm_at q_4 4 = some (.return_, 1) := by decide +kernel
theorem i_5_0 : pm_at q_5 0 = some (.iload_n 2, 1) := by decide +kernel
theorem i_5_1 : pm_at q_5 1 = some (.iconst 4, 1) := by decide +kernel
theorem i_5_2 : pm_at q_5 2 = some (.if_icmp .ge 7, 3) := by decide +kernel
theorem i_5_5 : pm_at q_5 5 = some (.iconst 0, 1) := by decide +kernel
theorem i_5_6 : pm_at q_5 6 = some (.goto 10, 3) := by decide +kernel
theorem i_5_9 : pm_at q_5 9 = some (.aload_n 0, 1) := by decide +kernel
theorem i_5_10 : pm_at q_5 10 = some (.iload_n 1, 1) := by decide +kernel
theorem i_5_11 : pm_at q_5 11 = some (.iload_n 2, 1) := by decide +kernel
theorem i_5_12 : pm_at q_5 12 = some (.iload_n 3, 1) := by decide +kernel
theorem i_5_13 : pm_at q_5 13 = some (.invokespecial 7, 3) := by decide +kernel
theorem i_5_16 : pm_at q_5 16 = some (.ireturn, 1) := by decide +kernel
theorem i_6_0 : pm_at q_6 0 = some (.aload_n 0, 1) := by decide +kernel
theorem i_6_1 : pm_at q_6 1 = some (.iload_n 1, 1) := by decide +kernel
theorem i_6_2 : pm_at q_6 2 = some (.iload_n 2, 1) := by decide +kernel
theorem i_6_3 : pm_at q_6 3 = some (.invokespecial 11, 3) := by decide +kernel
theorem i_6_6 : pm_at q_6 6 = some (.iload_n 1, 1) := by decide +kernel
theorem i_6_7 : pm_at q_6 7 = some (.isub, 1) := by decide +kernel
theorem i_6_8 : pm_at q_6 8 = some (.ireturn, 1) := by decide +kernel
theorem i_7_0 : pm_at q_7 0 = some (.aload_n 0, 1) := by decide +kernel
theorem i_7_1 : pm_at q_7 1 = some (.invokespecial 3, 3) := by decide +kernel
theorem i_7_4 : pm_at q_7 4 = some (.aload_n 0, 1) := by decide +kernel
theorem i_7_5 : pm_at q_7 5 = some (.bipush 7, 2) := by decide +kernel
theorem i_7_7 : pm_at q_7 7 = some (.anewarray 9, 3) := by decide +kernel
theorem i_7_10 : pm_at q_7 10 = some (.putfield 11, 3) := by decide +kernel
theorem i_7_13 : pm_at q_7 13 = some (.aload_n 0, 1) := by decide +kernel
theorem i_7_14 : pm_at q_7 14 = some (.bipush 7, 2) := by decide +kernel
theorem i_7_16 : pm_at q_7 16 = some (.newarray .int, 2) := by decide +kernel
theorem i_7_18 : pm_at q_7 18 = some (.putfield 17, 3) := by decide +kernel
theorem i_7_21 : pm_at q_7 21 = some (.aload_n 0, 1) := by decide +kernel
theorem i_7_22 : pm_at q_7 22 = some (.bipush 20, 2) := by decide +kernel
theorem i_7_24 : pm_at q_7 24 = some (.putfield 21, 3) := by decide +kernel
theorem i_7_27 : pm_at q_7 27 = some (.aload_n 0, 1) := by decide +kernel
theorem i_7_28 : pm_at q_7 28 = some (.iconst 0, 1) := by decide +kernel
theorem i_7_29 : pm_at q_7 29 = some (.putfield 25, 3) := by decide +kernel
theorem i_7_32 : pm_at q_7 32 = some (.aload_n 0, 1) := by decide +kernel
theorem i_7_33 : pm_at q_7 33 = some (.iconst 0, 1) := by decide +kernel
theorem i_7_34 : pm_at q_7 34 = some (.putfield 28, 3) := by decide +kernel
theorem i_7_37 : pm_at q_7 37 = some (.aload_n 0, 1) := by decide +kernel
theorem i_7_38 : pm_at q_7 38 = some (.aload_n 1, 1) := by decide +kernel
theorem i_7_39 : pm_at q_7 39 = some (.putfield 31, 3) := by decide +kernel
theorem i_7_42 : pm_at q_7 42 = some (.iconst 0, 1) := by decide +kernel
theorem i_7_43 : pm_at q_7 43 = some (.istore_n 2, 1) := by decide +kernel
theorem i_7_44 : pm_at q_7 44 = some (.iload_n 2, 1) := by decide +kernel
theorem i_7_45 : pm_at q_7 45 = some (.bipush 7, 2) := by decide +kernel
theorem i_7_47 : pm_at q_7 47 = some (.if_icmp .ge 22, 3) := by decide +kernel
theorem i_7_50 : pm_at q_7 50 = some (.aload_n 0, 1) := by decide +kernel
theorem i_7_51 : pm_at q_7 51 = some (.getfield 11, 3) := by decide +kernel
theorem i_7_54 : pm_at q_7 54 = some (.iload_n 2, 1) := by decide +kernel
theorem i_7_55 : pm_at q_7 55 = some (.new 9, 3) := by decide +kernel
theorem i_7_58 : pm_at q_7 58 = some (.dup, 1) := by decide +kernel
theorem i_7_59 : pm_at q_7 59 = some (.invokespecial 35, 3) := by decide +kernel
theorem i_7_62 : pm_at q_7 62 = some (.aastore, 1) := by decide +kernel
theorem i_7_63 : pm_at q_7 63 = some (.iinc 2 1, 3) := by decide +kernel
theorem i_7_66 : pm_at q_7 66 = some (.goto (-22), 3) := by decide +kernel
theorem i_7_69 : pm_at q_7 69 = some (.return_, 1) := by decide +kernel
theorem i_8_0 : pm_at q_8 0 = some (.aload_n 0, 1) := by decide +kernel
theorem i_8_1 : pm_at q_8 1 = some (.iload_n 1, 1) := by decide +kernel
theorem i_8_2 : pm_at q_8 2 = some (.putfield 21, 3) := by decide +kernel
theorem i_8_5 : pm_at q_8 5 = some (.aload_n 0, 1) := by decide +kernel
theorem i_8_6 : pm_at q_8 6 = some (.iconst 0, 1) := by decide +kernel
theorem i_8_7 : pm_at q_8 7 = some (.putfield 25, 3) := by decide +kernel
theorem i_8_10 : pm_at q_8 10 = some (.aload_n 0, 1) := by decide +kernel
theorem i_8_11 : pm_at q_8 11 = some (.iconst 0, 1) := by decide +kernel
theorem i_8_12 : pm_at q_8 12 = some (.putfield 28, 3) := by decide +kernel
theorem i_8_15 : pm_at q_8 15 = some (.return_, 1) := by decide +kernel
theorem i_9_0 : pm_at q_9 0 = some (.aload_n 0, 1) := by decide +kernel
theorem i_9_1 : pm_at q_9 1 = some (.aload_n 1, 1) := by decide +kernel
theorem i_9_2 : pm_at q_9 2 = some (.getfield 21, 3) := by decide +kernel
theorem i_9_5 : pm_at q_9 5 = some (.putfield 21, 3) := by decide +kernel
theorem i_9_8 : pm_at q_9 8 = some (.aload_n 0, 1) := by decide +kernel
theorem i_9_9 : pm_at q_9 9 = some (.aload_n 1, 1) := by decide +kernel
theorem i_9_10 : pm_at q_9 10 = some (.getfield 25, 3) := by decide +kernel
theorem i_9_13 : pm_at q_9 13 = some (.putfield 25, 3) := by decide +kernel
theorem i_9_16 : pm_at q_9 16 = some (.aload_n 0, 1) := by decide +kernel
theorem i_9_17 : pm_at q_9 17 = some (.aload_n 1, 1) := by decide +kernel
theorem i_9_18 : pm_at q_9 18 = some (.getfield 28, 3) := by decide +kernel
theorem i_9_21 : pm_at q_9 21 = some (.putfield 28, 3) := by decide +kernel
theorem i_9_24 : pm_at q_9 24 = some (.iconst 0, 1) := by decide +kernel
theorem i_9_25 : pm_at q_9 25 = some (.istore_n 2, 1) := by decide +kernel
theorem i_9_26 : pm_at q_9 26 = some (.iload_n 2, 1) := by decide +kernel
theorem i_9_27 : pm_at q_9 27 = some (.aload_n 0, 1) := by decide +kernel
theorem i_9_28 : pm_at q_9 28 = some (.getfield 28, 3) := by decide +kernel
theorem i_9_31 : pm_at q_9 31 = some (.if_icmp .ge 24, 3) := by decide +kernel
theorem i_9_34 : pm_at q_9 34 = some (.aload_n 0, 1) := by decide +kernel
theorem i_9_35 : pm_at q_9 35 = some (.getfield 11, 3) := by decide +kernel
theorem i_9_38 : pm_at q_9 38 = some (.iload_n 2, 1) := by decide +kernel
theorem i_9_39 : pm_at q_9 39 = some (.aaload, 1) := by decide +kernel
theorem i_9_40 : pm_at q_9 40 = some (.aload_n 1, 1) := by decide +kernel
theorem i_9_41 : pm_at q_9 41 = some (.getfield 11, 3) := by decide +kernel
theorem i_9_44 : pm_at q_9 44 = some (.iload_n 2, 1) := by decide +kernel
theorem i_9_45 : pm_at q_9 45 = some (.aaload, 1) := by decide +kernel
theorem i_9_46 : pm_at q_9 46 = some (.invokevirtual 36, 3) := by decide +kernel
theorem i_9_49 : pm_at q_9 49 = some (.iinc 2 1, 3) := by decide +kernel
theorem i_9_52 : pm_at q_9 52 = some (.goto (-26), 3) := by decide +kernel
theorem i_9_55 : pm_at q_9 55 = some (.return_, 1) := by decide +kernel
theorem i_10_0 : pm_at q_10 0 = some (.aload_n 0, 1) := by decide +kernel
theorem i_10_1 : pm_at q_10 1 = some (.getfield 28, 3) := by decide +kernel
theorem i_10_4 : pm_at q_10 4 = some (.bipush 7, 2) := by decide +kernel
theorem i_10_6 : pm_at q_10 6 = some (.if_icmp .lt 7, 3) := by decide +kernel
theorem i_10_9 : pm_at q_10 9 = some (.iconst 1, 1) := by decide +kernel
theorem i_10_10 : pm_at q_10 10 = some (.goto 4, 3) := by decide +kernel
theorem i_10_13 : pm_at q_10 13 = some (.iconst 0, 1) := by decide +kernel
theorem i_10_14 : pm_at q_10 14 = some (.ireturn, 1) := by decide +kernel
theorem i_11_0 : pm_at q_11 0 = some (.aload_n 0, 1) := by decide +kernel
theorem i_11_1 : pm_at q_11 1 = some (.invokevirtual 40, 3) := by decide +kernel
theorem i_11_4 : pm_at q_11 4 = some (.ifCond .eq 5, 3) := by decide +kernel
theorem i_11_7 : pm_at q_11 7 = some (.iconst (-1), 1) := by decide +kernel
theorem i_11_8 : pm_at q_11 8 = some (.ireturn, 1) := by decide +kernel
theorem i_11_9 : pm_at q_11 9 = some (.aload_n 0, 1) := by decide +kernel
theorem i_11_10 : pm_at q_11 10 = some (.getfield 11, 3) := by decide +kernel
theorem i_11_13 : pm_at q_11 13 = some (.aload_n 0, 1) := by decide +kernel
theorem i_11_14 : pm_at q_11 14 = some (.getfield 28, 3) := by decide +kernel
theorem i_11_17 : pm_at q_11 17 = some (.aaload, 1) := by decide +kernel
theorem i_11_18 : pm_at q_11 18 = some (.astore 6, 2) := by decide +kernel
theorem i_11_20 : pm_at q_11 20 = some (.aload 6, 2) := by decide +kernel
theorem i_11_22 : pm_at q_11 22 = some (.iload_n 1, 1) := by decide +kernel
theorem i_11_23 : pm_at q_11 23 = some (.putfield 44, 3) := by decide +kernel
theorem i_11_26 : pm_at q_11 26 = some (.aload 6, 2) := by decide +kernel
theorem i_11_28 : pm_at q_11 28 = some (.iload_n 2, 1) := by decide +kernel
theorem i_11_29 : pm_at q_11 29 = some (.putfield 47, 3) := by decide +kernel
theorem i_11_32 : pm_at q_11 32 = some (.aload 6, 2) := by decide +kernel
theorem i_11_34 : pm_at q_11 34 = some (.iload_n 3, 1) := by decide +kernel
theorem i_11_35 : pm_at q_11 35 = some (.putfield 50, 3) := by decide +kernel
theorem i_11_38 : pm_at q_11 38 = some (.aload 6, 2) := by decide +kernel
theorem i_11_40 : pm_at q_11 40 = some (.iload 4, 2) := by decide +kernel
theorem i_11_42 : pm_at q_11 42 = some (.putfield 53, 3) := by decide +kernel
theorem i_11_45 : pm_at q_11 45 = some (.aload 6, 2) := by decide +kernel
theorem i_11_47 : pm_at q_11 47 = some (.iload 5, 2) := by decide +kernel
theorem i_11_49 : pm_at q_11 49 = some (.putfield 56, 3) := by decide +kernel
theorem i_11_52 : pm_at q_11 52 = some (.aload 6, 2) := by decide +kernel
theorem i_11_54 : pm_at q_11 54 = some (.iconst 0, 1) := by decide +kernel
theorem i_11_55 : pm_at q_11 55 = some (.putfield 59, 3) := by decide +kernel
theorem i_11_58 : pm_at q_11 58 = some (.aload 6, 2) := by decide +kernel
theorem i_11_60 : pm_at q_11 60 = some (.iconst 0, 1) := by decide +kernel
theorem i_11_61 : pm_at q_11 61 = some (.putfield 62, 3) := by decide +kernel
theorem i_11_64 : pm_at q_11 64 = some (.aload 6, 2) := by decide +kernel
theorem i_11_66 : pm_at q_11 66 = some (.aload_n 0, 1) := by decide +kernel
theorem i_11_67 : pm_at q_11 67 = some (.getfield 31, 3) := by decide +kernel
theorem i_11_70 : pm_at q_11 70 = some (.iload_n 1, 1) := by decide +kernel
theorem i_11_71 : pm_at q_11 71 = some (.aaload, 1) := by decide +kernel
theorem i_11_72 : pm_at q_11 72 = some (.invokevirtual 65, 3) := by decide +kernel
theorem i_11_75 : pm_at q_11 75 = some (.putfield 71, 3) := by decide +kernel
theorem i_11_78 : pm_at q_11 78 = some (.aload_n 0, 1) := by decide +kernel
theorem i_11_79 : pm_at q_11 79 = some (.dup, 1) := by decide +kernel
theorem i_11_80 : pm_at q_11 80 = some (.getfield 28, 3) := by decide +kernel
theorem i_11_83 : pm_at q_11 83 = some (.iconst 1, 1) := by decide +kernel
theorem i_11_84 : pm_at q_11 84 = some (.iadd, 1) := by decide +kernel
theorem i_11_85 : pm_at q_11 85 = some (.putfield 28, 3) := by decide +kernel
theorem i_11_88 : pm_at q_11 88 = some (.aload_n 0, 1) := by decide +kernel
theorem i_11_89 : pm_at q_11 89 = some (.getfield 28, 3) := by decide +kernel
theorem i_11_92 : pm_at q_11 92 = some (.iconst 1, 1) := by decide +kernel
theorem i_11_93 : pm_at q_11 93 = some (.isub, 1) := by decide +kernel
theorem i_11_94 : pm_at q_11 94 = some (.ireturn, 1) := by decide +kernel
theorem i_12_0 : pm_at q_12 0 = some (.iload_n 1, 1) := by decide +kernel
theorem i_12_1 : pm_at q_12 1 = some (.aload_n 0, 1) := by decide +kernel
theorem i_12_2 : pm_at q_12 2 = some (.getfield 25, 3) := by decide +kernel
theorem i_12_5 : pm_at q_12 5 = some (.isub, 1) := by decide +kernel
theorem i_12_6 : pm_at q_12 6 = some (.invokestatic 74, 3) := by decide +kernel
theorem i_12_9 : pm_at q_12 9 = some (.istore_n 2, 1) := by decide +kernel
theorem i_12_10 : pm_at q_12 10 = some (.iconst 0, 1) := by decide +kernel
theorem i_12_11 : pm_at q_12 11 = some (.istore_n 3, 1) := by decide +kernel
theorem i_12_12 : pm_at q_12 12 = some (.iload_n 3, 1) := by decide +kernel
theorem i_12_13 : pm_at q_12 13 = some (.aload_n 0, 1) := by decide +kernel
theorem i_12_14 : pm_at q_12 14 = some (.getfield 28, 3) := by decide +kernel
theorem i_12_17 : pm_at q_12 17 = some (.if_icmp .ge 47, 3) := by decide +kernel
theorem i_12_20 : pm_at q_12 20 = some (.aload_n 0, 1) := by decide +kernel
theorem i_12_21 : pm_at q_12 21 = some (.getfield 11, 3) := by decide +kernel
theorem i_12_24 : pm_at q_12 24 = some (.iload_n 3, 1) := by decide +kernel
theorem i_12_25 : pm_at q_12 25 = some (.aaload, 1) := by decide +kernel
theorem i_12_26 : pm_at q_12 26 = some (.invokevirtual 80, 3) := by decide +kernel
theorem i_12_29 : pm_at q_12 29 = some (.ifCond .ne 29, 3) := by decide +kernel
theorem i_12_32 : pm_at q_12 32 = some (.aload_n 0, 1) := by decide +kernel
theorem i_12_33 : pm_at q_12 33 = some (.getfield 11, 3) := by decide +kernel
theorem i_12_36 : pm_at q_12 36 = some (.iload_n 3, 1) := by decide +kernel
theorem i_12_37 : pm_at q_12 37 = some (.aaload, 1) := by decide +kernel
theorem i_12_38 : pm_at q_12 38 = some (.sipush 999, 3) := by decide +kernel
theorem i_12_41 : pm_at q_12 41 = some (.aload_n 0, 1) := by decide +kernel
theorem i_12_42 : pm_at q_12 42 = some (.getfield 11, 3) := by decide +kernel
theorem i_12_45 : pm_at q_12 45 = some (.iload_n 3, 1) := by decide +kernel
theorem i_12_46 : pm_at q_12 46 = some (.aaload, 1) := by decide +kernel
theorem i_12_47 : pm_at q_12 47 = some (.getfield 62, 3) := by decide +kernel
theorem i_12_50 : pm_at q_12 50 = some (.iload_n 2, 1) := by decide +kernel
theorem i_12_51 : pm_at q_12 51 = some (.iadd, 1) := by decide +kernel
theorem i_12_52 : pm_at q_12 52 = some (.invokestatic 83, 3) := by decide +kernel
theorem i_12_55 : pm_at q_12 55 = some (.putfield 62, 3) := by decide +kernel
theorem i_12_58 : pm_at q_12 58 = some (.iinc 3 1, 3) := by decide +kernel
theorem i_12_61 : pm_at q_12 61 = some (.goto (-49), 3) := by decide +kernel
theorem i_12_64 : pm_at q_12 64 = some (.aload_n 0, 1) := by decide +kernel
theorem i_12_65 : pm_at q_12 65 = some (.iload_n 1, 1) := by decide +kernel
theorem i_12_66 : pm_at q_12 66 = some (.putfield 25, 3) := by decide +kernel
theorem i_12_69 : pm_at q_12 69 = some (.return_, 1) := by decide +kernel
theorem i_13_0 : pm_at q_13 0 = some (.iconst 1, 1) := by decide +kernel
theorem i_13_1 : pm_at q_13 1 = some (.iload_n 1, 1) := by decide +kernel
theorem i_13_2 : pm_at q_13 2 = some (.ishl, 1) := by decide +kernel
theorem i_13_3 : pm_at q_13 3 = some (.istore_n 2, 1) := by decide +kernel
theorem i_13_4 : pm_at q_13 4 = some (.iload_n 1, 1) := by decide +kernel
theorem i_13_5 : pm_at q_13 5 = some (.iconst 1, 1) := by decide +kernel
theorem i_13_6 : pm_at q_13 6 = some (.iadd, 1) := by decide +kernel
theorem i_13_7 : pm_at q_13 7 = some (.istore_n 3, 1) := by decide +kernel
theorem i_13_8 : pm_at q_13 8 = some (.iload_n 3, 1) := by decide +kernel
theorem i_13_9 : pm_at q_13 9 = some (.aload_n 0, 1) := by decide +kernel
theorem i_13_10 : pm_at q_13 10 = some (.getfield 28, 3) := by decide +kernel
theorem i_13_13 : pm_at q_13 13 = some (.if_icmp .ge 43, 3) := by decide +kernel
theorem i_13_16 : pm_at q_13 16 = some (.aload_n 0, 1) := by decide +kernel
theorem i_13_17 : pm_at q_13 17 = some (.getfield 11, 3) := by decide +kernel
theorem i_13_20 : pm_at q_13 20 = some (.iload_n 3, 1) := by decide +kernel
theorem i_13_21 : pm_at q_13 21 = some (.aaload, 1) := by decide +kernel
theorem i_13_22 : pm_at q_13 22 = some (.getfield 56, 3) := by decide +kernel
theorem i_13_25 : pm_at q_13 25 = some (.ifCond .lt 25, 3) := by decide +kernel
theorem i_13_28 : pm_at q_13 28 = some (.iload_n 2, 1) := by decide +kernel
theorem i_13_29 : pm_at q_13 29 = some (.aload_n 0, 1) := by decide +kernel
theorem i_13_30 : pm_at q_13 30 = some (.getfield 11, 3) := by decide +kernel
theorem i_13_33 : pm_at q_13 33 = some (.iload_n 3, 1) := by decide +kernel
theorem i_13_34 : pm_at q_13 34 = some (.aaload, 1) := by decide +kernel
theorem i_13_35 : pm_at q_13 35 = some (.getfield 56, 3) := by decide +kernel
theorem i_13_38 : pm_at q_13 38 = some (.invokestatic 87, 3) := by decide +kernel
theorem i_13_41 : pm_at q_13 41 = some (.ifCond .eq 9, 3) := by decide +kernel
theorem i_13_44 : pm_at q_13 44 = some (.iload_n 2, 1) := by decide +kernel
theorem i_13_45 : pm_at q_13 45 = some (.iconst 1, 1) := by decide +kernel
theorem i_13_46 : pm_at q_13 46 = some (.iload_n 3, 1) := by decide +kernel
theorem i_13_47 : pm_at q_13 47 = some (.ishl, 1) := by decide +kernel
theorem i_13_48 : pm_at q_13 48 = some (.ior, 1) := by decide +kernel
theorem i_13_49 : pm_at q_13 49 = some (.istore_n 2, 1) := by decide +kernel
theorem i_13_50 : pm_at q_13 50 = some (.iinc 3 1, 3) := by decide +kernel
theorem i_13_53 : pm_at q_13 53 = some (.goto (-45), 3) := by decide +kernel
theorem i_13_56 : pm_at q_13 56 = some (.aload_n 0, 1) := by decide +kernel
theorem i_13_57 : pm_at q_13 57 = some (.getfield 28, 3) := by decide +kernel
theorem i_13_60 : pm_at q_13 60 = some (.istore_n 3, 1) := by decide +kernel
theorem i_13_61 : pm_at q_13 61 = some (.aload_n 0, 1) := by decide +kernel
theorem i_13_62 : pm_at q_13 62 = some (.iconst 0, 1) := by decide +kernel
theorem i_13_63 : pm_at q_13 63 = some (.putfield 28, 3) := by decide +kernel
theorem i_13_66 : pm_at q_13 66 = some (.iconst 0, 1) := by decide +kernel
theorem i_13_67 : pm_at q_13 67 = some (.istore 4, 2) := by decide +kernel
theorem i_13_69 : pm_at q_13 69 = some (.iload 4, 2) := by decide +kernel
theorem i_13_71 : pm_at q_13 71 = some (.iload_n 3, 1) := by decide +kernel
theorem i_13_72 : pm_at q_13 72 = some (.if_icmp .ge 73, 3) := by decide +kernel
theorem i_13_75 : pm_at q_13 75 = some (.iload_n 2, 1) := by decide +kernel
theorem i_13_76 : pm_at q_13 76 = some (.iload 4, 2) := by decide +kernel
theorem i_13_78 : pm_at q_13 78 = some (.invokestatic 87, 3) := by decide +kernel
theorem i_13_81 : pm_at q_13 81 = some (.ifCond .ne 58, 3) := by decide +kernel
theorem i_13_84 : pm_at q_13 84 = some (.aload_n 0, 1) := by decide +kernel
theorem i_13_85 : pm_at q_13 85 = some (.getfield 11, 3) := by decide +kernel
theorem i_13_88 : pm_at q_13 88 = some (.aload_n 0, 1) := by decide +kernel
theorem i_13_89 : pm_at q_13 89 = some (.getfield 28, 3) := by decide +kernel
theorem i_13_92 : pm_at q_13 92 = some (.aaload, 1) := by decide +kernel
theorem i_13_93 : pm_at q_13 93 = some (.aload_n 0, 1) := by decide +kernel
theorem i_13_94 : pm_at q_13 94 = some (.getfield 11, 3) := by decide +kernel
theorem i_13_97 : pm_at q_13 97 = some (.iload 4, 2) := by decide +kernel
theorem i_13_99 : pm_at q_13 99 = some (.aaload, 1) := by decide +kernel
theorem i_13_100 : pm_at q_13 100 = some (.invokevirtual 36, 3) := by decide +kernel
theorem i_13_103 : pm_at q_13 103 = some (.aload_n 0, 1) := by decide +kernel
theorem i_13_104 : pm_at q_13 104 = some (.getfield 11, 3) := by decide +kernel
theorem i_13_107 : pm_at q_13 107 = some (.aload_n 0, 1) := by decide +kernel
theorem i_13_108 : pm_at q_13 108 = some (.getfield 28, 3) := by decide +kernel
theorem i_13_111 : pm_at q_13 111 = some (.aaload, 1) := by decide +kernel
theorem i_13_112 : pm_at q_13 112 = some (.iload_n 2, 1) := by decide +kernel
theorem i_13_113 : pm_at q_13 113 = some (.aload_n 0, 1) := by decide +kernel
theorem i_13_114 : pm_at q_13 114 = some (.getfield 11, 3) := by decide +kernel
theorem i_13_117 : pm_at q_13 117 = some (.iload 4, 2) := by decide +kernel
theorem i_13_119 : pm_at q_13 119 = some (.aaload, 1) := by decide +kernel
theorem i_13_120 : pm_at q_13 120 = some (.getfield 56, 3) := by decide +kernel
theorem i_13_123 : pm_at q_13 123 = some (.invokestatic 91, 3) := by decide +kernel
theorem i_13_126 : pm_at q_13 126 = some (.putfield 56, 3) := by decide +kernel
theorem i_13_129 : pm_at q_13 129 = some (.aload_n 0, 1) := by decide +kernel
theorem i_13_130 : pm_at q_13 130 = some (.dup, 1) := by decide +kernel
theorem i_13_131 : pm_at q_13 131 = some (.getfield 28, 3) := by decide +kernel
theorem i_13_134 : pm_at q_13 134 = some (.iconst 1, 1) := by decide +kernel
theorem i_13_135 : pm_at q_13 135 = some (.iadd, 1) := by decide +kernel
theorem i_13_136 : pm_at q_13 136 = some (.putfield 28, 3) := by decide +kernel
theorem i_13_139 : pm_at q_13 139 = some (.iinc 4 1, 3) := by decide +kernel
theorem i_13_142 : pm_at q_13 142 = some (.goto (-73), 3) := by decide +kernel
theorem i_13_145 : pm_at q_13 145 = some (.iload_n 3, 1) := by decide +kernel
theorem i_13_146 : pm_at q_13 146 = some (.aload_n 0, 1) := by decide +kernel
theorem i_13_147 : pm_at q_13 147 = some (.getfield 28, 3) := by decide +kernel
theorem i_13_150 : pm_at q_13 150 = some (.isub, 1) := by decide +kernel
theorem i_13_151 : pm_at q_13 151 = some (.ireturn, 1) := by decide +kernel
theorem i_14_0 : pm_at q_14 0 = some (.iload_n 1, 1) := by decide +kernel
theorem i_14_1 : pm_at q_14 1 = some (.ifCond .ge 7, 3) := by decide +kernel
theorem i_14_4 : pm_at q_14 4 = some (.iconst (-1), 1) := by decide +kernel
theorem i_14_5 : pm_at q_14 5 = some (.goto 15, 3) := by decide +kernel
theorem i_14_8 : pm_at q_14 8 = some (.iload_n 0, 1) := by decide +kernel
theorem i_14_9 : pm_at q_14 9 = some (.iconst (-1), 1) := by decide +kernel
theorem i_14_10 : pm_at q_14 10 = some (.ixor, 1) := by decide +kernel
theorem i_14_11 : pm_at q_14 11 = some (.iconst 1, 1) := by decide +kernel
theorem i_14_12 : pm_at q_14 12 = some (.iload_n 1, 1) := by decide +kernel
theorem i_14_13 : pm_at q_14 13 = some (.ishl, 1) := by decide +kernel
theorem i_14_14 : pm_at q_14 14 = some (.iconst 1, 1) := by decide +kernel
theorem i_14_15 : pm_at q_14 15 = some (.isub, 1) := by decide +kernel
theorem i_14_16 : pm_at q_14 16 = some (.iand, 1) := by decide +kernel
theorem i_14_17 : pm_at q_14 17 = some (.invokestatic 94, 3) := by decide +kernel
theorem i_14_20 : pm_at q_14 20 = some (.ireturn, 1) := by decide +kernel
theorem i_15_0 : pm_at q_15 0 = some (.aload_n 0, 1) := by decide +kernel
theorem i_15_1 : pm_at q_15 1 = some (.getfield 31, 3) := by decide +kernel
theorem i_15_4 : pm_at q_15 4 = some (.aload_n 0, 1) := by decide +kernel
theorem i_15_5 : pm_at q_15 5 = some (.getfield 11, 3) := by decide +kernel
theorem i_15_8 : pm_at q_15 8 = some (.iload_n 1, 1) := by decide +kernel
theorem i_15_9 : pm_at q_15 9 = some (.aaload, 1) := by decide +kernel
theorem i_15_10 : pm_at q_15 10 = some (.getfield 44, 3) := by decide +kernel
theorem i_15_13 : pm_at q_15 13 = some (.aaload, 1) := by decide +kernel
theorem i_15_14 : pm_at q_15 14 = some (.aload_n 0, 1) := by decide +kernel
theorem i_15_15 : pm_at q_15 15 = some (.getfield 11, 3) := by decide +kernel
theorem i_15_18 : pm_at q_15 18 = some (.iload_n 1, 1) := by decide +kernel
theorem i_15_19 : pm_at q_15 19 = some (.aaload, 1) := by decide +kernel
theorem i_15_20 : pm_at q_15 20 = some (.getfield 50, 3) := by decide +kernel
theorem i_15_23 : pm_at q_15 23 = some (.iload_n 2, 1) := by decide +kernel
theorem i_15_24 : pm_at q_15 24 = some (.aload_n 0, 1) := by decide +kernel
theorem i_15_25 : pm_at q_15 25 = some (.getfield 11, 3) := by decide +kernel
theorem i_15_28 : pm_at q_15 28 = some (.iload_n 1, 1) := by decide +kernel
theorem i_15_29 : pm_at q_15 29 = some (.aaload, 1) := by decide +kernel
theorem i_15_30 : pm_at q_15 30 = some (.getfield 59, 3) := by decide +kernel
theorem i_15_33 : pm_at q_15 33 = some (.invokevirtual 99, 3) := by decide +kernel
theorem i_15_36 : pm_at q_15 36 = some (.ireturn, 1) := by decide +kernel
theorem i_16_0 : pm_at q_16 0 = some (.aload_n 0, 1) := by decide +kernel
theorem i_16_1 : pm_at q_16 1 = some (.getfield 31, 3) := by decide +kernel
theorem i_16_4 : pm_at q_16 4 = some (.aload_n 0, 1) := by decide +kernel
theorem i_16_5 : pm_at q_16 5 = some (.getfield 11, 3) := by decide +kernel
theorem i_16_8 : pm_at q_16 8 = some (.iload_n 1, 1) := by decide +kernel
theorem i_16_9 : pm_at q_16 9 = some (.aaload, 1) := by decide +kernel
theorem i_16_10 : pm_at q_16 10 = some (.getfield 44, 3) := by decide +kernel
theorem i_16_13 : pm_at q_16 13 = some (.aaload, 1) := by decide +kernel
theorem i_16_14 : pm_at q_16 14 = some (.aload_n 0, 1) := by decide +kernel
theorem i_16_15 : pm_at q_16 15 = some (.getfield 11, 3) := by decide +kernel
theorem i_16_18 : pm_at q_16 18 = some (.iload_n 1, 1) := by decide +kernel
theorem i_16_19 : pm_at q_16 19 = some (.aaload, 1) := by decide +kernel
theorem i_16_20 : pm_at q_16 20 = some (.getfield 47, 3) := by decide +kernel
theorem i_16_23 : pm_at q_16 23 = some (.aload_n 0, 1) := by decide +kernel
theorem i_16_24 : pm_at q_16 24 = some (.getfield 11, 3) := by decide +kernel
theorem i_16_27 : pm_at q_16 27 = some (.iload_n 1, 1) := by decide +kernel
theorem i_16_28 : pm_at q_16 28 = some (.aaload, 1) := by decide +kernel
theorem i_16_29 : pm_at q_16 29 = some (.getfield 50, 3) := by decide +kernel
theorem i_16_32 : pm_at q_16 32 = some (.invokevirtual 103, 3) := by decide +kernel
theorem i_16_35 : pm_at q_16 35 = some (.ireturn, 1) := by decide +kernel
theorem i_17_0 : pm_at q_17 0 = some (.iconst 0, 1) := by decide +kernel
theorem i_17_1 : pm_at q_17 1 = some (.istore_n 1, 1) := by decide +kernel
theorem i_17_2 : pm_at q_17 2 = some (.iconst 0, 1) := by decide +kernel
theorem i_17_3 : pm_at q_17 3 = some (.istore_n 2, 1) := by decide +kernel
theorem i_17_4 : pm_at q_17 4 = some (.iload_n 2, 1) := by decide +kernel
theorem i_17_5 : pm_at q_17 5 = some (.aload_n 0, 1) := by decide +kernel
theorem i_17_6 : pm_at q_17 6 = some (.getfield 28, 3) := by decide +kernel
theorem i_17_9 : pm_at q_17 9 = some (.if_icmp .ge 27, 3) := by decide +kernel
theorem i_17_12 : pm_at q_17 12 = some (.aload_n 0, 1) := by decide +kernel
theorem i_17_13 : pm_at q_17 13 = some (.getfield 11, 3) := by decide +kernel
theorem i_17_16 : pm_at q_17 16 = some (.iload_n 2, 1) := by decide +kernel
theorem i_17_17 : pm_at q_17 17 = some (.aaload, 1) := by decide +kernel
theorem i_17_18 : pm_at q_17 18 = some (.invokevirtual 80, 3) := by decide +kernel
theorem i_17_21 : pm_at q_17 21 = some (.ifCond .ne 9, 3) := by decide +kernel
theorem i_17_24 : pm_at q_17 24 = some (.iload_n 1, 1) := by decide +kernel
theorem i_17_25 : pm_at q_17 25 = some (.iconst 1, 1) := by decide +kernel
theorem i_17_26 : pm_at q_17 26 = some (.iload_n 2, 1) := by decide +kernel
theorem i_17_27 : pm_at q_17 27 = some (.ishl, 1) := by decide +kernel
theorem i_17_28 : pm_at q_17 28 = some (.ior, 1) := by decide +kernel
theorem i_17_29 : pm_at q_17 29 = some (.istore_n 1, 1) := by decide +kernel
theorem i_17_30 : pm_at q_17 30 = some (.iinc 2 1, 3) := by decide +kernel
theorem i_17_33 : pm_at q_17 33 = some (.goto (-29), 3) := by decide +kernel
theorem i_17_36 : pm_at q_17 36 = some (.iload_n 1, 1) := by decide +kernel
theorem i_17_37 : pm_at q_17 37 = some (.ireturn, 1) := by decide +kernel
theorem i_18_0 : pm_at q_18 0 = some (.iconst 0, 1) := by decide +kernel
theorem i_18_1 : pm_at q_18 1 = some (.istore_n 2, 1) := by decide +kernel
theorem i_18_2 : pm_at q_18 2 = some (.iload_n 2, 1) := by decide +kernel
theorem i_18_3 : pm_at q_18 3 = some (.aload_n 0, 1) := by decide +kernel
theorem i_18_4 : pm_at q_18 4 = some (.getfield 28, 3) := by decide +kernel
theorem i_18_7 : pm_at q_18 7 = some (.if_icmp .ge 34, 3) := by decide +kernel
theorem i_18_10 : pm_at q_18 10 = some (.aload_n 0, 1) := by decide +kernel
theorem i_18_11 : pm_at q_18 11 = some (.getfield 11, 3) := by decide +kernel
theorem i_18_14 : pm_at q_18 14 = some (.iload_n 2, 1) := by decide +kernel
theorem i_18_15 : pm_at q_18 15 = some (.aaload, 1) := by decide +kernel
theorem i_18_16 : pm_at q_18 16 = some (.getfield 62, 3) := by decide +kernel
theorem i_18_19 : pm_at q_18 19 = some (.iload_n 1, 1) := by decide +kernel
theorem i_18_20 : pm_at q_18 20 = some (.iadd, 1) := by decide +kernel
theorem i_18_21 : pm_at q_18 21 = some (.aload_n 0, 1) := by decide +kernel
theorem i_18_22 : pm_at q_18 22 = some (.getfield 11, 3) := by decide +kernel
theorem i_18_25 : pm_at q_18 25 = some (.iload_n 2, 1) := by decide +kernel
theorem i_18_26 : pm_at q_18 26 = some (.aaload, 1) := by decide +kernel
theorem i_18_27 : pm_at q_18 27 = some (.getfield 71, 3) := by decide +kernel
theorem i_18_30 : pm_at q_18 30 = some (.if_icmp .lt 5, 3) := by decide +kernel
theorem i_18_33 : pm_at q_18 33 = some (.iconst 1, 1) := by decide +kernel
theorem i_18_34 : pm_at q_18 34 = some (.ireturn, 1) := by decide +kernel
theorem i_18_35 : pm_at q_18 35 = some (.iinc 2 1, 3) := by decide +kernel
theorem i_18_38 : pm_at q_18 38 = some (.goto (-36), 3) := by decide +kernel
theorem i_18_41 : pm_at q_18 41 = some (.iconst 0, 1) := by decide +kernel
theorem i_18_42 : pm_at q_18 42 = some (.ireturn, 1) := by decide +kernel
theorem i_19_0 : pm_at q_19 0 = some (.iconst 0, 1) := by decide +kernel
theorem i_19_1 : pm_at q_19 1 = some (.istore_n 1, 1) := by decide +kernel
theorem i_19_2 : pm_at q_19 2 = some (.iconst 0, 1) := by decide +kernel
theorem i_19_3 : pm_at q_19 3 = some (.istore_n 2, 1) := by decide +kernel
theorem i_19_4 : pm_at q_19 4 = some (.iload_n 2, 1) := by decide +kernel
theorem i_19_5 : pm_at q_19 5 = some (.aload_n 0, 1) := by decide +kernel
theorem i_19_6 : pm_at q_19 6 = some (.getfield 28, 3) := by decide +kernel
theorem i_19_9 : pm_at q_19 9 = some (.if_icmp .ge 21, 3) := by decide +kernel
theorem i_19_12 : pm_at q_19 12 = some (.iload_n 1, 1) := by decide +kernel
theorem i_19_13 : pm_at q_19 13 = some (.aload_n 0, 1) := by decide +kernel
theorem i_19_14 : pm_at q_19 14 = some (.getfield 11, 3) := by decide +kernel
theorem i_19_17 : pm_at q_19 17 = some (.iload_n 2, 1) := by decide +kernel
theorem i_19_18 : pm_at q_19 18 = some (.aaload, 1) := by decide +kernel
theorem i_19_19 : pm_at q_19 19 = some (.getfield 62, 3) := by decide +kernel
theorem i_19_22 : pm_at q_19 22 = some (.iadd, 1) := by decide +kernel
theorem i_19_23 : pm_at q_19 23 = some (.istore_n 1, 1) := by decide +kernel
theorem i_19_24 : pm_at q_19 24 = some (.iinc 2 1, 3) := by decide +kernel
theorem i_19_27 : pm_at q_19 27 = some (.goto (-23), 3) := by decide +kernel
theorem i_19_30 : pm_at q_19 30 = some (.iload_n 1, 1) := by decide +kernel
theorem i_19_31 : pm_at q_19 31 = some (.ireturn, 1) := by decide +kernel
theorem i_20_0 : pm_at q_20 0 = some (.iconst 0, 1) := by decide +kernel
theorem i_20_1 : pm_at q_20 1 = some (.istore_n 3, 1) := by decide +kernel
theorem i_20_2 : pm_at q_20 2 = some (.iload_n 3, 1) := by decide +kernel
theorem i_20_3 : pm_at q_20 3 = some (.aload_n 0, 1) := by decide +kernel
theorem i_20_4 : pm_at q_20 4 = some (.getfield 28, 3) := by decide +kernel
theorem i_20_7 : pm_at q_20 7 = some (.if_icmp .ge 119, 3) := by decide +kernel
theorem i_20_10 : pm_at q_20 10 = some (.aload_n 0, 1) := by decide +kernel
theorem i_20_11 : pm_at q_20 11 = some (.getfield 11, 3) := by decide +kernel
theorem i_20_14 : pm_at q_20 14 = some (.iload_n 3, 1) := by decide +kernel
theorem i_20_15 : pm_at q_20 15 = some (.aaload, 1) := by decide +kernel
theorem i_20_16 : pm_at q_20 16 = some (.astore 4, 2) := by decide +kernel
theorem i_20_18 : pm_at q_20 18 = some (.aload 4, 2) := by decide +kernel
theorem i_20_20 : pm_at q_20 20 = some (.getfield 56, 3) := by decide +kernel
theorem i_20_23 : pm_at q_20 23 = some (.ifCond .lt 25, 3) := by decide +kernel
theorem i_20_26 : pm_at q_20 26 = some (.aload 4, 2) := by decide +kernel
theorem i_20_28 : pm_at q_20 28 = some (.getfield 56, 3) := by decide +kernel
theorem i_20_31 : pm_at q_20 31 = some (.iload_n 3, 1) := by decide +kernel
theorem i_20_32 : pm_at q_20 32 = some (.if_icmp .ge 16, 3) := by decide +kernel
theorem i_20_35 : pm_at q_20 35 = some (.aload_n 0, 1) := by decide +kernel
theorem i_20_36 : pm_at q_20 36 = some (.getfield 17, 3) := by decide +kernel
theorem i_20_39 : pm_at q_20 39 = some (.aload 4, 2) := by decide +kernel
theorem i_20_41 : pm_at q_20 41 = some (.getfield 56, 3) := by decide +kernel
theorem i_20_44 : pm_at q_20 44 = some (.iaload, 1) := by decide +kernel
theorem i_20_45 : pm_at q_20 45 = some (.goto 4, 3) := by decide +kernel
theorem i_20_48 : pm_at q_20 48 = some (.iconst 0, 1) := by decide +kernel
theorem i_20_49 : pm_at q_20 49 = some (.istore 5, 2) := by decide +kernel
theorem i_20_51 : pm_at q_20 51 = some (.iload_n 2, 1) := by decide +kernel
theorem i_20_52 : pm_at q_20 52 = some (.iload_n 3, 1) := by decide +kernel
theorem i_20_53 : pm_at q_20 53 = some (.invokestatic 87, 3) := by decide +kernel
theorem i_20_56 : pm_at q_20 56 = some (.ifCond .ne 11, 3) := by decide +kernel
theorem i_20_59 : pm_at q_20 59 = some (.aload 4, 2) := by decide +kernel
theorem i_20_61 : pm_at q_20 61 = some (.invokevirtual 80, 3) := by decide +kernel
theorem i_20_64 : pm_at q_20 64 = some (.ifCond .eq 7, 3) := by decide +kernel
theorem i_20_67 : pm_at q_20 67 = some (.iconst 1, 1) := by decide +kernel
theorem i_20_68 : pm_at q_20 68 = some (.goto 4, 3) := by decide +kernel
theorem i_20_71 : pm_at q_20 71 = some (.iconst 0, 1) := by decide +kernel
theorem i_20_72 : pm_at q_20 72 = some (.istore 6, 2) := by decide +kernel
theorem i_20_74 : pm_at q_20 74 = some (.iload 6, 2) := by decide +kernel
theorem i_20_76 : pm_at q_20 76 = some (.ifCond .eq 7, 3) := by decide +kernel
theorem i_20_79 : pm_at q_20 79 = some (.iconst 0, 1) := by decide +kernel
theorem i_20_80 : pm_at q_20 80 = some (.goto 27, 3) := by decide +kernel
theorem i_20_83 : pm_at q_20 83 = some (.aload_n 0, 1) := by decide +kernel
theorem i_20_84 : pm_at q_20 84 = some (.getfield 31, 3) := by decide +kernel
theorem i_20_87 : pm_at q_20 87 = some (.aload 4, 2) := by decide +kernel
theorem i_20_89 : pm_at q_20 89 = some (.getfield 44, 3) := by decide +kernel
theorem i_20_92 : pm_at q_20 92 = some (.aaload, 1) := by decide +kernel
theorem i_20_93 : pm_at q_20 93 = some (.aload 4, 2) := by decide +kernel
theorem i_20_95 : pm_at q_20 95 = some (.getfield 50, 3) := by decide +kernel
theorem i_20_98 : pm_at q_20 98 = some (.iload_n 1, 1) := by decide +kernel
theorem i_20_99 : pm_at q_20 99 = some (.aload 4, 2) := by decide +kernel
theorem i_20_101 : pm_at q_20 101 = some (.getfield 59, 3) := by decide +kernel
theorem i_20_104 : pm_at q_20 104 = some (.invokevirtual 99, 3) := by decide +kernel
theorem i_20_107 : pm_at q_20 107 = some (.istore 7, 2) := by decide +kernel
theorem i_20_109 : pm_at q_20 109 = some (.aload_n 0, 1) := by decide +kernel
theorem i_20_110 : pm_at q_20 110 = some (.getfield 17, 3) := by decide +kernel
theorem i_20_113 : pm_at q_20 113 = some (.iload_n 3, 1) := by decide +kernel
theorem i_20_114 : pm_at q_20 114 = some (.iload 5, 2) := by decide +kernel
theorem i_20_116 : pm_at q_20 116 = some (.iload 7, 2) := by decide +kernel
theorem i_20_118 : pm_at q_20 118 = some (.iadd, 1) := by decide +kernel
theorem i_20_119 : pm_at q_20 119 = some (.iastore, 1) := by decide +kernel
theorem i_20_120 : pm_at q_20 120 = some (.iinc 3 1, 3) := by decide +kernel
theorem i_20_123 : pm_at q_20 123 = some (.goto (-121), 3) := by decide +kernel
theorem i_20_126 : pm_at q_20 126 = some (.return_, 1) := by decide +kernel
theorem i_21_0 : pm_at q_21 0 = some (.aload_n 0, 1) := by decide +kernel
theorem i_21_1 : pm_at q_21 1 = some (.iload_n 1, 1) := by decide +kernel
theorem i_21_2 : pm_at q_21 2 = some (.iload_n 2, 1) := by decide +kernel
theorem i_21_3 : pm_at q_21 3 = some (.invokevirtual 106, 3) := by decide +kernel
theorem i_21_6 : pm_at q_21 6 = some (.iconst 0, 1) := by decide +kernel
theorem i_21_7 : pm_at q_21 7 = some (.istore_n 3, 1) := by decide +kernel
theorem i_21_8 : pm_at q_21 8 = some (.iconst 0, 1) := by decide +kernel
theorem i_21_9 : pm_at q_21 9 = some (.istore 4, 2) := by decide +kernel
theorem i_21_11 : pm_at q_21 11 = some (.iload 4, 2) := by decide +kernel
theorem i_21_13 : pm_at q_21 13 = some (.aload_n 0, 1) := by decide +kernel
theorem i_21_14 : pm_at q_21 14 = some (.getfield 28, 3) := by decide +kernel
theorem i_21_17 : pm_at q_21 17 = some (.if_icmp .ge 36, 3) := by decide +kernel
theorem i_21_20 : pm_at q_21 20 = some (.aload_n 0, 1) := by decide +kernel
theorem i_21_21 : pm_at q_21 21 = some (.getfield 17, 3) := by decide +kernel
theorem i_21_24 : pm_at q_21 24 = some (.iload 4, 2) := by decide +kernel
theorem i_21_26 : pm_at q_21 26 = some (.iaload, 1) := by decide +kernel
theorem i_21_27 : pm_at q_21 27 = some (.iconst 1, 1) := by decide +kernel
theorem i_21_28 : pm_at q_21 28 = some (.if_icmp .lt 19, 3) := by decide +kernel
theorem i_21_31 : pm_at q_21 31 = some (.aload_n 0, 1) := by decide +kernel
theorem i_21_32 : pm_at q_21 32 = some (.iload 4, 2) := by decide +kernel
theorem i_21_34 : pm_at q_21 34 = some (.invokevirtual 110, 3) := by decide +kernel
theorem i_21_37 : pm_at q_21 37 = some (.ifCond .ne 10, 3) := by decide +kernel
theorem i_21_40 : pm_at q_21 40 = some (.iload_n 3, 1) := by decide +kernel
theorem i_21_41 : pm_at q_21 41 = some (.iconst 1, 1) := by decide +kernel
theorem i_21_42 : pm_at q_21 42 = some (.iload 4, 2) := by decide +kernel
theorem i_21_44 : pm_at q_21 44 = some (.ishl, 1) := by decide +kernel
theorem i_21_45 : pm_at q_21 45 = some (.ior, 1) := by decide +kernel
theorem i_21_46 : pm_at q_21 46 = some (.istore_n 3, 1) := by decide +kernel
theorem i_21_47 : pm_at q_21 47 = some (.iinc 4 1, 3) := by decide +kernel
theorem i_21_50 : pm_at q_21 50 = some (.goto (-39), 3) := by decide +kernel
theorem i_21_53 : pm_at q_21 53 = some (.iload_n 3, 1) := by decide +kernel
theorem i_21_54 : pm_at q_21 54 = some (.ireturn, 1) := by decide +kernel
theorem i_22_0 : pm_at q_22 0 = some (.iconst 0, 1) := by decide +kernel
theorem i_22_1 : pm_at q_22 1 = some (.istore_n 2, 1) := by decide +kernel
theorem i_22_2 : pm_at q_22 2 = some (.iload_n 2, 1) := by decide +kernel
theorem i_22_3 : pm_at q_22 3 = some (.aload_n 0, 1) := by decide +kernel
theorem i_22_4 : pm_at q_22 4 = some (.getfield 28, 3) := by decide +kernel
theorem i_22_7 : pm_at q_22 7 = some (.if_icmp .ge 47, 3) := by decide +kernel
theorem i_22_10 : pm_at q_22 10 = some (.aload_n 0, 1) := by decide +kernel
theorem i_22_11 : pm_at q_22 11 = some (.getfield 11, 3) := by decide +kernel
theorem i_22_14 : pm_at q_22 14 = some (.iload_n 2, 1) := by decide +kernel
theorem i_22_15 : pm_at q_22 15 = some (.aaload, 1) := by decide +kernel
theorem i_22_16 : pm_at q_22 16 = some (.getfield 53, 3) := by decide +kernel
theorem i_22_19 : pm_at q_22 19 = some (.aload_n 0, 1) := by decide +kernel
theorem i_22_20 : pm_at q_22 20 = some (.getfield 11, 3) := by decide +kernel
theorem i_22_23 : pm_at q_22 23 = some (.iload_n 1, 1) := by decide +kernel
theorem i_22_24 : pm_at q_22 24 = some (.aaload, 1) := by decide +kernel
theorem i_22_25 : pm_at q_22 25 = some (.getfield 53, 3) := by decide +kernel
theorem i_22_28 : pm_at q_22 28 = some (.if_icmp .ge 20, 3) := by decide +kernel
theorem i_22_31 : pm_at q_22 31 = some (.aload_n 0, 1) := by decide +kernel
theorem i_22_32 : pm_at q_22 32 = some (.getfield 17, 3) := by decide +kernel
theorem i_22_35 : pm_at q_22 35 = some (.iload_n 2, 1) := by decide +kernel
theorem i_22_36 : pm_at q_22 36 = some (.iaload, 1) := by decide +kernel
theorem i_22_37 : pm_at q_22 37 = some (.aload_n 0, 1) := by decide +kernel
theorem i_22_38 : pm_at q_22 38 = some (.getfield 17, 3) := by decide +kernel
theorem i_22_41 : pm_at q_22 41 = some (.iload_n 1, 1) := by decide +kernel
theorem i_22_42 : pm_at q_22 42 = some (.iaload, 1) := by decide +kernel
theorem i_22_43 : pm_at q_22 43 = some (.if_icmp .lt 5, 3) := by decide +kernel
theorem i_22_46 : pm_at q_22 46 = some (.iconst 1, 1) := by decide +kernel
theorem i_22_47 : pm_at q_22 47 = some (.ireturn, 1) := by decide +kernel
theorem i_22_48 : pm_at q_22 48 = some (.iinc 2 1, 3) := by decide +kernel
theorem i_22_51 : pm_at q_22 51 = some (.goto (-49), 3) := by decide +kernel
theorem i_22_54 : pm_at q_22 54 = some (.iconst 0, 1) := by decide +kernel
theorem i_22_55 : pm_at q_22 55 = some (.ireturn, 1) := by decide +kernel
theorem i_23_0 : pm_at q_23 0 = some (.aload_n 0, 1) := by decide +kernel
theorem i_23_1 : pm_at q_23 1 = some (.iload_n 1, 1) := by decide +kernel
theorem i_23_2 : pm_at q_23 2 = some (.iconst 0, 1) := by decide +kernel
theorem i_23_3 : pm_at q_23 3 = some (.invokevirtual 114, 3) := by decide +kernel
theorem i_23_6 : pm_at q_23 6 = some (.invokestatic 94, 3) := by decide +kernel
theorem i_23_9 : pm_at q_23 9 = some (.ireturn, 1) := by decide +kernel
theorem i_24_0 : pm_at q_24 0 = some (.aload_n 0, 1) := by decide +kernel
theorem i_24_1 : pm_at q_24 1 = some (.iload_n 1, 1) := by decide +kernel
theorem i_24_2 : pm_at q_24 2 = some (.iconst 0, 1) := by decide +kernel
theorem i_24_3 : pm_at q_24 3 = some (.invokevirtual 106, 3) := by decide +kernel
theorem i_24_6 : pm_at q_24 6 = some (.iconst 0, 1) := by decide +kernel
theorem i_24_7 : pm_at q_24 7 = some (.istore_n 2, 1) := by decide +kernel
theorem i_24_8 : pm_at q_24 8 = some (.iconst 0, 1) := by decide +kernel
theorem i_24_9 : pm_at q_24 9 = some (.istore_n 3, 1) := by decide +kernel
theorem i_24_10 : pm_at q_24 10 = some (.iload_n 3, 1) := by decide +kernel
theorem i_24_11 : pm_at q_24 11 = some (.aload_n 0, 1) := by decide +kernel
theorem i_24_12 : pm_at q_24 12 = some (.getfield 28, 3) := by decide +kernel
theorem i_24_15 : pm_at q_24 15 = some (.if_icmp .ge 20, 3) := by decide +kernel
theorem i_24_18 : pm_at q_24 18 = some (.iload_n 2, 1) := by decide +kernel
theorem i_24_19 : pm_at q_24 19 = some (.aload_n 0, 1) := by decide +kernel
theorem i_24_20 : pm_at q_24 20 = some (.getfield 17, 3) := by decide +kernel
theorem i_24_23 : pm_at q_24 23 = some (.iload_n 3, 1) := by decide +kernel
theorem i_24_24 : pm_at q_24 24 = some (.iaload, 1) := by decide +kernel
theorem i_24_25 : pm_at q_24 25 = some (.invokestatic 117, 3) := by decide +kernel
theorem i_24_28 : pm_at q_24 28 = some (.istore_n 2, 1) := by decide +kernel
theorem i_24_29 : pm_at q_24 29 = some (.iinc 3 1, 3) := by decide +kernel
theorem i_24_32 : pm_at q_24 32 = some (.goto (-22), 3) := by decide +kernel
theorem i_24_35 : pm_at q_24 35 = some (.iload_n 2, 1) := by decide +kernel
theorem i_24_36 : pm_at q_24 36 = some (.ireturn, 1) := by decide +kernel
theorem i_25_0 : pm_at q_25 0 = some (.iconst 0, 1) := by decide +kernel
theorem i_25_1 : pm_at q_25 1 = some (.istore_n 2, 1) := by decide +kernel
theorem i_25_2 : pm_at q_25 2 = some (.iload_n 1, 1) := by decide +kernel
theorem i_25_3 : pm_at q_25 3 = some (.istore_n 3, 1) := by decide +kernel
theorem i_25_4 : pm_at q_25 4 = some (.bipush 7, 2) := by decide +kernel
theorem i_25_6 : pm_at q_25 6 = some (.istore 4, 2) := by decide +kernel
theorem i_25_8 : pm_at q_25 8 = some (.iload 4, 2) := by decide +kernel
theorem i_25_10 : pm_at q_25 10 = some (.ifCond .le 39, 3) := by decide +kernel
theorem i_25_13 : pm_at q_25 13 = some (.iload_n 3, 1) := by decide +kernel
theorem i_25_14 : pm_at q_25 14 = some (.ifCond .lt 35, 3) := by decide +kernel
theorem i_25_17 : pm_at q_25 17 = some (.iload_n 3, 1) := by decide +kernel
theorem i_25_18 : pm_at q_25 18 = some (.aload_n 0, 1) := by decide +kernel
theorem i_25_19 : pm_at q_25 19 = some (.getfield 28, 3) := by decide +kernel
theorem i_25_22 : pm_at q_25 22 = some (.if_icmp .ge 27, 3) := by decide +kernel
theorem i_25_25 : pm_at q_25 25 = some (.iload_n 2, 1) := by decide +kernel
theorem i_25_26 : pm_at q_25 26 = some (.aload_n 0, 1) := by decide +kernel
theorem i_25_27 : pm_at q_25 27 = some (.iload_n 3, 1) := by decide +kernel
theorem i_25_28 : pm_at q_25 28 = some (.invokevirtual 120, 3) := by decide +kernel
theorem i_25_31 : pm_at q_25 31 = some (.iadd, 1) := by decide +kernel
theorem i_25_32 : pm_at q_25 32 = some (.istore_n 2, 1) := by decide +kernel
theorem i_25_33 : pm_at q_25 33 = some (.aload_n 0, 1) := by decide +kernel
theorem i_25_34 : pm_at q_25 34 = some (.getfield 11, 3) := by decide +kernel
theorem i_25_37 : pm_at q_25 37 = some (.iload_n 3, 1) := by decide +kernel
theorem i_25_38 : pm_at q_25 38 = some (.aaload, 1) := by decide +kernel
theorem i_25_39 : pm_at q_25 39 = some (.getfield 56, 3) := by decide +kernel
theorem i_25_42 : pm_at q_25 42 = some (.istore_n 3, 1) := by decide +kernel
theorem i_25_43 : pm_at q_25 43 = some (.iinc 4 (-1), 3) := by decide +kernel
theorem i_25_46 : pm_at q_25 46 = some (.goto (-38), 3) := by decide +kernel
theorem i_25_49 : pm_at q_25 49 = some (.iload_n 2, 1) := by decide +kernel
theorem i_25_50 : pm_at q_25 50 = some (.ireturn, 1) := by decide +kernel
theorem i_26_0 : pm_at q_26 0 = some (.iconst 0, 1) := by decide +kernel
theorem i_26_1 : pm_at q_26 1 = some (.istore_n 1, 1) := by decide +kernel
theorem i_26_2 : pm_at q_26 2 = some (.iconst 0, 1) := by decide +kernel
theorem i_26_3 : pm_at q_26 3 = some (.istore_n 2, 1) := by decide +kernel
theorem i_26_4 : pm_at q_26 4 = some (.iload_n 2, 1) := by decide +kernel
theorem i_26_5 : pm_at q_26 5 = some (.aload_n 0, 1) := by decide +kernel
theorem i_26_6 : pm_at q_26 6 = some (.getfield 28, 3) := by decide +kernel
theorem i_26_9 : pm_at q_26 9 = some (.if_icmp .ge 27, 3) := by decide +kernel
theorem i_26_12 : pm_at q_26 12 = some (.aload_n 0, 1) := by decide +kernel
theorem i_26_13 : pm_at q_26 13 = some (.iload_n 2, 1) := by decide +kernel
theorem i_26_14 : pm_at q_26 14 = some (.invokevirtual 123, 3) := by decide +kernel
theorem i_26_17 : pm_at q_26 17 = some (.aload_n 0, 1) := by decide +kernel
theorem i_26_18 : pm_at q_26 18 = some (.getfield 21, 3) := by decide +kernel
theorem i_26_21 : pm_at q_26 21 = some (.if_icmp .le 9, 3) := by decide +kernel
theorem i_26_24 : pm_at q_26 24 = some (.iload_n 1, 1) := by decide +kernel
theorem i_26_25 : pm_at q_26 25 = some (.iconst 1, 1) := by decide +kernel
theorem i_26_26 : pm_at q_26 26 = some (.iload_n 2, 1) := by decide +kernel
theorem i_26_27 : pm_at q_26 27 = some (.ishl, 1) := by decide +kernel
theorem i_26_28 : pm_at q_26 28 = some (.ior, 1) := by decide +kernel
theorem i_26_29 : pm_at q_26 29 = some (.istore_n 1, 1) := by decide +kernel
theorem i_26_30 : pm_at q_26 30 = some (.iinc 2 1, 3) := by decide +kernel
theorem i_26_33 : pm_at q_26 33 = some (.goto (-29), 3) := by decide +kernel
theorem i_26_36 : pm_at q_26 36 = some (.iload_n 1, 1) := by decide +kernel
theorem i_26_37 : pm_at q_26 37 = some (.ireturn, 1) := by decide +kernel
theorem i_27_0 : pm_at q_27 0 = some (.bipush 6, 2) := by decide +kernel
theorem i_27_2 : pm_at q_27 2 = some (.istore_n 1, 1) := by decide +kernel
theorem i_27_3 : pm_at q_27 3 = some (.iconst 0, 1) := by decide +kernel
theorem i_27_4 : pm_at q_27 4 = some (.istore_n 2, 1) := by decide +kernel
theorem i_27_5 : pm_at q_27 5 = some (.iload_n 2, 1) := by decide +kernel
theorem i_27_6 : pm_at q_27 6 = some (.aload_n 0, 1) := by decide +kernel
theorem i_27_7 : pm_at q_27 7 = some (.getfield 28, 3) := by decide +kernel
theorem i_27_10 : pm_at q_27 10 = some (.if_icmp .ge 19, 3) := by decide +kernel
theorem i_27_13 : pm_at q_27 13 = some (.iload_n 1, 1) := by decide +kernel
theorem i_27_14 : pm_at q_27 14 = some (.aload_n 0, 1) := by decide +kernel
theorem i_27_15 : pm_at q_27 15 = some (.iload_n 2, 1) := by decide +kernel
theorem i_27_16 : pm_at q_27 16 = some (.invokevirtual 123, 3) := by decide +kernel
theorem i_27_19 : pm_at q_27 19 = some (.invokestatic 117, 3) := by decide +kernel
theorem i_27_22 : pm_at q_27 22 = some (.istore_n 1, 1) := by decide +kernel
theorem i_27_23 : pm_at q_27 23 = some (.iinc 2 1, 3) := by decide +kernel
theorem i_27_26 : pm_at q_27 26 = some (.goto (-21), 3) := by decide +kernel
theorem i_27_29 : pm_at q_27 29 = some (.iload_n 1, 1) := by decide +kernel
theorem i_27_30 : pm_at q_27 30 = some (.bipush 40, 2) := by decide +kernel
theorem i_27_32 : pm_at q_27 32 = some (.if_icmp .le 7, 3) := by decide +kernel
theorem i_27_35 : pm_at q_27 35 = some (.iconst (-1), 1) := by decide +kernel
theorem i_27_36 : pm_at q_27 36 = some (.goto 4, 3) := by decide +kernel
theorem i_27_39 : pm_at q_27 39 = some (.iload_n 1, 1) := by decide +kernel
theorem i_27_40 : pm_at q_27 40 = some (.ireturn, 1) := by decide +kernel
theorem i_28_0 : pm_at q_28 0 = some (.lload_n 1, 1) := by decide +kernel
theorem i_28_1 : pm_at q_28 1 = some (.lstore_n 3, 1) := by decide +kernel
theorem i_28_2 : pm_at q_28 2 = some (.iconst 0, 1) := by decide +kernel
theorem i_28_3 : pm_at q_28 3 = some (.istore 5, 2) := by decide +kernel
theorem i_28_5 : pm_at q_28 5 = some (.iload 5, 2) := by decide +kernel
theorem i_28_7 : pm_at q_28 7 = some (.aload_n 0, 1) := by decide +kernel
theorem i_28_8 : pm_at q_28 8 = some (.getfield 28, 3) := by decide +kernel
theorem i_28_11 : pm_at q_28 11 = some (.if_icmp .ge 21, 3) := by decide +kernel
theorem i_28_14 : pm_at q_28 14 = some (.aload_n 0, 1) := by decide +kernel
theorem i_28_15 : pm_at q_28 15 = some (.getfield 11, 3) := by decide +kernel
theorem i_28_18 : pm_at q_28 18 = some (.iload 5, 2) := by decide +kernel
theorem i_28_20 : pm_at q_28 20 = some (.aaload, 1) := by decide +kernel
theorem i_28_21 : pm_at q_28 21 = some (.lload_n 3, 1) := by decide +kernel
theorem i_28_22 : pm_at q_28 22 = some (.invokevirtual 126, 3) := by decide +kernel
theorem i_28_25 : pm_at q_28 25 = some (.lstore_n 3, 1) := by decide +kernel
theorem i_28_26 : pm_at q_28 26 = some (.iinc 5 1, 3) := by decide +kernel
theorem i_28_29 : pm_at q_28 29 = some (.goto (-24), 3) := by decide +kernel
theorem i_28_32 : pm_at q_28 32 = some (.lload_n 3, 1) := by decide +kernel
theorem i_28_33 : pm_at q_28 33 = some (.lreturn, 1) := by decide +kernel
theorem i_29_0 : pm_at q_29 0 = some (.aload_n 0, 1) := by decide +kernel
theorem i_29_1 : pm_at q_29 1 = some (.invokespecial 1, 3) := by decide +kernel
theorem i_29_4 : pm_at q_29 4 = some (.return_, 1) := by decide +kernel
theorem i_30_0 : pm_at q_30 0 = some (.aload_n 0, 1) := by decide +kernel
theorem i_30_1 : pm_at q_30 1 = some (.getfield 7, 3) := by decide +kernel
theorem i_30_4 : pm_at q_30 4 = some (.aload_n 0, 1) := by decide +kernel
theorem i_30_5 : pm_at q_30 5 = some (.getfield 13, 3) := by decide +kernel
theorem i_30_8 : pm_at q_30 8 = some (.if_icmp .lt 7, 3) := by decide +kernel
theorem i_30_11 : pm_at q_30 11 = some (.iconst 1, 1) := by decide +kernel
theorem i_30_12 : pm_at q_30 12 = some (.goto 4, 3) := by decide +kernel
theorem i_30_15 : pm_at q_30 15 = some (.iconst 0, 1) := by decide +kernel
theorem i_30_16 : pm_at q_30 16 = some (.ireturn, 1) := by decide +kernel
theorem i_31_0 : pm_at q_31 0 = some (.aload_n 0, 1) := by decide +kernel
theorem i_31_1 : pm_at q_31 1 = some (.aload_n 1, 1) := by decide +kernel
theorem i_31_2 : pm_at q_31 2 = some (.getfield 16, 3) := by decide +kernel
theorem i_31_5 : pm_at q_31 5 = some (.putfield 16, 3) := by decide +kernel
theorem i_31_8 : pm_at q_31 8 = some (.aload_n 0, 1) := by decide +kernel
theorem i_31_9 : pm_at q_31 9 = some (.aload_n 1, 1) := by decide +kernel
theorem i_31_10 : pm_at q_31 10 = some (.getfield 19, 3) := by decide +kernel
theorem i_31_13 : pm_at q_31 13 = some (.putfield 19, 3) := by decide +kernel
theorem i_31_16 : pm_at q_31 16 = some (.aload_n 0, 1) := by decide +kernel
theorem i_31_17 : pm_at q_31 17 = some (.aload_n 1, 1) := by decide +kernel
theorem i_31_18 : pm_at q_31 18 = some (.getfield 22, 3) := by decide +kernel
theorem i_31_21 : pm_at q_31 21 = some (.putfield 22, 3) := by decide +kernel
theorem i_31_24 : pm_at q_31 24 = some (.aload_n 0, 1) := by decide +kernel
theorem i_31_25 : pm_at q_31 25 = some (.aload_n 1, 1) := by decide +kernel
theorem i_31_26 : pm_at q_31 26 = some (.getfield 25, 3) := by decide +kernel
theorem i_31_29 : pm_at q_31 29 = some (.putfield 25, 3) := by decide +kernel
theorem i_31_32 : pm_at q_31 32 = some (.aload_n 0, 1) := by decide +kernel
theorem i_31_33 : pm_at q_31 33 = some (.aload_n 1, 1) := by decide +kernel
theorem i_31_34 : pm_at q_31 34 = some (.getfield 28, 3) := by decide +kernel
theorem i_31_37 : pm_at q_31 37 = some (.putfield 28, 3) := by decide +kernel
theorem i_31_40 : pm_at q_31 40 = some (.aload_n 0, 1) := by decide +kernel
theorem i_31_41 : pm_at q_31 41 = some (.aload_n 1, 1) := by decide +kernel
theorem i_31_42 : pm_at q_31 42 = some (.getfield 31, 3) := by decide +kernel
theorem i_31_45 : pm_at q_31 45 = some (.putfield 31, 3) := by decide +kernel
theorem i_31_48 : pm_at q_31 48 = some (.aload_n 0, 1) := by decide +kernel
theorem i_31_49 : pm_at q_31 49 = some (.aload_n 1, 1) := by decide +kernel
theorem i_31_50 : pm_at q_31 50 = some (.getfield 7, 3) := by decide +kernel
theorem i_31_53 : pm_at q_31 53 = some (.putfield 7, 3) := by decide +kernel
theorem i_31_56 : pm_at q_31 56 = some (.aload_n 0, 1) := by decide +kernel
theorem i_31_57 : pm_at q_31 57 = some (.aload_n 1, 1) := by decide +kernel
theorem i_31_58 : pm_at q_31 58 = some (.getfield 13, 3) := by decide +kernel
theorem i_31_61 : pm_at q_31 61 = some (.putfield 13, 3) := by decide +kernel
theorem i_31_64 : pm_at q_31 64 = some (.return_, 1) := by decide +kernel
theorem i_32_0 : pm_at q_32 0 = some (.lload_n 1, 1) := by decide +kernel
theorem i_32_1 : pm_at q_32 1 = some (.aload_n 0, 1) := by decide +kernel
theorem i_32_2 : pm_at q_32 2 = some (.getfield 16, 3) := by decide +kernel
theorem i_32_5 : pm_at q_32 5 = some (.i2l, 1) := by decide +kernel
theorem i_32_6 : pm_at q_32 6 = some (.invokestatic 34, 3) := by decide +kernel
theorem i_32_9 : pm_at q_32 9 = some (.aload_n 0, 1) := by decide +kernel
theorem i_32_10 : pm_at q_32 10 = some (.getfield 19, 3) := by decide +kernel
theorem i_32_13 : pm_at q_32 13 = some (.i2l, 1) := by decide +kernel
theorem i_32_14 : pm_at q_32 14 = some (.invokestatic 34, 3) := by decide +kernel
theorem i_32_17 : pm_at q_32 17 = some (.aload_n 0, 1) := by decide +kernel
theorem i_32_18 : pm_at q_32 18 = some (.getfield 22, 3) := by decide +kernel
theorem i_32_21 : pm_at q_32 21 = some (.i2l, 1) := by decide +kernel
theorem i_32_22 : pm_at q_32 22 = some (.invokestatic 34, 3) := by decide +kernel
theorem i_32_25 : pm_at q_32 25 = some (.lstore_n 3, 1) := by decide +kernel
theorem i_32_26 : pm_at q_32 26 = some (.lload_n 3, 1) := by decide +kernel
theorem i_32_27 : pm_at q_32 27 = some (.aload_n 0, 1) := by decide +kernel
theorem i_32_28 : pm_at q_32 28 = some (.getfield 25, 3) := by decide +kernel
theorem i_32_31 : pm_at q_32 31 = some (.i2l, 1) := by decide +kernel
theorem i_32_32 : pm_at q_32 32 = some (.invokestatic 34, 3) := by decide +kernel
theorem i_32_35 : pm_at q_32 35 = some (.aload_n 0, 1) := by decide +kernel
theorem i_32_36 : pm_at q_32 36 = some (.getfield 28, 3) := by decide +kernel
theorem i_32_39 : pm_at q_32 39 = some (.i2l, 1) := by decide +kernel
theorem i_32_40 : pm_at q_32 40 = some (.invokestatic 34, 3) := by decide +kernel
theorem i_32_43 : pm_at q_32 43 = some (.lstore_n 3, 1) := by decide +kernel
theorem i_32_44 : pm_at q_32 44 = some (.lload_n 3, 1) := by decide +kernel
theorem i_32_45 : pm_at q_32 45 = some (.aload_n 0, 1) := by decide +kernel
theorem i_32_46 : pm_at q_32 46 = some (.getfield 31, 3) := by decide +kernel
theorem i_32_49 : pm_at q_32 49 = some (.i2l, 1) := by decide +kernel
theorem i_32_50 : pm_at q_32 50 = some (.invokestatic 34, 3) := by decide +kernel
theorem i_32_53 : pm_at q_32 53 = some (.aload_n 0, 1) := by decide +kernel
theorem i_32_54 : pm_at q_32 54 = some (.getfield 7, 3) := by decide +kernel
theorem i_32_57 : pm_at q_32 57 = some (.i2l, 1) := by decide +kernel
theorem i_32_58 : pm_at q_32 58 = some (.invokestatic 34, 3) := by decide +kernel
theorem i_32_61 : pm_at q_32 61 = some (.lreturn, 1) := by decide +kernel
theorem i_33_0 : pm_at q_33 0 = some (.aload_n 0, 1) := by decide +kernel
theorem i_33_1 : pm_at q_33 1 = some (.invokespecial 3, 3) := by decide +kernel
theorem i_33_4 : pm_at q_33 4 = some (.aload_n 0, 1) := by decide +kernel
theorem i_33_5 : pm_at q_33 5 = some (.bipush 6, 2) := by decide +kernel
theorem i_33_7 : pm_at q_33 7 = some (.anewarray 9, 3) := by decide +kernel
theorem i_33_10 : pm_at q_33 10 = some (.putfield 11, 3) := by decide +kernel
theorem i_33_13 : pm_at q_33 13 = some (.aload_n 0, 1) := by decide +kernel
theorem i_33_14 : pm_at q_33 14 = some (.bipush 6, 2) := by decide +kernel
theorem i_33_16 : pm_at q_33 16 = some (.iconst 5, 1) := by decide +kernel
theorem i_33_17 : pm_at q_33 17 = some (.multianewarray 17 2, 4) := by decide +kernel
theorem i_33_21 : pm_at q_33 21 = some (.putfield 19, 3) := by decide +kernel
theorem i_33_24 : pm_at q_33 24 = some (.aload_n 0, 1) := by decide +kernel
theorem i_33_25 : pm_at q_33 25 = some (.bipush 6, 2) := by decide +kernel
theorem i_33_27 : pm_at q_33 27 = some (.iconst 2, 1) := by decide +kernel
theorem i_33_28 : pm_at q_33 28 = some (.multianewarray 17 2, 4) := by decide +kernel
theorem i_33_32 : pm_at q_33 32 = some (.putfield 22, 3) := by decide +kernel
theorem i_33_35 : pm_at q_33 35 = some (.aload_n 0, 1) := by decide +kernel
theorem i_33_36 : pm_at q_33 36 = some (.iconst 0, 1) := by decide +kernel
theorem i_33_37 : pm_at q_33 37 = some (.putfield 25, 3) := by decide +kernel
theorem i_33_40 : pm_at q_33 40 = some (.aload_n 0, 1) := by decide +kernel
theorem i_33_41 : pm_at q_33 41 = some (.iconst 0, 1) := by decide +kernel
theorem i_33_42 : pm_at q_33 42 = some (.putfield 29, 3) := by decide +kernel
theorem i_33_45 : pm_at q_33 45 = some (.aload_n 0, 1) := by decide +kernel
theorem i_33_46 : pm_at q_33 46 = some (.iconst 0, 1) := by decide +kernel
theorem i_33_47 : pm_at q_33 47 = some (.putfield 32, 3) := by decide +kernel
theorem i_33_50 : pm_at q_33 50 = some (.aload_n 0, 1) := by decide +kernel
theorem i_33_51 : pm_at q_33 51 = some (.new 9, 3) := by decide +kernel
theorem i_33_54 : pm_at q_33 54 = some (.dup, 1) := by decide +kernel
theorem i_33_55 : pm_at q_33 55 = some (.aload_n 1, 1) := by decide +kernel
theorem i_33_56 : pm_at q_33 56 = some (.invokespecial 35, 3) := by decide +kernel
theorem i_33_59 : pm_at q_33 59 = some (.putfield 38, 3) := by decide +kernel
theorem i_33_62 : pm_at q_33 62 = some (.iconst 0, 1) := by decide +kernel
theorem i_33_63 : pm_at q_33 63 = some (.istore_n 2, 1) := by decide +kernel
theorem i_33_64 : pm_at q_33 64 = some (.iload_n 2, 1) := by decide +kernel
theorem i_33_65 : pm_at q_33 65 = some (.bipush 6, 2) := by decide +kernel
theorem i_33_67 : pm_at q_33 67 = some (.if_icmp .ge 23, 3) := by decide +kernel
theorem i_33_70 : pm_at q_33 70 = some (.aload_n 0, 1) := by decide +kernel
theorem i_33_71 : pm_at q_33 71 = some (.getfield 11, 3) := by decide +kernel
theorem i_33_74 : pm_at q_33 74 = some (.iload_n 2, 1) := by decide +kernel
theorem i_33_75 : pm_at q_33 75 = some (.new 9, 3) := by decide +kernel
theorem i_33_78 : pm_at q_33 78 = some (.dup, 1) := by decide +kernel
theorem i_33_79 : pm_at q_33 79 = some (.aload_n 1, 1) := by decide +kernel
theorem i_33_80 : pm_at q_33 80 = some (.invokespecial 35, 3) := by decide +kernel
theorem i_33_83 : pm_at q_33 83 = some (.aastore, 1) := by decide +kernel
theorem i_33_84 : pm_at q_33 84 = some (.iinc 2 1, 3) := by decide +kernel
theorem i_33_87 : pm_at q_33 87 = some (.goto (-23), 3) := by decide +kernel
theorem i_33_90 : pm_at q_33 90 = some (.return_, 1) := by decide +kernel
theorem i_34_0 : pm_at q_34 0 = some (.aload_n 0, 1) := by decide +kernel
theorem i_34_1 : pm_at q_34 1 = some (.getfield 38, 3) := by decide +kernel
theorem i_34_4 : pm_at q_34 4 = some (.iload_n 1, 1) := by decide +kernel
theorem i_34_5 : pm_at q_34 5 = some (.invokevirtual 42, 3) := by decide +kernel
theorem i_34_8 : pm_at q_34 8 = some (.aload_n 0, 1) := by decide +kernel
theorem i_34_9 : pm_at q_34 9 = some (.iconst 0, 1) := by decide +kernel
theorem i_34_10 : pm_at q_34 10 = some (.putfield 25, 3) := by decide +kernel
theorem i_34_13 : pm_at q_34 13 = some (.aload_n 0, 1) := by decide +kernel
theorem i_34_14 : pm_at q_34 14 = some (.iconst 0, 1) := by decide +kernel
theorem i_34_15 : pm_at q_34 15 = some (.putfield 29, 3) := by decide +kernel
theorem i_34_18 : pm_at q_34 18 = some (.aload_n 0, 1) := by decide +kernel
theorem i_34_19 : pm_at q_34 19 = some (.iconst 0, 1) := by decide +kernel
theorem i_34_20 : pm_at q_34 20 = some (.putfield 32, 3) := by decide +kernel
theorem i_34_23 : pm_at q_34 23 = some (.return_, 1) := by decide +kernel
theorem i_35_0 : pm_at q_35 0 = some (.aload_n 0, 1) := by decide +kernel
theorem i_35_1 : pm_at q_35 1 = some (.getfield 25, 3) := by decide +kernel
theorem i_35_4 : pm_at q_35 4 = some (.bipush 6, 2) := by decide +kernel
theorem i_35_6 : pm_at q_35 6 = some (.if_icmp .lt 7, 3) := by decide +kernel
theorem i_35_9 : pm_at q_35 9 = some (.aload_n 0, 1) := by decide +kernel
theorem i_35_10 : pm_at q_35 10 = some (.invokevirtual 46, 3) := by decide +kernel
theorem i_35_13 : pm_at q_35 13 = some (.aload_n 0, 1) := by decide +kernel
theorem i_35_14 : pm_at q_35 14 = some (.getfield 11, 3) := by decide +kernel
theorem i_35_17 : pm_at q_35 17 = some (.aload_n 0, 1) := by decide +kernel
theorem i_35_18 : pm_at q_35 18 = some (.getfield 25, 3) := by decide +kernel
theorem i_35_21 : pm_at q_35 21 = some (.aaload, 1) := by decide +kernel
theorem i_35_22 : pm_at q_35 22 = some (.aload_n 0, 1) := by decide +kernel
theorem i_35_23 : pm_at q_35 23 = some (.getfield 38, 3) := by decide +kernel
theorem i_35_26 : pm_at q_35 26 = some (.invokevirtual 49, 3) := by decide +kernel
theorem i_35_29 : pm_at q_35 29 = some (.aload_n 0, 1) := by decide +kernel
theorem i_35_30 : pm_at q_35 30 = some (.dup, 1) := by decide +kernel
theorem i_35_31 : pm_at q_35 31 = some (.getfield 25, 3) := by decide +kernel
theorem i_35_34 : pm_at q_35 34 = some (.iconst 1, 1) := by decide +kernel
theorem i_35_35 : pm_at q_35 35 = some (.iadd, 1) := by decide +kernel
theorem i_35_36 : pm_at q_35 36 = some (.putfield 25, 3) := by decide +kernel
theorem i_35_39 : pm_at q_35 39 = some (.return_, 1) := by decide +kernel
theorem i_36_0 : pm_at q_36 0 = some (.aload_n 0, 1) := by decide +kernel
theorem i_36_1 : pm_at q_36 1 = some (.getfield 11, 3) := by decide +kernel
theorem i_36_4 : pm_at q_36 4 = some (.iconst 0, 1) := by decide +kernel
theorem i_36_5 : pm_at q_36 5 = some (.aaload, 1) := by decide +kernel
theorem i_36_6 : pm_at q_36 6 = some (.astore_n 1, 1) := by decide +kernel
theorem i_36_7 : pm_at q_36 7 = some (.iconst 1, 1) := by decide +kernel
theorem i_36_8 : pm_at q_36 8 = some (.istore_n 2, 1) := by decide +kernel
theorem i_36_9 : pm_at q_36 9 = some (.iload_n 2, 1) := by decide +kernel
theorem i_36_10 : pm_at q_36 10 = some (.bipush 6, 2) := by decide +kernel
theorem i_36_12 : pm_at q_36 12 = some (.if_icmp .ge 23, 3) := by decide +kernel
theorem i_36_15 : pm_at q_36 15 = some (.aload_n 0, 1) := by decide +kernel
theorem i_36_16 : pm_at q_36 16 = some (.getfield 11, 3) := by decide +kernel
theorem i_36_19 : pm_at q_36 19 = some (.iload_n 2, 1) := by decide +kernel
theorem i_36_20 : pm_at q_36 20 = some (.iconst 1, 1) := by decide +kernel
theorem i_36_21 : pm_at q_36 21 = some (.isub, 1) := by decide +kernel
theorem i_36_22 : pm_at q_36 22 = some (.aload_n 0, 1) := by decide +kernel
theorem i_36_23 : pm_at q_36 23 = some (.getfield 11, 3) := by decide +kernel
theorem i_36_26 : pm_at q_36 26 = some (.iload_n 2, 1) := by decide +kernel
theorem i_36_27 : pm_at q_36 27 = some (.aaload, 1) := by decide +kernel
theorem i_36_28 : pm_at q_36 28 = some (.aastore, 1) := by decide +kernel
theorem i_36_29 : pm_at q_36 29 = some (.iinc 2 1, 3) := by decide +kernel
theorem i_36_32 : pm_at q_36 32 = some (.goto (-23), 3) := by decide +kernel
theorem i_36_35 : pm_at q_36 35 = some (.aload_n 0, 1) := by decide +kernel
theorem i_36_36 : pm_at q_36 36 = some (.getfield 11, 3) := by decide +kernel
theorem i_36_39 : pm_at q_36 39 = some (.iconst 5, 1) := by decide +kernel
theorem i_36_40 : pm_at q_36 40 = some (.aload_n 1, 1) := by decide +kernel
theorem i_36_41 : pm_at q_36 41 = some (.aastore, 1) := by decide +kernel
theorem i_36_42 : pm_at q_36 42 = some (.aload_n 0, 1) := by decide +kernel
theorem i_36_43 : pm_at q_36 43 = some (.iconst 5, 1) := by decide +kernel
theorem i_36_44 : pm_at q_36 44 = some (.putfield 25, 3) := by decide +kernel
theorem i_36_47 : pm_at q_36 47 = some (.return_, 1) := by decide +kernel
theorem i_37_0 : pm_at q_37 0 = some (.aload_n 0, 1) := by decide +kernel
theorem i_37_1 : pm_at q_37 1 = some (.getfield 25, 3) := by decide +kernel
theorem i_37_4 : pm_at q_37 4 = some (.ifCond .le 29, 3) := by decide +kernel
theorem i_37_7 : pm_at q_37 7 = some (.aload_n 0, 1) := by decide +kernel
theorem i_37_8 : pm_at q_37 8 = some (.dup, 1) := by decide +kernel
theorem i_37_9 : pm_at q_37 9 = some (.getfield 25, 3) := by decide +kernel
theorem i_37_12 : pm_at q_37 12 = some (.iconst 1, 1) := by decide +kernel
theorem i_37_13 : pm_at q_37 13 = some (.isub, 1) := by decide +kernel
theorem i_37_14 : pm_at q_37 14 = some (.putfield 25, 3) := by decide +kernel
theorem i_37_17 : pm_at q_37 17 = some (.aload_n 0, 1) := by decide +kernel
theorem i_37_18 : pm_at q_37 18 = some (.getfield 38, 3) := by decide +kernel
theorem i_37_21 : pm_at q_37 21 = some (.aload_n 0, 1) := by decide +kernel
theorem i_37_22 : pm_at q_37 22 = some (.getfield 11, 3) := by decide +kernel
theorem i_37_25 : pm_at q_37 25 = some (.aload_n 0, 1) := by decide +kernel
theorem i_37_26 : pm_at q_37 26 = some (.getfield 25, 3) := by decide +kernel
theorem i_37_29 : pm_at q_37 29 = some (.aaload, 1) := by decide +kernel
theorem i_37_30 : pm_at q_37 30 = some (.invokevirtual 49, 3) := by decide +kernel
theorem i_37_33 : pm_at q_37 33 = some (.return_, 1) := by decide +kernel
theorem i_38_0 : pm_at q_38 0 = some (.aload_n 0, 1) := by decide +kernel
theorem i_38_1 : pm_at q_38 1 = some (.getfield 38, 3) := by decide +kernel
theorem i_38_4 : pm_at q_38 4 = some (.aload_n 1, 1) := by decide +kernel
theorem i_38_5 : pm_at q_38 5 = some (.getfield 38, 3) := by decide +kernel
theorem i_38_8 : pm_at q_38 8 = some (.invokevirtual 49, 3) := by decide +kernel
theorem i_38_11 : pm_at q_38 11 = some (.aload_n 0, 1) := by decide +kernel
theorem i_38_12 : pm_at q_38 12 = some (.aload_n 1, 1) := by decide +kernel
theorem i_38_13 : pm_at q_38 13 = some (.getfield 25, 3) := by decide +kernel
theorem i_38_16 : pm_at q_38 16 = some (.putfield 25, 3) := by decide +kernel
theorem i_38_19 : pm_at q_38 19 = some (.iconst 0, 1) := by decide +kernel
theorem i_38_20 : pm_at q_38 20 = some (.istore_n 2, 1) := by decide +kernel
theorem i_38_21 : pm_at q_38 21 = some (.iload_n 2, 1) := by decide +kernel
theorem i_38_22 : pm_at q_38 22 = some (.aload_n 0, 1) := by decide +kernel
theorem i_38_23 : pm_at q_38 23 = some (.getfield 25, 3) := by decide +kernel
theorem i_38_26 : pm_at q_38 26 = some (.if_icmp .ge 24, 3) := by decide +kernel
theorem i_38_29 : pm_at q_38 29 = some (.aload_n 0, 1) := by decide +kernel
theorem i_38_30 : pm_at q_38 30 = some (.getfield 11, 3) := by decide +kernel
theorem i_38_33 : pm_at q_38 33 = some (.iload_n 2, 1) := by decide +kernel
theorem i_38_34 : pm_at q_38 34 = some (.aaload, 1) := by decide +kernel
theorem i_38_35 : pm_at q_38 35 = some (.aload_n 1, 1) := by decide +kernel
theorem i_38_36 : pm_at q_38 36 = some (.getfield 11, 3) := by decide +kernel
theorem i_38_39 : pm_at q_38 39 = some (.iload_n 2, 1) := by decide +kernel
theorem i_38_40 : pm_at q_38 40 = some (.aaload, 1) := by decide +kernel
theorem i_38_41 : pm_at q_38 41 = some (.invokevirtual 49, 3) := by decide +kernel
theorem i_38_44 : pm_at q_38 44 = some (.iinc 2 1, 3) := by decide +kernel
theorem i_38_47 : pm_at q_38 47 = some (.goto (-26), 3) := by decide +kernel
theorem i_38_50 : pm_at q_38 50 = some (.aload_n 0, 1) := by decide +kernel
theorem i_38_51 : pm_at q_38 51 = some (.aload_n 1, 1) := by decide +kernel
theorem i_38_52 : pm_at q_38 52 = some (.getfield 29, 3) := by decide +kernel
theorem i_38_55 : pm_at q_38 55 = some (.putfield 29, 3) := by decide +kernel
theorem i_38_58 : pm_at q_38 58 = some (.iconst 0, 1) := by decide +kernel
theorem i_38_59 : pm_at q_38 59 = some (.istore_n 2, 1) := by decide +kernel
theorem i_38_60 : pm_at q_38 60 = some (.iload_n 2, 1) := by decide +kernel
theorem i_38_61 : pm_at q_38 61 = some (.aload_n 0, 1) := by decide +kernel
theorem i_38_62 : pm_at q_38 62 = some (.getfield 29, 3) := by decide +kernel
theorem i_38_65 : pm_at q_38 65 = some (.if_icmp .ge 27, 3) := by decide +kernel
theorem i_38_68 : pm_at q_38 68 = some (.aload_n 1, 1) := by decide +kernel
theorem i_38_69 : pm_at q_38 69 = some (.getfield 19, 3) := by decide +kernel
theorem i_38_72 : pm_at q_38 72 = some (.iload_n 2, 1) := by decide +kernel
theorem i_38_73 : pm_at q_38 73 = some (.aaload, 1) := by decide +kernel
theorem i_38_74 : pm_at q_38 74 = some (.iconst 0, 1) := by decide +kernel
theorem i_38_75 : pm_at q_38 75 = some (.aload_n 0, 1) := by decide +kernel
theorem i_38_76 : pm_at q_38 76 = some (.getfield 19, 3) := by decide +kernel
theorem i_38_79 : pm_at q_38 79 = some (.iload_n 2, 1) := by decide +kernel
theorem i_38_80 : pm_at q_38 80 = some (.aaload, 1) := by decide +kernel
theorem i_38_81 : pm_at q_38 81 = some (.iconst 0, 1) := by decide +kernel
theorem i_38_82 : pm_at q_38 82 = some (.iconst 5, 1) := by decide +kernel
theorem i_38_83 : pm_at q_38 83 = some (.invokestatic 53, 3) := by decide +kernel
theorem i_38_86 : pm_at q_38 86 = some (.iinc 2 1, 3) := by decide +kernel
theorem i_38_89 : pm_at q_38 89 = some (.goto (-29), 3) := by decide +kernel
theorem i_38_92 : pm_at q_38 92 = some (.aload_n 0, 1) := by decide +kernel
theorem i_38_93 : pm_at q_38 93 = some (.aload_n 1, 1) := by decide +kernel
theorem i_38_94 : pm_at q_38 94 = some (.getfield 32, 3) := by decide +kernel
theorem i_38_97 : pm_at q_38 97 = some (.putfield 32, 3) := by decide +kernel
theorem i_38_100 : pm_at q_38 100 = some (.iconst 0, 1) := by decide +kernel
theorem i_38_101 : pm_at q_38 101 = some (.istore_n 2, 1) := by decide +kernel
theorem i_38_102 : pm_at q_38 102 = some (.iload_n 2, 1) := by decide +kernel
theorem i_38_103 : pm_at q_38 103 = some (.aload_n 0, 1) := by decide +kernel
theorem i_38_104 : pm_at q_38 104 = some (.getfield 32, 3) := by decide +kernel
theorem i_38_107 : pm_at q_38 107 = some (.if_icmp .ge 27, 3) := by decide +kernel
theorem i_38_110 : pm_at q_38 110 = some (.aload_n 1, 1) := by decide +kernel
theorem i_38_111 : pm_at q_38 111 = some (.getfield 22, 3) := by decide +kernel
theorem i_38_114 : pm_at q_38 114 = some (.iload_n 2, 1) := by decide +kernel
theorem i_38_115 : pm_at q_38 115 = some (.aaload, 1) := by decide +kernel
theorem i_38_116 : pm_at q_38 116 = some (.iconst 0, 1) := by decide +kernel
theorem i_38_117 : pm_at q_38 117 = some (.aload_n 0, 1) := by decide +kernel
theorem i_38_118 : pm_at q_38 118 = some (.getfield 22, 3) := by decide +kernel
theorem i_38_121 : pm_at q_38 121 = some (.iload_n 2, 1) := by decide +kernel
theorem i_38_122 : pm_at q_38 122 = some (.aaload, 1) := by decide +kernel
theorem i_38_123 : pm_at q_38 123 = some (.iconst 0, 1) := by decide +kernel
theorem i_38_124 : pm_at q_38 124 = some (.iconst 2, 1) := by decide +kernel
theorem i_38_125 : pm_at q_38 125 = some (.invokestatic 53, 3) := by decide +kernel
theorem i_38_128 : pm_at q_38 128 = some (.iinc 2 1, 3) := by decide +kernel
theorem i_38_131 : pm_at q_38 131 = some (.goto (-29), 3) := by decide +kernel
theorem i_38_134 : pm_at q_38 134 = some (.return_, 1) := by decide +kernel
theorem i_39_0 : pm_at q_39 0 = some (.aload_n 0, 1) := by decide +kernel
theorem i_39_1 : pm_at q_39 1 = some (.invokespecial 1, 3) := by decide +kernel
theorem i_39_4 : pm_at q_39 4 = some (.return_, 1) := by decide +kernel
theorem i_40_0 : pm_at q_40 0 = some (.aload_n 0, 1) := by decide +kernel
theorem i_40_1 : pm_at q_40 1 = some (.iload_n 1, 1) := by decide +kernel
theorem i_40_2 : pm_at q_40 2 = some (.iload_n 2, 1) := by decide +kernel
theorem i_40_3 : pm_at q_40 3 = some (.iload_n 3, 1) := by decide +kernel
theorem i_40_4 : pm_at q_40 4 = some (.invokespecial 7, 3) := by decide +kernel
theorem i_40_7 : pm_at q_40 7 = some (.iconst 1, 1) := by decide +kernel
theorem i_40_8 : pm_at q_40 8 = some (.iadd, 1) := by decide +kernel
theorem i_40_9 : pm_at q_40 9 = some (.iconst 2, 1) := by decide +kernel
theorem i_40_10 : pm_at q_40 10 = some (.idiv, 1) := by decide +kernel
theorem i_40_11 : pm_at q_40 11 = some (.ireturn, 1) := by decide +kernel
theorem i_41_0 : pm_at q_41 0 = some (.iconst 2, 1) := by decide +kernel
theorem i_41_1 : pm_at q_41 1 = some (.aload_n 0, 1) := by decide +kernel
theorem i_41_2 : pm_at q_41 2 = some (.invokespecial 11, 3) := by decide +kernel
theorem i_41_5 : pm_at q_41 5 = some (.imul, 1) := by decide +kernel
theorem i_41_6 : pm_at q_41 6 = some (.ireturn, 1) := by decide +kernel
theorem i_42_0 : pm_at q_42 0 = some (.aload_n 0, 1) := by decide +kernel
theorem i_42_1 : pm_at q_42 1 = some (.invokespecial 3, 3) := by decide +kernel
theorem i_42_4 : pm_at q_42 4 = some (.return_, 1) := by decide +kernel
theorem i_43_0 : pm_at q_43 0 = some (.aload_n 0, 1) := by decide +kernel
theorem i_43_1 : pm_at q_43 1 = some (.iload_n 1, 1) := by decide +kernel
theorem i_43_2 : pm_at q_43 2 = some (.iload_n 2, 1) := by decide +kernel
theorem i_43_3 : pm_at q_43 3 = some (.iload_n 3, 1) := by decide +kernel
theorem i_43_4 : pm_at q_43 4 = some (.invokespecial 9, 3) := by decide +kernel
theorem i_43_7 : pm_at q_43 7 = some (.istore 4, 2) := by decide +kernel
theorem i_43_9 : pm_at q_43 9 = some (.iload_n 2, 1) := by decide +kernel
theorem i_43_10 : pm_at q_43 10 = some (.bipush 6, 2) := by decide +kernel
theorem i_43_12 : pm_at q_43 12 = some (.if_icmp .lt 10, 3) := by decide +kernel
theorem i_43_15 : pm_at q_43 15 = some (.iload 4, 2) := by decide +kernel
theorem i_43_17 : pm_at q_43 17 = some (.iconst 1, 1) := by decide +kernel
theorem i_43_18 : pm_at q_43 18 = some (.iadd, 1) := by decide +kernel
theorem i_43_19 : pm_at q_43 19 = some (.goto 5, 3) := by decide +kernel
theorem i_43_22 : pm_at q_43 22 = some (.iload 4, 2) := by decide +kernel
theorem i_43_24 : pm_at q_43 24 = some (.ireturn, 1) := by decide +kernel
theorem i_44_0 : pm_at q_44 0 = some (.aload_n 0, 1) := by decide +kernel
theorem i_44_1 : pm_at q_44 1 = some (.invokespecial 3, 3) := by decide +kernel
theorem i_44_4 : pm_at q_44 4 = some (.aload_n 0, 1) := by decide +kernel
theorem i_44_5 : pm_at q_44 5 = some (.sipush 150, 3) := by decide +kernel
theorem i_44_8 : pm_at q_44 8 = some (.newarray .byte, 2) := by decide +kernel
theorem i_44_10 : pm_at q_44 10 = some (.putfield 9, 3) := by decide +kernel
theorem i_44_13 : pm_at q_44 13 = some (.aload_n 0, 1) := by decide +kernel
theorem i_44_14 : pm_at q_44 14 = some (.iconst 0, 1) := by decide +kernel
theorem i_44_15 : pm_at q_44 15 = some (.putfield 15, 3) := by decide +kernel
theorem i_44_18 : pm_at q_44 18 = some (.aload_n 0, 1) := by decide +kernel
theorem i_44_19 : pm_at q_44 19 = some (.iconst 0, 1) := by decide +kernel
theorem i_44_20 : pm_at q_44 20 = some (.putfield 19, 3) := by decide +kernel
theorem i_44_23 : pm_at q_44 23 = some (.aload_n 0, 1) := by decide +kernel
theorem i_44_24 : pm_at q_44 24 = some (.iconst 0, 1) := by decide +kernel
theorem i_44_25 : pm_at q_44 25 = some (.putfield 22, 3) := by decide +kernel
theorem i_44_28 : pm_at q_44 28 = some (.aload_n 0, 1) := by decide +kernel
theorem i_44_29 : pm_at q_44 29 = some (.iconst 0, 1) := by decide +kernel
theorem i_44_30 : pm_at q_44 30 = some (.putfield 25, 3) := by decide +kernel
theorem i_44_33 : pm_at q_44 33 = some (.aload_n 0, 1) := by decide +kernel
theorem i_44_34 : pm_at q_44 34 = some (.iconst 0, 1) := by decide +kernel
theorem i_44_35 : pm_at q_44 35 = some (.putfield 28, 3) := by decide +kernel
theorem i_44_38 : pm_at q_44 38 = some (.aload_n 0, 1) := by decide +kernel
theorem i_44_39 : pm_at q_44 39 = some (.iconst (-1), 1) := by decide +kernel
theorem i_44_40 : pm_at q_44 40 = some (.putfield 31, 3) := by decide +kernel
theorem i_44_43 : pm_at q_44 43 = some (.return_, 1) := by decide +kernel
theorem i_45_0 : pm_at q_45 0 = some (.aload_n 0, 1) := by decide +kernel
theorem i_45_1 : pm_at q_45 1 = some (.getfield 15, 3) := by decide +kernel
theorem i_45_4 : pm_at q_45 4 = some (.sipush 150, 3) := by decide +kernel
theorem i_45_7 : pm_at q_45 7 = some (.if_icmp .ge 24, 3) := by decide +kernel
theorem i_45_10 : pm_at q_45 10 = some (.aload_n 0, 1) := by decide +kernel
theorem i_45_11 : pm_at q_45 11 = some (.getfield 9, 3) := by decide +kernel
theorem i_45_14 : pm_at q_45 14 = some (.aload_n 0, 1) := by decide +kernel
theorem i_45_15 : pm_at q_45 15 = some (.getfield 15, 3) := by decide +kernel
theorem i_45_18 : pm_at q_45 18 = some (.iload_n 1, 1) := by decide +kernel
theorem i_45_19 : pm_at q_45 19 = some (.i2b, 1) := by decide +kernel
theorem i_45_20 : pm_at q_45 20 = some (.bastore, 1) := by decide +kernel
theorem i_45_21 : pm_at q_45 21 = some (.aload_n 0, 1) := by decide +kernel
theorem i_45_22 : pm_at q_45 22 = some (.dup, 1) := by decide +kernel
theorem i_45_23 : pm_at q_45 23 = some (.getfield 15, 3) := by decide +kernel
theorem i_45_26 : pm_at q_45 26 = some (.iconst 1, 1) := by decide +kernel
theorem i_45_27 : pm_at q_45 27 = some (.iadd, 1) := by decide +kernel
theorem i_45_28 : pm_at q_45 28 = some (.putfield 15, 3) := by decide +kernel
theorem i_45_31 : pm_at q_45 31 = some (.return_, 1) := by decide +kernel
theorem i_46_0 : pm_at q_46 0 = some (.aload_n 0, 1) := by decide +kernel
theorem i_46_1 : pm_at q_46 1 = some (.iconst 0, 1) := by decide +kernel
theorem i_46_2 : pm_at q_46 2 = some (.putfield 25, 3) := by decide +kernel
theorem i_46_5 : pm_at q_46 5 = some (.aload_n 0, 1) := by decide +kernel
theorem i_46_6 : pm_at q_46 6 = some (.iconst (-1), 1) := by decide +kernel
theorem i_46_7 : pm_at q_46 7 = some (.putfield 31, 3) := by decide +kernel
theorem i_46_10 : pm_at q_46 10 = some (.aload_n 0, 1) := by decide +kernel
theorem i_46_11 : pm_at q_46 11 = some (.invokevirtual 34, 3) := by decide +kernel
theorem i_46_14 : pm_at q_46 14 = some (.aload_n 0, 1) := by decide +kernel
theorem i_46_15 : pm_at q_46 15 = some (.aload_n 1, 1) := by decide +kernel
theorem i_46_16 : pm_at q_46 16 = some (.invokevirtual 37, 3) := by decide +kernel
theorem i_46_19 : pm_at q_46 19 = some (.iconst 1, 1) := by decide +kernel
theorem i_46_20 : pm_at q_46 20 = some (.istore_n 2, 1) := by decide +kernel
theorem i_46_21 : pm_at q_46 21 = some (.aload_n 0, 1) := by decide +kernel
theorem i_46_22 : pm_at q_46 22 = some (.getfield 15, 3) := by decide +kernel
theorem i_46_25 : pm_at q_46 25 = some (.istore_n 3, 1) := by decide +kernel
theorem i_46_26 : pm_at q_46 26 = some (.iload_n 3, 1) := by decide +kernel
theorem i_46_27 : pm_at q_46 27 = some (.ifCond .le 119, 3) := by decide +kernel
theorem i_46_30 : pm_at q_46 30 = some (.aload_n 0, 1) := by decide +kernel
theorem i_46_31 : pm_at q_46 31 = some (.getfield 31, 3) := by decide +kernel
theorem i_46_34 : pm_at q_46 34 = some (.iconst (-1), 1) := by decide +kernel
theorem i_46_35 : pm_at q_46 35 = some (.if_icmp .ne 111, 3) := by decide +kernel
theorem i_46_38 : pm_at q_46 38 = some (.aload_n 0, 1) := by decide +kernel
theorem i_46_39 : pm_at q_46 39 = some (.getfield 19, 3) := by decide +kernel
theorem i_46_42 : pm_at q_46 42 = some (.ifCond .eq 104, 3) := by decide +kernel
theorem i_46_45 : pm_at q_46 45 = some (.aload_n 0, 1) := by decide +kernel
theorem i_46_46 : pm_at q_46 46 = some (.ldc 41, 2) := by decide +kernel
theorem i_46_48 : pm_at q_46 48 = some (.invokevirtual 43, 3) := by decide +kernel
theorem i_46_51 : pm_at q_46 51 = some (.ifCond .eq 19, 3) := by decide +kernel
theorem i_46_54 : pm_at q_46 54 = some (.aload_n 1, 1) := by decide +kernel
theorem i_46_55 : pm_at q_46 55 = some (.invokevirtual 47, 3) := by decide +kernel
theorem i_46_58 : pm_at q_46 58 = some (.ifCond .ne 12, 3) := by decide +kernel
theorem i_46_61 : pm_at q_46 61 = some (.aload_n 0, 1) := by decide +kernel
theorem i_46_62 : pm_at q_46 62 = some (.aload_n 1, 1) := by decide +kernel
theorem i_46_63 : pm_at q_46 63 = some (.iconst 0, 1) := by decide +kernel
theorem i_46_64 : pm_at q_46 64 = some (.invokevirtual 53, 3) := by decide +kernel
theorem i_46_67 : pm_at q_46 67 = some (.goto 70, 3) := by decide +kernel
theorem i_46_70 : pm_at q_46 70 = some (.aload_n 0, 1) := by decide +kernel
theorem i_46_71 : pm_at q_46 71 = some (.ldc 57, 2) := by decide +kernel
theorem i_46_73 : pm_at q_46 73 = some (.invokevirtual 43, 3) := by decide +kernel
theorem i_46_76 : pm_at q_46 76 = some (.ifCond .eq 19, 3) := by decide +kernel
theorem i_46_79 : pm_at q_46 79 = some (.aload_n 1, 1) := by decide +kernel
theorem i_46_80 : pm_at q_46 80 = some (.invokevirtual 47, 3) := by decide +kernel
theorem i_46_83 : pm_at q_46 83 = some (.ifCond .ne 12, 3) := by decide +kernel
theorem i_46_86 : pm_at q_46 86 = some (.aload_n 0, 1) := by decide +kernel
theorem i_46_87 : pm_at q_46 87 = some (.aload_n 1, 1) := by decide +kernel
theorem i_46_88 : pm_at q_46 88 = some (.iconst 1, 1) := by decide +kernel
theorem i_46_89 : pm_at q_46 89 = some (.invokevirtual 53, 3) := by decide +kernel
theorem i_46_92 : pm_at q_46 92 = some (.goto 45, 3) := by decide +kernel
theorem i_46_95 : pm_at q_46 95 = some (.aload_n 0, 1) := by decide +kernel
theorem i_46_96 : pm_at q_46 96 = some (.ldc 59, 2) := by decide +kernel
theorem i_46_98 : pm_at q_46 98 = some (.invokevirtual 43, 3) := by decide +kernel
theorem i_46_101 : pm_at q_46 101 = some (.ifCond .eq 11, 3) := by decide +kernel
theorem i_46_104 : pm_at q_46 104 = some (.aload_n 0, 1) := by decide +kernel
theorem i_46_105 : pm_at q_46 105 = some (.aload_n 1, 1) := by decide +kernel
theorem i_46_106 : pm_at q_46 106 = some (.invokevirtual 61, 3) := by decide +kernel
theorem i_46_109 : pm_at q_46 109 = some (.goto 28, 3) := by decide +kernel
theorem i_46_112 : pm_at q_46 112 = some (.aload_n 0, 1) := by decide +kernel
theorem i_46_113 : pm_at q_46 113 = some (.ldc 64, 2) := by decide +kernel
theorem i_46_115 : pm_at q_46 115 = some (.invokevirtual 43, 3) := by decide +kernel
theorem i_46_118 : pm_at q_46 118 = some (.ifCond .eq 11, 3) := by decide +kernel
theorem i_46_121 : pm_at q_46 121 = some (.aload_n 0, 1) := by decide +kernel
theorem i_46_122 : pm_at q_46 122 = some (.aload_n 1, 1) := by decide +kernel
theorem i_46_123 : pm_at q_46 123 = some (.invokevirtual 66, 3) := by decide +kernel
theorem i_46_126 : pm_at q_46 126 = some (.goto 11, 3) := by decide +kernel
theorem i_46_129 : pm_at q_46 129 = some (.aload_n 0, 1) := by decide +kernel
theorem i_46_130 : pm_at q_46 130 = some (.aload_n 0, 1) := by decide +kernel
theorem i_46_131 : pm_at q_46 131 = some (.getfield 22, 3) := by decide +kernel
theorem i_46_134 : pm_at q_46 134 = some (.putfield 31, 3) := by decide +kernel
theorem i_46_137 : pm_at q_46 137 = some (.iinc 2 1, 3) := by decide +kernel
theorem i_46_140 : pm_at q_46 140 = some (.iinc 3 (-1), 3) := by decide +kernel
theorem i_46_143 : pm_at q_46 143 = some (.goto (-117), 3) := by decide +kernel
theorem i_46_146 : pm_at q_46 146 = some (.aload_n 0, 1) := by decide +kernel
theorem i_46_147 : pm_at q_46 147 = some (.getfield 31, 3) := by decide +kernel
theorem i_46_150 : pm_at q_46 150 = some (.iconst (-1), 1) := by decide +kernel
theorem i_46_151 : pm_at q_46 151 = some (.if_icmp .ne 7, 3) := by decide +kernel
theorem i_46_154 : pm_at q_46 154 = some (.iload_n 2, 1) := by decide +kernel
theorem i_46_155 : pm_at q_46 155 = some (.goto 10, 3) := by decide +kernel
theorem i_46_158 : pm_at q_46 158 = some (.bipush (-10), 2) := by decide +kernel
theorem i_46_160 : pm_at q_46 160 = some (.aload_n 0, 1) := by decide +kernel
theorem i_46_161 : pm_at q_46 161 = some (.getfield 31, 3) := by decide +kernel
theorem i_46_164 : pm_at q_46 164 = some (.isub, 1) := by decide +kernel
theorem i_46_165 : pm_at q_46 165 = some (.ireturn, 1) := by decide +kernel
theorem i_47_0 : pm_at q_47 0 = some (.aload_n 0, 1) := by decide +kernel
theorem i_47_1 : pm_at q_47 1 = some (.ldc 69, 2) := by decide +kernel
theorem i_47_3 : pm_at q_47 3 = some (.invokevirtual 43, 3) := by decide +kernel
theorem i_47_6 : pm_at q_47 6 = some (.ifCond .ne 12, 3) := by decide +kernel
theorem i_47_9 : pm_at q_47 9 = some (.aload_n 0, 1) := by decide +kernel
theorem i_47_10 : pm_at q_47 10 = some (.aload_n 0, 1) := by decide +kernel
theorem i_47_11 : pm_at q_47 11 = some (.getfield 22, 3) := by decide +kernel
theorem i_47_14 : pm_at q_47 14 = some (.putfield 31, 3) := by decide +kernel
theorem i_47_17 : pm_at q_47 17 = some (.return_, 1) := by decide +kernel
theorem i_47_18 : pm_at q_47 18 = some (.aload_n 0, 1) := by decide +kernel
theorem i_47_19 : pm_at q_47 19 = some (.invokevirtual 34, 3) := by decide +kernel
theorem i_47_22 : pm_at q_47 22 = some (.aload_n 0, 1) := by decide +kernel
theorem i_47_23 : pm_at q_47 23 = some (.bipush 6, 2) := by decide +kernel
theorem i_47_25 : pm_at q_47 25 = some (.bipush 40, 2) := by decide +kernel
theorem i_47_27 : pm_at q_47 27 = some (.invokevirtual 71, 3) := by decide +kernel
theorem i_47_30 : pm_at q_47 30 = some (.istore_n 2, 1) := by decide +kernel
theorem i_47_31 : pm_at q_47 31 = some (.aload_n 0, 1) := by decide +kernel
theorem i_47_32 : pm_at q_47 32 = some (.invokevirtual 75, 3) := by decide +kernel
theorem i_47_35 : pm_at q_47 35 = some (.aload_n 1, 1) := by decide +kernel
theorem i_47_36 : pm_at q_47 36 = some (.iload_n 2, 1) := by decide +kernel
theorem i_47_37 : pm_at q_47 37 = some (.invokevirtual 78, 3) := by decide +kernel
theorem i_47_40 : pm_at q_47 40 = some (.return_, 1) := by decide +kernel
theorem i_48_0 : pm_at q_48 0 = some (.aload_n 0, 1) := by decide +kernel
theorem i_48_1 : pm_at q_48 1 = some (.invokevirtual 34, 3) := by decide +kernel
theorem i_48_4 : pm_at q_48 4 = some (.aload_n 0, 1) := by decide +kernel
theorem i_48_5 : pm_at q_48 5 = some (.iconst 0, 1) := by decide +kernel
theorem i_48_6 : pm_at q_48 6 = some (.iconst 5, 1) := by decide +kernel
theorem i_48_7 : pm_at q_48 7 = some (.invokevirtual 71, 3) := by decide +kernel
theorem i_48_10 : pm_at q_48 10 = some (.istore_n 3, 1) := by decide +kernel
theorem i_48_11 : pm_at q_48 11 = some (.aload_n 0, 1) := by decide +kernel
theorem i_48_12 : pm_at q_48 12 = some (.iconst 1, 1) := by decide +kernel
theorem i_48_13 : pm_at q_48 13 = some (.bipush 9, 2) := by decide +kernel
theorem i_48_15 : pm_at q_48 15 = some (.invokevirtual 71, 3) := by decide +kernel
theorem i_48_18 : pm_at q_48 18 = some (.istore 4, 2) := by decide +kernel
theorem i_48_20 : pm_at q_48 20 = some (.aload_n 0, 1) := by decide +kernel
theorem i_48_21 : pm_at q_48 21 = some (.iconst 1, 1) := by decide +kernel
theorem i_48_22 : pm_at q_48 22 = some (.bipush 9, 2) := by decide +kernel
theorem i_48_24 : pm_at q_48 24 = some (.invokevirtual 71, 3) := by decide +kernel
theorem i_48_27 : pm_at q_48 27 = some (.istore 5, 2) := by decide +kernel
theorem i_48_29 : pm_at q_48 29 = some (.aload_n 0, 1) := by decide +kernel
theorem i_48_30 : pm_at q_48 30 = some (.iconst 0, 1) := by decide +kernel
theorem i_48_31 : pm_at q_48 31 = some (.bipush 9, 2) := by decide +kernel
theorem i_48_33 : pm_at q_48 33 = some (.invokevirtual 71, 3) := by decide +kernel
theorem i_48_36 : pm_at q_48 36 = some (.istore 6, 2) := by decide +kernel
theorem i_48_38 : pm_at q_48 38 = some (.iload_n 2, 1) := by decide +kernel
theorem i_48_39 : pm_at q_48 39 = some (.ifCond .eq 17, 3) := by decide +kernel
theorem i_48_42 : pm_at q_48 42 = some (.aload_n 0, 1) := by decide +kernel
theorem i_48_43 : pm_at q_48 43 = some (.iconst 0, 1) := by decide +kernel
theorem i_48_44 : pm_at q_48 44 = some (.aload_n 1, 1) := by decide +kernel
theorem i_48_45 : pm_at q_48 45 = some (.getfield 82, 3) := by decide +kernel
theorem i_48_48 : pm_at q_48 48 = some (.iconst 1, 1) := by decide +kernel
theorem i_48_49 : pm_at q_48 49 = some (.isub, 1) := by decide +kernel
theorem i_48_50 : pm_at q_48 50 = some (.invokevirtual 71, 3) := by decide +kernel
theorem i_48_53 : pm_at q_48 53 = some (.goto 4, 3) := by decide +kernel
theorem i_48_56 : pm_at q_48 56 = some (.iconst (-1), 1) := by decide +kernel
theorem i_48_57 : pm_at q_48 57 = some (.istore 7, 2) := by decide +kernel
theorem i_48_59 : pm_at q_48 59 = some (.aload_n 0, 1) := by decide +kernel
theorem i_48_60 : pm_at q_48 60 = some (.invokevirtual 75, 3) := by decide +kernel
theorem i_48_63 : pm_at q_48 63 = some (.aload_n 0, 1) := by decide +kernel
theorem i_48_64 : pm_at q_48 64 = some (.getfield 31, 3) := by decide +kernel
theorem i_48_67 : pm_at q_48 67 = some (.iconst (-1), 1) := by decide +kernel
theorem i_48_68 : pm_at q_48 68 = some (.if_icmp .ne 17, 3) := by decide +kernel
theorem i_48_71 : pm_at q_48 71 = some (.aload_n 1, 1) := by decide +kernel
theorem i_48_72 : pm_at q_48 72 = some (.iload_n 3, 1) := by decide +kernel
theorem i_48_73 : pm_at q_48 73 = some (.iload 4, 2) := by decide +kernel
theorem i_48_75 : pm_at q_48 75 = some (.iload 5, 2) := by decide +kernel
theorem i_48_77 : pm_at q_48 77 = some (.iload 6, 2) := by decide +kernel
theorem i_48_79 : pm_at q_48 79 = some (.iload 7, 2) := by decide +kernel
theorem i_48_81 : pm_at q_48 81 = some (.invokevirtual 85, 3) := by decide +kernel
theorem i_48_84 : pm_at q_48 84 = some (.pop, 1) := by decide +kernel
theorem i_48_85 : pm_at q_48 85 = some (.return_, 1) := by decide +kernel
theorem i_49_0 : pm_at q_49 0 = some (.aload_n 0, 1) := by decide +kernel
theorem i_49_1 : pm_at q_49 1 = some (.invokevirtual 34, 3) := by decide +kernel
theorem i_49_4 : pm_at q_49 4 = some (.aload_n 0, 1) := by decide +kernel
theorem i_49_5 : pm_at q_49 5 = some (.iconst 0, 1) := by decide +kernel
theorem i_49_6 : pm_at q_49 6 = some (.bipush 12, 2) := by decide +kernel
theorem i_49_8 : pm_at q_49 8 = some (.invokevirtual 71, 3) := by decide +kernel
theorem i_49_11 : pm_at q_49 11 = some (.istore_n 2, 1) := by decide +kernel
theorem i_49_12 : pm_at q_49 12 = some (.aload_n 0, 1) := by decide +kernel
theorem i_49_13 : pm_at q_49 13 = some (.invokevirtual 75, 3) := by decide +kernel
theorem i_49_16 : pm_at q_49 16 = some (.aload_n 0, 1) := by decide +kernel
theorem i_49_17 : pm_at q_49 17 = some (.getfield 31, 3) := by decide +kernel
theorem i_49_20 : pm_at q_49 20 = some (.iconst (-1), 1) := by decide +kernel
theorem i_49_21 : pm_at q_49 21 = some (.if_icmp .ne 8, 3) := by decide +kernel
theorem i_49_24 : pm_at q_49 24 = some (.aload_n 1, 1) := by decide +kernel
theorem i_49_25 : pm_at q_49 25 = some (.iload_n 2, 1) := by decide +kernel
theorem i_49_26 : pm_at q_49 26 = some (.invokevirtual 89, 3) := by decide +kernel
theorem i_49_29 : pm_at q_49 29 = some (.return_, 1) := by decide +kernel
theorem i_50_0 : pm_at q_50 0 = some (.aload_n 0, 1) := by decide +kernel
theorem i_50_1 : pm_at q_50 1 = some (.invokevirtual 34, 3) := by decide +kernel
theorem i_50_4 : pm_at q_50 4 = some (.aload_n 0, 1) := by decide +kernel
theorem i_50_5 : pm_at q_50 5 = some (.iconst 0, 1) := by decide +kernel
theorem i_50_6 : pm_at q_50 6 = some (.aload_n 1, 1) := by decide +kernel
theorem i_50_7 : pm_at q_50 7 = some (.getfield 82, 3) := by decide +kernel
theorem i_50_10 : pm_at q_50 10 = some (.iconst 1, 1) := by decide +kernel
theorem i_50_11 : pm_at q_50 11 = some (.isub, 1) := by decide +kernel
theorem i_50_12 : pm_at q_50 12 = some (.invokevirtual 71, 3) := by decide +kernel
theorem i_50_15 : pm_at q_50 15 = some (.istore_n 2, 1) := by decide +kernel
theorem i_50_16 : pm_at q_50 16 = some (.aload_n 0, 1) := by decide +kernel
theorem i_50_17 : pm_at q_50 17 = some (.iconst 0, 1) := by decide +kernel
theorem i_50_18 : pm_at q_50 18 = some (.iconst 3, 1) := by decide +kernel
theorem i_50_19 : pm_at q_50 19 = some (.invokevirtual 71, 3) := by decide +kernel
theorem i_50_22 : pm_at q_50 22 = some (.istore_n 3, 1) := by decide +kernel
theorem i_50_23 : pm_at q_50 23 = some (.aload_n 0, 1) := by decide +kernel
theorem i_50_24 : pm_at q_50 24 = some (.invokevirtual 75, 3) := by decide +kernel
theorem i_50_27 : pm_at q_50 27 = some (.aload_n 0, 1) := by decide +kernel
theorem i_50_28 : pm_at q_50 28 = some (.getfield 31, 3) := by decide +kernel
theorem i_50_31 : pm_at q_50 31 = some (.iconst (-1), 1) := by decide +kernel
theorem i_50_32 : pm_at q_50 32 = some (.if_icmp .ne 21, 3) := by decide +kernel
theorem i_50_35 : pm_at q_50 35 = some (.iload_n 2, 1) := by decide +kernel
theorem i_50_36 : pm_at q_50 36 = some (.aload_n 1, 1) := by decide +kernel
theorem i_50_37 : pm_at q_50 37 = some (.getfield 82, 3) := by decide +kernel
theorem i_50_40 : pm_at q_50 40 = some (.if_icmp .ge 13, 3) := by decide +kernel
theorem i_50_43 : pm_at q_50 43 = some (.aload_n 1, 1) := by decide +kernel
theorem i_50_44 : pm_at q_50 44 = some (.getfield 92, 3) := by decide +kernel
theorem i_50_47 : pm_at q_50 47 = some (.iload_n 2, 1) := by decide +kernel
theorem i_50_48 : pm_at q_50 48 = some (.aaload, 1) := by decide +kernel
theorem i_50_49 : pm_at q_50 49 = some (.iload_n 3, 1) := by decide +kernel
theorem i_50_50 : pm_at q_50 50 = some (.putfield 96, 3) := by decide +kernel
theorem i_50_53 : pm_at q_50 53 = some (.return_, 1) := by decide +kernel
theorem i_51_0 : pm_at q_51 0 = some (.aload_n 0, 1) := by decide +kernel
theorem i_51_1 : pm_at q_51 1 = some (.getfield 31, 3) := by decide +kernel
theorem i_51_4 : pm_at q_51 4 = some (.iconst (-1), 1) := by decide +kernel
theorem i_51_5 : pm_at q_51 5 = some (.if_icmp .eq 5, 3) := by decide +kernel
theorem i_51_8 : pm_at q_51 8 = some (.iload_n 1, 1) := by decide +kernel
theorem i_51_9 : pm_at q_51 9 = some (.ireturn, 1) := by decide +kernel
theorem i_51_10 : pm_at q_51 10 = some (.aload_n 0, 1) := by decide +kernel
theorem i_51_11 : pm_at q_51 11 = some (.getfield 19, 3) := by decide +kernel
theorem i_51_14 : pm_at q_51 14 = some (.iconst 2, 1) := by decide +kernel
theorem i_51_15 : pm_at q_51 15 = some (.if_icmp .ne 19, 3) := by decide +kernel
theorem i_51_18 : pm_at q_51 18 = some (.aload_n 0, 1) := by decide +kernel
theorem i_51_19 : pm_at q_51 19 = some (.getfield 28, 3) := by decide +kernel
theorem i_51_22 : pm_at q_51 22 = some (.iload_n 1, 1) := by decide +kernel
theorem i_51_23 : pm_at q_51 23 = some (.if_icmp .lt 11, 3) := by decide +kernel
theorem i_51_26 : pm_at q_51 26 = some (.aload_n 0, 1) := by decide +kernel
theorem i_51_27 : pm_at q_51 27 = some (.getfield 28, 3) := by decide +kernel
theorem i_51_30 : pm_at q_51 30 = some (.iload_n 2, 1) := by decide +kernel
theorem i_51_31 : pm_at q_51 31 = some (.if_icmp .le 13, 3) := by decide +kernel
theorem i_51_34 : pm_at q_51 34 = some (.aload_n 0, 1) := by decide +kernel
theorem i_51_35 : pm_at q_51 35 = some (.aload_n 0, 1) := by decide +kernel
theorem i_51_36 : pm_at q_51 36 = some (.getfield 22, 3) := by decide +kernel
theorem i_51_39 : pm_at q_51 39 = some (.putfield 31, 3) := by decide +kernel
theorem i_51_42 : pm_at q_51 42 = some (.iload_n 1, 1) := by decide +kernel
theorem i_51_43 : pm_at q_51 43 = some (.ireturn, 1) := by decide +kernel
theorem i_51_44 : pm_at q_51 44 = some (.aload_n 0, 1) := by decide +kernel
theorem i_51_45 : pm_at q_51 45 = some (.getfield 28, 3) := by decide +kernel
theorem i_51_48 : pm_at q_51 48 = some (.istore_n 3, 1) := by decide +kernel
theorem i_51_49 : pm_at q_51 49 = some (.aload_n 0, 1) := by decide +kernel
theorem i_51_50 : pm_at q_51 50 = some (.invokevirtual 34, 3) := by decide +kernel
theorem i_51_53 : pm_at q_51 53 = some (.iload_n 3, 1) := by decide +kernel
theorem i_51_54 : pm_at q_51 54 = some (.ireturn, 1) := by decide +kernel
theorem i_52_0 : pm_at q_52 0 = some (.aload_n 0, 1) := by decide +kernel
theorem i_52_1 : pm_at q_52 1 = some (.getfield 31, 3) := by decide +kernel
theorem i_52_4 : pm_at q_52 4 = some (.iconst (-1), 1) := by decide +kernel
theorem i_52_5 : pm_at q_52 5 = some (.if_icmp .eq 4, 3) := by decide +kernel
theorem i_52_8 : pm_at q_52 8 = some (.return_, 1) := by decide +kernel
theorem i_52_9 : pm_at q_52 9 = some (.aload_n 0, 1) := by decide +kernel
theorem i_52_10 : pm_at q_52 10 = some (.getfield 19, 3) := by decide +kernel
theorem i_52_13 : pm_at q_52 13 = some (.iconst 3, 1) := by decide +kernel
theorem i_52_14 : pm_at q_52 14 = some (.if_icmp .ne 10, 3) := by decide +kernel
theorem i_52_17 : pm_at q_52 17 = some (.aload_n 0, 1) := by decide +kernel
theorem i_52_18 : pm_at q_52 18 = some (.invokevirtual 34, 3) := by decide +kernel
theorem i_52_21 : pm_at q_52 21 = some (.goto 11, 3) := by decide +kernel
theorem i_52_24 : pm_at q_52 24 = some (.aload_n 0, 1) := by decide +kernel
theorem i_52_25 : pm_at q_52 25 = some (.aload_n 0, 1) := by decide +kernel
theorem i_52_26 : pm_at q_52 26 = some (.getfield 22, 3) := by decide +kernel
theorem i_52_29 : pm_at q_52 29 = some (.putfield 31, 3) := by decide +kernel
theorem i_52_32 : pm_at q_52 32 = some (.return_, 1) := by decide +kernel
theorem i_53_0 : pm_at q_53 0 = some (.aload_n 0, 1) := by decide +kernel
theorem i_53_1 : pm_at q_53 1 = some (.getfield 19, 3) := by decide +kernel
theorem i_53_4 : pm_at q_53 4 = some (.iconst 1, 1) := by decide +kernel
theorem i_53_5 : pm_at q_53 5 = some (.if_icmp .ne 19, 3) := by decide +kernel
theorem i_53_8 : pm_at q_53 8 = some (.aload_n 0, 1) := by decide +kernel
theorem i_53_9 : pm_at q_53 9 = some (.getfield 25, 3) := by decide +kernel
theorem i_53_12 : pm_at q_53 12 = some (.aload_n 0, 1) := by decide +kernel
theorem i_53_13 : pm_at q_53 13 = some (.getfield 22, 3) := by decide +kernel
theorem i_53_16 : pm_at q_53 16 = some (.isub, 1) := by decide +kernel
theorem i_53_17 : pm_at q_53 17 = some (.aload_n 1, 1) := by decide +kernel
theorem i_53_18 : pm_at q_53 18 = some (.invokevirtual 101, 3) := by decide +kernel
theorem i_53_21 : pm_at q_53 21 = some (.if_icmp .eq 5, 3) := by decide +kernel
theorem i_53_24 : pm_at q_53 24 = some (.iconst 0, 1) := by decide +kernel
theorem i_53_25 : pm_at q_53 25 = some (.ireturn, 1) := by decide +kernel
theorem i_53_26 : pm_at q_53 26 = some (.iconst 0, 1) := by decide +kernel
theorem i_53_27 : pm_at q_53 27 = some (.istore_n 2, 1) := by decide +kernel
theorem i_53_28 : pm_at q_53 28 = some (.iload_n 2, 1) := by decide +kernel
theorem i_53_29 : pm_at q_53 29 = some (.aload_n 1, 1) := by decide +kernel
theorem i_53_30 : pm_at q_53 30 = some (.invokevirtual 101, 3) := by decide +kernel
theorem i_53_33 : pm_at q_53 33 = some (.if_icmp .ge 30, 3) := by decide +kernel
theorem i_53_36 : pm_at q_53 36 = some (.aload_n 0, 1) := by decide +kernel
theorem i_53_37 : pm_at q_53 37 = some (.getfield 9, 3) := by decide +kernel
theorem i_53_40 : pm_at q_53 40 = some (.aload_n 0, 1) := by decide +kernel
theorem i_53_41 : pm_at q_53 41 = some (.getfield 22, 3) := by decide +kernel
theorem i_53_44 : pm_at q_53 44 = some (.iload_n 2, 1) := by decide +kernel
theorem i_53_45 : pm_at q_53 45 = some (.iadd, 1) := by decide +kernel
theorem i_53_46 : pm_at q_53 46 = some (.baload, 1) := by decide +kernel
theorem i_53_47 : pm_at q_53 47 = some (.aload_n 1, 1) := by decide +kernel
theorem i_53_48 : pm_at q_53 48 = some (.iload_n 2, 1) := by decide +kernel
theorem i_53_49 : pm_at q_53 49 = some (.invokevirtual 106, 3) := by decide +kernel
theorem i_53_52 : pm_at q_53 52 = some (.if_icmp .eq 5, 3) := by decide +kernel
theorem i_53_55 : pm_at q_53 55 = some (.iconst 0, 1) := by decide +kernel
theorem i_53_56 : pm_at q_53 56 = some (.ireturn, 1) := by decide +kernel
theorem i_53_57 : pm_at q_53 57 = some (.iinc 2 1, 3) := by decide +kernel
theorem i_53_60 : pm_at q_53 60 = some (.goto (-32), 3) := by decide +kernel
theorem i_53_63 : pm_at q_53 63 = some (.iconst 1, 1) := by decide +kernel
theorem i_53_64 : pm_at q_53 64 = some (.ireturn, 1) := by decide +kernel
theorem i_54_0 : pm_at q_54 0 = some (.aload_n 0, 1) := by decide +kernel
theorem i_54_1 : pm_at q_54 1 = some (.aload_n 0, 1) := by decide +kernel
theorem i_54_2 : pm_at q_54 2 = some (.getfield 25, 3) := by decide +kernel
theorem i_54_5 : pm_at q_54 5 = some (.putfield 22, 3) := by decide +kernel
theorem i_54_8 : pm_at q_54 8 = some (.aload_n 0, 1) := by decide +kernel
theorem i_54_9 : pm_at q_54 9 = some (.getfield 22, 3) := by decide +kernel
theorem i_54_12 : pm_at q_54 12 = some (.aload_n 0, 1) := by decide +kernel
theorem i_54_13 : pm_at q_54 13 = some (.getfield 15, 3) := by decide +kernel
theorem i_54_16 : pm_at q_54 16 = some (.if_icmp .ge 30, 3) := by decide +kernel
theorem i_54_19 : pm_at q_54 19 = some (.aload_n 0, 1) := by decide +kernel
theorem i_54_20 : pm_at q_54 20 = some (.getfield 9, 3) := by decide +kernel
theorem i_54_23 : pm_at q_54 23 = some (.aload_n 0, 1) := by decide +kernel
theorem i_54_24 : pm_at q_54 24 = some (.getfield 22, 3) := by decide +kernel
theorem i_54_27 : pm_at q_54 27 = some (.baload, 1) := by decide +kernel
theorem i_54_28 : pm_at q_54 28 = some (.bipush 32, 2) := by decide +kernel
theorem i_54_30 : pm_at q_54 30 = some (.if_icmp .ne 16, 3) := by decide +kernel
theorem i_54_33 : pm_at q_54 33 = some (.aload_n 0, 1) := by decide +kernel
theorem i_54_34 : pm_at q_54 34 = some (.dup, 1) := by decide +kernel
theorem i_54_35 : pm_at q_54 35 = some (.getfield 22, 3) := by decide +kernel
theorem i_54_38 : pm_at q_54 38 = some (.iconst 1, 1) := by decide +kernel
theorem i_54_39 : pm_at q_54 39 = some (.iadd, 1) := by decide +kernel
theorem i_54_40 : pm_at q_54 40 = some (.putfield 22, 3) := by decide +kernel
theorem i_54_43 : pm_at q_54 43 = some (.goto (-35), 3) := by decide +kernel
theorem i_54_46 : pm_at q_54 46 = some (.aload_n 0, 1) := by decide +kernel
theorem i_54_47 : pm_at q_54 47 = some (.aload_n 0, 1) := by decide +kernel
theorem i_54_48 : pm_at q_54 48 = some (.getfield 22, 3) := by decide +kernel
theorem i_54_51 : pm_at q_54 51 = some (.putfield 25, 3) := by decide +kernel
theorem i_54_54 : pm_at q_54 54 = some (.aload_n 0, 1) := by decide +kernel
theorem i_54_55 : pm_at q_54 55 = some (.getfield 22, 3) := by decide +kernel
theorem i_54_58 : pm_at q_54 58 = some (.aload_n 0, 1) := by decide +kernel
theorem i_54_59 : pm_at q_54 59 = some (.getfield 15, 3) := by decide +kernel
theorem i_54_62 : pm_at q_54 62 = some (.if_icmp .lt 11, 3) := by decide +kernel
theorem i_54_65 : pm_at q_54 65 = some (.aload_n 0, 1) := by decide +kernel
theorem i_54_66 : pm_at q_54 66 = some (.iconst 0, 1) := by decide +kernel
theorem i_54_67 : pm_at q_54 67 = some (.putfield 19, 3) := by decide +kernel
theorem i_54_70 : pm_at q_54 70 = some (.goto 105, 3) := by decide +kernel
theorem i_54_73 : pm_at q_54 73 = some (.aload_n 0, 1) := by decide +kernel
theorem i_54_74 : pm_at q_54 74 = some (.aload_n 0, 1) := by decide +kernel
theorem i_54_75 : pm_at q_54 75 = some (.getfield 22, 3) := by decide +kernel
theorem i_54_78 : pm_at q_54 78 = some (.invokevirtual 110, 3) := by decide +kernel
theorem i_54_81 : pm_at q_54 81 = some (.ifCond .eq 43, 3) := by decide +kernel
theorem i_54_84 : pm_at q_54 84 = some (.aload_n 0, 1) := by decide +kernel
theorem i_54_85 : pm_at q_54 85 = some (.iconst 1, 1) := by decide +kernel
theorem i_54_86 : pm_at q_54 86 = some (.putfield 19, 3) := by decide +kernel
theorem i_54_89 : pm_at q_54 89 = some (.aload_n 0, 1) := by decide +kernel
theorem i_54_90 : pm_at q_54 90 = some (.getfield 25, 3) := by decide +kernel
theorem i_54_93 : pm_at q_54 93 = some (.aload_n 0, 1) := by decide +kernel
theorem i_54_94 : pm_at q_54 94 = some (.getfield 15, 3) := by decide +kernel
theorem i_54_97 : pm_at q_54 97 = some (.if_icmp .ge 78, 3) := by decide +kernel
theorem i_54_100 : pm_at q_54 100 = some (.aload_n 0, 1) := by decide +kernel
theorem i_54_101 : pm_at q_54 101 = some (.aload_n 0, 1) := by decide +kernel
theorem i_54_102 : pm_at q_54 102 = some (.getfield 25, 3) := by decide +kernel
theorem i_54_105 : pm_at q_54 105 = some (.invokevirtual 110, 3) := by decide +kernel
theorem i_54_108 : pm_at q_54 108 = some (.ifCond .eq 67, 3) := by decide +kernel
theorem i_54_111 : pm_at q_54 111 = some (.aload_n 0, 1) := by decide +kernel
theorem i_54_112 : pm_at q_54 112 = some (.dup, 1) := by decide +kernel
theorem i_54_113 : pm_at q_54 113 = some (.getfield 25, 3) := by decide +kernel
theorem i_54_116 : pm_at q_54 116 = some (.iconst 1, 1) := by decide +kernel
theorem i_54_117 : pm_at q_54 117 = some (.iadd, 1) := by decide +kernel
theorem i_54_118 : pm_at q_54 118 = some (.putfield 25, 3) := by decide +kernel
theorem i_54_121 : pm_at q_54 121 = some (.goto (-32), 3) := by decide +kernel
theorem i_54_124 : pm_at q_54 124 = some (.aload_n 0, 1) := by decide +kernel
theorem i_54_125 : pm_at q_54 125 = some (.aload_n 0, 1) := by decide +kernel
theorem i_54_126 : pm_at q_54 126 = some (.getfield 22, 3) := by decide +kernel
theorem i_54_129 : pm_at q_54 129 = some (.invokevirtual 114, 3) := by decide +kernel
theorem i_54_132 : pm_at q_54 132 = some (.ifCond .eq 10, 3) := by decide +kernel
theorem i_54_135 : pm_at q_54 135 = some (.aload_n 0, 1) := by decide +kernel
theorem i_54_136 : pm_at q_54 136 = some (.invokevirtual 117, 3) := by decide +kernel
theorem i_54_139 : pm_at q_54 139 = some (.goto 36, 3) := by decide +kernel
theorem i_54_142 : pm_at q_54 142 = some (.aload_n 0, 1) := by decide +kernel
theorem i_54_143 : pm_at q_54 143 = some (.aload_n 0, 1) := by decide +kernel
theorem i_54_144 : pm_at q_54 144 = some (.getfield 9, 3) := by decide +kernel
theorem i_54_147 : pm_at q_54 147 = some (.aload_n 0, 1) := by decide +kernel
theorem i_54_148 : pm_at q_54 148 = some (.getfield 22, 3) := by decide +kernel
theorem i_54_151 : pm_at q_54 151 = some (.baload, 1) := by decide +kernel
theorem i_54_152 : pm_at q_54 152 = some (.bipush 59, 2) := by decide +kernel
theorem i_54_154 : pm_at q_54 154 = some (.if_icmp .ne 7, 3) := by decide +kernel
theorem i_54_157 : pm_at q_54 157 = some (.iconst 3, 1) := by decide +kernel
theorem i_54_158 : pm_at q_54 158 = some (.goto 4, 3) := by decide +kernel
theorem i_54_161 : pm_at q_54 161 = some (.iconst 4, 1) := by decide +kernel
theorem i_54_162 : pm_at q_54 162 = some (.putfield 19, 3) := by decide +kernel
theorem i_54_165 : pm_at q_54 165 = some (.aload_n 0, 1) := by decide +kernel
theorem i_54_166 : pm_at q_54 166 = some (.dup, 1) := by decide +kernel
theorem i_54_167 : pm_at q_54 167 = some (.getfield 25, 3) := by decide +kernel
theorem i_54_170 : pm_at q_54 170 = some (.iconst 1, 1) := by decide +kernel
theorem i_54_171 : pm_at q_54 171 = some (.iadd, 1) := by decide +kernel
theorem i_54_172 : pm_at q_54 172 = some (.putfield 25, 3) := by decide +kernel
theorem i_54_175 : pm_at q_54 175 = some (.return_, 1) := by decide +kernel
theorem i_55_0 : pm_at q_55 0 = some (.aload_n 0, 1) := by decide +kernel
theorem i_55_1 : pm_at q_55 1 = some (.iconst 0, 1) := by decide +kernel
theorem i_55_2 : pm_at q_55 2 = some (.putfield 28, 3) := by decide +kernel
theorem i_55_5 : pm_at q_55 5 = some (.aload_n 0, 1) := by decide +kernel
theorem i_55_6 : pm_at q_55 6 = some (.getfield 25, 3) := by decide +kernel
theorem i_55_9 : pm_at q_55 9 = some (.aload_n 0, 1) := by decide +kernel
theorem i_55_10 : pm_at q_55 10 = some (.getfield 15, 3) := by decide +kernel
theorem i_55_13 : pm_at q_55 13 = some (.if_icmp .ge 54, 3) := by decide +kernel
theorem i_55_16 : pm_at q_55 16 = some (.aload_n 0, 1) := by decide +kernel
theorem i_55_17 : pm_at q_55 17 = some (.aload_n 0, 1) := by decide +kernel
theorem i_55_18 : pm_at q_55 18 = some (.getfield 25, 3) := by decide +kernel
theorem i_55_21 : pm_at q_55 21 = some (.invokevirtual 114, 3) := by decide +kernel
theorem i_55_24 : pm_at q_55 24 = some (.ifCond .eq 43, 3) := by decide +kernel
theorem i_55_27 : pm_at q_55 27 = some (.aload_n 0, 1) := by decide +kernel
theorem i_55_28 : pm_at q_55 28 = some (.aload_n 0, 1) := by decide +kernel
theorem i_55_29 : pm_at q_55 29 = some (.getfield 28, 3) := by decide +kernel
theorem i_55_32 : pm_at q_55 32 = some (.bipush 10, 2) := by decide +kernel
theorem i_55_34 : pm_at q_55 34 = some (.irem, 1) := by decide +kernel
theorem i_55_35 : pm_at q_55 35 = some (.bipush 10, 2) := by decide +kernel
theorem i_55_37 : pm_at q_55 37 = some (.imul, 1) := by decide +kernel
theorem i_55_38 : pm_at q_55 38 = some (.aload_n 0, 1) := by decide +kernel
theorem i_55_39 : pm_at q_55 39 = some (.getfield 9, 3) := by decide +kernel
theorem i_55_42 : pm_at q_55 42 = some (.aload_n 0, 1) := by decide +kernel
theorem i_55_43 : pm_at q_55 43 = some (.getfield 25, 3) := by decide +kernel
theorem i_55_46 : pm_at q_55 46 = some (.baload, 1) := by decide +kernel
theorem i_55_47 : pm_at q_55 47 = some (.iadd, 1) := by decide +kernel
theorem i_55_48 : pm_at q_55 48 = some (.bipush 48, 2) := by decide +kernel
theorem i_55_50 : pm_at q_55 50 = some (.isub, 1) := by decide +kernel
theorem i_55_51 : pm_at q_55 51 = some (.putfield 28, 3) := by decide +kernel
theorem i_55_54 : pm_at q_55 54 = some (.aload_n 0, 1) := by decide +kernel
theorem i_55_55 : pm_at q_55 55 = some (.dup, 1) := by decide +kernel
theorem i_55_56 : pm_at q_55 56 = some (.getfield 25, 3) := by decide +kernel
theorem i_55_59 : pm_at q_55 59 = some (.iconst 1, 1) := by decide +kernel
theorem i_55_60 : pm_at q_55 60 = some (.iadd, 1) := by decide +kernel
theorem i_55_61 : pm_at q_55 61 = some (.putfield 25, 3) := by decide +kernel
theorem i_55_64 : pm_at q_55 64 = some (.goto (-59), 3) := by decide +kernel
theorem i_55_67 : pm_at q_55 67 = some (.aload_n 0, 1) := by decide +kernel
theorem i_55_68 : pm_at q_55 68 = some (.aload_n 0, 1) := by decide +kernel
theorem i_55_69 : pm_at q_55 69 = some (.getfield 25, 3) := by decide +kernel
theorem i_55_72 : pm_at q_55 72 = some (.aload_n 0, 1) := by decide +kernel
theorem i_55_73 : pm_at q_55 73 = some (.getfield 22, 3) := by decide +kernel
theorem i_55_76 : pm_at q_55 76 = some (.isub, 1) := by decide +kernel
theorem i_55_77 : pm_at q_55 77 = some (.iconst 2, 1) := by decide +kernel
theorem i_55_78 : pm_at q_55 78 = some (.if_icmp .gt 7, 3) := by decide +kernel
theorem i_55_81 : pm_at q_55 81 = some (.iconst 2, 1) := by decide +kernel
theorem i_55_82 : pm_at q_55 82 = some (.goto 4, 3) := by decide +kernel
theorem i_55_85 : pm_at q_55 85 = some (.iconst 4, 1) := by decide +kernel
theorem i_55_86 : pm_at q_55 86 = some (.putfield 19, 3) := by decide +kernel
theorem i_55_89 : pm_at q_55 89 = some (.return_, 1) := by decide +kernel
theorem i_56_0 : pm_at q_56 0 = some (.aload_n 0, 1) := by decide +kernel
theorem i_56_1 : pm_at q_56 1 = some (.getfield 9, 3) := by decide +kernel
theorem i_56_4 : pm_at q_56 4 = some (.iload_n 1, 1) := by decide +kernel
theorem i_56_5 : pm_at q_56 5 = some (.baload, 1) := by decide +kernel
theorem i_56_6 : pm_at q_56 6 = some (.bipush 97, 2) := by decide +kernel
theorem i_56_8 : pm_at q_56 8 = some (.if_icmp .lt 18, 3) := by decide +kernel
theorem i_56_11 : pm_at q_56 11 = some (.aload_n 0, 1) := by decide +kernel
theorem i_56_12 : pm_at q_56 12 = some (.getfield 9, 3) := by decide +kernel
theorem i_56_15 : pm_at q_56 15 = some (.iload_n 1, 1) := by decide +kernel
theorem i_56_16 : pm_at q_56 16 = some (.baload, 1) := by decide +kernel
theorem i_56_17 : pm_at q_56 17 = some (.bipush 122, 2) := by decide +kernel
theorem i_56_19 : pm_at q_56 19 = some (.if_icmp .gt 7, 3) := by decide +kernel
theorem i_56_22 : pm_at q_56 22 = some (.iconst 1, 1) := by decide +kernel
theorem i_56_23 : pm_at q_56 23 = some (.goto 4, 3) := by decide +kernel
theorem i_56_26 : pm_at q_56 26 = some (.iconst 0, 1) := by decide +kernel
theorem i_56_27 : pm_at q_56 27 = some (.ireturn, 1) := by decide +kernel
theorem i_57_0 : pm_at q_57 0 = some (.aload_n 0, 1) := by decide +kernel
theorem i_57_1 : pm_at q_57 1 = some (.getfield 9, 3) := by decide +kernel
theorem i_57_4 : pm_at q_57 4 = some (.iload_n 1, 1) := by decide +kernel
theorem i_57_5 : pm_at q_57 5 = some (.baload, 1) := by decide +kernel
theorem i_57_6 : pm_at q_57 6 = some (.bipush 48, 2) := by decide +kernel
theorem i_57_8 : pm_at q_57 8 = some (.if_icmp .lt 18, 3) := by decide +kernel
theorem i_57_11 : pm_at q_57 11 = some (.aload_n 0, 1) := by decide +kernel
theorem i_57_12 : pm_at q_57 12 = some (.getfield 9, 3) := by decide +kernel
theorem i_57_15 : pm_at q_57 15 = some (.iload_n 1, 1) := by decide +kernel
theorem i_57_16 : pm_at q_57 16 = some (.baload, 1) := by decide +kernel
theorem i_57_17 : pm_at q_57 17 = some (.bipush 57, 2) := by decide +kernel
theorem i_57_19 : pm_at q_57 19 = some (.if_icmp .gt 7, 3) := by decide +kernel
theorem i_57_22 : pm_at q_57 22 = some (.iconst 1, 1) := by decide +kernel
theorem i_57_23 : pm_at q_57 23 = some (.goto 4, 3) := by decide +kernel
theorem i_57_26 : pm_at q_57 26 = some (.iconst 0, 1) := by decide +kernel
theorem i_57_27 : pm_at q_57 27 = some (.ireturn, 1) := by decide +kernel
theorem i_58_0 : pm_at q_58 0 = some (.aload_n 0, 1) := by decide +kernel
theorem i_58_1 : pm_at q_58 1 = some (.invokespecial 3, 3) := by decide +kernel
theorem i_58_4 : pm_at q_58 4 = some (.return_, 1) := by decide +kernel
theorem i_59_0 : pm_at q_59 0 = some (.iload_n 1, 1) := by decide +kernel
theorem i_59_1 : pm_at q_59 1 = some (.iload_n 2, 1) := by decide +kernel
theorem i_59_2 : pm_at q_59 2 = some (.imul, 1) := by decide +kernel
theorem i_59_3 : pm_at q_59 3 = some (.bipush 12, 2) := by decide +kernel
theorem i_59_5 : pm_at q_59 5 = some (.idiv, 1) := by decide +kernel
theorem i_59_6 : pm_at q_59 6 = some (.ireturn, 1) := by decide +kernel
theorem i_60_0 : pm_at q_60 0 = some (.iload_n 2, 1) := by decide +kernel
theorem i_60_1 : pm_at q_60 1 = some (.iload_n 1, 1) := by decide +kernel
theorem i_60_2 : pm_at q_60 2 = some (.iadd, 1) := by decide +kernel
theorem i_60_3 : pm_at q_60 3 = some (.ireturn, 1) := by decide +kernel
theorem i_61_0 : pm_at q_61 0 = some (.sipush 150, 3) := by decide +kernel
theorem i_61_3 : pm_at q_61 3 = some (.ireturn, 1) := by decide +kernel
theorem i_62_0 : pm_at q_62 0 = some (.aload_n 0, 1) := by decide +kernel
theorem i_62_1 : pm_at q_62 1 = some (.invokespecial 3, 3) := by decide +kernel
theorem i_62_4 : pm_at q_62 4 = some (.aload_n 0, 1) := by decide +kernel
theorem i_62_5 : pm_at q_62 5 = some (.bipush 13, 2) := by decide +kernel
theorem i_62_7 : pm_at q_62 7 = some (.newarray .int, 2) := by decide +kernel
theorem i_62_9 : pm_at q_62 9 = some (.putfield 9, 3) := by decide +kernel
theorem i_62_12 : pm_at q_62 12 = some (.aload_n 0, 1) := by decide +kernel
theorem i_62_13 : pm_at q_62 13 = some (.iconst 0, 1) := by decide +kernel
theorem i_62_14 : pm_at q_62 14 = some (.putfield 15, 3) := by decide +kernel
theorem i_62_17 : pm_at q_62 17 = some (.return_, 1) := by decide +kernel
theorem i_63_0 : pm_at q_63 0 = some (.iconst 0, 1) := by decide +kernel
theorem i_63_1 : pm_at q_63 1 = some (.istore_n 3, 1) := by decide +kernel
theorem i_63_2 : pm_at q_63 2 = some (.iconst 0, 1) := by decide +kernel
theorem i_63_3 : pm_at q_63 3 = some (.iload_n 1, 1) := by decide +kernel
theorem i_63_4 : pm_at q_63 4 = some (.invokestatic 19, 3) := by decide +kernel
theorem i_63_7 : pm_at q_63 7 = some (.istore 4, 2) := by decide +kernel
theorem i_63_9 : pm_at q_63 9 = some (.iload 4, 2) := by decide +kernel
theorem i_63_11 : pm_at q_63 11 = some (.iload_n 2, 1) := by decide +kernel
theorem i_63_12 : pm_at q_63 12 = some (.if_icmp .gt 26, 3) := by decide +kernel
theorem i_63_15 : pm_at q_63 15 = some (.iload 4, 2) := by decide +kernel
theorem i_63_17 : pm_at q_63 17 = some (.bipush 12, 2) := by decide +kernel
theorem i_63_19 : pm_at q_63 19 = some (.if_icmp .gt 19, 3) := by decide +kernel
theorem i_63_22 : pm_at q_63 22 = some (.iload_n 3, 1) := by decide +kernel
theorem i_63_23 : pm_at q_63 23 = some (.aload_n 0, 1) := by decide +kernel
theorem i_63_24 : pm_at q_63 24 = some (.getfield 9, 3) := by decide +kernel
theorem i_63_27 : pm_at q_63 27 = some (.iload 4, 2) := by decide +kernel
theorem i_63_29 : pm_at q_63 29 = some (.iaload, 1) := by decide +kernel
theorem i_63_30 : pm_at q_63 30 = some (.ior, 1) := by decide +kernel
theorem i_63_31 : pm_at q_63 31 = some (.istore_n 3, 1) := by decide +kernel
theorem i_63_32 : pm_at q_63 32 = some (.iinc 4 1, 3) := by decide +kernel
theorem i_63_35 : pm_at q_63 35 = some (.goto (-26), 3) := by decide +kernel
theorem i_63_38 : pm_at q_63 38 = some (.aload_n 0, 1) := by decide +kernel
theorem i_63_39 : pm_at q_63 39 = some (.getfield 15, 3) := by decide +kernel
theorem i_63_42 : pm_at q_63 42 = some (.iload_n 3, 1) := by decide +kernel
theorem i_63_43 : pm_at q_63 43 = some (.iconst (-1), 1) := by decide +kernel
theorem i_63_44 : pm_at q_63 44 = some (.ixor, 1) := by decide +kernel
theorem i_63_45 : pm_at q_63 45 = some (.iand, 1) := by decide +kernel
theorem i_63_46 : pm_at q_63 46 = some (.ifCond .ne 7, 3) := by decide +kernel
theorem i_63_49 : pm_at q_63 49 = some (.iconst 1, 1) := by decide +kernel
theorem i_63_50 : pm_at q_63 50 = some (.goto 4, 3) := by decide +kernel
theorem i_63_53 : pm_at q_63 53 = some (.iconst 0, 1) := by decide +kernel
theorem i_63_54 : pm_at q_63 54 = some (.ireturn, 1) := by decide +kernel
theorem i_64_0 : pm_at q_64 0 = some (.sipush 1000, 3) := by decide +kernel
theorem i_64_3 : pm_at q_64 3 = some (.istore 4, 2) := by decide +kernel
theorem i_64_5 : pm_at q_64 5 = some (.iload_n 2, 1) := by decide +kernel
theorem i_64_6 : pm_at q_64 6 = some (.istore 5, 2) := by decide +kernel
theorem i_64_8 : pm_at q_64 8 = some (.iload 5, 2) := by decide +kernel
theorem i_64_10 : pm_at q_64 10 = some (.ifCond .lt 88, 3) := by decide +kernel
theorem i_64_13 : pm_at q_64 13 = some (.iload_n 3, 1) := by decide +kernel
theorem i_64_14 : pm_at q_64 14 = some (.istore 6, 2) := by decide +kernel
theorem i_64_16 : pm_at q_64 16 = some (.iload 6, 2) := by decide +kernel
theorem i_64_18 : pm_at q_64 18 = some (.bipush 12, 2) := by decide +kernel
theorem i_64_20 : pm_at q_64 20 = some (.if_icmp .gt 72, 3) := by decide +kernel
theorem i_64_23 : pm_at q_64 23 = some (.aload_n 0, 1) := by decide +kernel
theorem i_64_24 : pm_at q_64 24 = some (.iload 5, 2) := by decide +kernel
theorem i_64_26 : pm_at q_64 26 = some (.iload 6, 2) := by decide +kernel
theorem i_64_28 : pm_at q_64 28 = some (.invokevirtual 25, 3) := by decide +kernel
theorem i_64_31 : pm_at q_64 31 = some (.ifCond .eq 55, 3) := by decide +kernel
theorem i_64_34 : pm_at q_64 34 = some (.iload 5, 2) := by decide +kernel
theorem i_64_36 : pm_at q_64 36 = some (.iload_n 2, 1) := by decide +kernel
theorem i_64_37 : pm_at q_64 37 = some (.if_icmp .ge 10, 3) := by decide +kernel
theorem i_64_40 : pm_at q_64 40 = some (.iload_n 1, 1) := by decide +kernel
theorem i_64_41 : pm_at q_64 41 = some (.iload 5, 2) := by decide +kernel
theorem i_64_43 : pm_at q_64 43 = some (.isub, 1) := by decide +kernel
theorem i_64_44 : pm_at q_64 44 = some (.goto 4, 3) := by decide +kernel
theorem i_64_47 : pm_at q_64 47 = some (.iconst 0, 1) := by decide +kernel
theorem i_64_48 : pm_at q_64 48 = some (.istore 7, 2) := by decide +kernel
theorem i_64_50 : pm_at q_64 50 = some (.iload 6, 2) := by decide +kernel
theorem i_64_52 : pm_at q_64 52 = some (.iload_n 3, 1) := by decide +kernel
theorem i_64_53 : pm_at q_64 53 = some (.if_icmp .le 10, 3) := by decide +kernel
theorem i_64_56 : pm_at q_64 56 = some (.iload 6, 2) := by decide +kernel
theorem i_64_58 : pm_at q_64 58 = some (.iload_n 1, 1) := by decide +kernel
theorem i_64_59 : pm_at q_64 59 = some (.isub, 1) := by decide +kernel
theorem i_64_60 : pm_at q_64 60 = some (.goto 4, 3) := by decide +kernel
theorem i_64_63 : pm_at q_64 63 = some (.iconst 0, 1) := by decide +kernel
theorem i_64_64 : pm_at q_64 64 = some (.istore 8, 2) := by decide +kernel
theorem i_64_66 : pm_at q_64 66 = some (.iload 4, 2) := by decide +kernel
theorem i_64_68 : pm_at q_64 68 = some (.iload 7, 2) := by decide +kernel
theorem i_64_70 : pm_at q_64 70 = some (.iload 8, 2) := by decide +kernel
theorem i_64_72 : pm_at q_64 72 = some (.iadd, 1) := by decide +kernel
theorem i_64_73 : pm_at q_64 73 = some (.iload 7, 2) := by decide +kernel
theorem i_64_75 : pm_at q_64 75 = some (.iload 8, 2) := by decide +kernel
theorem i_64_77 : pm_at q_64 77 = some (.invokestatic 29, 3) := by decide +kernel
theorem i_64_80 : pm_at q_64 80 = some (.iadd, 1) := by decide +kernel
theorem i_64_81 : pm_at q_64 81 = some (.invokestatic 29, 3) := by decide +kernel
theorem i_64_84 : pm_at q_64 84 = some (.istore 4, 2) := by decide +kernel
theorem i_64_86 : pm_at q_64 86 = some (.iinc 6 1, 3) := by decide +kernel
theorem i_64_89 : pm_at q_64 89 = some (.goto (-73), 3) := by decide +kernel
theorem i_64_92 : pm_at q_64 92 = some (.iinc 5 (-1), 3) := by decide +kernel
theorem i_64_95 : pm_at q_64 95 = some (.goto (-87), 3) := by decide +kernel
theorem i_64_98 : pm_at q_64 98 = some (.iload 4, 2) := by decide +kernel
theorem i_64_100 : pm_at q_64 100 = some (.ireturn, 1) := by decide +kernel
theorem i_65_0 : pm_at q_65 0 = some (.iload_n 1, 1) := by decide +kernel
theorem i_65_1 : pm_at q_65 1 = some (.istore_n 3, 1) := by decide +kernel
theorem i_65_2 : pm_at q_65 2 = some (.iload_n 1, 1) := by decide +kernel
theorem i_65_3 : pm_at q_65 3 = some (.istore 4, 2) := by decide +kernel
theorem i_65_5 : pm_at q_65 5 = some (.iload_n 1, 1) := by decide +kernel
theorem i_65_6 : pm_at q_65 6 = some (.istore 5, 2) := by decide +kernel
theorem i_65_8 : pm_at q_65 8 = some (.aload_n 0, 1) := by decide +kernel
theorem i_65_9 : pm_at q_65 9 = some (.iload_n 3, 1) := by decide +kernel
theorem i_65_10 : pm_at q_65 10 = some (.iload 4, 2) := by decide +kernel
theorem i_65_12 : pm_at q_65 12 = some (.iload 5, 2) := by decide +kernel
theorem i_65_14 : pm_at q_65 14 = some (.invokevirtual 32, 3) := by decide +kernel
theorem i_65_17 : pm_at q_65 17 = some (.istore 6, 2) := by decide +kernel
theorem i_65_19 : pm_at q_65 19 = some (.iconst 0, 1) := by decide +kernel
theorem i_65_20 : pm_at q_65 20 = some (.istore 7, 2) := by decide +kernel
theorem i_65_22 : pm_at q_65 22 = some (.iload 7, 2) := by decide +kernel
theorem i_65_24 : pm_at q_65 24 = some (.iload_n 2, 1) := by decide +kernel
theorem i_65_25 : pm_at q_65 25 = some (.if_icmp .ge 81, 3) := by decide +kernel
theorem i_65_28 : pm_at q_65 28 = some (.iload 6, 2) := by decide +kernel
theorem i_65_30 : pm_at q_65 30 = some (.ifCond .le 76, 3) := by decide +kernel
theorem i_65_33 : pm_at q_65 33 = some (.iinc 6 (-1), 3) := by decide +kernel
theorem i_65_36 : pm_at q_65 36 = some (.iload_n 3, 1) := by decide +kernel
theorem i_65_37 : pm_at q_65 37 = some (.ifCond .le 29, 3) := by decide +kernel
theorem i_65_40 : pm_at q_65 40 = some (.aload_n 0, 1) := by decide +kernel
theorem i_65_41 : pm_at q_65 41 = some (.iload_n 3, 1) := by decide +kernel
theorem i_65_42 : pm_at q_65 42 = some (.iconst 1, 1) := by decide +kernel
theorem i_65_43 : pm_at q_65 43 = some (.isub, 1) := by decide +kernel
theorem i_65_44 : pm_at q_65 44 = some (.iload 4, 2) := by decide +kernel
theorem i_65_46 : pm_at q_65 46 = some (.iload_n 3, 1) := by decide +kernel
theorem i_65_47 : pm_at q_65 47 = some (.iconst 1, 1) := by decide +kernel
theorem i_65_48 : pm_at q_65 48 = some (.isub, 1) := by decide +kernel
theorem i_65_49 : pm_at q_65 49 = some (.invokestatic 29, 3) := by decide +kernel
theorem i_65_52 : pm_at q_65 52 = some (.iload 5, 2) := by decide +kernel
theorem i_65_54 : pm_at q_65 54 = some (.invokevirtual 32, 3) := by decide +kernel
theorem i_65_57 : pm_at q_65 57 = some (.iload 6, 2) := by decide +kernel
theorem i_65_59 : pm_at q_65 59 = some (.if_icmp .ne 7, 3) := by decide +kernel
theorem i_65_62 : pm_at q_65 62 = some (.iconst 1, 1) := by decide +kernel
theorem i_65_63 : pm_at q_65 63 = some (.goto 4, 3) := by decide +kernel
theorem i_65_66 : pm_at q_65 66 = some (.iconst 0, 1) := by decide +kernel
theorem i_65_67 : pm_at q_65 67 = some (.istore 8, 2) := by decide +kernel
theorem i_65_69 : pm_at q_65 69 = some (.iload 8, 2) := by decide +kernel
theorem i_65_71 : pm_at q_65 71 = some (.ifCond .eq 9, 3) := by decide +kernel
theorem i_65_74 : pm_at q_65 74 = some (.iload_n 3, 1) := by decide +kernel
theorem i_65_75 : pm_at q_65 75 = some (.iconst 1, 1) := by decide +kernel
theorem i_65_76 : pm_at q_65 76 = some (.isub, 1) := by decide +kernel
theorem i_65_77 : pm_at q_65 77 = some (.goto 6, 3) := by decide +kernel
theorem i_65_80 : pm_at q_65 80 = some (.iload_n 3, 1) := by decide +kernel
theorem i_65_81 : pm_at q_65 81 = some (.iconst 1, 1) := by decide +kernel
theorem i_65_82 : pm_at q_65 82 = some (.iadd, 1) := by decide +kernel
theorem i_65_83 : pm_at q_65 83 = some (.istore_n 3, 1) := by decide +kernel
theorem i_65_84 : pm_at q_65 84 = some (.iload 4, 2) := by decide +kernel
theorem i_65_86 : pm_at q_65 86 = some (.iload_n 3, 1) := by decide +kernel
theorem i_65_87 : pm_at q_65 87 = some (.invokestatic 29, 3) := by decide +kernel
theorem i_65_90 : pm_at q_65 90 = some (.istore 4, 2) := by decide +kernel
theorem i_65_92 : pm_at q_65 92 = some (.iload 5, 2) := by decide +kernel
theorem i_65_94 : pm_at q_65 94 = some (.iload_n 3, 1) := by decide +kernel
theorem i_65_95 : pm_at q_65 95 = some (.invokestatic 19, 3) := by decide +kernel
theorem i_65_98 : pm_at q_65 98 = some (.istore 5, 2) := by decide +kernel
theorem i_65_100 : pm_at q_65 100 = some (.iinc 7 1, 3) := by decide +kernel
theorem i_65_103 : pm_at q_65 103 = some (.goto (-81), 3) := by decide +kernel
theorem i_65_106 : pm_at q_65 106 = some (.iload_n 3, 1) := by decide +kernel
theorem i_65_107 : pm_at q_65 107 = some (.ireturn, 1) := by decide +kernel
theorem i_66_0 : pm_at q_66 0 = some (.aload_n 0, 1) := by decide +kernel
theorem i_66_1 : pm_at q_66 1 = some (.invokespecial 1, 3) := by decide +kernel
theorem i_66_4 : pm_at q_66 4 = some (.return_, 1) := by decide +kernel
theorem i_67_0 : pm_at q_67 0 = some (.aload_n 0, 1) := by decide +kernel
theorem i_67_1 : pm_at q_67 1 = some (.iload_n 1, 1) := by decide +kernel
theorem i_67_2 : pm_at q_67 2 = some (.iload_n 2, 1) := by decide +kernel
theorem i_67_3 : pm_at q_67 3 = some (.iload_n 3, 1) := by decide +kernel
theorem i_67_4 : pm_at q_67 4 = some (.invokespecial 7, 3) := by decide +kernel
theorem i_67_7 : pm_at q_67 7 = some (.istore 4, 2) := by decide +kernel
theorem i_67_9 : pm_at q_67 9 = some (.iload 4, 2) := by decide +kernel
theorem i_67_11 : pm_at q_67 11 = some (.iconst 1, 1) := by decide +kernel
theorem i_67_12 : pm_at q_67 12 = some (.if_icmp .lt 10, 3) := by decide +kernel
theorem i_67_15 : pm_at q_67 15 = some (.iload 4, 2) := by decide +kernel
theorem i_67_17 : pm_at q_67 17 = some (.iload_n 3, 1) := by decide +kernel
theorem i_67_18 : pm_at q_67 18 = some (.iadd, 1) := by decide +kernel
theorem i_67_19 : pm_at q_67 19 = some (.goto 5, 3) := by decide +kernel
theorem i_67_22 : pm_at q_67 22 = some (.iload 4, 2) := by decide +kernel
theorem i_67_24 : pm_at q_67 24 = some (.ireturn, 1) := by decide +kernel
theorem i_68_0 : pm_at q_68 0 = some (.aload_n 0, 1) := by decide +kernel
theorem i_68_1 : pm_at q_68 1 = some (.iload_n 1, 1) := by decide +kernel
theorem i_68_2 : pm_at q_68 2 = some (.iload_n 2, 1) := by decide +kernel
theorem i_68_3 : pm_at q_68 3 = some (.invokespecial 11, 3) := by decide +kernel
theorem i_68_6 : pm_at q_68 6 = some (.iconst 3, 1) := by decide +kernel
theorem i_68_7 : pm_at q_68 7 = some (.iadd, 1) := by decide +kernel
theorem i_68_8 : pm_at q_68 8 = some (.ireturn, 1) := by decide +kernel
theorem i_69_0 : pm_at q_69 0 = some (.aload_n 0, 1) := by decide +kernel
theorem i_69_1 : pm_at q_69 1 = some (.invokespecial 15, 3) := by decide +kernel
theorem i_69_4 : pm_at q_69 4 = some (.iconst 2, 1) := by decide +kernel
theorem i_69_5 : pm_at q_69 5 = some (.idiv, 1) := by decide +kernel
theorem i_69_6 : pm_at q_69 6 = some (.ireturn, 1) := by decide +kernel
theorem i_70_0 : pm_at q_70 0 = some (.aload_n 0, 1) := by decide +kernel
theorem i_70_1 : pm_at q_70 1 = some (.invokespecial 1, 3) := by decide +kernel
theorem i_70_4 : pm_at q_70 4 = some (.aload_n 0, 1) := by decide +kernel
theorem i_70_5 : pm_at q_70 5 = some (.iconst 2, 1) := by decide +kernel
theorem i_70_6 : pm_at q_70 6 = some (.anewarray 9, 3) := by decide +kernel
theorem i_70_9 : pm_at q_70 9 = some (.putfield 11, 3) := by decide +kernel
theorem i_70_12 : pm_at q_70 12 = some (.aload_n 0, 1) := by decide +kernel
theorem i_70_13 : pm_at q_70 13 = some (.iconst 2, 1) := by decide +kernel
theorem i_70_14 : pm_at q_70 14 = some (.newarray .boolean, 2) := by decide +kernel
theorem i_70_16 : pm_at q_70 16 = some (.putfield 15, 3) := by decide +kernel
theorem i_70_19 : pm_at q_70 19 = some (.aload_n 0, 1) := by decide +kernel
theorem i_70_20 : pm_at q_70 20 = some (.new 19, 3) := by decide +kernel
theorem i_70_23 : pm_at q_70 23 = some (.dup, 1) := by decide +kernel
theorem i_70_24 : pm_at q_70 24 = some (.invokespecial 21, 3) := by decide +kernel
theorem i_70_27 : pm_at q_70 27 = some (.putfield 22, 3) := by decide +kernel
theorem i_70_30 : pm_at q_70 30 = some (.aload_n 0, 1) := by decide +kernel
theorem i_70_31 : pm_at q_70 31 = some (.new 26, 3) := by decide +kernel
theorem i_70_34 : pm_at q_70 34 = some (.dup, 1) := by decide +kernel
theorem i_70_35 : pm_at q_70 35 = some (.invokespecial 28, 3) := by decide +kernel
theorem i_70_38 : pm_at q_70 38 = some (.putfield 29, 3) := by decide +kernel
theorem i_70_41 : pm_at q_70 41 = some (.aload_n 0, 1) := by decide +kernel
theorem i_70_42 : pm_at q_70 42 = some (.bipush 13, 2) := by decide +kernel
theorem i_70_44 : pm_at q_70 44 = some (.newarray .int, 2) := by decide +kernel
theorem i_70_46 : pm_at q_70 46 = some (.putfield 33, 3) := by decide +kernel
theorem i_70_49 : pm_at q_70 49 = some (.aload_n 0, 1) := by decide +kernel
theorem i_70_50 : pm_at q_70 50 = some (.bipush 13, 2) := by decide +kernel
theorem i_70_52 : pm_at q_70 52 = some (.newarray .int, 2) := by decide +kernel
theorem i_70_54 : pm_at q_70 54 = some (.putfield 37, 3) := by decide +kernel
theorem i_70_57 : pm_at q_70 57 = some (.aload_n 0, 1) := by decide +kernel
theorem i_70_58 : pm_at q_70 58 = some (.lconst 0, 1) := by decide +kernel
theorem i_70_59 : pm_at q_70 59 = some (.putfield 40, 3) := by decide +kernel
theorem i_70_62 : pm_at q_70 62 = some (.aload_n 0, 1) := by decide +kernel
theorem i_70_63 : pm_at q_70 63 = some (.lconst 1, 1) := by decide +kernel
theorem i_70_64 : pm_at q_70 64 = some (.putfield 44, 3) := by decide +kernel
theorem i_70_67 : pm_at q_70 67 = some (.aload_n 0, 1) := by decide +kernel
theorem i_70_68 : pm_at q_70 68 = some (.iconst 0, 1) := by decide +kernel
theorem i_70_69 : pm_at q_70 69 = some (.putfield 47, 3) := by decide +kernel
theorem i_70_72 : pm_at q_70 72 = some (.aload_n 0, 1) := by decide +kernel
theorem i_70_73 : pm_at q_70 73 = some (.iconst 0, 1) := by decide +kernel
theorem i_70_74 : pm_at q_70 74 = some (.putfield 51, 3) := by decide +kernel
theorem i_70_77 : pm_at q_70 77 = some (.aload_n 0, 1) := by decide +kernel
theorem i_70_78 : pm_at q_70 78 = some (.iconst 0, 1) := by decide +kernel
theorem i_70_79 : pm_at q_70 79 = some (.putfield 54, 3) := by decide +kernel
theorem i_70_82 : pm_at q_70 82 = some (.bipush 6, 2) := by decide +kernel
theorem i_70_84 : pm_at q_70 84 = some (.anewarray 57, 3) := by decide +kernel
theorem i_70_87 : pm_at q_70 87 = some (.dup, 1) := by decide +kernel
theorem i_70_88 : pm_at q_70 88 = some (.iconst 0, 1) := by decide +kernel
theorem i_70_89 : pm_at q_70 89 = some (.new 57, 3) := by decide +kernel
theorem i_70_92 : pm_at q_70 92 = some (.dup, 1) := by decide +kernel
theorem i_70_93 : pm_at q_70 93 = some (.invokespecial 59, 3) := by decide +kernel
theorem i_70_96 : pm_at q_70 96 = some (.aastore, 1) := by decide +kernel
theorem i_70_97 : pm_at q_70 97 = some (.dup, 1) := by decide +kernel
theorem i_70_98 : pm_at q_70 98 = some (.iconst 1, 1) := by decide +kernel
theorem i_70_99 : pm_at q_70 99 = some (.new 60, 3) := by decide +kernel
theorem i_70_102 : pm_at q_70 102 = some (.dup, 1) := by decide +kernel
theorem i_70_103 : pm_at q_70 103 = some (.invokespecial 62, 3) := by decide +kernel
theorem i_70_106 : pm_at q_70 106 = some (.aastore, 1) := by decide +kernel
theorem i_70_107 : pm_at q_70 107 = some (.dup, 1) := by decide +kernel
theorem i_70_108 : pm_at q_70 108 = some (.iconst 2, 1) := by decide +kernel
theorem i_70_109 : pm_at q_70 109 = some (.new 63, 3) := by decide +kernel
theorem i_70_112 : pm_at q_70 112 = some (.dup, 1) := by decide +kernel
theorem i_70_113 : pm_at q_70 113 = some (.invokespecial 65, 3) := by decide +kernel
theorem i_70_116 : pm_at q_70 116 = some (.aastore, 1) := by decide +kernel
theorem i_70_117 : pm_at q_70 117 = some (.dup, 1) := by decide +kernel
theorem i_70_118 : pm_at q_70 118 = some (.iconst 3, 1) := by decide +kernel
theorem i_70_119 : pm_at q_70 119 = some (.new 66, 3) := by decide +kernel
theorem i_70_122 : pm_at q_70 122 = some (.dup, 1) := by decide +kernel
theorem i_70_123 : pm_at q_70 123 = some (.invokespecial 68, 3) := by decide +kernel
theorem i_70_126 : pm_at q_70 126 = some (.aastore, 1) := by decide +kernel
theorem i_70_127 : pm_at q_70 127 = some (.dup, 1) := by decide +kernel
theorem i_70_128 : pm_at q_70 128 = some (.iconst 4, 1) := by decide +kernel
theorem i_70_129 : pm_at q_70 129 = some (.new 69, 3) := by decide +kernel
theorem i_70_132 : pm_at q_70 132 = some (.dup, 1) := by decide +kernel
theorem i_70_133 : pm_at q_70 133 = some (.invokespecial 71, 3) := by decide +kernel
theorem i_70_136 : pm_at q_70 136 = some (.aastore, 1) := by decide +kernel
theorem i_70_137 : pm_at q_70 137 = some (.dup, 1) := by decide +kernel
theorem i_70_138 : pm_at q_70 138 = some (.iconst 5, 1) := by decide +kernel
theorem i_70_139 : pm_at q_70 139 = some (.new 72, 3) := by decide +kernel
theorem i_70_142 : pm_at q_70 142 = some (.dup, 1) := by decide +kernel
theorem i_70_143 : pm_at q_70 143 = some (.invokespecial 74, 3) := by decide +kernel
theorem i_70_146 : pm_at q_70 146 = some (.aastore, 1) := by decide +kernel
theorem i_70_147 : pm_at q_70 147 = some (.astore_n 1, 1) := by decide +kernel
theorem i_70_148 : pm_at q_70 148 = some (.aload_n 0, 1) := by decide +kernel
theorem i_70_149 : pm_at q_70 149 = some (.new 9, 3) := by decide +kernel
theorem i_70_152 : pm_at q_70 152 = some (.dup, 1) := by decide +kernel
theorem i_70_153 : pm_at q_70 153 = some (.aload_n 1, 1) := by decide +kernel
theorem i_70_154 : pm_at q_70 154 = some (.invokespecial 75, 3) := by decide +kernel
theorem i_70_157 : pm_at q_70 157 = some (.putfield 78, 3) := by decide +kernel
theorem i_70_160 : pm_at q_70 160 = some (.iconst 0, 1) := by decide +kernel
theorem i_70_161 : pm_at q_70 161 = some (.istore_n 2, 1) := by decide +kernel
theorem i_70_162 : pm_at q_70 162 = some (.iload_n 2, 1) := by decide +kernel
theorem i_70_163 : pm_at q_70 163 = some (.iconst 2, 1) := by decide +kernel
theorem i_70_164 : pm_at q_70 164 = some (.if_icmp .ge 23, 3) := by decide +kernel
theorem i_70_167 : pm_at q_70 167 = some (.aload_n 0, 1) := by decide +kernel
theorem i_70_168 : pm_at q_70 168 = some (.getfield 11, 3) := by decide +kernel
theorem i_70_171 : pm_at q_70 171 = some (.iload_n 2, 1) := by decide +kernel
theorem i_70_172 : pm_at q_70 172 = some (.new 9, 3) := by decide +kernel
theorem i_70_175 : pm_at q_70 175 = some (.dup, 1) := by decide +kernel
theorem i_70_176 : pm_at q_70 176 = some (.aload_n 1, 1) := by decide +kernel
theorem i_70_177 : pm_at q_70 177 = some (.invokespecial 75, 3) := by decide +kernel
theorem i_70_180 : pm_at q_70 180 = some (.aastore, 1) := by decide +kernel
theorem i_70_181 : pm_at q_70 181 = some (.iinc 2 1, 3) := by decide +kernel
theorem i_70_184 : pm_at q_70 184 = some (.goto (-22), 3) := by decide +kernel
theorem i_70_187 : pm_at q_70 187 = some (.aload_n 0, 1) := by decide +kernel
theorem i_70_188 : pm_at q_70 188 = some (.new 82, 3) := by decide +kernel
theorem i_70_191 : pm_at q_70 191 = some (.dup, 1) := by decide +kernel
theorem i_70_192 : pm_at q_70 192 = some (.aload_n 1, 1) := by decide +kernel
theorem i_70_193 : pm_at q_70 193 = some (.invokespecial 84, 3) := by decide +kernel
theorem i_70_196 : pm_at q_70 196 = some (.putfield 85, 3) := by decide +kernel
theorem i_70_199 : pm_at q_70 199 = some (.return_, 1) := by decide +kernel
theorem i_71_0 : pm_at q_71 0 = some (.iload_n 1, 1) := by decide +kernel
theorem i_71_1 : pm_at q_71 1 = some (.bipush 6, 2) := by decide +kernel
theorem i_71_3 : pm_at q_71 3 = some (.bipush 40, 2) := by decide +kernel
theorem i_71_5 : pm_at q_71 5 = some (.invokestatic 89, 3) := by decide +kernel
theorem i_71_8 : pm_at q_71 8 = some (.ifCond .eq 8, 3) := by decide +kernel
theorem i_71_11 : pm_at q_71 11 = some (.aload_n 0, 1) := by decide +kernel
theorem i_71_12 : pm_at q_71 12 = some (.invokevirtual 93, 3) := by decide +kernel
theorem i_71_15 : pm_at q_71 15 = some (.ireturn, 1) := by decide +kernel
theorem i_71_16 : pm_at q_71 16 = some (.aload_n 0, 1) := by decide +kernel
theorem i_71_17 : pm_at q_71 17 = some (.getfield 78, 3) := by decide +kernel
theorem i_71_20 : pm_at q_71 20 = some (.getfield 97, 3) := by decide +kernel
theorem i_71_23 : pm_at q_71 23 = some (.getfield 100, 3) := by decide +kernel
theorem i_71_26 : pm_at q_71 26 = some (.istore_n 2, 1) := by decide +kernel
theorem i_71_27 : pm_at q_71 27 = some (.aload_n 0, 1) := by decide +kernel
theorem i_71_28 : pm_at q_71 28 = some (.getfield 78, 3) := by decide +kernel
theorem i_71_31 : pm_at q_71 31 = some (.iload_n 1, 1) := by decide +kernel
theorem i_71_32 : pm_at q_71 32 = some (.invokevirtual 103, 3) := by decide +kernel
theorem i_71_35 : pm_at q_71 35 = some (.iload_n 2, 1) := by decide +kernel
theorem i_71_36 : pm_at q_71 36 = some (.ireturn, 1) := by decide +kernel
theorem i_72_0 : pm_at q_72 0 = some (.iload_n 1, 1) := by decide +kernel
theorem i_72_1 : pm_at q_72 1 = some (.iconst 0, 1) := by decide +kernel
theorem i_72_2 : pm_at q_72 2 = some (.iconst 5, 1) := by decide +kernel
theorem i_72_3 : pm_at q_72 3 = some (.invokestatic 89, 3) := by decide +kernel
theorem i_72_6 : pm_at q_72 6 = some (.ifCond .ne 55, 3) := by decide +kernel
theorem i_72_9 : pm_at q_72 9 = some (.iload_n 2, 1) := by decide +kernel
theorem i_72_10 : pm_at q_72 10 = some (.iconst 1, 1) := by decide +kernel
theorem i_72_11 : pm_at q_72 11 = some (.bipush 9, 2) := by decide +kernel
theorem i_72_13 : pm_at q_72 13 = some (.invokestatic 89, 3) := by decide +kernel
theorem i_72_16 : pm_at q_72 16 = some (.ifCond .ne 45, 3) := by decide +kernel
theorem i_72_19 : pm_at q_72 19 = some (.iload_n 3, 1) := by decide +kernel
theorem i_72_20 : pm_at q_72 20 = some (.iconst 1, 1) := by decide +kernel
theorem i_72_21 : pm_at q_72 21 = some (.bipush 9, 2) := by decide +kernel
theorem i_72_23 : pm_at q_72 23 = some (.invokestatic 89, 3) := by decide +kernel
theorem i_72_26 : pm_at q_72 26 = some (.ifCond .ne 35, 3) := by decide +kernel
theorem i_72_29 : pm_at q_72 29 = some (.iload 4, 2) := by decide +kernel
theorem i_72_31 : pm_at q_72 31 = some (.iconst 0, 1) := by decide +kernel
theorem i_72_32 : pm_at q_72 32 = some (.bipush 9, 2) := by decide +kernel
theorem i_72_34 : pm_at q_72 34 = some (.invokestatic 89, 3) := by decide +kernel
theorem i_72_37 : pm_at q_72 37 = some (.ifCond .ne 24, 3) := by decide +kernel
theorem i_72_40 : pm_at q_72 40 = some (.iload 5, 2) := by decide +kernel
theorem i_72_42 : pm_at q_72 42 = some (.iconst (-1), 1) := by decide +kernel
theorem i_72_43 : pm_at q_72 43 = some (.aload_n 0, 1) := by decide +kernel
theorem i_72_44 : pm_at q_72 44 = some (.getfield 78, 3) := by decide +kernel
theorem i_72_47 : pm_at q_72 47 = some (.getfield 97, 3) := by decide +kernel
theorem i_72_50 : pm_at q_72 50 = some (.getfield 100, 3) := by decide +kernel
theorem i_72_53 : pm_at q_72 53 = some (.iconst 1, 1) := by decide +kernel
theorem i_72_54 : pm_at q_72 54 = some (.isub, 1) := by decide +kernel
theorem i_72_55 : pm_at q_72 55 = some (.invokestatic 89, 3) := by decide +kernel
theorem i_72_58 : pm_at q_72 58 = some (.ifCond .eq 8, 3) := by decide +kernel
theorem i_72_61 : pm_at q_72 61 = some (.aload_n 0, 1) := by decide +kernel
theorem i_72_62 : pm_at q_72 62 = some (.invokevirtual 93, 3) := by decide +kernel
theorem i_72_65 : pm_at q_72 65 = some (.ireturn, 1) := by decide +kernel
theorem i_72_66 : pm_at q_72 66 = some (.aload_n 0, 1) := by decide +kernel
theorem i_72_67 : pm_at q_72 67 = some (.getfield 78, 3) := by decide +kernel
theorem i_72_70 : pm_at q_72 70 = some (.getfield 97, 3) := by decide +kernel
theorem i_72_73 : pm_at q_72 73 = some (.invokevirtual 107, 3) := by decide +kernel
theorem i_72_76 : pm_at q_72 76 = some (.ifCond .eq 8, 3) := by decide +kernel
theorem i_72_79 : pm_at q_72 79 = some (.aload_n 0, 1) := by decide +kernel
theorem i_72_80 : pm_at q_72 80 = some (.invokevirtual 111, 3) := by decide +kernel
theorem i_72_83 : pm_at q_72 83 = some (.ireturn, 1) := by decide +kernel
theorem i_72_84 : pm_at q_72 84 = some (.aload_n 0, 1) := by decide +kernel
theorem i_72_85 : pm_at q_72 85 = some (.getfield 78, 3) := by decide +kernel
theorem i_72_88 : pm_at q_72 88 = some (.iconst 0, 1) := by decide +kernel
theorem i_72_89 : pm_at q_72 89 = some (.putfield 114, 3) := by decide +kernel
theorem i_72_92 : pm_at q_72 92 = some (.aload_n 0, 1) := by decide +kernel
theorem i_72_93 : pm_at q_72 93 = some (.getfield 78, 3) := by decide +kernel
theorem i_72_96 : pm_at q_72 96 = some (.getfield 97, 3) := by decide +kernel
theorem i_72_99 : pm_at q_72 99 = some (.iload_n 1, 1) := by decide +kernel
theorem i_72_100 : pm_at q_72 100 = some (.iload_n 2, 1) := by decide +kernel
theorem i_72_101 : pm_at q_72 101 = some (.iload_n 3, 1) := by decide +kernel
theorem i_72_102 : pm_at q_72 102 = some (.iload 4, 2) := by decide +kernel
theorem i_72_104 : pm_at q_72 104 = some (.iload 5, 2) := by decide +kernel
theorem i_72_106 : pm_at q_72 106 = some (.invokevirtual 117, 3) := by decide +kernel
theorem i_72_109 : pm_at q_72 109 = some (.ireturn, 1) := by decide +kernel
theorem i_73_0 : pm_at q_73 0 = some (.iload_n 1, 1) := by decide +kernel
theorem i_73_1 : pm_at q_73 1 = some (.iconst 0, 1) := by decide +kernel
theorem i_73_2 : pm_at q_73 2 = some (.bipush 127, 2) := by decide +kernel
theorem i_73_4 : pm_at q_73 4 = some (.invokestatic 89, 3) := by decide +kernel
theorem i_73_7 : pm_at q_73 7 = some (.ifCond .eq 8, 3) := by decide +kernel
theorem i_73_10 : pm_at q_73 10 = some (.aload_n 0, 1) := by decide +kernel
theorem i_73_11 : pm_at q_73 11 = some (.invokevirtual 93, 3) := by decide +kernel
theorem i_73_14 : pm_at q_73 14 = some (.ireturn, 1) := by decide +kernel
theorem i_73_15 : pm_at q_73 15 = some (.aload_n 0, 1) := by decide +kernel
theorem i_73_16 : pm_at q_73 16 = some (.getfield 22, 3) := by decide +kernel
theorem i_73_19 : pm_at q_73 19 = some (.getfield 121, 3) := by decide +kernel
theorem i_73_22 : pm_at q_73 22 = some (.sipush 150, 3) := by decide +kernel
theorem i_73_25 : pm_at q_73 25 = some (.if_icmp .lt 8, 3) := by decide +kernel
theorem i_73_28 : pm_at q_73 28 = some (.aload_n 0, 1) := by decide +kernel
theorem i_73_29 : pm_at q_73 29 = some (.invokevirtual 111, 3) := by decide +kernel
theorem i_73_32 : pm_at q_73 32 = some (.ireturn, 1) := by decide +kernel
theorem i_73_33 : pm_at q_73 33 = some (.aload_n 0, 1) := by decide +kernel
theorem i_73_34 : pm_at q_73 34 = some (.getfield 22, 3) := by decide +kernel
theorem i_73_37 : pm_at q_73 37 = some (.iload_n 1, 1) := by decide +kernel
theorem i_73_38 : pm_at q_73 38 = some (.invokevirtual 124, 3) := by decide +kernel
theorem i_73_41 : pm_at q_73 41 = some (.aload_n 0, 1) := by decide +kernel
theorem i_73_42 : pm_at q_73 42 = some (.getfield 22, 3) := by decide +kernel
theorem i_73_45 : pm_at q_73 45 = some (.getfield 121, 3) := by decide +kernel
theorem i_73_48 : pm_at q_73 48 = some (.ireturn, 1) := by decide +kernel
theorem i_74_0 : pm_at q_74 0 = some (.aload_n 0, 1) := by decide +kernel
theorem i_74_1 : pm_at q_74 1 = some (.getfield 22, 3) := by decide +kernel
theorem i_74_4 : pm_at q_74 4 = some (.getfield 121, 3) := by decide +kernel
theorem i_74_7 : pm_at q_74 7 = some (.istore_n 1, 1) := by decide +kernel
theorem i_74_8 : pm_at q_74 8 = some (.aload_n 0, 1) := by decide +kernel
theorem i_74_9 : pm_at q_74 9 = some (.getfield 22, 3) := by decide +kernel
theorem i_74_12 : pm_at q_74 12 = some (.iconst 0, 1) := by decide +kernel
theorem i_74_13 : pm_at q_74 13 = some (.putfield 121, 3) := by decide +kernel
theorem i_74_16 : pm_at q_74 16 = some (.iload_n 1, 1) := by decide +kernel
theorem i_74_17 : pm_at q_74 17 = some (.ireturn, 1) := by decide +kernel
theorem i_75_0 : pm_at q_75 0 = some (.aload_n 0, 1) := by decide +kernel
theorem i_75_1 : pm_at q_75 1 = some (.getfield 22, 3) := by decide +kernel
theorem i_75_4 : pm_at q_75 4 = some (.aload_n 0, 1) := by decide +kernel
theorem i_75_5 : pm_at q_75 5 = some (.getfield 85, 3) := by decide +kernel
theorem i_75_8 : pm_at q_75 8 = some (.invokevirtual 127, 3) := by decide +kernel
theorem i_75_11 : pm_at q_75 11 = some (.istore_n 1, 1) := by decide +kernel
theorem i_75_12 : pm_at q_75 12 = some (.iload_n 1, 1) := by decide +kernel
theorem i_75_13 : pm_at q_75 13 = some (.ifCond .lt 31, 3) := by decide +kernel
theorem i_75_16 : pm_at q_75 16 = some (.aload_n 0, 1) := by decide +kernel
theorem i_75_17 : pm_at q_75 17 = some (.getfield 78, 3) := by decide +kernel
theorem i_75_20 : pm_at q_75 20 = some (.aload_n 0, 1) := by decide +kernel
theorem i_75_21 : pm_at q_75 21 = some (.getfield 85, 3) := by decide +kernel
theorem i_75_24 : pm_at q_75 24 = some (.getfield 131, 3) := by decide +kernel
theorem i_75_27 : pm_at q_75 27 = some (.invokevirtual 103, 3) := by decide +kernel
theorem i_75_30 : pm_at q_75 30 = some (.aload_n 0, 1) := by decide +kernel
theorem i_75_31 : pm_at q_75 31 = some (.getfield 78, 3) := by decide +kernel
theorem i_75_34 : pm_at q_75 34 = some (.getfield 97, 3) := by decide +kernel
theorem i_75_37 : pm_at q_75 37 = some (.aload_n 0, 1) := by decide +kernel
theorem i_75_38 : pm_at q_75 38 = some (.getfield 85, 3) := by decide +kernel
theorem i_75_41 : pm_at q_75 41 = some (.invokevirtual 134, 3) := by decide +kernel
theorem i_75_44 : pm_at q_75 44 = some (.iload_n 1, 1) := by decide +kernel
theorem i_75_45 : pm_at q_75 45 = some (.ireturn, 1) := by decide +kernel
theorem i_76_0 : pm_at q_76 0 = some (.iload_n 1, 1) := by decide +kernel
theorem i_76_1 : pm_at q_76 1 = some (.invokestatic 138, 3) := by decide +kernel
theorem i_76_4 : pm_at q_76 4 = some (.ifCond .eq 8, 3) := by decide +kernel
theorem i_76_7 : pm_at q_76 7 = some (.aload_n 0, 1) := by decide +kernel
theorem i_76_8 : pm_at q_76 8 = some (.invokevirtual 93, 3) := by decide +kernel
theorem i_76_11 : pm_at q_76 11 = some (.ireturn, 1) := by decide +kernel
theorem i_76_12 : pm_at q_76 12 = some (.aload_n 0, 1) := by decide +kernel
theorem i_76_13 : pm_at q_76 13 = some (.getfield 78, 3) := by decide +kernel
theorem i_76_16 : pm_at q_76 16 = some (.getfield 97, 3) := by decide +kernel
theorem i_76_19 : pm_at q_76 19 = some (.getfield 142, 3) := by decide +kernel
theorem i_76_22 : pm_at q_76 22 = some (.iload_n 1, 1) := by decide +kernel
theorem i_76_23 : pm_at q_76 23 = some (.if_icmp .ne 8, 3) := by decide +kernel
theorem i_76_26 : pm_at q_76 26 = some (.aload_n 0, 1) := by decide +kernel
theorem i_76_27 : pm_at q_76 27 = some (.invokevirtual 145, 3) := by decide +kernel
theorem i_76_30 : pm_at q_76 30 = some (.ireturn, 1) := by decide +kernel
theorem i_76_31 : pm_at q_76 31 = some (.aload_n 0, 1) := by decide +kernel
theorem i_76_32 : pm_at q_76 32 = some (.getfield 78, 3) := by decide +kernel
theorem i_76_35 : pm_at q_76 35 = some (.invokevirtual 148, 3) := by decide +kernel
theorem i_76_38 : pm_at q_76 38 = some (.aload_n 0, 1) := by decide +kernel
theorem i_76_39 : pm_at q_76 39 = some (.getfield 78, 3) := by decide +kernel
theorem i_76_42 : pm_at q_76 42 = some (.getfield 97, 3) := by decide +kernel
theorem i_76_45 : pm_at q_76 45 = some (.iload_n 1, 1) := by decide +kernel
theorem i_76_46 : pm_at q_76 46 = some (.invokevirtual 151, 3) := by decide +kernel
theorem i_76_49 : pm_at q_76 49 = some (.aload_n 0, 1) := by decide +kernel
theorem i_76_50 : pm_at q_76 50 = some (.getfield 78, 3) := by decide +kernel
theorem i_76_53 : pm_at q_76 53 = some (.getfield 97, 3) := by decide +kernel
theorem i_76_56 : pm_at q_76 56 = some (.iload_n 1, 1) := by decide +kernel
theorem i_76_57 : pm_at q_76 57 = some (.iconst 0, 1) := by decide +kernel
theorem i_76_58 : pm_at q_76 58 = some (.invokevirtual 154, 3) := by decide +kernel
theorem i_76_61 : pm_at q_76 61 = some (.ireturn, 1) := by decide +kernel
theorem i_77_0 : pm_at q_77 0 = some (.aload_n 0, 1) := by decide +kernel
theorem i_77_1 : pm_at q_77 1 = some (.iload_n 1, 1) := by decide +kernel
theorem i_77_2 : pm_at q_77 2 = some (.invokevirtual 158, 3) := by decide +kernel
theorem i_77_5 : pm_at q_77 5 = some (.ifCond .ne 12, 3) := by decide +kernel
theorem i_77_8 : pm_at q_77 8 = some (.iload_n 2, 1) := by decide +kernel
theorem i_77_9 : pm_at q_77 9 = some (.iconst 0, 1) := by decide +kernel
theorem i_77_10 : pm_at q_77 10 = some (.iconst 3, 1) := by decide +kernel
theorem i_77_11 : pm_at q_77 11 = some (.invokestatic 89, 3) := by decide +kernel
theorem i_77_14 : pm_at q_77 14 = some (.ifCond .eq 8, 3) := by decide +kernel
theorem i_77_17 : pm_at q_77 17 = some (.aload_n 0, 1) := by decide +kernel
theorem i_77_18 : pm_at q_77 18 = some (.invokevirtual 93, 3) := by decide +kernel
theorem i_77_21 : pm_at q_77 21 = some (.ireturn, 1) := by decide +kernel
theorem i_77_22 : pm_at q_77 22 = some (.aload_n 0, 1) := by decide +kernel
theorem i_77_23 : pm_at q_77 23 = some (.getfield 78, 3) := by decide +kernel
theorem i_77_26 : pm_at q_77 26 = some (.getfield 97, 3) := by decide +kernel
theorem i_77_29 : pm_at q_77 29 = some (.getfield 161, 3) := by decide +kernel
theorem i_77_32 : pm_at q_77 32 = some (.iload_n 1, 1) := by decide +kernel
theorem i_77_33 : pm_at q_77 33 = some (.aaload, 1) := by decide +kernel
theorem i_77_34 : pm_at q_77 34 = some (.getfield 165, 3) := by decide +kernel
theorem i_77_37 : pm_at q_77 37 = some (.istore_n 3, 1) := by decide +kernel
theorem i_77_38 : pm_at q_77 38 = some (.iload_n 3, 1) := by decide +kernel
theorem i_77_39 : pm_at q_77 39 = some (.iload_n 2, 1) := by decide +kernel
theorem i_77_40 : pm_at q_77 40 = some (.if_icmp .ne 8, 3) := by decide +kernel
theorem i_77_43 : pm_at q_77 43 = some (.aload_n 0, 1) := by decide +kernel
theorem i_77_44 : pm_at q_77 44 = some (.invokevirtual 145, 3) := by decide +kernel
theorem i_77_47 : pm_at q_77 47 = some (.ireturn, 1) := by decide +kernel
theorem i_77_48 : pm_at q_77 48 = some (.aload_n 0, 1) := by decide +kernel
theorem i_77_49 : pm_at q_77 49 = some (.getfield 78, 3) := by decide +kernel
theorem i_77_52 : pm_at q_77 52 = some (.invokevirtual 148, 3) := by decide +kernel
theorem i_77_55 : pm_at q_77 55 = some (.aload_n 0, 1) := by decide +kernel
theorem i_77_56 : pm_at q_77 56 = some (.getfield 78, 3) := by decide +kernel
theorem i_77_59 : pm_at q_77 59 = some (.getfield 97, 3) := by decide +kernel
theorem i_77_62 : pm_at q_77 62 = some (.getfield 161, 3) := by decide +kernel
theorem i_77_65 : pm_at q_77 65 = some (.iload_n 1, 1) := by decide +kernel
theorem i_77_66 : pm_at q_77 66 = some (.aaload, 1) := by decide +kernel
theorem i_77_67 : pm_at q_77 67 = some (.iload_n 2, 1) := by decide +kernel
theorem i_77_68 : pm_at q_77 68 = some (.putfield 165, 3) := by decide +kernel
theorem i_77_71 : pm_at q_77 71 = some (.iload_n 3, 1) := by decide +kernel
theorem i_77_72 : pm_at q_77 72 = some (.ireturn, 1) := by decide +kernel
theorem i_78_0 : pm_at q_78 0 = some (.aload_n 0, 1) := by decide +kernel
theorem i_78_1 : pm_at q_78 1 = some (.iload_n 1, 1) := by decide +kernel
theorem i_78_2 : pm_at q_78 2 = some (.invokevirtual 158, 3) := by decide +kernel
theorem i_78_5 : pm_at q_78 5 = some (.ifCond .eq 8, 3) := by decide +kernel
theorem i_78_8 : pm_at q_78 8 = some (.aload_n 0, 1) := by decide +kernel
theorem i_78_9 : pm_at q_78 9 = some (.invokevirtual 93, 3) := by decide +kernel
theorem i_78_12 : pm_at q_78 12 = some (.ireturn, 1) := by decide +kernel
theorem i_78_13 : pm_at q_78 13 = some (.aload_n 0, 1) := by decide +kernel
theorem i_78_14 : pm_at q_78 14 = some (.getfield 78, 3) := by decide +kernel
theorem i_78_17 : pm_at q_78 17 = some (.invokevirtual 148, 3) := by decide +kernel
theorem i_78_20 : pm_at q_78 20 = some (.aload_n 0, 1) := by decide +kernel
theorem i_78_21 : pm_at q_78 21 = some (.getfield 78, 3) := by decide +kernel
theorem i_78_24 : pm_at q_78 24 = some (.iconst 0, 1) := by decide +kernel
theorem i_78_25 : pm_at q_78 25 = some (.putfield 170, 3) := by decide +kernel
theorem i_78_28 : pm_at q_78 28 = some (.aload_n 0, 1) := by decide +kernel
theorem i_78_29 : pm_at q_78 29 = some (.getfield 78, 3) := by decide +kernel
theorem i_78_32 : pm_at q_78 32 = some (.iconst 0, 1) := by decide +kernel
theorem i_78_33 : pm_at q_78 33 = some (.putfield 173, 3) := by decide +kernel
theorem i_78_36 : pm_at q_78 36 = some (.aload_n 0, 1) := by decide +kernel
theorem i_78_37 : pm_at q_78 37 = some (.getfield 78, 3) := by decide +kernel
theorem i_78_40 : pm_at q_78 40 = some (.getfield 97, 3) := by decide +kernel
theorem i_78_43 : pm_at q_78 43 = some (.iload_n 1, 1) := by decide +kernel
theorem i_78_44 : pm_at q_78 44 = some (.invokevirtual 176, 3) := by decide +kernel
theorem i_78_47 : pm_at q_78 47 = some (.ireturn, 1) := by decide +kernel
theorem i_79_0 : pm_at q_79 0 = some (.aload_n 0, 1) := by decide +kernel
theorem i_79_1 : pm_at q_79 1 = some (.getfield 78, 3) := by decide +kernel
theorem i_79_4 : pm_at q_79 4 = some (.getfield 114, 3) := by decide +kernel
theorem i_79_7 : pm_at q_79 7 = some (.ifCond .ne 8, 3) := by decide +kernel
theorem i_79_10 : pm_at q_79 10 = some (.aload_n 0, 1) := by decide +kernel
theorem i_79_11 : pm_at q_79 11 = some (.invokevirtual 145, 3) := by decide +kernel
theorem i_79_14 : pm_at q_79 14 = some (.ireturn, 1) := by decide +kernel
theorem i_79_15 : pm_at q_79 15 = some (.aload_n 0, 1) := by decide +kernel
theorem i_79_16 : pm_at q_79 16 = some (.getfield 78, 3) := by decide +kernel
theorem i_79_19 : pm_at q_79 19 = some (.invokevirtual 180, 3) := by decide +kernel
theorem i_79_22 : pm_at q_79 22 = some (.aload_n 0, 1) := by decide +kernel
theorem i_79_23 : pm_at q_79 23 = some (.getfield 78, 3) := by decide +kernel
theorem i_79_26 : pm_at q_79 26 = some (.getfield 97, 3) := by decide +kernel
theorem i_79_29 : pm_at q_79 29 = some (.getfield 142, 3) := by decide +kernel
theorem i_79_32 : pm_at q_79 32 = some (.ireturn, 1) := by decide +kernel
theorem i_80_0 : pm_at q_80 0 = some (.aload_n 0, 1) := by decide +kernel
theorem i_80_1 : pm_at q_80 1 = some (.iload_n 1, 1) := by decide +kernel
theorem i_80_2 : pm_at q_80 2 = some (.invokevirtual 158, 3) := by decide +kernel
theorem i_80_5 : pm_at q_80 5 = some (.ifCond .eq 8, 3) := by decide +kernel
theorem i_80_8 : pm_at q_80 8 = some (.aload_n 0, 1) := by decide +kernel
theorem i_80_9 : pm_at q_80 9 = some (.invokevirtual 93, 3) := by decide +kernel
theorem i_80_12 : pm_at q_80 12 = some (.ireturn, 1) := by decide +kernel
theorem i_80_13 : pm_at q_80 13 = some (.aload_n 0, 1) := by decide +kernel
theorem i_80_14 : pm_at q_80 14 = some (.getfield 78, 3) := by decide +kernel
theorem i_80_17 : pm_at q_80 17 = some (.getfield 97, 3) := by decide +kernel
theorem i_80_20 : pm_at q_80 20 = some (.getfield 161, 3) := by decide +kernel
theorem i_80_23 : pm_at q_80 23 = some (.iload_n 1, 1) := by decide +kernel
theorem i_80_24 : pm_at q_80 24 = some (.aaload, 1) := by decide +kernel
theorem i_80_25 : pm_at q_80 25 = some (.astore_n 3, 1) := by decide +kernel
theorem i_80_26 : pm_at q_80 26 = some (.iload_n 2, 1) := by decide +kernel
theorem i_80_27 : pm_at q_80 27 = some (.tableswitch 93 0 7 #[45, 50, 55, 60, 65, 70, 75, 80], 45) := by decide +kernel
theorem i_80_72 : pm_at q_80 72 = some (.aload_n 3, 1) := by decide +kernel
theorem i_80_73 : pm_at q_80 73 = some (.getfield 183, 3) := by decide +kernel
theorem i_80_76 : pm_at q_80 76 = some (.ireturn, 1) := by decide +kernel
theorem i_80_77 : pm_at q_80 77 = some (.aload_n 3, 1) := by decide +kernel
theorem i_80_78 : pm_at q_80 78 = some (.getfield 186, 3) := by decide +kernel
theorem i_80_81 : pm_at q_80 81 = some (.ireturn, 1) := by decide +kernel
theorem i_80_82 : pm_at q_80 82 = some (.aload_n 3, 1) := by decide +kernel
theorem i_80_83 : pm_at q_80 83 = some (.getfield 189, 3) := by decide +kernel
theorem i_80_86 : pm_at q_80 86 = some (.ireturn, 1) := by decide +kernel
theorem i_80_87 : pm_at q_80 87 = some (.aload_n 3, 1) := by decide +kernel
theorem i_80_88 : pm_at q_80 88 = some (.getfield 192, 3) := by decide +kernel
theorem i_80_91 : pm_at q_80 91 = some (.ireturn, 1) := by decide +kernel
theorem i_80_92 : pm_at q_80 92 = some (.aload_n 3, 1) := by decide +kernel
theorem i_80_93 : pm_at q_80 93 = some (.getfield 195, 3) := by decide +kernel
theorem i_80_96 : pm_at q_80 96 = some (.ireturn, 1) := by decide +kernel
theorem i_80_97 : pm_at q_80 97 = some (.aload_n 3, 1) := by decide +kernel
theorem i_80_98 : pm_at q_80 98 = some (.getfield 165, 3) := by decide +kernel
theorem i_80_101 : pm_at q_80 101 = some (.ireturn, 1) := by decide +kernel
theorem i_80_102 : pm_at q_80 102 = some (.aload_n 3, 1) := by decide +kernel
theorem i_80_103 : pm_at q_80 103 = some (.getfield 198, 3) := by decide +kernel
theorem i_80_106 : pm_at q_80 106 = some (.ireturn, 1) := by decide +kernel
theorem i_80_107 : pm_at q_80 107 = some (.aload_n 3, 1) := by decide +kernel
theorem i_80_108 : pm_at q_80 108 = some (.invokevirtual 201, 3) := by decide +kernel
theorem i_80_111 : pm_at q_80 111 = some (.ifCond .eq 7, 3) := by decide +kernel
theorem i_80_114 : pm_at q_80 114 = some (.iconst 1, 1) := by decide +kernel
theorem i_80_115 : pm_at q_80 115 = some (.goto 4, 3) := by decide +kernel
theorem i_80_118 : pm_at q_80 118 = some (.iconst 0, 1) := by decide +kernel
theorem i_80_119 : pm_at q_80 119 = some (.ireturn, 1) := by decide +kernel
theorem i_80_120 : pm_at q_80 120 = some (.aload_n 0, 1) := by decide +kernel
theorem i_80_121 : pm_at q_80 121 = some (.invokevirtual 93, 3) := by decide +kernel
theorem i_80_124 : pm_at q_80 124 = some (.ireturn, 1) := by decide +kernel
theorem i_81_0 : pm_at q_81 0 = some (.aload_n 0, 1) := by decide +kernel
theorem i_81_1 : pm_at q_81 1 = some (.iload_n 1, 1) := by decide +kernel
theorem i_81_2 : pm_at q_81 2 = some (.invokevirtual 158, 3) := by decide +kernel
theorem i_81_5 : pm_at q_81 5 = some (.ifCond .ne 10, 3) := by decide +kernel
theorem i_81_8 : pm_at q_81 8 = some (.iload_n 2, 1) := by decide +kernel
theorem i_81_9 : pm_at q_81 9 = some (.invokestatic 138, 3) := by decide +kernel
theorem i_81_12 : pm_at q_81 12 = some (.ifCond .eq 8, 3) := by decide +kernel
theorem i_81_15 : pm_at q_81 15 = some (.aload_n 0, 1) := by decide +kernel
theorem i_81_16 : pm_at q_81 16 = some (.invokevirtual 93, 3) := by decide +kernel
theorem i_81_19 : pm_at q_81 19 = some (.ireturn, 1) := by decide +kernel
theorem i_81_20 : pm_at q_81 20 = some (.iload_n 3, 1) := by decide +kernel
theorem i_81_21 : pm_at q_81 21 = some (.tableswitch 68 0 2 #[27, 40, 52], 27) := by decide +kernel
theorem i_81_48 : pm_at q_81 48 = some (.aload_n 0, 1) := by decide +kernel
theorem i_81_49 : pm_at q_81 49 = some (.getfield 78, 3) := by decide +kernel
theorem i_81_52 : pm_at q_81 52 = some (.getfield 97, 3) := by decide +kernel
theorem i_81_55 : pm_at q_81 55 = some (.iload_n 1, 1) := by decide +kernel
theorem i_81_56 : pm_at q_81 56 = some (.iload_n 2, 1) := by decide +kernel
theorem i_81_57 : pm_at q_81 57 = some (.invokevirtual 204, 3) := by decide +kernel
theorem i_81_60 : pm_at q_81 60 = some (.ireturn, 1) := by decide +kernel
theorem i_81_61 : pm_at q_81 61 = some (.aload_n 0, 1) := by decide +kernel
theorem i_81_62 : pm_at q_81 62 = some (.getfield 78, 3) := by decide +kernel
theorem i_81_65 : pm_at q_81 65 = some (.getfield 97, 3) := by decide +kernel
theorem i_81_68 : pm_at q_81 68 = some (.iload_n 1, 1) := by decide +kernel
theorem i_81_69 : pm_at q_81 69 = some (.invokevirtual 207, 3) := by decide +kernel
theorem i_81_72 : pm_at q_81 72 = some (.ireturn, 1) := by decide +kernel
theorem i_81_73 : pm_at q_81 73 = some (.aload_n 0, 1) := by decide +kernel
theorem i_81_74 : pm_at q_81 74 = some (.getfield 78, 3) := by decide +kernel
theorem i_81_77 : pm_at q_81 77 = some (.getfield 97, 3) := by decide +kernel
theorem i_81_80 : pm_at q_81 80 = some (.getfield 161, 3) := by decide +kernel
theorem i_81_83 : pm_at q_81 83 = some (.iload_n 1, 1) := by decide +kernel
theorem i_81_84 : pm_at q_81 84 = some (.aaload, 1) := by decide +kernel
theorem i_81_85 : pm_at q_81 85 = some (.getfield 210, 3) := by decide +kernel
theorem i_81_88 : pm_at q_81 88 = some (.ireturn, 1) := by decide +kernel
theorem i_81_89 : pm_at q_81 89 = some (.aload_n 0, 1) := by decide +kernel
theorem i_81_90 : pm_at q_81 90 = some (.invokevirtual 93, 3) := by decide +kernel
theorem i_81_93 : pm_at q_81 93 = some (.ireturn, 1) := by decide +kernel
theorem i_82_0 : pm_at q_82 0 = some (.aload_n 0, 1) := by decide +kernel
theorem i_82_1 : pm_at q_82 1 = some (.iload_n 1, 1) := by decide +kernel
theorem i_82_2 : pm_at q_82 2 = some (.invokevirtual 158, 3) := by decide +kernel
theorem i_82_5 : pm_at q_82 5 = some (.ifCond .ne 10, 3) := by decide +kernel
theorem i_82_8 : pm_at q_82 8 = some (.iload_n 2, 1) := by decide +kernel
theorem i_82_9 : pm_at q_82 9 = some (.invokestatic 138, 3) := by decide +kernel
theorem i_82_12 : pm_at q_82 12 = some (.ifCond .eq 8, 3) := by decide +kernel
theorem i_82_15 : pm_at q_82 15 = some (.aload_n 0, 1) := by decide +kernel
theorem i_82_16 : pm_at q_82 16 = some (.invokevirtual 93, 3) := by decide +kernel
theorem i_82_19 : pm_at q_82 19 = some (.ireturn, 1) := by decide +kernel
theorem i_82_20 : pm_at q_82 20 = some (.aload_n 0, 1) := by decide +kernel
theorem i_82_21 : pm_at q_82 21 = some (.getfield 78, 3) := by decide +kernel
theorem i_82_24 : pm_at q_82 24 = some (.getfield 97, 3) := by decide +kernel
theorem i_82_27 : pm_at q_82 27 = some (.iload_n 2, 1) := by decide +kernel
theorem i_82_28 : pm_at q_82 28 = some (.iconst 0, 1) := by decide +kernel
theorem i_82_29 : pm_at q_82 29 = some (.invokevirtual 213, 3) := by decide +kernel
theorem i_82_32 : pm_at q_82 32 = some (.aload_n 0, 1) := by decide +kernel
theorem i_82_33 : pm_at q_82 33 = some (.getfield 78, 3) := by decide +kernel
theorem i_82_36 : pm_at q_82 36 = some (.getfield 97, 3) := by decide +kernel
theorem i_82_39 : pm_at q_82 39 = some (.getfield 217, 3) := by decide +kernel
theorem i_82_42 : pm_at q_82 42 = some (.iload_n 1, 1) := by decide +kernel
theorem i_82_43 : pm_at q_82 43 = some (.iaload, 1) := by decide +kernel
theorem i_82_44 : pm_at q_82 44 = some (.ireturn, 1) := by decide +kernel
theorem i_83_0 : pm_at q_83 0 = some (.iload_n 1, 1) := by decide +kernel
theorem i_83_1 : pm_at q_83 1 = some (.invokestatic 138, 3) := by decide +kernel
theorem i_83_4 : pm_at q_83 4 = some (.ifCond .eq 8, 3) := by decide +kernel
theorem i_83_7 : pm_at q_83 7 = some (.aload_n 0, 1) := by decide +kernel
theorem i_83_8 : pm_at q_83 8 = some (.invokevirtual 93, 3) := by decide +kernel
theorem i_83_11 : pm_at q_83 11 = some (.ireturn, 1) := by decide +kernel
theorem i_83_12 : pm_at q_83 12 = some (.aload_n 0, 1) := by decide +kernel
theorem i_83_13 : pm_at q_83 13 = some (.getfield 78, 3) := by decide +kernel
theorem i_83_16 : pm_at q_83 16 = some (.getfield 97, 3) := by decide +kernel
theorem i_83_19 : pm_at q_83 19 = some (.iload_n 1, 1) := by decide +kernel
theorem i_83_20 : pm_at q_83 20 = some (.iconst 0, 1) := by decide +kernel
theorem i_83_21 : pm_at q_83 21 = some (.invokevirtual 154, 3) := by decide +kernel
theorem i_83_24 : pm_at q_83 24 = some (.ireturn, 1) := by decide +kernel
theorem i_84_0 : pm_at q_84 0 = some (.aload_n 0, 1) := by decide +kernel
theorem i_84_1 : pm_at q_84 1 = some (.iload_n 1, 1) := by decide +kernel
theorem i_84_2 : pm_at q_84 2 = some (.invokevirtual 158, 3) := by decide +kernel
theorem i_84_5 : pm_at q_84 5 = some (.ifCond .eq 8, 3) := by decide +kernel
theorem i_84_8 : pm_at q_84 8 = some (.aload_n 0, 1) := by decide +kernel
theorem i_84_9 : pm_at q_84 9 = some (.invokevirtual 93, 3) := by decide +kernel
theorem i_84_12 : pm_at q_84 12 = some (.ireturn, 1) := by decide +kernel
theorem i_84_13 : pm_at q_84 13 = some (.aload_n 0, 1) := by decide +kernel
theorem i_84_14 : pm_at q_84 14 = some (.iload_n 1, 1) := by decide +kernel
theorem i_84_15 : pm_at q_84 15 = some (.invokevirtual 220, 3) := by decide +kernel
theorem i_84_18 : pm_at q_84 18 = some (.istore_n 2, 1) := by decide +kernel
theorem i_84_19 : pm_at q_84 19 = some (.iconst 0, 1) := by decide +kernel
theorem i_84_20 : pm_at q_84 20 = some (.istore_n 3, 1) := by decide +kernel
theorem i_84_21 : pm_at q_84 21 = some (.iload_n 3, 1) := by decide +kernel
theorem i_84_22 : pm_at q_84 22 = some (.bipush 12, 2) := by decide +kernel
theorem i_84_24 : pm_at q_84 24 = some (.if_icmp .gt 19, 3) := by decide +kernel
theorem i_84_27 : pm_at q_84 27 = some (.iload_n 2, 1) := by decide +kernel
theorem i_84_28 : pm_at q_84 28 = some (.iload_n 3, 1) := by decide +kernel
theorem i_84_29 : pm_at q_84 29 = some (.invokestatic 223, 3) := by decide +kernel
theorem i_84_32 : pm_at q_84 32 = some (.ifCond .eq 5, 3) := by decide +kernel
theorem i_84_35 : pm_at q_84 35 = some (.iload_n 3, 1) := by decide +kernel
theorem i_84_36 : pm_at q_84 36 = some (.ireturn, 1) := by decide +kernel
theorem i_84_37 : pm_at q_84 37 = some (.iinc 3 1, 3) := by decide +kernel
theorem i_84_40 : pm_at q_84 40 = some (.goto (-19), 3) := by decide +kernel
theorem i_84_43 : pm_at q_84 43 = some (.iconst (-1), 1) := by decide +kernel
theorem i_84_44 : pm_at q_84 44 = some (.ireturn, 1) := by decide +kernel
theorem i_85_0 : pm_at q_85 0 = some (.iload_n 1, 1) := by decide +kernel
theorem i_85_1 : pm_at q_85 1 = some (.iconst 0, 1) := by decide +kernel
theorem i_85_2 : pm_at q_85 2 = some (.iconst 1, 1) := by decide +kernel
theorem i_85_3 : pm_at q_85 3 = some (.invokestatic 89, 3) := by decide +kernel
theorem i_85_6 : pm_at q_85 6 = some (.ifCond .eq 8, 3) := by decide +kernel
theorem i_85_9 : pm_at q_85 9 = some (.aload_n 0, 1) := by decide +kernel
theorem i_85_10 : pm_at q_85 10 = some (.invokevirtual 93, 3) := by decide +kernel
theorem i_85_13 : pm_at q_85 13 = some (.ireturn, 1) := by decide +kernel
theorem i_85_14 : pm_at q_85 14 = some (.iconst 0, 1) := by decide +kernel
theorem i_85_15 : pm_at q_85 15 = some (.istore_n 2, 1) := by decide +kernel
theorem i_85_16 : pm_at q_85 16 = some (.iconst 0, 1) := by decide +kernel
theorem i_85_17 : pm_at q_85 17 = some (.istore_n 3, 1) := by decide +kernel
theorem i_85_18 : pm_at q_85 18 = some (.iconst 0, 1) := by decide +kernel
theorem i_85_19 : pm_at q_85 19 = some (.istore 4, 2) := by decide +kernel
theorem i_85_21 : pm_at q_85 21 = some (.iload 4, 2) := by decide +kernel
theorem i_85_23 : pm_at q_85 23 = some (.bipush 12, 2) := by decide +kernel
theorem i_85_25 : pm_at q_85 25 = some (.if_icmp .gt 35, 3) := by decide +kernel
theorem i_85_28 : pm_at q_85 28 = some (.aload_n 0, 1) := by decide +kernel
theorem i_85_29 : pm_at q_85 29 = some (.getfield 78, 3) := by decide +kernel
theorem i_85_32 : pm_at q_85 32 = some (.getfield 97, 3) := by decide +kernel
theorem i_85_35 : pm_at q_85 35 = some (.iload 4, 2) := by decide +kernel
theorem i_85_37 : pm_at q_85 37 = some (.invokevirtual 227, 3) := by decide +kernel
theorem i_85_40 : pm_at q_85 40 = some (.istore 5, 2) := by decide +kernel
theorem i_85_42 : pm_at q_85 42 = some (.iload 5, 2) := by decide +kernel
theorem i_85_44 : pm_at q_85 44 = some (.iload_n 3, 1) := by decide +kernel
theorem i_85_45 : pm_at q_85 45 = some (.if_icmp .le 9, 3) := by decide +kernel
theorem i_85_48 : pm_at q_85 48 = some (.iload 4, 2) := by decide +kernel
theorem i_85_50 : pm_at q_85 50 = some (.istore_n 2, 1) := by decide +kernel
theorem i_85_51 : pm_at q_85 51 = some (.iload 5, 2) := by decide +kernel
theorem i_85_53 : pm_at q_85 53 = some (.istore_n 3, 1) := by decide +kernel
theorem i_85_54 : pm_at q_85 54 = some (.iinc 4 1, 3) := by decide +kernel
theorem i_85_57 : pm_at q_85 57 = some (.goto (-36), 3) := by decide +kernel
theorem i_85_60 : pm_at q_85 60 = some (.iload_n 1, 1) := by decide +kernel
theorem i_85_61 : pm_at q_85 61 = some (.ifCond .ne 7, 3) := by decide +kernel
theorem i_85_64 : pm_at q_85 64 = some (.iload_n 2, 1) := by decide +kernel
theorem i_85_65 : pm_at q_85 65 = some (.goto 4, 3) := by decide +kernel
theorem i_85_68 : pm_at q_85 68 = some (.iload_n 3, 1) := by decide +kernel
theorem i_85_69 : pm_at q_85 69 = some (.ireturn, 1) := by decide +kernel
theorem i_86_0 : pm_at q_86 0 = some (.iload_n 1, 1) := by decide +kernel
theorem i_86_1 : pm_at q_86 1 = some (.iconst 0, 1) := by decide +kernel
theorem i_86_2 : pm_at q_86 2 = some (.iconst 1, 1) := by decide +kernel
theorem i_86_3 : pm_at q_86 3 = some (.invokestatic 89, 3) := by decide +kernel
theorem i_86_6 : pm_at q_86 6 = some (.ifCond .eq 8, 3) := by decide +kernel
theorem i_86_9 : pm_at q_86 9 = some (.aload_n 0, 1) := by decide +kernel
theorem i_86_10 : pm_at q_86 10 = some (.invokevirtual 93, 3) := by decide +kernel
theorem i_86_13 : pm_at q_86 13 = some (.ireturn, 1) := by decide +kernel
theorem i_86_14 : pm_at q_86 14 = some (.iload_n 1, 1) := by decide +kernel
theorem i_86_15 : pm_at q_86 15 = some (.ifCond .ne 16, 3) := by decide +kernel
theorem i_86_18 : pm_at q_86 18 = some (.aload_n 0, 1) := by decide +kernel
theorem i_86_19 : pm_at q_86 19 = some (.getfield 78, 3) := by decide +kernel
theorem i_86_22 : pm_at q_86 22 = some (.getfield 97, 3) := by decide +kernel
theorem i_86_25 : pm_at q_86 25 = some (.invokevirtual 230, 3) := by decide +kernel
theorem i_86_28 : pm_at q_86 28 = some (.goto 13, 3) := by decide +kernel
theorem i_86_31 : pm_at q_86 31 = some (.aload_n 0, 1) := by decide +kernel
theorem i_86_32 : pm_at q_86 32 = some (.getfield 78, 3) := by decide +kernel
theorem i_86_35 : pm_at q_86 35 = some (.getfield 97, 3) := by decide +kernel
theorem i_86_38 : pm_at q_86 38 = some (.invokevirtual 233, 3) := by decide +kernel
theorem i_86_41 : pm_at q_86 41 = some (.ireturn, 1) := by decide +kernel
theorem i_87_0 : pm_at q_87 0 = some (.aload_n 0, 1) := by decide +kernel
theorem i_87_1 : pm_at q_87 1 = some (.iload_n 1, 1) := by decide +kernel
theorem i_87_2 : pm_at q_87 2 = some (.invokevirtual 236, 3) := by decide +kernel
theorem i_87_5 : pm_at q_87 5 = some (.ifCond .ne 8, 3) := by decide +kernel
theorem i_87_8 : pm_at q_87 8 = some (.iload_n 2, 1) := by decide +kernel
theorem i_87_9 : pm_at q_87 9 = some (.iconst (-1), 1) := by decide +kernel
theorem i_87_10 : pm_at q_87 10 = some (.if_icmp .ge 8, 3) := by decide +kernel
theorem i_87_13 : pm_at q_87 13 = some (.aload_n 0, 1) := by decide +kernel
theorem i_87_14 : pm_at q_87 14 = some (.invokevirtual 239, 3) := by decide +kernel
theorem i_87_17 : pm_at q_87 17 = some (.ireturn, 1) := by decide +kernel
theorem i_87_18 : pm_at q_87 18 = some (.aload_n 0, 1) := by decide +kernel
theorem i_87_19 : pm_at q_87 19 = some (.getfield 78, 3) := by decide +kernel
theorem i_87_22 : pm_at q_87 22 = some (.getfield 97, 3) := by decide +kernel
theorem i_87_25 : pm_at q_87 25 = some (.getfield 142, 3) := by decide +kernel
theorem i_87_28 : pm_at q_87 28 = some (.istore_n 3, 1) := by decide +kernel
theorem i_87_29 : pm_at q_87 29 = some (.iconst 0, 1) := by decide +kernel
theorem i_87_30 : pm_at q_87 30 = some (.istore 4, 2) := by decide +kernel
theorem i_87_32 : pm_at q_87 32 = some (.iload 4, 2) := by decide +kernel
theorem i_87_34 : pm_at q_87 34 = some (.bipush 12, 2) := by decide +kernel
theorem i_87_36 : pm_at q_87 36 = some (.if_icmp .gt 32, 3) := by decide +kernel
theorem i_87_39 : pm_at q_87 39 = some (.aload_n 0, 1) := by decide +kernel
theorem i_87_40 : pm_at q_87 40 = some (.getfield 29, 3) := by decide +kernel
theorem i_87_43 : pm_at q_87 43 = some (.getfield 242, 3) := by decide +kernel
theorem i_87_46 : pm_at q_87 46 = some (.iload 4, 2) := by decide +kernel
theorem i_87_48 : pm_at q_87 48 = some (.aload_n 0, 1) := by decide +kernel
theorem i_87_49 : pm_at q_87 49 = some (.getfield 78, 3) := by decide +kernel
theorem i_87_52 : pm_at q_87 52 = some (.getfield 97, 3) := by decide +kernel
theorem i_87_55 : pm_at q_87 55 = some (.iload 4, 2) := by decide +kernel
theorem i_87_57 : pm_at q_87 57 = some (.iconst 0, 1) := by decide +kernel
theorem i_87_58 : pm_at q_87 58 = some (.invokevirtual 154, 3) := by decide +kernel
theorem i_87_61 : pm_at q_87 61 = some (.iastore, 1) := by decide +kernel
theorem i_87_62 : pm_at q_87 62 = some (.iinc 4 1, 3) := by decide +kernel
theorem i_87_65 : pm_at q_87 65 = some (.goto (-33), 3) := by decide +kernel
theorem i_87_68 : pm_at q_87 68 = some (.aload_n 0, 1) := by decide +kernel
theorem i_87_69 : pm_at q_87 69 = some (.getfield 29, 3) := by decide +kernel
theorem i_87_72 : pm_at q_87 72 = some (.iload_n 1, 1) := by decide +kernel
theorem i_87_73 : pm_at q_87 73 = some (.putfield 245, 3) := by decide +kernel
theorem i_87_76 : pm_at q_87 76 = some (.aload_n 0, 1) := by decide +kernel
theorem i_87_77 : pm_at q_87 77 = some (.getfield 29, 3) := by decide +kernel
theorem i_87_80 : pm_at q_87 80 = some (.iconst 0, 1) := by decide +kernel
theorem i_87_81 : pm_at q_87 81 = some (.bipush 12, 2) := by decide +kernel
theorem i_87_83 : pm_at q_87 83 = some (.invokevirtual 248, 3) := by decide +kernel
theorem i_87_86 : pm_at q_87 86 = some (.ifCond .ne 5, 3) := by decide +kernel
theorem i_87_89 : pm_at q_87 89 = some (.iconst (-1), 1) := by decide +kernel
theorem i_87_90 : pm_at q_87 90 = some (.ireturn, 1) := by decide +kernel
theorem i_87_91 : pm_at q_87 91 = some (.aload_n 0, 1) := by decide +kernel
theorem i_87_92 : pm_at q_87 92 = some (.getfield 29, 3) := by decide +kernel
theorem i_87_95 : pm_at q_87 95 = some (.iload_n 3, 1) := by decide +kernel
theorem i_87_96 : pm_at q_87 96 = some (.iload_n 3, 1) := by decide +kernel
theorem i_87_97 : pm_at q_87 97 = some (.iload_n 3, 1) := by decide +kernel
theorem i_87_98 : pm_at q_87 98 = some (.invokevirtual 251, 3) := by decide +kernel
theorem i_87_101 : pm_at q_87 101 = some (.istore 4, 2) := by decide +kernel
theorem i_87_103 : pm_at q_87 103 = some (.iload_n 2, 1) := by decide +kernel
theorem i_87_104 : pm_at q_87 104 = some (.iload 4, 2) := by decide +kernel
theorem i_87_106 : pm_at q_87 106 = some (.if_icmp .le 6, 3) := by decide +kernel
theorem i_87_109 : pm_at q_87 109 = some (.bipush (-5), 2) := by decide +kernel
theorem i_87_111 : pm_at q_87 111 = some (.ireturn, 1) := by decide +kernel
theorem i_87_112 : pm_at q_87 112 = some (.iload_n 2, 1) := by decide +kernel
theorem i_87_113 : pm_at q_87 113 = some (.iconst (-1), 1) := by decide +kernel
theorem i_87_114 : pm_at q_87 114 = some (.if_icmp .ne 8, 3) := by decide +kernel
theorem i_87_117 : pm_at q_87 117 = some (.iload 4, 2) := by decide +kernel
theorem i_87_119 : pm_at q_87 119 = some (.goto 12, 3) := by decide +kernel
theorem i_87_122 : pm_at q_87 122 = some (.aload_n 0, 1) := by decide +kernel
theorem i_87_123 : pm_at q_87 123 = some (.getfield 29, 3) := by decide +kernel
theorem i_87_126 : pm_at q_87 126 = some (.iload_n 3, 1) := by decide +kernel
theorem i_87_127 : pm_at q_87 127 = some (.iload_n 2, 1) := by decide +kernel
theorem i_87_128 : pm_at q_87 128 = some (.invokevirtual 255, 3) := by decide +kernel
theorem i_87_131 : pm_at q_87 131 = some (.ireturn, 1) := by decide +kernel
theorem i_88_0 : pm_at q_88 0 = some (.aload_n 0, 1) := by decide +kernel
theorem i_88_1 : pm_at q_88 1 = some (.iload_n 1, 1) := by decide +kernel
theorem i_88_2 : pm_at q_88 2 = some (.invokevirtual 158, 3) := by decide +kernel
theorem i_88_5 : pm_at q_88 5 = some (.ifCond .ne 19, 3) := by decide +kernel
theorem i_88_8 : pm_at q_88 8 = some (.iload_n 2, 1) := by decide +kernel
theorem i_88_9 : pm_at q_88 9 = some (.invokestatic 138, 3) := by decide +kernel
theorem i_88_12 : pm_at q_88 12 = some (.ifCond .ne 12, 3) := by decide +kernel
theorem i_88_15 : pm_at q_88 15 = some (.iload_n 3, 1) := by decide +kernel
theorem i_88_16 : pm_at q_88 16 = some (.iconst 0, 1) := by decide +kernel
theorem i_88_17 : pm_at q_88 17 = some (.iconst 1, 1) := by decide +kernel
theorem i_88_18 : pm_at q_88 18 = some (.invokestatic 89, 3) := by decide +kernel
theorem i_88_21 : pm_at q_88 21 = some (.ifCond .eq 8, 3) := by decide +kernel
theorem i_88_24 : pm_at q_88 24 = some (.aload_n 0, 1) := by decide +kernel
theorem i_88_25 : pm_at q_88 25 = some (.invokevirtual 93, 3) := by decide +kernel
theorem i_88_28 : pm_at q_88 28 = some (.ireturn, 1) := by decide +kernel
theorem i_88_29 : pm_at q_88 29 = some (.aload_n 0, 1) := by decide +kernel
theorem i_88_30 : pm_at q_88 30 = some (.getfield 85, 3) := by decide +kernel
theorem i_88_33 : pm_at q_88 33 = some (.aload_n 0, 1) := by decide +kernel
theorem i_88_34 : pm_at q_88 34 = some (.getfield 78, 3) := by decide +kernel
theorem i_88_37 : pm_at q_88 37 = some (.getfield 97, 3) := by decide +kernel
theorem i_88_40 : pm_at q_88 40 = some (.invokevirtual 134, 3) := by decide +kernel
theorem i_88_43 : pm_at q_88 43 = some (.iconst 0, 1) := by decide +kernel
theorem i_88_44 : pm_at q_88 44 = some (.istore 4, 2) := by decide +kernel
theorem i_88_46 : pm_at q_88 46 = some (.iconst 0, 1) := by decide +kernel
theorem i_88_47 : pm_at q_88 47 = some (.istore 5, 2) := by decide +kernel
theorem i_88_49 : pm_at q_88 49 = some (.iconst 0, 1) := by decide +kernel
theorem i_88_50 : pm_at q_88 50 = some (.istore 6, 2) := by decide +kernel
theorem i_88_52 : pm_at q_88 52 = some (.iload 6, 2) := by decide +kernel
theorem i_88_54 : pm_at q_88 54 = some (.bipush 9, 2) := by decide +kernel
theorem i_88_56 : pm_at q_88 56 = some (.if_icmp .gt 48, 3) := by decide +kernel
theorem i_88_59 : pm_at q_88 59 = some (.aload_n 0, 1) := by decide +kernel
theorem i_88_60 : pm_at q_88 60 = some (.getfield 85, 3) := by decide +kernel
theorem i_88_63 : pm_at q_88 63 = some (.getfield 161, 3) := by decide +kernel
theorem i_88_66 : pm_at q_88 66 = some (.iload_n 1, 1) := by decide +kernel
theorem i_88_67 : pm_at q_88 67 = some (.aaload, 1) := by decide +kernel
theorem i_88_68 : pm_at q_88 68 = some (.iload 6, 2) := by decide +kernel
theorem i_88_70 : pm_at q_88 70 = some (.putfield 192, 3) := by decide +kernel
theorem i_88_73 : pm_at q_88 73 = some (.aload_n 0, 1) := by decide +kernel
theorem i_88_74 : pm_at q_88 74 = some (.getfield 85, 3) := by decide +kernel
theorem i_88_77 : pm_at q_88 77 = some (.iload_n 2, 1) := by decide +kernel
theorem i_88_78 : pm_at q_88 78 = some (.invokevirtual 227, 3) := by decide +kernel
theorem i_88_81 : pm_at q_88 81 = some (.istore 7, 2) := by decide +kernel
theorem i_88_83 : pm_at q_88 83 = some (.iload 7, 2) := by decide +kernel
theorem i_88_85 : pm_at q_88 85 = some (.iload 5, 2) := by decide +kernel
theorem i_88_87 : pm_at q_88 87 = some (.if_icmp .le 11, 3) := by decide +kernel
theorem i_88_90 : pm_at q_88 90 = some (.iload 6, 2) := by decide +kernel
theorem i_88_92 : pm_at q_88 92 = some (.istore 4, 2) := by decide +kernel
theorem i_88_94 : pm_at q_88 94 = some (.iload 7, 2) := by decide +kernel
theorem i_88_96 : pm_at q_88 96 = some (.istore 5, 2) := by decide +kernel
theorem i_88_98 : pm_at q_88 98 = some (.iinc 6 1, 3) := by decide +kernel
theorem i_88_101 : pm_at q_88 101 = some (.goto (-49), 3) := by decide +kernel
theorem i_88_104 : pm_at q_88 104 = some (.iload_n 3, 1) := by decide +kernel
theorem i_88_105 : pm_at q_88 105 = some (.ifCond .ne 8, 3) := by decide +kernel
theorem i_88_108 : pm_at q_88 108 = some (.iload 4, 2) := by decide +kernel
theorem i_88_110 : pm_at q_88 110 = some (.goto 5, 3) := by decide +kernel
theorem i_88_113 : pm_at q_88 113 = some (.iload 5, 2) := by decide +kernel
theorem i_88_115 : pm_at q_88 115 = some (.ireturn, 1) := by decide +kernel
theorem i_89_0 : pm_at q_89 0 = some (.iconst 0, 1) := by decide +kernel
theorem i_89_1 : pm_at q_89 1 = some (.istore_n 1, 1) := by decide +kernel
theorem i_89_2 : pm_at q_89 2 = some (.iload_n 1, 1) := by decide +kernel
theorem i_89_3 : pm_at q_89 3 = some (.bipush 99, 2) := by decide +kernel
theorem i_89_5 : pm_at q_89 5 = some (.if_icmp .gt 28, 3) := by decide +kernel
theorem i_89_8 : pm_at q_89 8 = some (.aload_n 0, 1) := by decide +kernel
theorem i_89_9 : pm_at q_89 9 = some (.getfield 78, 3) := by decide +kernel
theorem i_89_12 : pm_at q_89 12 = some (.getfield 97, 3) := by decide +kernel
theorem i_89_15 : pm_at q_89 15 = some (.bipush 24, 2) := by decide +kernel
theorem i_89_17 : pm_at q_89 17 = some (.iload_n 1, 1) := by decide +kernel
theorem i_89_18 : pm_at q_89 18 = some (.imul, 1) := by decide +kernel
theorem i_89_19 : pm_at q_89 19 = some (.invokevirtual 258, 3) := by decide +kernel
theorem i_89_22 : pm_at q_89 22 = some (.ifCond .eq 5, 3) := by decide +kernel
theorem i_89_25 : pm_at q_89 25 = some (.iload_n 1, 1) := by decide +kernel
theorem i_89_26 : pm_at q_89 26 = some (.ireturn, 1) := by decide +kernel
theorem i_89_27 : pm_at q_89 27 = some (.iinc 1 1, 3) := by decide +kernel
theorem i_89_30 : pm_at q_89 30 = some (.goto (-28), 3) := by decide +kernel
theorem i_89_33 : pm_at q_89 33 = some (.iconst (-1), 1) := by decide +kernel
theorem i_89_34 : pm_at q_89 34 = some (.ireturn, 1) := by decide +kernel
theorem i_90_0 : pm_at q_90 0 = some (.aload_n 0, 1) := by decide +kernel
theorem i_90_1 : pm_at q_90 1 = some (.iload_n 1, 1) := by decide +kernel
theorem i_90_2 : pm_at q_90 2 = some (.invokevirtual 158, 3) := by decide +kernel
theorem i_90_5 : pm_at q_90 5 = some (.ifCond .ne 12, 3) := by decide +kernel
theorem i_90_8 : pm_at q_90 8 = some (.iload_n 2, 1) := by decide +kernel
theorem i_90_9 : pm_at q_90 9 = some (.iconst 0, 1) := by decide +kernel
theorem i_90_10 : pm_at q_90 10 = some (.iconst 1, 1) := by decide +kernel
theorem i_90_11 : pm_at q_90 11 = some (.invokestatic 89, 3) := by decide +kernel
theorem i_90_14 : pm_at q_90 14 = some (.ifCond .eq 8, 3) := by decide +kernel
theorem i_90_17 : pm_at q_90 17 = some (.aload_n 0, 1) := by decide +kernel
theorem i_90_18 : pm_at q_90 18 = some (.invokevirtual 93, 3) := by decide +kernel
theorem i_90_21 : pm_at q_90 21 = some (.ireturn, 1) := by decide +kernel
theorem i_90_22 : pm_at q_90 22 = some (.aload_n 0, 1) := by decide +kernel
theorem i_90_23 : pm_at q_90 23 = some (.getfield 78, 3) := by decide +kernel
theorem i_90_26 : pm_at q_90 26 = some (.getfield 97, 3) := by decide +kernel
theorem i_90_29 : pm_at q_90 29 = some (.getfield 142, 3) := by decide +kernel
theorem i_90_32 : pm_at q_90 32 = some (.istore_n 3, 1) := by decide +kernel
theorem i_90_33 : pm_at q_90 33 = some (.aload_n 0, 1) := by decide +kernel
theorem i_90_34 : pm_at q_90 34 = some (.iload_n 1, 1) := by decide +kernel
theorem i_90_35 : pm_at q_90 35 = some (.invokevirtual 220, 3) := by decide +kernel
theorem i_90_38 : pm_at q_90 38 = some (.istore 4, 2) := by decide +kernel
theorem i_90_40 : pm_at q_90 40 = some (.iload 4, 2) := by decide +kernel
theorem i_90_42 : pm_at q_90 42 = some (.iload_n 3, 1) := by decide +kernel
theorem i_90_43 : pm_at q_90 43 = some (.invokestatic 223, 3) := by decide +kernel
theorem i_90_46 : pm_at q_90 46 = some (.ifCond .eq 13, 3) := by decide +kernel
theorem i_90_49 : pm_at q_90 49 = some (.iload_n 2, 1) := by decide +kernel
theorem i_90_50 : pm_at q_90 50 = some (.ifCond .ne 7, 3) := by decide +kernel
theorem i_90_53 : pm_at q_90 53 = some (.iconst 2, 1) := by decide +kernel
theorem i_90_54 : pm_at q_90 54 = some (.goto 4, 3) := by decide +kernel
theorem i_90_57 : pm_at q_90 57 = some (.iconst (-1), 1) := by decide +kernel
theorem i_90_58 : pm_at q_90 58 = some (.ireturn, 1) := by decide +kernel
theorem i_90_59 : pm_at q_90 59 = some (.iload_n 3, 1) := by decide +kernel
theorem i_90_60 : pm_at q_90 60 = some (.iconst 1, 1) := by decide +kernel
theorem i_90_61 : pm_at q_90 61 = some (.iload_n 3, 1) := by decide +kernel
theorem i_90_62 : pm_at q_90 62 = some (.ishl, 1) := by decide +kernel
theorem i_90_63 : pm_at q_90 63 = some (.iload 4, 2) := by decide +kernel
theorem i_90_65 : pm_at q_90 65 = some (.bipush 13, 2) := by decide +kernel
theorem i_90_67 : pm_at q_90 67 = some (.invokestatic 261, 3) := by decide +kernel
theorem i_90_70 : pm_at q_90 70 = some (.istore 5, 2) := by decide +kernel
theorem i_90_72 : pm_at q_90 72 = some (.iload_n 2, 1) := by decide +kernel
theorem i_90_73 : pm_at q_90 73 = some (.iconst 1, 1) := by decide +kernel
theorem i_90_74 : pm_at q_90 74 = some (.if_icmp .ne 6, 3) := by decide +kernel
theorem i_90_77 : pm_at q_90 77 = some (.iload 5, 2) := by decide +kernel
theorem i_90_79 : pm_at q_90 79 = some (.ireturn, 1) := by decide +kernel
theorem i_90_80 : pm_at q_90 80 = some (.iload 5, 2) := by decide +kernel
theorem i_90_82 : pm_at q_90 82 = some (.iconst (-1), 1) := by decide +kernel
theorem i_90_83 : pm_at q_90 83 = some (.if_icmp .ne 7, 3) := by decide +kernel
theorem i_90_86 : pm_at q_90 86 = some (.iconst 0, 1) := by decide +kernel
theorem i_90_87 : pm_at q_90 87 = some (.goto 4, 3) := by decide +kernel
theorem i_90_90 : pm_at q_90 90 = some (.iconst 1, 1) := by decide +kernel
theorem i_90_91 : pm_at q_90 91 = some (.ireturn, 1) := by decide +kernel
theorem i_91_0 : pm_at q_91 0 = some (.aload_n 0, 1) := by decide +kernel
theorem i_91_1 : pm_at q_91 1 = some (.iload_n 1, 1) := by decide +kernel
theorem i_91_2 : pm_at q_91 2 = some (.invokevirtual 158, 3) := by decide +kernel
theorem i_91_5 : pm_at q_91 5 = some (.ifCond .ne 41, 3) := by decide +kernel
theorem i_91_8 : pm_at q_91 8 = some (.iload_n 2, 1) := by decide +kernel
theorem i_91_9 : pm_at q_91 9 = some (.iconst 1, 1) := by decide +kernel
theorem i_91_10 : pm_at q_91 10 = some (.bipush 9, 2) := by decide +kernel
theorem i_91_12 : pm_at q_91 12 = some (.invokestatic 89, 3) := by decide +kernel
theorem i_91_15 : pm_at q_91 15 = some (.ifCond .ne 31, 3) := by decide +kernel
theorem i_91_18 : pm_at q_91 18 = some (.iload_n 3, 1) := by decide +kernel
theorem i_91_19 : pm_at q_91 19 = some (.invokestatic 138, 3) := by decide +kernel
theorem i_91_22 : pm_at q_91 22 = some (.ifCond .ne 24, 3) := by decide +kernel
theorem i_91_25 : pm_at q_91 25 = some (.iload 4, 2) := by decide +kernel
theorem i_91_27 : pm_at q_91 27 = some (.iconst 0, 1) := by decide +kernel
theorem i_91_28 : pm_at q_91 28 = some (.iconst 3, 1) := by decide +kernel
theorem i_91_29 : pm_at q_91 29 = some (.invokestatic 89, 3) := by decide +kernel
theorem i_91_32 : pm_at q_91 32 = some (.ifCond .ne 14, 3) := by decide +kernel
theorem i_91_35 : pm_at q_91 35 = some (.iload 5, 2) := by decide +kernel
theorem i_91_37 : pm_at q_91 37 = some (.iconst 0, 1) := by decide +kernel
theorem i_91_38 : pm_at q_91 38 = some (.bipush 20, 2) := by decide +kernel
theorem i_91_40 : pm_at q_91 40 = some (.invokestatic 89, 3) := by decide +kernel
theorem i_91_43 : pm_at q_91 43 = some (.ifCond .eq 8, 3) := by decide +kernel
theorem i_91_46 : pm_at q_91 46 = some (.aload_n 0, 1) := by decide +kernel
theorem i_91_47 : pm_at q_91 47 = some (.invokevirtual 93, 3) := by decide +kernel
theorem i_91_50 : pm_at q_91 50 = some (.ireturn, 1) := by decide +kernel
theorem i_91_51 : pm_at q_91 51 = some (.aload_n 0, 1) := by decide +kernel
theorem i_91_52 : pm_at q_91 52 = some (.getfield 78, 3) := by decide +kernel
theorem i_91_55 : pm_at q_91 55 = some (.getfield 170, 3) := by decide +kernel
theorem i_91_58 : pm_at q_91 58 = some (.bipush 6, 2) := by decide +kernel
theorem i_91_60 : pm_at q_91 60 = some (.if_icmp .lt 8, 3) := by decide +kernel
theorem i_91_63 : pm_at q_91 63 = some (.aload_n 0, 1) := by decide +kernel
theorem i_91_64 : pm_at q_91 64 = some (.invokevirtual 111, 3) := by decide +kernel
theorem i_91_67 : pm_at q_91 67 = some (.ireturn, 1) := by decide +kernel
theorem i_91_68 : pm_at q_91 68 = some (.aload_n 0, 1) := by decide +kernel
theorem i_91_69 : pm_at q_91 69 = some (.getfield 78, 3) := by decide +kernel
theorem i_91_72 : pm_at q_91 72 = some (.getfield 265, 3) := by decide +kernel
theorem i_91_75 : pm_at q_91 75 = some (.aload_n 0, 1) := by decide +kernel
theorem i_91_76 : pm_at q_91 76 = some (.getfield 78, 3) := by decide +kernel
theorem i_91_79 : pm_at q_91 79 = some (.getfield 170, 3) := by decide +kernel
theorem i_91_82 : pm_at q_91 82 = some (.aaload, 1) := by decide +kernel
theorem i_91_83 : pm_at q_91 83 = some (.astore 6, 2) := by decide +kernel
theorem i_91_85 : pm_at q_91 85 = some (.aload 6, 2) := by decide +kernel
theorem i_91_87 : pm_at q_91 87 = some (.iconst 0, 1) := by decide +kernel
theorem i_91_88 : pm_at q_91 88 = some (.iload_n 1, 1) := by decide +kernel
theorem i_91_89 : pm_at q_91 89 = some (.iastore, 1) := by decide +kernel
theorem i_91_90 : pm_at q_91 90 = some (.aload 6, 2) := by decide +kernel
theorem i_91_92 : pm_at q_91 92 = some (.iconst 1, 1) := by decide +kernel
theorem i_91_93 : pm_at q_91 93 = some (.iload_n 2, 1) := by decide +kernel
theorem i_91_94 : pm_at q_91 94 = some (.iastore, 1) := by decide +kernel
theorem i_91_95 : pm_at q_91 95 = some (.aload 6, 2) := by decide +kernel
theorem i_91_97 : pm_at q_91 97 = some (.iconst 2, 1) := by decide +kernel
theorem i_91_98 : pm_at q_91 98 = some (.iload_n 3, 1) := by decide +kernel
theorem i_91_99 : pm_at q_91 99 = some (.iastore, 1) := by decide +kernel
theorem i_91_100 : pm_at q_91 100 = some (.aload 6, 2) := by decide +kernel
theorem i_91_102 : pm_at q_91 102 = some (.iconst 3, 1) := by decide +kernel
theorem i_91_103 : pm_at q_91 103 = some (.iload 4, 2) := by decide +kernel
theorem i_91_105 : pm_at q_91 105 = some (.iastore, 1) := by decide +kernel
theorem i_91_106 : pm_at q_91 106 = some (.aload 6, 2) := by decide +kernel
theorem i_91_108 : pm_at q_91 108 = some (.iconst 4, 1) := by decide +kernel
theorem i_91_109 : pm_at q_91 109 = some (.iload 5, 2) := by decide +kernel
theorem i_91_111 : pm_at q_91 111 = some (.iastore, 1) := by decide +kernel
theorem i_91_112 : pm_at q_91 112 = some (.aload_n 0, 1) := by decide +kernel
theorem i_91_113 : pm_at q_91 113 = some (.getfield 78, 3) := by decide +kernel
theorem i_91_116 : pm_at q_91 116 = some (.dup, 1) := by decide +kernel
theorem i_91_117 : pm_at q_91 117 = some (.getfield 170, 3) := by decide +kernel
theorem i_91_120 : pm_at q_91 120 = some (.iconst 1, 1) := by decide +kernel
theorem i_91_121 : pm_at q_91 121 = some (.iadd, 1) := by decide +kernel
theorem i_91_122 : pm_at q_91 122 = some (.putfield 170, 3) := by decide +kernel
theorem i_91_125 : pm_at q_91 125 = some (.aload_n 0, 1) := by decide +kernel
theorem i_91_126 : pm_at q_91 126 = some (.getfield 78, 3) := by decide +kernel
theorem i_91_129 : pm_at q_91 129 = some (.getfield 170, 3) := by decide +kernel
theorem i_91_132 : pm_at q_91 132 = some (.ireturn, 1) := by decide +kernel
theorem i_92_0 : pm_at q_92 0 = some (.iload_n 1, 1) := by decide +kernel
theorem i_92_1 : pm_at q_92 1 = some (.invokestatic 138, 3) := by decide +kernel
theorem i_92_4 : pm_at q_92 4 = some (.ifCond .ne 11, 3) := by decide +kernel
theorem i_92_7 : pm_at q_92 7 = some (.aload_n 0, 1) := by decide +kernel
theorem i_92_8 : pm_at q_92 8 = some (.iload_n 2, 1) := by decide +kernel
theorem i_92_9 : pm_at q_92 9 = some (.invokevirtual 236, 3) := by decide +kernel
theorem i_92_12 : pm_at q_92 12 = some (.ifCond .eq 8, 3) := by decide +kernel
theorem i_92_15 : pm_at q_92 15 = some (.aload_n 0, 1) := by decide +kernel
theorem i_92_16 : pm_at q_92 16 = some (.invokevirtual 93, 3) := by decide +kernel
theorem i_92_19 : pm_at q_92 19 = some (.ireturn, 1) := by decide +kernel
theorem i_92_20 : pm_at q_92 20 = some (.aload_n 0, 1) := by decide +kernel
theorem i_92_21 : pm_at q_92 21 = some (.getfield 78, 3) := by decide +kernel
theorem i_92_24 : pm_at q_92 24 = some (.getfield 173, 3) := by decide +kernel
theorem i_92_27 : pm_at q_92 27 = some (.bipush 6, 2) := by decide +kernel
theorem i_92_29 : pm_at q_92 29 = some (.if_icmp .lt 8, 3) := by decide +kernel
theorem i_92_32 : pm_at q_92 32 = some (.aload_n 0, 1) := by decide +kernel
theorem i_92_33 : pm_at q_92 33 = some (.invokevirtual 111, 3) := by decide +kernel
theorem i_92_36 : pm_at q_92 36 = some (.ireturn, 1) := by decide +kernel
theorem i_92_37 : pm_at q_92 37 = some (.aload_n 0, 1) := by decide +kernel
theorem i_92_38 : pm_at q_92 38 = some (.getfield 78, 3) := by decide +kernel
theorem i_92_41 : pm_at q_92 41 = some (.getfield 269, 3) := by decide +kernel
theorem i_92_44 : pm_at q_92 44 = some (.aload_n 0, 1) := by decide +kernel
theorem i_92_45 : pm_at q_92 45 = some (.getfield 78, 3) := by decide +kernel
theorem i_92_48 : pm_at q_92 48 = some (.getfield 173, 3) := by decide +kernel
theorem i_92_51 : pm_at q_92 51 = some (.aaload, 1) := by decide +kernel
theorem i_92_52 : pm_at q_92 52 = some (.astore_n 3, 1) := by decide +kernel
theorem i_92_53 : pm_at q_92 53 = some (.aload_n 3, 1) := by decide +kernel
theorem i_92_54 : pm_at q_92 54 = some (.iconst 0, 1) := by decide +kernel
theorem i_92_55 : pm_at q_92 55 = some (.iload_n 1, 1) := by decide +kernel
theorem i_92_56 : pm_at q_92 56 = some (.iastore, 1) := by decide +kernel
theorem i_92_57 : pm_at q_92 57 = some (.aload_n 3, 1) := by decide +kernel
theorem i_92_58 : pm_at q_92 58 = some (.iconst 1, 1) := by decide +kernel
theorem i_92_59 : pm_at q_92 59 = some (.iload_n 2, 1) := by decide +kernel
theorem i_92_60 : pm_at q_92 60 = some (.iastore, 1) := by decide +kernel
theorem i_92_61 : pm_at q_92 61 = some (.aload_n 0, 1) := by decide +kernel
theorem i_92_62 : pm_at q_92 62 = some (.getfield 78, 3) := by decide +kernel
theorem i_92_65 : pm_at q_92 65 = some (.dup, 1) := by decide +kernel
theorem i_92_66 : pm_at q_92 66 = some (.getfield 173, 3) := by decide +kernel
theorem i_92_69 : pm_at q_92 69 = some (.iconst 1, 1) := by decide +kernel
theorem i_92_70 : pm_at q_92 70 = some (.iadd, 1) := by decide +kernel
theorem i_92_71 : pm_at q_92 71 = some (.putfield 173, 3) := by decide +kernel
theorem i_92_74 : pm_at q_92 74 = some (.aload_n 0, 1) := by decide +kernel
theorem i_92_75 : pm_at q_92 75 = some (.getfield 78, 3) := by decide +kernel
theorem i_92_78 : pm_at q_92 78 = some (.getfield 173, 3) := by decide +kernel
theorem i_92_81 : pm_at q_92 81 = some (.ireturn, 1) := by decide +kernel
theorem i_93_0 : pm_at q_93 0 = some (.iload_n 1, 1) := by decide +kernel
theorem i_93_1 : pm_at q_93 1 = some (.lookupswitch 63 #[(0, 27), (1, 45)], 27) := by decide +kernel
theorem i_93_28 : pm_at q_93 28 = some (.aload_n 0, 1) := by decide +kernel
theorem i_93_29 : pm_at q_93 29 = some (.getfield 78, 3) := by decide +kernel
theorem i_93_32 : pm_at q_93 32 = some (.getfield 170, 3) := by decide +kernel
theorem i_93_35 : pm_at q_93 35 = some (.istore_n 2, 1) := by decide +kernel
theorem i_93_36 : pm_at q_93 36 = some (.aload_n 0, 1) := by decide +kernel
theorem i_93_37 : pm_at q_93 37 = some (.getfield 78, 3) := by decide +kernel
theorem i_93_40 : pm_at q_93 40 = some (.iconst 0, 1) := by decide +kernel
theorem i_93_41 : pm_at q_93 41 = some (.putfield 170, 3) := by decide +kernel
theorem i_93_44 : pm_at q_93 44 = some (.iload_n 2, 1) := by decide +kernel
theorem i_93_45 : pm_at q_93 45 = some (.ireturn, 1) := by decide +kernel
theorem i_93_46 : pm_at q_93 46 = some (.aload_n 0, 1) := by decide +kernel
theorem i_93_47 : pm_at q_93 47 = some (.getfield 78, 3) := by decide +kernel
theorem i_93_50 : pm_at q_93 50 = some (.getfield 173, 3) := by decide +kernel
theorem i_93_53 : pm_at q_93 53 = some (.istore_n 2, 1) := by decide +kernel
theorem i_93_54 : pm_at q_93 54 = some (.aload_n 0, 1) := by decide +kernel
theorem i_93_55 : pm_at q_93 55 = some (.getfield 78, 3) := by decide +kernel
theorem i_93_58 : pm_at q_93 58 = some (.iconst 0, 1) := by decide +kernel
theorem i_93_59 : pm_at q_93 59 = some (.putfield 173, 3) := by decide +kernel
theorem i_93_62 : pm_at q_93 62 = some (.iload_n 2, 1) := by decide +kernel
theorem i_93_63 : pm_at q_93 63 = some (.ireturn, 1) := by decide +kernel
theorem i_93_64 : pm_at q_93 64 = some (.aload_n 0, 1) := by decide +kernel
theorem i_93_65 : pm_at q_93 65 = some (.invokevirtual 93, 3) := by decide +kernel
theorem i_93_68 : pm_at q_93 68 = some (.ireturn, 1) := by decide +kernel
theorem i_94_0 : pm_at q_94 0 = some (.aload_n 0, 1) := by decide +kernel
theorem i_94_1 : pm_at q_94 1 = some (.iload_n 1, 1) := by decide +kernel
theorem i_94_2 : pm_at q_94 2 = some (.invokevirtual 158, 3) := by decide +kernel
theorem i_94_5 : pm_at q_94 5 = some (.ifCond .eq 8, 3) := by decide +kernel
theorem i_94_8 : pm_at q_94 8 = some (.aload_n 0, 1) := by decide +kernel
theorem i_94_9 : pm_at q_94 9 = some (.invokevirtual 93, 3) := by decide +kernel
theorem i_94_12 : pm_at q_94 12 = some (.ireturn, 1) := by decide +kernel
theorem i_94_13 : pm_at q_94 13 = some (.aload_n 0, 1) := by decide +kernel
theorem i_94_14 : pm_at q_94 14 = some (.iload_n 1, 1) := by decide +kernel
theorem i_94_15 : pm_at q_94 15 = some (.invokevirtual 272, 3) := by decide +kernel
theorem i_94_18 : pm_at q_94 18 = some (.ireturn, 1) := by decide +kernel
theorem i_95_0 : pm_at q_95 0 = some (.aload_n 0, 1) := by decide +kernel
theorem i_95_1 : pm_at q_95 1 = some (.iload_n 1, 1) := by decide +kernel
theorem i_95_2 : pm_at q_95 2 = some (.invokevirtual 158, 3) := by decide +kernel
theorem i_95_5 : pm_at q_95 5 = some (.ifCond .eq 8, 3) := by decide +kernel
theorem i_95_8 : pm_at q_95 8 = some (.aload_n 0, 1) := by decide +kernel
theorem i_95_9 : pm_at q_95 9 = some (.invokevirtual 93, 3) := by decide +kernel
theorem i_95_12 : pm_at q_95 12 = some (.ireturn, 1) := by decide +kernel
theorem i_95_13 : pm_at q_95 13 = some (.aload_n 0, 1) := by decide +kernel
theorem i_95_14 : pm_at q_95 14 = some (.iload_n 1, 1) := by decide +kernel
theorem i_95_15 : pm_at q_95 15 = some (.invokevirtual 272, 3) := by decide +kernel
theorem i_95_18 : pm_at q_95 18 = some (.istore_n 2, 1) := by decide +kernel
theorem i_95_19 : pm_at q_95 19 = some (.iload_n 2, 1) := by decide +kernel
theorem i_95_20 : pm_at q_95 20 = some (.ifCond .ne 5, 3) := by decide +kernel
theorem i_95_23 : pm_at q_95 23 = some (.iconst (-1), 1) := by decide +kernel
theorem i_95_24 : pm_at q_95 24 = some (.ireturn, 1) := by decide +kernel
theorem i_95_25 : pm_at q_95 25 = some (.aload_n 0, 1) := by decide +kernel
theorem i_95_26 : pm_at q_95 26 = some (.getfield 78, 3) := by decide +kernel
theorem i_95_29 : pm_at q_95 29 = some (.getfield 97, 3) := by decide +kernel
theorem i_95_32 : pm_at q_95 32 = some (.getfield 161, 3) := by decide +kernel
theorem i_95_35 : pm_at q_95 35 = some (.iload_n 1, 1) := by decide +kernel
theorem i_95_36 : pm_at q_95 36 = some (.aaload, 1) := by decide +kernel
theorem i_95_37 : pm_at q_95 37 = some (.getfield 189, 3) := by decide +kernel
theorem i_95_40 : pm_at q_95 40 = some (.istore_n 3, 1) := by decide +kernel
theorem i_95_41 : pm_at q_95 41 = some (.iconst (-1), 1) := by decide +kernel
theorem i_95_42 : pm_at q_95 42 = some (.istore 4, 2) := by decide +kernel
theorem i_95_44 : pm_at q_95 44 = some (.bipush 7, 2) := by decide +kernel
theorem i_95_46 : pm_at q_95 46 = some (.istore 5, 2) := by decide +kernel
theorem i_95_48 : pm_at q_95 48 = some (.iconst 0, 1) := by decide +kernel
theorem i_95_49 : pm_at q_95 49 = some (.istore 6, 2) := by decide +kernel
theorem i_95_51 : pm_at q_95 51 = some (.iload 6, 2) := by decide +kernel
theorem i_95_53 : pm_at q_95 53 = some (.bipush 12, 2) := by decide +kernel
theorem i_95_55 : pm_at q_95 55 = some (.if_icmp .gt 57, 3) := by decide +kernel
theorem i_95_58 : pm_at q_95 58 = some (.iconst 0, 1) := by decide +kernel
theorem i_95_59 : pm_at q_95 59 = some (.istore 7, 2) := by decide +kernel
theorem i_95_61 : pm_at q_95 61 = some (.iload 7, 2) := by decide +kernel
theorem i_95_63 : pm_at q_95 63 = some (.iconst 3, 1) := by decide +kernel
theorem i_95_64 : pm_at q_95 64 = some (.if_icmp .gt 42, 3) := by decide +kernel
theorem i_95_67 : pm_at q_95 67 = some (.aload_n 0, 1) := by decide +kernel
theorem i_95_68 : pm_at q_95 68 = some (.iload_n 2, 1) := by decide +kernel
theorem i_95_69 : pm_at q_95 69 = some (.iload_n 3, 1) := by decide +kernel
theorem i_95_70 : pm_at q_95 70 = some (.iload 6, 2) := by decide +kernel
theorem i_95_72 : pm_at q_95 72 = some (.iload 7, 2) := by decide +kernel
theorem i_95_74 : pm_at q_95 74 = some (.invokevirtual 275, 3) := by decide +kernel
theorem i_95_77 : pm_at q_95 77 = some (.istore 8, 2) := by decide +kernel
theorem i_95_79 : pm_at q_95 79 = some (.iload 8, 2) := by decide +kernel
theorem i_95_81 : pm_at q_95 81 = some (.iload 5, 2) := by decide +kernel
theorem i_95_83 : pm_at q_95 83 = some (.if_icmp .ge 17, 3) := by decide +kernel
theorem i_95_86 : pm_at q_95 86 = some (.bipush 10, 2) := by decide +kernel
theorem i_95_88 : pm_at q_95 88 = some (.iload 6, 2) := by decide +kernel
theorem i_95_90 : pm_at q_95 90 = some (.imul, 1) := by decide +kernel
theorem i_95_91 : pm_at q_95 91 = some (.iload 7, 2) := by decide +kernel
theorem i_95_93 : pm_at q_95 93 = some (.iadd, 1) := by decide +kernel
theorem i_95_94 : pm_at q_95 94 = some (.istore 4, 2) := by decide +kernel
theorem i_95_96 : pm_at q_95 96 = some (.iload 8, 2) := by decide +kernel
theorem i_95_98 : pm_at q_95 98 = some (.istore 5, 2) := by decide +kernel
theorem i_95_100 : pm_at q_95 100 = some (.iinc 7 1, 3) := by decide +kernel
theorem i_95_103 : pm_at q_95 103 = some (.goto (-42), 3) := by decide +kernel
theorem i_95_106 : pm_at q_95 106 = some (.iinc 6 1, 3) := by decide +kernel
theorem i_95_109 : pm_at q_95 109 = some (.goto (-58), 3) := by decide +kernel
theorem i_95_112 : pm_at q_95 112 = some (.iload 4, 2) := by decide +kernel
theorem i_95_114 : pm_at q_95 114 = some (.ireturn, 1) := by decide +kernel
theorem i_96_0 : pm_at q_96 0 = some (.aload_n 0, 1) := by decide +kernel
theorem i_96_1 : pm_at q_96 1 = some (.iload_n 1, 1) := by decide +kernel
theorem i_96_2 : pm_at q_96 2 = some (.invokevirtual 158, 3) := by decide +kernel
theorem i_96_5 : pm_at q_96 5 = some (.ifCond .ne 12, 3) := by decide +kernel
theorem i_96_8 : pm_at q_96 8 = some (.iload_n 2, 1) := by decide +kernel
theorem i_96_9 : pm_at q_96 9 = some (.iconst 0, 1) := by decide +kernel
theorem i_96_10 : pm_at q_96 10 = some (.iconst 1, 1) := by decide +kernel
theorem i_96_11 : pm_at q_96 11 = some (.invokestatic 89, 3) := by decide +kernel
theorem i_96_14 : pm_at q_96 14 = some (.ifCond .eq 8, 3) := by decide +kernel
theorem i_96_17 : pm_at q_96 17 = some (.aload_n 0, 1) := by decide +kernel
theorem i_96_18 : pm_at q_96 18 = some (.invokevirtual 93, 3) := by decide +kernel
theorem i_96_21 : pm_at q_96 21 = some (.ireturn, 1) := by decide +kernel
theorem i_96_22 : pm_at q_96 22 = some (.aload_n 0, 1) := by decide +kernel
theorem i_96_23 : pm_at q_96 23 = some (.getfield 85, 3) := by decide +kernel
theorem i_96_26 : pm_at q_96 26 = some (.aload_n 0, 1) := by decide +kernel
theorem i_96_27 : pm_at q_96 27 = some (.getfield 78, 3) := by decide +kernel
theorem i_96_30 : pm_at q_96 30 = some (.getfield 97, 3) := by decide +kernel
theorem i_96_33 : pm_at q_96 33 = some (.invokevirtual 134, 3) := by decide +kernel
theorem i_96_36 : pm_at q_96 36 = some (.aload_n 0, 1) := by decide +kernel
theorem i_96_37 : pm_at q_96 37 = some (.getfield 85, 3) := by decide +kernel
theorem i_96_40 : pm_at q_96 40 = some (.getfield 161, 3) := by decide +kernel
theorem i_96_43 : pm_at q_96 43 = some (.iload_n 1, 1) := by decide +kernel
theorem i_96_44 : pm_at q_96 44 = some (.aaload, 1) := by decide +kernel
theorem i_96_45 : pm_at q_96 45 = some (.astore_n 3, 1) := by decide +kernel
theorem i_96_46 : pm_at q_96 46 = some (.iload_n 2, 1) := by decide +kernel
theorem i_96_47 : pm_at q_96 47 = some (.ifCond .ne 8, 3) := by decide +kernel
theorem i_96_50 : pm_at q_96 50 = some (.bipush 9, 2) := by decide +kernel
theorem i_96_52 : pm_at q_96 52 = some (.goto 5, 3) := by decide +kernel
theorem i_96_55 : pm_at q_96 55 = some (.bipush 9, 2) := by decide +kernel
theorem i_96_57 : pm_at q_96 57 = some (.istore 4, 2) := by decide +kernel
theorem i_96_59 : pm_at q_96 59 = some (.iconst 0, 1) := by decide +kernel
theorem i_96_60 : pm_at q_96 60 = some (.istore 5, 2) := by decide +kernel
theorem i_96_62 : pm_at q_96 62 = some (.iload_n 2, 1) := by decide +kernel
theorem i_96_63 : pm_at q_96 63 = some (.ifCond .ne 7, 3) := by decide +kernel
theorem i_96_66 : pm_at q_96 66 = some (.iconst 0, 1) := by decide +kernel
theorem i_96_67 : pm_at q_96 67 = some (.goto 4, 3) := by decide +kernel
theorem i_96_70 : pm_at q_96 70 = some (.iconst 1, 1) := by decide +kernel
theorem i_96_71 : pm_at q_96 71 = some (.istore 6, 2) := by decide +kernel
theorem i_96_73 : pm_at q_96 73 = some (.iload 6, 2) := by decide +kernel
theorem i_96_75 : pm_at q_96 75 = some (.iload 4, 2) := by decide +kernel
theorem i_96_77 : pm_at q_96 77 = some (.if_icmp .gt 44, 3) := by decide +kernel
theorem i_96_80 : pm_at q_96 80 = some (.iload_n 2, 1) := by decide +kernel
theorem i_96_81 : pm_at q_96 81 = some (.ifCond .ne 12, 3) := by decide +kernel
theorem i_96_84 : pm_at q_96 84 = some (.aload_n 3, 1) := by decide +kernel
theorem i_96_85 : pm_at q_96 85 = some (.iload 6, 2) := by decide +kernel
theorem i_96_87 : pm_at q_96 87 = some (.putfield 192, 3) := by decide +kernel
theorem i_96_90 : pm_at q_96 90 = some (.goto 9, 3) := by decide +kernel
theorem i_96_93 : pm_at q_96 93 = some (.aload_n 3, 1) := by decide +kernel
theorem i_96_94 : pm_at q_96 94 = some (.iload 6, 2) := by decide +kernel
theorem i_96_96 : pm_at q_96 96 = some (.putfield 189, 3) := by decide +kernel
theorem i_96_99 : pm_at q_96 99 = some (.aload_n 0, 1) := by decide +kernel
theorem i_96_100 : pm_at q_96 100 = some (.invokevirtual 278, 3) := by decide +kernel
theorem i_96_103 : pm_at q_96 103 = some (.ifCond .eq 12, 3) := by decide +kernel
theorem i_96_106 : pm_at q_96 106 = some (.iload 5, 2) := by decide +kernel
theorem i_96_108 : pm_at q_96 108 = some (.iconst 1, 1) := by decide +kernel
theorem i_96_109 : pm_at q_96 109 = some (.iload 6, 2) := by decide +kernel
theorem i_96_111 : pm_at q_96 111 = some (.ishl, 1) := by decide +kernel
theorem i_96_112 : pm_at q_96 112 = some (.ior, 1) := by decide +kernel
theorem i_96_113 : pm_at q_96 113 = some (.istore 5, 2) := by decide +kernel
theorem i_96_115 : pm_at q_96 115 = some (.iinc 6 1, 3) := by decide +kernel
theorem i_96_118 : pm_at q_96 118 = some (.goto (-45), 3) := by decide +kernel
theorem i_96_121 : pm_at q_96 121 = some (.iload 5, 2) := by decide +kernel
theorem i_96_123 : pm_at q_96 123 = some (.ireturn, 1) := by decide +kernel
theorem i_97_0 : pm_at q_97 0 = some (.iload_n 1, 1) := by decide +kernel
theorem i_97_1 : pm_at q_97 1 = some (.iconst (-1), 1) := by decide +kernel
theorem i_97_2 : pm_at q_97 2 = some (.if_icmp .ge 8, 3) := by decide +kernel
theorem i_97_5 : pm_at q_97 5 = some (.aload_n 0, 1) := by decide +kernel
theorem i_97_6 : pm_at q_97 6 = some (.invokevirtual 239, 3) := by decide +kernel
theorem i_97_9 : pm_at q_97 9 = some (.ireturn, 1) := by decide +kernel
theorem i_97_10 : pm_at q_97 10 = some (.iconst 0, 1) := by decide +kernel
theorem i_97_11 : pm_at q_97 11 = some (.istore_n 2, 1) := by decide +kernel
theorem i_97_12 : pm_at q_97 12 = some (.iload_n 2, 1) := by decide +kernel
theorem i_97_13 : pm_at q_97 13 = some (.bipush 12, 2) := by decide +kernel
theorem i_97_15 : pm_at q_97 15 = some (.if_icmp .gt 43, 3) := by decide +kernel
theorem i_97_18 : pm_at q_97 18 = some (.aload_n 0, 1) := by decide +kernel
theorem i_97_19 : pm_at q_97 19 = some (.getfield 33, 3) := by decide +kernel
theorem i_97_22 : pm_at q_97 22 = some (.iload_n 2, 1) := by decide +kernel
theorem i_97_23 : pm_at q_97 23 = some (.aload_n 0, 1) := by decide +kernel
theorem i_97_24 : pm_at q_97 24 = some (.getfield 78, 3) := by decide +kernel
theorem i_97_27 : pm_at q_97 27 = some (.getfield 97, 3) := by decide +kernel
theorem i_97_30 : pm_at q_97 30 = some (.iload_n 2, 1) := by decide +kernel
theorem i_97_31 : pm_at q_97 31 = some (.invokevirtual 227, 3) := by decide +kernel
theorem i_97_34 : pm_at q_97 34 = some (.iastore, 1) := by decide +kernel
theorem i_97_35 : pm_at q_97 35 = some (.aload_n 0, 1) := by decide +kernel
theorem i_97_36 : pm_at q_97 36 = some (.getfield 37, 3) := by decide +kernel
theorem i_97_39 : pm_at q_97 39 = some (.iload_n 2, 1) := by decide +kernel
theorem i_97_40 : pm_at q_97 40 = some (.aload_n 0, 1) := by decide +kernel
theorem i_97_41 : pm_at q_97 41 = some (.getfield 78, 3) := by decide +kernel
theorem i_97_44 : pm_at q_97 44 = some (.getfield 97, 3) := by decide +kernel
theorem i_97_47 : pm_at q_97 47 = some (.iload_n 2, 1) := by decide +kernel
theorem i_97_48 : pm_at q_97 48 = some (.invokevirtual 281, 3) := by decide +kernel
theorem i_97_51 : pm_at q_97 51 = some (.iastore, 1) := by decide +kernel
theorem i_97_52 : pm_at q_97 52 = some (.iinc 2 1, 3) := by decide +kernel
theorem i_97_55 : pm_at q_97 55 = some (.goto (-43), 3) := by decide +kernel
theorem i_97_58 : pm_at q_97 58 = some (.iconst 0, 1) := by decide +kernel
theorem i_97_59 : pm_at q_97 59 = some (.istore_n 2, 1) := by decide +kernel
theorem i_97_60 : pm_at q_97 60 = some (.iconst 0, 1) := by decide +kernel
theorem i_97_61 : pm_at q_97 61 = some (.istore_n 3, 1) := by decide +kernel
theorem i_97_62 : pm_at q_97 62 = some (.iload_n 3, 1) := by decide +kernel
theorem i_97_63 : pm_at q_97 63 = some (.sipush 169, 3) := by decide +kernel
theorem i_97_66 : pm_at q_97 66 = some (.if_icmp .ge 34, 3) := by decide +kernel
theorem i_97_69 : pm_at q_97 69 = some (.aload_n 0, 1) := by decide +kernel
theorem i_97_70 : pm_at q_97 70 = some (.iload_n 3, 1) := by decide +kernel
theorem i_97_71 : pm_at q_97 71 = some (.bipush 13, 2) := by decide +kernel
theorem i_97_73 : pm_at q_97 73 = some (.idiv, 1) := by decide +kernel
theorem i_97_74 : pm_at q_97 74 = some (.iload_n 3, 1) := by decide +kernel
theorem i_97_75 : pm_at q_97 75 = some (.bipush 13, 2) := by decide +kernel
theorem i_97_77 : pm_at q_97 77 = some (.irem, 1) := by decide +kernel
theorem i_97_78 : pm_at q_97 78 = some (.invokevirtual 284, 3) := by decide +kernel
theorem i_97_81 : pm_at q_97 81 = some (.ifCond .eq 13, 3) := by decide +kernel
theorem i_97_84 : pm_at q_97 84 = some (.iload_n 2, 1) := by decide +kernel
theorem i_97_85 : pm_at q_97 85 = some (.iload_n 1, 1) := by decide +kernel
theorem i_97_86 : pm_at q_97 86 = some (.if_icmp .ne 5, 3) := by decide +kernel
theorem i_97_89 : pm_at q_97 89 = some (.iload_n 3, 1) := by decide +kernel
theorem i_97_90 : pm_at q_97 90 = some (.ireturn, 1) := by decide +kernel
theorem i_97_91 : pm_at q_97 91 = some (.iinc 2 1, 3) := by decide +kernel
theorem i_97_94 : pm_at q_97 94 = some (.iinc 3 1, 3) := by decide +kernel
theorem i_97_97 : pm_at q_97 97 = some (.goto (-35), 3) := by decide +kernel
theorem i_97_100 : pm_at q_97 100 = some (.iload_n 1, 1) := by decide +kernel
theorem i_97_101 : pm_at q_97 101 = some (.iconst (-1), 1) := by decide +kernel
theorem i_97_102 : pm_at q_97 102 = some (.if_icmp .ne 7, 3) := by decide +kernel
theorem i_97_105 : pm_at q_97 105 = some (.iload_n 2, 1) := by decide +kernel
theorem i_97_106 : pm_at q_97 106 = some (.goto 5, 3) := by decide +kernel
theorem i_97_109 : pm_at q_97 109 = some (.bipush (-5), 2) := by decide +kernel
theorem i_97_111 : pm_at q_97 111 = some (.ireturn, 1) := by decide +kernel
theorem i_98_0 : pm_at q_98 0 = some (.iload_n 1, 1) := by decide +kernel
theorem i_98_1 : pm_at q_98 1 = some (.invokestatic 138, 3) := by decide +kernel
theorem i_98_4 : pm_at q_98 4 = some (.ifCond .ne 13, 3) := by decide +kernel
theorem i_98_7 : pm_at q_98 7 = some (.iload_n 2, 1) := by decide +kernel
theorem i_98_8 : pm_at q_98 8 = some (.iconst 0, 1) := by decide +kernel
theorem i_98_9 : pm_at q_98 9 = some (.bipush 10, 2) := by decide +kernel
theorem i_98_11 : pm_at q_98 11 = some (.invokestatic 89, 3) := by decide +kernel
theorem i_98_14 : pm_at q_98 14 = some (.ifCond .eq 8, 3) := by decide +kernel
theorem i_98_17 : pm_at q_98 17 = some (.aload_n 0, 1) := by decide +kernel
theorem i_98_18 : pm_at q_98 18 = some (.invokevirtual 93, 3) := by decide +kernel
theorem i_98_21 : pm_at q_98 21 = some (.ireturn, 1) := by decide +kernel
theorem i_98_22 : pm_at q_98 22 = some (.aload_n 0, 1) := by decide +kernel
theorem i_98_23 : pm_at q_98 23 = some (.getfield 78, 3) := by decide +kernel
theorem i_98_26 : pm_at q_98 26 = some (.getfield 97, 3) := by decide +kernel
theorem i_98_29 : pm_at q_98 29 = some (.invokevirtual 287, 3) := by decide +kernel
theorem i_98_32 : pm_at q_98 32 = some (.istore_n 3, 1) := by decide +kernel
theorem i_98_33 : pm_at q_98 33 = some (.iload_n 3, 1) := by decide +kernel
theorem i_98_34 : pm_at q_98 34 = some (.invokestatic 290, 3) := by decide +kernel
theorem i_98_37 : pm_at q_98 37 = some (.istore 4, 2) := by decide +kernel
theorem i_98_39 : pm_at q_98 39 = some (.lconst 0, 1) := by decide +kernel
theorem i_98_40 : pm_at q_98 40 = some (.lstore 5, 2) := by decide +kernel
theorem i_98_42 : pm_at q_98 42 = some (.iconst 0, 1) := by decide +kernel
theorem i_98_43 : pm_at q_98 43 = some (.istore 7, 2) := by decide +kernel
theorem i_98_45 : pm_at q_98 45 = some (.iload 7, 2) := by decide +kernel
theorem i_98_47 : pm_at q_98 47 = some (.iload_n 3, 1) := by decide +kernel
theorem i_98_48 : pm_at q_98 48 = some (.if_icmp .gt 71, 3) := by decide +kernel
theorem i_98_51 : pm_at q_98 51 = some (.iload 7, 2) := by decide +kernel
theorem i_98_53 : pm_at q_98 53 = some (.iload_n 3, 1) := by decide +kernel
theorem i_98_54 : pm_at q_98 54 = some (.iconst (-1), 1) := by decide +kernel
theorem i_98_55 : pm_at q_98 55 = some (.ixor, 1) := by decide +kernel
theorem i_98_56 : pm_at q_98 56 = some (.iand, 1) := by decide +kernel
theorem i_98_57 : pm_at q_98 57 = some (.ifCond .ne 56, 3) := by decide +kernel
theorem i_98_60 : pm_at q_98 60 = some (.iload 7, 2) := by decide +kernel
theorem i_98_62 : pm_at q_98 62 = some (.invokestatic 290, 3) := by decide +kernel
theorem i_98_65 : pm_at q_98 65 = some (.istore 8, 2) := by decide +kernel
theorem i_98_67 : pm_at q_98 67 = some (.iload_n 2, 1) := by decide +kernel
theorem i_98_68 : pm_at q_98 68 = some (.iload 8, 2) := by decide +kernel
theorem i_98_70 : pm_at q_98 70 = some (.invokestatic 295, 3) := by decide +kernel
theorem i_98_73 : pm_at q_98 73 = some (.bipush 10, 2) := by decide +kernel
theorem i_98_75 : pm_at q_98 75 = some (.iload_n 2, 1) := by decide +kernel
theorem i_98_76 : pm_at q_98 76 = some (.isub, 1) := by decide +kernel
theorem i_98_77 : pm_at q_98 77 = some (.iload 4, 2) := by decide +kernel
theorem i_98_79 : pm_at q_98 79 = some (.iload 8, 2) := by decide +kernel
theorem i_98_81 : pm_at q_98 81 = some (.isub, 1) := by decide +kernel
theorem i_98_82 : pm_at q_98 82 = some (.invokestatic 295, 3) := by decide +kernel
theorem i_98_85 : pm_at q_98 85 = some (.lmul, 1) := by decide +kernel
theorem i_98_86 : pm_at q_98 86 = some (.lstore 9, 2) := by decide +kernel
theorem i_98_88 : pm_at q_98 88 = some (.lload 5, 2) := by decide +kernel
theorem i_98_90 : pm_at q_98 90 = some (.lload 9, 2) := by decide +kernel
theorem i_98_92 : pm_at q_98 92 = some (.aload_n 0, 1) := by decide +kernel
theorem i_98_93 : pm_at q_98 93 = some (.getfield 78, 3) := by decide +kernel
theorem i_98_96 : pm_at q_98 96 = some (.getfield 97, 3) := by decide +kernel
theorem i_98_99 : pm_at q_98 99 = some (.iload_n 1, 1) := by decide +kernel
theorem i_98_100 : pm_at q_98 100 = some (.iload 7, 2) := by decide +kernel
theorem i_98_102 : pm_at q_98 102 = some (.invokevirtual 154, 3) := by decide +kernel
theorem i_98_105 : pm_at q_98 105 = some (.invokestatic 290, 3) := by decide +kernel
theorem i_98_108 : pm_at q_98 108 = some (.i2l, 1) := by decide +kernel
theorem i_98_109 : pm_at q_98 109 = some (.lmul, 1) := by decide +kernel
theorem i_98_110 : pm_at q_98 110 = some (.ladd, 1) := by decide +kernel
theorem i_98_111 : pm_at q_98 111 = some (.lstore 5, 2) := by decide +kernel
theorem i_98_113 : pm_at q_98 113 = some (.iinc 7 1, 3) := by decide +kernel
theorem i_98_116 : pm_at q_98 116 = some (.goto (-71), 3) := by decide +kernel
theorem i_98_119 : pm_at q_98 119 = some (.aload_n 0, 1) := by decide +kernel
theorem i_98_120 : pm_at q_98 120 = some (.lload 5, 2) := by decide +kernel
theorem i_98_122 : pm_at q_98 122 = some (.bipush 10, 2) := by decide +kernel
theorem i_98_124 : pm_at q_98 124 = some (.iload 4, 2) := by decide +kernel
theorem i_98_126 : pm_at q_98 126 = some (.invokestatic 295, 3) := by decide +kernel
theorem i_98_129 : pm_at q_98 129 = some (.invokevirtual 299, 3) := by decide +kernel
theorem i_98_132 : pm_at q_98 132 = some (.iconst 1, 1) := by decide +kernel
theorem i_98_133 : pm_at q_98 133 = some (.ireturn, 1) := by decide +kernel
theorem i_99_0 : pm_at q_99 0 = some (.iload_n 1, 1) := by decide +kernel
theorem i_99_1 : pm_at q_99 1 = some (.iconst 0, 1) := by decide +kernel
theorem i_99_2 : pm_at q_99 2 = some (.ldc_w 303, 3) := by decide +kernel
theorem i_99_5 : pm_at q_99 5 = some (.invokestatic 89, 3) := by decide +kernel
theorem i_99_8 : pm_at q_99 8 = some (.ifCond .ne 13, 3) := by decide +kernel
theorem i_99_11 : pm_at q_99 11 = some (.iload_n 2, 1) := by decide +kernel
theorem i_99_12 : pm_at q_99 12 = some (.iconst 0, 1) := by decide +kernel
theorem i_99_13 : pm_at q_99 13 = some (.bipush 60, 2) := by decide +kernel
theorem i_99_15 : pm_at q_99 15 = some (.invokestatic 89, 3) := by decide +kernel
theorem i_99_18 : pm_at q_99 18 = some (.ifCond .eq 8, 3) := by decide +kernel
theorem i_99_21 : pm_at q_99 21 = some (.aload_n 0, 1) := by decide +kernel
theorem i_99_22 : pm_at q_99 22 = some (.invokevirtual 93, 3) := by decide +kernel
theorem i_99_25 : pm_at q_99 25 = some (.ireturn, 1) := by decide +kernel
theorem i_99_26 : pm_at q_99 26 = some (.aload_n 0, 1) := by decide +kernel
theorem i_99_27 : pm_at q_99 27 = some (.getfield 85, 3) := by decide +kernel
theorem i_99_30 : pm_at q_99 30 = some (.aload_n 0, 1) := by decide +kernel
theorem i_99_31 : pm_at q_99 31 = some (.getfield 78, 3) := by decide +kernel
theorem i_99_34 : pm_at q_99 34 = some (.getfield 97, 3) := by decide +kernel
theorem i_99_37 : pm_at q_99 37 = some (.invokevirtual 134, 3) := by decide +kernel
theorem i_99_40 : pm_at q_99 40 = some (.iload_n 1, 1) := by decide +kernel
theorem i_99_41 : pm_at q_99 41 = some (.i2l, 1) := by decide +kernel
theorem i_99_42 : pm_at q_99 42 = some (.lstore_n 3, 1) := by decide +kernel
theorem i_99_43 : pm_at q_99 43 = some (.iconst 0, 1) := by decide +kernel
theorem i_99_44 : pm_at q_99 44 = some (.istore 5, 2) := by decide +kernel
theorem i_99_46 : pm_at q_99 46 = some (.iconst 0, 1) := by decide +kernel
theorem i_99_47 : pm_at q_99 47 = some (.istore 6, 2) := by decide +kernel
theorem i_99_49 : pm_at q_99 49 = some (.iload 6, 2) := by decide +kernel
theorem i_99_51 : pm_at q_99 51 = some (.iload_n 2, 1) := by decide +kernel
theorem i_99_52 : pm_at q_99 52 = some (.if_icmp .ge 58, 3) := by decide +kernel
theorem i_99_55 : pm_at q_99 55 = some (.lload_n 3, 1) := by decide +kernel
theorem i_99_56 : pm_at q_99 56 = some (.ldc2_w 304, 3) := by decide +kernel
theorem i_99_59 : pm_at q_99 59 = some (.lmul, 1) := by decide +kernel
theorem i_99_60 : pm_at q_99 60 = some (.ldc2_w 306, 3) := by decide +kernel
theorem i_99_63 : pm_at q_99 63 = some (.ladd, 1) := by decide +kernel
theorem i_99_64 : pm_at q_99 64 = some (.ldc2_w 308, 3) := by decide +kernel
theorem i_99_67 : pm_at q_99 67 = some (.lrem, 1) := by decide +kernel
theorem i_99_68 : pm_at q_99 68 = some (.lstore_n 3, 1) := by decide +kernel
theorem i_99_69 : pm_at q_99 69 = some (.lload_n 3, 1) := by decide +kernel
theorem i_99_70 : pm_at q_99 70 = some (.ldc2_w 310, 3) := by decide +kernel
theorem i_99_73 : pm_at q_99 73 = some (.ldiv, 1) := by decide +kernel
theorem i_99_74 : pm_at q_99 74 = some (.ldc2_w 312, 3) := by decide +kernel
theorem i_99_77 : pm_at q_99 77 = some (.lrem, 1) := by decide +kernel
theorem i_99_78 : pm_at q_99 78 = some (.l2i, 1) := by decide +kernel
theorem i_99_79 : pm_at q_99 79 = some (.istore 7, 2) := by decide +kernel
theorem i_99_81 : pm_at q_99 81 = some (.aload_n 0, 1) := by decide +kernel
theorem i_99_82 : pm_at q_99 82 = some (.getfield 85, 3) := by decide +kernel
theorem i_99_85 : pm_at q_99 85 = some (.iload 7, 2) := by decide +kernel
theorem i_99_87 : pm_at q_99 87 = some (.invokevirtual 151, 3) := by decide +kernel
theorem i_99_90 : pm_at q_99 90 = some (.iload 5, 2) := by decide +kernel
theorem i_99_92 : pm_at q_99 92 = some (.aload_n 0, 1) := by decide +kernel
theorem i_99_93 : pm_at q_99 93 = some (.getfield 85, 3) := by decide +kernel
theorem i_99_96 : pm_at q_99 96 = some (.iload 7, 2) := by decide +kernel
theorem i_99_98 : pm_at q_99 98 = some (.invokevirtual 227, 3) := by decide +kernel
theorem i_99_101 : pm_at q_99 101 = some (.iadd, 1) := by decide +kernel
theorem i_99_102 : pm_at q_99 102 = some (.istore 5, 2) := by decide +kernel
theorem i_99_104 : pm_at q_99 104 = some (.iinc 6 1, 3) := by decide +kernel
theorem i_99_107 : pm_at q_99 107 = some (.goto (-58), 3) := by decide +kernel
theorem i_99_110 : pm_at q_99 110 = some (.iload 5, 2) := by decide +kernel
theorem i_99_112 : pm_at q_99 112 = some (.ireturn, 1) := by decide +kernel
theorem i_100_0 : pm_at q_100 0 = some (.iload_n 1, 1) := by decide +kernel
theorem i_100_1 : pm_at q_100 1 = some (.lookupswitch 37 #[(0, 27), (1, 32)], 27) := by decide +kernel
theorem i_100_28 : pm_at q_100 28 = some (.aload_n 0, 1) := by decide +kernel
theorem i_100_29 : pm_at q_100 29 = some (.getfield 40, 3) := by decide +kernel
theorem i_100_32 : pm_at q_100 32 = some (.lreturn, 1) := by decide +kernel
theorem i_100_33 : pm_at q_100 33 = some (.aload_n 0, 1) := by decide +kernel
theorem i_100_34 : pm_at q_100 34 = some (.getfield 44, 3) := by decide +kernel
theorem i_100_37 : pm_at q_100 37 = some (.lreturn, 1) := by decide +kernel
theorem i_100_38 : pm_at q_100 38 = some (.aload_n 0, 1) := by decide +kernel
theorem i_100_39 : pm_at q_100 39 = some (.invokevirtual 93, 3) := by decide +kernel
theorem i_100_42 : pm_at q_100 42 = some (.i2l, 1) := by decide +kernel
theorem i_100_43 : pm_at q_100 43 = some (.lreturn, 1) := by decide +kernel
theorem i_101_0 : pm_at q_101 0 = some (.iload_n 1, 1) := by decide +kernel
theorem i_101_1 : pm_at q_101 1 = some (.iconst 0, 1) := by decide +kernel
theorem i_101_2 : pm_at q_101 2 = some (.iconst 1, 1) := by decide +kernel
theorem i_101_3 : pm_at q_101 3 = some (.invokestatic 89, 3) := by decide +kernel
theorem i_101_6 : pm_at q_101 6 = some (.ifCond .eq 8, 3) := by decide +kernel
theorem i_101_9 : pm_at q_101 9 = some (.aload_n 0, 1) := by decide +kernel
theorem i_101_10 : pm_at q_101 10 = some (.invokevirtual 93, 3) := by decide +kernel
theorem i_101_13 : pm_at q_101 13 = some (.ireturn, 1) := by decide +kernel
theorem i_101_14 : pm_at q_101 14 = some (.aload_n 0, 1) := by decide +kernel
theorem i_101_15 : pm_at q_101 15 = some (.getfield 11, 3) := by decide +kernel
theorem i_101_18 : pm_at q_101 18 = some (.iload_n 1, 1) := by decide +kernel
theorem i_101_19 : pm_at q_101 19 = some (.aaload, 1) := by decide +kernel
theorem i_101_20 : pm_at q_101 20 = some (.aload_n 0, 1) := by decide +kernel
theorem i_101_21 : pm_at q_101 21 = some (.getfield 78, 3) := by decide +kernel
theorem i_101_24 : pm_at q_101 24 = some (.invokevirtual 314, 3) := by decide +kernel
theorem i_101_27 : pm_at q_101 27 = some (.aload_n 0, 1) := by decide +kernel
theorem i_101_28 : pm_at q_101 28 = some (.getfield 15, 3) := by decide +kernel
theorem i_101_31 : pm_at q_101 31 = some (.iload_n 1, 1) := by decide +kernel
theorem i_101_32 : pm_at q_101 32 = some (.iconst 1, 1) := by decide +kernel
theorem i_101_33 : pm_at q_101 33 = some (.bastore, 1) := by decide +kernel
theorem i_101_34 : pm_at q_101 34 = some (.iconst 1, 1) := by decide +kernel
theorem i_101_35 : pm_at q_101 35 = some (.ireturn, 1) := by decide +kernel
theorem i_102_0 : pm_at q_102 0 = some (.iload_n 1, 1) := by decide +kernel
theorem i_102_1 : pm_at q_102 1 = some (.iconst 0, 1) := by decide +kernel
theorem i_102_2 : pm_at q_102 2 = some (.iconst 1, 1) := by decide +kernel
theorem i_102_3 : pm_at q_102 3 = some (.invokestatic 89, 3) := by decide +kernel
theorem i_102_6 : pm_at q_102 6 = some (.ifCond .eq 8, 3) := by decide +kernel
theorem i_102_9 : pm_at q_102 9 = some (.aload_n 0, 1) := by decide +kernel
theorem i_102_10 : pm_at q_102 10 = some (.invokevirtual 93, 3) := by decide +kernel
theorem i_102_13 : pm_at q_102 13 = some (.ireturn, 1) := by decide +kernel
theorem i_102_14 : pm_at q_102 14 = some (.aload_n 0, 1) := by decide +kernel
theorem i_102_15 : pm_at q_102 15 = some (.getfield 15, 3) := by decide +kernel
theorem i_102_18 : pm_at q_102 18 = some (.iload_n 1, 1) := by decide +kernel
theorem i_102_19 : pm_at q_102 19 = some (.baload, 1) := by decide +kernel
theorem i_102_20 : pm_at q_102 20 = some (.ifCond .ne 8, 3) := by decide +kernel
theorem i_102_23 : pm_at q_102 23 = some (.aload_n 0, 1) := by decide +kernel
theorem i_102_24 : pm_at q_102 24 = some (.invokevirtual 145, 3) := by decide +kernel
theorem i_102_27 : pm_at q_102 27 = some (.ireturn, 1) := by decide +kernel
theorem i_102_28 : pm_at q_102 28 = some (.aload_n 0, 1) := by decide +kernel
theorem i_102_29 : pm_at q_102 29 = some (.getfield 78, 3) := by decide +kernel
theorem i_102_32 : pm_at q_102 32 = some (.aload_n 0, 1) := by decide +kernel
theorem i_102_33 : pm_at q_102 33 = some (.getfield 11, 3) := by decide +kernel
theorem i_102_36 : pm_at q_102 36 = some (.iload_n 1, 1) := by decide +kernel
theorem i_102_37 : pm_at q_102 37 = some (.aaload, 1) := by decide +kernel
theorem i_102_38 : pm_at q_102 38 = some (.invokevirtual 314, 3) := by decide +kernel
theorem i_102_41 : pm_at q_102 41 = some (.iconst 1, 1) := by decide +kernel
theorem i_102_42 : pm_at q_102 42 = some (.ireturn, 1) := by decide +kernel
theorem i_103_0 : pm_at q_103 0 = some (.iload_n 1, 1) := by decide +kernel
theorem i_103_1 : pm_at q_103 1 = some (.tableswitch 42 0 2 #[27, 32, 37], 27) := by decide +kernel
theorem i_103_28 : pm_at q_103 28 = some (.aload_n 0, 1) := by decide +kernel
theorem i_103_29 : pm_at q_103 29 = some (.getfield 47, 3) := by decide +kernel
theorem i_103_32 : pm_at q_103 32 = some (.ireturn, 1) := by decide +kernel
theorem i_103_33 : pm_at q_103 33 = some (.aload_n 0, 1) := by decide +kernel
theorem i_103_34 : pm_at q_103 34 = some (.getfield 51, 3) := by decide +kernel
theorem i_103_37 : pm_at q_103 37 = some (.ireturn, 1) := by decide +kernel
theorem i_103_38 : pm_at q_103 38 = some (.aload_n 0, 1) := by decide +kernel
theorem i_103_39 : pm_at q_103 39 = some (.getfield 54, 3) := by decide +kernel
theorem i_103_42 : pm_at q_103 42 = some (.ireturn, 1) := by decide +kernel
theorem i_103_43 : pm_at q_103 43 = some (.aload_n 0, 1) := by decide +kernel
theorem i_103_44 : pm_at q_103 44 = some (.dup, 1) := by decide +kernel
theorem i_103_45 : pm_at q_103 45 = some (.getfield 47, 3) := by decide +kernel
theorem i_103_48 : pm_at q_103 48 = some (.iconst 1, 1) := by decide +kernel
theorem i_103_49 : pm_at q_103 49 = some (.iadd, 1) := by decide +kernel
theorem i_103_50 : pm_at q_103 50 = some (.putfield 47, 3) := by decide +kernel
theorem i_103_53 : pm_at q_103 53 = some (.iconst (-1), 1) := by decide +kernel
theorem i_103_54 : pm_at q_103 54 = some (.ireturn, 1) := by decide +kernel
theorem i_104_0 : pm_at q_104 0 = some (.aload_n 0, 1) := by decide +kernel
theorem i_104_1 : pm_at q_104 1 = some (.getfield 78, 3) := by decide +kernel
theorem i_104_4 : pm_at q_104 4 = some (.getfield 97, 3) := by decide +kernel
theorem i_104_7 : pm_at q_104 7 = some (.astore_n 2, 1) := by decide +kernel
theorem i_104_8 : pm_at q_104 8 = some (.iload_n 1, 1) := by decide +kernel
theorem i_104_9 : pm_at q_104 9 = some (.tableswitch 133 0 9 #[55, 60, 65, 70, 83, 96, 101, 109, 117, 125], 55) := by decide +kernel
theorem i_104_64 : pm_at q_104 64 = some (.aload_n 2, 1) := by decide +kernel
theorem i_104_65 : pm_at q_104 65 = some (.getfield 100, 3) := by decide +kernel
theorem i_104_68 : pm_at q_104 68 = some (.ireturn, 1) := by decide +kernel
theorem i_104_69 : pm_at q_104 69 = some (.aload_n 2, 1) := by decide +kernel
theorem i_104_70 : pm_at q_104 70 = some (.getfield 142, 3) := by decide +kernel
theorem i_104_73 : pm_at q_104 73 = some (.ireturn, 1) := by decide +kernel
theorem i_104_74 : pm_at q_104 74 = some (.aload_n 2, 1) := by decide +kernel
theorem i_104_75 : pm_at q_104 75 = some (.getfield 131, 3) := by decide +kernel
theorem i_104_78 : pm_at q_104 78 = some (.ireturn, 1) := by decide +kernel
theorem i_104_79 : pm_at q_104 79 = some (.aload_n 2, 1) := by decide +kernel
theorem i_104_80 : pm_at q_104 80 = some (.aload_n 2, 1) := by decide +kernel
theorem i_104_81 : pm_at q_104 81 = some (.getfield 142, 3) := by decide +kernel
theorem i_104_84 : pm_at q_104 84 = some (.iconst 0, 1) := by decide +kernel
theorem i_104_85 : pm_at q_104 85 = some (.invokevirtual 154, 3) := by decide +kernel
theorem i_104_88 : pm_at q_104 88 = some (.invokestatic 290, 3) := by decide +kernel
theorem i_104_91 : pm_at q_104 91 = some (.ireturn, 1) := by decide +kernel
theorem i_104_92 : pm_at q_104 92 = some (.aload_n 2, 1) := by decide +kernel
theorem i_104_93 : pm_at q_104 93 = some (.getfield 100, 3) := by decide +kernel
theorem i_104_96 : pm_at q_104 96 = some (.aload_n 2, 1) := by decide +kernel
theorem i_104_97 : pm_at q_104 97 = some (.invokevirtual 287, 3) := by decide +kernel
theorem i_104_100 : pm_at q_104 100 = some (.invokestatic 290, 3) := by decide +kernel
theorem i_104_103 : pm_at q_104 103 = some (.isub, 1) := by decide +kernel
theorem i_104_104 : pm_at q_104 104 = some (.ireturn, 1) := by decide +kernel
theorem i_104_105 : pm_at q_104 105 = some (.aload_n 2, 1) := by decide +kernel
theorem i_104_106 : pm_at q_104 106 = some (.invokevirtual 317, 3) := by decide +kernel
theorem i_104_109 : pm_at q_104 109 = some (.ireturn, 1) := by decide +kernel
theorem i_104_110 : pm_at q_104 110 = some (.aload_n 0, 1) := by decide +kernel
theorem i_104_111 : pm_at q_104 111 = some (.getfield 78, 3) := by decide +kernel
theorem i_104_114 : pm_at q_104 114 = some (.getfield 170, 3) := by decide +kernel
theorem i_104_117 : pm_at q_104 117 = some (.ireturn, 1) := by decide +kernel
theorem i_104_118 : pm_at q_104 118 = some (.aload_n 0, 1) := by decide +kernel
theorem i_104_119 : pm_at q_104 119 = some (.getfield 78, 3) := by decide +kernel
theorem i_104_122 : pm_at q_104 122 = some (.getfield 173, 3) := by decide +kernel
theorem i_104_125 : pm_at q_104 125 = some (.ireturn, 1) := by decide +kernel
theorem i_104_126 : pm_at q_104 126 = some (.aload_n 0, 1) := by decide +kernel
theorem i_104_127 : pm_at q_104 127 = some (.getfield 78, 3) := by decide +kernel
theorem i_104_130 : pm_at q_104 130 = some (.getfield 114, 3) := by decide +kernel
theorem i_104_133 : pm_at q_104 133 = some (.ireturn, 1) := by decide +kernel
theorem i_104_134 : pm_at q_104 134 = some (.aload_n 0, 1) := by decide +kernel
theorem i_104_135 : pm_at q_104 135 = some (.getfield 22, 3) := by decide +kernel
theorem i_104_138 : pm_at q_104 138 = some (.getfield 121, 3) := by decide +kernel
theorem i_104_141 : pm_at q_104 141 = some (.ireturn, 1) := by decide +kernel
theorem i_104_142 : pm_at q_104 142 = some (.aload_n 0, 1) := by decide +kernel
theorem i_104_143 : pm_at q_104 143 = some (.invokevirtual 93, 3) := by decide +kernel
theorem i_104_146 : pm_at q_104 146 = some (.ireturn, 1) := by decide +kernel
theorem i_105_0 : pm_at q_105 0 = some (.ldc2_w 320, 3) := by decide +kernel
theorem i_105_3 : pm_at q_105 3 = some (.lstore_n 1, 1) := by decide +kernel
theorem i_105_4 : pm_at q_105 4 = some (.iconst 0, 1) := by decide +kernel
theorem i_105_5 : pm_at q_105 5 = some (.istore_n 3, 1) := by decide +kernel
theorem i_105_6 : pm_at q_105 6 = some (.iload_n 3, 1) := by decide +kernel
theorem i_105_7 : pm_at q_105 7 = some (.bipush 10, 2) := by decide +kernel
theorem i_105_9 : pm_at q_105 9 = some (.if_icmp .ge 20, 3) := by decide +kernel
theorem i_105_12 : pm_at q_105 12 = some (.lload_n 1, 1) := by decide +kernel
theorem i_105_13 : pm_at q_105 13 = some (.aload_n 0, 1) := by decide +kernel
theorem i_105_14 : pm_at q_105 14 = some (.iload_n 3, 1) := by decide +kernel
theorem i_105_15 : pm_at q_105 15 = some (.invokevirtual 322, 3) := by decide +kernel
theorem i_105_18 : pm_at q_105 18 = some (.i2l, 1) := by decide +kernel
theorem i_105_19 : pm_at q_105 19 = some (.invokestatic 325, 3) := by decide +kernel
theorem i_105_22 : pm_at q_105 22 = some (.lstore_n 1, 1) := by decide +kernel
theorem i_105_23 : pm_at q_105 23 = some (.iinc 3 1, 3) := by decide +kernel
theorem i_105_26 : pm_at q_105 26 = some (.goto (-20), 3) := by decide +kernel
theorem i_105_29 : pm_at q_105 29 = some (.aload_n 0, 1) := by decide +kernel
theorem i_105_30 : pm_at q_105 30 = some (.getfield 78, 3) := by decide +kernel
theorem i_105_33 : pm_at q_105 33 = some (.getfield 97, 3) := by decide +kernel
theorem i_105_36 : pm_at q_105 36 = some (.lload_n 1, 1) := by decide +kernel
theorem i_105_37 : pm_at q_105 37 = some (.invokevirtual 329, 3) := by decide +kernel
theorem i_105_40 : pm_at q_105 40 = some (.lstore_n 1, 1) := by decide +kernel
theorem i_105_41 : pm_at q_105 41 = some (.lload_n 1, 1) := by decide +kernel
theorem i_105_42 : pm_at q_105 42 = some (.aload_n 0, 1) := by decide +kernel
theorem i_105_43 : pm_at q_105 43 = some (.getfield 78, 3) := by decide +kernel
theorem i_105_46 : pm_at q_105 46 = some (.getfield 265, 3) := by decide +kernel
theorem i_105_49 : pm_at q_105 49 = some (.aload_n 0, 1) := by decide +kernel
theorem i_105_50 : pm_at q_105 50 = some (.getfield 78, 3) := by decide +kernel
theorem i_105_53 : pm_at q_105 53 = some (.getfield 170, 3) := by decide +kernel
theorem i_105_56 : pm_at q_105 56 = some (.invokestatic 333, 3) := by decide +kernel
theorem i_105_59 : pm_at q_105 59 = some (.lstore_n 1, 1) := by decide +kernel
theorem i_105_60 : pm_at q_105 60 = some (.lload_n 1, 1) := by decide +kernel
theorem i_105_61 : pm_at q_105 61 = some (.aload_n 0, 1) := by decide +kernel
theorem i_105_62 : pm_at q_105 62 = some (.getfield 78, 3) := by decide +kernel
theorem i_105_65 : pm_at q_105 65 = some (.getfield 269, 3) := by decide +kernel
theorem i_105_68 : pm_at q_105 68 = some (.aload_n 0, 1) := by decide +kernel
theorem i_105_69 : pm_at q_105 69 = some (.getfield 78, 3) := by decide +kernel
theorem i_105_72 : pm_at q_105 72 = some (.getfield 173, 3) := by decide +kernel
theorem i_105_75 : pm_at q_105 75 = some (.invokestatic 333, 3) := by decide +kernel
theorem i_105_78 : pm_at q_105 78 = some (.lstore_n 1, 1) := by decide +kernel
theorem i_105_79 : pm_at q_105 79 = some (.lload_n 1, 1) := by decide +kernel
theorem i_105_80 : pm_at q_105 80 = some (.aload_n 0, 1) := by decide +kernel
theorem i_105_81 : pm_at q_105 81 = some (.getfield 40, 3) := by decide +kernel
theorem i_105_84 : pm_at q_105 84 = some (.invokestatic 325, 3) := by decide +kernel
theorem i_105_87 : pm_at q_105 87 = some (.aload_n 0, 1) := by decide +kernel
theorem i_105_88 : pm_at q_105 88 = some (.getfield 44, 3) := by decide +kernel
theorem i_105_91 : pm_at q_105 91 = some (.invokestatic 325, 3) := by decide +kernel
theorem i_105_94 : pm_at q_105 94 = some (.lreturn, 1) := by decide +kernel
theorem i_106_0 : pm_at q_106 0 = some (.aload_n 0, 1) := by decide +kernel
theorem i_106_1 : pm_at q_106 1 = some (.dup, 1) := by decide +kernel
theorem i_106_2 : pm_at q_106 2 = some (.getfield 47, 3) := by decide +kernel
theorem i_106_5 : pm_at q_106 5 = some (.iconst 1, 1) := by decide +kernel
theorem i_106_6 : pm_at q_106 6 = some (.iadd, 1) := by decide +kernel
theorem i_106_7 : pm_at q_106 7 = some (.putfield 47, 3) := by decide +kernel
theorem i_106_10 : pm_at q_106 10 = some (.bipush (-2), 2) := by decide +kernel
theorem i_106_12 : pm_at q_106 12 = some (.ireturn, 1) := by decide +kernel
theorem i_107_0 : pm_at q_107 0 = some (.aload_n 0, 1) := by decide +kernel
theorem i_107_1 : pm_at q_107 1 = some (.dup, 1) := by decide +kernel
theorem i_107_2 : pm_at q_107 2 = some (.getfield 47, 3) := by decide +kernel
theorem i_107_5 : pm_at q_107 5 = some (.iconst 1, 1) := by decide +kernel
theorem i_107_6 : pm_at q_107 6 = some (.iadd, 1) := by decide +kernel
theorem i_107_7 : pm_at q_107 7 = some (.putfield 47, 3) := by decide +kernel
theorem i_107_10 : pm_at q_107 10 = some (.bipush (-10), 2) := by decide +kernel
theorem i_107_12 : pm_at q_107 12 = some (.ireturn, 1) := by decide +kernel
theorem i_108_0 : pm_at q_108 0 = some (.aload_n 0, 1) := by decide +kernel
theorem i_108_1 : pm_at q_108 1 = some (.dup, 1) := by decide +kernel
theorem i_108_2 : pm_at q_108 2 = some (.getfield 51, 3) := by decide +kernel
theorem i_108_5 : pm_at q_108 5 = some (.iconst 1, 1) := by decide +kernel
theorem i_108_6 : pm_at q_108 6 = some (.iadd, 1) := by decide +kernel
theorem i_108_7 : pm_at q_108 7 = some (.putfield 51, 3) := by decide +kernel
theorem i_108_10 : pm_at q_108 10 = some (.bipush (-3), 2) := by decide +kernel
theorem i_108_12 : pm_at q_108 12 = some (.ireturn, 1) := by decide +kernel
theorem i_109_0 : pm_at q_109 0 = some (.aload_n 0, 1) := by decide +kernel
theorem i_109_1 : pm_at q_109 1 = some (.dup, 1) := by decide +kernel
theorem i_109_2 : pm_at q_109 2 = some (.getfield 54, 3) := by decide +kernel
theorem i_109_5 : pm_at q_109 5 = some (.iconst 1, 1) := by decide +kernel
theorem i_109_6 : pm_at q_109 6 = some (.iadd, 1) := by decide +kernel
theorem i_109_7 : pm_at q_109 7 = some (.putfield 54, 3) := by decide +kernel
theorem i_109_10 : pm_at q_109 10 = some (.bipush (-4), 2) := by decide +kernel
theorem i_109_12 : pm_at q_109 12 = some (.ireturn, 1) := by decide +kernel
theorem i_110_0 : pm_at q_110 0 = some (.iload_n 1, 1) := by decide +kernel
theorem i_110_1 : pm_at q_110 1 = some (.iconst 0, 1) := by decide +kernel
theorem i_110_2 : pm_at q_110 2 = some (.aload_n 0, 1) := by decide +kernel
theorem i_110_3 : pm_at q_110 3 = some (.getfield 78, 3) := by decide +kernel
theorem i_110_6 : pm_at q_110 6 = some (.getfield 97, 3) := by decide +kernel
theorem i_110_9 : pm_at q_110 9 = some (.getfield 100, 3) := by decide +kernel
theorem i_110_12 : pm_at q_110 12 = some (.iconst 1, 1) := by decide +kernel
theorem i_110_13 : pm_at q_110 13 = some (.isub, 1) := by decide +kernel
theorem i_110_14 : pm_at q_110 14 = some (.invokestatic 89, 3) := by decide +kernel
theorem i_110_17 : pm_at q_110 17 = some (.ireturn, 1) := by decide +kernel
theorem i_111_0 : pm_at q_111 0 = some (.iload_n 1, 1) := by decide +kernel
theorem i_111_1 : pm_at q_111 1 = some (.iconst 0, 1) := by decide +kernel
theorem i_111_2 : pm_at q_111 2 = some (.iconst 1, 1) := by decide +kernel
theorem i_111_3 : pm_at q_111 3 = some (.aload_n 0, 1) := by decide +kernel
theorem i_111_4 : pm_at q_111 4 = some (.getfield 78, 3) := by decide +kernel
theorem i_111_7 : pm_at q_111 7 = some (.getfield 97, 3) := by decide +kernel
theorem i_111_10 : pm_at q_111 10 = some (.getfield 100, 3) := by decide +kernel
theorem i_111_13 : pm_at q_111 13 = some (.ishl, 1) := by decide +kernel
theorem i_111_14 : pm_at q_111 14 = some (.iconst 1, 1) := by decide +kernel
theorem i_111_15 : pm_at q_111 15 = some (.isub, 1) := by decide +kernel
theorem i_111_16 : pm_at q_111 16 = some (.invokestatic 89, 3) := by decide +kernel
theorem i_111_19 : pm_at q_111 19 = some (.ireturn, 1) := by decide +kernel
theorem i_112_0 : pm_at q_112 0 = some (.iload_n 0, 1) := by decide +kernel
theorem i_112_1 : pm_at q_112 1 = some (.iconst 0, 1) := by decide +kernel
theorem i_112_2 : pm_at q_112 2 = some (.bipush 12, 2) := by decide +kernel
theorem i_112_4 : pm_at q_112 4 = some (.invokestatic 89, 3) := by decide +kernel
theorem i_112_7 : pm_at q_112 7 = some (.ireturn, 1) := by decide +kernel
theorem i_113_0 : pm_at q_113 0 = some (.iload_n 0, 1) := by decide +kernel
theorem i_113_1 : pm_at q_113 1 = some (.iload_n 1, 1) := by decide +kernel
theorem i_113_2 : pm_at q_113 2 = some (.if_icmp .lt 8, 3) := by decide +kernel
theorem i_113_5 : pm_at q_113 5 = some (.iload_n 0, 1) := by decide +kernel
theorem i_113_6 : pm_at q_113 6 = some (.iload_n 2, 1) := by decide +kernel
theorem i_113_7 : pm_at q_113 7 = some (.if_icmp .le 7, 3) := by decide +kernel
theorem i_113_10 : pm_at q_113 10 = some (.iconst 1, 1) := by decide +kernel
theorem i_113_11 : pm_at q_113 11 = some (.goto 4, 3) := by decide +kernel
theorem i_113_14 : pm_at q_113 14 = some (.iconst 0, 1) := by decide +kernel
theorem i_113_15 : pm_at q_113 15 = some (.ireturn, 1) := by decide +kernel
theorem i_114_0 : pm_at q_114 0 = some (.iload_n 0, 1) := by decide +kernel
theorem i_114_1 : pm_at q_114 1 = some (.iload_n 1, 1) := by decide +kernel
theorem i_114_2 : pm_at q_114 2 = some (.ishr, 1) := by decide +kernel
theorem i_114_3 : pm_at q_114 3 = some (.iconst 1, 1) := by decide +kernel
theorem i_114_4 : pm_at q_114 4 = some (.iand, 1) := by decide +kernel
theorem i_114_5 : pm_at q_114 5 = some (.ifCond .eq 7, 3) := by decide +kernel
theorem i_114_8 : pm_at q_114 8 = some (.iconst 1, 1) := by decide +kernel
theorem i_114_9 : pm_at q_114 9 = some (.goto 4, 3) := by decide +kernel
theorem i_114_12 : pm_at q_114 12 = some (.iconst 0, 1) := by decide +kernel
theorem i_114_13 : pm_at q_114 13 = some (.ireturn, 1) := by decide +kernel
theorem i_115_0 : pm_at q_115 0 = some (.iconst 0, 1) := by decide +kernel
theorem i_115_1 : pm_at q_115 1 = some (.istore_n 2, 1) := by decide +kernel
theorem i_115_2 : pm_at q_115 2 = some (.iconst 0, 1) := by decide +kernel
theorem i_115_3 : pm_at q_115 3 = some (.istore_n 3, 1) := by decide +kernel
theorem i_115_4 : pm_at q_115 4 = some (.iload_n 3, 1) := by decide +kernel
theorem i_115_5 : pm_at q_115 5 = some (.bipush 12, 2) := by decide +kernel
theorem i_115_7 : pm_at q_115 7 = some (.if_icmp .gt 34, 3) := by decide +kernel
theorem i_115_10 : pm_at q_115 10 = some (.aload_n 0, 1) := by decide +kernel
theorem i_115_11 : pm_at q_115 11 = some (.getfield 78, 3) := by decide +kernel
theorem i_115_14 : pm_at q_115 14 = some (.getfield 97, 3) := by decide +kernel
theorem i_115_17 : pm_at q_115 17 = some (.iload_n 3, 1) := by decide +kernel
theorem i_115_18 : pm_at q_115 18 = some (.iconst 0, 1) := by decide +kernel
theorem i_115_19 : pm_at q_115 19 = some (.invokevirtual 154, 3) := by decide +kernel
theorem i_115_22 : pm_at q_115 22 = some (.iload_n 1, 1) := by decide +kernel
theorem i_115_23 : pm_at q_115 23 = some (.invokestatic 223, 3) := by decide +kernel
theorem i_115_26 : pm_at q_115 26 = some (.ifCond .eq 9, 3) := by decide +kernel
theorem i_115_29 : pm_at q_115 29 = some (.iload_n 2, 1) := by decide +kernel
theorem i_115_30 : pm_at q_115 30 = some (.iconst 1, 1) := by decide +kernel
theorem i_115_31 : pm_at q_115 31 = some (.iload_n 3, 1) := by decide +kernel
theorem i_115_32 : pm_at q_115 32 = some (.ishl, 1) := by decide +kernel
theorem i_115_33 : pm_at q_115 33 = some (.ior, 1) := by decide +kernel
theorem i_115_34 : pm_at q_115 34 = some (.istore_n 2, 1) := by decide +kernel
theorem i_115_35 : pm_at q_115 35 = some (.iinc 3 1, 3) := by decide +kernel
theorem i_115_38 : pm_at q_115 38 = some (.goto (-34), 3) := by decide +kernel
theorem i_115_41 : pm_at q_115 41 = some (.iload_n 2, 1) := by decide +kernel
theorem i_115_42 : pm_at q_115 42 = some (.ireturn, 1) := by decide +kernel
theorem i_116_0 : pm_at q_116 0 = some (.iload_n 3, 1) := by decide +kernel
theorem i_116_1 : pm_at q_116 1 = some (.ifCond .gt 5, 3) := by decide +kernel
theorem i_116_4 : pm_at q_116 4 = some (.iconst (-1), 1) := by decide +kernel
theorem i_116_5 : pm_at q_116 5 = some (.ireturn, 1) := by decide +kernel
theorem i_116_6 : pm_at q_116 6 = some (.bipush 12, 2) := by decide +kernel
theorem i_116_8 : pm_at q_116 8 = some (.iload_n 0, 1) := by decide +kernel
theorem i_116_9 : pm_at q_116 9 = some (.iconst 2, 1) := by decide +kernel
theorem i_116_10 : pm_at q_116 10 = some (.iadd, 1) := by decide +kernel
theorem i_116_11 : pm_at q_116 11 = some (.invokestatic 337, 3) := by decide +kernel
theorem i_116_14 : pm_at q_116 14 = some (.istore 4, 2) := by decide +kernel
theorem i_116_16 : pm_at q_116 16 = some (.iconst 0, 1) := by decide +kernel
theorem i_116_17 : pm_at q_116 17 = some (.iload_n 0, 1) := by decide +kernel
theorem i_116_18 : pm_at q_116 18 = some (.iconst 2, 1) := by decide +kernel
theorem i_116_19 : pm_at q_116 19 = some (.isub, 1) := by decide +kernel
theorem i_116_20 : pm_at q_116 20 = some (.invokestatic 342, 3) := by decide +kernel
theorem i_116_23 : pm_at q_116 23 = some (.istore 5, 2) := by decide +kernel
theorem i_116_25 : pm_at q_116 25 = some (.iload 5, 2) := by decide +kernel
theorem i_116_27 : pm_at q_116 27 = some (.iload 4, 2) := by decide +kernel
theorem i_116_29 : pm_at q_116 29 = some (.if_icmp .gt 52, 3) := by decide +kernel
theorem i_116_32 : pm_at q_116 32 = some (.iload_n 1, 1) := by decide +kernel
theorem i_116_33 : pm_at q_116 33 = some (.iload 5, 2) := by decide +kernel
theorem i_116_35 : pm_at q_116 35 = some (.invokestatic 223, 3) := by decide +kernel
theorem i_116_38 : pm_at q_116 38 = some (.ifCond .eq 6, 3) := by decide +kernel
theorem i_116_41 : pm_at q_116 41 = some (.goto 34, 3) := by decide +kernel
theorem i_116_44 : pm_at q_116 44 = some (.iload_n 2, 1) := by decide +kernel
theorem i_116_45 : pm_at q_116 45 = some (.iload 5, 2) := by decide +kernel
theorem i_116_47 : pm_at q_116 47 = some (.invokestatic 223, 3) := by decide +kernel
theorem i_116_50 : pm_at q_116 50 = some (.ifCond .ne 22, 3) := by decide +kernel
theorem i_116_53 : pm_at q_116 53 = some (.iload 5, 2) := by decide +kernel
theorem i_116_55 : pm_at q_116 55 = some (.iload_n 1, 1) := by decide +kernel
theorem i_116_56 : pm_at q_116 56 = some (.iconst 1, 1) := by decide +kernel
theorem i_116_57 : pm_at q_116 57 = some (.iload 5, 2) := by decide +kernel
theorem i_116_59 : pm_at q_116 59 = some (.ishl, 1) := by decide +kernel
theorem i_116_60 : pm_at q_116 60 = some (.ior, 1) := by decide +kernel
theorem i_116_61 : pm_at q_116 61 = some (.iload_n 2, 1) := by decide +kernel
theorem i_116_62 : pm_at q_116 62 = some (.iload_n 3, 1) := by decide +kernel
theorem i_116_63 : pm_at q_116 63 = some (.iconst 1, 1) := by decide +kernel
theorem i_116_64 : pm_at q_116 64 = some (.isub, 1) := by decide +kernel
theorem i_116_65 : pm_at q_116 65 = some (.invokestatic 261, 3) := by decide +kernel
theorem i_116_68 : pm_at q_116 68 = some (.iconst (-1), 1) := by decide +kernel
theorem i_116_69 : pm_at q_116 69 = some (.if_icmp .ne 6, 3) := by decide +kernel
theorem i_116_72 : pm_at q_116 72 = some (.iload 5, 2) := by decide +kernel
theorem i_116_74 : pm_at q_116 74 = some (.ireturn, 1) := by decide +kernel
theorem i_116_75 : pm_at q_116 75 = some (.iinc 5 1, 3) := by decide +kernel
theorem i_116_78 : pm_at q_116 78 = some (.goto (-53), 3) := by decide +kernel
theorem i_116_81 : pm_at q_116 81 = some (.iconst (-1), 1) := by decide +kernel
theorem i_116_82 : pm_at q_116 82 = some (.ireturn, 1) := by decide +kernel
theorem i_117_0 : pm_at q_117 0 = some (.iconst 0, 1) := by decide +kernel
theorem i_117_1 : pm_at q_117 1 = some (.istore_n 2, 1) := by decide +kernel
theorem i_117_2 : pm_at q_117 2 = some (.iconst 0, 1) := by decide +kernel
theorem i_117_3 : pm_at q_117 3 = some (.istore_n 3, 1) := by decide +kernel
theorem i_117_4 : pm_at q_117 4 = some (.iload_n 3, 1) := by decide +kernel
theorem i_117_5 : pm_at q_117 5 = some (.bipush 6, 2) := by decide +kernel
theorem i_117_7 : pm_at q_117 7 = some (.if_icmp .ge 24, 3) := by decide +kernel
theorem i_117_10 : pm_at q_117 10 = some (.aload_n 0, 1) := by decide +kernel
theorem i_117_11 : pm_at q_117 11 = some (.iload_n 3, 1) := by decide +kernel
theorem i_117_12 : pm_at q_117 12 = some (.iload_n 1, 1) := by decide +kernel
theorem i_117_13 : pm_at q_117 13 = some (.invokevirtual 345, 3) := by decide +kernel
theorem i_117_16 : pm_at q_117 16 = some (.ifCond .eq 9, 3) := by decide +kernel
theorem i_117_19 : pm_at q_117 19 = some (.iload_n 2, 1) := by decide +kernel
theorem i_117_20 : pm_at q_117 20 = some (.iconst 1, 1) := by decide +kernel
theorem i_117_21 : pm_at q_117 21 = some (.iload_n 3, 1) := by decide +kernel
theorem i_117_22 : pm_at q_117 22 = some (.ishl, 1) := by decide +kernel
theorem i_117_23 : pm_at q_117 23 = some (.ior, 1) := by decide +kernel
theorem i_117_24 : pm_at q_117 24 = some (.istore_n 2, 1) := by decide +kernel
theorem i_117_25 : pm_at q_117 25 = some (.iinc 3 1, 3) := by decide +kernel
theorem i_117_28 : pm_at q_117 28 = some (.goto (-24), 3) := by decide +kernel
theorem i_117_31 : pm_at q_117 31 = some (.iload_n 2, 1) := by decide +kernel
theorem i_117_32 : pm_at q_117 32 = some (.ireturn, 1) := by decide +kernel
theorem i_118_0 : pm_at q_118 0 = some (.iconst 0, 1) := by decide +kernel
theorem i_118_1 : pm_at q_118 1 = some (.istore_n 3, 1) := by decide +kernel
theorem i_118_2 : pm_at q_118 2 = some (.iload_n 3, 1) := by decide +kernel
theorem i_118_3 : pm_at q_118 3 = some (.aload_n 0, 1) := by decide +kernel
theorem i_118_4 : pm_at q_118 4 = some (.getfield 78, 3) := by decide +kernel
theorem i_118_7 : pm_at q_118 7 = some (.getfield 170, 3) := by decide +kernel
theorem i_118_10 : pm_at q_118 10 = some (.if_icmp .ge 64, 3) := by decide +kernel
theorem i_118_13 : pm_at q_118 13 = some (.aload_n 0, 1) := by decide +kernel
theorem i_118_14 : pm_at q_118 14 = some (.getfield 78, 3) := by decide +kernel
theorem i_118_17 : pm_at q_118 17 = some (.getfield 265, 3) := by decide +kernel
theorem i_118_20 : pm_at q_118 20 = some (.iload_n 3, 1) := by decide +kernel
theorem i_118_21 : pm_at q_118 21 = some (.aaload, 1) := by decide +kernel
theorem i_118_22 : pm_at q_118 22 = some (.astore 4, 2) := by decide +kernel
theorem i_118_24 : pm_at q_118 24 = some (.aload 4, 2) := by decide +kernel
theorem i_118_26 : pm_at q_118 26 = some (.iconst 0, 1) := by decide +kernel
theorem i_118_27 : pm_at q_118 27 = some (.iaload, 1) := by decide +kernel
theorem i_118_28 : pm_at q_118 28 = some (.iload_n 2, 1) := by decide +kernel
theorem i_118_29 : pm_at q_118 29 = some (.if_icmp .ne 39, 3) := by decide +kernel
theorem i_118_32 : pm_at q_118 32 = some (.aload_n 0, 1) := by decide +kernel
theorem i_118_33 : pm_at q_118 33 = some (.getfield 78, 3) := by decide +kernel
theorem i_118_36 : pm_at q_118 36 = some (.getfield 97, 3) := by decide +kernel
theorem i_118_39 : pm_at q_118 39 = some (.getfield 348, 3) := by decide +kernel
theorem i_118_42 : pm_at q_118 42 = some (.iload_n 1, 1) := by decide +kernel
theorem i_118_43 : pm_at q_118 43 = some (.aaload, 1) := by decide +kernel
theorem i_118_44 : pm_at q_118 44 = some (.aload 4, 2) := by decide +kernel
theorem i_118_46 : pm_at q_118 46 = some (.iconst 1, 1) := by decide +kernel
theorem i_118_47 : pm_at q_118 47 = some (.iaload, 1) := by decide +kernel
theorem i_118_48 : pm_at q_118 48 = some (.aload 4, 2) := by decide +kernel
theorem i_118_50 : pm_at q_118 50 = some (.iconst 2, 1) := by decide +kernel
theorem i_118_51 : pm_at q_118 51 = some (.iaload, 1) := by decide +kernel
theorem i_118_52 : pm_at q_118 52 = some (.aload 4, 2) := by decide +kernel
theorem i_118_54 : pm_at q_118 54 = some (.iconst 3, 1) := by decide +kernel
theorem i_118_55 : pm_at q_118 55 = some (.iaload, 1) := by decide +kernel
theorem i_118_56 : pm_at q_118 56 = some (.invokevirtual 352, 3) := by decide +kernel
theorem i_118_59 : pm_at q_118 59 = some (.aload 4, 2) := by decide +kernel
theorem i_118_61 : pm_at q_118 61 = some (.iconst 4, 1) := by decide +kernel
theorem i_118_62 : pm_at q_118 62 = some (.iaload, 1) := by decide +kernel
theorem i_118_63 : pm_at q_118 63 = some (.if_icmp .eq 5, 3) := by decide +kernel
theorem i_118_66 : pm_at q_118 66 = some (.iconst 0, 1) := by decide +kernel
theorem i_118_67 : pm_at q_118 67 = some (.ireturn, 1) := by decide +kernel
theorem i_118_68 : pm_at q_118 68 = some (.iinc 3 1, 3) := by decide +kernel
theorem i_118_71 : pm_at q_118 71 = some (.goto (-69), 3) := by decide +kernel
theorem i_118_74 : pm_at q_118 74 = some (.iconst 1, 1) := by decide +kernel
theorem i_118_75 : pm_at q_118 75 = some (.ireturn, 1) := by decide +kernel
theorem i_119_0 : pm_at q_119 0 = some (.iconst 0, 1) := by decide +kernel
theorem i_119_1 : pm_at q_119 1 = some (.istore 5, 2) := by decide +kernel
theorem i_119_3 : pm_at q_119 3 = some (.iconst 0, 1) := by decide +kernel
theorem i_119_4 : pm_at q_119 4 = some (.istore 6, 2) := by decide +kernel
theorem i_119_6 : pm_at q_119 6 = some (.iload 6, 2) := by decide +kernel
theorem i_119_8 : pm_at q_119 8 = some (.bipush 6, 2) := by decide +kernel
theorem i_119_10 : pm_at q_119 10 = some (.if_icmp .ge 58, 3) := by decide +kernel
theorem i_119_13 : pm_at q_119 13 = some (.iload_n 1, 1) := by decide +kernel
theorem i_119_14 : pm_at q_119 14 = some (.iload 6, 2) := by decide +kernel
theorem i_119_16 : pm_at q_119 16 = some (.invokestatic 223, 3) := by decide +kernel
theorem i_119_19 : pm_at q_119 19 = some (.ifCond .eq 43, 3) := by decide +kernel
theorem i_119_22 : pm_at q_119 22 = some (.aload_n 0, 1) := by decide +kernel
theorem i_119_23 : pm_at q_119 23 = some (.getfield 78, 3) := by decide +kernel
theorem i_119_26 : pm_at q_119 26 = some (.getfield 97, 3) := by decide +kernel
theorem i_119_29 : pm_at q_119 29 = some (.getfield 348, 3) := by decide +kernel
theorem i_119_32 : pm_at q_119 32 = some (.iload 6, 2) := by decide +kernel
theorem i_119_34 : pm_at q_119 34 = some (.aaload, 1) := by decide +kernel
theorem i_119_35 : pm_at q_119 35 = some (.iload_n 2, 1) := by decide +kernel
theorem i_119_36 : pm_at q_119 36 = some (.iload_n 3, 1) := by decide +kernel
theorem i_119_37 : pm_at q_119 37 = some (.iload 4, 2) := by decide +kernel
theorem i_119_39 : pm_at q_119 39 = some (.invokevirtual 352, 3) := by decide +kernel
theorem i_119_42 : pm_at q_119 42 = some (.istore 7, 2) := by decide +kernel
theorem i_119_44 : pm_at q_119 44 = some (.iload 5, 2) := by decide +kernel
theorem i_119_46 : pm_at q_119 46 = some (.aload_n 0, 1) := by decide +kernel
theorem i_119_47 : pm_at q_119 47 = some (.iload 7, 2) := by decide +kernel
theorem i_119_49 : pm_at q_119 49 = some (.iload_n 1, 1) := by decide +kernel
theorem i_119_50 : pm_at q_119 50 = some (.iload_n 2, 1) := by decide +kernel
theorem i_119_51 : pm_at q_119 51 = some (.iload_n 3, 1) := by decide +kernel
theorem i_119_52 : pm_at q_119 52 = some (.iload 4, 2) := by decide +kernel
theorem i_119_54 : pm_at q_119 54 = some (.invokevirtual 355, 3) := by decide +kernel
theorem i_119_57 : pm_at q_119 57 = some (.invokestatic 342, 3) := by decide +kernel
theorem i_119_60 : pm_at q_119 60 = some (.istore 5, 2) := by decide +kernel
theorem i_119_62 : pm_at q_119 62 = some (.iinc 6 1, 3) := by decide +kernel
theorem i_119_65 : pm_at q_119 65 = some (.goto (-59), 3) := by decide +kernel
theorem i_119_68 : pm_at q_119 68 = some (.iload 5, 2) := by decide +kernel
theorem i_119_70 : pm_at q_119 70 = some (.ireturn, 1) := by decide +kernel
theorem i_120_0 : pm_at q_120 0 = some (.iconst 0, 1) := by decide +kernel
theorem i_120_1 : pm_at q_120 1 = some (.istore 6, 2) := by decide +kernel
theorem i_120_3 : pm_at q_120 3 = some (.iconst 0, 1) := by decide +kernel
theorem i_120_4 : pm_at q_120 4 = some (.istore 7, 2) := by decide +kernel
theorem i_120_6 : pm_at q_120 6 = some (.iload 7, 2) := by decide +kernel
theorem i_120_8 : pm_at q_120 8 = some (.bipush 6, 2) := by decide +kernel
theorem i_120_10 : pm_at q_120 10 = some (.if_icmp .ge 46, 3) := by decide +kernel
theorem i_120_13 : pm_at q_120 13 = some (.iload_n 2, 1) := by decide +kernel
theorem i_120_14 : pm_at q_120 14 = some (.iload 7, 2) := by decide +kernel
theorem i_120_16 : pm_at q_120 16 = some (.invokestatic 223, 3) := by decide +kernel
theorem i_120_19 : pm_at q_120 19 = some (.ifCond .eq 31, 3) := by decide +kernel
theorem i_120_22 : pm_at q_120 22 = some (.aload_n 0, 1) := by decide +kernel
theorem i_120_23 : pm_at q_120 23 = some (.getfield 78, 3) := by decide +kernel
theorem i_120_26 : pm_at q_120 26 = some (.getfield 97, 3) := by decide +kernel
theorem i_120_29 : pm_at q_120 29 = some (.getfield 348, 3) := by decide +kernel
theorem i_120_32 : pm_at q_120 32 = some (.iload 7, 2) := by decide +kernel
theorem i_120_34 : pm_at q_120 34 = some (.aaload, 1) := by decide +kernel
theorem i_120_35 : pm_at q_120 35 = some (.iload_n 3, 1) := by decide +kernel
theorem i_120_36 : pm_at q_120 36 = some (.iload 4, 2) := by decide +kernel
theorem i_120_38 : pm_at q_120 38 = some (.iload 5, 2) := by decide +kernel
theorem i_120_40 : pm_at q_120 40 = some (.invokevirtual 352, 3) := by decide +kernel
theorem i_120_43 : pm_at q_120 43 = some (.iload_n 1, 1) := by decide +kernel
theorem i_120_44 : pm_at q_120 44 = some (.if_icmp .ne 6, 3) := by decide +kernel
theorem i_120_47 : pm_at q_120 47 = some (.iinc 6 1, 3) := by decide +kernel
theorem i_120_50 : pm_at q_120 50 = some (.iinc 7 1, 3) := by decide +kernel
theorem i_120_53 : pm_at q_120 53 = some (.goto (-47), 3) := by decide +kernel
theorem i_120_56 : pm_at q_120 56 = some (.iload 6, 2) := by decide +kernel
theorem i_120_58 : pm_at q_120 58 = some (.ireturn, 1) := by decide +kernel
theorem i_121_0 : pm_at q_121 0 = some (.iconst 0, 1) := by decide +kernel
theorem i_121_1 : pm_at q_121 1 = some (.istore_n 1, 1) := by decide +kernel
theorem i_121_2 : pm_at q_121 2 = some (.iload_n 1, 1) := by decide +kernel
theorem i_121_3 : pm_at q_121 3 = some (.aload_n 0, 1) := by decide +kernel
theorem i_121_4 : pm_at q_121 4 = some (.getfield 78, 3) := by decide +kernel
theorem i_121_7 : pm_at q_121 7 = some (.getfield 173, 3) := by decide +kernel
theorem i_121_10 : pm_at q_121 10 = some (.if_icmp .ge 38, 3) := by decide +kernel
theorem i_121_13 : pm_at q_121 13 = some (.aload_n 0, 1) := by decide +kernel
theorem i_121_14 : pm_at q_121 14 = some (.getfield 78, 3) := by decide +kernel
theorem i_121_17 : pm_at q_121 17 = some (.getfield 269, 3) := by decide +kernel
theorem i_121_20 : pm_at q_121 20 = some (.iload_n 1, 1) := by decide +kernel
theorem i_121_21 : pm_at q_121 21 = some (.aaload, 1) := by decide +kernel
theorem i_121_22 : pm_at q_121 22 = some (.astore_n 2, 1) := by decide +kernel
theorem i_121_23 : pm_at q_121 23 = some (.aload_n 0, 1) := by decide +kernel
theorem i_121_24 : pm_at q_121 24 = some (.getfield 85, 3) := by decide +kernel
theorem i_121_27 : pm_at q_121 27 = some (.aload_n 2, 1) := by decide +kernel
theorem i_121_28 : pm_at q_121 28 = some (.iconst 0, 1) := by decide +kernel
theorem i_121_29 : pm_at q_121 29 = some (.iaload, 1) := by decide +kernel
theorem i_121_30 : pm_at q_121 30 = some (.iconst 0, 1) := by decide +kernel
theorem i_121_31 : pm_at q_121 31 = some (.invokevirtual 154, 3) := by decide +kernel
theorem i_121_34 : pm_at q_121 34 = some (.aload_n 2, 1) := by decide +kernel
theorem i_121_35 : pm_at q_121 35 = some (.iconst 1, 1) := by decide +kernel
theorem i_121_36 : pm_at q_121 36 = some (.iaload, 1) := by decide +kernel
theorem i_121_37 : pm_at q_121 37 = some (.if_icmp .eq 5, 3) := by decide +kernel
theorem i_121_40 : pm_at q_121 40 = some (.iconst 0, 1) := by decide +kernel
theorem i_121_41 : pm_at q_121 41 = some (.ireturn, 1) := by decide +kernel
theorem i_121_42 : pm_at q_121 42 = some (.iinc 1 1, 3) := by decide +kernel
theorem i_121_45 : pm_at q_121 45 = some (.goto (-43), 3) := by decide +kernel
theorem i_121_48 : pm_at q_121 48 = some (.iconst 1, 1) := by decide +kernel
theorem i_121_49 : pm_at q_121 49 = some (.ireturn, 1) := by decide +kernel
theorem i_122_0 : pm_at q_122 0 = some (.iconst 0, 1) := by decide +kernel
theorem i_122_1 : pm_at q_122 1 = some (.istore_n 3, 1) := by decide +kernel
theorem i_122_2 : pm_at q_122 2 = some (.iload_n 3, 1) := by decide +kernel
theorem i_122_3 : pm_at q_122 3 = some (.bipush 12, 2) := by decide +kernel
theorem i_122_5 : pm_at q_122 5 = some (.if_icmp .gt 41, 3) := by decide +kernel
theorem i_122_8 : pm_at q_122 8 = some (.aload_n 0, 1) := by decide +kernel
theorem i_122_9 : pm_at q_122 9 = some (.iload_n 3, 1) := by decide +kernel
theorem i_122_10 : pm_at q_122 10 = some (.iload_n 2, 1) := by decide +kernel
theorem i_122_11 : pm_at q_122 11 = some (.invokevirtual 358, 3) := by decide +kernel
theorem i_122_14 : pm_at q_122 14 = some (.aload_n 0, 1) := by decide +kernel
theorem i_122_15 : pm_at q_122 15 = some (.iload_n 1, 1) := by decide +kernel
theorem i_122_16 : pm_at q_122 16 = some (.iload_n 2, 1) := by decide +kernel
theorem i_122_17 : pm_at q_122 17 = some (.invokevirtual 358, 3) := by decide +kernel
theorem i_122_20 : pm_at q_122 20 = some (.if_icmp .gt 18, 3) := by decide +kernel
theorem i_122_23 : pm_at q_122 23 = some (.aload_n 0, 1) := by decide +kernel
theorem i_122_24 : pm_at q_122 24 = some (.iload_n 1, 1) := by decide +kernel
theorem i_122_25 : pm_at q_122 25 = some (.iload_n 3, 1) := by decide +kernel
theorem i_122_26 : pm_at q_122 26 = some (.invokevirtual 361, 3) := by decide +kernel
theorem i_122_29 : pm_at q_122 29 = some (.aload_n 0, 1) := by decide +kernel
theorem i_122_30 : pm_at q_122 30 = some (.iload_n 1, 1) := by decide +kernel
theorem i_122_31 : pm_at q_122 31 = some (.iload_n 2, 1) := by decide +kernel
theorem i_122_32 : pm_at q_122 32 = some (.invokevirtual 361, 3) := by decide +kernel
theorem i_122_35 : pm_at q_122 35 = some (.if_icmp .le 5, 3) := by decide +kernel
theorem i_122_38 : pm_at q_122 38 = some (.iconst 0, 1) := by decide +kernel
theorem i_122_39 : pm_at q_122 39 = some (.ireturn, 1) := by decide +kernel
theorem i_122_40 : pm_at q_122 40 = some (.iinc 3 1, 3) := by decide +kernel
theorem i_122_43 : pm_at q_122 43 = some (.goto (-41), 3) := by decide +kernel
theorem i_122_46 : pm_at q_122 46 = some (.iconst 1, 1) := by decide +kernel
theorem i_122_47 : pm_at q_122 47 = some (.ireturn, 1) := by decide +kernel
theorem i_123_0 : pm_at q_123 0 = some (.aload_n 0, 1) := by decide +kernel
theorem i_123_1 : pm_at q_123 1 = some (.getfield 33, 3) := by decide +kernel
theorem i_123_4 : pm_at q_123 4 = some (.iload_n 1, 1) := by decide +kernel
theorem i_123_5 : pm_at q_123 5 = some (.iload_n 2, 1) := by decide +kernel
theorem i_123_6 : pm_at q_123 6 = some (.invokestatic 342, 3) := by decide +kernel
theorem i_123_9 : pm_at q_123 9 = some (.iaload, 1) := by decide +kernel
theorem i_123_10 : pm_at q_123 10 = some (.iload_n 1, 1) := by decide +kernel
theorem i_123_11 : pm_at q_123 11 = some (.iconst 4, 1) := by decide +kernel
theorem i_123_12 : pm_at q_123 12 = some (.idiv, 1) := by decide +kernel
theorem i_123_13 : pm_at q_123 13 = some (.isub, 1) := by decide +kernel
theorem i_123_14 : pm_at q_123 14 = some (.ireturn, 1) := by decide +kernel
theorem i_124_0 : pm_at q_124 0 = some (.aload_n 0, 1) := by decide +kernel
theorem i_124_1 : pm_at q_124 1 = some (.getfield 37, 3) := by decide +kernel
theorem i_124_4 : pm_at q_124 4 = some (.iload_n 1, 1) := by decide +kernel
theorem i_124_5 : pm_at q_124 5 = some (.iload_n 2, 1) := by decide +kernel
theorem i_124_6 : pm_at q_124 6 = some (.invokestatic 342, 3) := by decide +kernel
theorem i_124_9 : pm_at q_124 9 = some (.iaload, 1) := by decide +kernel
theorem i_124_10 : pm_at q_124 10 = some (.iload_n 2, 1) := by decide +kernel
theorem i_124_11 : pm_at q_124 11 = some (.iconst 4, 1) := by decide +kernel
theorem i_124_12 : pm_at q_124 12 = some (.idiv, 1) := by decide +kernel
theorem i_124_13 : pm_at q_124 13 = some (.isub, 1) := by decide +kernel
theorem i_124_14 : pm_at q_124 14 = some (.ireturn, 1) := by decide +kernel
theorem i_125_0 : pm_at q_125 0 = some (.lconst 1, 1) := by decide +kernel
theorem i_125_1 : pm_at q_125 1 = some (.lstore_n 2, 1) := by decide +kernel
theorem i_125_2 : pm_at q_125 2 = some (.iconst 0, 1) := by decide +kernel
theorem i_125_3 : pm_at q_125 3 = some (.istore 4, 2) := by decide +kernel
theorem i_125_5 : pm_at q_125 5 = some (.iload 4, 2) := by decide +kernel
theorem i_125_7 : pm_at q_125 7 = some (.iload_n 1, 1) := by decide +kernel
theorem i_125_8 : pm_at q_125 8 = some (.if_icmp .ge 14, 3) := by decide +kernel
theorem i_125_11 : pm_at q_125 11 = some (.lload_n 2, 1) := by decide +kernel
theorem i_125_12 : pm_at q_125 12 = some (.iload_n 0, 1) := by decide +kernel
theorem i_125_13 : pm_at q_125 13 = some (.i2l, 1) := by decide +kernel
theorem i_125_14 : pm_at q_125 14 = some (.lmul, 1) := by decide +kernel
theorem i_125_15 : pm_at q_125 15 = some (.lstore_n 2, 1) := by decide +kernel
theorem i_125_16 : pm_at q_125 16 = some (.iinc 4 1, 3) := by decide +kernel
theorem i_125_19 : pm_at q_125 19 = some (.goto (-14), 3) := by decide +kernel
theorem i_125_22 : pm_at q_125 22 = some (.lload_n 2, 1) := by decide +kernel
theorem i_125_23 : pm_at q_125 23 = some (.lreturn, 1) := by decide +kernel
theorem i_126_0 : pm_at q_126 0 = some (.lload_n 1, 1) := by decide +kernel
theorem i_126_1 : pm_at q_126 1 = some (.lload_n 3, 1) := by decide +kernel
theorem i_126_2 : pm_at q_126 2 = some (.invokestatic 364, 3) := by decide +kernel
theorem i_126_5 : pm_at q_126 5 = some (.lstore 5, 2) := by decide +kernel
theorem i_126_7 : pm_at q_126 7 = some (.lload 5, 2) := by decide +kernel
theorem i_126_9 : pm_at q_126 9 = some (.lconst 0, 1) := by decide +kernel
theorem i_126_10 : pm_at q_126 10 = some (.lcmp, 1) := by decide +kernel
theorem i_126_11 : pm_at q_126 11 = some (.ifCond .le 19, 3) := by decide +kernel
theorem i_126_14 : pm_at q_126 14 = some (.aload_n 0, 1) := by decide +kernel
theorem i_126_15 : pm_at q_126 15 = some (.lload_n 1, 1) := by decide +kernel
theorem i_126_16 : pm_at q_126 16 = some (.lload 5, 2) := by decide +kernel
theorem i_126_18 : pm_at q_126 18 = some (.ldiv, 1) := by decide +kernel
theorem i_126_19 : pm_at q_126 19 = some (.putfield 40, 3) := by decide +kernel
theorem i_126_22 : pm_at q_126 22 = some (.aload_n 0, 1) := by decide +kernel
theorem i_126_23 : pm_at q_126 23 = some (.lload_n 3, 1) := by decide +kernel
theorem i_126_24 : pm_at q_126 24 = some (.lload 5, 2) := by decide +kernel
theorem i_126_26 : pm_at q_126 26 = some (.ldiv, 1) := by decide +kernel
theorem i_126_27 : pm_at q_126 27 = some (.putfield 44, 3) := by decide +kernel
theorem i_126_30 : pm_at q_126 30 = some (.return_, 1) := by decide +kernel
theorem i_127_0 : pm_at q_127 0 = some (.lload_n 0, 1) := by decide +kernel
theorem i_127_1 : pm_at q_127 1 = some (.lstore 4, 2) := by decide +kernel
theorem i_127_3 : pm_at q_127 3 = some (.lload_n 2, 1) := by decide +kernel
theorem i_127_4 : pm_at q_127 4 = some (.lstore 6, 2) := by decide +kernel
theorem i_127_6 : pm_at q_127 6 = some (.sipush 128, 3) := by decide +kernel
theorem i_127_9 : pm_at q_127 9 = some (.istore 8, 2) := by decide +kernel
theorem i_127_11 : pm_at q_127 11 = some (.iload 8, 2) := by decide +kernel
theorem i_127_13 : pm_at q_127 13 = some (.ifCond .le 31, 3) := by decide +kernel
theorem i_127_16 : pm_at q_127 16 = some (.lload 6, 2) := by decide +kernel
theorem i_127_18 : pm_at q_127 18 = some (.lconst 0, 1) := by decide +kernel
theorem i_127_19 : pm_at q_127 19 = some (.lcmp, 1) := by decide +kernel
theorem i_127_20 : pm_at q_127 20 = some (.ifCond .eq 24, 3) := by decide +kernel
theorem i_127_23 : pm_at q_127 23 = some (.lload 4, 2) := by decide +kernel
theorem i_127_25 : pm_at q_127 25 = some (.lload 6, 2) := by decide +kernel
theorem i_127_27 : pm_at q_127 27 = some (.lrem, 1) := by decide +kernel
theorem i_127_28 : pm_at q_127 28 = some (.lstore 9, 2) := by decide +kernel
theorem i_127_30 : pm_at q_127 30 = some (.lload 6, 2) := by decide +kernel
theorem i_127_32 : pm_at q_127 32 = some (.lstore 4, 2) := by decide +kernel
theorem i_127_34 : pm_at q_127 34 = some (.lload 9, 2) := by decide +kernel
theorem i_127_36 : pm_at q_127 36 = some (.lstore 6, 2) := by decide +kernel
theorem i_127_38 : pm_at q_127 38 = some (.iinc 8 (-1), 3) := by decide +kernel
theorem i_127_41 : pm_at q_127 41 = some (.goto (-30), 3) := by decide +kernel
theorem i_127_44 : pm_at q_127 44 = some (.lload 4, 2) := by decide +kernel
theorem i_127_46 : pm_at q_127 46 = some (.lreturn, 1) := by decide +kernel
theorem i_128_0 : pm_at q_128 0 = some (.ldc2_w 367, 3) := by decide +kernel
theorem i_128_3 : pm_at q_128 3 = some (.lload_n 0, 1) := by decide +kernel
theorem i_128_4 : pm_at q_128 4 = some (.lmul, 1) := by decide +kernel
theorem i_128_5 : pm_at q_128 5 = some (.lload_n 2, 1) := by decide +kernel
theorem i_128_6 : pm_at q_128 6 = some (.ladd, 1) := by decide +kernel
theorem i_128_7 : pm_at q_128 7 = some (.lreturn, 1) := by decide +kernel
theorem i_129_0 : pm_at q_129 0 = some (.lload_n 0, 1) := by decide +kernel
theorem i_129_1 : pm_at q_129 1 = some (.lstore 4, 2) := by decide +kernel
theorem i_129_3 : pm_at q_129 3 = some (.iconst 0, 1) := by decide +kernel
theorem i_129_4 : pm_at q_129 4 = some (.istore 6, 2) := by decide +kernel
theorem i_129_6 : pm_at q_129 6 = some (.iload 6, 2) := by decide +kernel
theorem i_129_8 : pm_at q_129 8 = some (.iload_n 3, 1) := by decide +kernel
theorem i_129_9 : pm_at q_129 9 = some (.if_icmp .ge 53, 3) := by decide +kernel
theorem i_129_12 : pm_at q_129 12 = some (.aload_n 2, 1) := by decide +kernel
theorem i_129_13 : pm_at q_129 13 = some (.iload 6, 2) := by decide +kernel
theorem i_129_15 : pm_at q_129 15 = some (.aaload, 1) := by decide +kernel
theorem i_129_16 : pm_at q_129 16 = some (.astore 7, 2) := by decide +kernel
theorem i_129_18 : pm_at q_129 18 = some (.aload 7, 2) := by decide +kernel
theorem i_129_20 : pm_at q_129 20 = some (.arraylength, 1) := by decide +kernel
theorem i_129_21 : pm_at q_129 21 = some (.istore 8, 2) := by decide +kernel
theorem i_129_23 : pm_at q_129 23 = some (.iconst 0, 1) := by decide +kernel
theorem i_129_24 : pm_at q_129 24 = some (.istore 9, 2) := by decide +kernel
theorem i_129_26 : pm_at q_129 26 = some (.iload 9, 2) := by decide +kernel
theorem i_129_28 : pm_at q_129 28 = some (.iload 8, 2) := by decide +kernel
theorem i_129_30 : pm_at q_129 30 = some (.if_icmp .ge 26, 3) := by decide +kernel
theorem i_129_33 : pm_at q_129 33 = some (.aload 7, 2) := by decide +kernel
theorem i_129_35 : pm_at q_129 35 = some (.iload 9, 2) := by decide +kernel
theorem i_129_37 : pm_at q_129 37 = some (.iaload, 1) := by decide +kernel
theorem i_129_38 : pm_at q_129 38 = some (.istore 10, 2) := by decide +kernel
theorem i_129_40 : pm_at q_129 40 = some (.lload 4, 2) := by decide +kernel
theorem i_129_42 : pm_at q_129 42 = some (.iload 10, 2) := by decide +kernel
theorem i_129_44 : pm_at q_129 44 = some (.i2l, 1) := by decide +kernel
theorem i_129_45 : pm_at q_129 45 = some (.invokestatic 325, 3) := by decide +kernel
theorem i_129_48 : pm_at q_129 48 = some (.lstore 4, 2) := by decide +kernel
theorem i_129_50 : pm_at q_129 50 = some (.iinc 9 1, 3) := by decide +kernel
theorem i_129_53 : pm_at q_129 53 = some (.goto (-27), 3) := by decide +kernel
theorem i_129_56 : pm_at q_129 56 = some (.iinc 6 1, 3) := by decide +kernel
theorem i_129_59 : pm_at q_129 59 = some (.goto (-53), 3) := by decide +kernel
theorem i_129_62 : pm_at q_129 62 = some (.lload 4, 2) := by decide +kernel
theorem i_129_64 : pm_at q_129 64 = some (.lreturn, 1) := by decide +kernel
theorem i_130_0 : pm_at q_130 0 = some (.aload_n 0, 1) := by decide +kernel
theorem i_130_1 : pm_at q_130 1 = some (.getfield 1, 3) := by decide +kernel
theorem i_130_4 : pm_at q_130 4 = some (.iconst 0, 1) := by decide +kernel
theorem i_130_5 : pm_at q_130 5 = some (.dup2, 1) := by decide +kernel
theorem i_130_6 : pm_at q_130 6 = some (.iaload, 1) := by decide +kernel
theorem i_130_7 : pm_at q_130 7 = some (.iconst 1, 1) := by decide +kernel
theorem i_130_8 : pm_at q_130 8 = some (.iadd, 1) := by decide +kernel
theorem i_130_9 : pm_at q_130 9 = some (.iastore, 1) := by decide +kernel
theorem i_130_10 : pm_at q_130 10 = some (.bipush (-2), 2) := by decide +kernel
theorem i_130_12 : pm_at q_130 12 = some (.ireturn, 1) := by decide +kernel
theorem i_131_0 : pm_at q_131 0 = some (.aload_n 0, 1) := by decide +kernel
theorem i_131_1 : pm_at q_131 1 = some (.getfield 1, 3) := by decide +kernel
theorem i_131_4 : pm_at q_131 4 = some (.iconst 0, 1) := by decide +kernel
theorem i_131_5 : pm_at q_131 5 = some (.dup2, 1) := by decide +kernel
theorem i_131_6 : pm_at q_131 6 = some (.iaload, 1) := by decide +kernel
theorem i_131_7 : pm_at q_131 7 = some (.iconst 1, 1) := by decide +kernel
theorem i_131_8 : pm_at q_131 8 = some (.iadd, 1) := by decide +kernel
theorem i_131_9 : pm_at q_131 9 = some (.iastore, 1) := by decide +kernel
theorem i_131_10 : pm_at q_131 10 = some (.bipush (-10), 2) := by decide +kernel
theorem i_131_12 : pm_at q_131 12 = some (.ireturn, 1) := by decide +kernel
theorem i_132_0 : pm_at q_132 0 = some (.aload_n 0, 1) := by decide +kernel
theorem i_132_1 : pm_at q_132 1 = some (.getfield 1, 3) := by decide +kernel
theorem i_132_4 : pm_at q_132 4 = some (.iconst 1, 1) := by decide +kernel
theorem i_132_5 : pm_at q_132 5 = some (.dup2, 1) := by decide +kernel
theorem i_132_6 : pm_at q_132 6 = some (.iaload, 1) := by decide +kernel
theorem i_132_7 : pm_at q_132 7 = some (.iconst 1, 1) := by decide +kernel
theorem i_132_8 : pm_at q_132 8 = some (.iadd, 1) := by decide +kernel
theorem i_132_9 : pm_at q_132 9 = some (.iastore, 1) := by decide +kernel
theorem i_132_10 : pm_at q_132 10 = some (.bipush (-3), 2) := by decide +kernel
theorem i_132_12 : pm_at q_132 12 = some (.ireturn, 1) := by decide +kernel
theorem i_133_0 : pm_at q_133 0 = some (.aload_n 0, 1) := by decide +kernel
theorem i_133_1 : pm_at q_133 1 = some (.getfield 1, 3) := by decide +kernel
theorem i_133_4 : pm_at q_133 4 = some (.iconst 2, 1) := by decide +kernel
theorem i_133_5 : pm_at q_133 5 = some (.dup2, 1) := by decide +kernel
theorem i_133_6 : pm_at q_133 6 = some (.iaload, 1) := by decide +kernel
theorem i_133_7 : pm_at q_133 7 = some (.iconst 1, 1) := by decide +kernel
theorem i_133_8 : pm_at q_133 8 = some (.iadd, 1) := by decide +kernel
theorem i_133_9 : pm_at q_133 9 = some (.iastore, 1) := by decide +kernel
theorem i_133_10 : pm_at q_133 10 = some (.bipush (-4), 2) := by decide +kernel
theorem i_133_12 : pm_at q_133 12 = some (.ireturn, 1) := by decide +kernel
theorem i_134_0 : pm_at q_134 0 = some (.iload_n 0, 1) := by decide +kernel
theorem i_134_1 : pm_at q_134 1 = some (.iload_n 1, 1) := by decide +kernel
theorem i_134_2 : pm_at q_134 2 = some (.if_icmp .lt 12, 3) := by decide +kernel
theorem i_134_5 : pm_at q_134 5 = some (.iload_n 0, 1) := by decide +kernel
theorem i_134_6 : pm_at q_134 6 = some (.iload_n 2, 1) := by decide +kernel
theorem i_134_7 : pm_at q_134 7 = some (.if_icmp .gt 7, 3) := by decide +kernel
theorem i_134_10 : pm_at q_134 10 = some (.iconst 1, 1) := by decide +kernel
theorem i_134_11 : pm_at q_134 11 = some (.goto 4, 3) := by decide +kernel
theorem i_134_14 : pm_at q_134 14 = some (.iconst 0, 1) := by decide +kernel
theorem i_134_15 : pm_at q_134 15 = some (.ireturn, 1) := by decide +kernel
theorem i_135_0 : pm_at q_135 0 = some (.iload_n 0, 1) := by decide +kernel
theorem i_135_1 : pm_at q_135 1 = some (.iload_n 1, 1) := by decide +kernel
theorem i_135_2 : pm_at q_135 2 = some (.ishr, 1) := by decide +kernel
theorem i_135_3 : pm_at q_135 3 = some (.iconst 1, 1) := by decide +kernel
theorem i_135_4 : pm_at q_135 4 = some (.iand, 1) := by decide +kernel
theorem i_135_5 : pm_at q_135 5 = some (.iconst 1, 1) := by decide +kernel
theorem i_135_6 : pm_at q_135 6 = some (.if_icmp .ne 7, 3) := by decide +kernel
theorem i_135_9 : pm_at q_135 9 = some (.iconst 1, 1) := by decide +kernel
theorem i_135_10 : pm_at q_135 10 = some (.goto 4, 3) := by decide +kernel
theorem i_135_13 : pm_at q_135 13 = some (.iconst 0, 1) := by decide +kernel
theorem i_135_14 : pm_at q_135 14 = some (.ireturn, 1) := by decide +kernel
theorem i_136_0 : pm_at q_136 0 = some (.iload_n 0, 1) := by decide +kernel
theorem i_136_1 : pm_at q_136 1 = some (.iload_n 1, 1) := by decide +kernel
theorem i_136_2 : pm_at q_136 2 = some (.if_icmp .ge 7, 3) := by decide +kernel
theorem i_136_5 : pm_at q_136 5 = some (.iload_n 0, 1) := by decide +kernel
theorem i_136_6 : pm_at q_136 6 = some (.goto 4, 3) := by decide +kernel
theorem i_136_9 : pm_at q_136 9 = some (.iload_n 1, 1) := by decide +kernel
theorem i_136_10 : pm_at q_136 10 = some (.ireturn, 1) := by decide +kernel
theorem i_137_0 : pm_at q_137 0 = some (.iload_n 0, 1) := by decide +kernel
theorem i_137_1 : pm_at q_137 1 = some (.iload_n 1, 1) := by decide +kernel
theorem i_137_2 : pm_at q_137 2 = some (.if_icmp .le 7, 3) := by decide +kernel
theorem i_137_5 : pm_at q_137 5 = some (.iload_n 0, 1) := by decide +kernel
theorem i_137_6 : pm_at q_137 6 = some (.goto 4, 3) := by decide +kernel
theorem i_137_9 : pm_at q_137 9 = some (.iload_n 1, 1) := by decide +kernel
theorem i_137_10 : pm_at q_137 10 = some (.ireturn, 1) := by decide +kernel
theorem i_138_0 : pm_at q_138 0 = some (.iconst 0, 1) := by decide +kernel
theorem i_138_1 : pm_at q_138 1 = some (.istore_n 1, 1) := by decide +kernel
theorem i_138_2 : pm_at q_138 2 = some (.iconst 0, 1) := by decide +kernel
theorem i_138_3 : pm_at q_138 3 = some (.istore_n 2, 1) := by decide +kernel
theorem i_138_4 : pm_at q_138 4 = some (.iload_n 2, 1) := by decide +kernel
theorem i_138_5 : pm_at q_138 5 = some (.bipush 13, 2) := by decide +kernel
theorem i_138_7 : pm_at q_138 7 = some (.if_icmp .ge 17, 3) := by decide +kernel
theorem i_138_10 : pm_at q_138 10 = some (.iload_n 1, 1) := by decide +kernel
theorem i_138_11 : pm_at q_138 11 = some (.iload_n 0, 1) := by decide +kernel
theorem i_138_12 : pm_at q_138 12 = some (.iload_n 2, 1) := by decide +kernel
theorem i_138_13 : pm_at q_138 13 = some (.ishr, 1) := by decide +kernel
theorem i_138_14 : pm_at q_138 14 = some (.iconst 1, 1) := by decide +kernel
theorem i_138_15 : pm_at q_138 15 = some (.iand, 1) := by decide +kernel
theorem i_138_16 : pm_at q_138 16 = some (.iadd, 1) := by decide +kernel
theorem i_138_17 : pm_at q_138 17 = some (.istore_n 1, 1) := by decide +kernel
theorem i_138_18 : pm_at q_138 18 = some (.iinc 2 1, 3) := by decide +kernel
theorem i_138_21 : pm_at q_138 21 = some (.goto (-17), 3) := by decide +kernel
theorem i_138_24 : pm_at q_138 24 = some (.iload_n 1, 1) := by decide +kernel
theorem i_138_25 : pm_at q_138 25 = some (.ireturn, 1) := by decide +kernel
theorem i_139_0 : pm_at q_139 0 = some (.aload_n 0, 1) := by decide +kernel
theorem i_139_1 : pm_at q_139 1 = some (.invokespecial 7, 3) := by decide +kernel
theorem i_139_4 : pm_at q_139 4 = some (.aload_n 0, 1) := by decide +kernel
theorem i_139_5 : pm_at q_139 5 = some (.iconst 3, 1) := by decide +kernel
theorem i_139_6 : pm_at q_139 6 = some (.newarray .int, 2) := by decide +kernel
theorem i_139_8 : pm_at q_139 8 = some (.putfield 1, 3) := by decide +kernel
theorem i_139_11 : pm_at q_139 11 = some (.aload_n 0, 1) := by decide +kernel
theorem i_139_12 : pm_at q_139 12 = some (.bipush 7, 2) := by decide +kernel
theorem i_139_14 : pm_at q_139 14 = some (.newarray .int, 2) := by decide +kernel
theorem i_139_16 : pm_at q_139 16 = some (.putfield 13, 3) := by decide +kernel
theorem i_139_19 : pm_at q_139 19 = some (.aload_n 0, 1) := by decide +kernel
theorem i_139_20 : pm_at q_139 20 = some (.bipush 7, 2) := by decide +kernel
theorem i_139_22 : pm_at q_139 22 = some (.newarray .int, 2) := by decide +kernel
theorem i_139_24 : pm_at q_139 24 = some (.putfield 16, 3) := by decide +kernel
theorem i_139_27 : pm_at q_139 27 = some (.aload_n 0, 1) := by decide +kernel
theorem i_139_28 : pm_at q_139 28 = some (.bipush 7, 2) := by decide +kernel
theorem i_139_30 : pm_at q_139 30 = some (.newarray .int, 2) := by decide +kernel
theorem i_139_32 : pm_at q_139 32 = some (.putfield 19, 3) := by decide +kernel
theorem i_139_35 : pm_at q_139 35 = some (.aload_n 0, 1) := by decide +kernel
theorem i_139_36 : pm_at q_139 36 = some (.bipush 7, 2) := by decide +kernel
theorem i_139_38 : pm_at q_139 38 = some (.newarray .int, 2) := by decide +kernel
theorem i_139_40 : pm_at q_139 40 = some (.putfield 22, 3) := by decide +kernel
theorem i_139_43 : pm_at q_139 43 = some (.aload_n 0, 1) := by decide +kernel
theorem i_139_44 : pm_at q_139 44 = some (.bipush 7, 2) := by decide +kernel
theorem i_139_46 : pm_at q_139 46 = some (.newarray .int, 2) := by decide +kernel
theorem i_139_48 : pm_at q_139 48 = some (.putfield 25, 3) := by decide +kernel
theorem i_139_51 : pm_at q_139 51 = some (.aload_n 0, 1) := by decide +kernel
theorem i_139_52 : pm_at q_139 52 = some (.bipush 7, 2) := by decide +kernel
theorem i_139_54 : pm_at q_139 54 = some (.newarray .int, 2) := by decide +kernel
theorem i_139_56 : pm_at q_139 56 = some (.putfield 28, 3) := by decide +kernel
theorem i_139_59 : pm_at q_139 59 = some (.aload_n 0, 1) := by decide +kernel
theorem i_139_60 : pm_at q_139 60 = some (.bipush 7, 2) := by decide +kernel
theorem i_139_62 : pm_at q_139 62 = some (.newarray .int, 2) := by decide +kernel
theorem i_139_64 : pm_at q_139 64 = some (.putfield 31, 3) := by decide +kernel
theorem i_139_67 : pm_at q_139 67 = some (.aload_n 0, 1) := by decide +kernel
theorem i_139_68 : pm_at q_139 68 = some (.bipush 30, 2) := by decide +kernel
theorem i_139_70 : pm_at q_139 70 = some (.newarray .int, 2) := by decide +kernel
theorem i_139_72 : pm_at q_139 72 = some (.putfield 34, 3) := by decide +kernel
theorem i_139_75 : pm_at q_139 75 = some (.aload_n 0, 1) := by decide +kernel
theorem i_139_76 : pm_at q_139 76 = some (.bipush 6, 2) := by decide +kernel
theorem i_139_78 : pm_at q_139 78 = some (.newarray .int, 2) := by decide +kernel
theorem i_139_80 : pm_at q_139 80 = some (.putfield 37, 3) := by decide +kernel
theorem i_139_83 : pm_at q_139 83 = some (.aload_n 0, 1) := by decide +kernel
theorem i_139_84 : pm_at q_139 84 = some (.bipush 6, 2) := by decide +kernel
theorem i_139_86 : pm_at q_139 86 = some (.newarray .int, 2) := by decide +kernel
theorem i_139_88 : pm_at q_139 88 = some (.putfield 40, 3) := by decide +kernel
theorem i_139_91 : pm_at q_139 91 = some (.aload_n 0, 1) := by decide +kernel
theorem i_139_92 : pm_at q_139 92 = some (.sipush 150, 3) := by decide +kernel
theorem i_139_95 : pm_at q_139 95 = some (.newarray .int, 2) := by decide +kernel
theorem i_139_97 : pm_at q_139 97 = some (.putfield 43, 3) := by decide +kernel
theorem i_139_100 : pm_at q_139 100 = some (.aload_n 0, 1) := by decide +kernel
theorem i_139_101 : pm_at q_139 101 = some (.iconst 5, 1) := by decide +kernel
theorem i_139_102 : pm_at q_139 102 = some (.newarray .int, 2) := by decide +kernel
theorem i_139_104 : pm_at q_139 104 = some (.putfield 46, 3) := by decide +kernel
theorem i_139_107 : pm_at q_139 107 = some (.aload_n 0, 1) := by decide +kernel
theorem i_139_108 : pm_at q_139 108 = some (.sipush 420, 3) := by decide +kernel
theorem i_139_111 : pm_at q_139 111 = some (.newarray .int, 2) := by decide +kernel
theorem i_139_113 : pm_at q_139 113 = some (.putfield 49, 3) := by decide +kernel
theorem i_139_116 : pm_at q_139 116 = some (.aload_n 0, 1) := by decide +kernel
theorem i_139_117 : pm_at q_139 117 = some (.bipush 7, 2) := by decide +kernel
theorem i_139_119 : pm_at q_139 119 = some (.newarray .int, 2) := by decide +kernel
theorem i_139_121 : pm_at q_139 121 = some (.putfield 52, 3) := by decide +kernel
theorem i_139_124 : pm_at q_139 124 = some (.aload_n 0, 1) := by decide +kernel
theorem i_139_125 : pm_at q_139 125 = some (.sipush 312, 3) := by decide +kernel
theorem i_139_128 : pm_at q_139 128 = some (.newarray .int, 2) := by decide +kernel
theorem i_139_130 : pm_at q_139 130 = some (.putfield 55, 3) := by decide +kernel
theorem i_139_133 : pm_at q_139 133 = some (.aload_n 0, 1) := by decide +kernel
theorem i_139_134 : pm_at q_139 134 = some (.bipush 52, 2) := by decide +kernel
theorem i_139_136 : pm_at q_139 136 = some (.newarray .int, 2) := by decide +kernel
theorem i_139_138 : pm_at q_139 138 = some (.putfield 58, 3) := by decide +kernel
theorem i_139_141 : pm_at q_139 141 = some (.aload_n 0, 1) := by decide +kernel
theorem i_139_142 : pm_at q_139 142 = some (.bipush 7, 2) := by decide +kernel
theorem i_139_144 : pm_at q_139 144 = some (.newarray .int, 2) := by decide +kernel
theorem i_139_146 : pm_at q_139 146 = some (.putfield 61, 3) := by decide +kernel
theorem i_139_149 : pm_at q_139 149 = some (.aload_n 0, 1) := by decide +kernel
theorem i_139_150 : pm_at q_139 150 = some (.bipush 13, 2) := by decide +kernel
theorem i_139_152 : pm_at q_139 152 = some (.newarray .int, 2) := by decide +kernel
theorem i_139_154 : pm_at q_139 154 = some (.putfield 64, 3) := by decide +kernel
theorem i_139_157 : pm_at q_139 157 = some (.aload_n 0, 1) := by decide +kernel
theorem i_139_158 : pm_at q_139 158 = some (.bipush 40, 2) := by decide +kernel
theorem i_139_160 : pm_at q_139 160 = some (.newarray .int, 2) := by decide +kernel
theorem i_139_162 : pm_at q_139 162 = some (.putfield 67, 3) := by decide +kernel
theorem i_139_165 : pm_at q_139 165 = some (.aload_n 0, 1) := by decide +kernel
theorem i_139_166 : pm_at q_139 166 = some (.bipush 40, 2) := by decide +kernel
theorem i_139_168 : pm_at q_139 168 = some (.newarray .int, 2) := by decide +kernel
theorem i_139_170 : pm_at q_139 170 = some (.putfield 70, 3) := by decide +kernel
theorem i_139_173 : pm_at q_139 173 = some (.aload_n 0, 1) := by decide +kernel
theorem i_139_174 : pm_at q_139 174 = some (.sipush 8192, 3) := by decide +kernel
theorem i_139_177 : pm_at q_139 177 = some (.newarray .int, 2) := by decide +kernel
theorem i_139_179 : pm_at q_139 179 = some (.putfield 73, 3) := by decide +kernel
theorem i_139_182 : pm_at q_139 182 = some (.aload_n 0, 1) := by decide +kernel
theorem i_139_183 : pm_at q_139 183 = some (.bipush 13, 2) := by decide +kernel
theorem i_139_185 : pm_at q_139 185 = some (.newarray .int, 2) := by decide +kernel
theorem i_139_187 : pm_at q_139 187 = some (.putfield 76, 3) := by decide +kernel
theorem i_139_190 : pm_at q_139 190 = some (.aload_n 0, 1) := by decide +kernel
theorem i_139_191 : pm_at q_139 191 = some (.bipush 13, 2) := by decide +kernel
theorem i_139_193 : pm_at q_139 193 = some (.newarray .int, 2) := by decide +kernel
theorem i_139_195 : pm_at q_139 195 = some (.putfield 79, 3) := by decide +kernel
theorem i_139_198 : pm_at q_139 198 = some (.aload_n 0, 1) := by decide +kernel
theorem i_139_199 : pm_at q_139 199 = some (.lconst 1, 1) := by decide +kernel
theorem i_139_200 : pm_at q_139 200 = some (.putfield 82, 3) := by decide +kernel
theorem i_139_203 : pm_at q_139 203 = some (.aload_n 0, 1) := by decide +kernel
theorem i_139_204 : pm_at q_139 204 = some (.sipush 840, 3) := by decide +kernel
theorem i_139_207 : pm_at q_139 207 = some (.newarray .int, 2) := by decide +kernel
theorem i_139_209 : pm_at q_139 209 = some (.putfield 86, 3) := by decide +kernel
theorem i_139_212 : pm_at q_139 212 = some (.aload_n 0, 1) := by decide +kernel
theorem i_139_213 : pm_at q_139 213 = some (.iconst 2, 1) := by decide +kernel
theorem i_139_214 : pm_at q_139 214 = some (.newarray .int, 2) := by decide +kernel
theorem i_139_216 : pm_at q_139 216 = some (.putfield 89, 3) := by decide +kernel
theorem i_139_219 : pm_at q_139 219 = some (.aload_n 0, 1) := by decide +kernel
theorem i_139_220 : pm_at q_139 220 = some (.bipush 20, 2) := by decide +kernel
theorem i_139_222 : pm_at q_139 222 = some (.invokevirtual 92, 3) := by decide +kernel
theorem i_139_225 : pm_at q_139 225 = some (.return_, 1) := by decide +kernel
theorem i_140_0 : pm_at q_140 0 = some (.aload_n 0, 1) := by decide +kernel
theorem i_140_1 : pm_at q_140 1 = some (.iconst 0, 1) := by decide +kernel
theorem i_140_2 : pm_at q_140 2 = some (.putfield 96, 3) := by decide +kernel
theorem i_140_5 : pm_at q_140 5 = some (.aload_n 0, 1) := by decide +kernel
theorem i_140_6 : pm_at q_140 6 = some (.iconst 0, 1) := by decide +kernel
theorem i_140_7 : pm_at q_140 7 = some (.putfield 100, 3) := by decide +kernel
theorem i_140_10 : pm_at q_140 10 = some (.aload_n 0, 1) := by decide +kernel
theorem i_140_11 : pm_at q_140 11 = some (.iload_n 1, 1) := by decide +kernel
theorem i_140_12 : pm_at q_140 12 = some (.putfield 103, 3) := by decide +kernel
theorem i_140_15 : pm_at q_140 15 = some (.aload_n 0, 1) := by decide +kernel
theorem i_140_16 : pm_at q_140 16 = some (.iconst 0, 1) := by decide +kernel
theorem i_140_17 : pm_at q_140 17 = some (.putfield 106, 3) := by decide +kernel
theorem i_140_20 : pm_at q_140 20 = some (.aload_n 0, 1) := by decide +kernel
theorem i_140_21 : pm_at q_140 21 = some (.iconst 0, 1) := by decide +kernel
theorem i_140_22 : pm_at q_140 22 = some (.putfield 109, 3) := by decide +kernel
theorem i_140_25 : pm_at q_140 25 = some (.aload_n 0, 1) := by decide +kernel
theorem i_140_26 : pm_at q_140 26 = some (.iconst 0, 1) := by decide +kernel
theorem i_140_27 : pm_at q_140 27 = some (.putfield 112, 3) := by decide +kernel
theorem i_140_30 : pm_at q_140 30 = some (.return_, 1) := by decide +kernel
theorem i_141_0 : pm_at q_141 0 = some (.iload_n 1, 1) := by decide +kernel
theorem i_141_1 : pm_at q_141 1 = some (.iconst 0, 1) := by decide +kernel
theorem i_141_2 : pm_at q_141 2 = some (.aload_n 0, 1) := by decide +kernel
theorem i_141_3 : pm_at q_141 3 = some (.getfield 96, 3) := by decide +kernel
theorem i_141_6 : pm_at q_141 6 = some (.iconst 1, 1) := by decide +kernel
theorem i_141_7 : pm_at q_141 7 = some (.isub, 1) := by decide +kernel
theorem i_141_8 : pm_at q_141 8 = some (.invokestatic 115, 3) := by decide +kernel
theorem i_141_11 : pm_at q_141 11 = some (.ireturn, 1) := by decide +kernel
theorem i_142_0 : pm_at q_142 0 = some (.iload_n 0, 1) := by decide +kernel
theorem i_142_1 : pm_at q_142 1 = some (.iconst 0, 1) := by decide +kernel
theorem i_142_2 : pm_at q_142 2 = some (.bipush 12, 2) := by decide +kernel
theorem i_142_4 : pm_at q_142 4 = some (.invokestatic 115, 3) := by decide +kernel
theorem i_142_7 : pm_at q_142 7 = some (.ireturn, 1) := by decide +kernel
theorem i_143_0 : pm_at q_143 0 = some (.iload_n 1, 1) := by decide +kernel
theorem i_143_1 : pm_at q_143 1 = some (.iconst 0, 1) := by decide +kernel
theorem i_143_2 : pm_at q_143 2 = some (.iconst 1, 1) := by decide +kernel
theorem i_143_3 : pm_at q_143 3 = some (.aload_n 0, 1) := by decide +kernel
theorem i_143_4 : pm_at q_143 4 = some (.getfield 96, 3) := by decide +kernel
theorem i_143_7 : pm_at q_143 7 = some (.ishl, 1) := by decide +kernel
theorem i_143_8 : pm_at q_143 8 = some (.iconst 1, 1) := by decide +kernel
theorem i_143_9 : pm_at q_143 9 = some (.isub, 1) := by decide +kernel
theorem i_143_10 : pm_at q_143 10 = some (.invokestatic 115, 3) := by decide +kernel
theorem i_143_13 : pm_at q_143 13 = some (.ireturn, 1) := by decide +kernel
theorem i_144_0 : pm_at q_144 0 = some (.iload_n 1, 1) := by decide +kernel
theorem i_144_1 : pm_at q_144 1 = some (.bipush 6, 2) := by decide +kernel
theorem i_144_3 : pm_at q_144 3 = some (.bipush 40, 2) := by decide +kernel
theorem i_144_5 : pm_at q_144 5 = some (.invokestatic 115, 3) := by decide +kernel
theorem i_144_8 : pm_at q_144 8 = some (.ifCond .ne 8, 3) := by decide +kernel
theorem i_144_11 : pm_at q_144 11 = some (.aload_n 0, 1) := by decide +kernel
theorem i_144_12 : pm_at q_144 12 = some (.invokevirtual 119, 3) := by decide +kernel
theorem i_144_15 : pm_at q_144 15 = some (.ireturn, 1) := by decide +kernel
theorem i_144_16 : pm_at q_144 16 = some (.aload_n 0, 1) := by decide +kernel
theorem i_144_17 : pm_at q_144 17 = some (.getfield 96, 3) := by decide +kernel
theorem i_144_20 : pm_at q_144 20 = some (.istore_n 2, 1) := by decide +kernel
theorem i_144_21 : pm_at q_144 21 = some (.aload_n 0, 1) := by decide +kernel
theorem i_144_22 : pm_at q_144 22 = some (.iload_n 1, 1) := by decide +kernel
theorem i_144_23 : pm_at q_144 23 = some (.invokevirtual 92, 3) := by decide +kernel
theorem i_144_26 : pm_at q_144 26 = some (.iload_n 2, 1) := by decide +kernel
theorem i_144_27 : pm_at q_144 27 = some (.ireturn, 1) := by decide +kernel
theorem i_145_0 : pm_at q_145 0 = some (.aload_n 0, 1) := by decide +kernel
theorem i_145_1 : pm_at q_145 1 = some (.getfield 13, 3) := by decide +kernel
theorem i_145_4 : pm_at q_145 4 = some (.aload_n 0, 1) := by decide +kernel
theorem i_145_5 : pm_at q_145 5 = some (.getfield 96, 3) := by decide +kernel
theorem i_145_8 : pm_at q_145 8 = some (.iload_n 1, 1) := by decide +kernel
theorem i_145_9 : pm_at q_145 9 = some (.iastore, 1) := by decide +kernel
theorem i_145_10 : pm_at q_145 10 = some (.aload_n 0, 1) := by decide +kernel
theorem i_145_11 : pm_at q_145 11 = some (.getfield 16, 3) := by decide +kernel
theorem i_145_14 : pm_at q_145 14 = some (.aload_n 0, 1) := by decide +kernel
theorem i_145_15 : pm_at q_145 15 = some (.getfield 96, 3) := by decide +kernel
theorem i_145_18 : pm_at q_145 18 = some (.iload_n 2, 1) := by decide +kernel
theorem i_145_19 : pm_at q_145 19 = some (.iastore, 1) := by decide +kernel
theorem i_145_20 : pm_at q_145 20 = some (.aload_n 0, 1) := by decide +kernel
theorem i_145_21 : pm_at q_145 21 = some (.getfield 19, 3) := by decide +kernel
theorem i_145_24 : pm_at q_145 24 = some (.aload_n 0, 1) := by decide +kernel
theorem i_145_25 : pm_at q_145 25 = some (.getfield 96, 3) := by decide +kernel
theorem i_145_28 : pm_at q_145 28 = some (.iload_n 3, 1) := by decide +kernel
theorem i_145_29 : pm_at q_145 29 = some (.iastore, 1) := by decide +kernel
theorem i_145_30 : pm_at q_145 30 = some (.aload_n 0, 1) := by decide +kernel
theorem i_145_31 : pm_at q_145 31 = some (.getfield 22, 3) := by decide +kernel
theorem i_145_34 : pm_at q_145 34 = some (.aload_n 0, 1) := by decide +kernel
theorem i_145_35 : pm_at q_145 35 = some (.getfield 96, 3) := by decide +kernel
theorem i_145_38 : pm_at q_145 38 = some (.iload 4, 2) := by decide +kernel
theorem i_145_40 : pm_at q_145 40 = some (.iastore, 1) := by decide +kernel
theorem i_145_41 : pm_at q_145 41 = some (.aload_n 0, 1) := by decide +kernel
theorem i_145_42 : pm_at q_145 42 = some (.getfield 25, 3) := by decide +kernel
theorem i_145_45 : pm_at q_145 45 = some (.aload_n 0, 1) := by decide +kernel
theorem i_145_46 : pm_at q_145 46 = some (.getfield 96, 3) := by decide +kernel
theorem i_145_49 : pm_at q_145 49 = some (.iload 5, 2) := by decide +kernel
theorem i_145_51 : pm_at q_145 51 = some (.iastore, 1) := by decide +kernel
theorem i_145_52 : pm_at q_145 52 = some (.aload_n 0, 1) := by decide +kernel
theorem i_145_53 : pm_at q_145 53 = some (.getfield 28, 3) := by decide +kernel
theorem i_145_56 : pm_at q_145 56 = some (.aload_n 0, 1) := by decide +kernel
theorem i_145_57 : pm_at q_145 57 = some (.getfield 96, 3) := by decide +kernel
theorem i_145_60 : pm_at q_145 60 = some (.iconst 0, 1) := by decide +kernel
theorem i_145_61 : pm_at q_145 61 = some (.iastore, 1) := by decide +kernel
theorem i_145_62 : pm_at q_145 62 = some (.aload_n 0, 1) := by decide +kernel
theorem i_145_63 : pm_at q_145 63 = some (.getfield 31, 3) := by decide +kernel
theorem i_145_66 : pm_at q_145 66 = some (.aload_n 0, 1) := by decide +kernel
theorem i_145_67 : pm_at q_145 67 = some (.getfield 96, 3) := by decide +kernel
theorem i_145_70 : pm_at q_145 70 = some (.iconst 0, 1) := by decide +kernel
theorem i_145_71 : pm_at q_145 71 = some (.iastore, 1) := by decide +kernel
theorem i_145_72 : pm_at q_145 72 = some (.aload_n 0, 1) := by decide +kernel
theorem i_145_73 : pm_at q_145 73 = some (.dup, 1) := by decide +kernel
theorem i_145_74 : pm_at q_145 74 = some (.getfield 96, 3) := by decide +kernel
theorem i_145_77 : pm_at q_145 77 = some (.iconst 1, 1) := by decide +kernel
theorem i_145_78 : pm_at q_145 78 = some (.iadd, 1) := by decide +kernel
theorem i_145_79 : pm_at q_145 79 = some (.putfield 96, 3) := by decide +kernel
theorem i_145_82 : pm_at q_145 82 = some (.aload_n 0, 1) := by decide +kernel
theorem i_145_83 : pm_at q_145 83 = some (.iconst 0, 1) := by decide +kernel
theorem i_145_84 : pm_at q_145 84 = some (.putfield 112, 3) := by decide +kernel
theorem i_145_87 : pm_at q_145 87 = some (.aload_n 0, 1) := by decide +kernel
theorem i_145_88 : pm_at q_145 88 = some (.getfield 96, 3) := by decide +kernel
theorem i_145_91 : pm_at q_145 91 = some (.iconst 1, 1) := by decide +kernel
theorem i_145_92 : pm_at q_145 92 = some (.isub, 1) := by decide +kernel
theorem i_145_93 : pm_at q_145 93 = some (.ireturn, 1) := by decide +kernel
theorem i_146_0 : pm_at q_146 0 = some (.iload_n 1, 1) := by decide +kernel
theorem i_146_1 : pm_at q_146 1 = some (.iconst 0, 1) := by decide +kernel
theorem i_146_2 : pm_at q_146 2 = some (.iconst 5, 1) := by decide +kernel
theorem i_146_3 : pm_at q_146 3 = some (.invokestatic 115, 3) := by decide +kernel
theorem i_146_6 : pm_at q_146 6 = some (.ifCond .eq 49, 3) := by decide +kernel
theorem i_146_9 : pm_at q_146 9 = some (.iload_n 2, 1) := by decide +kernel
theorem i_146_10 : pm_at q_146 10 = some (.iconst 1, 1) := by decide +kernel
theorem i_146_11 : pm_at q_146 11 = some (.bipush 9, 2) := by decide +kernel
theorem i_146_13 : pm_at q_146 13 = some (.invokestatic 115, 3) := by decide +kernel
theorem i_146_16 : pm_at q_146 16 = some (.ifCond .eq 39, 3) := by decide +kernel
theorem i_146_19 : pm_at q_146 19 = some (.iload_n 3, 1) := by decide +kernel
theorem i_146_20 : pm_at q_146 20 = some (.iconst 1, 1) := by decide +kernel
theorem i_146_21 : pm_at q_146 21 = some (.bipush 9, 2) := by decide +kernel
theorem i_146_23 : pm_at q_146 23 = some (.invokestatic 115, 3) := by decide +kernel
theorem i_146_26 : pm_at q_146 26 = some (.ifCond .eq 29, 3) := by decide +kernel
theorem i_146_29 : pm_at q_146 29 = some (.iload 4, 2) := by decide +kernel
theorem i_146_31 : pm_at q_146 31 = some (.iconst 0, 1) := by decide +kernel
theorem i_146_32 : pm_at q_146 32 = some (.bipush 9, 2) := by decide +kernel
theorem i_146_34 : pm_at q_146 34 = some (.invokestatic 115, 3) := by decide +kernel
theorem i_146_37 : pm_at q_146 37 = some (.ifCond .eq 18, 3) := by decide +kernel
theorem i_146_40 : pm_at q_146 40 = some (.iload 5, 2) := by decide +kernel
theorem i_146_42 : pm_at q_146 42 = some (.iconst (-1), 1) := by decide +kernel
theorem i_146_43 : pm_at q_146 43 = some (.aload_n 0, 1) := by decide +kernel
theorem i_146_44 : pm_at q_146 44 = some (.getfield 96, 3) := by decide +kernel
theorem i_146_47 : pm_at q_146 47 = some (.iconst 1, 1) := by decide +kernel
theorem i_146_48 : pm_at q_146 48 = some (.isub, 1) := by decide +kernel
theorem i_146_49 : pm_at q_146 49 = some (.invokestatic 115, 3) := by decide +kernel
theorem i_146_52 : pm_at q_146 52 = some (.ifCond .ne 8, 3) := by decide +kernel
theorem i_146_55 : pm_at q_146 55 = some (.aload_n 0, 1) := by decide +kernel
theorem i_146_56 : pm_at q_146 56 = some (.invokevirtual 119, 3) := by decide +kernel
theorem i_146_59 : pm_at q_146 59 = some (.ireturn, 1) := by decide +kernel
theorem i_146_60 : pm_at q_146 60 = some (.aload_n 0, 1) := by decide +kernel
theorem i_146_61 : pm_at q_146 61 = some (.getfield 96, 3) := by decide +kernel
theorem i_146_64 : pm_at q_146 64 = some (.bipush 7, 2) := by decide +kernel
theorem i_146_66 : pm_at q_146 66 = some (.if_icmp .ne 10, 3) := by decide +kernel
theorem i_146_69 : pm_at q_146 69 = some (.aload_n 0, 1) := by decide +kernel
theorem i_146_70 : pm_at q_146 70 = some (.invokevirtual 123, 3) := by decide +kernel
theorem i_146_73 : pm_at q_146 73 = some (.goto 14, 3) := by decide +kernel
theorem i_146_76 : pm_at q_146 76 = some (.aload_n 0, 1) := by decide +kernel
theorem i_146_77 : pm_at q_146 77 = some (.iload_n 1, 1) := by decide +kernel
theorem i_146_78 : pm_at q_146 78 = some (.iload_n 2, 1) := by decide +kernel
theorem i_146_79 : pm_at q_146 79 = some (.iload_n 3, 1) := by decide +kernel
theorem i_146_80 : pm_at q_146 80 = some (.iload 4, 2) := by decide +kernel
theorem i_146_82 : pm_at q_146 82 = some (.iload 5, 2) := by decide +kernel
theorem i_146_84 : pm_at q_146 84 = some (.invokevirtual 126, 3) := by decide +kernel
theorem i_146_87 : pm_at q_146 87 = some (.ireturn, 1) := by decide +kernel
theorem i_147_0 : pm_at q_147 0 = some (.iload_n 1, 1) := by decide +kernel
theorem i_147_1 : pm_at q_147 1 = some (.iconst 0, 1) := by decide +kernel
theorem i_147_2 : pm_at q_147 2 = some (.bipush 127, 2) := by decide +kernel
theorem i_147_4 : pm_at q_147 4 = some (.invokestatic 115, 3) := by decide +kernel
theorem i_147_7 : pm_at q_147 7 = some (.ifCond .ne 8, 3) := by decide +kernel
theorem i_147_10 : pm_at q_147 10 = some (.aload_n 0, 1) := by decide +kernel
theorem i_147_11 : pm_at q_147 11 = some (.invokevirtual 119, 3) := by decide +kernel
theorem i_147_14 : pm_at q_147 14 = some (.ireturn, 1) := by decide +kernel
theorem i_147_15 : pm_at q_147 15 = some (.aload_n 0, 1) := by decide +kernel
theorem i_147_16 : pm_at q_147 16 = some (.getfield 130, 3) := by decide +kernel
theorem i_147_19 : pm_at q_147 19 = some (.sipush 150, 3) := by decide +kernel
theorem i_147_22 : pm_at q_147 22 = some (.if_icmp .ne 8, 3) := by decide +kernel
theorem i_147_25 : pm_at q_147 25 = some (.aload_n 0, 1) := by decide +kernel
theorem i_147_26 : pm_at q_147 26 = some (.invokevirtual 123, 3) := by decide +kernel
theorem i_147_29 : pm_at q_147 29 = some (.ireturn, 1) := by decide +kernel
theorem i_147_30 : pm_at q_147 30 = some (.aload_n 0, 1) := by decide +kernel
theorem i_147_31 : pm_at q_147 31 = some (.getfield 43, 3) := by decide +kernel
theorem i_147_34 : pm_at q_147 34 = some (.aload_n 0, 1) := by decide +kernel
theorem i_147_35 : pm_at q_147 35 = some (.getfield 130, 3) := by decide +kernel
theorem i_147_38 : pm_at q_147 38 = some (.iload_n 1, 1) := by decide +kernel
theorem i_147_39 : pm_at q_147 39 = some (.iastore, 1) := by decide +kernel
theorem i_147_40 : pm_at q_147 40 = some (.aload_n 0, 1) := by decide +kernel
theorem i_147_41 : pm_at q_147 41 = some (.dup, 1) := by decide +kernel
theorem i_147_42 : pm_at q_147 42 = some (.getfield 130, 3) := by decide +kernel
theorem i_147_45 : pm_at q_147 45 = some (.iconst 1, 1) := by decide +kernel
theorem i_147_46 : pm_at q_147 46 = some (.iadd, 1) := by decide +kernel
theorem i_147_47 : pm_at q_147 47 = some (.putfield 130, 3) := by decide +kernel
theorem i_147_50 : pm_at q_147 50 = some (.aload_n 0, 1) := by decide +kernel
theorem i_147_51 : pm_at q_147 51 = some (.getfield 130, 3) := by decide +kernel
theorem i_147_54 : pm_at q_147 54 = some (.ireturn, 1) := by decide +kernel
theorem i_148_0 : pm_at q_148 0 = some (.aload_n 0, 1) := by decide +kernel
theorem i_148_1 : pm_at q_148 1 = some (.getfield 130, 3) := by decide +kernel
theorem i_148_4 : pm_at q_148 4 = some (.istore_n 1, 1) := by decide +kernel
theorem i_148_5 : pm_at q_148 5 = some (.aload_n 0, 1) := by decide +kernel
theorem i_148_6 : pm_at q_148 6 = some (.iconst 0, 1) := by decide +kernel
theorem i_148_7 : pm_at q_148 7 = some (.putfield 130, 3) := by decide +kernel
theorem i_148_10 : pm_at q_148 10 = some (.iload_n 1, 1) := by decide +kernel
theorem i_148_11 : pm_at q_148 11 = some (.ireturn, 1) := by decide +kernel
theorem i_149_0 : pm_at q_149 0 = some (.aload_n 0, 1) := by decide +kernel
theorem i_149_1 : pm_at q_149 1 = some (.getfield 133, 3) := by decide +kernel
theorem i_149_4 : pm_at q_149 4 = some (.aload_n 0, 1) := by decide +kernel
theorem i_149_5 : pm_at q_149 5 = some (.getfield 130, 3) := by decide +kernel
theorem i_149_8 : pm_at q_149 8 = some (.if_icmp .ge 15, 3) := by decide +kernel
theorem i_149_11 : pm_at q_149 11 = some (.aload_n 0, 1) := by decide +kernel
theorem i_149_12 : pm_at q_149 12 = some (.getfield 43, 3) := by decide +kernel
theorem i_149_15 : pm_at q_149 15 = some (.aload_n 0, 1) := by decide +kernel
theorem i_149_16 : pm_at q_149 16 = some (.getfield 133, 3) := by decide +kernel
theorem i_149_19 : pm_at q_149 19 = some (.iaload, 1) := by decide +kernel
theorem i_149_20 : pm_at q_149 20 = some (.goto 4, 3) := by decide +kernel
theorem i_149_23 : pm_at q_149 23 = some (.iconst (-1), 1) := by decide +kernel
theorem i_149_24 : pm_at q_149 24 = some (.ireturn, 1) := by decide +kernel
theorem i_150_0 : pm_at q_150 0 = some (.aload_n 0, 1) := by decide +kernel
theorem i_150_1 : pm_at q_150 1 = some (.invokevirtual 136, 3) := by decide +kernel
theorem i_150_4 : pm_at q_150 4 = some (.bipush 32, 2) := by decide +kernel
theorem i_150_6 : pm_at q_150 6 = some (.if_icmp .ne 16, 3) := by decide +kernel
theorem i_150_9 : pm_at q_150 9 = some (.aload_n 0, 1) := by decide +kernel
theorem i_150_10 : pm_at q_150 10 = some (.dup, 1) := by decide +kernel
theorem i_150_11 : pm_at q_150 11 = some (.getfield 133, 3) := by decide +kernel
theorem i_150_14 : pm_at q_150 14 = some (.iconst 1, 1) := by decide +kernel
theorem i_150_15 : pm_at q_150 15 = some (.iadd, 1) := by decide +kernel
theorem i_150_16 : pm_at q_150 16 = some (.putfield 133, 3) := by decide +kernel
theorem i_150_19 : pm_at q_150 19 = some (.goto (-19), 3) := by decide +kernel
theorem i_150_22 : pm_at q_150 22 = some (.return_, 1) := by decide +kernel
theorem i_151_0 : pm_at q_151 0 = some (.iload_n 0, 1) := by decide +kernel
theorem i_151_1 : pm_at q_151 1 = some (.bipush 97, 2) := by decide +kernel
theorem i_151_3 : pm_at q_151 3 = some (.bipush 122, 2) := by decide +kernel
theorem i_151_5 : pm_at q_151 5 = some (.invokestatic 115, 3) := by decide +kernel
theorem i_151_8 : pm_at q_151 8 = some (.ireturn, 1) := by decide +kernel
theorem i_152_0 : pm_at q_152 0 = some (.iload_n 0, 1) := by decide +kernel
theorem i_152_1 : pm_at q_152 1 = some (.bipush 48, 2) := by decide +kernel
theorem i_152_3 : pm_at q_152 3 = some (.bipush 57, 2) := by decide +kernel
theorem i_152_5 : pm_at q_152 5 = some (.invokestatic 115, 3) := by decide +kernel
theorem i_152_8 : pm_at q_152 8 = some (.ireturn, 1) := by decide +kernel
theorem i_153_0 : pm_at q_153 0 = some (.iconst 0, 1) := by decide +kernel
theorem i_153_1 : pm_at q_153 1 = some (.istore_n 1, 1) := by decide +kernel
theorem i_153_2 : pm_at q_153 2 = some (.aload_n 0, 1) := by decide +kernel
theorem i_153_3 : pm_at q_153 3 = some (.getfield 133, 3) := by decide +kernel
theorem i_153_6 : pm_at q_153 6 = some (.iload_n 1, 1) := by decide +kernel
theorem i_153_7 : pm_at q_153 7 = some (.iadd, 1) := by decide +kernel
theorem i_153_8 : pm_at q_153 8 = some (.aload_n 0, 1) := by decide +kernel
theorem i_153_9 : pm_at q_153 9 = some (.getfield 130, 3) := by decide +kernel
theorem i_153_12 : pm_at q_153 12 = some (.if_icmp .ge 26, 3) := by decide +kernel
theorem i_153_15 : pm_at q_153 15 = some (.aload_n 0, 1) := by decide +kernel
theorem i_153_16 : pm_at q_153 16 = some (.getfield 43, 3) := by decide +kernel
theorem i_153_19 : pm_at q_153 19 = some (.aload_n 0, 1) := by decide +kernel
theorem i_153_20 : pm_at q_153 20 = some (.getfield 133, 3) := by decide +kernel
theorem i_153_23 : pm_at q_153 23 = some (.iload_n 1, 1) := by decide +kernel
theorem i_153_24 : pm_at q_153 24 = some (.iadd, 1) := by decide +kernel
theorem i_153_25 : pm_at q_153 25 = some (.iaload, 1) := by decide +kernel
theorem i_153_26 : pm_at q_153 26 = some (.invokestatic 139, 3) := by decide +kernel
theorem i_153_29 : pm_at q_153 29 = some (.ifCond .eq 9, 3) := by decide +kernel
theorem i_153_32 : pm_at q_153 32 = some (.iinc 1 1, 3) := by decide +kernel
theorem i_153_35 : pm_at q_153 35 = some (.goto (-33), 3) := by decide +kernel
theorem i_153_38 : pm_at q_153 38 = some (.iload_n 1, 1) := by decide +kernel
theorem i_153_39 : pm_at q_153 39 = some (.ireturn, 1) := by decide +kernel
theorem i_154_0 : pm_at q_154 0 = some (.aload_n 0, 1) := by decide +kernel
theorem i_154_1 : pm_at q_154 1 = some (.getfield 43, 3) := by decide +kernel
theorem i_154_4 : pm_at q_154 4 = some (.aload_n 0, 1) := by decide +kernel
theorem i_154_5 : pm_at q_154 5 = some (.getfield 133, 3) := by decide +kernel
theorem i_154_8 : pm_at q_154 8 = some (.iload_n 1, 1) := by decide +kernel
theorem i_154_9 : pm_at q_154 9 = some (.iadd, 1) := by decide +kernel
theorem i_154_10 : pm_at q_154 10 = some (.iaload, 1) := by decide +kernel
theorem i_154_11 : pm_at q_154 11 = some (.ireturn, 1) := by decide +kernel
theorem i_155_0 : pm_at q_155 0 = some (.aload_n 0, 1) := by decide +kernel
theorem i_155_1 : pm_at q_155 1 = some (.invokevirtual 143, 3) := by decide +kernel
theorem i_155_4 : pm_at q_155 4 = some (.istore_n 1, 1) := by decide +kernel
theorem i_155_5 : pm_at q_155 5 = some (.iload_n 1, 1) := by decide +kernel
theorem i_155_6 : pm_at q_155 6 = some (.iconst 2, 1) := by decide +kernel
theorem i_155_7 : pm_at q_155 7 = some (.if_icmp .ne 29, 3) := by decide +kernel
theorem i_155_10 : pm_at q_155 10 = some (.aload_n 0, 1) := by decide +kernel
theorem i_155_11 : pm_at q_155 11 = some (.iconst 0, 1) := by decide +kernel
theorem i_155_12 : pm_at q_155 12 = some (.invokevirtual 146, 3) := by decide +kernel
theorem i_155_15 : pm_at q_155 15 = some (.bipush 111, 2) := by decide +kernel
theorem i_155_17 : pm_at q_155 17 = some (.if_icmp .ne 17, 3) := by decide +kernel
theorem i_155_20 : pm_at q_155 20 = some (.aload_n 0, 1) := by decide +kernel
theorem i_155_21 : pm_at q_155 21 = some (.iconst 1, 1) := by decide +kernel
theorem i_155_22 : pm_at q_155 22 = some (.invokevirtual 146, 3) := by decide +kernel
theorem i_155_25 : pm_at q_155 25 = some (.bipush 110, 2) := by decide +kernel
theorem i_155_27 : pm_at q_155 27 = some (.if_icmp .ne 7, 3) := by decide +kernel
theorem i_155_30 : pm_at q_155 30 = some (.iconst 2, 1) := by decide +kernel
theorem i_155_31 : pm_at q_155 31 = some (.goto 4, 3) := by decide +kernel
theorem i_155_34 : pm_at q_155 34 = some (.iconst (-1), 1) := by decide +kernel
theorem i_155_35 : pm_at q_155 35 = some (.ireturn, 1) := by decide +kernel
theorem i_155_36 : pm_at q_155 36 = some (.iload_n 1, 1) := by decide +kernel
theorem i_155_37 : pm_at q_155 37 = some (.iconst 5, 1) := by decide +kernel
theorem i_155_38 : pm_at q_155 38 = some (.if_icmp .ne 59, 3) := by decide +kernel
theorem i_155_41 : pm_at q_155 41 = some (.aload_n 0, 1) := by decide +kernel
theorem i_155_42 : pm_at q_155 42 = some (.iconst 0, 1) := by decide +kernel
theorem i_155_43 : pm_at q_155 43 = some (.invokevirtual 146, 3) := by decide +kernel
theorem i_155_46 : pm_at q_155 46 = some (.bipush 112, 2) := by decide +kernel
theorem i_155_48 : pm_at q_155 48 = some (.if_icmp .ne 47, 3) := by decide +kernel
theorem i_155_51 : pm_at q_155 51 = some (.aload_n 0, 1) := by decide +kernel
theorem i_155_52 : pm_at q_155 52 = some (.iconst 1, 1) := by decide +kernel
theorem i_155_53 : pm_at q_155 53 = some (.invokevirtual 146, 3) := by decide +kernel
theorem i_155_56 : pm_at q_155 56 = some (.bipush 105, 2) := by decide +kernel
theorem i_155_58 : pm_at q_155 58 = some (.if_icmp .ne 37, 3) := by decide +kernel
theorem i_155_61 : pm_at q_155 61 = some (.aload_n 0, 1) := by decide +kernel
theorem i_155_62 : pm_at q_155 62 = some (.iconst 2, 1) := by decide +kernel
theorem i_155_63 : pm_at q_155 63 = some (.invokevirtual 146, 3) := by decide +kernel
theorem i_155_66 : pm_at q_155 66 = some (.bipush 101, 2) := by decide +kernel
theorem i_155_68 : pm_at q_155 68 = some (.if_icmp .ne 27, 3) := by decide +kernel
theorem i_155_71 : pm_at q_155 71 = some (.aload_n 0, 1) := by decide +kernel
theorem i_155_72 : pm_at q_155 72 = some (.iconst 3, 1) := by decide +kernel
theorem i_155_73 : pm_at q_155 73 = some (.invokevirtual 146, 3) := by decide +kernel
theorem i_155_76 : pm_at q_155 76 = some (.bipush 99, 2) := by decide +kernel
theorem i_155_78 : pm_at q_155 78 = some (.if_icmp .ne 17, 3) := by decide +kernel
theorem i_155_81 : pm_at q_155 81 = some (.aload_n 0, 1) := by decide +kernel
theorem i_155_82 : pm_at q_155 82 = some (.iconst 4, 1) := by decide +kernel
theorem i_155_83 : pm_at q_155 83 = some (.invokevirtual 146, 3) := by decide +kernel
theorem i_155_86 : pm_at q_155 86 = some (.bipush 101, 2) := by decide +kernel
theorem i_155_88 : pm_at q_155 88 = some (.if_icmp .ne 7, 3) := by decide +kernel
theorem i_155_91 : pm_at q_155 91 = some (.iconst 1, 1) := by decide +kernel
theorem i_155_92 : pm_at q_155 92 = some (.goto 4, 3) := by decide +kernel
theorem i_155_95 : pm_at q_155 95 = some (.iconst (-1), 1) := by decide +kernel
theorem i_155_96 : pm_at q_155 96 = some (.ireturn, 1) := by decide +kernel
theorem i_155_97 : pm_at q_155 97 = some (.iload_n 1, 1) := by decide +kernel
theorem i_155_98 : pm_at q_155 98 = some (.iconst 4, 1) := by decide +kernel
theorem i_155_99 : pm_at q_155 99 = some (.if_icmp .eq 5, 3) := by decide +kernel
theorem i_155_102 : pm_at q_155 102 = some (.iconst (-1), 1) := by decide +kernel
theorem i_155_103 : pm_at q_155 103 = some (.ireturn, 1) := by decide +kernel
theorem i_155_104 : pm_at q_155 104 = some (.aload_n 0, 1) := by decide +kernel
theorem i_155_105 : pm_at q_155 105 = some (.iconst 0, 1) := by decide +kernel
theorem i_155_106 : pm_at q_155 106 = some (.invokevirtual 146, 3) := by decide +kernel
theorem i_155_109 : pm_at q_155 109 = some (.bipush 98, 2) := by decide +kernel
theorem i_155_111 : pm_at q_155 111 = some (.if_icmp .ne 35, 3) := by decide +kernel
theorem i_155_114 : pm_at q_155 114 = some (.aload_n 0, 1) := by decide +kernel
theorem i_155_115 : pm_at q_155 115 = some (.iconst 1, 1) := by decide +kernel
theorem i_155_116 : pm_at q_155 116 = some (.invokevirtual 146, 3) := by decide +kernel
theorem i_155_119 : pm_at q_155 119 = some (.bipush 111, 2) := by decide +kernel
theorem i_155_121 : pm_at q_155 121 = some (.if_icmp .ne 25, 3) := by decide +kernel
theorem i_155_124 : pm_at q_155 124 = some (.aload_n 0, 1) := by decide +kernel
theorem i_155_125 : pm_at q_155 125 = some (.iconst 2, 1) := by decide +kernel
theorem i_155_126 : pm_at q_155 126 = some (.invokevirtual 146, 3) := by decide +kernel
theorem i_155_129 : pm_at q_155 129 = some (.bipush 111, 2) := by decide +kernel
theorem i_155_131 : pm_at q_155 131 = some (.if_icmp .ne 15, 3) := by decide +kernel
theorem i_155_134 : pm_at q_155 134 = some (.aload_n 0, 1) := by decide +kernel
theorem i_155_135 : pm_at q_155 135 = some (.iconst 3, 1) := by decide +kernel
theorem i_155_136 : pm_at q_155 136 = some (.invokevirtual 146, 3) := by decide +kernel
theorem i_155_139 : pm_at q_155 139 = some (.bipush 107, 2) := by decide +kernel
theorem i_155_141 : pm_at q_155 141 = some (.if_icmp .ne 5, 3) := by decide +kernel
theorem i_155_144 : pm_at q_155 144 = some (.iconst 0, 1) := by decide +kernel
theorem i_155_145 : pm_at q_155 145 = some (.ireturn, 1) := by decide +kernel
theorem i_155_146 : pm_at q_155 146 = some (.aload_n 0, 1) := by decide +kernel
theorem i_155_147 : pm_at q_155 147 = some (.iconst 0, 1) := by decide +kernel
theorem i_155_148 : pm_at q_155 148 = some (.invokevirtual 146, 3) := by decide +kernel
theorem i_155_151 : pm_at q_155 151 = some (.bipush 111, 2) := by decide +kernel
theorem i_155_153 : pm_at q_155 153 = some (.if_icmp .ne 35, 3) := by decide +kernel
theorem i_155_156 : pm_at q_155 156 = some (.aload_n 0, 1) := by decide +kernel
theorem i_155_157 : pm_at q_155 157 = some (.iconst 1, 1) := by decide +kernel
theorem i_155_158 : pm_at q_155 158 = some (.invokevirtual 146, 3) := by decide +kernel
theorem i_155_161 : pm_at q_155 161 = some (.bipush 112, 2) := by decide +kernel
theorem i_155_163 : pm_at q_155 163 = some (.if_icmp .ne 25, 3) := by decide +kernel
theorem i_155_166 : pm_at q_155 166 = some (.aload_n 0, 1) := by decide +kernel
theorem i_155_167 : pm_at q_155 167 = some (.iconst 2, 1) := by decide +kernel
theorem i_155_168 : pm_at q_155 168 = some (.invokevirtual 146, 3) := by decide +kernel
theorem i_155_171 : pm_at q_155 171 = some (.bipush 101, 2) := by decide +kernel
theorem i_155_173 : pm_at q_155 173 = some (.if_icmp .ne 15, 3) := by decide +kernel
theorem i_155_176 : pm_at q_155 176 = some (.aload_n 0, 1) := by decide +kernel
theorem i_155_177 : pm_at q_155 177 = some (.iconst 3, 1) := by decide +kernel
theorem i_155_178 : pm_at q_155 178 = some (.invokevirtual 146, 3) := by decide +kernel
theorem i_155_181 : pm_at q_155 181 = some (.bipush 110, 2) := by decide +kernel
theorem i_155_183 : pm_at q_155 183 = some (.if_icmp .ne 5, 3) := by decide +kernel
theorem i_155_186 : pm_at q_155 186 = some (.iconst 3, 1) := by decide +kernel
theorem i_155_187 : pm_at q_155 187 = some (.ireturn, 1) := by decide +kernel
theorem i_155_188 : pm_at q_155 188 = some (.aload_n 0, 1) := by decide +kernel
theorem i_155_189 : pm_at q_155 189 = some (.iconst 0, 1) := by decide +kernel
theorem i_155_190 : pm_at q_155 190 = some (.invokevirtual 146, 3) := by decide +kernel
theorem i_155_193 : pm_at q_155 193 = some (.bipush 112, 2) := by decide +kernel
theorem i_155_195 : pm_at q_155 195 = some (.if_icmp .ne 37, 3) := by decide +kernel
theorem i_155_198 : pm_at q_155 198 = some (.aload_n 0, 1) := by decide +kernel
theorem i_155_199 : pm_at q_155 199 = some (.iconst 1, 1) := by decide +kernel
theorem i_155_200 : pm_at q_155 200 = some (.invokevirtual 146, 3) := by decide +kernel
theorem i_155_203 : pm_at q_155 203 = some (.bipush 117, 2) := by decide +kernel
theorem i_155_205 : pm_at q_155 205 = some (.if_icmp .ne 27, 3) := by decide +kernel
theorem i_155_208 : pm_at q_155 208 = some (.aload_n 0, 1) := by decide +kernel
theorem i_155_209 : pm_at q_155 209 = some (.iconst 2, 1) := by decide +kernel
theorem i_155_210 : pm_at q_155 210 = some (.invokevirtual 146, 3) := by decide +kernel
theorem i_155_213 : pm_at q_155 213 = some (.bipush 108, 2) := by decide +kernel
theorem i_155_215 : pm_at q_155 215 = some (.if_icmp .ne 17, 3) := by decide +kernel
theorem i_155_218 : pm_at q_155 218 = some (.aload_n 0, 1) := by decide +kernel
theorem i_155_219 : pm_at q_155 219 = some (.iconst 3, 1) := by decide +kernel
theorem i_155_220 : pm_at q_155 220 = some (.invokevirtual 146, 3) := by decide +kernel
theorem i_155_223 : pm_at q_155 223 = some (.bipush 108, 2) := by decide +kernel
theorem i_155_225 : pm_at q_155 225 = some (.if_icmp .ne 7, 3) := by decide +kernel
theorem i_155_228 : pm_at q_155 228 = some (.iconst 4, 1) := by decide +kernel
theorem i_155_229 : pm_at q_155 229 = some (.goto 4, 3) := by decide +kernel
theorem i_155_232 : pm_at q_155 232 = some (.iconst (-1), 1) := by decide +kernel
theorem i_155_233 : pm_at q_155 233 = some (.ireturn, 1) := by decide +kernel
theorem i_156_0 : pm_at q_156 0 = some (.aload_n 0, 1) := by decide +kernel
theorem i_156_1 : pm_at q_156 1 = some (.invokevirtual 150, 3) := by decide +kernel
theorem i_156_4 : pm_at q_156 4 = some (.iconst 0, 1) := by decide +kernel
theorem i_156_5 : pm_at q_156 5 = some (.istore_n 3, 1) := by decide +kernel
theorem i_156_6 : pm_at q_156 6 = some (.iconst 0, 1) := by decide +kernel
theorem i_156_7 : pm_at q_156 7 = some (.istore 4, 2) := by decide +kernel
theorem i_156_9 : pm_at q_156 9 = some (.aload_n 0, 1) := by decide +kernel
theorem i_156_10 : pm_at q_156 10 = some (.getfield 133, 3) := by decide +kernel
theorem i_156_13 : pm_at q_156 13 = some (.iload_n 3, 1) := by decide +kernel
theorem i_156_14 : pm_at q_156 14 = some (.iadd, 1) := by decide +kernel
theorem i_156_15 : pm_at q_156 15 = some (.aload_n 0, 1) := by decide +kernel
theorem i_156_16 : pm_at q_156 16 = some (.getfield 130, 3) := by decide +kernel
theorem i_156_19 : pm_at q_156 19 = some (.if_icmp .ge 58, 3) := by decide +kernel
theorem i_156_22 : pm_at q_156 22 = some (.aload_n 0, 1) := by decide +kernel
theorem i_156_23 : pm_at q_156 23 = some (.getfield 43, 3) := by decide +kernel
theorem i_156_26 : pm_at q_156 26 = some (.aload_n 0, 1) := by decide +kernel
theorem i_156_27 : pm_at q_156 27 = some (.getfield 133, 3) := by decide +kernel
theorem i_156_30 : pm_at q_156 30 = some (.iload_n 3, 1) := by decide +kernel
theorem i_156_31 : pm_at q_156 31 = some (.iadd, 1) := by decide +kernel
theorem i_156_32 : pm_at q_156 32 = some (.iaload, 1) := by decide +kernel
theorem i_156_33 : pm_at q_156 33 = some (.invokestatic 153, 3) := by decide +kernel
theorem i_156_36 : pm_at q_156 36 = some (.ifCond .eq 41, 3) := by decide +kernel
theorem i_156_39 : pm_at q_156 39 = some (.iload_n 3, 1) := by decide +kernel
theorem i_156_40 : pm_at q_156 40 = some (.iconst 2, 1) := by decide +kernel
theorem i_156_41 : pm_at q_156 41 = some (.if_icmp .ge 26, 3) := by decide +kernel
theorem i_156_44 : pm_at q_156 44 = some (.bipush 10, 2) := by decide +kernel
theorem i_156_46 : pm_at q_156 46 = some (.iload 4, 2) := by decide +kernel
theorem i_156_48 : pm_at q_156 48 = some (.imul, 1) := by decide +kernel
theorem i_156_49 : pm_at q_156 49 = some (.aload_n 0, 1) := by decide +kernel
theorem i_156_50 : pm_at q_156 50 = some (.getfield 43, 3) := by decide +kernel
theorem i_156_53 : pm_at q_156 53 = some (.aload_n 0, 1) := by decide +kernel
theorem i_156_54 : pm_at q_156 54 = some (.getfield 133, 3) := by decide +kernel
theorem i_156_57 : pm_at q_156 57 = some (.iload_n 3, 1) := by decide +kernel
theorem i_156_58 : pm_at q_156 58 = some (.iadd, 1) := by decide +kernel
theorem i_156_59 : pm_at q_156 59 = some (.iaload, 1) := by decide +kernel
theorem i_156_60 : pm_at q_156 60 = some (.iadd, 1) := by decide +kernel
theorem i_156_61 : pm_at q_156 61 = some (.bipush 48, 2) := by decide +kernel
theorem i_156_63 : pm_at q_156 63 = some (.isub, 1) := by decide +kernel
theorem i_156_64 : pm_at q_156 64 = some (.goto 5, 3) := by decide +kernel
theorem i_156_67 : pm_at q_156 67 = some (.iload 4, 2) := by decide +kernel
theorem i_156_69 : pm_at q_156 69 = some (.istore 4, 2) := by decide +kernel
theorem i_156_71 : pm_at q_156 71 = some (.iinc 3 1, 3) := by decide +kernel
theorem i_156_74 : pm_at q_156 74 = some (.goto (-65), 3) := by decide +kernel
theorem i_156_77 : pm_at q_156 77 = some (.iload_n 3, 1) := by decide +kernel
theorem i_156_78 : pm_at q_156 78 = some (.iconst 1, 1) := by decide +kernel
theorem i_156_79 : pm_at q_156 79 = some (.iconst 2, 1) := by decide +kernel
theorem i_156_80 : pm_at q_156 80 = some (.invokestatic 115, 3) := by decide +kernel
theorem i_156_83 : pm_at q_156 83 = some (.ifCond .eq 13, 3) := by decide +kernel
theorem i_156_86 : pm_at q_156 86 = some (.iload 4, 2) := by decide +kernel
theorem i_156_88 : pm_at q_156 88 = some (.iload_n 1, 1) := by decide +kernel
theorem i_156_89 : pm_at q_156 89 = some (.iload_n 2, 1) := by decide +kernel
theorem i_156_90 : pm_at q_156 90 = some (.invokestatic 115, 3) := by decide +kernel
theorem i_156_93 : pm_at q_156 93 = some (.ifCond .ne 5, 3) := by decide +kernel
theorem i_156_96 : pm_at q_156 96 = some (.iconst 0, 1) := by decide +kernel
theorem i_156_97 : pm_at q_156 97 = some (.ireturn, 1) := by decide +kernel
theorem i_156_98 : pm_at q_156 98 = some (.aload_n 0, 1) := by decide +kernel
theorem i_156_99 : pm_at q_156 99 = some (.iload 4, 2) := by decide +kernel
theorem i_156_101 : pm_at q_156 101 = some (.putfield 156, 3) := by decide +kernel
theorem i_156_104 : pm_at q_156 104 = some (.aload_n 0, 1) := by decide +kernel
theorem i_156_105 : pm_at q_156 105 = some (.dup, 1) := by decide +kernel
theorem i_156_106 : pm_at q_156 106 = some (.getfield 133, 3) := by decide +kernel
theorem i_156_109 : pm_at q_156 109 = some (.iload_n 3, 1) := by decide +kernel
theorem i_156_110 : pm_at q_156 110 = some (.iadd, 1) := by decide +kernel
theorem i_156_111 : pm_at q_156 111 = some (.putfield 133, 3) := by decide +kernel
theorem i_156_114 : pm_at q_156 114 = some (.iconst 1, 1) := by decide +kernel
theorem i_156_115 : pm_at q_156 115 = some (.ireturn, 1) := by decide +kernel
theorem i_157_0 : pm_at q_157 0 = some (.aload_n 0, 1) := by decide +kernel
theorem i_157_1 : pm_at q_157 1 = some (.invokevirtual 150, 3) := by decide +kernel
theorem i_157_4 : pm_at q_157 4 = some (.aload_n 0, 1) := by decide +kernel
theorem i_157_5 : pm_at q_157 5 = some (.invokevirtual 136, 3) := by decide +kernel
theorem i_157_8 : pm_at q_157 8 = some (.bipush 59, 2) := by decide +kernel
theorem i_157_10 : pm_at q_157 10 = some (.if_icmp .eq 5, 3) := by decide +kernel
theorem i_157_13 : pm_at q_157 13 = some (.iconst 0, 1) := by decide +kernel
theorem i_157_14 : pm_at q_157 14 = some (.ireturn, 1) := by decide +kernel
theorem i_157_15 : pm_at q_157 15 = some (.aload_n 0, 1) := by decide +kernel
theorem i_157_16 : pm_at q_157 16 = some (.dup, 1) := by decide +kernel
theorem i_157_17 : pm_at q_157 17 = some (.getfield 133, 3) := by decide +kernel
theorem i_157_20 : pm_at q_157 20 = some (.iconst 1, 1) := by decide +kernel
theorem i_157_21 : pm_at q_157 21 = some (.iadd, 1) := by decide +kernel
theorem i_157_22 : pm_at q_157 22 = some (.putfield 133, 3) := by decide +kernel
theorem i_157_25 : pm_at q_157 25 = some (.iconst 1, 1) := by decide +kernel
theorem i_157_26 : pm_at q_157 26 = some (.ireturn, 1) := by decide +kernel
theorem i_158_0 : pm_at q_158 0 = some (.iconst 0, 1) := by decide +kernel
theorem i_158_1 : pm_at q_158 1 = some (.istore_n 2, 1) := by decide +kernel
theorem i_158_2 : pm_at q_158 2 = some (.iload_n 2, 1) := by decide +kernel
theorem i_158_3 : pm_at q_158 3 = some (.iload_n 1, 1) := by decide +kernel
theorem i_158_4 : pm_at q_158 4 = some (.ifCond .eq 7, 3) := by decide +kernel
theorem i_158_7 : pm_at q_158 7 = some (.iconst 5, 1) := by decide +kernel
theorem i_158_8 : pm_at q_158 8 = some (.goto 4, 3) := by decide +kernel
theorem i_158_11 : pm_at q_158 11 = some (.iconst 4, 1) := by decide +kernel
theorem i_158_12 : pm_at q_158 12 = some (.if_icmp .ge 73, 3) := by decide +kernel
theorem i_158_15 : pm_at q_158 15 = some (.iload_n 2, 1) := by decide +kernel
theorem i_158_16 : pm_at q_158 16 = some (.iconst 1, 1) := by decide +kernel
theorem i_158_17 : pm_at q_158 17 = some (.if_icmp .eq 8, 3) := by decide +kernel
theorem i_158_20 : pm_at q_158 20 = some (.iload_n 2, 1) := by decide +kernel
theorem i_158_21 : pm_at q_158 21 = some (.iconst 2, 1) := by decide +kernel
theorem i_158_22 : pm_at q_158 22 = some (.if_icmp .ne 7, 3) := by decide +kernel
theorem i_158_25 : pm_at q_158 25 = some (.iconst 1, 1) := by decide +kernel
theorem i_158_26 : pm_at q_158 26 = some (.goto 4, 3) := by decide +kernel
theorem i_158_29 : pm_at q_158 29 = some (.iconst 0, 1) := by decide +kernel
theorem i_158_30 : pm_at q_158 30 = some (.istore_n 3, 1) := by decide +kernel
theorem i_158_31 : pm_at q_158 31 = some (.iload_n 2, 1) := by decide +kernel
theorem i_158_32 : pm_at q_158 32 = some (.ifCond .ne 7, 3) := by decide +kernel
theorem i_158_35 : pm_at q_158 35 = some (.iconst 5, 1) := by decide +kernel
theorem i_158_36 : pm_at q_158 36 = some (.goto 19, 3) := by decide +kernel
theorem i_158_39 : pm_at q_158 39 = some (.iload_n 2, 1) := by decide +kernel
theorem i_158_40 : pm_at q_158 40 = some (.iconst 4, 1) := by decide +kernel
theorem i_158_41 : pm_at q_158 41 = some (.if_icmp .ne 12, 3) := by decide +kernel
theorem i_158_44 : pm_at q_158 44 = some (.aload_n 0, 1) := by decide +kernel
theorem i_158_45 : pm_at q_158 45 = some (.getfield 96, 3) := by decide +kernel
theorem i_158_48 : pm_at q_158 48 = some (.iconst 1, 1) := by decide +kernel
theorem i_158_49 : pm_at q_158 49 = some (.isub, 1) := by decide +kernel
theorem i_158_50 : pm_at q_158 50 = some (.goto 5, 3) := by decide +kernel
theorem i_158_53 : pm_at q_158 53 = some (.bipush 9, 2) := by decide +kernel
theorem i_158_55 : pm_at q_158 55 = some (.istore 4, 2) := by decide +kernel
theorem i_158_57 : pm_at q_158 57 = some (.aload_n 0, 1) := by decide +kernel
theorem i_158_58 : pm_at q_158 58 = some (.iload_n 3, 1) := by decide +kernel
theorem i_158_59 : pm_at q_158 59 = some (.iload 4, 2) := by decide +kernel
theorem i_158_61 : pm_at q_158 61 = some (.invokevirtual 159, 3) := by decide +kernel
theorem i_158_64 : pm_at q_158 64 = some (.ifCond .ne 5, 3) := by decide +kernel
theorem i_158_67 : pm_at q_158 67 = some (.iconst 0, 1) := by decide +kernel
theorem i_158_68 : pm_at q_158 68 = some (.ireturn, 1) := by decide +kernel
theorem i_158_69 : pm_at q_158 69 = some (.aload_n 0, 1) := by decide +kernel
theorem i_158_70 : pm_at q_158 70 = some (.getfield 46, 3) := by decide +kernel
theorem i_158_73 : pm_at q_158 73 = some (.iload_n 2, 1) := by decide +kernel
theorem i_158_74 : pm_at q_158 74 = some (.aload_n 0, 1) := by decide +kernel
theorem i_158_75 : pm_at q_158 75 = some (.getfield 156, 3) := by decide +kernel
theorem i_158_78 : pm_at q_158 78 = some (.iastore, 1) := by decide +kernel
theorem i_158_79 : pm_at q_158 79 = some (.iinc 2 1, 3) := by decide +kernel
theorem i_158_82 : pm_at q_158 82 = some (.goto (-80), 3) := by decide +kernel
theorem i_158_85 : pm_at q_158 85 = some (.aload_n 0, 1) := by decide +kernel
theorem i_158_86 : pm_at q_158 86 = some (.invokevirtual 163, 3) := by decide +kernel
theorem i_158_89 : pm_at q_158 89 = some (.ifCond .ne 5, 3) := by decide +kernel
theorem i_158_92 : pm_at q_158 92 = some (.iconst 0, 1) := by decide +kernel
theorem i_158_93 : pm_at q_158 93 = some (.ireturn, 1) := by decide +kernel
theorem i_158_94 : pm_at q_158 94 = some (.aload_n 0, 1) := by decide +kernel
theorem i_158_95 : pm_at q_158 95 = some (.aload_n 0, 1) := by decide +kernel
theorem i_158_96 : pm_at q_158 96 = some (.getfield 46, 3) := by decide +kernel
theorem i_158_99 : pm_at q_158 99 = some (.iconst 0, 1) := by decide +kernel
theorem i_158_100 : pm_at q_158 100 = some (.iaload, 1) := by decide +kernel
theorem i_158_101 : pm_at q_158 101 = some (.aload_n 0, 1) := by decide +kernel
theorem i_158_102 : pm_at q_158 102 = some (.getfield 46, 3) := by decide +kernel
theorem i_158_105 : pm_at q_158 105 = some (.iconst 1, 1) := by decide +kernel
theorem i_158_106 : pm_at q_158 106 = some (.iaload, 1) := by decide +kernel
theorem i_158_107 : pm_at q_158 107 = some (.aload_n 0, 1) := by decide +kernel
theorem i_158_108 : pm_at q_158 108 = some (.getfield 46, 3) := by decide +kernel
theorem i_158_111 : pm_at q_158 111 = some (.iconst 2, 1) := by decide +kernel
theorem i_158_112 : pm_at q_158 112 = some (.iaload, 1) := by decide +kernel
theorem i_158_113 : pm_at q_158 113 = some (.aload_n 0, 1) := by decide +kernel
theorem i_158_114 : pm_at q_158 114 = some (.getfield 46, 3) := by decide +kernel
theorem i_158_117 : pm_at q_158 117 = some (.iconst 3, 1) := by decide +kernel
theorem i_158_118 : pm_at q_158 118 = some (.iaload, 1) := by decide +kernel
theorem i_158_119 : pm_at q_158 119 = some (.iload_n 1, 1) := by decide +kernel
theorem i_158_120 : pm_at q_158 120 = some (.ifCond .eq 12, 3) := by decide +kernel
theorem i_158_123 : pm_at q_158 123 = some (.aload_n 0, 1) := by decide +kernel
theorem i_158_124 : pm_at q_158 124 = some (.getfield 46, 3) := by decide +kernel
theorem i_158_127 : pm_at q_158 127 = some (.iconst 4, 1) := by decide +kernel
theorem i_158_128 : pm_at q_158 128 = some (.iaload, 1) := by decide +kernel
theorem i_158_129 : pm_at q_158 129 = some (.goto 4, 3) := by decide +kernel
theorem i_158_132 : pm_at q_158 132 = some (.iconst (-1), 1) := by decide +kernel
theorem i_158_133 : pm_at q_158 133 = some (.invokevirtual 126, 3) := by decide +kernel
theorem i_158_136 : pm_at q_158 136 = some (.pop, 1) := by decide +kernel
theorem i_158_137 : pm_at q_158 137 = some (.iconst 1, 1) := by decide +kernel
theorem i_158_138 : pm_at q_158 138 = some (.ireturn, 1) := by decide +kernel
theorem i_159_0 : pm_at q_159 0 = some (.aload_n 0, 1) := by decide +kernel
theorem i_159_1 : pm_at q_159 1 = some (.iconst 0, 1) := by decide +kernel
theorem i_159_2 : pm_at q_159 2 = some (.bipush 12, 2) := by decide +kernel
theorem i_159_4 : pm_at q_159 4 = some (.invokevirtual 159, 3) := by decide +kernel
theorem i_159_7 : pm_at q_159 7 = some (.ifCond .ne 5, 3) := by decide +kernel
theorem i_159_10 : pm_at q_159 10 = some (.iconst 0, 1) := by decide +kernel
theorem i_159_11 : pm_at q_159 11 = some (.ireturn, 1) := by decide +kernel
theorem i_159_12 : pm_at q_159 12 = some (.aload_n 0, 1) := by decide +kernel
theorem i_159_13 : pm_at q_159 13 = some (.aload_n 0, 1) := by decide +kernel
theorem i_159_14 : pm_at q_159 14 = some (.getfield 156, 3) := by decide +kernel
theorem i_159_17 : pm_at q_159 17 = some (.invokevirtual 167, 3) := by decide +kernel
theorem i_159_20 : pm_at q_159 20 = some (.aload_n 0, 1) := by decide +kernel
theorem i_159_21 : pm_at q_159 21 = some (.invokevirtual 163, 3) := by decide +kernel
theorem i_159_24 : pm_at q_159 24 = some (.ireturn, 1) := by decide +kernel
theorem i_160_0 : pm_at q_160 0 = some (.aload_n 0, 1) := by decide +kernel
theorem i_160_1 : pm_at q_160 1 = some (.iconst 0, 1) := by decide +kernel
theorem i_160_2 : pm_at q_160 2 = some (.aload_n 0, 1) := by decide +kernel
theorem i_160_3 : pm_at q_160 3 = some (.getfield 96, 3) := by decide +kernel
theorem i_160_6 : pm_at q_160 6 = some (.iconst 1, 1) := by decide +kernel
theorem i_160_7 : pm_at q_160 7 = some (.isub, 1) := by decide +kernel
theorem i_160_8 : pm_at q_160 8 = some (.invokevirtual 159, 3) := by decide +kernel
theorem i_160_11 : pm_at q_160 11 = some (.ifCond .ne 5, 3) := by decide +kernel
theorem i_160_14 : pm_at q_160 14 = some (.iconst 0, 1) := by decide +kernel
theorem i_160_15 : pm_at q_160 15 = some (.ireturn, 1) := by decide +kernel
theorem i_160_16 : pm_at q_160 16 = some (.aload_n 0, 1) := by decide +kernel
theorem i_160_17 : pm_at q_160 17 = some (.getfield 156, 3) := by decide +kernel
theorem i_160_20 : pm_at q_160 20 = some (.istore_n 1, 1) := by decide +kernel
theorem i_160_21 : pm_at q_160 21 = some (.aload_n 0, 1) := by decide +kernel
theorem i_160_22 : pm_at q_160 22 = some (.iconst 0, 1) := by decide +kernel
theorem i_160_23 : pm_at q_160 23 = some (.iconst 3, 1) := by decide +kernel
theorem i_160_24 : pm_at q_160 24 = some (.invokevirtual 159, 3) := by decide +kernel
theorem i_160_27 : pm_at q_160 27 = some (.ifCond .ne 5, 3) := by decide +kernel
theorem i_160_30 : pm_at q_160 30 = some (.iconst 0, 1) := by decide +kernel
theorem i_160_31 : pm_at q_160 31 = some (.ireturn, 1) := by decide +kernel
theorem i_160_32 : pm_at q_160 32 = some (.aload_n 0, 1) := by decide +kernel
theorem i_160_33 : pm_at q_160 33 = some (.getfield 28, 3) := by decide +kernel
theorem i_160_36 : pm_at q_160 36 = some (.iload_n 1, 1) := by decide +kernel
theorem i_160_37 : pm_at q_160 37 = some (.aload_n 0, 1) := by decide +kernel
theorem i_160_38 : pm_at q_160 38 = some (.getfield 156, 3) := by decide +kernel
theorem i_160_41 : pm_at q_160 41 = some (.iastore, 1) := by decide +kernel
theorem i_160_42 : pm_at q_160 42 = some (.aload_n 0, 1) := by decide +kernel
theorem i_160_43 : pm_at q_160 43 = some (.invokevirtual 163, 3) := by decide +kernel
theorem i_160_46 : pm_at q_160 46 = some (.ireturn, 1) := by decide +kernel
theorem i_161_0 : pm_at q_161 0 = some (.aload_n 0, 1) := by decide +kernel
theorem i_161_1 : pm_at q_161 1 = some (.invokevirtual 170, 3) := by decide +kernel
theorem i_161_4 : pm_at q_161 4 = some (.istore_n 1, 1) := by decide +kernel
theorem i_161_5 : pm_at q_161 5 = some (.iload_n 1, 1) := by decide +kernel
theorem i_161_6 : pm_at q_161 6 = some (.iconst 1, 1) := by decide +kernel
theorem i_161_7 : pm_at q_161 7 = some (.if_icmp .lt 17, 3) := by decide +kernel
theorem i_161_10 : pm_at q_161 10 = some (.iload_n 1, 1) := by decide +kernel
theorem i_161_11 : pm_at q_161 11 = some (.iconst 3, 1) := by decide +kernel
theorem i_161_12 : pm_at q_161 12 = some (.if_icmp .ge 14, 3) := by decide +kernel
theorem i_161_15 : pm_at q_161 15 = some (.aload_n 0, 1) := by decide +kernel
theorem i_161_16 : pm_at q_161 16 = some (.getfield 96, 3) := by decide +kernel
theorem i_161_19 : pm_at q_161 19 = some (.bipush 7, 2) := by decide +kernel
theorem i_161_21 : pm_at q_161 21 = some (.if_icmp .ne 5, 3) := by decide +kernel
theorem i_161_24 : pm_at q_161 24 = some (.iconst 0, 1) := by decide +kernel
theorem i_161_25 : pm_at q_161 25 = some (.ireturn, 1) := by decide +kernel
theorem i_161_26 : pm_at q_161 26 = some (.aload_n 0, 1) := by decide +kernel
theorem i_161_27 : pm_at q_161 27 = some (.dup, 1) := by decide +kernel
theorem i_161_28 : pm_at q_161 28 = some (.getfield 133, 3) := by decide +kernel
theorem i_161_31 : pm_at q_161 31 = some (.iload_n 1, 1) := by decide +kernel
theorem i_161_32 : pm_at q_161 32 = some (.iconst 1, 1) := by decide +kernel
theorem i_161_33 : pm_at q_161 33 = some (.if_icmp .ne 7, 3) := by decide +kernel
theorem i_161_36 : pm_at q_161 36 = some (.iconst 5, 1) := by decide +kernel
theorem i_161_37 : pm_at q_161 37 = some (.goto 13, 3) := by decide +kernel
theorem i_161_40 : pm_at q_161 40 = some (.iload_n 1, 1) := by decide +kernel
theorem i_161_41 : pm_at q_161 41 = some (.iconst 2, 1) := by decide +kernel
theorem i_161_42 : pm_at q_161 42 = some (.if_icmp .ne 7, 3) := by decide +kernel
theorem i_161_45 : pm_at q_161 45 = some (.iconst 2, 1) := by decide +kernel
theorem i_161_46 : pm_at q_161 46 = some (.goto 4, 3) := by decide +kernel
theorem i_161_49 : pm_at q_161 49 = some (.iconst 4, 1) := by decide +kernel
theorem i_161_50 : pm_at q_161 50 = some (.iadd, 1) := by decide +kernel
theorem i_161_51 : pm_at q_161 51 = some (.putfield 133, 3) := by decide +kernel
theorem i_161_54 : pm_at q_161 54 = some (.iload_n 1, 1) := by decide +kernel
theorem i_161_55 : pm_at q_161 55 = some (.iconst 3, 1) := by decide +kernel
theorem i_161_56 : pm_at q_161 56 = some (.if_icmp .ne 10, 3) := by decide +kernel
theorem i_161_59 : pm_at q_161 59 = some (.aload_n 0, 1) := by decide +kernel
theorem i_161_60 : pm_at q_161 60 = some (.invokevirtual 173, 3) := by decide +kernel
theorem i_161_63 : pm_at q_161 63 = some (.goto 29, 3) := by decide +kernel
theorem i_161_66 : pm_at q_161 66 = some (.iload_n 1, 1) := by decide +kernel
theorem i_161_67 : pm_at q_161 67 = some (.iconst 4, 1) := by decide +kernel
theorem i_161_68 : pm_at q_161 68 = some (.if_icmp .ne 10, 3) := by decide +kernel
theorem i_161_71 : pm_at q_161 71 = some (.aload_n 0, 1) := by decide +kernel
theorem i_161_72 : pm_at q_161 72 = some (.invokevirtual 176, 3) := by decide +kernel
theorem i_161_75 : pm_at q_161 75 = some (.goto 17, 3) := by decide +kernel
theorem i_161_78 : pm_at q_161 78 = some (.aload_n 0, 1) := by decide +kernel
theorem i_161_79 : pm_at q_161 79 = some (.iload_n 1, 1) := by decide +kernel
theorem i_161_80 : pm_at q_161 80 = some (.iconst 2, 1) := by decide +kernel
theorem i_161_81 : pm_at q_161 81 = some (.if_icmp .ne 7, 3) := by decide +kernel
theorem i_161_84 : pm_at q_161 84 = some (.iconst 1, 1) := by decide +kernel
theorem i_161_85 : pm_at q_161 85 = some (.goto 4, 3) := by decide +kernel
theorem i_161_88 : pm_at q_161 88 = some (.iconst 0, 1) := by decide +kernel
theorem i_161_89 : pm_at q_161 89 = some (.invokevirtual 179, 3) := by decide +kernel
theorem i_161_92 : pm_at q_161 92 = some (.ireturn, 1) := by decide +kernel
theorem i_162_0 : pm_at q_162 0 = some (.aload_n 0, 1) := by decide +kernel
theorem i_162_1 : pm_at q_162 1 = some (.invokevirtual 150, 3) := by decide +kernel
theorem i_162_4 : pm_at q_162 4 = some (.aload_n 0, 1) := by decide +kernel
theorem i_162_5 : pm_at q_162 5 = some (.invokevirtual 170, 3) := by decide +kernel
theorem i_162_8 : pm_at q_162 8 = some (.ifCond .eq 5, 3) := by decide +kernel
theorem i_162_11 : pm_at q_162 11 = some (.iconst 0, 1) := by decide +kernel
theorem i_162_12 : pm_at q_162 12 = some (.ireturn, 1) := by decide +kernel
theorem i_162_13 : pm_at q_162 13 = some (.aload_n 0, 1) := by decide +kernel
theorem i_162_14 : pm_at q_162 14 = some (.dup, 1) := by decide +kernel
theorem i_162_15 : pm_at q_162 15 = some (.getfield 133, 3) := by decide +kernel
theorem i_162_18 : pm_at q_162 18 = some (.iconst 4, 1) := by decide +kernel
theorem i_162_19 : pm_at q_162 19 = some (.iadd, 1) := by decide +kernel
theorem i_162_20 : pm_at q_162 20 = some (.putfield 133, 3) := by decide +kernel
theorem i_162_23 : pm_at q_162 23 = some (.aload_n 0, 1) := by decide +kernel
theorem i_162_24 : pm_at q_162 24 = some (.bipush 6, 2) := by decide +kernel
theorem i_162_26 : pm_at q_162 26 = some (.bipush 40, 2) := by decide +kernel
theorem i_162_28 : pm_at q_162 28 = some (.invokevirtual 159, 3) := by decide +kernel
theorem i_162_31 : pm_at q_162 31 = some (.ifCond .ne 5, 3) := by decide +kernel
theorem i_162_34 : pm_at q_162 34 = some (.iconst 0, 1) := by decide +kernel
theorem i_162_35 : pm_at q_162 35 = some (.ireturn, 1) := by decide +kernel
theorem i_162_36 : pm_at q_162 36 = some (.aload_n 0, 1) := by decide +kernel
theorem i_162_37 : pm_at q_162 37 = some (.aload_n 0, 1) := by decide +kernel
theorem i_162_38 : pm_at q_162 38 = some (.getfield 156, 3) := by decide +kernel
theorem i_162_41 : pm_at q_162 41 = some (.invokevirtual 92, 3) := by decide +kernel
theorem i_162_44 : pm_at q_162 44 = some (.aload_n 0, 1) := by decide +kernel
theorem i_162_45 : pm_at q_162 45 = some (.invokevirtual 163, 3) := by decide +kernel
theorem i_162_48 : pm_at q_162 48 = some (.ireturn, 1) := by decide +kernel
theorem i_163_0 : pm_at q_163 0 = some (.aload_n 0, 1) := by decide +kernel
theorem i_163_1 : pm_at q_163 1 = some (.iconst 0, 1) := by decide +kernel
theorem i_163_2 : pm_at q_163 2 = some (.putfield 133, 3) := by decide +kernel
theorem i_163_5 : pm_at q_163 5 = some (.aload_n 0, 1) := by decide +kernel
theorem i_163_6 : pm_at q_163 6 = some (.invokevirtual 183, 3) := by decide +kernel
theorem i_163_9 : pm_at q_163 9 = some (.ifCond .ne 5, 3) := by decide +kernel
theorem i_163_12 : pm_at q_163 12 = some (.iconst (-1), 1) := by decide +kernel
theorem i_163_13 : pm_at q_163 13 = some (.ireturn, 1) := by decide +kernel
theorem i_163_14 : pm_at q_163 14 = some (.iconst 1, 1) := by decide +kernel
theorem i_163_15 : pm_at q_163 15 = some (.istore_n 1, 1) := by decide +kernel
theorem i_163_16 : pm_at q_163 16 = some (.aload_n 0, 1) := by decide +kernel
theorem i_163_17 : pm_at q_163 17 = some (.invokevirtual 150, 3) := by decide +kernel
theorem i_163_20 : pm_at q_163 20 = some (.aload_n 0, 1) := by decide +kernel
theorem i_163_21 : pm_at q_163 21 = some (.getfield 133, 3) := by decide +kernel
theorem i_163_24 : pm_at q_163 24 = some (.aload_n 0, 1) := by decide +kernel
theorem i_163_25 : pm_at q_163 25 = some (.getfield 130, 3) := by decide +kernel
theorem i_163_28 : pm_at q_163 28 = some (.if_icmp .ge 22, 3) := by decide +kernel
theorem i_163_31 : pm_at q_163 31 = some (.aload_n 0, 1) := by decide +kernel
theorem i_163_32 : pm_at q_163 32 = some (.invokevirtual 186, 3) := by decide +kernel
theorem i_163_35 : pm_at q_163 35 = some (.ifCond .ne 5, 3) := by decide +kernel
theorem i_163_38 : pm_at q_163 38 = some (.iconst (-1), 1) := by decide +kernel
theorem i_163_39 : pm_at q_163 39 = some (.ireturn, 1) := by decide +kernel
theorem i_163_40 : pm_at q_163 40 = some (.iinc 1 1, 3) := by decide +kernel
theorem i_163_43 : pm_at q_163 43 = some (.aload_n 0, 1) := by decide +kernel
theorem i_163_44 : pm_at q_163 44 = some (.invokevirtual 150, 3) := by decide +kernel
theorem i_163_47 : pm_at q_163 47 = some (.goto (-27), 3) := by decide +kernel
theorem i_163_50 : pm_at q_163 50 = some (.iload_n 1, 1) := by decide +kernel
theorem i_163_51 : pm_at q_163 51 = some (.ireturn, 1) := by decide +kernel
theorem i_164_0 : pm_at q_164 0 = some (.aload_n 0, 1) := by decide +kernel
theorem i_164_1 : pm_at q_164 1 = some (.aload_n 0, 1) := by decide +kernel
theorem i_164_2 : pm_at q_164 2 = some (.getfield 49, 3) := by decide +kernel
theorem i_164_5 : pm_at q_164 5 = some (.iconst 0, 1) := by decide +kernel
theorem i_164_6 : pm_at q_164 6 = some (.invokevirtual 189, 3) := by decide +kernel
theorem i_164_9 : pm_at q_164 9 = some (.aload_n 0, 1) := by decide +kernel
theorem i_164_10 : pm_at q_164 10 = some (.invokevirtual 193, 3) := by decide +kernel
theorem i_164_13 : pm_at q_164 13 = some (.istore_n 1, 1) := by decide +kernel
theorem i_164_14 : pm_at q_164 14 = some (.iload_n 1, 1) := by decide +kernel
theorem i_164_15 : pm_at q_164 15 = some (.ifCond .ge 20, 3) := by decide +kernel
theorem i_164_18 : pm_at q_164 18 = some (.aload_n 0, 1) := by decide +kernel
theorem i_164_19 : pm_at q_164 19 = some (.aload_n 0, 1) := by decide +kernel
theorem i_164_20 : pm_at q_164 20 = some (.getfield 49, 3) := by decide +kernel
theorem i_164_23 : pm_at q_164 23 = some (.iconst 0, 1) := by decide +kernel
theorem i_164_24 : pm_at q_164 24 = some (.invokevirtual 196, 3) := by decide +kernel
theorem i_164_27 : pm_at q_164 27 = some (.bipush (-10), 2) := by decide +kernel
theorem i_164_29 : pm_at q_164 29 = some (.aload_n 0, 1) := by decide +kernel
theorem i_164_30 : pm_at q_164 30 = some (.getfield 133, 3) := by decide +kernel
theorem i_164_33 : pm_at q_164 33 = some (.isub, 1) := by decide +kernel
theorem i_164_34 : pm_at q_164 34 = some (.ireturn, 1) := by decide +kernel
theorem i_164_35 : pm_at q_164 35 = some (.aload_n 0, 1) := by decide +kernel
theorem i_164_36 : pm_at q_164 36 = some (.iconst 0, 1) := by decide +kernel
theorem i_164_37 : pm_at q_164 37 = some (.putfield 112, 3) := by decide +kernel
theorem i_164_40 : pm_at q_164 40 = some (.iload_n 1, 1) := by decide +kernel
theorem i_164_41 : pm_at q_164 41 = some (.ireturn, 1) := by decide +kernel
theorem i_165_0 : pm_at q_165 0 = some (.iload_n 2, 1) := by decide +kernel
theorem i_165_1 : pm_at q_165 1 = some (.iload_n 1, 1) := by decide +kernel
theorem i_165_2 : pm_at q_165 2 = some (.imul, 1) := by decide +kernel
theorem i_165_3 : pm_at q_165 3 = some (.bipush 12, 2) := by decide +kernel
theorem i_165_5 : pm_at q_165 5 = some (.idiv, 1) := by decide +kernel
theorem i_165_6 : pm_at q_165 6 = some (.istore 4, 2) := by decide +kernel
theorem i_165_8 : pm_at q_165 8 = some (.iload_n 2, 1) := by decide +kernel
theorem i_165_9 : pm_at q_165 9 = some (.iconst 2, 1) := by decide +kernel
theorem i_165_10 : pm_at q_165 10 = some (.imul, 1) := by decide +kernel
theorem i_165_11 : pm_at q_165 11 = some (.iload_n 1, 1) := by decide +kernel
theorem i_165_12 : pm_at q_165 12 = some (.bipush 6, 2) := by decide +kernel
theorem i_165_14 : pm_at q_165 14 = some (.if_icmp .gt 7, 3) := by decide +kernel
theorem i_165_17 : pm_at q_165 17 = some (.iload_n 1, 1) := by decide +kernel
theorem i_165_18 : pm_at q_165 18 = some (.goto 7, 3) := by decide +kernel
theorem i_165_21 : pm_at q_165 21 = some (.bipush 12, 2) := by decide +kernel
theorem i_165_23 : pm_at q_165 23 = some (.iload_n 1, 1) := by decide +kernel
theorem i_165_24 : pm_at q_165 24 = some (.isub, 1) := by decide +kernel
theorem i_165_25 : pm_at q_165 25 = some (.imul, 1) := by decide +kernel
theorem i_165_26 : pm_at q_165 26 = some (.bipush 12, 2) := by decide +kernel
theorem i_165_28 : pm_at q_165 28 = some (.idiv, 1) := by decide +kernel
theorem i_165_29 : pm_at q_165 29 = some (.istore 5, 2) := by decide +kernel
theorem i_165_31 : pm_at q_165 31 = some (.iload_n 1, 1) := by decide +kernel
theorem i_165_32 : pm_at q_165 32 = some (.iconst 4, 1) := by decide +kernel
theorem i_165_33 : pm_at q_165 33 = some (.if_icmp .ge 7, 3) := by decide +kernel
theorem i_165_36 : pm_at q_165 36 = some (.iconst 0, 1) := by decide +kernel
theorem i_165_37 : pm_at q_165 37 = some (.goto 5, 3) := by decide +kernel
theorem i_165_40 : pm_at q_165 40 = some (.iload 4, 2) := by decide +kernel
theorem i_165_42 : pm_at q_165 42 = some (.istore 6, 2) := by decide +kernel
theorem i_165_44 : pm_at q_165 44 = some (.iload_n 0, 1) := by decide +kernel
theorem i_165_45 : pm_at q_165 45 = some (.tableswitch 78 1 5 #[35, 51, 54, 57, 64], 35) := by decide +kernel
theorem i_165_80 : pm_at q_165 80 = some (.iload_n 1, 1) := by decide +kernel
theorem i_165_81 : pm_at q_165 81 = some (.bipush 6, 2) := by decide +kernel
theorem i_165_83 : pm_at q_165 83 = some (.if_icmp .lt 10, 3) := by decide +kernel
theorem i_165_86 : pm_at q_165 86 = some (.iload 4, 2) := by decide +kernel
theorem i_165_88 : pm_at q_165 88 = some (.iconst 1, 1) := by decide +kernel
theorem i_165_89 : pm_at q_165 89 = some (.iadd, 1) := by decide +kernel
theorem i_165_90 : pm_at q_165 90 = some (.goto 5, 3) := by decide +kernel
theorem i_165_93 : pm_at q_165 93 = some (.iload 4, 2) := by decide +kernel
theorem i_165_95 : pm_at q_165 95 = some (.ireturn, 1) := by decide +kernel
theorem i_165_96 : pm_at q_165 96 = some (.iload 5, 2) := by decide +kernel
theorem i_165_98 : pm_at q_165 98 = some (.ireturn, 1) := by decide +kernel
theorem i_165_99 : pm_at q_165 99 = some (.iload 6, 2) := by decide +kernel
theorem i_165_101 : pm_at q_165 101 = some (.ireturn, 1) := by decide +kernel
theorem i_165_102 : pm_at q_165 102 = some (.iload 5, 2) := by decide +kernel
theorem i_165_104 : pm_at q_165 104 = some (.iconst 1, 1) := by decide +kernel
theorem i_165_105 : pm_at q_165 105 = some (.iadd, 1) := by decide +kernel
theorem i_165_106 : pm_at q_165 106 = some (.iconst 2, 1) := by decide +kernel
theorem i_165_107 : pm_at q_165 107 = some (.idiv, 1) := by decide +kernel
theorem i_165_108 : pm_at q_165 108 = some (.ireturn, 1) := by decide +kernel
theorem i_165_109 : pm_at q_165 109 = some (.iload 6, 2) := by decide +kernel
theorem i_165_111 : pm_at q_165 111 = some (.ifCond .le 10, 3) := by decide +kernel
theorem i_165_114 : pm_at q_165 114 = some (.iload 6, 2) := by decide +kernel
theorem i_165_116 : pm_at q_165 116 = some (.iload_n 3, 1) := by decide +kernel
theorem i_165_117 : pm_at q_165 117 = some (.iadd, 1) := by decide +kernel
theorem i_165_118 : pm_at q_165 118 = some (.goto 4, 3) := by decide +kernel
theorem i_165_121 : pm_at q_165 121 = some (.iconst 0, 1) := by decide +kernel
theorem i_165_122 : pm_at q_165 122 = some (.ireturn, 1) := by decide +kernel
theorem i_165_123 : pm_at q_165 123 = some (.iload 4, 2) := by decide +kernel
theorem i_165_125 : pm_at q_165 125 = some (.ireturn, 1) := by decide +kernel
theorem i_166_0 : pm_at q_166 0 = some (.aload_n 0, 1) := by decide +kernel
theorem i_166_1 : pm_at q_166 1 = some (.getfield 13, 3) := by decide +kernel
theorem i_166_4 : pm_at q_166 4 = some (.iload_n 1, 1) := by decide +kernel
theorem i_166_5 : pm_at q_166 5 = some (.iaload, 1) := by decide +kernel
theorem i_166_6 : pm_at q_166 6 = some (.tableswitch 78 2 5 #[30, 62, 46, 69], 30) := by decide +kernel
theorem i_166_36 : pm_at q_166 36 = some (.aload_n 0, 1) := by decide +kernel
theorem i_166_37 : pm_at q_166 37 = some (.getfield 19, 3) := by decide +kernel
theorem i_166_40 : pm_at q_166 40 = some (.iload_n 1, 1) := by decide +kernel
theorem i_166_41 : pm_at q_166 41 = some (.iaload, 1) := by decide +kernel
theorem i_166_42 : pm_at q_166 42 = some (.iconst 3, 1) := by decide +kernel
theorem i_166_43 : pm_at q_166 43 = some (.aload_n 0, 1) := by decide +kernel
theorem i_166_44 : pm_at q_166 44 = some (.getfield 16, 3) := by decide +kernel
theorem i_166_47 : pm_at q_166 47 = some (.iload_n 1, 1) := by decide +kernel
theorem i_166_48 : pm_at q_166 48 = some (.iaload, 1) := by decide +kernel
theorem i_166_49 : pm_at q_166 49 = some (.imul, 1) := by decide +kernel
theorem i_166_50 : pm_at q_166 50 = some (.iadd, 1) := by decide +kernel
theorem i_166_51 : pm_at q_166 51 = some (.ireturn, 1) := by decide +kernel
theorem i_166_52 : pm_at q_166 52 = some (.aload_n 0, 1) := by decide +kernel
theorem i_166_53 : pm_at q_166 53 = some (.getfield 19, 3) := by decide +kernel
theorem i_166_56 : pm_at q_166 56 = some (.iload_n 1, 1) := by decide +kernel
theorem i_166_57 : pm_at q_166 57 = some (.iaload, 1) := by decide +kernel
theorem i_166_58 : pm_at q_166 58 = some (.iconst 3, 1) := by decide +kernel
theorem i_166_59 : pm_at q_166 59 = some (.aload_n 0, 1) := by decide +kernel
theorem i_166_60 : pm_at q_166 60 = some (.getfield 16, 3) := by decide +kernel
theorem i_166_63 : pm_at q_166 63 = some (.iload_n 1, 1) := by decide +kernel
theorem i_166_64 : pm_at q_166 64 = some (.iaload, 1) := by decide +kernel
theorem i_166_65 : pm_at q_166 65 = some (.imul, 1) := by decide +kernel
theorem i_166_66 : pm_at q_166 66 = some (.iadd, 1) := by decide +kernel
theorem i_166_67 : pm_at q_166 67 = some (.ireturn, 1) := by decide +kernel
theorem i_166_68 : pm_at q_166 68 = some (.aload_n 0, 1) := by decide +kernel
theorem i_166_69 : pm_at q_166 69 = some (.getfield 19, 3) := by decide +kernel
theorem i_166_72 : pm_at q_166 72 = some (.iload_n 1, 1) := by decide +kernel
theorem i_166_73 : pm_at q_166 73 = some (.iaload, 1) := by decide +kernel
theorem i_166_74 : pm_at q_166 74 = some (.ireturn, 1) := by decide +kernel
theorem i_166_75 : pm_at q_166 75 = some (.aload_n 0, 1) := by decide +kernel
theorem i_166_76 : pm_at q_166 76 = some (.getfield 19, 3) := by decide +kernel
theorem i_166_79 : pm_at q_166 79 = some (.iload_n 1, 1) := by decide +kernel
theorem i_166_80 : pm_at q_166 80 = some (.iaload, 1) := by decide +kernel
theorem i_166_81 : pm_at q_166 81 = some (.iconst 3, 1) := by decide +kernel
theorem i_166_82 : pm_at q_166 82 = some (.iadd, 1) := by decide +kernel
theorem i_166_83 : pm_at q_166 83 = some (.ireturn, 1) := by decide +kernel
theorem i_166_84 : pm_at q_166 84 = some (.aload_n 0, 1) := by decide +kernel
theorem i_166_85 : pm_at q_166 85 = some (.getfield 19, 3) := by decide +kernel
theorem i_166_88 : pm_at q_166 88 = some (.iload_n 1, 1) := by decide +kernel
theorem i_166_89 : pm_at q_166 89 = some (.iaload, 1) := by decide +kernel
theorem i_166_90 : pm_at q_166 90 = some (.aload_n 0, 1) := by decide +kernel
theorem i_166_91 : pm_at q_166 91 = some (.getfield 16, 3) := by decide +kernel
theorem i_166_94 : pm_at q_166 94 = some (.iload_n 1, 1) := by decide +kernel
theorem i_166_95 : pm_at q_166 95 = some (.iaload, 1) := by decide +kernel
theorem i_166_96 : pm_at q_166 96 = some (.iadd, 1) := by decide +kernel
theorem i_166_97 : pm_at q_166 97 = some (.ireturn, 1) := by decide +kernel
theorem i_167_0 : pm_at q_167 0 = some (.iload_n 0, 1) := by decide +kernel
theorem i_167_1 : pm_at q_167 1 = some (.tableswitch 42 2 5 #[31, 42, 35, 39], 31) := by decide +kernel
theorem i_167_32 : pm_at q_167 32 = some (.sipush 200, 3) := by decide +kernel
theorem i_167_35 : pm_at q_167 35 = some (.ireturn, 1) := by decide +kernel
theorem i_167_36 : pm_at q_167 36 = some (.sipush 400, 3) := by decide +kernel
theorem i_167_39 : pm_at q_167 39 = some (.ireturn, 1) := by decide +kernel
theorem i_167_40 : pm_at q_167 40 = some (.bipush 75, 2) := by decide +kernel
theorem i_167_42 : pm_at q_167 42 = some (.ireturn, 1) := by decide +kernel
theorem i_167_43 : pm_at q_167 43 = some (.sipush 150, 3) := by decide +kernel
theorem i_167_46 : pm_at q_167 46 = some (.ireturn, 1) := by decide +kernel
theorem i_168_0 : pm_at q_168 0 = some (.aload_n 0, 1) := by decide +kernel
theorem i_168_1 : pm_at q_168 1 = some (.getfield 31, 3) := by decide +kernel
theorem i_168_4 : pm_at q_168 4 = some (.iload_n 1, 1) := by decide +kernel
theorem i_168_5 : pm_at q_168 5 = some (.iaload, 1) := by decide +kernel
theorem i_168_6 : pm_at q_168 6 = some (.aload_n 0, 1) := by decide +kernel
theorem i_168_7 : pm_at q_168 7 = some (.getfield 13, 3) := by decide +kernel
theorem i_168_10 : pm_at q_168 10 = some (.iload_n 1, 1) := by decide +kernel
theorem i_168_11 : pm_at q_168 11 = some (.iaload, 1) := by decide +kernel
theorem i_168_12 : pm_at q_168 12 = some (.invokestatic 199, 3) := by decide +kernel
theorem i_168_15 : pm_at q_168 15 = some (.if_icmp .lt 7, 3) := by decide +kernel
theorem i_168_18 : pm_at q_168 18 = some (.iconst 1, 1) := by decide +kernel
theorem i_168_19 : pm_at q_168 19 = some (.goto 4, 3) := by decide +kernel
theorem i_168_22 : pm_at q_168 22 = some (.iconst 0, 1) := by decide +kernel
theorem i_168_23 : pm_at q_168 23 = some (.ireturn, 1) := by decide +kernel
theorem i_169_0 : pm_at q_169 0 = some (.aload_n 0, 1) := by decide +kernel
theorem i_169_1 : pm_at q_169 1 = some (.iload_n 1, 1) := by decide +kernel
theorem i_169_2 : pm_at q_169 2 = some (.invokevirtual 202, 3) := by decide +kernel
theorem i_169_5 : pm_at q_169 5 = some (.ifCond .ne 14, 3) := by decide +kernel
theorem i_169_8 : pm_at q_169 8 = some (.aload_n 0, 1) := by decide +kernel
theorem i_169_9 : pm_at q_169 9 = some (.getfield 205, 3) := by decide +kernel
theorem i_169_12 : pm_at q_169 12 = some (.iload_n 1, 1) := by decide +kernel
theorem i_169_13 : pm_at q_169 13 = some (.invokestatic 208, 3) := by decide +kernel
theorem i_169_16 : pm_at q_169 16 = some (.ifCond .eq 7, 3) := by decide +kernel
theorem i_169_19 : pm_at q_169 19 = some (.iconst 0, 1) := by decide +kernel
theorem i_169_20 : pm_at q_169 20 = some (.goto 25, 3) := by decide +kernel
theorem i_169_23 : pm_at q_169 23 = some (.aload_n 0, 1) := by decide +kernel
theorem i_169_24 : pm_at q_169 24 = some (.getfield 13, 3) := by decide +kernel
theorem i_169_27 : pm_at q_169 27 = some (.iload_n 1, 1) := by decide +kernel
theorem i_169_28 : pm_at q_169 28 = some (.iaload, 1) := by decide +kernel
theorem i_169_29 : pm_at q_169 29 = some (.iload_n 2, 1) := by decide +kernel
theorem i_169_30 : pm_at q_169 30 = some (.aload_n 0, 1) := by decide +kernel
theorem i_169_31 : pm_at q_169 31 = some (.getfield 19, 3) := by decide +kernel
theorem i_169_34 : pm_at q_169 34 = some (.iload_n 1, 1) := by decide +kernel
theorem i_169_35 : pm_at q_169 35 = some (.iaload, 1) := by decide +kernel
theorem i_169_36 : pm_at q_169 36 = some (.aload_n 0, 1) := by decide +kernel
theorem i_169_37 : pm_at q_169 37 = some (.getfield 28, 3) := by decide +kernel
theorem i_169_40 : pm_at q_169 40 = some (.iload_n 1, 1) := by decide +kernel
theorem i_169_41 : pm_at q_169 41 = some (.iaload, 1) := by decide +kernel
theorem i_169_42 : pm_at q_169 42 = some (.invokestatic 211, 3) := by decide +kernel
theorem i_169_45 : pm_at q_169 45 = some (.ireturn, 1) := by decide +kernel
theorem i_170_0 : pm_at q_170 0 = some (.iconst 0, 1) := by decide +kernel
theorem i_170_1 : pm_at q_170 1 = some (.istore_n 3, 1) := by decide +kernel
theorem i_170_2 : pm_at q_170 2 = some (.iload_n 1, 1) := by decide +kernel
theorem i_170_3 : pm_at q_170 3 = some (.istore 4, 2) := by decide +kernel
theorem i_170_5 : pm_at q_170 5 = some (.iload 4, 2) := by decide +kernel
theorem i_170_7 : pm_at q_170 7 = some (.iconst (-1), 1) := by decide +kernel
theorem i_170_8 : pm_at q_170 8 = some (.if_icmp .eq 25, 3) := by decide +kernel
theorem i_170_11 : pm_at q_170 11 = some (.iload_n 3, 1) := by decide +kernel
theorem i_170_12 : pm_at q_170 12 = some (.aload_n 0, 1) := by decide +kernel
theorem i_170_13 : pm_at q_170 13 = some (.iload 4, 2) := by decide +kernel
theorem i_170_15 : pm_at q_170 15 = some (.iload_n 2, 1) := by decide +kernel
theorem i_170_16 : pm_at q_170 16 = some (.invokevirtual 215, 3) := by decide +kernel
theorem i_170_19 : pm_at q_170 19 = some (.iadd, 1) := by decide +kernel
theorem i_170_20 : pm_at q_170 20 = some (.istore_n 3, 1) := by decide +kernel
theorem i_170_21 : pm_at q_170 21 = some (.aload_n 0, 1) := by decide +kernel
theorem i_170_22 : pm_at q_170 22 = some (.getfield 25, 3) := by decide +kernel
theorem i_170_25 : pm_at q_170 25 = some (.iload 4, 2) := by decide +kernel
theorem i_170_27 : pm_at q_170 27 = some (.iaload, 1) := by decide +kernel
theorem i_170_28 : pm_at q_170 28 = some (.istore 4, 2) := by decide +kernel
theorem i_170_30 : pm_at q_170 30 = some (.goto (-25), 3) := by decide +kernel
theorem i_170_33 : pm_at q_170 33 = some (.iload_n 3, 1) := by decide +kernel
theorem i_170_34 : pm_at q_170 34 = some (.ireturn, 1) := by decide +kernel
theorem i_171_0 : pm_at q_171 0 = some (.iconst 0, 1) := by decide +kernel
theorem i_171_1 : pm_at q_171 1 = some (.istore_n 2, 1) := by decide +kernel
theorem i_171_2 : pm_at q_171 2 = some (.iload_n 2, 1) := by decide +kernel
theorem i_171_3 : pm_at q_171 3 = some (.aload_n 0, 1) := by decide +kernel
theorem i_171_4 : pm_at q_171 4 = some (.getfield 96, 3) := by decide +kernel
theorem i_171_7 : pm_at q_171 7 = some (.if_icmp .ge 21, 3) := by decide +kernel
theorem i_171_10 : pm_at q_171 10 = some (.aload_n 0, 1) := by decide +kernel
theorem i_171_11 : pm_at q_171 11 = some (.getfield 52, 3) := by decide +kernel
theorem i_171_14 : pm_at q_171 14 = some (.iload_n 2, 1) := by decide +kernel
theorem i_171_15 : pm_at q_171 15 = some (.aload_n 0, 1) := by decide +kernel
theorem i_171_16 : pm_at q_171 16 = some (.iload_n 2, 1) := by decide +kernel
theorem i_171_17 : pm_at q_171 17 = some (.iload_n 1, 1) := by decide +kernel
theorem i_171_18 : pm_at q_171 18 = some (.invokevirtual 219, 3) := by decide +kernel
theorem i_171_21 : pm_at q_171 21 = some (.iastore, 1) := by decide +kernel
theorem i_171_22 : pm_at q_171 22 = some (.iinc 2 1, 3) := by decide +kernel
theorem i_171_25 : pm_at q_171 25 = some (.goto (-23), 3) := by decide +kernel
theorem i_171_28 : pm_at q_171 28 = some (.iconst 0, 1) := by decide +kernel
theorem i_171_29 : pm_at q_171 29 = some (.istore_n 2, 1) := by decide +kernel
theorem i_171_30 : pm_at q_171 30 = some (.iconst 0, 1) := by decide +kernel
theorem i_171_31 : pm_at q_171 31 = some (.istore_n 3, 1) := by decide +kernel
theorem i_171_32 : pm_at q_171 32 = some (.iload_n 3, 1) := by decide +kernel
theorem i_171_33 : pm_at q_171 33 = some (.aload_n 0, 1) := by decide +kernel
theorem i_171_34 : pm_at q_171 34 = some (.getfield 96, 3) := by decide +kernel
theorem i_171_37 : pm_at q_171 37 = some (.if_icmp .ge 102, 3) := by decide +kernel
theorem i_171_40 : pm_at q_171 40 = some (.aload_n 0, 1) := by decide +kernel
theorem i_171_41 : pm_at q_171 41 = some (.getfield 52, 3) := by decide +kernel
theorem i_171_44 : pm_at q_171 44 = some (.iload_n 3, 1) := by decide +kernel
theorem i_171_45 : pm_at q_171 45 = some (.iaload, 1) := by decide +kernel
theorem i_171_46 : pm_at q_171 46 = some (.ifCond .le 7, 3) := by decide +kernel
theorem i_171_49 : pm_at q_171 49 = some (.iconst 1, 1) := by decide +kernel
theorem i_171_50 : pm_at q_171 50 = some (.goto 4, 3) := by decide +kernel
theorem i_171_53 : pm_at q_171 53 = some (.iconst 0, 1) := by decide +kernel
theorem i_171_54 : pm_at q_171 54 = some (.istore 4, 2) := by decide +kernel
theorem i_171_56 : pm_at q_171 56 = some (.iconst 0, 1) := by decide +kernel
theorem i_171_57 : pm_at q_171 57 = some (.istore 5, 2) := by decide +kernel
theorem i_171_59 : pm_at q_171 59 = some (.iload 5, 2) := by decide +kernel
theorem i_171_61 : pm_at q_171 61 = some (.aload_n 0, 1) := by decide +kernel
theorem i_171_62 : pm_at q_171 62 = some (.getfield 96, 3) := by decide +kernel
theorem i_171_65 : pm_at q_171 65 = some (.if_icmp .ge 53, 3) := by decide +kernel
theorem i_171_68 : pm_at q_171 68 = some (.iload 4, 2) := by decide +kernel
theorem i_171_70 : pm_at q_171 70 = some (.ifCond .eq 39, 3) := by decide +kernel
theorem i_171_73 : pm_at q_171 73 = some (.aload_n 0, 1) := by decide +kernel
theorem i_171_74 : pm_at q_171 74 = some (.getfield 22, 3) := by decide +kernel
theorem i_171_77 : pm_at q_171 77 = some (.iload 5, 2) := by decide +kernel
theorem i_171_79 : pm_at q_171 79 = some (.iaload, 1) := by decide +kernel
theorem i_171_80 : pm_at q_171 80 = some (.aload_n 0, 1) := by decide +kernel
theorem i_171_81 : pm_at q_171 81 = some (.getfield 22, 3) := by decide +kernel
theorem i_171_84 : pm_at q_171 84 = some (.iload_n 3, 1) := by decide +kernel
theorem i_171_85 : pm_at q_171 85 = some (.iaload, 1) := by decide +kernel
theorem i_171_86 : pm_at q_171 86 = some (.if_icmp .ge 19, 3) := by decide +kernel
theorem i_171_89 : pm_at q_171 89 = some (.aload_n 0, 1) := by decide +kernel
theorem i_171_90 : pm_at q_171 90 = some (.getfield 52, 3) := by decide +kernel
theorem i_171_93 : pm_at q_171 93 = some (.iload 5, 2) := by decide +kernel
theorem i_171_95 : pm_at q_171 95 = some (.iaload, 1) := by decide +kernel
theorem i_171_96 : pm_at q_171 96 = some (.aload_n 0, 1) := by decide +kernel
theorem i_171_97 : pm_at q_171 97 = some (.getfield 52, 3) := by decide +kernel
theorem i_171_100 : pm_at q_171 100 = some (.iload_n 3, 1) := by decide +kernel
theorem i_171_101 : pm_at q_171 101 = some (.iaload, 1) := by decide +kernel
theorem i_171_102 : pm_at q_171 102 = some (.if_icmp .ge 7, 3) := by decide +kernel
theorem i_171_105 : pm_at q_171 105 = some (.iconst 1, 1) := by decide +kernel
theorem i_171_106 : pm_at q_171 106 = some (.goto 4, 3) := by decide +kernel
theorem i_171_109 : pm_at q_171 109 = some (.iconst 0, 1) := by decide +kernel
theorem i_171_110 : pm_at q_171 110 = some (.istore 4, 2) := by decide +kernel
theorem i_171_112 : pm_at q_171 112 = some (.iinc 5 1, 3) := by decide +kernel
theorem i_171_115 : pm_at q_171 115 = some (.goto (-56), 3) := by decide +kernel
theorem i_171_118 : pm_at q_171 118 = some (.iload_n 2, 1) := by decide +kernel
theorem i_171_119 : pm_at q_171 119 = some (.iload 4, 2) := by decide +kernel
theorem i_171_121 : pm_at q_171 121 = some (.ifCond .eq 9, 3) := by decide +kernel
theorem i_171_124 : pm_at q_171 124 = some (.iconst 1, 1) := by decide +kernel
theorem i_171_125 : pm_at q_171 125 = some (.iload_n 3, 1) := by decide +kernel
theorem i_171_126 : pm_at q_171 126 = some (.ishl, 1) := by decide +kernel
theorem i_171_127 : pm_at q_171 127 = some (.goto 4, 3) := by decide +kernel
theorem i_171_130 : pm_at q_171 130 = some (.iconst 0, 1) := by decide +kernel
theorem i_171_131 : pm_at q_171 131 = some (.ior, 1) := by decide +kernel
theorem i_171_132 : pm_at q_171 132 = some (.istore_n 2, 1) := by decide +kernel
theorem i_171_133 : pm_at q_171 133 = some (.iinc 3 1, 3) := by decide +kernel
theorem i_171_136 : pm_at q_171 136 = some (.goto (-104), 3) := by decide +kernel
theorem i_171_139 : pm_at q_171 139 = some (.iload_n 2, 1) := by decide +kernel
theorem i_171_140 : pm_at q_171 140 = some (.ireturn, 1) := by decide +kernel
theorem i_172_0 : pm_at q_172 0 = some (.aload_n 1, 1) := by decide +kernel
theorem i_172_1 : pm_at q_172 1 = some (.iload_n 2, 1) := by decide +kernel
theorem i_172_2 : pm_at q_172 2 = some (.aload_n 0, 1) := by decide +kernel
theorem i_172_3 : pm_at q_172 3 = some (.getfield 96, 3) := by decide +kernel
theorem i_172_6 : pm_at q_172 6 = some (.iastore, 1) := by decide +kernel
theorem i_172_7 : pm_at q_172 7 = some (.aload_n 1, 1) := by decide +kernel
theorem i_172_8 : pm_at q_172 8 = some (.iload_n 2, 1) := by decide +kernel
theorem i_172_9 : pm_at q_172 9 = some (.iconst 1, 1) := by decide +kernel
theorem i_172_10 : pm_at q_172 10 = some (.iadd, 1) := by decide +kernel
theorem i_172_11 : pm_at q_172 11 = some (.aload_n 0, 1) := by decide +kernel
theorem i_172_12 : pm_at q_172 12 = some (.getfield 100, 3) := by decide +kernel
theorem i_172_15 : pm_at q_172 15 = some (.iastore, 1) := by decide +kernel
theorem i_172_16 : pm_at q_172 16 = some (.aload_n 1, 1) := by decide +kernel
theorem i_172_17 : pm_at q_172 17 = some (.iload_n 2, 1) := by decide +kernel
theorem i_172_18 : pm_at q_172 18 = some (.iconst 2, 1) := by decide +kernel
theorem i_172_19 : pm_at q_172 19 = some (.iadd, 1) := by decide +kernel
theorem i_172_20 : pm_at q_172 20 = some (.aload_n 0, 1) := by decide +kernel
theorem i_172_21 : pm_at q_172 21 = some (.getfield 103, 3) := by decide +kernel
theorem i_172_24 : pm_at q_172 24 = some (.iastore, 1) := by decide +kernel
theorem i_172_25 : pm_at q_172 25 = some (.iconst 0, 1) := by decide +kernel
theorem i_172_26 : pm_at q_172 26 = some (.istore_n 3, 1) := by decide +kernel
theorem i_172_27 : pm_at q_172 27 = some (.iload_n 3, 1) := by decide +kernel
theorem i_172_28 : pm_at q_172 28 = some (.bipush 7, 2) := by decide +kernel
theorem i_172_30 : pm_at q_172 30 = some (.if_icmp .ge 106, 3) := by decide +kernel
theorem i_172_33 : pm_at q_172 33 = some (.aload_n 1, 1) := by decide +kernel
theorem i_172_34 : pm_at q_172 34 = some (.iload_n 2, 1) := by decide +kernel
theorem i_172_35 : pm_at q_172 35 = some (.iconst 3, 1) := by decide +kernel
theorem i_172_36 : pm_at q_172 36 = some (.iadd, 1) := by decide +kernel
theorem i_172_37 : pm_at q_172 37 = some (.iload_n 3, 1) := by decide +kernel
theorem i_172_38 : pm_at q_172 38 = some (.iadd, 1) := by decide +kernel
theorem i_172_39 : pm_at q_172 39 = some (.aload_n 0, 1) := by decide +kernel
theorem i_172_40 : pm_at q_172 40 = some (.getfield 13, 3) := by decide +kernel
theorem i_172_43 : pm_at q_172 43 = some (.iload_n 3, 1) := by decide +kernel
theorem i_172_44 : pm_at q_172 44 = some (.iaload, 1) := by decide +kernel
theorem i_172_45 : pm_at q_172 45 = some (.iastore, 1) := by decide +kernel
theorem i_172_46 : pm_at q_172 46 = some (.aload_n 1, 1) := by decide +kernel
theorem i_172_47 : pm_at q_172 47 = some (.iload_n 2, 1) := by decide +kernel
theorem i_172_48 : pm_at q_172 48 = some (.bipush 10, 2) := by decide +kernel
theorem i_172_50 : pm_at q_172 50 = some (.iadd, 1) := by decide +kernel
theorem i_172_51 : pm_at q_172 51 = some (.iload_n 3, 1) := by decide +kernel
theorem i_172_52 : pm_at q_172 52 = some (.iadd, 1) := by decide +kernel
theorem i_172_53 : pm_at q_172 53 = some (.aload_n 0, 1) := by decide +kernel
theorem i_172_54 : pm_at q_172 54 = some (.getfield 16, 3) := by decide +kernel
theorem i_172_57 : pm_at q_172 57 = some (.iload_n 3, 1) := by decide +kernel
theorem i_172_58 : pm_at q_172 58 = some (.iaload, 1) := by decide +kernel
theorem i_172_59 : pm_at q_172 59 = some (.iastore, 1) := by decide +kernel
theorem i_172_60 : pm_at q_172 60 = some (.aload_n 1, 1) := by decide +kernel
theorem i_172_61 : pm_at q_172 61 = some (.iload_n 2, 1) := by decide +kernel
theorem i_172_62 : pm_at q_172 62 = some (.bipush 17, 2) := by decide +kernel
theorem i_172_64 : pm_at q_172 64 = some (.iadd, 1) := by decide +kernel
theorem i_172_65 : pm_at q_172 65 = some (.iload_n 3, 1) := by decide +kernel
theorem i_172_66 : pm_at q_172 66 = some (.iadd, 1) := by decide +kernel
theorem i_172_67 : pm_at q_172 67 = some (.aload_n 0, 1) := by decide +kernel
theorem i_172_68 : pm_at q_172 68 = some (.getfield 19, 3) := by decide +kernel
theorem i_172_71 : pm_at q_172 71 = some (.iload_n 3, 1) := by decide +kernel
theorem i_172_72 : pm_at q_172 72 = some (.iaload, 1) := by decide +kernel
theorem i_172_73 : pm_at q_172 73 = some (.iastore, 1) := by decide +kernel
theorem i_172_74 : pm_at q_172 74 = some (.aload_n 1, 1) := by decide +kernel
theorem i_172_75 : pm_at q_172 75 = some (.iload_n 2, 1) := by decide +kernel
theorem i_172_76 : pm_at q_172 76 = some (.bipush 24, 2) := by decide +kernel
theorem i_172_78 : pm_at q_172 78 = some (.iadd, 1) := by decide +kernel
theorem i_172_79 : pm_at q_172 79 = some (.iload_n 3, 1) := by decide +kernel
theorem i_172_80 : pm_at q_172 80 = some (.iadd, 1) := by decide +kernel
theorem i_172_81 : pm_at q_172 81 = some (.aload_n 0, 1) := by decide +kernel
theorem i_172_82 : pm_at q_172 82 = some (.getfield 22, 3) := by decide +kernel
theorem i_172_85 : pm_at q_172 85 = some (.iload_n 3, 1) := by decide +kernel
theorem i_172_86 : pm_at q_172 86 = some (.iaload, 1) := by decide +kernel
theorem i_172_87 : pm_at q_172 87 = some (.iastore, 1) := by decide +kernel
theorem i_172_88 : pm_at q_172 88 = some (.aload_n 1, 1) := by decide +kernel
theorem i_172_89 : pm_at q_172 89 = some (.iload_n 2, 1) := by decide +kernel
theorem i_172_90 : pm_at q_172 90 = some (.bipush 31, 2) := by decide +kernel
theorem i_172_92 : pm_at q_172 92 = some (.iadd, 1) := by decide +kernel
theorem i_172_93 : pm_at q_172 93 = some (.iload_n 3, 1) := by decide +kernel
theorem i_172_94 : pm_at q_172 94 = some (.iadd, 1) := by decide +kernel
theorem i_172_95 : pm_at q_172 95 = some (.aload_n 0, 1) := by decide +kernel
theorem i_172_96 : pm_at q_172 96 = some (.getfield 25, 3) := by decide +kernel
theorem i_172_99 : pm_at q_172 99 = some (.iload_n 3, 1) := by decide +kernel
theorem i_172_100 : pm_at q_172 100 = some (.iaload, 1) := by decide +kernel
theorem i_172_101 : pm_at q_172 101 = some (.iastore, 1) := by decide +kernel
theorem i_172_102 : pm_at q_172 102 = some (.aload_n 1, 1) := by decide +kernel
theorem i_172_103 : pm_at q_172 103 = some (.iload_n 2, 1) := by decide +kernel
theorem i_172_104 : pm_at q_172 104 = some (.bipush 38, 2) := by decide +kernel
theorem i_172_106 : pm_at q_172 106 = some (.iadd, 1) := by decide +kernel
theorem i_172_107 : pm_at q_172 107 = some (.iload_n 3, 1) := by decide +kernel
theorem i_172_108 : pm_at q_172 108 = some (.iadd, 1) := by decide +kernel
theorem i_172_109 : pm_at q_172 109 = some (.aload_n 0, 1) := by decide +kernel
theorem i_172_110 : pm_at q_172 110 = some (.getfield 28, 3) := by decide +kernel
theorem i_172_113 : pm_at q_172 113 = some (.iload_n 3, 1) := by decide +kernel
theorem i_172_114 : pm_at q_172 114 = some (.iaload, 1) := by decide +kernel
theorem i_172_115 : pm_at q_172 115 = some (.iastore, 1) := by decide +kernel
theorem i_172_116 : pm_at q_172 116 = some (.aload_n 1, 1) := by decide +kernel
theorem i_172_117 : pm_at q_172 117 = some (.iload_n 2, 1) := by decide +kernel
theorem i_172_118 : pm_at q_172 118 = some (.bipush 45, 2) := by decide +kernel
theorem i_172_120 : pm_at q_172 120 = some (.iadd, 1) := by decide +kernel
theorem i_172_121 : pm_at q_172 121 = some (.iload_n 3, 1) := by decide +kernel
theorem i_172_122 : pm_at q_172 122 = some (.iadd, 1) := by decide +kernel
theorem i_172_123 : pm_at q_172 123 = some (.aload_n 0, 1) := by decide +kernel
theorem i_172_124 : pm_at q_172 124 = some (.getfield 31, 3) := by decide +kernel
theorem i_172_127 : pm_at q_172 127 = some (.iload_n 3, 1) := by decide +kernel
theorem i_172_128 : pm_at q_172 128 = some (.iaload, 1) := by decide +kernel
theorem i_172_129 : pm_at q_172 129 = some (.iastore, 1) := by decide +kernel
theorem i_172_130 : pm_at q_172 130 = some (.iinc 3 1, 3) := by decide +kernel
theorem i_172_133 : pm_at q_172 133 = some (.goto (-106), 3) := by decide +kernel
theorem i_172_136 : pm_at q_172 136 = some (.return_, 1) := by decide +kernel
theorem i_173_0 : pm_at q_173 0 = some (.aload_n 0, 1) := by decide +kernel
theorem i_173_1 : pm_at q_173 1 = some (.aload_n 1, 1) := by decide +kernel
theorem i_173_2 : pm_at q_173 2 = some (.iload_n 2, 1) := by decide +kernel
theorem i_173_3 : pm_at q_173 3 = some (.iaload, 1) := by decide +kernel
theorem i_173_4 : pm_at q_173 4 = some (.putfield 96, 3) := by decide +kernel
theorem i_173_7 : pm_at q_173 7 = some (.aload_n 0, 1) := by decide +kernel
theorem i_173_8 : pm_at q_173 8 = some (.aload_n 1, 1) := by decide +kernel
theorem i_173_9 : pm_at q_173 9 = some (.iload_n 2, 1) := by decide +kernel
theorem i_173_10 : pm_at q_173 10 = some (.iconst 1, 1) := by decide +kernel
theorem i_173_11 : pm_at q_173 11 = some (.iadd, 1) := by decide +kernel
theorem i_173_12 : pm_at q_173 12 = some (.iaload, 1) := by decide +kernel
theorem i_173_13 : pm_at q_173 13 = some (.putfield 100, 3) := by decide +kernel
theorem i_173_16 : pm_at q_173 16 = some (.aload_n 0, 1) := by decide +kernel
theorem i_173_17 : pm_at q_173 17 = some (.aload_n 1, 1) := by decide +kernel
theorem i_173_18 : pm_at q_173 18 = some (.iload_n 2, 1) := by decide +kernel
theorem i_173_19 : pm_at q_173 19 = some (.iconst 2, 1) := by decide +kernel
theorem i_173_20 : pm_at q_173 20 = some (.iadd, 1) := by decide +kernel
theorem i_173_21 : pm_at q_173 21 = some (.iaload, 1) := by decide +kernel
theorem i_173_22 : pm_at q_173 22 = some (.putfield 103, 3) := by decide +kernel
theorem i_173_25 : pm_at q_173 25 = some (.iconst 0, 1) := by decide +kernel
theorem i_173_26 : pm_at q_173 26 = some (.istore_n 3, 1) := by decide +kernel
theorem i_173_27 : pm_at q_173 27 = some (.iload_n 3, 1) := by decide +kernel
theorem i_173_28 : pm_at q_173 28 = some (.bipush 7, 2) := by decide +kernel
theorem i_173_30 : pm_at q_173 30 = some (.if_icmp .ge 106, 3) := by decide +kernel
theorem i_173_33 : pm_at q_173 33 = some (.aload_n 0, 1) := by decide +kernel
theorem i_173_34 : pm_at q_173 34 = some (.getfield 13, 3) := by decide +kernel
theorem i_173_37 : pm_at q_173 37 = some (.iload_n 3, 1) := by decide +kernel
theorem i_173_38 : pm_at q_173 38 = some (.aload_n 1, 1) := by decide +kernel
theorem i_173_39 : pm_at q_173 39 = some (.iload_n 2, 1) := by decide +kernel
theorem i_173_40 : pm_at q_173 40 = some (.iconst 3, 1) := by decide +kernel
theorem i_173_41 : pm_at q_173 41 = some (.iadd, 1) := by decide +kernel
theorem i_173_42 : pm_at q_173 42 = some (.iload_n 3, 1) := by decide +kernel
theorem i_173_43 : pm_at q_173 43 = some (.iadd, 1) := by decide +kernel
theorem i_173_44 : pm_at q_173 44 = some (.iaload, 1) := by decide +kernel
theorem i_173_45 : pm_at q_173 45 = some (.iastore, 1) := by decide +kernel
theorem i_173_46 : pm_at q_173 46 = some (.aload_n 0, 1) := by decide +kernel
theorem i_173_47 : pm_at q_173 47 = some (.getfield 16, 3) := by decide +kernel
theorem i_173_50 : pm_at q_173 50 = some (.iload_n 3, 1) := by decide +kernel
theorem i_173_51 : pm_at q_173 51 = some (.aload_n 1, 1) := by decide +kernel
theorem i_173_52 : pm_at q_173 52 = some (.iload_n 2, 1) := by decide +kernel
theorem i_173_53 : pm_at q_173 53 = some (.bipush 10, 2) := by decide +kernel
theorem i_173_55 : pm_at q_173 55 = some (.iadd, 1) := by decide +kernel
theorem i_173_56 : pm_at q_173 56 = some (.iload_n 3, 1) := by decide +kernel
theorem i_173_57 : pm_at q_173 57 = some (.iadd, 1) := by decide +kernel
theorem i_173_58 : pm_at q_173 58 = some (.iaload, 1) := by decide +kernel
theorem i_173_59 : pm_at q_173 59 = some (.iastore, 1) := by decide +kernel
theorem i_173_60 : pm_at q_173 60 = some (.aload_n 0, 1) := by decide +kernel
theorem i_173_61 : pm_at q_173 61 = some (.getfield 19, 3) := by decide +kernel
theorem i_173_64 : pm_at q_173 64 = some (.iload_n 3, 1) := by decide +kernel
theorem i_173_65 : pm_at q_173 65 = some (.aload_n 1, 1) := by decide +kernel
theorem i_173_66 : pm_at q_173 66 = some (.iload_n 2, 1) := by decide +kernel
theorem i_173_67 : pm_at q_173 67 = some (.bipush 17, 2) := by decide +kernel
theorem i_173_69 : pm_at q_173 69 = some (.iadd, 1) := by decide +kernel
theorem i_173_70 : pm_at q_173 70 = some (.iload_n 3, 1) := by decide +kernel
theorem i_173_71 : pm_at q_173 71 = some (.iadd, 1) := by decide +kernel
theorem i_173_72 : pm_at q_173 72 = some (.iaload, 1) := by decide +kernel
theorem i_173_73 : pm_at q_173 73 = some (.iastore, 1) := by decide +kernel
theorem i_173_74 : pm_at q_173 74 = some (.aload_n 0, 1) := by decide +kernel
theorem i_173_75 : pm_at q_173 75 = some (.getfield 22, 3) := by decide +kernel
theorem i_173_78 : pm_at q_173 78 = some (.iload_n 3, 1) := by decide +kernel
theorem i_173_79 : pm_at q_173 79 = some (.aload_n 1, 1) := by decide +kernel
theorem i_173_80 : pm_at q_173 80 = some (.iload_n 2, 1) := by decide +kernel
theorem i_173_81 : pm_at q_173 81 = some (.bipush 24, 2) := by decide +kernel
theorem i_173_83 : pm_at q_173 83 = some (.iadd, 1) := by decide +kernel
theorem i_173_84 : pm_at q_173 84 = some (.iload_n 3, 1) := by decide +kernel
theorem i_173_85 : pm_at q_173 85 = some (.iadd, 1) := by decide +kernel
theorem i_173_86 : pm_at q_173 86 = some (.iaload, 1) := by decide +kernel
theorem i_173_87 : pm_at q_173 87 = some (.iastore, 1) := by decide +kernel
theorem i_173_88 : pm_at q_173 88 = some (.aload_n 0, 1) := by decide +kernel
theorem i_173_89 : pm_at q_173 89 = some (.getfield 25, 3) := by decide +kernel
theorem i_173_92 : pm_at q_173 92 = some (.iload_n 3, 1) := by decide +kernel
theorem i_173_93 : pm_at q_173 93 = some (.aload_n 1, 1) := by decide +kernel
theorem i_173_94 : pm_at q_173 94 = some (.iload_n 2, 1) := by decide +kernel
theorem i_173_95 : pm_at q_173 95 = some (.bipush 31, 2) := by decide +kernel
theorem i_173_97 : pm_at q_173 97 = some (.iadd, 1) := by decide +kernel
theorem i_173_98 : pm_at q_173 98 = some (.iload_n 3, 1) := by decide +kernel
theorem i_173_99 : pm_at q_173 99 = some (.iadd, 1) := by decide +kernel
theorem i_173_100 : pm_at q_173 100 = some (.iaload, 1) := by decide +kernel
theorem i_173_101 : pm_at q_173 101 = some (.iastore, 1) := by decide +kernel
theorem i_173_102 : pm_at q_173 102 = some (.aload_n 0, 1) := by decide +kernel
theorem i_173_103 : pm_at q_173 103 = some (.getfield 28, 3) := by decide +kernel
theorem i_173_106 : pm_at q_173 106 = some (.iload_n 3, 1) := by decide +kernel
theorem i_173_107 : pm_at q_173 107 = some (.aload_n 1, 1) := by decide +kernel
theorem i_173_108 : pm_at q_173 108 = some (.iload_n 2, 1) := by decide +kernel
theorem i_173_109 : pm_at q_173 109 = some (.bipush 38, 2) := by decide +kernel
theorem i_173_111 : pm_at q_173 111 = some (.iadd, 1) := by decide +kernel
theorem i_173_112 : pm_at q_173 112 = some (.iload_n 3, 1) := by decide +kernel
theorem i_173_113 : pm_at q_173 113 = some (.iadd, 1) := by decide +kernel
theorem i_173_114 : pm_at q_173 114 = some (.iaload, 1) := by decide +kernel
theorem i_173_115 : pm_at q_173 115 = some (.iastore, 1) := by decide +kernel
theorem i_173_116 : pm_at q_173 116 = some (.aload_n 0, 1) := by decide +kernel
theorem i_173_117 : pm_at q_173 117 = some (.getfield 31, 3) := by decide +kernel
theorem i_173_120 : pm_at q_173 120 = some (.iload_n 3, 1) := by decide +kernel
theorem i_173_121 : pm_at q_173 121 = some (.aload_n 1, 1) := by decide +kernel
theorem i_173_122 : pm_at q_173 122 = some (.iload_n 2, 1) := by decide +kernel
theorem i_173_123 : pm_at q_173 123 = some (.bipush 45, 2) := by decide +kernel
theorem i_173_125 : pm_at q_173 125 = some (.iadd, 1) := by decide +kernel
theorem i_173_126 : pm_at q_173 126 = some (.iload_n 3, 1) := by decide +kernel
theorem i_173_127 : pm_at q_173 127 = some (.iadd, 1) := by decide +kernel
theorem i_173_128 : pm_at q_173 128 = some (.iaload, 1) := by decide +kernel
theorem i_173_129 : pm_at q_173 129 = some (.iastore, 1) := by decide +kernel
theorem i_173_130 : pm_at q_173 130 = some (.iinc 3 1, 3) := by decide +kernel
theorem i_173_133 : pm_at q_173 133 = some (.goto (-106), 3) := by decide +kernel
theorem i_173_136 : pm_at q_173 136 = some (.return_, 1) := by decide +kernel
theorem i_174_0 : pm_at q_174 0 = some (.aload_n 0, 1) := by decide +kernel
theorem i_174_1 : pm_at q_174 1 = some (.getfield 112, 3) := by decide +kernel
theorem i_174_4 : pm_at q_174 4 = some (.bipush 6, 2) := by decide +kernel
theorem i_174_6 : pm_at q_174 6 = some (.if_icmp .ne 43, 3) := by decide +kernel
theorem i_174_9 : pm_at q_174 9 = some (.iconst 0, 1) := by decide +kernel
theorem i_174_10 : pm_at q_174 10 = some (.istore_n 1, 1) := by decide +kernel
theorem i_174_11 : pm_at q_174 11 = some (.iload_n 1, 1) := by decide +kernel
theorem i_174_12 : pm_at q_174 12 = some (.sipush 260, 3) := by decide +kernel
theorem i_174_15 : pm_at q_174 15 = some (.if_icmp .ge 24, 3) := by decide +kernel
theorem i_174_18 : pm_at q_174 18 = some (.aload_n 0, 1) := by decide +kernel
theorem i_174_19 : pm_at q_174 19 = some (.getfield 55, 3) := by decide +kernel
theorem i_174_22 : pm_at q_174 22 = some (.iload_n 1, 1) := by decide +kernel
theorem i_174_23 : pm_at q_174 23 = some (.aload_n 0, 1) := by decide +kernel
theorem i_174_24 : pm_at q_174 24 = some (.getfield 55, 3) := by decide +kernel
theorem i_174_27 : pm_at q_174 27 = some (.iload_n 1, 1) := by decide +kernel
theorem i_174_28 : pm_at q_174 28 = some (.bipush 52, 2) := by decide +kernel
theorem i_174_30 : pm_at q_174 30 = some (.iadd, 1) := by decide +kernel
theorem i_174_31 : pm_at q_174 31 = some (.iaload, 1) := by decide +kernel
theorem i_174_32 : pm_at q_174 32 = some (.iastore, 1) := by decide +kernel
theorem i_174_33 : pm_at q_174 33 = some (.iinc 1 1, 3) := by decide +kernel
theorem i_174_36 : pm_at q_174 36 = some (.goto (-25), 3) := by decide +kernel
theorem i_174_39 : pm_at q_174 39 = some (.aload_n 0, 1) := by decide +kernel
theorem i_174_40 : pm_at q_174 40 = some (.dup, 1) := by decide +kernel
theorem i_174_41 : pm_at q_174 41 = some (.getfield 112, 3) := by decide +kernel
theorem i_174_44 : pm_at q_174 44 = some (.iconst 1, 1) := by decide +kernel
theorem i_174_45 : pm_at q_174 45 = some (.isub, 1) := by decide +kernel
theorem i_174_46 : pm_at q_174 46 = some (.putfield 112, 3) := by decide +kernel
theorem i_174_49 : pm_at q_174 49 = some (.aload_n 0, 1) := by decide +kernel
theorem i_174_50 : pm_at q_174 50 = some (.aload_n 0, 1) := by decide +kernel
theorem i_174_51 : pm_at q_174 51 = some (.getfield 55, 3) := by decide +kernel
theorem i_174_54 : pm_at q_174 54 = some (.bipush 52, 2) := by decide +kernel
theorem i_174_56 : pm_at q_174 56 = some (.aload_n 0, 1) := by decide +kernel
theorem i_174_57 : pm_at q_174 57 = some (.getfield 112, 3) := by decide +kernel
theorem i_174_60 : pm_at q_174 60 = some (.imul, 1) := by decide +kernel
theorem i_174_61 : pm_at q_174 61 = some (.invokevirtual 222, 3) := by decide +kernel
theorem i_174_64 : pm_at q_174 64 = some (.aload_n 0, 1) := by decide +kernel
theorem i_174_65 : pm_at q_174 65 = some (.dup, 1) := by decide +kernel
theorem i_174_66 : pm_at q_174 66 = some (.getfield 112, 3) := by decide +kernel
theorem i_174_69 : pm_at q_174 69 = some (.iconst 1, 1) := by decide +kernel
theorem i_174_70 : pm_at q_174 70 = some (.iadd, 1) := by decide +kernel
theorem i_174_71 : pm_at q_174 71 = some (.putfield 112, 3) := by decide +kernel
theorem i_174_74 : pm_at q_174 74 = some (.return_, 1) := by decide +kernel
theorem i_175_0 : pm_at q_175 0 = some (.iload_n 1, 1) := by decide +kernel
theorem i_175_1 : pm_at q_175 1 = some (.aload_n 0, 1) := by decide +kernel
theorem i_175_2 : pm_at q_175 2 = some (.getfield 100, 3) := by decide +kernel
theorem i_175_5 : pm_at q_175 5 = some (.if_icmp .le 12, 3) := by decide +kernel
theorem i_175_8 : pm_at q_175 8 = some (.iload_n 1, 1) := by decide +kernel
theorem i_175_9 : pm_at q_175 9 = some (.aload_n 0, 1) := by decide +kernel
theorem i_175_10 : pm_at q_175 10 = some (.getfield 100, 3) := by decide +kernel
theorem i_175_13 : pm_at q_175 13 = some (.isub, 1) := by decide +kernel
theorem i_175_14 : pm_at q_175 14 = some (.goto 9, 3) := by decide +kernel
theorem i_175_17 : pm_at q_175 17 = some (.aload_n 0, 1) := by decide +kernel
theorem i_175_18 : pm_at q_175 18 = some (.getfield 100, 3) := by decide +kernel
theorem i_175_21 : pm_at q_175 21 = some (.iload_n 1, 1) := by decide +kernel
theorem i_175_22 : pm_at q_175 22 = some (.isub, 1) := by decide +kernel
theorem i_175_23 : pm_at q_175 23 = some (.istore_n 2, 1) := by decide +kernel
theorem i_175_24 : pm_at q_175 24 = some (.iconst 0, 1) := by decide +kernel
theorem i_175_25 : pm_at q_175 25 = some (.istore_n 3, 1) := by decide +kernel
theorem i_175_26 : pm_at q_175 26 = some (.iload_n 3, 1) := by decide +kernel
theorem i_175_27 : pm_at q_175 27 = some (.aload_n 0, 1) := by decide +kernel
theorem i_175_28 : pm_at q_175 28 = some (.getfield 96, 3) := by decide +kernel
theorem i_175_31 : pm_at q_175 31 = some (.if_icmp .ge 46, 3) := by decide +kernel
theorem i_175_34 : pm_at q_175 34 = some (.aload_n 0, 1) := by decide +kernel
theorem i_175_35 : pm_at q_175 35 = some (.getfield 31, 3) := by decide +kernel
theorem i_175_38 : pm_at q_175 38 = some (.iload_n 3, 1) := by decide +kernel
theorem i_175_39 : pm_at q_175 39 = some (.aload_n 0, 1) := by decide +kernel
theorem i_175_40 : pm_at q_175 40 = some (.iload_n 3, 1) := by decide +kernel
theorem i_175_41 : pm_at q_175 41 = some (.invokevirtual 202, 3) := by decide +kernel
theorem i_175_44 : pm_at q_175 44 = some (.ifCond .eq 12, 3) := by decide +kernel
theorem i_175_47 : pm_at q_175 47 = some (.aload_n 0, 1) := by decide +kernel
theorem i_175_48 : pm_at q_175 48 = some (.getfield 31, 3) := by decide +kernel
theorem i_175_51 : pm_at q_175 51 = some (.iload_n 3, 1) := by decide +kernel
theorem i_175_52 : pm_at q_175 52 = some (.iaload, 1) := by decide +kernel
theorem i_175_53 : pm_at q_175 53 = some (.goto 17, 3) := by decide +kernel
theorem i_175_56 : pm_at q_175 56 = some (.sipush 999, 3) := by decide +kernel
theorem i_175_59 : pm_at q_175 59 = some (.aload_n 0, 1) := by decide +kernel
theorem i_175_60 : pm_at q_175 60 = some (.getfield 31, 3) := by decide +kernel
theorem i_175_63 : pm_at q_175 63 = some (.iload_n 3, 1) := by decide +kernel
theorem i_175_64 : pm_at q_175 64 = some (.iaload, 1) := by decide +kernel
theorem i_175_65 : pm_at q_175 65 = some (.iload_n 2, 1) := by decide +kernel
theorem i_175_66 : pm_at q_175 66 = some (.iadd, 1) := by decide +kernel
theorem i_175_67 : pm_at q_175 67 = some (.invokestatic 225, 3) := by decide +kernel
theorem i_175_70 : pm_at q_175 70 = some (.iastore, 1) := by decide +kernel
theorem i_175_71 : pm_at q_175 71 = some (.iinc 3 1, 3) := by decide +kernel
theorem i_175_74 : pm_at q_175 74 = some (.goto (-48), 3) := by decide +kernel
theorem i_175_77 : pm_at q_175 77 = some (.aload_n 0, 1) := by decide +kernel
theorem i_175_78 : pm_at q_175 78 = some (.iload_n 1, 1) := by decide +kernel
theorem i_175_79 : pm_at q_175 79 = some (.putfield 100, 3) := by decide +kernel
theorem i_175_82 : pm_at q_175 82 = some (.return_, 1) := by decide +kernel
theorem i_176_0 : pm_at q_176 0 = some (.iload_n 1, 1) := by decide +kernel
theorem i_176_1 : pm_at q_176 1 = some (.invokestatic 228, 3) := by decide +kernel
theorem i_176_4 : pm_at q_176 4 = some (.ifCond .ne 8, 3) := by decide +kernel
theorem i_176_7 : pm_at q_176 7 = some (.aload_n 0, 1) := by decide +kernel
theorem i_176_8 : pm_at q_176 8 = some (.invokevirtual 119, 3) := by decide +kernel
theorem i_176_11 : pm_at q_176 11 = some (.ireturn, 1) := by decide +kernel
theorem i_176_12 : pm_at q_176 12 = some (.iload_n 1, 1) := by decide +kernel
theorem i_176_13 : pm_at q_176 13 = some (.aload_n 0, 1) := by decide +kernel
theorem i_176_14 : pm_at q_176 14 = some (.getfield 100, 3) := by decide +kernel
theorem i_176_17 : pm_at q_176 17 = some (.if_icmp .ne 8, 3) := by decide +kernel
theorem i_176_20 : pm_at q_176 20 = some (.aload_n 0, 1) := by decide +kernel
theorem i_176_21 : pm_at q_176 21 = some (.invokevirtual 231, 3) := by decide +kernel
theorem i_176_24 : pm_at q_176 24 = some (.ireturn, 1) := by decide +kernel
theorem i_176_25 : pm_at q_176 25 = some (.aload_n 0, 1) := by decide +kernel
theorem i_176_26 : pm_at q_176 26 = some (.invokevirtual 234, 3) := by decide +kernel
theorem i_176_29 : pm_at q_176 29 = some (.aload_n 0, 1) := by decide +kernel
theorem i_176_30 : pm_at q_176 30 = some (.iload_n 1, 1) := by decide +kernel
theorem i_176_31 : pm_at q_176 31 = some (.invokevirtual 167, 3) := by decide +kernel
theorem i_176_34 : pm_at q_176 34 = some (.aload_n 0, 1) := by decide +kernel
theorem i_176_35 : pm_at q_176 35 = some (.aload_n 0, 1) := by decide +kernel
theorem i_176_36 : pm_at q_176 36 = some (.getfield 100, 3) := by decide +kernel
theorem i_176_39 : pm_at q_176 39 = some (.invokevirtual 237, 3) := by decide +kernel
theorem i_176_42 : pm_at q_176 42 = some (.ireturn, 1) := by decide +kernel
theorem i_177_0 : pm_at q_177 0 = some (.aload_n 0, 1) := by decide +kernel
theorem i_177_1 : pm_at q_177 1 = some (.iload_n 1, 1) := by decide +kernel
theorem i_177_2 : pm_at q_177 2 = some (.invokevirtual 240, 3) := by decide +kernel
theorem i_177_5 : pm_at q_177 5 = some (.ifCond .eq 12, 3) := by decide +kernel
theorem i_177_8 : pm_at q_177 8 = some (.iload_n 2, 1) := by decide +kernel
theorem i_177_9 : pm_at q_177 9 = some (.iconst 0, 1) := by decide +kernel
theorem i_177_10 : pm_at q_177 10 = some (.iconst 3, 1) := by decide +kernel
theorem i_177_11 : pm_at q_177 11 = some (.invokestatic 115, 3) := by decide +kernel
theorem i_177_14 : pm_at q_177 14 = some (.ifCond .ne 8, 3) := by decide +kernel
theorem i_177_17 : pm_at q_177 17 = some (.aload_n 0, 1) := by decide +kernel
theorem i_177_18 : pm_at q_177 18 = some (.invokevirtual 119, 3) := by decide +kernel
theorem i_177_21 : pm_at q_177 21 = some (.ireturn, 1) := by decide +kernel
theorem i_177_22 : pm_at q_177 22 = some (.aload_n 0, 1) := by decide +kernel
theorem i_177_23 : pm_at q_177 23 = some (.getfield 28, 3) := by decide +kernel
theorem i_177_26 : pm_at q_177 26 = some (.iload_n 1, 1) := by decide +kernel
theorem i_177_27 : pm_at q_177 27 = some (.iaload, 1) := by decide +kernel
theorem i_177_28 : pm_at q_177 28 = some (.iload_n 2, 1) := by decide +kernel
theorem i_177_29 : pm_at q_177 29 = some (.if_icmp .ne 8, 3) := by decide +kernel
theorem i_177_32 : pm_at q_177 32 = some (.aload_n 0, 1) := by decide +kernel
theorem i_177_33 : pm_at q_177 33 = some (.invokevirtual 231, 3) := by decide +kernel
theorem i_177_36 : pm_at q_177 36 = some (.ireturn, 1) := by decide +kernel
theorem i_177_37 : pm_at q_177 37 = some (.aload_n 0, 1) := by decide +kernel
theorem i_177_38 : pm_at q_177 38 = some (.invokevirtual 234, 3) := by decide +kernel
theorem i_177_41 : pm_at q_177 41 = some (.aload_n 0, 1) := by decide +kernel
theorem i_177_42 : pm_at q_177 42 = some (.getfield 28, 3) := by decide +kernel
theorem i_177_45 : pm_at q_177 45 = some (.iload_n 1, 1) := by decide +kernel
theorem i_177_46 : pm_at q_177 46 = some (.iaload, 1) := by decide +kernel
theorem i_177_47 : pm_at q_177 47 = some (.istore_n 3, 1) := by decide +kernel
theorem i_177_48 : pm_at q_177 48 = some (.aload_n 0, 1) := by decide +kernel
theorem i_177_49 : pm_at q_177 49 = some (.getfield 28, 3) := by decide +kernel
theorem i_177_52 : pm_at q_177 52 = some (.iload_n 1, 1) := by decide +kernel
theorem i_177_53 : pm_at q_177 53 = some (.iload_n 2, 1) := by decide +kernel
theorem i_177_54 : pm_at q_177 54 = some (.iastore, 1) := by decide +kernel
theorem i_177_55 : pm_at q_177 55 = some (.iload_n 3, 1) := by decide +kernel
theorem i_177_56 : pm_at q_177 56 = some (.ireturn, 1) := by decide +kernel
theorem i_178_0 : pm_at q_178 0 = some (.aload_n 0, 1) := by decide +kernel
theorem i_178_1 : pm_at q_178 1 = some (.iload_n 1, 1) := by decide +kernel
theorem i_178_2 : pm_at q_178 2 = some (.invokevirtual 240, 3) := by decide +kernel
theorem i_178_5 : pm_at q_178 5 = some (.ifCond .ne 8, 3) := by decide +kernel
theorem i_178_8 : pm_at q_178 8 = some (.aload_n 0, 1) := by decide +kernel
theorem i_178_9 : pm_at q_178 9 = some (.invokevirtual 119, 3) := by decide +kernel
theorem i_178_12 : pm_at q_178 12 = some (.ireturn, 1) := by decide +kernel
theorem i_178_13 : pm_at q_178 13 = some (.aload_n 0, 1) := by decide +kernel
theorem i_178_14 : pm_at q_178 14 = some (.invokevirtual 234, 3) := by decide +kernel
theorem i_178_17 : pm_at q_178 17 = some (.iconst 0, 1) := by decide +kernel
theorem i_178_18 : pm_at q_178 18 = some (.istore_n 2, 1) := by decide +kernel
theorem i_178_19 : pm_at q_178 19 = some (.iconst 0, 1) := by decide +kernel
theorem i_178_20 : pm_at q_178 20 = some (.istore_n 3, 1) := by decide +kernel
theorem i_178_21 : pm_at q_178 21 = some (.iload_n 3, 1) := by decide +kernel
theorem i_178_22 : pm_at q_178 22 = some (.aload_n 0, 1) := by decide +kernel
theorem i_178_23 : pm_at q_178 23 = some (.getfield 96, 3) := by decide +kernel
theorem i_178_26 : pm_at q_178 26 = some (.if_icmp .ge 173, 3) := by decide +kernel
theorem i_178_29 : pm_at q_178 29 = some (.iload_n 3, 1) := by decide +kernel
theorem i_178_30 : pm_at q_178 30 = some (.iload_n 1, 1) := by decide +kernel
theorem i_178_31 : pm_at q_178 31 = some (.if_icmp .eq 28, 3) := by decide +kernel
theorem i_178_34 : pm_at q_178 34 = some (.aload_n 0, 1) := by decide +kernel
theorem i_178_35 : pm_at q_178 35 = some (.getfield 25, 3) := by decide +kernel
theorem i_178_38 : pm_at q_178 38 = some (.iload_n 3, 1) := by decide +kernel
theorem i_178_39 : pm_at q_178 39 = some (.iaload, 1) := by decide +kernel
theorem i_178_40 : pm_at q_178 40 = some (.iconst (-1), 1) := by decide +kernel
theorem i_178_41 : pm_at q_178 41 = some (.if_icmp .eq 22, 3) := by decide +kernel
theorem i_178_44 : pm_at q_178 44 = some (.aload_n 0, 1) := by decide +kernel
theorem i_178_45 : pm_at q_178 45 = some (.getfield 61, 3) := by decide +kernel
theorem i_178_48 : pm_at q_178 48 = some (.aload_n 0, 1) := by decide +kernel
theorem i_178_49 : pm_at q_178 49 = some (.getfield 25, 3) := by decide +kernel
theorem i_178_52 : pm_at q_178 52 = some (.iload_n 3, 1) := by decide +kernel
theorem i_178_53 : pm_at q_178 53 = some (.iaload, 1) := by decide +kernel
theorem i_178_54 : pm_at q_178 54 = some (.iaload, 1) := by decide +kernel
theorem i_178_55 : pm_at q_178 55 = some (.iconst (-1), 1) := by decide +kernel
theorem i_178_56 : pm_at q_178 56 = some (.if_icmp .ne 7, 3) := by decide +kernel
theorem i_178_59 : pm_at q_178 59 = some (.iconst 1, 1) := by decide +kernel
theorem i_178_60 : pm_at q_178 60 = some (.goto 4, 3) := by decide +kernel
theorem i_178_63 : pm_at q_178 63 = some (.iconst 0, 1) := by decide +kernel
theorem i_178_64 : pm_at q_178 64 = some (.istore 4, 2) := by decide +kernel
theorem i_178_66 : pm_at q_178 66 = some (.aload_n 0, 1) := by decide +kernel
theorem i_178_67 : pm_at q_178 67 = some (.getfield 61, 3) := by decide +kernel
theorem i_178_70 : pm_at q_178 70 = some (.iload_n 3, 1) := by decide +kernel
theorem i_178_71 : pm_at q_178 71 = some (.iload 4, 2) := by decide +kernel
theorem i_178_73 : pm_at q_178 73 = some (.ifCond .eq 7, 3) := by decide +kernel
theorem i_178_76 : pm_at q_178 76 = some (.iconst (-1), 1) := by decide +kernel
theorem i_178_77 : pm_at q_178 77 = some (.goto 4, 3) := by decide +kernel
theorem i_178_80 : pm_at q_178 80 = some (.iload_n 2, 1) := by decide +kernel
theorem i_178_81 : pm_at q_178 81 = some (.iastore, 1) := by decide +kernel
theorem i_178_82 : pm_at q_178 82 = some (.iload 4, 2) := by decide +kernel
theorem i_178_84 : pm_at q_178 84 = some (.ifCond .ne 109, 3) := by decide +kernel
theorem i_178_87 : pm_at q_178 87 = some (.aload_n 0, 1) := by decide +kernel
theorem i_178_88 : pm_at q_178 88 = some (.getfield 13, 3) := by decide +kernel
theorem i_178_91 : pm_at q_178 91 = some (.iload_n 2, 1) := by decide +kernel
theorem i_178_92 : pm_at q_178 92 = some (.aload_n 0, 1) := by decide +kernel
theorem i_178_93 : pm_at q_178 93 = some (.getfield 13, 3) := by decide +kernel
theorem i_178_96 : pm_at q_178 96 = some (.iload_n 3, 1) := by decide +kernel
theorem i_178_97 : pm_at q_178 97 = some (.iaload, 1) := by decide +kernel
theorem i_178_98 : pm_at q_178 98 = some (.iastore, 1) := by decide +kernel
theorem i_178_99 : pm_at q_178 99 = some (.aload_n 0, 1) := by decide +kernel
theorem i_178_100 : pm_at q_178 100 = some (.getfield 16, 3) := by decide +kernel
theorem i_178_103 : pm_at q_178 103 = some (.iload_n 2, 1) := by decide +kernel
theorem i_178_104 : pm_at q_178 104 = some (.aload_n 0, 1) := by decide +kernel
theorem i_178_105 : pm_at q_178 105 = some (.getfield 16, 3) := by decide +kernel
theorem i_178_108 : pm_at q_178 108 = some (.iload_n 3, 1) := by decide +kernel
theorem i_178_109 : pm_at q_178 109 = some (.iaload, 1) := by decide +kernel
theorem i_178_110 : pm_at q_178 110 = some (.iastore, 1) := by decide +kernel
theorem i_178_111 : pm_at q_178 111 = some (.aload_n 0, 1) := by decide +kernel
theorem i_178_112 : pm_at q_178 112 = some (.getfield 19, 3) := by decide +kernel
theorem i_178_115 : pm_at q_178 115 = some (.iload_n 2, 1) := by decide +kernel
theorem i_178_116 : pm_at q_178 116 = some (.aload_n 0, 1) := by decide +kernel
theorem i_178_117 : pm_at q_178 117 = some (.getfield 19, 3) := by decide +kernel
theorem i_178_120 : pm_at q_178 120 = some (.iload_n 3, 1) := by decide +kernel
theorem i_178_121 : pm_at q_178 121 = some (.iaload, 1) := by decide +kernel
theorem i_178_122 : pm_at q_178 122 = some (.iastore, 1) := by decide +kernel
theorem i_178_123 : pm_at q_178 123 = some (.aload_n 0, 1) := by decide +kernel
theorem i_178_124 : pm_at q_178 124 = some (.getfield 22, 3) := by decide +kernel
theorem i_178_127 : pm_at q_178 127 = some (.iload_n 2, 1) := by decide +kernel
theorem i_178_128 : pm_at q_178 128 = some (.aload_n 0, 1) := by decide +kernel
theorem i_178_129 : pm_at q_178 129 = some (.getfield 22, 3) := by decide +kernel
theorem i_178_132 : pm_at q_178 132 = some (.iload_n 3, 1) := by decide +kernel
theorem i_178_133 : pm_at q_178 133 = some (.iaload, 1) := by decide +kernel
theorem i_178_134 : pm_at q_178 134 = some (.iastore, 1) := by decide +kernel
theorem i_178_135 : pm_at q_178 135 = some (.aload_n 0, 1) := by decide +kernel
theorem i_178_136 : pm_at q_178 136 = some (.getfield 25, 3) := by decide +kernel
theorem i_178_139 : pm_at q_178 139 = some (.iload_n 2, 1) := by decide +kernel
theorem i_178_140 : pm_at q_178 140 = some (.aload_n 0, 1) := by decide +kernel
theorem i_178_141 : pm_at q_178 141 = some (.getfield 25, 3) := by decide +kernel
theorem i_178_144 : pm_at q_178 144 = some (.iload_n 3, 1) := by decide +kernel
theorem i_178_145 : pm_at q_178 145 = some (.iaload, 1) := by decide +kernel
theorem i_178_146 : pm_at q_178 146 = some (.iconst (-1), 1) := by decide +kernel
theorem i_178_147 : pm_at q_178 147 = some (.if_icmp .ne 7, 3) := by decide +kernel
theorem i_178_150 : pm_at q_178 150 = some (.iconst (-1), 1) := by decide +kernel
theorem i_178_151 : pm_at q_178 151 = some (.goto 14, 3) := by decide +kernel
theorem i_178_154 : pm_at q_178 154 = some (.aload_n 0, 1) := by decide +kernel
theorem i_178_155 : pm_at q_178 155 = some (.getfield 61, 3) := by decide +kernel
theorem i_178_158 : pm_at q_178 158 = some (.aload_n 0, 1) := by decide +kernel
theorem i_178_159 : pm_at q_178 159 = some (.getfield 25, 3) := by decide +kernel
theorem i_178_162 : pm_at q_178 162 = some (.iload_n 3, 1) := by decide +kernel
theorem i_178_163 : pm_at q_178 163 = some (.iaload, 1) := by decide +kernel
theorem i_178_164 : pm_at q_178 164 = some (.iaload, 1) := by decide +kernel
theorem i_178_165 : pm_at q_178 165 = some (.iastore, 1) := by decide +kernel
theorem i_178_166 : pm_at q_178 166 = some (.aload_n 0, 1) := by decide +kernel
theorem i_178_167 : pm_at q_178 167 = some (.getfield 28, 3) := by decide +kernel
theorem i_178_170 : pm_at q_178 170 = some (.iload_n 2, 1) := by decide +kernel
theorem i_178_171 : pm_at q_178 171 = some (.aload_n 0, 1) := by decide +kernel
theorem i_178_172 : pm_at q_178 172 = some (.getfield 28, 3) := by decide +kernel
theorem i_178_175 : pm_at q_178 175 = some (.iload_n 3, 1) := by decide +kernel
theorem i_178_176 : pm_at q_178 176 = some (.iaload, 1) := by decide +kernel
theorem i_178_177 : pm_at q_178 177 = some (.iastore, 1) := by decide +kernel
theorem i_178_178 : pm_at q_178 178 = some (.aload_n 0, 1) := by decide +kernel
theorem i_178_179 : pm_at q_178 179 = some (.getfield 31, 3) := by decide +kernel
theorem i_178_182 : pm_at q_178 182 = some (.iload_n 2, 1) := by decide +kernel
theorem i_178_183 : pm_at q_178 183 = some (.aload_n 0, 1) := by decide +kernel
theorem i_178_184 : pm_at q_178 184 = some (.getfield 31, 3) := by decide +kernel
theorem i_178_187 : pm_at q_178 187 = some (.iload_n 3, 1) := by decide +kernel
theorem i_178_188 : pm_at q_178 188 = some (.iaload, 1) := by decide +kernel
theorem i_178_189 : pm_at q_178 189 = some (.iastore, 1) := by decide +kernel
theorem i_178_190 : pm_at q_178 190 = some (.iinc 2 1, 3) := by decide +kernel
theorem i_178_193 : pm_at q_178 193 = some (.iinc 3 1, 3) := by decide +kernel
theorem i_178_196 : pm_at q_178 196 = some (.goto (-175), 3) := by decide +kernel
theorem i_178_199 : pm_at q_178 199 = some (.aload_n 0, 1) := by decide +kernel
theorem i_178_200 : pm_at q_178 200 = some (.getfield 96, 3) := by decide +kernel
theorem i_178_203 : pm_at q_178 203 = some (.iload_n 2, 1) := by decide +kernel
theorem i_178_204 : pm_at q_178 204 = some (.isub, 1) := by decide +kernel
theorem i_178_205 : pm_at q_178 205 = some (.istore_n 3, 1) := by decide +kernel
theorem i_178_206 : pm_at q_178 206 = some (.aload_n 0, 1) := by decide +kernel
theorem i_178_207 : pm_at q_178 207 = some (.iload_n 2, 1) := by decide +kernel
theorem i_178_208 : pm_at q_178 208 = some (.putfield 96, 3) := by decide +kernel
theorem i_178_211 : pm_at q_178 211 = some (.aload_n 0, 1) := by decide +kernel
theorem i_178_212 : pm_at q_178 212 = some (.iconst 0, 1) := by decide +kernel
theorem i_178_213 : pm_at q_178 213 = some (.putfield 106, 3) := by decide +kernel
theorem i_178_216 : pm_at q_178 216 = some (.aload_n 0, 1) := by decide +kernel
theorem i_178_217 : pm_at q_178 217 = some (.iconst 0, 1) := by decide +kernel
theorem i_178_218 : pm_at q_178 218 = some (.putfield 109, 3) := by decide +kernel
theorem i_178_221 : pm_at q_178 221 = some (.iload_n 3, 1) := by decide +kernel
theorem i_178_222 : pm_at q_178 222 = some (.ireturn, 1) := by decide +kernel
theorem i_179_0 : pm_at q_179 0 = some (.aload_n 0, 1) := by decide +kernel
theorem i_179_1 : pm_at q_179 1 = some (.getfield 112, 3) := by decide +kernel
theorem i_179_4 : pm_at q_179 4 = some (.ifCond .ne 8, 3) := by decide +kernel
theorem i_179_7 : pm_at q_179 7 = some (.aload_n 0, 1) := by decide +kernel
theorem i_179_8 : pm_at q_179 8 = some (.invokevirtual 231, 3) := by decide +kernel
theorem i_179_11 : pm_at q_179 11 = some (.ireturn, 1) := by decide +kernel
theorem i_179_12 : pm_at q_179 12 = some (.aload_n 0, 1) := by decide +kernel
theorem i_179_13 : pm_at q_179 13 = some (.dup, 1) := by decide +kernel
theorem i_179_14 : pm_at q_179 14 = some (.getfield 112, 3) := by decide +kernel
theorem i_179_17 : pm_at q_179 17 = some (.iconst 1, 1) := by decide +kernel
theorem i_179_18 : pm_at q_179 18 = some (.isub, 1) := by decide +kernel
theorem i_179_19 : pm_at q_179 19 = some (.putfield 112, 3) := by decide +kernel
theorem i_179_22 : pm_at q_179 22 = some (.aload_n 0, 1) := by decide +kernel
theorem i_179_23 : pm_at q_179 23 = some (.aload_n 0, 1) := by decide +kernel
theorem i_179_24 : pm_at q_179 24 = some (.getfield 55, 3) := by decide +kernel
theorem i_179_27 : pm_at q_179 27 = some (.bipush 52, 2) := by decide +kernel
theorem i_179_29 : pm_at q_179 29 = some (.aload_n 0, 1) := by decide +kernel
theorem i_179_30 : pm_at q_179 30 = some (.getfield 112, 3) := by decide +kernel
theorem i_179_33 : pm_at q_179 33 = some (.imul, 1) := by decide +kernel
theorem i_179_34 : pm_at q_179 34 = some (.invokevirtual 243, 3) := by decide +kernel
theorem i_179_37 : pm_at q_179 37 = some (.aload_n 0, 1) := by decide +kernel
theorem i_179_38 : pm_at q_179 38 = some (.getfield 100, 3) := by decide +kernel
theorem i_179_41 : pm_at q_179 41 = some (.ireturn, 1) := by decide +kernel
theorem i_180_0 : pm_at q_180 0 = some (.aload_n 0, 1) := by decide +kernel
theorem i_180_1 : pm_at q_180 1 = some (.iload_n 1, 1) := by decide +kernel
theorem i_180_2 : pm_at q_180 2 = some (.invokevirtual 240, 3) := by decide +kernel
theorem i_180_5 : pm_at q_180 5 = some (.ifCond .eq 13, 3) := by decide +kernel
theorem i_180_8 : pm_at q_180 8 = some (.iload_n 2, 1) := by decide +kernel
theorem i_180_9 : pm_at q_180 9 = some (.iconst 0, 1) := by decide +kernel
theorem i_180_10 : pm_at q_180 10 = some (.bipush 7, 2) := by decide +kernel
theorem i_180_12 : pm_at q_180 12 = some (.invokestatic 115, 3) := by decide +kernel
theorem i_180_15 : pm_at q_180 15 = some (.ifCond .ne 8, 3) := by decide +kernel
theorem i_180_18 : pm_at q_180 18 = some (.aload_n 0, 1) := by decide +kernel
theorem i_180_19 : pm_at q_180 19 = some (.invokevirtual 119, 3) := by decide +kernel
theorem i_180_22 : pm_at q_180 22 = some (.ireturn, 1) := by decide +kernel
theorem i_180_23 : pm_at q_180 23 = some (.iload_n 2, 1) := by decide +kernel
theorem i_180_24 : pm_at q_180 24 = some (.tableswitch 93 0 6 #[44, 51, 58, 65, 72, 79, 86], 44) := by decide +kernel
theorem i_180_68 : pm_at q_180 68 = some (.aload_n 0, 1) := by decide +kernel
theorem i_180_69 : pm_at q_180 69 = some (.getfield 13, 3) := by decide +kernel
theorem i_180_72 : pm_at q_180 72 = some (.iload_n 1, 1) := by decide +kernel
theorem i_180_73 : pm_at q_180 73 = some (.iaload, 1) := by decide +kernel
theorem i_180_74 : pm_at q_180 74 = some (.ireturn, 1) := by decide +kernel
theorem i_180_75 : pm_at q_180 75 = some (.aload_n 0, 1) := by decide +kernel
theorem i_180_76 : pm_at q_180 76 = some (.getfield 16, 3) := by decide +kernel
theorem i_180_79 : pm_at q_180 79 = some (.iload_n 1, 1) := by decide +kernel
theorem i_180_80 : pm_at q_180 80 = some (.iaload, 1) := by decide +kernel
theorem i_180_81 : pm_at q_180 81 = some (.ireturn, 1) := by decide +kernel
theorem i_180_82 : pm_at q_180 82 = some (.aload_n 0, 1) := by decide +kernel
theorem i_180_83 : pm_at q_180 83 = some (.getfield 19, 3) := by decide +kernel
theorem i_180_86 : pm_at q_180 86 = some (.iload_n 1, 1) := by decide +kernel
theorem i_180_87 : pm_at q_180 87 = some (.iaload, 1) := by decide +kernel
theorem i_180_88 : pm_at q_180 88 = some (.ireturn, 1) := by decide +kernel
theorem i_180_89 : pm_at q_180 89 = some (.aload_n 0, 1) := by decide +kernel
theorem i_180_90 : pm_at q_180 90 = some (.getfield 22, 3) := by decide +kernel
theorem i_180_93 : pm_at q_180 93 = some (.iload_n 1, 1) := by decide +kernel
theorem i_180_94 : pm_at q_180 94 = some (.iaload, 1) := by decide +kernel
theorem i_180_95 : pm_at q_180 95 = some (.ireturn, 1) := by decide +kernel
theorem i_180_96 : pm_at q_180 96 = some (.aload_n 0, 1) := by decide +kernel
theorem i_180_97 : pm_at q_180 97 = some (.getfield 25, 3) := by decide +kernel
theorem i_180_100 : pm_at q_180 100 = some (.iload_n 1, 1) := by decide +kernel
theorem i_180_101 : pm_at q_180 101 = some (.iaload, 1) := by decide +kernel
theorem i_180_102 : pm_at q_180 102 = some (.ireturn, 1) := by decide +kernel
theorem i_180_103 : pm_at q_180 103 = some (.aload_n 0, 1) := by decide +kernel
theorem i_180_104 : pm_at q_180 104 = some (.getfield 28, 3) := by decide +kernel
theorem i_180_107 : pm_at q_180 107 = some (.iload_n 1, 1) := by decide +kernel
theorem i_180_108 : pm_at q_180 108 = some (.iaload, 1) := by decide +kernel
theorem i_180_109 : pm_at q_180 109 = some (.ireturn, 1) := by decide +kernel
theorem i_180_110 : pm_at q_180 110 = some (.aload_n 0, 1) := by decide +kernel
theorem i_180_111 : pm_at q_180 111 = some (.getfield 31, 3) := by decide +kernel
theorem i_180_114 : pm_at q_180 114 = some (.iload_n 1, 1) := by decide +kernel
theorem i_180_115 : pm_at q_180 115 = some (.iaload, 1) := by decide +kernel
theorem i_180_116 : pm_at q_180 116 = some (.ireturn, 1) := by decide +kernel
theorem i_180_117 : pm_at q_180 117 = some (.aload_n 0, 1) := by decide +kernel
theorem i_180_118 : pm_at q_180 118 = some (.iload_n 1, 1) := by decide +kernel
theorem i_180_119 : pm_at q_180 119 = some (.invokevirtual 202, 3) := by decide +kernel
theorem i_180_122 : pm_at q_180 122 = some (.ifCond .eq 7, 3) := by decide +kernel
theorem i_180_125 : pm_at q_180 125 = some (.iconst 1, 1) := by decide +kernel
theorem i_180_126 : pm_at q_180 126 = some (.goto 4, 3) := by decide +kernel
theorem i_180_129 : pm_at q_180 129 = some (.iconst 0, 1) := by decide +kernel
theorem i_180_130 : pm_at q_180 130 = some (.ireturn, 1) := by decide +kernel
theorem i_181_0 : pm_at q_181 0 = some (.aload_n 0, 1) := by decide +kernel
theorem i_181_1 : pm_at q_181 1 = some (.iload_n 1, 1) := by decide +kernel
theorem i_181_2 : pm_at q_181 2 = some (.invokevirtual 240, 3) := by decide +kernel
theorem i_181_5 : pm_at q_181 5 = some (.ifCond .eq 19, 3) := by decide +kernel
theorem i_181_8 : pm_at q_181 8 = some (.iload_n 2, 1) := by decide +kernel
theorem i_181_9 : pm_at q_181 9 = some (.invokestatic 228, 3) := by decide +kernel
theorem i_181_12 : pm_at q_181 12 = some (.ifCond .eq 12, 3) := by decide +kernel
theorem i_181_15 : pm_at q_181 15 = some (.iload_n 3, 1) := by decide +kernel
theorem i_181_16 : pm_at q_181 16 = some (.iconst 0, 1) := by decide +kernel
theorem i_181_17 : pm_at q_181 17 = some (.iconst 2, 1) := by decide +kernel
theorem i_181_18 : pm_at q_181 18 = some (.invokestatic 115, 3) := by decide +kernel
theorem i_181_21 : pm_at q_181 21 = some (.ifCond .ne 8, 3) := by decide +kernel
theorem i_181_24 : pm_at q_181 24 = some (.aload_n 0, 1) := by decide +kernel
theorem i_181_25 : pm_at q_181 25 = some (.invokevirtual 119, 3) := by decide +kernel
theorem i_181_28 : pm_at q_181 28 = some (.ireturn, 1) := by decide +kernel
theorem i_181_29 : pm_at q_181 29 = some (.iload_n 3, 1) := by decide +kernel
theorem i_181_30 : pm_at q_181 30 = some (.ifCond .ne 28, 3) := by decide +kernel
theorem i_181_33 : pm_at q_181 33 = some (.aload_n 0, 1) := by decide +kernel
theorem i_181_34 : pm_at q_181 34 = some (.getfield 13, 3) := by decide +kernel
theorem i_181_37 : pm_at q_181 37 = some (.iload_n 1, 1) := by decide +kernel
theorem i_181_38 : pm_at q_181 38 = some (.iaload, 1) := by decide +kernel
theorem i_181_39 : pm_at q_181 39 = some (.iload_n 2, 1) := by decide +kernel
theorem i_181_40 : pm_at q_181 40 = some (.aload_n 0, 1) := by decide +kernel
theorem i_181_41 : pm_at q_181 41 = some (.getfield 19, 3) := by decide +kernel
theorem i_181_44 : pm_at q_181 44 = some (.iload_n 1, 1) := by decide +kernel
theorem i_181_45 : pm_at q_181 45 = some (.iaload, 1) := by decide +kernel
theorem i_181_46 : pm_at q_181 46 = some (.aload_n 0, 1) := by decide +kernel
theorem i_181_47 : pm_at q_181 47 = some (.getfield 28, 3) := by decide +kernel
theorem i_181_50 : pm_at q_181 50 = some (.iload_n 1, 1) := by decide +kernel
theorem i_181_51 : pm_at q_181 51 = some (.iaload, 1) := by decide +kernel
theorem i_181_52 : pm_at q_181 52 = some (.invokestatic 211, 3) := by decide +kernel
theorem i_181_55 : pm_at q_181 55 = some (.goto 25, 3) := by decide +kernel
theorem i_181_58 : pm_at q_181 58 = some (.iload_n 3, 1) := by decide +kernel
theorem i_181_59 : pm_at q_181 59 = some (.iconst 1, 1) := by decide +kernel
theorem i_181_60 : pm_at q_181 60 = some (.if_icmp .ne 11, 3) := by decide +kernel
theorem i_181_63 : pm_at q_181 63 = some (.aload_n 0, 1) := by decide +kernel
theorem i_181_64 : pm_at q_181 64 = some (.iload_n 1, 1) := by decide +kernel
theorem i_181_65 : pm_at q_181 65 = some (.invokevirtual 246, 3) := by decide +kernel
theorem i_181_68 : pm_at q_181 68 = some (.goto 12, 3) := by decide +kernel
theorem i_181_71 : pm_at q_181 71 = some (.aload_n 0, 1) := by decide +kernel
theorem i_181_72 : pm_at q_181 72 = some (.getfield 13, 3) := by decide +kernel
theorem i_181_75 : pm_at q_181 75 = some (.iload_n 1, 1) := by decide +kernel
theorem i_181_76 : pm_at q_181 76 = some (.iaload, 1) := by decide +kernel
theorem i_181_77 : pm_at q_181 77 = some (.invokestatic 199, 3) := by decide +kernel
theorem i_181_80 : pm_at q_181 80 = some (.ireturn, 1) := by decide +kernel
theorem i_182_0 : pm_at q_182 0 = some (.aload_n 0, 1) := by decide +kernel
theorem i_182_1 : pm_at q_182 1 = some (.iload_n 1, 1) := by decide +kernel
theorem i_182_2 : pm_at q_182 2 = some (.invokevirtual 240, 3) := by decide +kernel
theorem i_182_5 : pm_at q_182 5 = some (.ifCond .eq 19, 3) := by decide +kernel
theorem i_182_8 : pm_at q_182 8 = some (.iload_n 2, 1) := by decide +kernel
theorem i_182_9 : pm_at q_182 9 = some (.invokestatic 228, 3) := by decide +kernel
theorem i_182_12 : pm_at q_182 12 = some (.ifCond .eq 12, 3) := by decide +kernel
theorem i_182_15 : pm_at q_182 15 = some (.aload_n 0, 1) := by decide +kernel
theorem i_182_16 : pm_at q_182 16 = some (.iload_n 1, 1) := by decide +kernel
theorem i_182_17 : pm_at q_182 17 = some (.iload_n 2, 1) := by decide +kernel
theorem i_182_18 : pm_at q_182 18 = some (.invokevirtual 219, 3) := by decide +kernel
theorem i_182_21 : pm_at q_182 21 = some (.goto 7, 3) := by decide +kernel
theorem i_182_24 : pm_at q_182 24 = some (.aload_n 0, 1) := by decide +kernel
theorem i_182_25 : pm_at q_182 25 = some (.invokevirtual 119, 3) := by decide +kernel
theorem i_182_28 : pm_at q_182 28 = some (.ireturn, 1) := by decide +kernel
theorem i_183_0 : pm_at q_183 0 = some (.iload_n 1, 1) := by decide +kernel
theorem i_183_1 : pm_at q_183 1 = some (.invokestatic 228, 3) := by decide +kernel
theorem i_183_4 : pm_at q_183 4 = some (.ifCond .eq 11, 3) := by decide +kernel
theorem i_183_7 : pm_at q_183 7 = some (.aload_n 0, 1) := by decide +kernel
theorem i_183_8 : pm_at q_183 8 = some (.iload_n 1, 1) := by decide +kernel
theorem i_183_9 : pm_at q_183 9 = some (.invokevirtual 237, 3) := by decide +kernel
theorem i_183_12 : pm_at q_183 12 = some (.goto 7, 3) := by decide +kernel
theorem i_183_15 : pm_at q_183 15 = some (.aload_n 0, 1) := by decide +kernel
theorem i_183_16 : pm_at q_183 16 = some (.invokevirtual 119, 3) := by decide +kernel
theorem i_183_19 : pm_at q_183 19 = some (.ireturn, 1) := by decide +kernel
theorem i_184_0 : pm_at q_184 0 = some (.aload_n 0, 1) := by decide +kernel
theorem i_184_1 : pm_at q_184 1 = some (.iload_n 1, 1) := by decide +kernel
theorem i_184_2 : pm_at q_184 2 = some (.invokevirtual 240, 3) := by decide +kernel
theorem i_184_5 : pm_at q_184 5 = some (.ifCond .ne 8, 3) := by decide +kernel
theorem i_184_8 : pm_at q_184 8 = some (.aload_n 0, 1) := by decide +kernel
theorem i_184_9 : pm_at q_184 9 = some (.invokevirtual 119, 3) := by decide +kernel
theorem i_184_12 : pm_at q_184 12 = some (.ireturn, 1) := by decide +kernel
theorem i_184_13 : pm_at q_184 13 = some (.iconst 0, 1) := by decide +kernel
theorem i_184_14 : pm_at q_184 14 = some (.istore_n 2, 1) := by decide +kernel
theorem i_184_15 : pm_at q_184 15 = some (.iload_n 2, 1) := by decide +kernel
theorem i_184_16 : pm_at q_184 16 = some (.bipush 12, 2) := by decide +kernel
theorem i_184_18 : pm_at q_184 18 = some (.if_icmp .gt 21, 3) := by decide +kernel
theorem i_184_21 : pm_at q_184 21 = some (.aload_n 0, 1) := by decide +kernel
theorem i_184_22 : pm_at q_184 22 = some (.iload_n 2, 1) := by decide +kernel
theorem i_184_23 : pm_at q_184 23 = some (.invokevirtual 237, 3) := by decide +kernel
theorem i_184_26 : pm_at q_184 26 = some (.iload_n 1, 1) := by decide +kernel
theorem i_184_27 : pm_at q_184 27 = some (.invokestatic 208, 3) := by decide +kernel
theorem i_184_30 : pm_at q_184 30 = some (.ifCond .ne 9, 3) := by decide +kernel
theorem i_184_33 : pm_at q_184 33 = some (.iinc 2 1, 3) := by decide +kernel
theorem i_184_36 : pm_at q_184 36 = some (.goto (-21), 3) := by decide +kernel
theorem i_184_39 : pm_at q_184 39 = some (.iload_n 2, 1) := by decide +kernel
theorem i_184_40 : pm_at q_184 40 = some (.bipush 12, 2) := by decide +kernel
theorem i_184_42 : pm_at q_184 42 = some (.if_icmp .gt 7, 3) := by decide +kernel
theorem i_184_45 : pm_at q_184 45 = some (.iload_n 2, 1) := by decide +kernel
theorem i_184_46 : pm_at q_184 46 = some (.goto 4, 3) := by decide +kernel
theorem i_184_49 : pm_at q_184 49 = some (.iconst (-1), 1) := by decide +kernel
theorem i_184_50 : pm_at q_184 50 = some (.ireturn, 1) := by decide +kernel
theorem i_185_0 : pm_at q_185 0 = some (.iload_n 1, 1) := by decide +kernel
theorem i_185_1 : pm_at q_185 1 = some (.iconst 0, 1) := by decide +kernel
theorem i_185_2 : pm_at q_185 2 = some (.iconst 1, 1) := by decide +kernel
theorem i_185_3 : pm_at q_185 3 = some (.invokestatic 115, 3) := by decide +kernel
theorem i_185_6 : pm_at q_185 6 = some (.ifCond .ne 8, 3) := by decide +kernel
theorem i_185_9 : pm_at q_185 9 = some (.aload_n 0, 1) := by decide +kernel
theorem i_185_10 : pm_at q_185 10 = some (.invokevirtual 119, 3) := by decide +kernel
theorem i_185_13 : pm_at q_185 13 = some (.ireturn, 1) := by decide +kernel
theorem i_185_14 : pm_at q_185 14 = some (.iconst 0, 1) := by decide +kernel
theorem i_185_15 : pm_at q_185 15 = some (.istore_n 2, 1) := by decide +kernel
theorem i_185_16 : pm_at q_185 16 = some (.iconst (-1), 1) := by decide +kernel
theorem i_185_17 : pm_at q_185 17 = some (.istore_n 3, 1) := by decide +kernel
theorem i_185_18 : pm_at q_185 18 = some (.iconst 0, 1) := by decide +kernel
theorem i_185_19 : pm_at q_185 19 = some (.istore 4, 2) := by decide +kernel
theorem i_185_21 : pm_at q_185 21 = some (.iload 4, 2) := by decide +kernel
theorem i_185_23 : pm_at q_185 23 = some (.bipush 12, 2) := by decide +kernel
theorem i_185_25 : pm_at q_185 25 = some (.if_icmp .gt 40, 3) := by decide +kernel
theorem i_185_28 : pm_at q_185 28 = some (.aload_n 0, 1) := by decide +kernel
theorem i_185_29 : pm_at q_185 29 = some (.iload 4, 2) := by decide +kernel
theorem i_185_31 : pm_at q_185 31 = some (.invokevirtual 237, 3) := by decide +kernel
theorem i_185_34 : pm_at q_185 34 = some (.invokestatic 249, 3) := by decide +kernel
theorem i_185_37 : pm_at q_185 37 = some (.istore 5, 2) := by decide +kernel
theorem i_185_39 : pm_at q_185 39 = some (.iload 5, 2) := by decide +kernel
theorem i_185_41 : pm_at q_185 41 = some (.iload_n 3, 1) := by decide +kernel
theorem i_185_42 : pm_at q_185 42 = some (.if_icmp .le 8, 3) := by decide +kernel
theorem i_185_45 : pm_at q_185 45 = some (.iload 4, 2) := by decide +kernel
theorem i_185_47 : pm_at q_185 47 = some (.goto 4, 3) := by decide +kernel
theorem i_185_50 : pm_at q_185 50 = some (.iload_n 2, 1) := by decide +kernel
theorem i_185_51 : pm_at q_185 51 = some (.istore_n 2, 1) := by decide +kernel
theorem i_185_52 : pm_at q_185 52 = some (.iload_n 3, 1) := by decide +kernel
theorem i_185_53 : pm_at q_185 53 = some (.iload 5, 2) := by decide +kernel
theorem i_185_55 : pm_at q_185 55 = some (.invokestatic 252, 3) := by decide +kernel
theorem i_185_58 : pm_at q_185 58 = some (.istore_n 3, 1) := by decide +kernel
theorem i_185_59 : pm_at q_185 59 = some (.iinc 4 1, 3) := by decide +kernel
theorem i_185_62 : pm_at q_185 62 = some (.goto (-41), 3) := by decide +kernel
theorem i_185_65 : pm_at q_185 65 = some (.iload_n 1, 1) := by decide +kernel
theorem i_185_66 : pm_at q_185 66 = some (.ifCond .ne 7, 3) := by decide +kernel
theorem i_185_69 : pm_at q_185 69 = some (.iload_n 2, 1) := by decide +kernel
theorem i_185_70 : pm_at q_185 70 = some (.goto 4, 3) := by decide +kernel
theorem i_185_73 : pm_at q_185 73 = some (.iload_n 3, 1) := by decide +kernel
theorem i_185_74 : pm_at q_185 74 = some (.ireturn, 1) := by decide +kernel
theorem i_186_0 : pm_at q_186 0 = some (.iconst 0, 1) := by decide +kernel
theorem i_186_1 : pm_at q_186 1 = some (.istore_n 2, 1) := by decide +kernel
theorem i_186_2 : pm_at q_186 2 = some (.iload_n 1, 1) := by decide +kernel
theorem i_186_3 : pm_at q_186 3 = some (.istore_n 3, 1) := by decide +kernel
theorem i_186_4 : pm_at q_186 4 = some (.iload_n 3, 1) := by decide +kernel
theorem i_186_5 : pm_at q_186 5 = some (.iconst (-1), 1) := by decide +kernel
theorem i_186_6 : pm_at q_186 6 = some (.if_icmp .eq 21, 3) := by decide +kernel
theorem i_186_9 : pm_at q_186 9 = some (.iload_n 2, 1) := by decide +kernel
theorem i_186_10 : pm_at q_186 10 = some (.aload_n 0, 1) := by decide +kernel
theorem i_186_11 : pm_at q_186 11 = some (.iload_n 3, 1) := by decide +kernel
theorem i_186_12 : pm_at q_186 12 = some (.invokevirtual 246, 3) := by decide +kernel
theorem i_186_15 : pm_at q_186 15 = some (.iadd, 1) := by decide +kernel
theorem i_186_16 : pm_at q_186 16 = some (.istore_n 2, 1) := by decide +kernel
theorem i_186_17 : pm_at q_186 17 = some (.aload_n 0, 1) := by decide +kernel
theorem i_186_18 : pm_at q_186 18 = some (.getfield 25, 3) := by decide +kernel
theorem i_186_21 : pm_at q_186 21 = some (.iload_n 3, 1) := by decide +kernel
theorem i_186_22 : pm_at q_186 22 = some (.iaload, 1) := by decide +kernel
theorem i_186_23 : pm_at q_186 23 = some (.istore_n 3, 1) := by decide +kernel
theorem i_186_24 : pm_at q_186 24 = some (.goto (-20), 3) := by decide +kernel
theorem i_186_27 : pm_at q_186 27 = some (.iload_n 2, 1) := by decide +kernel
theorem i_186_28 : pm_at q_186 28 = some (.ireturn, 1) := by decide +kernel
theorem i_187_0 : pm_at q_187 0 = some (.iload_n 1, 1) := by decide +kernel
theorem i_187_1 : pm_at q_187 1 = some (.iconst 0, 1) := by decide +kernel
theorem i_187_2 : pm_at q_187 2 = some (.iconst 1, 1) := by decide +kernel
theorem i_187_3 : pm_at q_187 3 = some (.invokestatic 115, 3) := by decide +kernel
theorem i_187_6 : pm_at q_187 6 = some (.ifCond .ne 8, 3) := by decide +kernel
theorem i_187_9 : pm_at q_187 9 = some (.aload_n 0, 1) := by decide +kernel
theorem i_187_10 : pm_at q_187 10 = some (.invokevirtual 119, 3) := by decide +kernel
theorem i_187_13 : pm_at q_187 13 = some (.ireturn, 1) := by decide +kernel
theorem i_187_14 : pm_at q_187 14 = some (.iconst 0, 1) := by decide +kernel
theorem i_187_15 : pm_at q_187 15 = some (.istore_n 2, 1) := by decide +kernel
theorem i_187_16 : pm_at q_187 16 = some (.bipush 6, 2) := by decide +kernel
theorem i_187_18 : pm_at q_187 18 = some (.istore_n 3, 1) := by decide +kernel
theorem i_187_19 : pm_at q_187 19 = some (.iconst 0, 1) := by decide +kernel
theorem i_187_20 : pm_at q_187 20 = some (.istore 4, 2) := by decide +kernel
theorem i_187_22 : pm_at q_187 22 = some (.iload 4, 2) := by decide +kernel
theorem i_187_24 : pm_at q_187 24 = some (.aload_n 0, 1) := by decide +kernel
theorem i_187_25 : pm_at q_187 25 = some (.getfield 96, 3) := by decide +kernel
theorem i_187_28 : pm_at q_187 28 = some (.if_icmp .ge 44, 3) := by decide +kernel
theorem i_187_31 : pm_at q_187 31 = some (.iload_n 2, 1) := by decide +kernel
theorem i_187_32 : pm_at q_187 32 = some (.aload_n 0, 1) := by decide +kernel
theorem i_187_33 : pm_at q_187 33 = some (.iload 4, 2) := by decide +kernel
theorem i_187_35 : pm_at q_187 35 = some (.invokevirtual 255, 3) := by decide +kernel
theorem i_187_38 : pm_at q_187 38 = some (.aload_n 0, 1) := by decide +kernel
theorem i_187_39 : pm_at q_187 39 = some (.getfield 103, 3) := by decide +kernel
theorem i_187_42 : pm_at q_187 42 = some (.if_icmp .le 10, 3) := by decide +kernel
theorem i_187_45 : pm_at q_187 45 = some (.iconst 1, 1) := by decide +kernel
theorem i_187_46 : pm_at q_187 46 = some (.iload 4, 2) := by decide +kernel
theorem i_187_48 : pm_at q_187 48 = some (.ishl, 1) := by decide +kernel
theorem i_187_49 : pm_at q_187 49 = some (.goto 4, 3) := by decide +kernel
theorem i_187_52 : pm_at q_187 52 = some (.iconst 0, 1) := by decide +kernel
theorem i_187_53 : pm_at q_187 53 = some (.ior, 1) := by decide +kernel
theorem i_187_54 : pm_at q_187 54 = some (.istore_n 2, 1) := by decide +kernel
theorem i_187_55 : pm_at q_187 55 = some (.iload_n 3, 1) := by decide +kernel
theorem i_187_56 : pm_at q_187 56 = some (.aload_n 0, 1) := by decide +kernel
theorem i_187_57 : pm_at q_187 57 = some (.iload 4, 2) := by decide +kernel
theorem i_187_59 : pm_at q_187 59 = some (.invokevirtual 255, 3) := by decide +kernel
theorem i_187_62 : pm_at q_187 62 = some (.invokestatic 252, 3) := by decide +kernel
theorem i_187_65 : pm_at q_187 65 = some (.istore_n 3, 1) := by decide +kernel
theorem i_187_66 : pm_at q_187 66 = some (.iinc 4 1, 3) := by decide +kernel
theorem i_187_69 : pm_at q_187 69 = some (.goto (-47), 3) := by decide +kernel
theorem i_187_72 : pm_at q_187 72 = some (.iload_n 1, 1) := by decide +kernel
theorem i_187_73 : pm_at q_187 73 = some (.ifCond .ne 7, 3) := by decide +kernel
theorem i_187_76 : pm_at q_187 76 = some (.iload_n 2, 1) := by decide +kernel
theorem i_187_77 : pm_at q_187 77 = some (.goto 14, 3) := by decide +kernel
theorem i_187_80 : pm_at q_187 80 = some (.iload_n 3, 1) := by decide +kernel
theorem i_187_81 : pm_at q_187 81 = some (.bipush 40, 2) := by decide +kernel
theorem i_187_83 : pm_at q_187 83 = some (.if_icmp .gt 7, 3) := by decide +kernel
theorem i_187_86 : pm_at q_187 86 = some (.iload_n 3, 1) := by decide +kernel
theorem i_187_87 : pm_at q_187 87 = some (.goto 4, 3) := by decide +kernel
theorem i_187_90 : pm_at q_187 90 = some (.iconst (-1), 1) := by decide +kernel
theorem i_187_91 : pm_at q_187 91 = some (.ireturn, 1) := by decide +kernel
theorem i_188_0 : pm_at q_188 0 = some (.iconst 0, 1) := by decide +kernel
theorem i_188_1 : pm_at q_188 1 = some (.istore_n 1, 1) := by decide +kernel
theorem i_188_2 : pm_at q_188 2 = some (.iload_n 1, 1) := by decide +kernel
theorem i_188_3 : pm_at q_188 3 = some (.bipush 12, 2) := by decide +kernel
theorem i_188_5 : pm_at q_188 5 = some (.if_icmp .gt 20, 3) := by decide +kernel
theorem i_188_8 : pm_at q_188 8 = some (.aload_n 0, 1) := by decide +kernel
theorem i_188_9 : pm_at q_188 9 = some (.getfield 64, 3) := by decide +kernel
theorem i_188_12 : pm_at q_188 12 = some (.iload_n 1, 1) := by decide +kernel
theorem i_188_13 : pm_at q_188 13 = some (.aload_n 0, 1) := by decide +kernel
theorem i_188_14 : pm_at q_188 14 = some (.iload_n 1, 1) := by decide +kernel
theorem i_188_15 : pm_at q_188 15 = some (.invokevirtual 237, 3) := by decide +kernel
theorem i_188_18 : pm_at q_188 18 = some (.iastore, 1) := by decide +kernel
theorem i_188_19 : pm_at q_188 19 = some (.iinc 1 1, 3) := by decide +kernel
theorem i_188_22 : pm_at q_188 22 = some (.goto (-20), 3) := by decide +kernel
theorem i_188_25 : pm_at q_188 25 = some (.return_, 1) := by decide +kernel
theorem i_189_0 : pm_at q_189 0 = some (.iconst 0, 1) := by decide +kernel
theorem i_189_1 : pm_at q_189 1 = some (.istore 4, 2) := by decide +kernel
theorem i_189_3 : pm_at q_189 3 = some (.iload_n 2, 1) := by decide +kernel
theorem i_189_4 : pm_at q_189 4 = some (.istore 5, 2) := by decide +kernel
theorem i_189_6 : pm_at q_189 6 = some (.iload 5, 2) := by decide +kernel
theorem i_189_8 : pm_at q_189 8 = some (.iload_n 3, 1) := by decide +kernel
theorem i_189_9 : pm_at q_189 9 = some (.if_icmp .gt 21, 3) := by decide +kernel
theorem i_189_12 : pm_at q_189 12 = some (.iload 4, 2) := by decide +kernel
theorem i_189_14 : pm_at q_189 14 = some (.aload_n 0, 1) := by decide +kernel
theorem i_189_15 : pm_at q_189 15 = some (.getfield 64, 3) := by decide +kernel
theorem i_189_18 : pm_at q_189 18 = some (.iload 5, 2) := by decide +kernel
theorem i_189_20 : pm_at q_189 20 = some (.iaload, 1) := by decide +kernel
theorem i_189_21 : pm_at q_189 21 = some (.ior, 1) := by decide +kernel
theorem i_189_22 : pm_at q_189 22 = some (.istore 4, 2) := by decide +kernel
theorem i_189_24 : pm_at q_189 24 = some (.iinc 5 1, 3) := by decide +kernel
theorem i_189_27 : pm_at q_189 27 = some (.goto (-21), 3) := by decide +kernel
theorem i_189_30 : pm_at q_189 30 = some (.iload_n 1, 1) := by decide +kernel
theorem i_189_31 : pm_at q_189 31 = some (.iload 4, 2) := by decide +kernel
theorem i_189_33 : pm_at q_189 33 = some (.iconst (-1), 1) := by decide +kernel
theorem i_189_34 : pm_at q_189 34 = some (.ixor, 1) := by decide +kernel
theorem i_189_35 : pm_at q_189 35 = some (.iand, 1) := by decide +kernel
theorem i_189_36 : pm_at q_189 36 = some (.ifCond .ne 7, 3) := by decide +kernel
theorem i_189_39 : pm_at q_189 39 = some (.iconst 1, 1) := by decide +kernel
theorem i_189_40 : pm_at q_189 40 = some (.goto 4, 3) := by decide +kernel
theorem i_189_43 : pm_at q_189 43 = some (.iconst 0, 1) := by decide +kernel
theorem i_189_44 : pm_at q_189 44 = some (.ireturn, 1) := by decide +kernel
theorem i_190_0 : pm_at q_190 0 = some (.aload_n 0, 1) := by decide +kernel
theorem i_190_1 : pm_at q_190 1 = some (.getfield 67, 3) := by decide +kernel
theorem i_190_4 : pm_at q_190 4 = some (.aload_n 0, 1) := by decide +kernel
theorem i_190_5 : pm_at q_190 5 = some (.getfield 258, 3) := by decide +kernel
theorem i_190_8 : pm_at q_190 8 = some (.iaload, 1) := by decide +kernel
theorem i_190_9 : pm_at q_190 9 = some (.iload_n 1, 1) := by decide +kernel
theorem i_190_10 : pm_at q_190 10 = some (.if_icmp .eq 55, 3) := by decide +kernel
theorem i_190_13 : pm_at q_190 13 = some (.aload_n 0, 1) := by decide +kernel
theorem i_190_14 : pm_at q_190 14 = some (.getfield 67, 3) := by decide +kernel
theorem i_190_17 : pm_at q_190 17 = some (.aload_n 0, 1) := by decide +kernel
theorem i_190_18 : pm_at q_190 18 = some (.getfield 258, 3) := by decide +kernel
theorem i_190_21 : pm_at q_190 21 = some (.iconst 1, 1) := by decide +kernel
theorem i_190_22 : pm_at q_190 22 = some (.iadd, 1) := by decide +kernel
theorem i_190_23 : pm_at q_190 23 = some (.aload_n 0, 1) := by decide +kernel
theorem i_190_24 : pm_at q_190 24 = some (.getfield 67, 3) := by decide +kernel
theorem i_190_27 : pm_at q_190 27 = some (.aload_n 0, 1) := by decide +kernel
theorem i_190_28 : pm_at q_190 28 = some (.getfield 258, 3) := by decide +kernel
theorem i_190_31 : pm_at q_190 31 = some (.iaload, 1) := by decide +kernel
theorem i_190_32 : pm_at q_190 32 = some (.iload_n 1, 1) := by decide +kernel
theorem i_190_33 : pm_at q_190 33 = some (.aload_n 0, 1) := by decide +kernel
theorem i_190_34 : pm_at q_190 34 = some (.getfield 67, 3) := by decide +kernel
theorem i_190_37 : pm_at q_190 37 = some (.aload_n 0, 1) := by decide +kernel
theorem i_190_38 : pm_at q_190 38 = some (.getfield 258, 3) := by decide +kernel
theorem i_190_41 : pm_at q_190 41 = some (.iaload, 1) := by decide +kernel
theorem i_190_42 : pm_at q_190 42 = some (.if_icmp .le 7, 3) := by decide +kernel
theorem i_190_45 : pm_at q_190 45 = some (.iconst 1, 1) := by decide +kernel
theorem i_190_46 : pm_at q_190 46 = some (.goto 4, 3) := by decide +kernel
theorem i_190_49 : pm_at q_190 49 = some (.iconst (-1), 1) := by decide +kernel
theorem i_190_50 : pm_at q_190 50 = some (.iadd, 1) := by decide +kernel
theorem i_190_51 : pm_at q_190 51 = some (.iastore, 1) := by decide +kernel
theorem i_190_52 : pm_at q_190 52 = some (.aload_n 0, 1) := by decide +kernel
theorem i_190_53 : pm_at q_190 53 = some (.dup, 1) := by decide +kernel
theorem i_190_54 : pm_at q_190 54 = some (.getfield 258, 3) := by decide +kernel
theorem i_190_57 : pm_at q_190 57 = some (.iconst 1, 1) := by decide +kernel
theorem i_190_58 : pm_at q_190 58 = some (.iadd, 1) := by decide +kernel
theorem i_190_59 : pm_at q_190 59 = some (.putfield 258, 3) := by decide +kernel
theorem i_190_62 : pm_at q_190 62 = some (.goto (-62), 3) := by decide +kernel
theorem i_190_65 : pm_at q_190 65 = some (.return_, 1) := by decide +kernel
theorem i_191_0 : pm_at q_191 0 = some (.aload_n 0, 1) := by decide +kernel
theorem i_191_1 : pm_at q_191 1 = some (.iconst 0, 1) := by decide +kernel
theorem i_191_2 : pm_at q_191 2 = some (.putfield 258, 3) := by decide +kernel
theorem i_191_5 : pm_at q_191 5 = some (.aload_n 0, 1) := by decide +kernel
theorem i_191_6 : pm_at q_191 6 = some (.getfield 67, 3) := by decide +kernel
theorem i_191_9 : pm_at q_191 9 = some (.iconst 0, 1) := by decide +kernel
theorem i_191_10 : pm_at q_191 10 = some (.aload_n 0, 1) := by decide +kernel
theorem i_191_11 : pm_at q_191 11 = some (.getfield 100, 3) := by decide +kernel
theorem i_191_14 : pm_at q_191 14 = some (.iastore, 1) := by decide +kernel
theorem i_191_15 : pm_at q_191 15 = some (.aload_n 0, 1) := by decide +kernel
theorem i_191_16 : pm_at q_191 16 = some (.iload_n 1, 1) := by decide +kernel
theorem i_191_17 : pm_at q_191 17 = some (.invokevirtual 261, 3) := by decide +kernel
theorem i_191_20 : pm_at q_191 20 = some (.aload_n 0, 1) := by decide +kernel
theorem i_191_21 : pm_at q_191 21 = some (.iload_n 2, 1) := by decide +kernel
theorem i_191_22 : pm_at q_191 22 = some (.invokevirtual 261, 3) := by decide +kernel
theorem i_191_25 : pm_at q_191 25 = some (.return_, 1) := by decide +kernel
theorem i_192_0 : pm_at q_192 0 = some (.aload_n 0, 1) := by decide +kernel
theorem i_192_1 : pm_at q_192 1 = some (.getfield 258, 3) := by decide +kernel
theorem i_192_4 : pm_at q_192 4 = some (.iload_n 1, 1) := by decide +kernel
theorem i_192_5 : pm_at q_192 5 = some (.if_icmp .eq 17, 3) := by decide +kernel
theorem i_192_8 : pm_at q_192 8 = some (.aload_n 0, 1) := by decide +kernel
theorem i_192_9 : pm_at q_192 9 = some (.getfield 258, 3) := by decide +kernel
theorem i_192_12 : pm_at q_192 12 = some (.iload_n 1, 1) := by decide +kernel
theorem i_192_13 : pm_at q_192 13 = some (.if_icmp .ge 7, 3) := by decide +kernel
theorem i_192_16 : pm_at q_192 16 = some (.iconst 1, 1) := by decide +kernel
theorem i_192_17 : pm_at q_192 17 = some (.goto 4, 3) := by decide +kernel
theorem i_192_20 : pm_at q_192 20 = some (.iconst 0, 1) := by decide +kernel
theorem i_192_21 : pm_at q_192 21 = some (.ireturn, 1) := by decide +kernel
theorem i_192_22 : pm_at q_192 22 = some (.iconst 0, 1) := by decide +kernel
theorem i_192_23 : pm_at q_192 23 = some (.istore_n 2, 1) := by decide +kernel
theorem i_192_24 : pm_at q_192 24 = some (.iload_n 2, 1) := by decide +kernel
theorem i_192_25 : pm_at q_192 25 = some (.aload_n 0, 1) := by decide +kernel
theorem i_192_26 : pm_at q_192 26 = some (.getfield 258, 3) := by decide +kernel
theorem i_192_29 : pm_at q_192 29 = some (.if_icmp .ge 24, 3) := by decide +kernel
theorem i_192_32 : pm_at q_192 32 = some (.aload_n 0, 1) := by decide +kernel
theorem i_192_33 : pm_at q_192 33 = some (.getfield 67, 3) := by decide +kernel
theorem i_192_36 : pm_at q_192 36 = some (.iload_n 2, 1) := by decide +kernel
theorem i_192_37 : pm_at q_192 37 = some (.iaload, 1) := by decide +kernel
theorem i_192_38 : pm_at q_192 38 = some (.aload_n 0, 1) := by decide +kernel
theorem i_192_39 : pm_at q_192 39 = some (.getfield 70, 3) := by decide +kernel
theorem i_192_42 : pm_at q_192 42 = some (.iload_n 2, 1) := by decide +kernel
theorem i_192_43 : pm_at q_192 43 = some (.iaload, 1) := by decide +kernel
theorem i_192_44 : pm_at q_192 44 = some (.if_icmp .ne 9, 3) := by decide +kernel
theorem i_192_47 : pm_at q_192 47 = some (.iinc 2 1, 3) := by decide +kernel
theorem i_192_50 : pm_at q_192 50 = some (.goto (-26), 3) := by decide +kernel
theorem i_192_53 : pm_at q_192 53 = some (.iload_n 2, 1) := by decide +kernel
theorem i_192_54 : pm_at q_192 54 = some (.aload_n 0, 1) := by decide +kernel
theorem i_192_55 : pm_at q_192 55 = some (.getfield 258, 3) := by decide +kernel
theorem i_192_58 : pm_at q_192 58 = some (.if_icmp .ge 22, 3) := by decide +kernel
theorem i_192_61 : pm_at q_192 61 = some (.aload_n 0, 1) := by decide +kernel
theorem i_192_62 : pm_at q_192 62 = some (.getfield 67, 3) := by decide +kernel
theorem i_192_65 : pm_at q_192 65 = some (.iload_n 2, 1) := by decide +kernel
theorem i_192_66 : pm_at q_192 66 = some (.iaload, 1) := by decide +kernel
theorem i_192_67 : pm_at q_192 67 = some (.aload_n 0, 1) := by decide +kernel
theorem i_192_68 : pm_at q_192 68 = some (.getfield 70, 3) := by decide +kernel
theorem i_192_71 : pm_at q_192 71 = some (.iload_n 2, 1) := by decide +kernel
theorem i_192_72 : pm_at q_192 72 = some (.iaload, 1) := by decide +kernel
theorem i_192_73 : pm_at q_192 73 = some (.if_icmp .ge 7, 3) := by decide +kernel
theorem i_192_76 : pm_at q_192 76 = some (.iconst 1, 1) := by decide +kernel
theorem i_192_77 : pm_at q_192 77 = some (.goto 4, 3) := by decide +kernel
theorem i_192_80 : pm_at q_192 80 = some (.iconst 0, 1) := by decide +kernel
theorem i_192_81 : pm_at q_192 81 = some (.ireturn, 1) := by decide +kernel
theorem i_193_0 : pm_at q_193 0 = some (.aload_n 0, 1) := by decide +kernel
theorem i_193_1 : pm_at q_193 1 = some (.iload_n 1, 1) := by decide +kernel
theorem i_193_2 : pm_at q_193 2 = some (.invokevirtual 264, 3) := by decide +kernel
theorem i_193_5 : pm_at q_193 5 = some (.ifCond .eq 8, 3) := by decide +kernel
theorem i_193_8 : pm_at q_193 8 = some (.iload_n 2, 1) := by decide +kernel
theorem i_193_9 : pm_at q_193 9 = some (.iconst (-1), 1) := by decide +kernel
theorem i_193_10 : pm_at q_193 10 = some (.if_icmp .ge 8, 3) := by decide +kernel
theorem i_193_13 : pm_at q_193 13 = some (.aload_n 0, 1) := by decide +kernel
theorem i_193_14 : pm_at q_193 14 = some (.invokevirtual 267, 3) := by decide +kernel
theorem i_193_17 : pm_at q_193 17 = some (.ireturn, 1) := by decide +kernel
theorem i_193_18 : pm_at q_193 18 = some (.aload_n 0, 1) := by decide +kernel
theorem i_193_19 : pm_at q_193 19 = some (.invokevirtual 270, 3) := by decide +kernel
theorem i_193_22 : pm_at q_193 22 = some (.ldc_w 273, 3) := by decide +kernel
theorem i_193_25 : pm_at q_193 25 = some (.istore_n 3, 1) := by decide +kernel
theorem i_193_26 : pm_at q_193 26 = some (.iconst 0, 1) := by decide +kernel
theorem i_193_27 : pm_at q_193 27 = some (.istore 4, 2) := by decide +kernel
theorem i_193_29 : pm_at q_193 29 = some (.iload 4, 2) := by decide +kernel
theorem i_193_31 : pm_at q_193 31 = some (.aload_n 0, 1) := by decide +kernel
theorem i_193_32 : pm_at q_193 32 = some (.getfield 100, 3) := by decide +kernel
theorem i_193_35 : pm_at q_193 35 = some (.if_icmp .gt 128, 3) := by decide +kernel
theorem i_193_38 : pm_at q_193 38 = some (.aload_n 0, 1) := by decide +kernel
theorem i_193_39 : pm_at q_193 39 = some (.getfield 100, 3) := by decide +kernel
theorem i_193_42 : pm_at q_193 42 = some (.istore 5, 2) := by decide +kernel
theorem i_193_44 : pm_at q_193 44 = some (.iload 5, 2) := by decide +kernel
theorem i_193_46 : pm_at q_193 46 = some (.bipush 12, 2) := by decide +kernel
theorem i_193_48 : pm_at q_193 48 = some (.if_icmp .gt 109, 3) := by decide +kernel
theorem i_193_51 : pm_at q_193 51 = some (.iconst 0, 1) := by decide +kernel
theorem i_193_52 : pm_at q_193 52 = some (.istore 6, 2) := by decide +kernel
theorem i_193_54 : pm_at q_193 54 = some (.iload 6, 2) := by decide +kernel
theorem i_193_56 : pm_at q_193 56 = some (.iconst 2, 1) := by decide +kernel
theorem i_193_57 : pm_at q_193 57 = some (.if_icmp .ge 94, 3) := by decide +kernel
theorem i_193_60 : pm_at q_193 60 = some (.aload_n 0, 1) := by decide +kernel
theorem i_193_61 : pm_at q_193 61 = some (.iload_n 1, 1) := by decide +kernel
theorem i_193_62 : pm_at q_193 62 = some (.iload 4, 2) := by decide +kernel
theorem i_193_64 : pm_at q_193 64 = some (.iload 5, 2) := by decide +kernel
theorem i_193_66 : pm_at q_193 66 = some (.invokevirtual 274, 3) := by decide +kernel
theorem i_193_69 : pm_at q_193 69 = some (.ifCond .eq 82, 3) := by decide +kernel
theorem i_193_72 : pm_at q_193 72 = some (.aload_n 0, 1) := by decide +kernel
theorem i_193_73 : pm_at q_193 73 = some (.iload 6, 2) := by decide +kernel
theorem i_193_75 : pm_at q_193 75 = some (.ifCond .ne 8, 3) := by decide +kernel
theorem i_193_78 : pm_at q_193 78 = some (.iload 4, 2) := by decide +kernel
theorem i_193_80 : pm_at q_193 80 = some (.goto 5, 3) := by decide +kernel
theorem i_193_83 : pm_at q_193 83 = some (.iload 5, 2) := by decide +kernel
theorem i_193_85 : pm_at q_193 85 = some (.iload 6, 2) := by decide +kernel
theorem i_193_87 : pm_at q_193 87 = some (.ifCond .ne 8, 3) := by decide +kernel
theorem i_193_90 : pm_at q_193 90 = some (.iload 5, 2) := by decide +kernel
theorem i_193_92 : pm_at q_193 92 = some (.goto 5, 3) := by decide +kernel
theorem i_193_95 : pm_at q_193 95 = some (.iload 4, 2) := by decide +kernel
theorem i_193_97 : pm_at q_193 97 = some (.invokevirtual 277, 3) := by decide +kernel
theorem i_193_100 : pm_at q_193 100 = some (.aload_n 0, 1) := by decide +kernel
theorem i_193_101 : pm_at q_193 101 = some (.iload_n 3, 1) := by decide +kernel
theorem i_193_102 : pm_at q_193 102 = some (.invokevirtual 281, 3) := by decide +kernel
theorem i_193_105 : pm_at q_193 105 = some (.ifCond .eq 40, 3) := by decide +kernel
theorem i_193_108 : pm_at q_193 108 = some (.aload_n 0, 1) := by decide +kernel
theorem i_193_109 : pm_at q_193 109 = some (.getfield 258, 3) := by decide +kernel
theorem i_193_112 : pm_at q_193 112 = some (.istore_n 3, 1) := by decide +kernel
theorem i_193_113 : pm_at q_193 113 = some (.iconst 0, 1) := by decide +kernel
theorem i_193_114 : pm_at q_193 114 = some (.istore 7, 2) := by decide +kernel
theorem i_193_116 : pm_at q_193 116 = some (.iload 7, 2) := by decide +kernel
theorem i_193_118 : pm_at q_193 118 = some (.aload_n 0, 1) := by decide +kernel
theorem i_193_119 : pm_at q_193 119 = some (.getfield 258, 3) := by decide +kernel
theorem i_193_122 : pm_at q_193 122 = some (.if_icmp .gt 23, 3) := by decide +kernel
theorem i_193_125 : pm_at q_193 125 = some (.aload_n 0, 1) := by decide +kernel
theorem i_193_126 : pm_at q_193 126 = some (.getfield 70, 3) := by decide +kernel
theorem i_193_129 : pm_at q_193 129 = some (.iload 7, 2) := by decide +kernel
theorem i_193_131 : pm_at q_193 131 = some (.aload_n 0, 1) := by decide +kernel
theorem i_193_132 : pm_at q_193 132 = some (.getfield 67, 3) := by decide +kernel
theorem i_193_135 : pm_at q_193 135 = some (.iload 7, 2) := by decide +kernel
theorem i_193_137 : pm_at q_193 137 = some (.iaload, 1) := by decide +kernel
theorem i_193_138 : pm_at q_193 138 = some (.iastore, 1) := by decide +kernel
theorem i_193_139 : pm_at q_193 139 = some (.iinc 7 1, 3) := by decide +kernel
theorem i_193_142 : pm_at q_193 142 = some (.goto (-26), 3) := by decide +kernel
theorem i_193_145 : pm_at q_193 145 = some (.iinc 6 1, 3) := by decide +kernel
theorem i_193_148 : pm_at q_193 148 = some (.goto (-94), 3) := by decide +kernel
theorem i_193_151 : pm_at q_193 151 = some (.iinc 5 1, 3) := by decide +kernel
theorem i_193_154 : pm_at q_193 154 = some (.goto (-110), 3) := by decide +kernel
theorem i_193_157 : pm_at q_193 157 = some (.iinc 4 1, 3) := by decide +kernel
theorem i_193_160 : pm_at q_193 160 = some (.goto (-131), 3) := by decide +kernel
theorem i_193_163 : pm_at q_193 163 = some (.iload_n 3, 1) := by decide +kernel
theorem i_193_164 : pm_at q_193 164 = some (.ldc_w 273, 3) := by decide +kernel
theorem i_193_167 : pm_at q_193 167 = some (.if_icmp .ne 5, 3) := by decide +kernel
theorem i_193_170 : pm_at q_193 170 = some (.iconst (-1), 1) := by decide +kernel
theorem i_193_171 : pm_at q_193 171 = some (.ireturn, 1) := by decide +kernel
theorem i_193_172 : pm_at q_193 172 = some (.iload_n 2, 1) := by decide +kernel
theorem i_193_173 : pm_at q_193 173 = some (.iconst (-1), 1) := by decide +kernel
theorem i_193_174 : pm_at q_193 174 = some (.if_icmp .ne 7, 3) := by decide +kernel
theorem i_193_177 : pm_at q_193 177 = some (.iload_n 3, 1) := by decide +kernel
theorem i_193_178 : pm_at q_193 178 = some (.goto 19, 3) := by decide +kernel
theorem i_193_181 : pm_at q_193 181 = some (.iload_n 2, 1) := by decide +kernel
theorem i_193_182 : pm_at q_193 182 = some (.iload_n 3, 1) := by decide +kernel
theorem i_193_183 : pm_at q_193 183 = some (.if_icmp .gt 12, 3) := by decide +kernel
theorem i_193_186 : pm_at q_193 186 = some (.aload_n 0, 1) := by decide +kernel
theorem i_193_187 : pm_at q_193 187 = some (.getfield 70, 3) := by decide +kernel
theorem i_193_190 : pm_at q_193 190 = some (.iload_n 2, 1) := by decide +kernel
theorem i_193_191 : pm_at q_193 191 = some (.iaload, 1) := by decide +kernel
theorem i_193_192 : pm_at q_193 192 = some (.goto 5, 3) := by decide +kernel
theorem i_193_195 : pm_at q_193 195 = some (.bipush (-5), 2) := by decide +kernel
theorem i_193_197 : pm_at q_193 197 = some (.ireturn, 1) := by decide +kernel
theorem i_194_0 : pm_at q_194 0 = some (.aload_n 0, 1) := by decide +kernel
theorem i_194_1 : pm_at q_194 1 = some (.iload_n 1, 1) := by decide +kernel
theorem i_194_2 : pm_at q_194 2 = some (.invokevirtual 240, 3) := by decide +kernel
theorem i_194_5 : pm_at q_194 5 = some (.ifCond .eq 19, 3) := by decide +kernel
theorem i_194_8 : pm_at q_194 8 = some (.iload_n 2, 1) := by decide +kernel
theorem i_194_9 : pm_at q_194 9 = some (.invokestatic 228, 3) := by decide +kernel
theorem i_194_12 : pm_at q_194 12 = some (.ifCond .eq 12, 3) := by decide +kernel
theorem i_194_15 : pm_at q_194 15 = some (.iload_n 3, 1) := by decide +kernel
theorem i_194_16 : pm_at q_194 16 = some (.iconst 0, 1) := by decide +kernel
theorem i_194_17 : pm_at q_194 17 = some (.iconst 1, 1) := by decide +kernel
theorem i_194_18 : pm_at q_194 18 = some (.invokestatic 115, 3) := by decide +kernel
theorem i_194_21 : pm_at q_194 21 = some (.ifCond .ne 8, 3) := by decide +kernel
theorem i_194_24 : pm_at q_194 24 = some (.aload_n 0, 1) := by decide +kernel
theorem i_194_25 : pm_at q_194 25 = some (.invokevirtual 119, 3) := by decide +kernel
theorem i_194_28 : pm_at q_194 28 = some (.ireturn, 1) := by decide +kernel
theorem i_194_29 : pm_at q_194 29 = some (.aload_n 0, 1) := by decide +kernel
theorem i_194_30 : pm_at q_194 30 = some (.getfield 22, 3) := by decide +kernel
theorem i_194_33 : pm_at q_194 33 = some (.iload_n 1, 1) := by decide +kernel
theorem i_194_34 : pm_at q_194 34 = some (.iaload, 1) := by decide +kernel
theorem i_194_35 : pm_at q_194 35 = some (.istore 4, 2) := by decide +kernel
theorem i_194_37 : pm_at q_194 37 = some (.iconst 0, 1) := by decide +kernel
theorem i_194_38 : pm_at q_194 38 = some (.istore 5, 2) := by decide +kernel
theorem i_194_40 : pm_at q_194 40 = some (.iconst (-1), 1) := by decide +kernel
theorem i_194_41 : pm_at q_194 41 = some (.istore 6, 2) := by decide +kernel
theorem i_194_43 : pm_at q_194 43 = some (.iconst 0, 1) := by decide +kernel
theorem i_194_44 : pm_at q_194 44 = some (.istore 7, 2) := by decide +kernel
theorem i_194_46 : pm_at q_194 46 = some (.iload 7, 2) := by decide +kernel
theorem i_194_48 : pm_at q_194 48 = some (.bipush 9, 2) := by decide +kernel
theorem i_194_50 : pm_at q_194 50 = some (.if_icmp .gt 52, 3) := by decide +kernel
theorem i_194_53 : pm_at q_194 53 = some (.aload_n 0, 1) := by decide +kernel
theorem i_194_54 : pm_at q_194 54 = some (.getfield 22, 3) := by decide +kernel
theorem i_194_57 : pm_at q_194 57 = some (.iload_n 1, 1) := by decide +kernel
theorem i_194_58 : pm_at q_194 58 = some (.iload 7, 2) := by decide +kernel
theorem i_194_60 : pm_at q_194 60 = some (.iastore, 1) := by decide +kernel
theorem i_194_61 : pm_at q_194 61 = some (.aload_n 0, 1) := by decide +kernel
theorem i_194_62 : pm_at q_194 62 = some (.iload_n 2, 1) := by decide +kernel
theorem i_194_63 : pm_at q_194 63 = some (.invokevirtual 237, 3) := by decide +kernel
theorem i_194_66 : pm_at q_194 66 = some (.invokestatic 249, 3) := by decide +kernel
theorem i_194_69 : pm_at q_194 69 = some (.istore 8, 2) := by decide +kernel
theorem i_194_71 : pm_at q_194 71 = some (.iload 8, 2) := by decide +kernel
theorem i_194_73 : pm_at q_194 73 = some (.iload 6, 2) := by decide +kernel
theorem i_194_75 : pm_at q_194 75 = some (.if_icmp .le 8, 3) := by decide +kernel
theorem i_194_78 : pm_at q_194 78 = some (.iload 7, 2) := by decide +kernel
theorem i_194_80 : pm_at q_194 80 = some (.goto 5, 3) := by decide +kernel
theorem i_194_83 : pm_at q_194 83 = some (.iload 5, 2) := by decide +kernel
theorem i_194_85 : pm_at q_194 85 = some (.istore 5, 2) := by decide +kernel
theorem i_194_87 : pm_at q_194 87 = some (.iload 6, 2) := by decide +kernel
theorem i_194_89 : pm_at q_194 89 = some (.iload 8, 2) := by decide +kernel
theorem i_194_91 : pm_at q_194 91 = some (.invokestatic 252, 3) := by decide +kernel
theorem i_194_94 : pm_at q_194 94 = some (.istore 6, 2) := by decide +kernel
theorem i_194_96 : pm_at q_194 96 = some (.iinc 7 1, 3) := by decide +kernel
theorem i_194_99 : pm_at q_194 99 = some (.goto (-53), 3) := by decide +kernel
theorem i_194_102 : pm_at q_194 102 = some (.aload_n 0, 1) := by decide +kernel
theorem i_194_103 : pm_at q_194 103 = some (.getfield 22, 3) := by decide +kernel
theorem i_194_106 : pm_at q_194 106 = some (.iload_n 1, 1) := by decide +kernel
theorem i_194_107 : pm_at q_194 107 = some (.iload 4, 2) := by decide +kernel
theorem i_194_109 : pm_at q_194 109 = some (.iastore, 1) := by decide +kernel
theorem i_194_110 : pm_at q_194 110 = some (.iload_n 3, 1) := by decide +kernel
theorem i_194_111 : pm_at q_194 111 = some (.ifCond .ne 8, 3) := by decide +kernel
theorem i_194_114 : pm_at q_194 114 = some (.iload 5, 2) := by decide +kernel
theorem i_194_116 : pm_at q_194 116 = some (.goto 5, 3) := by decide +kernel
theorem i_194_119 : pm_at q_194 119 = some (.iload 6, 2) := by decide +kernel
theorem i_194_121 : pm_at q_194 121 = some (.ireturn, 1) := by decide +kernel
theorem i_195_0 : pm_at q_195 0 = some (.iconst 0, 1) := by decide +kernel
theorem i_195_1 : pm_at q_195 1 = some (.istore_n 2, 1) := by decide +kernel
theorem i_195_2 : pm_at q_195 2 = some (.iconst 0, 1) := by decide +kernel
theorem i_195_3 : pm_at q_195 3 = some (.istore_n 3, 1) := by decide +kernel
theorem i_195_4 : pm_at q_195 4 = some (.iload_n 3, 1) := by decide +kernel
theorem i_195_5 : pm_at q_195 5 = some (.aload_n 0, 1) := by decide +kernel
theorem i_195_6 : pm_at q_195 6 = some (.getfield 96, 3) := by decide +kernel
theorem i_195_9 : pm_at q_195 9 = some (.if_icmp .ge 39, 3) := by decide +kernel
theorem i_195_12 : pm_at q_195 12 = some (.iload_n 2, 1) := by decide +kernel
theorem i_195_13 : pm_at q_195 13 = some (.ifCond .ne 23, 3) := by decide +kernel
theorem i_195_16 : pm_at q_195 16 = some (.aload_n 0, 1) := by decide +kernel
theorem i_195_17 : pm_at q_195 17 = some (.getfield 31, 3) := by decide +kernel
theorem i_195_20 : pm_at q_195 20 = some (.iload_n 3, 1) := by decide +kernel
theorem i_195_21 : pm_at q_195 21 = some (.iaload, 1) := by decide +kernel
theorem i_195_22 : pm_at q_195 22 = some (.iload_n 1, 1) := by decide +kernel
theorem i_195_23 : pm_at q_195 23 = some (.iadd, 1) := by decide +kernel
theorem i_195_24 : pm_at q_195 24 = some (.aload_n 0, 1) := by decide +kernel
theorem i_195_25 : pm_at q_195 25 = some (.getfield 13, 3) := by decide +kernel
theorem i_195_28 : pm_at q_195 28 = some (.iload_n 3, 1) := by decide +kernel
theorem i_195_29 : pm_at q_195 29 = some (.iaload, 1) := by decide +kernel
theorem i_195_30 : pm_at q_195 30 = some (.invokestatic 199, 3) := by decide +kernel
theorem i_195_33 : pm_at q_195 33 = some (.if_icmp .lt 7, 3) := by decide +kernel
theorem i_195_36 : pm_at q_195 36 = some (.iconst 1, 1) := by decide +kernel
theorem i_195_37 : pm_at q_195 37 = some (.goto 4, 3) := by decide +kernel
theorem i_195_40 : pm_at q_195 40 = some (.iconst 0, 1) := by decide +kernel
theorem i_195_41 : pm_at q_195 41 = some (.istore_n 2, 1) := by decide +kernel
theorem i_195_42 : pm_at q_195 42 = some (.iinc 3 1, 3) := by decide +kernel
theorem i_195_45 : pm_at q_195 45 = some (.goto (-41), 3) := by decide +kernel
theorem i_195_48 : pm_at q_195 48 = some (.iload_n 2, 1) := by decide +kernel
theorem i_195_49 : pm_at q_195 49 = some (.ireturn, 1) := by decide +kernel
theorem i_196_0 : pm_at q_196 0 = some (.iconst 0, 1) := by decide +kernel
theorem i_196_1 : pm_at q_196 1 = some (.istore_n 1, 1) := by decide +kernel
theorem i_196_2 : pm_at q_196 2 = some (.iload_n 1, 1) := by decide +kernel
theorem i_196_3 : pm_at q_196 3 = some (.bipush 99, 2) := by decide +kernel
theorem i_196_5 : pm_at q_196 5 = some (.if_icmp .gt 20, 3) := by decide +kernel
theorem i_196_8 : pm_at q_196 8 = some (.aload_n 0, 1) := by decide +kernel
theorem i_196_9 : pm_at q_196 9 = some (.bipush 24, 2) := by decide +kernel
theorem i_196_11 : pm_at q_196 11 = some (.iload_n 1, 1) := by decide +kernel
theorem i_196_12 : pm_at q_196 12 = some (.imul, 1) := by decide +kernel
theorem i_196_13 : pm_at q_196 13 = some (.invokevirtual 284, 3) := by decide +kernel
theorem i_196_16 : pm_at q_196 16 = some (.ifCond .ne 9, 3) := by decide +kernel
theorem i_196_19 : pm_at q_196 19 = some (.iinc 1 1, 3) := by decide +kernel
theorem i_196_22 : pm_at q_196 22 = some (.goto (-20), 3) := by decide +kernel
theorem i_196_25 : pm_at q_196 25 = some (.iload_n 1, 1) := by decide +kernel
theorem i_196_26 : pm_at q_196 26 = some (.bipush 99, 2) := by decide +kernel
theorem i_196_28 : pm_at q_196 28 = some (.if_icmp .gt 7, 3) := by decide +kernel
theorem i_196_31 : pm_at q_196 31 = some (.iload_n 1, 1) := by decide +kernel
theorem i_196_32 : pm_at q_196 32 = some (.goto 4, 3) := by decide +kernel
theorem i_196_35 : pm_at q_196 35 = some (.iconst (-1), 1) := by decide +kernel
theorem i_196_36 : pm_at q_196 36 = some (.ireturn, 1) := by decide +kernel
theorem i_197_0 : pm_at q_197 0 = some (.iconst (-1), 1) := by decide +kernel
theorem i_197_1 : pm_at q_197 1 = some (.istore 4, 2) := by decide +kernel
theorem i_197_3 : pm_at q_197 3 = some (.iconst 2, 1) := by decide +kernel
theorem i_197_4 : pm_at q_197 4 = some (.istore 5, 2) := by decide +kernel
theorem i_197_6 : pm_at q_197 6 = some (.iload 5, 2) := by decide +kernel
theorem i_197_8 : pm_at q_197 8 = some (.bipush (-2), 2) := by decide +kernel
theorem i_197_10 : pm_at q_197 10 = some (.if_icmp .lt 81, 3) := by decide +kernel
theorem i_197_13 : pm_at q_197 13 = some (.iload_n 2, 1) := by decide +kernel
theorem i_197_14 : pm_at q_197 14 = some (.iload 5, 2) := by decide +kernel
theorem i_197_16 : pm_at q_197 16 = some (.iadd, 1) := by decide +kernel
theorem i_197_17 : pm_at q_197 17 = some (.istore 6, 2) := by decide +kernel
theorem i_197_19 : pm_at q_197 19 = some (.iload 6, 2) := by decide +kernel
theorem i_197_21 : pm_at q_197 21 = some (.invokestatic 228, 3) := by decide +kernel
theorem i_197_24 : pm_at q_197 24 = some (.ifCond .eq 16, 3) := by decide +kernel
theorem i_197_27 : pm_at q_197 27 = some (.iload_n 1, 1) := by decide +kernel
theorem i_197_28 : pm_at q_197 28 = some (.iload 6, 2) := by decide +kernel
theorem i_197_30 : pm_at q_197 30 = some (.invokestatic 208, 3) := by decide +kernel
theorem i_197_33 : pm_at q_197 33 = some (.ifCond .ne 7, 3) := by decide +kernel
theorem i_197_36 : pm_at q_197 36 = some (.iconst 1, 1) := by decide +kernel
theorem i_197_37 : pm_at q_197 37 = some (.goto 4, 3) := by decide +kernel
theorem i_197_40 : pm_at q_197 40 = some (.iconst 0, 1) := by decide +kernel
theorem i_197_41 : pm_at q_197 41 = some (.istore 7, 2) := by decide +kernel
theorem i_197_43 : pm_at q_197 43 = some (.iload 7, 2) := by decide +kernel
theorem i_197_45 : pm_at q_197 45 = some (.ifCond .eq 36, 3) := by decide +kernel
theorem i_197_48 : pm_at q_197 48 = some (.iload_n 3, 1) := by decide +kernel
theorem i_197_49 : pm_at q_197 49 = some (.iload 6, 2) := by decide +kernel
theorem i_197_51 : pm_at q_197 51 = some (.invokestatic 208, 3) := by decide +kernel
theorem i_197_54 : pm_at q_197 54 = some (.ifCond .ne 22, 3) := by decide +kernel
theorem i_197_57 : pm_at q_197 57 = some (.aload_n 0, 1) := by decide +kernel
theorem i_197_58 : pm_at q_197 58 = some (.getfield 73, 3) := by decide +kernel
theorem i_197_61 : pm_at q_197 61 = some (.iload_n 1, 1) := by decide +kernel
theorem i_197_62 : pm_at q_197 62 = some (.iconst 1, 1) := by decide +kernel
theorem i_197_63 : pm_at q_197 63 = some (.iload 6, 2) := by decide +kernel
theorem i_197_65 : pm_at q_197 65 = some (.ishl, 1) := by decide +kernel
theorem i_197_66 : pm_at q_197 66 = some (.ior, 1) := by decide +kernel
theorem i_197_67 : pm_at q_197 67 = some (.iaload, 1) := by decide +kernel
theorem i_197_68 : pm_at q_197 68 = some (.iload 6, 2) := by decide +kernel
theorem i_197_70 : pm_at q_197 70 = some (.invokestatic 208, 3) := by decide +kernel
theorem i_197_73 : pm_at q_197 73 = some (.ifCond .ne 8, 3) := by decide +kernel
theorem i_197_76 : pm_at q_197 76 = some (.iload 6, 2) := by decide +kernel
theorem i_197_78 : pm_at q_197 78 = some (.goto 5, 3) := by decide +kernel
theorem i_197_81 : pm_at q_197 81 = some (.iload 4, 2) := by decide +kernel
theorem i_197_83 : pm_at q_197 83 = some (.istore 4, 2) := by decide +kernel
theorem i_197_85 : pm_at q_197 85 = some (.iinc 5 (-1), 3) := by decide +kernel
theorem i_197_88 : pm_at q_197 88 = some (.goto (-82), 3) := by decide +kernel
theorem i_197_91 : pm_at q_197 91 = some (.iload 4, 2) := by decide +kernel
theorem i_197_93 : pm_at q_197 93 = some (.ireturn, 1) := by decide +kernel
theorem i_198_0 : pm_at q_198 0 = some (.aload_n 0, 1) := by decide +kernel
theorem i_198_1 : pm_at q_198 1 = some (.iload_n 1, 1) := by decide +kernel
theorem i_198_2 : pm_at q_198 2 = some (.invokevirtual 240, 3) := by decide +kernel
theorem i_198_5 : pm_at q_198 5 = some (.ifCond .eq 12, 3) := by decide +kernel
theorem i_198_8 : pm_at q_198 8 = some (.iload_n 2, 1) := by decide +kernel
theorem i_198_9 : pm_at q_198 9 = some (.iconst 0, 1) := by decide +kernel
theorem i_198_10 : pm_at q_198 10 = some (.iconst 1, 1) := by decide +kernel
theorem i_198_11 : pm_at q_198 11 = some (.invokestatic 115, 3) := by decide +kernel
theorem i_198_14 : pm_at q_198 14 = some (.ifCond .ne 8, 3) := by decide +kernel
theorem i_198_17 : pm_at q_198 17 = some (.aload_n 0, 1) := by decide +kernel
theorem i_198_18 : pm_at q_198 18 = some (.invokevirtual 119, 3) := by decide +kernel
theorem i_198_21 : pm_at q_198 21 = some (.ireturn, 1) := by decide +kernel
theorem i_198_22 : pm_at q_198 22 = some (.aload_n 0, 1) := by decide +kernel
theorem i_198_23 : pm_at q_198 23 = some (.invokevirtual 270, 3) := by decide +kernel
theorem i_198_26 : pm_at q_198 26 = some (.iconst 0, 1) := by decide +kernel
theorem i_198_27 : pm_at q_198 27 = some (.istore_n 3, 1) := by decide +kernel
theorem i_198_28 : pm_at q_198 28 = some (.iconst 0, 1) := by decide +kernel
theorem i_198_29 : pm_at q_198 29 = some (.istore 4, 2) := by decide +kernel
theorem i_198_31 : pm_at q_198 31 = some (.iload 4, 2) := by decide +kernel
theorem i_198_33 : pm_at q_198 33 = some (.bipush 12, 2) := by decide +kernel
theorem i_198_35 : pm_at q_198 35 = some (.if_icmp .gt 34, 3) := by decide +kernel
theorem i_198_38 : pm_at q_198 38 = some (.iload_n 3, 1) := by decide +kernel
theorem i_198_39 : pm_at q_198 39 = some (.aload_n 0, 1) := by decide +kernel
theorem i_198_40 : pm_at q_198 40 = some (.getfield 64, 3) := by decide +kernel
theorem i_198_43 : pm_at q_198 43 = some (.iload 4, 2) := by decide +kernel
theorem i_198_45 : pm_at q_198 45 = some (.iaload, 1) := by decide +kernel
theorem i_198_46 : pm_at q_198 46 = some (.iload_n 1, 1) := by decide +kernel
theorem i_198_47 : pm_at q_198 47 = some (.invokestatic 208, 3) := by decide +kernel
theorem i_198_50 : pm_at q_198 50 = some (.ifCond .eq 10, 3) := by decide +kernel
theorem i_198_53 : pm_at q_198 53 = some (.iconst 1, 1) := by decide +kernel
theorem i_198_54 : pm_at q_198 54 = some (.iload 4, 2) := by decide +kernel
theorem i_198_56 : pm_at q_198 56 = some (.ishl, 1) := by decide +kernel
theorem i_198_57 : pm_at q_198 57 = some (.goto 4, 3) := by decide +kernel
theorem i_198_60 : pm_at q_198 60 = some (.iconst 0, 1) := by decide +kernel
theorem i_198_61 : pm_at q_198 61 = some (.ior, 1) := by decide +kernel
theorem i_198_62 : pm_at q_198 62 = some (.istore_n 3, 1) := by decide +kernel
theorem i_198_63 : pm_at q_198 63 = some (.iinc 4 1, 3) := by decide +kernel
theorem i_198_66 : pm_at q_198 66 = some (.goto (-35), 3) := by decide +kernel
theorem i_198_69 : pm_at q_198 69 = some (.iload_n 3, 1) := by decide +kernel
theorem i_198_70 : pm_at q_198 70 = some (.aload_n 0, 1) := by decide +kernel
theorem i_198_71 : pm_at q_198 71 = some (.getfield 100, 3) := by decide +kernel
theorem i_198_74 : pm_at q_198 74 = some (.invokestatic 208, 3) := by decide +kernel
theorem i_198_77 : pm_at q_198 77 = some (.ifCond .eq 13, 3) := by decide +kernel
theorem i_198_80 : pm_at q_198 80 = some (.iload_n 2, 1) := by decide +kernel
theorem i_198_81 : pm_at q_198 81 = some (.ifCond .ne 7, 3) := by decide +kernel
theorem i_198_84 : pm_at q_198 84 = some (.iconst 2, 1) := by decide +kernel
theorem i_198_85 : pm_at q_198 85 = some (.goto 4, 3) := by decide +kernel
theorem i_198_88 : pm_at q_198 88 = some (.iconst (-1), 1) := by decide +kernel
theorem i_198_89 : pm_at q_198 89 = some (.ireturn, 1) := by decide +kernel
theorem i_198_90 : pm_at q_198 90 = some (.sipush 8191, 3) := by decide +kernel
theorem i_198_93 : pm_at q_198 93 = some (.istore 4, 2) := by decide +kernel
theorem i_198_95 : pm_at q_198 95 = some (.iload 4, 2) := by decide +kernel
theorem i_198_97 : pm_at q_198 97 = some (.ifCond .le 74, 3) := by decide +kernel
theorem i_198_100 : pm_at q_198 100 = some (.aload_n 0, 1) := by decide +kernel
theorem i_198_101 : pm_at q_198 101 = some (.getfield 73, 3) := by decide +kernel
theorem i_198_104 : pm_at q_198 104 = some (.iload 4, 2) := by decide +kernel
theorem i_198_106 : pm_at q_198 106 = some (.iconst 0, 1) := by decide +kernel
theorem i_198_107 : pm_at q_198 107 = some (.iastore, 1) := by decide +kernel
theorem i_198_108 : pm_at q_198 108 = some (.iconst 0, 1) := by decide +kernel
theorem i_198_109 : pm_at q_198 109 = some (.istore 5, 2) := by decide +kernel
theorem i_198_111 : pm_at q_198 111 = some (.iload 5, 2) := by decide +kernel
theorem i_198_113 : pm_at q_198 113 = some (.bipush 12, 2) := by decide +kernel
theorem i_198_115 : pm_at q_198 115 = some (.if_icmp .gt 50, 3) := by decide +kernel
theorem i_198_118 : pm_at q_198 118 = some (.aload_n 0, 1) := by decide +kernel
theorem i_198_119 : pm_at q_198 119 = some (.getfield 73, 3) := by decide +kernel
theorem i_198_122 : pm_at q_198 122 = some (.iload 4, 2) := by decide +kernel
theorem i_198_124 : pm_at q_198 124 = some (.dup2, 1) := by decide +kernel
theorem i_198_125 : pm_at q_198 125 = some (.iaload, 1) := by decide +kernel
theorem i_198_126 : pm_at q_198 126 = some (.iload 4, 2) := by decide +kernel
theorem i_198_128 : pm_at q_198 128 = some (.iload 5, 2) := by decide +kernel
theorem i_198_130 : pm_at q_198 130 = some (.invokestatic 208, 3) := by decide +kernel
theorem i_198_133 : pm_at q_198 133 = some (.ifCond .eq 23, 3) := by decide +kernel
theorem i_198_136 : pm_at q_198 136 = some (.aload_n 0, 1) := by decide +kernel
theorem i_198_137 : pm_at q_198 137 = some (.iload 4, 2) := by decide +kernel
theorem i_198_139 : pm_at q_198 139 = some (.iload 5, 2) := by decide +kernel
theorem i_198_141 : pm_at q_198 141 = some (.iload_n 3, 1) := by decide +kernel
theorem i_198_142 : pm_at q_198 142 = some (.invokevirtual 287, 3) := by decide +kernel
theorem i_198_145 : pm_at q_198 145 = some (.iconst (-1), 1) := by decide +kernel
theorem i_198_146 : pm_at q_198 146 = some (.if_icmp .eq 10, 3) := by decide +kernel
theorem i_198_149 : pm_at q_198 149 = some (.iconst 1, 1) := by decide +kernel
theorem i_198_150 : pm_at q_198 150 = some (.iload 5, 2) := by decide +kernel
theorem i_198_152 : pm_at q_198 152 = some (.ishl, 1) := by decide +kernel
theorem i_198_153 : pm_at q_198 153 = some (.goto 4, 3) := by decide +kernel
theorem i_198_156 : pm_at q_198 156 = some (.iconst 0, 1) := by decide +kernel
theorem i_198_157 : pm_at q_198 157 = some (.ior, 1) := by decide +kernel
theorem i_198_158 : pm_at q_198 158 = some (.iastore, 1) := by decide +kernel
theorem i_198_159 : pm_at q_198 159 = some (.iinc 5 1, 3) := by decide +kernel
theorem i_198_162 : pm_at q_198 162 = some (.goto (-51), 3) := by decide +kernel
theorem i_198_165 : pm_at q_198 165 = some (.iinc 4 (-1), 3) := by decide +kernel
theorem i_198_168 : pm_at q_198 168 = some (.goto (-73), 3) := by decide +kernel
theorem i_198_171 : pm_at q_198 171 = some (.aload_n 0, 1) := by decide +kernel
theorem i_198_172 : pm_at q_198 172 = some (.iconst 1, 1) := by decide +kernel
theorem i_198_173 : pm_at q_198 173 = some (.aload_n 0, 1) := by decide +kernel
theorem i_198_174 : pm_at q_198 174 = some (.getfield 100, 3) := by decide +kernel
theorem i_198_177 : pm_at q_198 177 = some (.ishl, 1) := by decide +kernel
theorem i_198_178 : pm_at q_198 178 = some (.aload_n 0, 1) := by decide +kernel
theorem i_198_179 : pm_at q_198 179 = some (.getfield 100, 3) := by decide +kernel
theorem i_198_182 : pm_at q_198 182 = some (.iload_n 3, 1) := by decide +kernel
theorem i_198_183 : pm_at q_198 183 = some (.invokevirtual 287, 3) := by decide +kernel
theorem i_198_186 : pm_at q_198 186 = some (.istore 4, 2) := by decide +kernel
theorem i_198_188 : pm_at q_198 188 = some (.iload_n 2, 1) := by decide +kernel
theorem i_198_189 : pm_at q_198 189 = some (.iconst 1, 1) := by decide +kernel
theorem i_198_190 : pm_at q_198 190 = some (.if_icmp .ne 8, 3) := by decide +kernel
theorem i_198_193 : pm_at q_198 193 = some (.iload 4, 2) := by decide +kernel
theorem i_198_195 : pm_at q_198 195 = some (.goto 14, 3) := by decide +kernel
theorem i_198_198 : pm_at q_198 198 = some (.iload 4, 2) := by decide +kernel
theorem i_198_200 : pm_at q_198 200 = some (.iconst (-1), 1) := by decide +kernel
theorem i_198_201 : pm_at q_198 201 = some (.if_icmp .ne 7, 3) := by decide +kernel
theorem i_198_204 : pm_at q_198 204 = some (.iconst 0, 1) := by decide +kernel
theorem i_198_205 : pm_at q_198 205 = some (.goto 4, 3) := by decide +kernel
theorem i_198_208 : pm_at q_198 208 = some (.iconst 1, 1) := by decide +kernel
theorem i_198_209 : pm_at q_198 209 = some (.ireturn, 1) := by decide +kernel
theorem i_199_0 : pm_at q_199 0 = some (.aload_n 0, 1) := by decide +kernel
theorem i_199_1 : pm_at q_199 1 = some (.iload_n 1, 1) := by decide +kernel
theorem i_199_2 : pm_at q_199 2 = some (.invokevirtual 240, 3) := by decide +kernel
theorem i_199_5 : pm_at q_199 5 = some (.ifCond .eq 41, 3) := by decide +kernel
theorem i_199_8 : pm_at q_199 8 = some (.iload_n 2, 1) := by decide +kernel
theorem i_199_9 : pm_at q_199 9 = some (.iconst 1, 1) := by decide +kernel
theorem i_199_10 : pm_at q_199 10 = some (.bipush 9, 2) := by decide +kernel
theorem i_199_12 : pm_at q_199 12 = some (.invokestatic 115, 3) := by decide +kernel
theorem i_199_15 : pm_at q_199 15 = some (.ifCond .eq 31, 3) := by decide +kernel
theorem i_199_18 : pm_at q_199 18 = some (.iload_n 3, 1) := by decide +kernel
theorem i_199_19 : pm_at q_199 19 = some (.invokestatic 228, 3) := by decide +kernel
theorem i_199_22 : pm_at q_199 22 = some (.ifCond .eq 24, 3) := by decide +kernel
theorem i_199_25 : pm_at q_199 25 = some (.iload 4, 2) := by decide +kernel
theorem i_199_27 : pm_at q_199 27 = some (.iconst 0, 1) := by decide +kernel
theorem i_199_28 : pm_at q_199 28 = some (.iconst 3, 1) := by decide +kernel
theorem i_199_29 : pm_at q_199 29 = some (.invokestatic 115, 3) := by decide +kernel
theorem i_199_32 : pm_at q_199 32 = some (.ifCond .eq 14, 3) := by decide +kernel
theorem i_199_35 : pm_at q_199 35 = some (.iload 5, 2) := by decide +kernel
theorem i_199_37 : pm_at q_199 37 = some (.iconst 0, 1) := by decide +kernel
theorem i_199_38 : pm_at q_199 38 = some (.bipush 20, 2) := by decide +kernel
theorem i_199_40 : pm_at q_199 40 = some (.invokestatic 115, 3) := by decide +kernel
theorem i_199_43 : pm_at q_199 43 = some (.ifCond .ne 8, 3) := by decide +kernel
theorem i_199_46 : pm_at q_199 46 = some (.aload_n 0, 1) := by decide +kernel
theorem i_199_47 : pm_at q_199 47 = some (.invokevirtual 119, 3) := by decide +kernel
theorem i_199_50 : pm_at q_199 50 = some (.ireturn, 1) := by decide +kernel
theorem i_199_51 : pm_at q_199 51 = some (.aload_n 0, 1) := by decide +kernel
theorem i_199_52 : pm_at q_199 52 = some (.getfield 106, 3) := by decide +kernel
theorem i_199_55 : pm_at q_199 55 = some (.bipush 6, 2) := by decide +kernel
theorem i_199_57 : pm_at q_199 57 = some (.if_icmp .ne 8, 3) := by decide +kernel
theorem i_199_60 : pm_at q_199 60 = some (.aload_n 0, 1) := by decide +kernel
theorem i_199_61 : pm_at q_199 61 = some (.invokevirtual 123, 3) := by decide +kernel
theorem i_199_64 : pm_at q_199 64 = some (.ireturn, 1) := by decide +kernel
theorem i_199_65 : pm_at q_199 65 = some (.iconst 5, 1) := by decide +kernel
theorem i_199_66 : pm_at q_199 66 = some (.aload_n 0, 1) := by decide +kernel
theorem i_199_67 : pm_at q_199 67 = some (.getfield 106, 3) := by decide +kernel
theorem i_199_70 : pm_at q_199 70 = some (.imul, 1) := by decide +kernel
theorem i_199_71 : pm_at q_199 71 = some (.istore 6, 2) := by decide +kernel
theorem i_199_73 : pm_at q_199 73 = some (.aload_n 0, 1) := by decide +kernel
theorem i_199_74 : pm_at q_199 74 = some (.getfield 34, 3) := by decide +kernel
theorem i_199_77 : pm_at q_199 77 = some (.iload 6, 2) := by decide +kernel
theorem i_199_79 : pm_at q_199 79 = some (.iload_n 1, 1) := by decide +kernel
theorem i_199_80 : pm_at q_199 80 = some (.iastore, 1) := by decide +kernel
theorem i_199_81 : pm_at q_199 81 = some (.aload_n 0, 1) := by decide +kernel
theorem i_199_82 : pm_at q_199 82 = some (.getfield 34, 3) := by decide +kernel
theorem i_199_85 : pm_at q_199 85 = some (.iload 6, 2) := by decide +kernel
theorem i_199_87 : pm_at q_199 87 = some (.iconst 1, 1) := by decide +kernel
theorem i_199_88 : pm_at q_199 88 = some (.iadd, 1) := by decide +kernel
theorem i_199_89 : pm_at q_199 89 = some (.iload_n 2, 1) := by decide +kernel
theorem i_199_90 : pm_at q_199 90 = some (.iastore, 1) := by decide +kernel
theorem i_199_91 : pm_at q_199 91 = some (.aload_n 0, 1) := by decide +kernel
theorem i_199_92 : pm_at q_199 92 = some (.getfield 34, 3) := by decide +kernel
theorem i_199_95 : pm_at q_199 95 = some (.iload 6, 2) := by decide +kernel
theorem i_199_97 : pm_at q_199 97 = some (.iconst 2, 1) := by decide +kernel
theorem i_199_98 : pm_at q_199 98 = some (.iadd, 1) := by decide +kernel
theorem i_199_99 : pm_at q_199 99 = some (.iload_n 3, 1) := by decide +kernel
theorem i_199_100 : pm_at q_199 100 = some (.iastore, 1) := by decide +kernel
theorem i_199_101 : pm_at q_199 101 = some (.aload_n 0, 1) := by decide +kernel
theorem i_199_102 : pm_at q_199 102 = some (.getfield 34, 3) := by decide +kernel
theorem i_199_105 : pm_at q_199 105 = some (.iload 6, 2) := by decide +kernel
theorem i_199_107 : pm_at q_199 107 = some (.iconst 3, 1) := by decide +kernel
theorem i_199_108 : pm_at q_199 108 = some (.iadd, 1) := by decide +kernel
theorem i_199_109 : pm_at q_199 109 = some (.iload 4, 2) := by decide +kernel
theorem i_199_111 : pm_at q_199 111 = some (.iastore, 1) := by decide +kernel
theorem i_199_112 : pm_at q_199 112 = some (.aload_n 0, 1) := by decide +kernel
theorem i_199_113 : pm_at q_199 113 = some (.getfield 34, 3) := by decide +kernel
theorem i_199_116 : pm_at q_199 116 = some (.iload 6, 2) := by decide +kernel
theorem i_199_118 : pm_at q_199 118 = some (.iconst 4, 1) := by decide +kernel
theorem i_199_119 : pm_at q_199 119 = some (.iadd, 1) := by decide +kernel
theorem i_199_120 : pm_at q_199 120 = some (.iload 5, 2) := by decide +kernel
theorem i_199_122 : pm_at q_199 122 = some (.iastore, 1) := by decide +kernel
theorem i_199_123 : pm_at q_199 123 = some (.aload_n 0, 1) := by decide +kernel
theorem i_199_124 : pm_at q_199 124 = some (.dup, 1) := by decide +kernel
theorem i_199_125 : pm_at q_199 125 = some (.getfield 106, 3) := by decide +kernel
theorem i_199_128 : pm_at q_199 128 = some (.iconst 1, 1) := by decide +kernel
theorem i_199_129 : pm_at q_199 129 = some (.iadd, 1) := by decide +kernel
theorem i_199_130 : pm_at q_199 130 = some (.putfield 106, 3) := by decide +kernel
theorem i_199_133 : pm_at q_199 133 = some (.aload_n 0, 1) := by decide +kernel
theorem i_199_134 : pm_at q_199 134 = some (.getfield 106, 3) := by decide +kernel
theorem i_199_137 : pm_at q_199 137 = some (.ireturn, 1) := by decide +kernel
theorem i_200_0 : pm_at q_200 0 = some (.iload_n 1, 1) := by decide +kernel
theorem i_200_1 : pm_at q_200 1 = some (.invokestatic 228, 3) := by decide +kernel
theorem i_200_4 : pm_at q_200 4 = some (.ifCond .eq 11, 3) := by decide +kernel
theorem i_200_7 : pm_at q_200 7 = some (.aload_n 0, 1) := by decide +kernel
theorem i_200_8 : pm_at q_200 8 = some (.iload_n 2, 1) := by decide +kernel
theorem i_200_9 : pm_at q_200 9 = some (.invokevirtual 264, 3) := by decide +kernel
theorem i_200_12 : pm_at q_200 12 = some (.ifCond .ne 8, 3) := by decide +kernel
theorem i_200_15 : pm_at q_200 15 = some (.aload_n 0, 1) := by decide +kernel
theorem i_200_16 : pm_at q_200 16 = some (.invokevirtual 119, 3) := by decide +kernel
theorem i_200_19 : pm_at q_200 19 = some (.ireturn, 1) := by decide +kernel
theorem i_200_20 : pm_at q_200 20 = some (.aload_n 0, 1) := by decide +kernel
theorem i_200_21 : pm_at q_200 21 = some (.getfield 109, 3) := by decide +kernel
theorem i_200_24 : pm_at q_200 24 = some (.bipush 6, 2) := by decide +kernel
theorem i_200_26 : pm_at q_200 26 = some (.if_icmp .ne 8, 3) := by decide +kernel
theorem i_200_29 : pm_at q_200 29 = some (.aload_n 0, 1) := by decide +kernel
theorem i_200_30 : pm_at q_200 30 = some (.invokevirtual 123, 3) := by decide +kernel
theorem i_200_33 : pm_at q_200 33 = some (.ireturn, 1) := by decide +kernel
theorem i_200_34 : pm_at q_200 34 = some (.aload_n 0, 1) := by decide +kernel
theorem i_200_35 : pm_at q_200 35 = some (.getfield 37, 3) := by decide +kernel
theorem i_200_38 : pm_at q_200 38 = some (.aload_n 0, 1) := by decide +kernel
theorem i_200_39 : pm_at q_200 39 = some (.getfield 109, 3) := by decide +kernel
theorem i_200_42 : pm_at q_200 42 = some (.iload_n 1, 1) := by decide +kernel
theorem i_200_43 : pm_at q_200 43 = some (.iastore, 1) := by decide +kernel
theorem i_200_44 : pm_at q_200 44 = some (.aload_n 0, 1) := by decide +kernel
theorem i_200_45 : pm_at q_200 45 = some (.getfield 40, 3) := by decide +kernel
theorem i_200_48 : pm_at q_200 48 = some (.aload_n 0, 1) := by decide +kernel
theorem i_200_49 : pm_at q_200 49 = some (.getfield 109, 3) := by decide +kernel
theorem i_200_52 : pm_at q_200 52 = some (.iload_n 2, 1) := by decide +kernel
theorem i_200_53 : pm_at q_200 53 = some (.iastore, 1) := by decide +kernel
theorem i_200_54 : pm_at q_200 54 = some (.aload_n 0, 1) := by decide +kernel
theorem i_200_55 : pm_at q_200 55 = some (.dup, 1) := by decide +kernel
theorem i_200_56 : pm_at q_200 56 = some (.getfield 109, 3) := by decide +kernel
theorem i_200_59 : pm_at q_200 59 = some (.iconst 1, 1) := by decide +kernel
theorem i_200_60 : pm_at q_200 60 = some (.iadd, 1) := by decide +kernel
theorem i_200_61 : pm_at q_200 61 = some (.putfield 109, 3) := by decide +kernel
theorem i_200_64 : pm_at q_200 64 = some (.aload_n 0, 1) := by decide +kernel
theorem i_200_65 : pm_at q_200 65 = some (.getfield 109, 3) := by decide +kernel
theorem i_200_68 : pm_at q_200 68 = some (.ireturn, 1) := by decide +kernel
theorem i_201_0 : pm_at q_201 0 = some (.iload_n 1, 1) := by decide +kernel
theorem i_201_1 : pm_at q_201 1 = some (.iconst 0, 1) := by decide +kernel
theorem i_201_2 : pm_at q_201 2 = some (.iconst 1, 1) := by decide +kernel
theorem i_201_3 : pm_at q_201 3 = some (.invokestatic 115, 3) := by decide +kernel
theorem i_201_6 : pm_at q_201 6 = some (.ifCond .ne 8, 3) := by decide +kernel
theorem i_201_9 : pm_at q_201 9 = some (.aload_n 0, 1) := by decide +kernel
theorem i_201_10 : pm_at q_201 10 = some (.invokevirtual 119, 3) := by decide +kernel
theorem i_201_13 : pm_at q_201 13 = some (.ireturn, 1) := by decide +kernel
theorem i_201_14 : pm_at q_201 14 = some (.iload_n 1, 1) := by decide +kernel
theorem i_201_15 : pm_at q_201 15 = some (.ifCond .ne 10, 3) := by decide +kernel
theorem i_201_18 : pm_at q_201 18 = some (.aload_n 0, 1) := by decide +kernel
theorem i_201_19 : pm_at q_201 19 = some (.getfield 106, 3) := by decide +kernel
theorem i_201_22 : pm_at q_201 22 = some (.goto 7, 3) := by decide +kernel
theorem i_201_25 : pm_at q_201 25 = some (.aload_n 0, 1) := by decide +kernel
theorem i_201_26 : pm_at q_201 26 = some (.getfield 109, 3) := by decide +kernel
theorem i_201_29 : pm_at q_201 29 = some (.istore_n 2, 1) := by decide +kernel
theorem i_201_30 : pm_at q_201 30 = some (.aload_n 0, 1) := by decide +kernel
theorem i_201_31 : pm_at q_201 31 = some (.iload_n 1, 1) := by decide +kernel
theorem i_201_32 : pm_at q_201 32 = some (.ifCond .ne 7, 3) := by decide +kernel
theorem i_201_35 : pm_at q_201 35 = some (.iconst 0, 1) := by decide +kernel
theorem i_201_36 : pm_at q_201 36 = some (.goto 7, 3) := by decide +kernel
theorem i_201_39 : pm_at q_201 39 = some (.aload_n 0, 1) := by decide +kernel
theorem i_201_40 : pm_at q_201 40 = some (.getfield 106, 3) := by decide +kernel
theorem i_201_43 : pm_at q_201 43 = some (.putfield 106, 3) := by decide +kernel
theorem i_201_46 : pm_at q_201 46 = some (.aload_n 0, 1) := by decide +kernel
theorem i_201_47 : pm_at q_201 47 = some (.iload_n 1, 1) := by decide +kernel
theorem i_201_48 : pm_at q_201 48 = some (.iconst 1, 1) := by decide +kernel
theorem i_201_49 : pm_at q_201 49 = some (.if_icmp .ne 7, 3) := by decide +kernel
theorem i_201_52 : pm_at q_201 52 = some (.iconst 0, 1) := by decide +kernel
theorem i_201_53 : pm_at q_201 53 = some (.goto 7, 3) := by decide +kernel
theorem i_201_56 : pm_at q_201 56 = some (.aload_n 0, 1) := by decide +kernel
theorem i_201_57 : pm_at q_201 57 = some (.getfield 109, 3) := by decide +kernel
theorem i_201_60 : pm_at q_201 60 = some (.putfield 109, 3) := by decide +kernel
theorem i_201_63 : pm_at q_201 63 = some (.iload_n 2, 1) := by decide +kernel
theorem i_201_64 : pm_at q_201 64 = some (.ireturn, 1) := by decide +kernel
theorem i_202_0 : pm_at q_202 0 = some (.iconst 0, 1) := by decide +kernel
theorem i_202_1 : pm_at q_202 1 = some (.istore_n 2, 1) := by decide +kernel
theorem i_202_2 : pm_at q_202 2 = some (.iconst 0, 1) := by decide +kernel
theorem i_202_3 : pm_at q_202 3 = some (.istore_n 3, 1) := by decide +kernel
theorem i_202_4 : pm_at q_202 4 = some (.iload_n 3, 1) := by decide +kernel
theorem i_202_5 : pm_at q_202 5 = some (.iconst 5, 1) := by decide +kernel
theorem i_202_6 : pm_at q_202 6 = some (.if_icmp .gt 125, 3) := by decide +kernel
theorem i_202_9 : pm_at q_202 9 = some (.iconst 1, 1) := by decide +kernel
theorem i_202_10 : pm_at q_202 10 = some (.istore 4, 2) := by decide +kernel
theorem i_202_12 : pm_at q_202 12 = some (.iconst 0, 1) := by decide +kernel
theorem i_202_13 : pm_at q_202 13 = some (.istore 5, 2) := by decide +kernel
theorem i_202_15 : pm_at q_202 15 = some (.iload 5, 2) := by decide +kernel
theorem i_202_17 : pm_at q_202 17 = some (.iconst 5, 1) := by decide +kernel
theorem i_202_18 : pm_at q_202 18 = some (.aload_n 0, 1) := by decide +kernel
theorem i_202_19 : pm_at q_202 19 = some (.getfield 106, 3) := by decide +kernel
theorem i_202_22 : pm_at q_202 22 = some (.imul, 1) := by decide +kernel
theorem i_202_23 : pm_at q_202 23 = some (.if_icmp .ge 87, 3) := by decide +kernel
theorem i_202_26 : pm_at q_202 26 = some (.iload_n 3, 1) := by decide +kernel
theorem i_202_27 : pm_at q_202 27 = some (.aload_n 0, 1) := by decide +kernel
theorem i_202_28 : pm_at q_202 28 = some (.getfield 34, 3) := by decide +kernel
theorem i_202_31 : pm_at q_202 31 = some (.iload 5, 2) := by decide +kernel
theorem i_202_33 : pm_at q_202 33 = some (.iconst 2, 1) := by decide +kernel
theorem i_202_34 : pm_at q_202 34 = some (.iadd, 1) := by decide +kernel
theorem i_202_35 : pm_at q_202 35 = some (.iaload, 1) := by decide +kernel
theorem i_202_36 : pm_at q_202 36 = some (.aload_n 0, 1) := by decide +kernel
theorem i_202_37 : pm_at q_202 37 = some (.getfield 34, 3) := by decide +kernel
theorem i_202_40 : pm_at q_202 40 = some (.iload 5, 2) := by decide +kernel
theorem i_202_42 : pm_at q_202 42 = some (.iconst 1, 1) := by decide +kernel
theorem i_202_43 : pm_at q_202 43 = some (.iadd, 1) := by decide +kernel
theorem i_202_44 : pm_at q_202 44 = some (.iaload, 1) := by decide +kernel
theorem i_202_45 : pm_at q_202 45 = some (.aload_n 0, 1) := by decide +kernel
theorem i_202_46 : pm_at q_202 46 = some (.getfield 34, 3) := by decide +kernel
theorem i_202_49 : pm_at q_202 49 = some (.iload 5, 2) := by decide +kernel
theorem i_202_51 : pm_at q_202 51 = some (.iconst 3, 1) := by decide +kernel
theorem i_202_52 : pm_at q_202 52 = some (.iadd, 1) := by decide +kernel
theorem i_202_53 : pm_at q_202 53 = some (.iaload, 1) := by decide +kernel
theorem i_202_54 : pm_at q_202 54 = some (.invokestatic 211, 3) := by decide +kernel
theorem i_202_57 : pm_at q_202 57 = some (.aload_n 0, 1) := by decide +kernel
theorem i_202_58 : pm_at q_202 58 = some (.getfield 34, 3) := by decide +kernel
theorem i_202_61 : pm_at q_202 61 = some (.iload 5, 2) := by decide +kernel
theorem i_202_63 : pm_at q_202 63 = some (.iconst 4, 1) := by decide +kernel
theorem i_202_64 : pm_at q_202 64 = some (.iadd, 1) := by decide +kernel
theorem i_202_65 : pm_at q_202 65 = some (.iaload, 1) := by decide +kernel
theorem i_202_66 : pm_at q_202 66 = some (.if_icmp .ne 7, 3) := by decide +kernel
theorem i_202_69 : pm_at q_202 69 = some (.iconst 1, 1) := by decide +kernel
theorem i_202_70 : pm_at q_202 70 = some (.goto 4, 3) := by decide +kernel
theorem i_202_73 : pm_at q_202 73 = some (.iconst 0, 1) := by decide +kernel
theorem i_202_74 : pm_at q_202 74 = some (.istore 6, 2) := by decide +kernel
theorem i_202_76 : pm_at q_202 76 = some (.iload 4, 2) := by decide +kernel
theorem i_202_78 : pm_at q_202 78 = some (.ifCond .eq 23, 3) := by decide +kernel
theorem i_202_81 : pm_at q_202 81 = some (.aload_n 0, 1) := by decide +kernel
theorem i_202_82 : pm_at q_202 82 = some (.getfield 34, 3) := by decide +kernel
theorem i_202_85 : pm_at q_202 85 = some (.iload 5, 2) := by decide +kernel
theorem i_202_87 : pm_at q_202 87 = some (.iaload, 1) := by decide +kernel
theorem i_202_88 : pm_at q_202 88 = some (.iload_n 1, 1) := by decide +kernel
theorem i_202_89 : pm_at q_202 89 = some (.if_icmp .ne 8, 3) := by decide +kernel
theorem i_202_92 : pm_at q_202 92 = some (.iload 6, 2) := by decide +kernel
theorem i_202_94 : pm_at q_202 94 = some (.ifCond .eq 7, 3) := by decide +kernel
theorem i_202_97 : pm_at q_202 97 = some (.iconst 1, 1) := by decide +kernel
theorem i_202_98 : pm_at q_202 98 = some (.goto 4, 3) := by decide +kernel
theorem i_202_101 : pm_at q_202 101 = some (.iconst 0, 1) := by decide +kernel
theorem i_202_102 : pm_at q_202 102 = some (.istore 4, 2) := by decide +kernel
theorem i_202_104 : pm_at q_202 104 = some (.iinc 5 5, 3) := by decide +kernel
theorem i_202_107 : pm_at q_202 107 = some (.goto (-92), 3) := by decide +kernel
theorem i_202_110 : pm_at q_202 110 = some (.iload_n 2, 1) := by decide +kernel
theorem i_202_111 : pm_at q_202 111 = some (.iload 4, 2) := by decide +kernel
theorem i_202_113 : pm_at q_202 113 = some (.ifCond .eq 9, 3) := by decide +kernel
theorem i_202_116 : pm_at q_202 116 = some (.iconst 1, 1) := by decide +kernel
theorem i_202_117 : pm_at q_202 117 = some (.iload_n 3, 1) := by decide +kernel
theorem i_202_118 : pm_at q_202 118 = some (.ishl, 1) := by decide +kernel
theorem i_202_119 : pm_at q_202 119 = some (.goto 4, 3) := by decide +kernel
theorem i_202_122 : pm_at q_202 122 = some (.iconst 0, 1) := by decide +kernel
theorem i_202_123 : pm_at q_202 123 = some (.ior, 1) := by decide +kernel
theorem i_202_124 : pm_at q_202 124 = some (.istore_n 2, 1) := by decide +kernel
theorem i_202_125 : pm_at q_202 125 = some (.iinc 3 1, 3) := by decide +kernel
theorem i_202_128 : pm_at q_202 128 = some (.goto (-124), 3) := by decide +kernel
theorem i_202_131 : pm_at q_202 131 = some (.iload_n 2, 1) := by decide +kernel
theorem i_202_132 : pm_at q_202 132 = some (.ireturn, 1) := by decide +kernel
theorem i_203_0 : pm_at q_203 0 = some (.aload_n 0, 1) := by decide +kernel
theorem i_203_1 : pm_at q_203 1 = some (.iload_n 1, 1) := by decide +kernel
theorem i_203_2 : pm_at q_203 2 = some (.invokevirtual 240, 3) := by decide +kernel
theorem i_203_5 : pm_at q_203 5 = some (.ifCond .eq 11, 3) := by decide +kernel
theorem i_203_8 : pm_at q_203 8 = some (.aload_n 0, 1) := by decide +kernel
theorem i_203_9 : pm_at q_203 9 = some (.iload_n 1, 1) := by decide +kernel
theorem i_203_10 : pm_at q_203 10 = some (.invokevirtual 291, 3) := by decide +kernel
theorem i_203_13 : pm_at q_203 13 = some (.goto 7, 3) := by decide +kernel
theorem i_203_16 : pm_at q_203 16 = some (.aload_n 0, 1) := by decide +kernel
theorem i_203_17 : pm_at q_203 17 = some (.invokevirtual 119, 3) := by decide +kernel
theorem i_203_20 : pm_at q_203 20 = some (.ireturn, 1) := by decide +kernel
theorem i_204_0 : pm_at q_204 0 = some (.iconst 0, 1) := by decide +kernel
theorem i_204_1 : pm_at q_204 1 = some (.istore 4, 2) := by decide +kernel
theorem i_204_3 : pm_at q_204 3 = some (.iconst 0, 1) := by decide +kernel
theorem i_204_4 : pm_at q_204 4 = some (.istore 5, 2) := by decide +kernel
theorem i_204_6 : pm_at q_204 6 = some (.iload 5, 2) := by decide +kernel
theorem i_204_8 : pm_at q_204 8 = some (.iconst 5, 1) := by decide +kernel
theorem i_204_9 : pm_at q_204 9 = some (.if_icmp .gt 83, 3) := by decide +kernel
theorem i_204_12 : pm_at q_204 12 = some (.iconst 0, 1) := by decide +kernel
theorem i_204_13 : pm_at q_204 13 = some (.istore 6, 2) := by decide +kernel
theorem i_204_15 : pm_at q_204 15 = some (.iconst 0, 1) := by decide +kernel
theorem i_204_16 : pm_at q_204 16 = some (.istore 7, 2) := by decide +kernel
theorem i_204_18 : pm_at q_204 18 = some (.iload 7, 2) := by decide +kernel
theorem i_204_20 : pm_at q_204 20 = some (.iconst 5, 1) := by decide +kernel
theorem i_204_21 : pm_at q_204 21 = some (.if_icmp .gt 56, 3) := by decide +kernel
theorem i_204_24 : pm_at q_204 24 = some (.iload 6, 2) := by decide +kernel
theorem i_204_26 : pm_at q_204 26 = some (.iload_n 0, 1) := by decide +kernel
theorem i_204_27 : pm_at q_204 27 = some (.iload 5, 2) := by decide +kernel
theorem i_204_29 : pm_at q_204 29 = some (.invokestatic 208, 3) := by decide +kernel
theorem i_204_32 : pm_at q_204 32 = some (.ifCond .eq 35, 3) := by decide +kernel
theorem i_204_35 : pm_at q_204 35 = some (.iload_n 0, 1) := by decide +kernel
theorem i_204_36 : pm_at q_204 36 = some (.iload 7, 2) := by decide +kernel
theorem i_204_38 : pm_at q_204 38 = some (.invokestatic 208, 3) := by decide +kernel
theorem i_204_41 : pm_at q_204 41 = some (.ifCond .eq 26, 3) := by decide +kernel
theorem i_204_44 : pm_at q_204 44 = some (.iload 5, 2) := by decide +kernel
theorem i_204_46 : pm_at q_204 46 = some (.iload_n 1, 1) := by decide +kernel
theorem i_204_47 : pm_at q_204 47 = some (.iload_n 2, 1) := by decide +kernel
theorem i_204_48 : pm_at q_204 48 = some (.iload_n 3, 1) := by decide +kernel
theorem i_204_49 : pm_at q_204 49 = some (.invokestatic 211, 3) := by decide +kernel
theorem i_204_52 : pm_at q_204 52 = some (.iload 7, 2) := by decide +kernel
theorem i_204_54 : pm_at q_204 54 = some (.iload_n 1, 1) := by decide +kernel
theorem i_204_55 : pm_at q_204 55 = some (.iload_n 2, 1) := by decide +kernel
theorem i_204_56 : pm_at q_204 56 = some (.iload_n 3, 1) := by decide +kernel
theorem i_204_57 : pm_at q_204 57 = some (.invokestatic 211, 3) := by decide +kernel
theorem i_204_60 : pm_at q_204 60 = some (.if_icmp .ne 7, 3) := by decide +kernel
theorem i_204_63 : pm_at q_204 63 = some (.iconst 1, 1) := by decide +kernel
theorem i_204_64 : pm_at q_204 64 = some (.goto 4, 3) := by decide +kernel
theorem i_204_67 : pm_at q_204 67 = some (.iconst 0, 1) := by decide +kernel
theorem i_204_68 : pm_at q_204 68 = some (.iadd, 1) := by decide +kernel
theorem i_204_69 : pm_at q_204 69 = some (.istore 6, 2) := by decide +kernel
theorem i_204_71 : pm_at q_204 71 = some (.iinc 7 1, 3) := by decide +kernel
theorem i_204_74 : pm_at q_204 74 = some (.goto (-56), 3) := by decide +kernel
theorem i_204_77 : pm_at q_204 77 = some (.iload 4, 2) := by decide +kernel
theorem i_204_79 : pm_at q_204 79 = some (.iload 6, 2) := by decide +kernel
theorem i_204_81 : pm_at q_204 81 = some (.invokestatic 252, 3) := by decide +kernel
theorem i_204_84 : pm_at q_204 84 = some (.istore 4, 2) := by decide +kernel
theorem i_204_86 : pm_at q_204 86 = some (.iinc 5 1, 3) := by decide +kernel
theorem i_204_89 : pm_at q_204 89 = some (.goto (-83), 3) := by decide +kernel
theorem i_204_92 : pm_at q_204 92 = some (.iload 4, 2) := by decide +kernel
theorem i_204_94 : pm_at q_204 94 = some (.ireturn, 1) := by decide +kernel
theorem i_205_0 : pm_at q_205 0 = some (.aload_n 0, 1) := by decide +kernel
theorem i_205_1 : pm_at q_205 1 = some (.iload_n 1, 1) := by decide +kernel
theorem i_205_2 : pm_at q_205 2 = some (.invokevirtual 240, 3) := by decide +kernel
theorem i_205_5 : pm_at q_205 5 = some (.ifCond .ne 8, 3) := by decide +kernel
theorem i_205_8 : pm_at q_205 8 = some (.aload_n 0, 1) := by decide +kernel
theorem i_205_9 : pm_at q_205 9 = some (.invokevirtual 119, 3) := by decide +kernel
theorem i_205_12 : pm_at q_205 12 = some (.ireturn, 1) := by decide +kernel
theorem i_205_13 : pm_at q_205 13 = some (.aload_n 0, 1) := by decide +kernel
theorem i_205_14 : pm_at q_205 14 = some (.iload_n 1, 1) := by decide +kernel
theorem i_205_15 : pm_at q_205 15 = some (.invokevirtual 291, 3) := by decide +kernel
theorem i_205_18 : pm_at q_205 18 = some (.istore_n 2, 1) := by decide +kernel
theorem i_205_19 : pm_at q_205 19 = some (.iconst (-1), 1) := by decide +kernel
theorem i_205_20 : pm_at q_205 20 = some (.istore_n 3, 1) := by decide +kernel
theorem i_205_21 : pm_at q_205 21 = some (.ldc_w 273, 3) := by decide +kernel
theorem i_205_24 : pm_at q_205 24 = some (.istore 4, 2) := by decide +kernel
theorem i_205_26 : pm_at q_205 26 = some (.iconst 0, 1) := by decide +kernel
theorem i_205_27 : pm_at q_205 27 = some (.istore 5, 2) := by decide +kernel
theorem i_205_29 : pm_at q_205 29 = some (.iload 5, 2) := by decide +kernel
theorem i_205_31 : pm_at q_205 31 = some (.bipush 12, 2) := by decide +kernel
theorem i_205_33 : pm_at q_205 33 = some (.if_icmp .gt 73, 3) := by decide +kernel
theorem i_205_36 : pm_at q_205 36 = some (.iload_n 2, 1) := by decide +kernel
theorem i_205_37 : pm_at q_205 37 = some (.ifCond .eq 69, 3) := by decide +kernel
theorem i_205_40 : pm_at q_205 40 = some (.iconst 0, 1) := by decide +kernel
theorem i_205_41 : pm_at q_205 41 = some (.istore 6, 2) := by decide +kernel
theorem i_205_43 : pm_at q_205 43 = some (.iload 6, 2) := by decide +kernel
theorem i_205_45 : pm_at q_205 45 = some (.iconst 4, 1) := by decide +kernel
theorem i_205_46 : pm_at q_205 46 = some (.if_icmp .ge 54, 3) := by decide +kernel
theorem i_205_49 : pm_at q_205 49 = some (.iload_n 2, 1) := by decide +kernel
theorem i_205_50 : pm_at q_205 50 = some (.iload 5, 2) := by decide +kernel
theorem i_205_52 : pm_at q_205 52 = some (.aload_n 0, 1) := by decide +kernel
theorem i_205_53 : pm_at q_205 53 = some (.getfield 19, 3) := by decide +kernel
theorem i_205_56 : pm_at q_205 56 = some (.iload_n 1, 1) := by decide +kernel
theorem i_205_57 : pm_at q_205 57 = some (.iaload, 1) := by decide +kernel
theorem i_205_58 : pm_at q_205 58 = some (.iload 6, 2) := by decide +kernel
theorem i_205_60 : pm_at q_205 60 = some (.invokestatic 294, 3) := by decide +kernel
theorem i_205_63 : pm_at q_205 63 = some (.istore 7, 2) := by decide +kernel
theorem i_205_65 : pm_at q_205 65 = some (.iload 7, 2) := by decide +kernel
theorem i_205_67 : pm_at q_205 67 = some (.iload 4, 2) := by decide +kernel
theorem i_205_69 : pm_at q_205 69 = some (.if_icmp .ge 14, 3) := by decide +kernel
theorem i_205_72 : pm_at q_205 72 = some (.bipush 10, 2) := by decide +kernel
theorem i_205_74 : pm_at q_205 74 = some (.iload 5, 2) := by decide +kernel
theorem i_205_76 : pm_at q_205 76 = some (.imul, 1) := by decide +kernel
theorem i_205_77 : pm_at q_205 77 = some (.iload 6, 2) := by decide +kernel
theorem i_205_79 : pm_at q_205 79 = some (.iadd, 1) := by decide +kernel
theorem i_205_80 : pm_at q_205 80 = some (.goto 4, 3) := by decide +kernel
theorem i_205_83 : pm_at q_205 83 = some (.iload_n 3, 1) := by decide +kernel
theorem i_205_84 : pm_at q_205 84 = some (.istore_n 3, 1) := by decide +kernel
theorem i_205_85 : pm_at q_205 85 = some (.iload 4, 2) := by decide +kernel
theorem i_205_87 : pm_at q_205 87 = some (.iload 7, 2) := by decide +kernel
theorem i_205_89 : pm_at q_205 89 = some (.invokestatic 225, 3) := by decide +kernel
theorem i_205_92 : pm_at q_205 92 = some (.istore 4, 2) := by decide +kernel
theorem i_205_94 : pm_at q_205 94 = some (.iinc 6 1, 3) := by decide +kernel
theorem i_205_97 : pm_at q_205 97 = some (.goto (-54), 3) := by decide +kernel
theorem i_205_100 : pm_at q_205 100 = some (.iinc 5 1, 3) := by decide +kernel
theorem i_205_103 : pm_at q_205 103 = some (.goto (-74), 3) := by decide +kernel
theorem i_205_106 : pm_at q_205 106 = some (.iload_n 3, 1) := by decide +kernel
theorem i_205_107 : pm_at q_205 107 = some (.ireturn, 1) := by decide +kernel
theorem i_206_0 : pm_at q_206 0 = some (.iconst 1, 1) := by decide +kernel
theorem i_206_1 : pm_at q_206 1 = some (.istore_n 1, 1) := by decide +kernel
theorem i_206_2 : pm_at q_206 2 = some (.iconst 0, 1) := by decide +kernel
theorem i_206_3 : pm_at q_206 3 = some (.istore_n 2, 1) := by decide +kernel
theorem i_206_4 : pm_at q_206 4 = some (.iload_n 2, 1) := by decide +kernel
theorem i_206_5 : pm_at q_206 5 = some (.aload_n 0, 1) := by decide +kernel
theorem i_206_6 : pm_at q_206 6 = some (.getfield 109, 3) := by decide +kernel
theorem i_206_9 : pm_at q_206 9 = some (.if_icmp .ge 38, 3) := by decide +kernel
theorem i_206_12 : pm_at q_206 12 = some (.iload_n 1, 1) := by decide +kernel
theorem i_206_13 : pm_at q_206 13 = some (.ifCond .eq 26, 3) := by decide +kernel
theorem i_206_16 : pm_at q_206 16 = some (.aload_n 0, 1) := by decide +kernel
theorem i_206_17 : pm_at q_206 17 = some (.aload_n 0, 1) := by decide +kernel
theorem i_206_18 : pm_at q_206 18 = some (.getfield 37, 3) := by decide +kernel
theorem i_206_21 : pm_at q_206 21 = some (.iload_n 2, 1) := by decide +kernel
theorem i_206_22 : pm_at q_206 22 = some (.iaload, 1) := by decide +kernel
theorem i_206_23 : pm_at q_206 23 = some (.invokevirtual 237, 3) := by decide +kernel
theorem i_206_26 : pm_at q_206 26 = some (.aload_n 0, 1) := by decide +kernel
theorem i_206_27 : pm_at q_206 27 = some (.getfield 40, 3) := by decide +kernel
theorem i_206_30 : pm_at q_206 30 = some (.iload_n 2, 1) := by decide +kernel
theorem i_206_31 : pm_at q_206 31 = some (.iaload, 1) := by decide +kernel
theorem i_206_32 : pm_at q_206 32 = some (.if_icmp .ne 7, 3) := by decide +kernel
theorem i_206_35 : pm_at q_206 35 = some (.iconst 1, 1) := by decide +kernel
theorem i_206_36 : pm_at q_206 36 = some (.goto 4, 3) := by decide +kernel
theorem i_206_39 : pm_at q_206 39 = some (.iconst 0, 1) := by decide +kernel
theorem i_206_40 : pm_at q_206 40 = some (.istore_n 1, 1) := by decide +kernel
theorem i_206_41 : pm_at q_206 41 = some (.iinc 2 1, 3) := by decide +kernel
theorem i_206_44 : pm_at q_206 44 = some (.goto (-40), 3) := by decide +kernel
theorem i_206_47 : pm_at q_206 47 = some (.iload_n 1, 1) := by decide +kernel
theorem i_206_48 : pm_at q_206 48 = some (.ireturn, 1) := by decide +kernel
theorem i_207_0 : pm_at q_207 0 = some (.aload_n 0, 1) := by decide +kernel
theorem i_207_1 : pm_at q_207 1 = some (.iload_n 1, 1) := by decide +kernel
theorem i_207_2 : pm_at q_207 2 = some (.invokevirtual 240, 3) := by decide +kernel
theorem i_207_5 : pm_at q_207 5 = some (.ifCond .eq 12, 3) := by decide +kernel
theorem i_207_8 : pm_at q_207 8 = some (.iload_n 2, 1) := by decide +kernel
theorem i_207_9 : pm_at q_207 9 = some (.iconst 0, 1) := by decide +kernel
theorem i_207_10 : pm_at q_207 10 = some (.iconst 1, 1) := by decide +kernel
theorem i_207_11 : pm_at q_207 11 = some (.invokestatic 115, 3) := by decide +kernel
theorem i_207_14 : pm_at q_207 14 = some (.ifCond .ne 8, 3) := by decide +kernel
theorem i_207_17 : pm_at q_207 17 = some (.aload_n 0, 1) := by decide +kernel
theorem i_207_18 : pm_at q_207 18 = some (.invokevirtual 119, 3) := by decide +kernel
theorem i_207_21 : pm_at q_207 21 = some (.ireturn, 1) := by decide +kernel
theorem i_207_22 : pm_at q_207 22 = some (.aload_n 0, 1) := by decide +kernel
theorem i_207_23 : pm_at q_207 23 = some (.getfield 22, 3) := by decide +kernel
theorem i_207_26 : pm_at q_207 26 = some (.iload_n 1, 1) := by decide +kernel
theorem i_207_27 : pm_at q_207 27 = some (.iaload, 1) := by decide +kernel
theorem i_207_28 : pm_at q_207 28 = some (.istore_n 3, 1) := by decide +kernel
theorem i_207_29 : pm_at q_207 29 = some (.aload_n 0, 1) := by decide +kernel
theorem i_207_30 : pm_at q_207 30 = some (.getfield 19, 3) := by decide +kernel
theorem i_207_33 : pm_at q_207 33 = some (.iload_n 1, 1) := by decide +kernel
theorem i_207_34 : pm_at q_207 34 = some (.iaload, 1) := by decide +kernel
theorem i_207_35 : pm_at q_207 35 = some (.istore 4, 2) := by decide +kernel
theorem i_207_37 : pm_at q_207 37 = some (.iconst 0, 1) := by decide +kernel
theorem i_207_38 : pm_at q_207 38 = some (.istore 5, 2) := by decide +kernel
theorem i_207_40 : pm_at q_207 40 = some (.iload_n 2, 1) := by decide +kernel
theorem i_207_41 : pm_at q_207 41 = some (.istore 6, 2) := by decide +kernel
theorem i_207_43 : pm_at q_207 43 = some (.iload 6, 2) := by decide +kernel
theorem i_207_45 : pm_at q_207 45 = some (.bipush 9, 2) := by decide +kernel
theorem i_207_47 : pm_at q_207 47 = some (.if_icmp .gt 63, 3) := by decide +kernel
theorem i_207_50 : pm_at q_207 50 = some (.aload_n 0, 1) := by decide +kernel
theorem i_207_51 : pm_at q_207 51 = some (.getfield 22, 3) := by decide +kernel
theorem i_207_54 : pm_at q_207 54 = some (.iload_n 1, 1) := by decide +kernel
theorem i_207_55 : pm_at q_207 55 = some (.iload_n 2, 1) := by decide +kernel
theorem i_207_56 : pm_at q_207 56 = some (.ifCond .ne 8, 3) := by decide +kernel
theorem i_207_59 : pm_at q_207 59 = some (.iload 6, 2) := by decide +kernel
theorem i_207_61 : pm_at q_207 61 = some (.goto 4, 3) := by decide +kernel
theorem i_207_64 : pm_at q_207 64 = some (.iload_n 3, 1) := by decide +kernel
theorem i_207_65 : pm_at q_207 65 = some (.iastore, 1) := by decide +kernel
theorem i_207_66 : pm_at q_207 66 = some (.aload_n 0, 1) := by decide +kernel
theorem i_207_67 : pm_at q_207 67 = some (.getfield 19, 3) := by decide +kernel
theorem i_207_70 : pm_at q_207 70 = some (.iload_n 1, 1) := by decide +kernel
theorem i_207_71 : pm_at q_207 71 = some (.iload_n 2, 1) := by decide +kernel
theorem i_207_72 : pm_at q_207 72 = some (.iconst 1, 1) := by decide +kernel
theorem i_207_73 : pm_at q_207 73 = some (.if_icmp .ne 8, 3) := by decide +kernel
theorem i_207_76 : pm_at q_207 76 = some (.iload 6, 2) := by decide +kernel
theorem i_207_78 : pm_at q_207 78 = some (.goto 5, 3) := by decide +kernel
theorem i_207_81 : pm_at q_207 81 = some (.iload 4, 2) := by decide +kernel
theorem i_207_83 : pm_at q_207 83 = some (.iastore, 1) := by decide +kernel
theorem i_207_84 : pm_at q_207 84 = some (.iload 5, 2) := by decide +kernel
theorem i_207_86 : pm_at q_207 86 = some (.aload_n 0, 1) := by decide +kernel
theorem i_207_87 : pm_at q_207 87 = some (.invokevirtual 297, 3) := by decide +kernel
theorem i_207_90 : pm_at q_207 90 = some (.ifCond .eq 10, 3) := by decide +kernel
theorem i_207_93 : pm_at q_207 93 = some (.iconst 1, 1) := by decide +kernel
theorem i_207_94 : pm_at q_207 94 = some (.iload 6, 2) := by decide +kernel
theorem i_207_96 : pm_at q_207 96 = some (.ishl, 1) := by decide +kernel
theorem i_207_97 : pm_at q_207 97 = some (.goto 4, 3) := by decide +kernel
theorem i_207_100 : pm_at q_207 100 = some (.iconst 0, 1) := by decide +kernel
theorem i_207_101 : pm_at q_207 101 = some (.ior, 1) := by decide +kernel
theorem i_207_102 : pm_at q_207 102 = some (.istore 5, 2) := by decide +kernel
theorem i_207_104 : pm_at q_207 104 = some (.iinc 6 1, 3) := by decide +kernel
theorem i_207_107 : pm_at q_207 107 = some (.goto (-64), 3) := by decide +kernel
theorem i_207_110 : pm_at q_207 110 = some (.aload_n 0, 1) := by decide +kernel
theorem i_207_111 : pm_at q_207 111 = some (.getfield 22, 3) := by decide +kernel
theorem i_207_114 : pm_at q_207 114 = some (.iload_n 1, 1) := by decide +kernel
theorem i_207_115 : pm_at q_207 115 = some (.iload_n 3, 1) := by decide +kernel
theorem i_207_116 : pm_at q_207 116 = some (.iastore, 1) := by decide +kernel
theorem i_207_117 : pm_at q_207 117 = some (.aload_n 0, 1) := by decide +kernel
theorem i_207_118 : pm_at q_207 118 = some (.getfield 19, 3) := by decide +kernel
theorem i_207_121 : pm_at q_207 121 = some (.iload_n 1, 1) := by decide +kernel
theorem i_207_122 : pm_at q_207 122 = some (.iload 4, 2) := by decide +kernel
theorem i_207_124 : pm_at q_207 124 = some (.iastore, 1) := by decide +kernel
theorem i_207_125 : pm_at q_207 125 = some (.iload 5, 2) := by decide +kernel
theorem i_207_127 : pm_at q_207 127 = some (.ireturn, 1) := by decide +kernel
theorem i_208_0 : pm_at q_208 0 = some (.aload_n 0, 1) := by decide +kernel
theorem i_208_1 : pm_at q_208 1 = some (.getfield 76, 3) := by decide +kernel
theorem i_208_4 : pm_at q_208 4 = some (.iload_n 1, 1) := by decide +kernel
theorem i_208_5 : pm_at q_208 5 = some (.iload_n 2, 1) := by decide +kernel
theorem i_208_6 : pm_at q_208 6 = some (.invokestatic 252, 3) := by decide +kernel
theorem i_208_9 : pm_at q_208 9 = some (.iaload, 1) := by decide +kernel
theorem i_208_10 : pm_at q_208 10 = some (.iload_n 1, 1) := by decide +kernel
theorem i_208_11 : pm_at q_208 11 = some (.iconst 4, 1) := by decide +kernel
theorem i_208_12 : pm_at q_208 12 = some (.idiv, 1) := by decide +kernel
theorem i_208_13 : pm_at q_208 13 = some (.isub, 1) := by decide +kernel
theorem i_208_14 : pm_at q_208 14 = some (.ireturn, 1) := by decide +kernel
theorem i_209_0 : pm_at q_209 0 = some (.aload_n 0, 1) := by decide +kernel
theorem i_209_1 : pm_at q_209 1 = some (.getfield 79, 3) := by decide +kernel
theorem i_209_4 : pm_at q_209 4 = some (.iload_n 1, 1) := by decide +kernel
theorem i_209_5 : pm_at q_209 5 = some (.iload_n 2, 1) := by decide +kernel
theorem i_209_6 : pm_at q_209 6 = some (.invokestatic 252, 3) := by decide +kernel
theorem i_209_9 : pm_at q_209 9 = some (.iaload, 1) := by decide +kernel
theorem i_209_10 : pm_at q_209 10 = some (.iload_n 2, 1) := by decide +kernel
theorem i_209_11 : pm_at q_209 11 = some (.iconst 4, 1) := by decide +kernel
theorem i_209_12 : pm_at q_209 12 = some (.idiv, 1) := by decide +kernel
theorem i_209_13 : pm_at q_209 13 = some (.isub, 1) := by decide +kernel
theorem i_209_14 : pm_at q_209 14 = some (.ireturn, 1) := by decide +kernel
theorem i_210_0 : pm_at q_210 0 = some (.iconst 1, 1) := by decide +kernel
theorem i_210_1 : pm_at q_210 1 = some (.istore_n 3, 1) := by decide +kernel
theorem i_210_2 : pm_at q_210 2 = some (.iconst 0, 1) := by decide +kernel
theorem i_210_3 : pm_at q_210 3 = some (.istore 4, 2) := by decide +kernel
theorem i_210_5 : pm_at q_210 5 = some (.iload 4, 2) := by decide +kernel
theorem i_210_7 : pm_at q_210 7 = some (.bipush 12, 2) := by decide +kernel
theorem i_210_9 : pm_at q_210 9 = some (.if_icmp .gt 51, 3) := by decide +kernel
theorem i_210_12 : pm_at q_210 12 = some (.iload_n 3, 1) := by decide +kernel
theorem i_210_13 : pm_at q_210 13 = some (.ifCond .eq 39, 3) := by decide +kernel
theorem i_210_16 : pm_at q_210 16 = some (.aload_n 0, 1) := by decide +kernel
theorem i_210_17 : pm_at q_210 17 = some (.iload_n 1, 1) := by decide +kernel
theorem i_210_18 : pm_at q_210 18 = some (.iload_n 2, 1) := by decide +kernel
theorem i_210_19 : pm_at q_210 19 = some (.invokevirtual 300, 3) := by decide +kernel
theorem i_210_22 : pm_at q_210 22 = some (.aload_n 0, 1) := by decide +kernel
theorem i_210_23 : pm_at q_210 23 = some (.iload 4, 2) := by decide +kernel
theorem i_210_25 : pm_at q_210 25 = some (.iload_n 2, 1) := by decide +kernel
theorem i_210_26 : pm_at q_210 26 = some (.invokevirtual 300, 3) := by decide +kernel
theorem i_210_29 : pm_at q_210 29 = some (.if_icmp .lt 23, 3) := by decide +kernel
theorem i_210_32 : pm_at q_210 32 = some (.aload_n 0, 1) := by decide +kernel
theorem i_210_33 : pm_at q_210 33 = some (.iload_n 1, 1) := by decide +kernel
theorem i_210_34 : pm_at q_210 34 = some (.iload_n 2, 1) := by decide +kernel
theorem i_210_35 : pm_at q_210 35 = some (.invokevirtual 303, 3) := by decide +kernel
theorem i_210_38 : pm_at q_210 38 = some (.aload_n 0, 1) := by decide +kernel
theorem i_210_39 : pm_at q_210 39 = some (.iload_n 1, 1) := by decide +kernel
theorem i_210_40 : pm_at q_210 40 = some (.iload 4, 2) := by decide +kernel
theorem i_210_42 : pm_at q_210 42 = some (.invokevirtual 303, 3) := by decide +kernel
theorem i_210_45 : pm_at q_210 45 = some (.if_icmp .lt 7, 3) := by decide +kernel
theorem i_210_48 : pm_at q_210 48 = some (.iconst 1, 1) := by decide +kernel
theorem i_210_49 : pm_at q_210 49 = some (.goto 4, 3) := by decide +kernel
theorem i_210_52 : pm_at q_210 52 = some (.iconst 0, 1) := by decide +kernel
theorem i_210_53 : pm_at q_210 53 = some (.istore_n 3, 1) := by decide +kernel
theorem i_210_54 : pm_at q_210 54 = some (.iinc 4 1, 3) := by decide +kernel
theorem i_210_57 : pm_at q_210 57 = some (.goto (-52), 3) := by decide +kernel
theorem i_210_60 : pm_at q_210 60 = some (.iload_n 3, 1) := by decide +kernel
theorem i_210_61 : pm_at q_210 61 = some (.ireturn, 1) := by decide +kernel
theorem i_211_0 : pm_at q_211 0 = some (.iload_n 1, 1) := by decide +kernel
theorem i_211_1 : pm_at q_211 1 = some (.iconst (-1), 1) := by decide +kernel
theorem i_211_2 : pm_at q_211 2 = some (.if_icmp .ge 8, 3) := by decide +kernel
theorem i_211_5 : pm_at q_211 5 = some (.aload_n 0, 1) := by decide +kernel
theorem i_211_6 : pm_at q_211 6 = some (.invokevirtual 267, 3) := by decide +kernel
theorem i_211_9 : pm_at q_211 9 = some (.ireturn, 1) := by decide +kernel
theorem i_211_10 : pm_at q_211 10 = some (.iconst 0, 1) := by decide +kernel
theorem i_211_11 : pm_at q_211 11 = some (.istore_n 2, 1) := by decide +kernel
theorem i_211_12 : pm_at q_211 12 = some (.iload_n 2, 1) := by decide +kernel
theorem i_211_13 : pm_at q_211 13 = some (.bipush 12, 2) := by decide +kernel
theorem i_211_15 : pm_at q_211 15 = some (.if_icmp .gt 67, 3) := by decide +kernel
theorem i_211_18 : pm_at q_211 18 = some (.aload_n 0, 1) := by decide +kernel
theorem i_211_19 : pm_at q_211 19 = some (.getfield 76, 3) := by decide +kernel
theorem i_211_22 : pm_at q_211 22 = some (.iload_n 2, 1) := by decide +kernel
theorem i_211_23 : pm_at q_211 23 = some (.aload_n 0, 1) := by decide +kernel
theorem i_211_24 : pm_at q_211 24 = some (.iload_n 2, 1) := by decide +kernel
theorem i_211_25 : pm_at q_211 25 = some (.invokevirtual 237, 3) := by decide +kernel
theorem i_211_28 : pm_at q_211 28 = some (.invokestatic 249, 3) := by decide +kernel
theorem i_211_31 : pm_at q_211 31 = some (.iastore, 1) := by decide +kernel
theorem i_211_32 : pm_at q_211 32 = some (.aload_n 0, 1) := by decide +kernel
theorem i_211_33 : pm_at q_211 33 = some (.getfield 79, 3) := by decide +kernel
theorem i_211_36 : pm_at q_211 36 = some (.iload_n 2, 1) := by decide +kernel
theorem i_211_37 : pm_at q_211 37 = some (.iconst 0, 1) := by decide +kernel
theorem i_211_38 : pm_at q_211 38 = some (.iastore, 1) := by decide +kernel
theorem i_211_39 : pm_at q_211 39 = some (.iconst 0, 1) := by decide +kernel
theorem i_211_40 : pm_at q_211 40 = some (.istore_n 3, 1) := by decide +kernel
theorem i_211_41 : pm_at q_211 41 = some (.iload_n 3, 1) := by decide +kernel
theorem i_211_42 : pm_at q_211 42 = some (.aload_n 0, 1) := by decide +kernel
theorem i_211_43 : pm_at q_211 43 = some (.getfield 96, 3) := by decide +kernel
theorem i_211_46 : pm_at q_211 46 = some (.if_icmp .ge 30, 3) := by decide +kernel
theorem i_211_49 : pm_at q_211 49 = some (.aload_n 0, 1) := by decide +kernel
theorem i_211_50 : pm_at q_211 50 = some (.getfield 79, 3) := by decide +kernel
theorem i_211_53 : pm_at q_211 53 = some (.iload_n 2, 1) := by decide +kernel
theorem i_211_54 : pm_at q_211 54 = some (.aload_n 0, 1) := by decide +kernel
theorem i_211_55 : pm_at q_211 55 = some (.getfield 79, 3) := by decide +kernel
theorem i_211_58 : pm_at q_211 58 = some (.iload_n 2, 1) := by decide +kernel
theorem i_211_59 : pm_at q_211 59 = some (.iaload, 1) := by decide +kernel
theorem i_211_60 : pm_at q_211 60 = some (.aload_n 0, 1) := by decide +kernel
theorem i_211_61 : pm_at q_211 61 = some (.iload_n 3, 1) := by decide +kernel
theorem i_211_62 : pm_at q_211 62 = some (.iload_n 2, 1) := by decide +kernel
theorem i_211_63 : pm_at q_211 63 = some (.invokevirtual 219, 3) := by decide +kernel
theorem i_211_66 : pm_at q_211 66 = some (.invokestatic 252, 3) := by decide +kernel
theorem i_211_69 : pm_at q_211 69 = some (.iastore, 1) := by decide +kernel
theorem i_211_70 : pm_at q_211 70 = some (.iinc 3 1, 3) := by decide +kernel
theorem i_211_73 : pm_at q_211 73 = some (.goto (-32), 3) := by decide +kernel
theorem i_211_76 : pm_at q_211 76 = some (.iinc 2 1, 3) := by decide +kernel
theorem i_211_79 : pm_at q_211 79 = some (.goto (-67), 3) := by decide +kernel
theorem i_211_82 : pm_at q_211 82 = some (.iconst 0, 1) := by decide +kernel
theorem i_211_83 : pm_at q_211 83 = some (.istore_n 2, 1) := by decide +kernel
theorem i_211_84 : pm_at q_211 84 = some (.bipush (-5), 2) := by decide +kernel
theorem i_211_86 : pm_at q_211 86 = some (.istore_n 3, 1) := by decide +kernel
theorem i_211_87 : pm_at q_211 87 = some (.iconst 0, 1) := by decide +kernel
theorem i_211_88 : pm_at q_211 88 = some (.istore 4, 2) := by decide +kernel
theorem i_211_90 : pm_at q_211 90 = some (.iload 4, 2) := by decide +kernel
theorem i_211_92 : pm_at q_211 92 = some (.bipush 12, 2) := by decide +kernel
theorem i_211_94 : pm_at q_211 94 = some (.if_icmp .gt 57, 3) := by decide +kernel
theorem i_211_97 : pm_at q_211 97 = some (.iconst 0, 1) := by decide +kernel
theorem i_211_98 : pm_at q_211 98 = some (.istore 5, 2) := by decide +kernel
theorem i_211_100 : pm_at q_211 100 = some (.iload 5, 2) := by decide +kernel
theorem i_211_102 : pm_at q_211 102 = some (.bipush 12, 2) := by decide +kernel
theorem i_211_104 : pm_at q_211 104 = some (.if_icmp .gt 41, 3) := by decide +kernel
theorem i_211_107 : pm_at q_211 107 = some (.aload_n 0, 1) := by decide +kernel
theorem i_211_108 : pm_at q_211 108 = some (.iload 4, 2) := by decide +kernel
theorem i_211_110 : pm_at q_211 110 = some (.iload 5, 2) := by decide +kernel
theorem i_211_112 : pm_at q_211 112 = some (.invokevirtual 306, 3) := by decide +kernel
theorem i_211_115 : pm_at q_211 115 = some (.ifCond .eq 24, 3) := by decide +kernel
theorem i_211_118 : pm_at q_211 118 = some (.iload_n 2, 1) := by decide +kernel
theorem i_211_119 : pm_at q_211 119 = some (.iload_n 1, 1) := by decide +kernel
theorem i_211_120 : pm_at q_211 120 = some (.if_icmp .ne 14, 3) := by decide +kernel
theorem i_211_123 : pm_at q_211 123 = some (.bipush 13, 2) := by decide +kernel
theorem i_211_125 : pm_at q_211 125 = some (.iload 4, 2) := by decide +kernel
theorem i_211_127 : pm_at q_211 127 = some (.imul, 1) := by decide +kernel
theorem i_211_128 : pm_at q_211 128 = some (.iload 5, 2) := by decide +kernel
theorem i_211_130 : pm_at q_211 130 = some (.iadd, 1) := by decide +kernel
theorem i_211_131 : pm_at q_211 131 = some (.goto 4, 3) := by decide +kernel
theorem i_211_134 : pm_at q_211 134 = some (.iload_n 3, 1) := by decide +kernel
theorem i_211_135 : pm_at q_211 135 = some (.istore_n 3, 1) := by decide +kernel
theorem i_211_136 : pm_at q_211 136 = some (.iinc 2 1, 3) := by decide +kernel
theorem i_211_139 : pm_at q_211 139 = some (.iinc 5 1, 3) := by decide +kernel
theorem i_211_142 : pm_at q_211 142 = some (.goto (-42), 3) := by decide +kernel
theorem i_211_145 : pm_at q_211 145 = some (.iinc 4 1, 3) := by decide +kernel
theorem i_211_148 : pm_at q_211 148 = some (.goto (-58), 3) := by decide +kernel
theorem i_211_151 : pm_at q_211 151 = some (.iload_n 1, 1) := by decide +kernel
theorem i_211_152 : pm_at q_211 152 = some (.iconst (-1), 1) := by decide +kernel
theorem i_211_153 : pm_at q_211 153 = some (.if_icmp .ne 7, 3) := by decide +kernel
theorem i_211_156 : pm_at q_211 156 = some (.iload_n 2, 1) := by decide +kernel
theorem i_211_157 : pm_at q_211 157 = some (.goto 4, 3) := by decide +kernel
theorem i_211_160 : pm_at q_211 160 = some (.iload_n 3, 1) := by decide +kernel
theorem i_211_161 : pm_at q_211 161 = some (.ireturn, 1) := by decide +kernel
theorem i_212_0 : pm_at q_212 0 = some (.lload_n 1, 1) := by decide +kernel
theorem i_212_1 : pm_at q_212 1 = some (.lstore 5, 2) := by decide +kernel
theorem i_212_3 : pm_at q_212 3 = some (.lload_n 3, 1) := by decide +kernel
theorem i_212_4 : pm_at q_212 4 = some (.lstore 7, 2) := by decide +kernel
theorem i_212_6 : pm_at q_212 6 = some (.lload 7, 2) := by decide +kernel
theorem i_212_8 : pm_at q_212 8 = some (.lconst 0, 1) := by decide +kernel
theorem i_212_9 : pm_at q_212 9 = some (.lcmp, 1) := by decide +kernel
theorem i_212_10 : pm_at q_212 10 = some (.ifCond .eq 21, 3) := by decide +kernel
theorem i_212_13 : pm_at q_212 13 = some (.lload 5, 2) := by decide +kernel
theorem i_212_15 : pm_at q_212 15 = some (.lload 7, 2) := by decide +kernel
theorem i_212_17 : pm_at q_212 17 = some (.lrem, 1) := by decide +kernel
theorem i_212_18 : pm_at q_212 18 = some (.lstore 9, 2) := by decide +kernel
theorem i_212_20 : pm_at q_212 20 = some (.lload 7, 2) := by decide +kernel
theorem i_212_22 : pm_at q_212 22 = some (.lstore 5, 2) := by decide +kernel
theorem i_212_24 : pm_at q_212 24 = some (.lload 9, 2) := by decide +kernel
theorem i_212_26 : pm_at q_212 26 = some (.lstore 7, 2) := by decide +kernel
theorem i_212_28 : pm_at q_212 28 = some (.goto (-22), 3) := by decide +kernel
theorem i_212_31 : pm_at q_212 31 = some (.aload_n 0, 1) := by decide +kernel
theorem i_212_32 : pm_at q_212 32 = some (.lload_n 1, 1) := by decide +kernel
theorem i_212_33 : pm_at q_212 33 = some (.lload 5, 2) := by decide +kernel
theorem i_212_35 : pm_at q_212 35 = some (.ldiv, 1) := by decide +kernel
theorem i_212_36 : pm_at q_212 36 = some (.putfield 309, 3) := by decide +kernel
theorem i_212_39 : pm_at q_212 39 = some (.aload_n 0, 1) := by decide +kernel
theorem i_212_40 : pm_at q_212 40 = some (.lload_n 3, 1) := by decide +kernel
theorem i_212_41 : pm_at q_212 41 = some (.lload 5, 2) := by decide +kernel
theorem i_212_43 : pm_at q_212 43 = some (.ldiv, 1) := by decide +kernel
theorem i_212_44 : pm_at q_212 44 = some (.putfield 82, 3) := by decide +kernel
theorem i_212_47 : pm_at q_212 47 = some (.return_, 1) := by decide +kernel
theorem i_213_0 : pm_at q_213 0 = some (.iload_n 1, 1) := by decide +kernel
theorem i_213_1 : pm_at q_213 1 = some (.invokestatic 228, 3) := by decide +kernel
theorem i_213_4 : pm_at q_213 4 = some (.ifCond .eq 13, 3) := by decide +kernel
theorem i_213_7 : pm_at q_213 7 = some (.iload_n 2, 1) := by decide +kernel
theorem i_213_8 : pm_at q_213 8 = some (.iconst 0, 1) := by decide +kernel
theorem i_213_9 : pm_at q_213 9 = some (.bipush 10, 2) := by decide +kernel
theorem i_213_11 : pm_at q_213 11 = some (.invokestatic 115, 3) := by decide +kernel
theorem i_213_14 : pm_at q_213 14 = some (.ifCond .ne 8, 3) := by decide +kernel
theorem i_213_17 : pm_at q_213 17 = some (.aload_n 0, 1) := by decide +kernel
theorem i_213_18 : pm_at q_213 18 = some (.invokevirtual 119, 3) := by decide +kernel
theorem i_213_21 : pm_at q_213 21 = some (.ireturn, 1) := by decide +kernel
theorem i_213_22 : pm_at q_213 22 = some (.iconst 0, 1) := by decide +kernel
theorem i_213_23 : pm_at q_213 23 = some (.istore_n 3, 1) := by decide +kernel
theorem i_213_24 : pm_at q_213 24 = some (.lconst 1, 1) := by decide +kernel
theorem i_213_25 : pm_at q_213 25 = some (.lstore 4, 2) := by decide +kernel
theorem i_213_27 : pm_at q_213 27 = some (.iconst 0, 1) := by decide +kernel
theorem i_213_28 : pm_at q_213 28 = some (.istore 6, 2) := by decide +kernel
theorem i_213_30 : pm_at q_213 30 = some (.iload 6, 2) := by decide +kernel
theorem i_213_32 : pm_at q_213 32 = some (.aload_n 0, 1) := by decide +kernel
theorem i_213_33 : pm_at q_213 33 = some (.getfield 96, 3) := by decide +kernel
theorem i_213_36 : pm_at q_213 36 = some (.if_icmp .ge 50, 3) := by decide +kernel
theorem i_213_39 : pm_at q_213 39 = some (.iload_n 3, 1) := by decide +kernel
theorem i_213_40 : pm_at q_213 40 = some (.aload_n 0, 1) := by decide +kernel
theorem i_213_41 : pm_at q_213 41 = some (.iload 6, 2) := by decide +kernel
theorem i_213_43 : pm_at q_213 43 = some (.invokevirtual 202, 3) := by decide +kernel
theorem i_213_46 : pm_at q_213 46 = some (.ifCond .eq 7, 3) := by decide +kernel
theorem i_213_49 : pm_at q_213 49 = some (.iconst 0, 1) := by decide +kernel
theorem i_213_50 : pm_at q_213 50 = some (.goto 7, 3) := by decide +kernel
theorem i_213_53 : pm_at q_213 53 = some (.iconst 1, 1) := by decide +kernel
theorem i_213_54 : pm_at q_213 54 = some (.iload 6, 2) := by decide +kernel
theorem i_213_56 : pm_at q_213 56 = some (.ishl, 1) := by decide +kernel
theorem i_213_57 : pm_at q_213 57 = some (.ior, 1) := by decide +kernel
theorem i_213_58 : pm_at q_213 58 = some (.istore_n 3, 1) := by decide +kernel
theorem i_213_59 : pm_at q_213 59 = some (.lload 4, 2) := by decide +kernel
theorem i_213_61 : pm_at q_213 61 = some (.aload_n 0, 1) := by decide +kernel
theorem i_213_62 : pm_at q_213 62 = some (.iload 6, 2) := by decide +kernel
theorem i_213_64 : pm_at q_213 64 = some (.invokevirtual 202, 3) := by decide +kernel
theorem i_213_67 : pm_at q_213 67 = some (.ifCond .eq 7, 3) := by decide +kernel
theorem i_213_70 : pm_at q_213 70 = some (.lconst 1, 1) := by decide +kernel
theorem i_213_71 : pm_at q_213 71 = some (.goto 6, 3) := by decide +kernel
theorem i_213_74 : pm_at q_213 74 = some (.ldc2_w 312, 3) := by decide +kernel
theorem i_213_77 : pm_at q_213 77 = some (.lmul, 1) := by decide +kernel
theorem i_213_78 : pm_at q_213 78 = some (.lstore 4, 2) := by decide +kernel
theorem i_213_80 : pm_at q_213 80 = some (.iinc 6 1, 3) := by decide +kernel
theorem i_213_83 : pm_at q_213 83 = some (.goto (-53), 3) := by decide +kernel
theorem i_213_86 : pm_at q_213 86 = some (.lconst 0, 1) := by decide +kernel
theorem i_213_87 : pm_at q_213 87 = some (.lstore 6, 2) := by decide +kernel
theorem i_213_89 : pm_at q_213 89 = some (.iconst 0, 1) := by decide +kernel
theorem i_213_90 : pm_at q_213 90 = some (.istore 8, 2) := by decide +kernel
theorem i_213_92 : pm_at q_213 92 = some (.iload 8, 2) := by decide +kernel
theorem i_213_94 : pm_at q_213 94 = some (.iload_n 3, 1) := by decide +kernel
theorem i_213_95 : pm_at q_213 95 = some (.if_icmp .gt 98, 3) := by decide +kernel
theorem i_213_98 : pm_at q_213 98 = some (.iload 8, 2) := by decide +kernel
theorem i_213_100 : pm_at q_213 100 = some (.iload_n 3, 1) := by decide +kernel
theorem i_213_101 : pm_at q_213 101 = some (.iconst (-1), 1) := by decide +kernel
theorem i_213_102 : pm_at q_213 102 = some (.ixor, 1) := by decide +kernel
theorem i_213_103 : pm_at q_213 103 = some (.iand, 1) := by decide +kernel
theorem i_213_104 : pm_at q_213 104 = some (.ifCond .ne 83, 3) := by decide +kernel
theorem i_213_107 : pm_at q_213 107 = some (.aload_n 0, 1) := by decide +kernel
theorem i_213_108 : pm_at q_213 108 = some (.iload 8, 2) := by decide +kernel
theorem i_213_110 : pm_at q_213 110 = some (.putfield 205, 3) := by decide +kernel
theorem i_213_113 : pm_at q_213 113 = some (.aload_n 0, 1) := by decide +kernel
theorem i_213_114 : pm_at q_213 114 = some (.iload_n 1, 1) := by decide +kernel
theorem i_213_115 : pm_at q_213 115 = some (.invokevirtual 237, 3) := by decide +kernel
theorem i_213_118 : pm_at q_213 118 = some (.invokestatic 249, 3) := by decide +kernel
theorem i_213_121 : pm_at q_213 121 = some (.i2l, 1) := by decide +kernel
theorem i_213_122 : pm_at q_213 122 = some (.lstore 9, 2) := by decide +kernel
theorem i_213_124 : pm_at q_213 124 = some (.iconst 0, 1) := by decide +kernel
theorem i_213_125 : pm_at q_213 125 = some (.istore 11, 2) := by decide +kernel
theorem i_213_127 : pm_at q_213 127 = some (.iload 11, 2) := by decide +kernel
theorem i_213_129 : pm_at q_213 129 = some (.aload_n 0, 1) := by decide +kernel
theorem i_213_130 : pm_at q_213 130 = some (.getfield 96, 3) := by decide +kernel
theorem i_213_133 : pm_at q_213 133 = some (.if_icmp .ge 47, 3) := by decide +kernel
theorem i_213_136 : pm_at q_213 136 = some (.lload 9, 2) := by decide +kernel
theorem i_213_138 : pm_at q_213 138 = some (.iload_n 3, 1) := by decide +kernel
theorem i_213_139 : pm_at q_213 139 = some (.iload 11, 2) := by decide +kernel
theorem i_213_141 : pm_at q_213 141 = some (.invokestatic 208, 3) := by decide +kernel
theorem i_213_144 : pm_at q_213 144 = some (.ifCond .ne 7, 3) := by decide +kernel
theorem i_213_147 : pm_at q_213 147 = some (.lconst 1, 1) := by decide +kernel
theorem i_213_148 : pm_at q_213 148 = some (.goto 23, 3) := by decide +kernel
theorem i_213_151 : pm_at q_213 151 = some (.iload 8, 2) := by decide +kernel
theorem i_213_153 : pm_at q_213 153 = some (.iload 11, 2) := by decide +kernel
theorem i_213_155 : pm_at q_213 155 = some (.invokestatic 208, 3) := by decide +kernel
theorem i_213_158 : pm_at q_213 158 = some (.ifCond .eq 8, 3) := by decide +kernel
theorem i_213_161 : pm_at q_213 161 = some (.iload_n 2, 1) := by decide +kernel
theorem i_213_162 : pm_at q_213 162 = some (.i2l, 1) := by decide +kernel
theorem i_213_163 : pm_at q_213 163 = some (.goto 8, 3) := by decide +kernel
theorem i_213_166 : pm_at q_213 166 = some (.bipush 10, 2) := by decide +kernel
theorem i_213_168 : pm_at q_213 168 = some (.iload_n 2, 1) := by decide +kernel
theorem i_213_169 : pm_at q_213 169 = some (.isub, 1) := by decide +kernel
theorem i_213_170 : pm_at q_213 170 = some (.i2l, 1) := by decide +kernel
theorem i_213_171 : pm_at q_213 171 = some (.lmul, 1) := by decide +kernel
theorem i_213_172 : pm_at q_213 172 = some (.lstore 9, 2) := by decide +kernel
theorem i_213_174 : pm_at q_213 174 = some (.iinc 11 1, 3) := by decide +kernel
theorem i_213_177 : pm_at q_213 177 = some (.goto (-50), 3) := by decide +kernel
theorem i_213_180 : pm_at q_213 180 = some (.lload 6, 2) := by decide +kernel
theorem i_213_182 : pm_at q_213 182 = some (.lload 9, 2) := by decide +kernel
theorem i_213_184 : pm_at q_213 184 = some (.ladd, 1) := by decide +kernel
theorem i_213_185 : pm_at q_213 185 = some (.lstore 6, 2) := by decide +kernel
theorem i_213_187 : pm_at q_213 187 = some (.iinc 8 1, 3) := by decide +kernel
theorem i_213_190 : pm_at q_213 190 = some (.goto (-98), 3) := by decide +kernel
theorem i_213_193 : pm_at q_213 193 = some (.aload_n 0, 1) := by decide +kernel
theorem i_213_194 : pm_at q_213 194 = some (.iconst 0, 1) := by decide +kernel
theorem i_213_195 : pm_at q_213 195 = some (.putfield 205, 3) := by decide +kernel
theorem i_213_198 : pm_at q_213 198 = some (.aload_n 0, 1) := by decide +kernel
theorem i_213_199 : pm_at q_213 199 = some (.lload 6, 2) := by decide +kernel
theorem i_213_201 : pm_at q_213 201 = some (.lload 4, 2) := by decide +kernel
theorem i_213_203 : pm_at q_213 203 = some (.invokevirtual 314, 3) := by decide +kernel
theorem i_213_206 : pm_at q_213 206 = some (.iconst 1, 1) := by decide +kernel
theorem i_213_207 : pm_at q_213 207 = some (.ireturn, 1) := by decide +kernel
theorem i_214_0 : pm_at q_214 0 = some (.iload_n 1, 1) := by decide +kernel
theorem i_214_1 : pm_at q_214 1 = some (.iconst 0, 1) := by decide +kernel
theorem i_214_2 : pm_at q_214 2 = some (.ldc_w 318, 3) := by decide +kernel
theorem i_214_5 : pm_at q_214 5 = some (.invokestatic 115, 3) := by decide +kernel
theorem i_214_8 : pm_at q_214 8 = some (.ifCond .eq 13, 3) := by decide +kernel
theorem i_214_11 : pm_at q_214 11 = some (.iload_n 2, 1) := by decide +kernel
theorem i_214_12 : pm_at q_214 12 = some (.iconst 0, 1) := by decide +kernel
theorem i_214_13 : pm_at q_214 13 = some (.bipush 60, 2) := by decide +kernel
theorem i_214_15 : pm_at q_214 15 = some (.invokestatic 115, 3) := by decide +kernel
theorem i_214_18 : pm_at q_214 18 = some (.ifCond .ne 8, 3) := by decide +kernel
theorem i_214_21 : pm_at q_214 21 = some (.aload_n 0, 1) := by decide +kernel
theorem i_214_22 : pm_at q_214 22 = some (.invokevirtual 119, 3) := by decide +kernel
theorem i_214_25 : pm_at q_214 25 = some (.ireturn, 1) := by decide +kernel
theorem i_214_26 : pm_at q_214 26 = some (.aload_n 0, 1) := by decide +kernel
theorem i_214_27 : pm_at q_214 27 = some (.aload_n 0, 1) := by decide +kernel
theorem i_214_28 : pm_at q_214 28 = some (.getfield 58, 3) := by decide +kernel
theorem i_214_31 : pm_at q_214 31 = some (.iconst 0, 1) := by decide +kernel
theorem i_214_32 : pm_at q_214 32 = some (.invokevirtual 222, 3) := by decide +kernel
theorem i_214_35 : pm_at q_214 35 = some (.iload_n 1, 1) := by decide +kernel
theorem i_214_36 : pm_at q_214 36 = some (.i2l, 1) := by decide +kernel
theorem i_214_37 : pm_at q_214 37 = some (.lstore_n 3, 1) := by decide +kernel
theorem i_214_38 : pm_at q_214 38 = some (.iconst 0, 1) := by decide +kernel
theorem i_214_39 : pm_at q_214 39 = some (.istore 5, 2) := by decide +kernel
theorem i_214_41 : pm_at q_214 41 = some (.iconst 0, 1) := by decide +kernel
theorem i_214_42 : pm_at q_214 42 = some (.istore 6, 2) := by decide +kernel
theorem i_214_44 : pm_at q_214 44 = some (.iload 6, 2) := by decide +kernel
theorem i_214_46 : pm_at q_214 46 = some (.iload_n 2, 1) := by decide +kernel
theorem i_214_47 : pm_at q_214 47 = some (.if_icmp .ge 53, 3) := by decide +kernel
theorem i_214_50 : pm_at q_214 50 = some (.lload_n 3, 1) := by decide +kernel
theorem i_214_51 : pm_at q_214 51 = some (.ldc2_w 319, 3) := by decide +kernel
theorem i_214_54 : pm_at q_214 54 = some (.lmul, 1) := by decide +kernel
theorem i_214_55 : pm_at q_214 55 = some (.ldc2_w 321, 3) := by decide +kernel
theorem i_214_58 : pm_at q_214 58 = some (.ladd, 1) := by decide +kernel
theorem i_214_59 : pm_at q_214 59 = some (.ldc2_w 323, 3) := by decide +kernel
theorem i_214_62 : pm_at q_214 62 = some (.lrem, 1) := by decide +kernel
theorem i_214_63 : pm_at q_214 63 = some (.lstore_n 3, 1) := by decide +kernel
theorem i_214_64 : pm_at q_214 64 = some (.aload_n 0, 1) := by decide +kernel
theorem i_214_65 : pm_at q_214 65 = some (.lload_n 3, 1) := by decide +kernel
theorem i_214_66 : pm_at q_214 66 = some (.ldc2_w 325, 3) := by decide +kernel
theorem i_214_69 : pm_at q_214 69 = some (.ldiv, 1) := by decide +kernel
theorem i_214_70 : pm_at q_214 70 = some (.ldc2_w 327, 3) := by decide +kernel
theorem i_214_73 : pm_at q_214 73 = some (.lrem, 1) := by decide +kernel
theorem i_214_74 : pm_at q_214 74 = some (.l2i, 1) := by decide +kernel
theorem i_214_75 : pm_at q_214 75 = some (.invokevirtual 167, 3) := by decide +kernel
theorem i_214_78 : pm_at q_214 78 = some (.iload 5, 2) := by decide +kernel
theorem i_214_80 : pm_at q_214 80 = some (.aload_n 0, 1) := by decide +kernel
theorem i_214_81 : pm_at q_214 81 = some (.aload_n 0, 1) := by decide +kernel
theorem i_214_82 : pm_at q_214 82 = some (.getfield 100, 3) := by decide +kernel
theorem i_214_85 : pm_at q_214 85 = some (.invokevirtual 237, 3) := by decide +kernel
theorem i_214_88 : pm_at q_214 88 = some (.invokestatic 249, 3) := by decide +kernel
theorem i_214_91 : pm_at q_214 91 = some (.iadd, 1) := by decide +kernel
theorem i_214_92 : pm_at q_214 92 = some (.istore 5, 2) := by decide +kernel
theorem i_214_94 : pm_at q_214 94 = some (.iinc 6 1, 3) := by decide +kernel
theorem i_214_97 : pm_at q_214 97 = some (.goto (-53), 3) := by decide +kernel
theorem i_214_100 : pm_at q_214 100 = some (.aload_n 0, 1) := by decide +kernel
theorem i_214_101 : pm_at q_214 101 = some (.aload_n 0, 1) := by decide +kernel
theorem i_214_102 : pm_at q_214 102 = some (.getfield 58, 3) := by decide +kernel
theorem i_214_105 : pm_at q_214 105 = some (.iconst 0, 1) := by decide +kernel
theorem i_214_106 : pm_at q_214 106 = some (.invokevirtual 243, 3) := by decide +kernel
theorem i_214_109 : pm_at q_214 109 = some (.iload 5, 2) := by decide +kernel
theorem i_214_111 : pm_at q_214 111 = some (.ireturn, 1) := by decide +kernel
theorem i_215_0 : pm_at q_215 0 = some (.iload_n 1, 1) := by decide +kernel
theorem i_215_1 : pm_at q_215 1 = some (.ifCond .ne 10, 3) := by decide +kernel
theorem i_215_4 : pm_at q_215 4 = some (.aload_n 0, 1) := by decide +kernel
theorem i_215_5 : pm_at q_215 5 = some (.getfield 309, 3) := by decide +kernel
theorem i_215_8 : pm_at q_215 8 = some (.goto 20, 3) := by decide +kernel
theorem i_215_11 : pm_at q_215 11 = some (.iload_n 1, 1) := by decide +kernel
theorem i_215_12 : pm_at q_215 12 = some (.iconst 1, 1) := by decide +kernel
theorem i_215_13 : pm_at q_215 13 = some (.if_icmp .ne 10, 3) := by decide +kernel
theorem i_215_16 : pm_at q_215 16 = some (.aload_n 0, 1) := by decide +kernel
theorem i_215_17 : pm_at q_215 17 = some (.getfield 82, 3) := by decide +kernel
theorem i_215_20 : pm_at q_215 20 = some (.goto 8, 3) := by decide +kernel
theorem i_215_23 : pm_at q_215 23 = some (.aload_n 0, 1) := by decide +kernel
theorem i_215_24 : pm_at q_215 24 = some (.invokevirtual 119, 3) := by decide +kernel
theorem i_215_27 : pm_at q_215 27 = some (.i2l, 1) := by decide +kernel
theorem i_215_28 : pm_at q_215 28 = some (.lreturn, 1) := by decide +kernel
theorem i_216_0 : pm_at q_216 0 = some (.aload_n 0, 1) := by decide +kernel
theorem i_216_1 : pm_at q_216 1 = some (.aload_n 1, 1) := by decide +kernel
theorem i_216_2 : pm_at q_216 2 = some (.iload_n 2, 1) := by decide +kernel
theorem i_216_3 : pm_at q_216 3 = some (.invokevirtual 222, 3) := by decide +kernel
theorem i_216_6 : pm_at q_216 6 = some (.aload_n 1, 1) := by decide +kernel
theorem i_216_7 : pm_at q_216 7 = some (.iload_n 2, 1) := by decide +kernel
theorem i_216_8 : pm_at q_216 8 = some (.bipush 52, 2) := by decide +kernel
theorem i_216_10 : pm_at q_216 10 = some (.iadd, 1) := by decide +kernel
theorem i_216_11 : pm_at q_216 11 = some (.aload_n 0, 1) := by decide +kernel
theorem i_216_12 : pm_at q_216 12 = some (.getfield 106, 3) := by decide +kernel
theorem i_216_15 : pm_at q_216 15 = some (.iastore, 1) := by decide +kernel
theorem i_216_16 : pm_at q_216 16 = some (.aload_n 1, 1) := by decide +kernel
theorem i_216_17 : pm_at q_216 17 = some (.iload_n 2, 1) := by decide +kernel
theorem i_216_18 : pm_at q_216 18 = some (.bipush 53, 2) := by decide +kernel
theorem i_216_20 : pm_at q_216 20 = some (.iadd, 1) := by decide +kernel
theorem i_216_21 : pm_at q_216 21 = some (.aload_n 0, 1) := by decide +kernel
theorem i_216_22 : pm_at q_216 22 = some (.getfield 109, 3) := by decide +kernel
theorem i_216_25 : pm_at q_216 25 = some (.iastore, 1) := by decide +kernel
theorem i_216_26 : pm_at q_216 26 = some (.aload_n 1, 1) := by decide +kernel
theorem i_216_27 : pm_at q_216 27 = some (.iload_n 2, 1) := by decide +kernel
theorem i_216_28 : pm_at q_216 28 = some (.bipush 54, 2) := by decide +kernel
theorem i_216_30 : pm_at q_216 30 = some (.iadd, 1) := by decide +kernel
theorem i_216_31 : pm_at q_216 31 = some (.aload_n 0, 1) := by decide +kernel
theorem i_216_32 : pm_at q_216 32 = some (.getfield 112, 3) := by decide +kernel
theorem i_216_35 : pm_at q_216 35 = some (.iastore, 1) := by decide +kernel
theorem i_216_36 : pm_at q_216 36 = some (.iconst 0, 1) := by decide +kernel
theorem i_216_37 : pm_at q_216 37 = some (.istore_n 3, 1) := by decide +kernel
theorem i_216_38 : pm_at q_216 38 = some (.iload_n 3, 1) := by decide +kernel
theorem i_216_39 : pm_at q_216 39 = some (.bipush 30, 2) := by decide +kernel
theorem i_216_41 : pm_at q_216 41 = some (.if_icmp .ge 23, 3) := by decide +kernel
theorem i_216_44 : pm_at q_216 44 = some (.aload_n 1, 1) := by decide +kernel
theorem i_216_45 : pm_at q_216 45 = some (.iload_n 2, 1) := by decide +kernel
theorem i_216_46 : pm_at q_216 46 = some (.bipush 55, 2) := by decide +kernel
theorem i_216_48 : pm_at q_216 48 = some (.iadd, 1) := by decide +kernel
theorem i_216_49 : pm_at q_216 49 = some (.iload_n 3, 1) := by decide +kernel
theorem i_216_50 : pm_at q_216 50 = some (.iadd, 1) := by decide +kernel
theorem i_216_51 : pm_at q_216 51 = some (.aload_n 0, 1) := by decide +kernel
theorem i_216_52 : pm_at q_216 52 = some (.getfield 34, 3) := by decide +kernel
theorem i_216_55 : pm_at q_216 55 = some (.iload_n 3, 1) := by decide +kernel
theorem i_216_56 : pm_at q_216 56 = some (.iaload, 1) := by decide +kernel
theorem i_216_57 : pm_at q_216 57 = some (.iastore, 1) := by decide +kernel
theorem i_216_58 : pm_at q_216 58 = some (.iinc 3 1, 3) := by decide +kernel
theorem i_216_61 : pm_at q_216 61 = some (.goto (-23), 3) := by decide +kernel
theorem i_216_64 : pm_at q_216 64 = some (.iconst 0, 1) := by decide +kernel
theorem i_216_65 : pm_at q_216 65 = some (.istore_n 3, 1) := by decide +kernel
theorem i_216_66 : pm_at q_216 66 = some (.iload_n 3, 1) := by decide +kernel
theorem i_216_67 : pm_at q_216 67 = some (.bipush 6, 2) := by decide +kernel
theorem i_216_69 : pm_at q_216 69 = some (.if_icmp .ge 37, 3) := by decide +kernel
theorem i_216_72 : pm_at q_216 72 = some (.aload_n 1, 1) := by decide +kernel
theorem i_216_73 : pm_at q_216 73 = some (.iload_n 2, 1) := by decide +kernel
theorem i_216_74 : pm_at q_216 74 = some (.bipush 85, 2) := by decide +kernel
theorem i_216_76 : pm_at q_216 76 = some (.iadd, 1) := by decide +kernel
theorem i_216_77 : pm_at q_216 77 = some (.iload_n 3, 1) := by decide +kernel
theorem i_216_78 : pm_at q_216 78 = some (.iadd, 1) := by decide +kernel
theorem i_216_79 : pm_at q_216 79 = some (.aload_n 0, 1) := by decide +kernel
theorem i_216_80 : pm_at q_216 80 = some (.getfield 37, 3) := by decide +kernel
theorem i_216_83 : pm_at q_216 83 = some (.iload_n 3, 1) := by decide +kernel
theorem i_216_84 : pm_at q_216 84 = some (.iaload, 1) := by decide +kernel
theorem i_216_85 : pm_at q_216 85 = some (.iastore, 1) := by decide +kernel
theorem i_216_86 : pm_at q_216 86 = some (.aload_n 1, 1) := by decide +kernel
theorem i_216_87 : pm_at q_216 87 = some (.iload_n 2, 1) := by decide +kernel
theorem i_216_88 : pm_at q_216 88 = some (.bipush 91, 2) := by decide +kernel
theorem i_216_90 : pm_at q_216 90 = some (.iadd, 1) := by decide +kernel
theorem i_216_91 : pm_at q_216 91 = some (.iload_n 3, 1) := by decide +kernel
theorem i_216_92 : pm_at q_216 92 = some (.iadd, 1) := by decide +kernel
theorem i_216_93 : pm_at q_216 93 = some (.aload_n 0, 1) := by decide +kernel
theorem i_216_94 : pm_at q_216 94 = some (.getfield 40, 3) := by decide +kernel
theorem i_216_97 : pm_at q_216 97 = some (.iload_n 3, 1) := by decide +kernel
theorem i_216_98 : pm_at q_216 98 = some (.iaload, 1) := by decide +kernel
theorem i_216_99 : pm_at q_216 99 = some (.iastore, 1) := by decide +kernel
theorem i_216_100 : pm_at q_216 100 = some (.iinc 3 1, 3) := by decide +kernel
theorem i_216_103 : pm_at q_216 103 = some (.goto (-37), 3) := by decide +kernel
theorem i_216_106 : pm_at q_216 106 = some (.iconst 0, 1) := by decide +kernel
theorem i_216_107 : pm_at q_216 107 = some (.istore_n 3, 1) := by decide +kernel
theorem i_216_108 : pm_at q_216 108 = some (.iload_n 3, 1) := by decide +kernel
theorem i_216_109 : pm_at q_216 109 = some (.sipush 312, 3) := by decide +kernel
theorem i_216_112 : pm_at q_216 112 = some (.if_icmp .ge 23, 3) := by decide +kernel
theorem i_216_115 : pm_at q_216 115 = some (.aload_n 1, 1) := by decide +kernel
theorem i_216_116 : pm_at q_216 116 = some (.iload_n 2, 1) := by decide +kernel
theorem i_216_117 : pm_at q_216 117 = some (.bipush 97, 2) := by decide +kernel
theorem i_216_119 : pm_at q_216 119 = some (.iadd, 1) := by decide +kernel
theorem i_216_120 : pm_at q_216 120 = some (.iload_n 3, 1) := by decide +kernel
theorem i_216_121 : pm_at q_216 121 = some (.iadd, 1) := by decide +kernel
theorem i_216_122 : pm_at q_216 122 = some (.aload_n 0, 1) := by decide +kernel
theorem i_216_123 : pm_at q_216 123 = some (.getfield 55, 3) := by decide +kernel
theorem i_216_126 : pm_at q_216 126 = some (.iload_n 3, 1) := by decide +kernel
theorem i_216_127 : pm_at q_216 127 = some (.iaload, 1) := by decide +kernel
theorem i_216_128 : pm_at q_216 128 = some (.iastore, 1) := by decide +kernel
theorem i_216_129 : pm_at q_216 129 = some (.iinc 3 1, 3) := by decide +kernel
theorem i_216_132 : pm_at q_216 132 = some (.goto (-24), 3) := by decide +kernel
theorem i_216_135 : pm_at q_216 135 = some (.return_, 1) := by decide +kernel
theorem i_217_0 : pm_at q_217 0 = some (.aload_n 0, 1) := by decide +kernel
theorem i_217_1 : pm_at q_217 1 = some (.aload_n 1, 1) := by decide +kernel
theorem i_217_2 : pm_at q_217 2 = some (.iload_n 2, 1) := by decide +kernel
theorem i_217_3 : pm_at q_217 3 = some (.invokevirtual 243, 3) := by decide +kernel
theorem i_217_6 : pm_at q_217 6 = some (.aload_n 0, 1) := by decide +kernel
theorem i_217_7 : pm_at q_217 7 = some (.aload_n 1, 1) := by decide +kernel
theorem i_217_8 : pm_at q_217 8 = some (.iload_n 2, 1) := by decide +kernel
theorem i_217_9 : pm_at q_217 9 = some (.bipush 52, 2) := by decide +kernel
theorem i_217_11 : pm_at q_217 11 = some (.iadd, 1) := by decide +kernel
theorem i_217_12 : pm_at q_217 12 = some (.iaload, 1) := by decide +kernel
theorem i_217_13 : pm_at q_217 13 = some (.putfield 106, 3) := by decide +kernel
theorem i_217_16 : pm_at q_217 16 = some (.aload_n 0, 1) := by decide +kernel
theorem i_217_17 : pm_at q_217 17 = some (.aload_n 1, 1) := by decide +kernel
theorem i_217_18 : pm_at q_217 18 = some (.iload_n 2, 1) := by decide +kernel
theorem i_217_19 : pm_at q_217 19 = some (.bipush 53, 2) := by decide +kernel
theorem i_217_21 : pm_at q_217 21 = some (.iadd, 1) := by decide +kernel
theorem i_217_22 : pm_at q_217 22 = some (.iaload, 1) := by decide +kernel
theorem i_217_23 : pm_at q_217 23 = some (.putfield 109, 3) := by decide +kernel
theorem i_217_26 : pm_at q_217 26 = some (.aload_n 0, 1) := by decide +kernel
theorem i_217_27 : pm_at q_217 27 = some (.aload_n 1, 1) := by decide +kernel
theorem i_217_28 : pm_at q_217 28 = some (.iload_n 2, 1) := by decide +kernel
theorem i_217_29 : pm_at q_217 29 = some (.bipush 54, 2) := by decide +kernel
theorem i_217_31 : pm_at q_217 31 = some (.iadd, 1) := by decide +kernel
theorem i_217_32 : pm_at q_217 32 = some (.iaload, 1) := by decide +kernel
theorem i_217_33 : pm_at q_217 33 = some (.putfield 112, 3) := by decide +kernel
theorem i_217_36 : pm_at q_217 36 = some (.iconst 0, 1) := by decide +kernel
theorem i_217_37 : pm_at q_217 37 = some (.istore_n 3, 1) := by decide +kernel
theorem i_217_38 : pm_at q_217 38 = some (.iload_n 3, 1) := by decide +kernel
theorem i_217_39 : pm_at q_217 39 = some (.bipush 30, 2) := by decide +kernel
theorem i_217_41 : pm_at q_217 41 = some (.if_icmp .ge 23, 3) := by decide +kernel
theorem i_217_44 : pm_at q_217 44 = some (.aload_n 0, 1) := by decide +kernel
theorem i_217_45 : pm_at q_217 45 = some (.getfield 34, 3) := by decide +kernel
theorem i_217_48 : pm_at q_217 48 = some (.iload_n 3, 1) := by decide +kernel
theorem i_217_49 : pm_at q_217 49 = some (.aload_n 1, 1) := by decide +kernel
theorem i_217_50 : pm_at q_217 50 = some (.iload_n 2, 1) := by decide +kernel
theorem i_217_51 : pm_at q_217 51 = some (.bipush 55, 2) := by decide +kernel
theorem i_217_53 : pm_at q_217 53 = some (.iadd, 1) := by decide +kernel
theorem i_217_54 : pm_at q_217 54 = some (.iload_n 3, 1) := by decide +kernel
theorem i_217_55 : pm_at q_217 55 = some (.iadd, 1) := by decide +kernel
theorem i_217_56 : pm_at q_217 56 = some (.iaload, 1) := by decide +kernel
theorem i_217_57 : pm_at q_217 57 = some (.iastore, 1) := by decide +kernel
theorem i_217_58 : pm_at q_217 58 = some (.iinc 3 1, 3) := by decide +kernel
theorem i_217_61 : pm_at q_217 61 = some (.goto (-23), 3) := by decide +kernel
theorem i_217_64 : pm_at q_217 64 = some (.iconst 0, 1) := by decide +kernel
theorem i_217_65 : pm_at q_217 65 = some (.istore_n 3, 1) := by decide +kernel
theorem i_217_66 : pm_at q_217 66 = some (.iload_n 3, 1) := by decide +kernel
theorem i_217_67 : pm_at q_217 67 = some (.bipush 6, 2) := by decide +kernel
theorem i_217_69 : pm_at q_217 69 = some (.if_icmp .ge 37, 3) := by decide +kernel
theorem i_217_72 : pm_at q_217 72 = some (.aload_n 0, 1) := by decide +kernel
theorem i_217_73 : pm_at q_217 73 = some (.getfield 37, 3) := by decide +kernel
theorem i_217_76 : pm_at q_217 76 = some (.iload_n 3, 1) := by decide +kernel
theorem i_217_77 : pm_at q_217 77 = some (.aload_n 1, 1) := by decide +kernel
theorem i_217_78 : pm_at q_217 78 = some (.iload_n 2, 1) := by decide +kernel
theorem i_217_79 : pm_at q_217 79 = some (.bipush 85, 2) := by decide +kernel
theorem i_217_81 : pm_at q_217 81 = some (.iadd, 1) := by decide +kernel
theorem i_217_82 : pm_at q_217 82 = some (.iload_n 3, 1) := by decide +kernel
theorem i_217_83 : pm_at q_217 83 = some (.iadd, 1) := by decide +kernel
theorem i_217_84 : pm_at q_217 84 = some (.iaload, 1) := by decide +kernel
theorem i_217_85 : pm_at q_217 85 = some (.iastore, 1) := by decide +kernel
theorem i_217_86 : pm_at q_217 86 = some (.aload_n 0, 1) := by decide +kernel
theorem i_217_87 : pm_at q_217 87 = some (.getfield 40, 3) := by decide +kernel
theorem i_217_90 : pm_at q_217 90 = some (.iload_n 3, 1) := by decide +kernel
theorem i_217_91 : pm_at q_217 91 = some (.aload_n 1, 1) := by decide +kernel
theorem i_217_92 : pm_at q_217 92 = some (.iload_n 2, 1) := by decide +kernel
theorem i_217_93 : pm_at q_217 93 = some (.bipush 91, 2) := by decide +kernel
theorem i_217_95 : pm_at q_217 95 = some (.iadd, 1) := by decide +kernel
theorem i_217_96 : pm_at q_217 96 = some (.iload_n 3, 1) := by decide +kernel
theorem i_217_97 : pm_at q_217 97 = some (.iadd, 1) := by decide +kernel
theorem i_217_98 : pm_at q_217 98 = some (.iaload, 1) := by decide +kernel
theorem i_217_99 : pm_at q_217 99 = some (.iastore, 1) := by decide +kernel
theorem i_217_100 : pm_at q_217 100 = some (.iinc 3 1, 3) := by decide +kernel
theorem i_217_103 : pm_at q_217 103 = some (.goto (-37), 3) := by decide +kernel
theorem i_217_106 : pm_at q_217 106 = some (.iconst 0, 1) := by decide +kernel
theorem i_217_107 : pm_at q_217 107 = some (.istore_n 3, 1) := by decide +kernel
theorem i_217_108 : pm_at q_217 108 = some (.iload_n 3, 1) := by decide +kernel
theorem i_217_109 : pm_at q_217 109 = some (.sipush 312, 3) := by decide +kernel
theorem i_217_112 : pm_at q_217 112 = some (.if_icmp .ge 23, 3) := by decide +kernel
theorem i_217_115 : pm_at q_217 115 = some (.aload_n 0, 1) := by decide +kernel
theorem i_217_116 : pm_at q_217 116 = some (.getfield 55, 3) := by decide +kernel
theorem i_217_119 : pm_at q_217 119 = some (.iload_n 3, 1) := by decide +kernel
theorem i_217_120 : pm_at q_217 120 = some (.aload_n 1, 1) := by decide +kernel
theorem i_217_121 : pm_at q_217 121 = some (.iload_n 2, 1) := by decide +kernel
theorem i_217_122 : pm_at q_217 122 = some (.bipush 97, 2) := by decide +kernel
theorem i_217_124 : pm_at q_217 124 = some (.iadd, 1) := by decide +kernel
theorem i_217_125 : pm_at q_217 125 = some (.iload_n 3, 1) := by decide +kernel
theorem i_217_126 : pm_at q_217 126 = some (.iadd, 1) := by decide +kernel
theorem i_217_127 : pm_at q_217 127 = some (.iaload, 1) := by decide +kernel
theorem i_217_128 : pm_at q_217 128 = some (.iastore, 1) := by decide +kernel
theorem i_217_129 : pm_at q_217 129 = some (.iinc 3 1, 3) := by decide +kernel
theorem i_217_132 : pm_at q_217 132 = some (.goto (-24), 3) := by decide +kernel
theorem i_217_135 : pm_at q_217 135 = some (.return_, 1) := by decide +kernel
theorem i_218_0 : pm_at q_218 0 = some (.iload_n 1, 1) := by decide +kernel
theorem i_218_1 : pm_at q_218 1 = some (.iconst 0, 1) := by decide +kernel
theorem i_218_2 : pm_at q_218 2 = some (.iconst 1, 1) := by decide +kernel
theorem i_218_3 : pm_at q_218 3 = some (.invokestatic 115, 3) := by decide +kernel
theorem i_218_6 : pm_at q_218 6 = some (.ifCond .ne 8, 3) := by decide +kernel
theorem i_218_9 : pm_at q_218 9 = some (.aload_n 0, 1) := by decide +kernel
theorem i_218_10 : pm_at q_218 10 = some (.invokevirtual 119, 3) := by decide +kernel
theorem i_218_13 : pm_at q_218 13 = some (.ireturn, 1) := by decide +kernel
theorem i_218_14 : pm_at q_218 14 = some (.aload_n 0, 1) := by decide +kernel
theorem i_218_15 : pm_at q_218 15 = some (.getfield 89, 3) := by decide +kernel
theorem i_218_18 : pm_at q_218 18 = some (.iload_n 1, 1) := by decide +kernel
theorem i_218_19 : pm_at q_218 19 = some (.iconst 1, 1) := by decide +kernel
theorem i_218_20 : pm_at q_218 20 = some (.iastore, 1) := by decide +kernel
theorem i_218_21 : pm_at q_218 21 = some (.aload_n 0, 1) := by decide +kernel
theorem i_218_22 : pm_at q_218 22 = some (.aload_n 0, 1) := by decide +kernel
theorem i_218_23 : pm_at q_218 23 = some (.getfield 86, 3) := by decide +kernel
theorem i_218_26 : pm_at q_218 26 = some (.sipush 420, 3) := by decide +kernel
theorem i_218_29 : pm_at q_218 29 = some (.iload_n 1, 1) := by decide +kernel
theorem i_218_30 : pm_at q_218 30 = some (.imul, 1) := by decide +kernel
theorem i_218_31 : pm_at q_218 31 = some (.invokevirtual 189, 3) := by decide +kernel
theorem i_218_34 : pm_at q_218 34 = some (.iconst 1, 1) := by decide +kernel
theorem i_218_35 : pm_at q_218 35 = some (.ireturn, 1) := by decide +kernel
theorem i_219_0 : pm_at q_219 0 = some (.iload_n 1, 1) := by decide +kernel
theorem i_219_1 : pm_at q_219 1 = some (.iconst 0, 1) := by decide +kernel
theorem i_219_2 : pm_at q_219 2 = some (.iconst 1, 1) := by decide +kernel
theorem i_219_3 : pm_at q_219 3 = some (.invokestatic 115, 3) := by decide +kernel
theorem i_219_6 : pm_at q_219 6 = some (.ifCond .ne 8, 3) := by decide +kernel
theorem i_219_9 : pm_at q_219 9 = some (.aload_n 0, 1) := by decide +kernel
theorem i_219_10 : pm_at q_219 10 = some (.invokevirtual 119, 3) := by decide +kernel
theorem i_219_13 : pm_at q_219 13 = some (.ireturn, 1) := by decide +kernel
theorem i_219_14 : pm_at q_219 14 = some (.aload_n 0, 1) := by decide +kernel
theorem i_219_15 : pm_at q_219 15 = some (.getfield 89, 3) := by decide +kernel
theorem i_219_18 : pm_at q_219 18 = some (.iload_n 1, 1) := by decide +kernel
theorem i_219_19 : pm_at q_219 19 = some (.iaload, 1) := by decide +kernel
theorem i_219_20 : pm_at q_219 20 = some (.ifCond .ne 8, 3) := by decide +kernel
theorem i_219_23 : pm_at q_219 23 = some (.aload_n 0, 1) := by decide +kernel
theorem i_219_24 : pm_at q_219 24 = some (.invokevirtual 231, 3) := by decide +kernel
theorem i_219_27 : pm_at q_219 27 = some (.ireturn, 1) := by decide +kernel
theorem i_219_28 : pm_at q_219 28 = some (.aload_n 0, 1) := by decide +kernel
theorem i_219_29 : pm_at q_219 29 = some (.aload_n 0, 1) := by decide +kernel
theorem i_219_30 : pm_at q_219 30 = some (.getfield 86, 3) := by decide +kernel
theorem i_219_33 : pm_at q_219 33 = some (.sipush 420, 3) := by decide +kernel
theorem i_219_36 : pm_at q_219 36 = some (.iload_n 1, 1) := by decide +kernel
theorem i_219_37 : pm_at q_219 37 = some (.imul, 1) := by decide +kernel
theorem i_219_38 : pm_at q_219 38 = some (.invokevirtual 196, 3) := by decide +kernel
theorem i_219_41 : pm_at q_219 41 = some (.iconst 1, 1) := by decide +kernel
theorem i_219_42 : pm_at q_219 42 = some (.ireturn, 1) := by decide +kernel
theorem i_220_0 : pm_at q_220 0 = some (.iload_n 1, 1) := by decide +kernel
theorem i_220_1 : pm_at q_220 1 = some (.iconst 0, 1) := by decide +kernel
theorem i_220_2 : pm_at q_220 2 = some (.iconst 2, 1) := by decide +kernel
theorem i_220_3 : pm_at q_220 3 = some (.invokestatic 115, 3) := by decide +kernel
theorem i_220_6 : pm_at q_220 6 = some (.ifCond .ne 15, 3) := by decide +kernel
theorem i_220_9 : pm_at q_220 9 = some (.aload_n 0, 1) := by decide +kernel
theorem i_220_10 : pm_at q_220 10 = some (.getfield 1, 3) := by decide +kernel
theorem i_220_13 : pm_at q_220 13 = some (.iconst 0, 1) := by decide +kernel
theorem i_220_14 : pm_at q_220 14 = some (.dup2, 1) := by decide +kernel
theorem i_220_15 : pm_at q_220 15 = some (.iaload, 1) := by decide +kernel
theorem i_220_16 : pm_at q_220 16 = some (.iconst 1, 1) := by decide +kernel
theorem i_220_17 : pm_at q_220 17 = some (.iadd, 1) := by decide +kernel
theorem i_220_18 : pm_at q_220 18 = some (.iastore, 1) := by decide +kernel
theorem i_220_19 : pm_at q_220 19 = some (.iconst (-1), 1) := by decide +kernel
theorem i_220_20 : pm_at q_220 20 = some (.ireturn, 1) := by decide +kernel
theorem i_220_21 : pm_at q_220 21 = some (.aload_n 0, 1) := by decide +kernel
theorem i_220_22 : pm_at q_220 22 = some (.getfield 1, 3) := by decide +kernel
theorem i_220_25 : pm_at q_220 25 = some (.iload_n 1, 1) := by decide +kernel
theorem i_220_26 : pm_at q_220 26 = some (.iaload, 1) := by decide +kernel
theorem i_220_27 : pm_at q_220 27 = some (.ireturn, 1) := by decide +kernel
theorem i_221_0 : pm_at q_221 0 = some (.iconst 0, 1) := by decide +kernel
theorem i_221_1 : pm_at q_221 1 = some (.istore_n 1, 1) := by decide +kernel
theorem i_221_2 : pm_at q_221 2 = some (.iconst 0, 1) := by decide +kernel
theorem i_221_3 : pm_at q_221 3 = some (.istore_n 2, 1) := by decide +kernel
theorem i_221_4 : pm_at q_221 4 = some (.iload_n 2, 1) := by decide +kernel
theorem i_221_5 : pm_at q_221 5 = some (.aload_n 0, 1) := by decide +kernel
theorem i_221_6 : pm_at q_221 6 = some (.getfield 96, 3) := by decide +kernel
theorem i_221_9 : pm_at q_221 9 = some (.if_icmp .ge 18, 3) := by decide +kernel
theorem i_221_12 : pm_at q_221 12 = some (.iload_n 1, 1) := by decide +kernel
theorem i_221_13 : pm_at q_221 13 = some (.aload_n 0, 1) := by decide +kernel
theorem i_221_14 : pm_at q_221 14 = some (.getfield 31, 3) := by decide +kernel
theorem i_221_17 : pm_at q_221 17 = some (.iload_n 2, 1) := by decide +kernel
theorem i_221_18 : pm_at q_221 18 = some (.iaload, 1) := by decide +kernel
theorem i_221_19 : pm_at q_221 19 = some (.iadd, 1) := by decide +kernel
theorem i_221_20 : pm_at q_221 20 = some (.istore_n 1, 1) := by decide +kernel
theorem i_221_21 : pm_at q_221 21 = some (.iinc 2 1, 3) := by decide +kernel
theorem i_221_24 : pm_at q_221 24 = some (.goto (-20), 3) := by decide +kernel
theorem i_221_27 : pm_at q_221 27 = some (.iload_n 1, 1) := by decide +kernel
theorem i_221_28 : pm_at q_221 28 = some (.ireturn, 1) := by decide +kernel
theorem i_222_0 : pm_at q_222 0 = some (.iconst 0, 1) := by decide +kernel
theorem i_222_1 : pm_at q_222 1 = some (.istore_n 1, 1) := by decide +kernel
theorem i_222_2 : pm_at q_222 2 = some (.iconst 0, 1) := by decide +kernel
theorem i_222_3 : pm_at q_222 3 = some (.istore_n 2, 1) := by decide +kernel
theorem i_222_4 : pm_at q_222 4 = some (.iload_n 2, 1) := by decide +kernel
theorem i_222_5 : pm_at q_222 5 = some (.aload_n 0, 1) := by decide +kernel
theorem i_222_6 : pm_at q_222 6 = some (.getfield 96, 3) := by decide +kernel
theorem i_222_9 : pm_at q_222 9 = some (.if_icmp .ge 25, 3) := by decide +kernel
theorem i_222_12 : pm_at q_222 12 = some (.iload_n 1, 1) := by decide +kernel
theorem i_222_13 : pm_at q_222 13 = some (.aload_n 0, 1) := by decide +kernel
theorem i_222_14 : pm_at q_222 14 = some (.iload_n 2, 1) := by decide +kernel
theorem i_222_15 : pm_at q_222 15 = some (.invokevirtual 202, 3) := by decide +kernel
theorem i_222_18 : pm_at q_222 18 = some (.ifCond .eq 7, 3) := by decide +kernel
theorem i_222_21 : pm_at q_222 21 = some (.iconst 1, 1) := by decide +kernel
theorem i_222_22 : pm_at q_222 22 = some (.goto 4, 3) := by decide +kernel
theorem i_222_25 : pm_at q_222 25 = some (.iconst 0, 1) := by decide +kernel
theorem i_222_26 : pm_at q_222 26 = some (.iadd, 1) := by decide +kernel
theorem i_222_27 : pm_at q_222 27 = some (.istore_n 1, 1) := by decide +kernel
theorem i_222_28 : pm_at q_222 28 = some (.iinc 2 1, 3) := by decide +kernel
theorem i_222_31 : pm_at q_222 31 = some (.goto (-27), 3) := by decide +kernel
theorem i_222_34 : pm_at q_222 34 = some (.iload_n 1, 1) := by decide +kernel
theorem i_222_35 : pm_at q_222 35 = some (.ireturn, 1) := by decide +kernel
theorem i_223_0 : pm_at q_223 0 = some (.iload_n 1, 1) := by decide +kernel
theorem i_223_1 : pm_at q_223 1 = some (.tableswitch 103 0 8 #[51, 56, 61, 66, 78, 83, 88, 93, 98], 51) := by decide +kernel
theorem i_223_52 : pm_at q_223 52 = some (.aload_n 0, 1) := by decide +kernel
theorem i_223_53 : pm_at q_223 53 = some (.getfield 96, 3) := by decide +kernel
theorem i_223_56 : pm_at q_223 56 = some (.ireturn, 1) := by decide +kernel
theorem i_223_57 : pm_at q_223 57 = some (.aload_n 0, 1) := by decide +kernel
theorem i_223_58 : pm_at q_223 58 = some (.getfield 100, 3) := by decide +kernel
theorem i_223_61 : pm_at q_223 61 = some (.ireturn, 1) := by decide +kernel
theorem i_223_62 : pm_at q_223 62 = some (.aload_n 0, 1) := by decide +kernel
theorem i_223_63 : pm_at q_223 63 = some (.getfield 103, 3) := by decide +kernel
theorem i_223_66 : pm_at q_223 66 = some (.ireturn, 1) := by decide +kernel
theorem i_223_67 : pm_at q_223 67 = some (.aload_n 0, 1) := by decide +kernel
theorem i_223_68 : pm_at q_223 68 = some (.aload_n 0, 1) := by decide +kernel
theorem i_223_69 : pm_at q_223 69 = some (.getfield 100, 3) := by decide +kernel
theorem i_223_72 : pm_at q_223 72 = some (.invokevirtual 237, 3) := by decide +kernel
theorem i_223_75 : pm_at q_223 75 = some (.invokestatic 249, 3) := by decide +kernel
theorem i_223_78 : pm_at q_223 78 = some (.ireturn, 1) := by decide +kernel
theorem i_223_79 : pm_at q_223 79 = some (.aload_n 0, 1) := by decide +kernel
theorem i_223_80 : pm_at q_223 80 = some (.invokevirtual 329, 3) := by decide +kernel
theorem i_223_83 : pm_at q_223 83 = some (.ireturn, 1) := by decide +kernel
theorem i_223_84 : pm_at q_223 84 = some (.aload_n 0, 1) := by decide +kernel
theorem i_223_85 : pm_at q_223 85 = some (.invokevirtual 332, 3) := by decide +kernel
theorem i_223_88 : pm_at q_223 88 = some (.ireturn, 1) := by decide +kernel
theorem i_223_89 : pm_at q_223 89 = some (.aload_n 0, 1) := by decide +kernel
theorem i_223_90 : pm_at q_223 90 = some (.getfield 106, 3) := by decide +kernel
theorem i_223_93 : pm_at q_223 93 = some (.ireturn, 1) := by decide +kernel
theorem i_223_94 : pm_at q_223 94 = some (.aload_n 0, 1) := by decide +kernel
theorem i_223_95 : pm_at q_223 95 = some (.getfield 109, 3) := by decide +kernel
theorem i_223_98 : pm_at q_223 98 = some (.ireturn, 1) := by decide +kernel
theorem i_223_99 : pm_at q_223 99 = some (.aload_n 0, 1) := by decide +kernel
theorem i_223_100 : pm_at q_223 100 = some (.getfield 112, 3) := by decide +kernel
theorem i_223_103 : pm_at q_223 103 = some (.ireturn, 1) := by decide +kernel
theorem i_223_104 : pm_at q_223 104 = some (.aload_n 0, 1) := by decide +kernel
theorem i_223_105 : pm_at q_223 105 = some (.getfield 130, 3) := by decide +kernel
theorem i_223_108 : pm_at q_223 108 = some (.ireturn, 1) := by decide +kernel
theorem i_224_0 : pm_at q_224 0 = some (.iload_n 1, 1) := by decide +kernel
theorem i_224_1 : pm_at q_224 1 = some (.iconst 0, 1) := by decide +kernel
theorem i_224_2 : pm_at q_224 2 = some (.bipush 9, 2) := by decide +kernel
theorem i_224_4 : pm_at q_224 4 = some (.invokestatic 115, 3) := by decide +kernel
theorem i_224_7 : pm_at q_224 7 = some (.ifCond .eq 11, 3) := by decide +kernel
theorem i_224_10 : pm_at q_224 10 = some (.aload_n 0, 1) := by decide +kernel
theorem i_224_11 : pm_at q_224 11 = some (.iload_n 1, 1) := by decide +kernel
theorem i_224_12 : pm_at q_224 12 = some (.invokevirtual 335, 3) := by decide +kernel
theorem i_224_15 : pm_at q_224 15 = some (.goto 7, 3) := by decide +kernel
theorem i_224_18 : pm_at q_224 18 = some (.aload_n 0, 1) := by decide +kernel
theorem i_224_19 : pm_at q_224 19 = some (.invokevirtual 119, 3) := by decide +kernel
theorem i_224_22 : pm_at q_224 22 = some (.ireturn, 1) := by decide +kernel
theorem i_225_0 : pm_at q_225 0 = some (.aload_n 0, 1) := by decide +kernel
theorem i_225_1 : pm_at q_225 1 = some (.ldc2_w 338, 3) := by decide +kernel
theorem i_225_4 : pm_at q_225 4 = some (.aload_n 0, 1) := by decide +kernel
theorem i_225_5 : pm_at q_225 5 = some (.getfield 340, 3) := by decide +kernel
theorem i_225_8 : pm_at q_225 8 = some (.lmul, 1) := by decide +kernel
theorem i_225_9 : pm_at q_225 9 = some (.lload_n 1, 1) := by decide +kernel
theorem i_225_10 : pm_at q_225 10 = some (.ladd, 1) := by decide +kernel
theorem i_225_11 : pm_at q_225 11 = some (.putfield 340, 3) := by decide +kernel
theorem i_225_14 : pm_at q_225 14 = some (.return_, 1) := by decide +kernel
theorem i_226_0 : pm_at q_226 0 = some (.aload_n 0, 1) := by decide +kernel
theorem i_226_1 : pm_at q_226 1 = some (.ldc2_w 343, 3) := by decide +kernel
theorem i_226_4 : pm_at q_226 4 = some (.putfield 340, 3) := by decide +kernel
theorem i_226_7 : pm_at q_226 7 = some (.iconst 0, 1) := by decide +kernel
theorem i_226_8 : pm_at q_226 8 = some (.istore_n 1, 1) := by decide +kernel
theorem i_226_9 : pm_at q_226 9 = some (.iload_n 1, 1) := by decide +kernel
theorem i_226_10 : pm_at q_226 10 = some (.bipush 9, 2) := by decide +kernel
theorem i_226_12 : pm_at q_226 12 = some (.if_icmp .gt 19, 3) := by decide +kernel
theorem i_226_15 : pm_at q_226 15 = some (.aload_n 0, 1) := by decide +kernel
theorem i_226_16 : pm_at q_226 16 = some (.aload_n 0, 1) := by decide +kernel
theorem i_226_17 : pm_at q_226 17 = some (.iload_n 1, 1) := by decide +kernel
theorem i_226_18 : pm_at q_226 18 = some (.invokevirtual 335, 3) := by decide +kernel
theorem i_226_21 : pm_at q_226 21 = some (.i2l, 1) := by decide +kernel
theorem i_226_22 : pm_at q_226 22 = some (.invokevirtual 345, 3) := by decide +kernel
theorem i_226_25 : pm_at q_226 25 = some (.iinc 1 1, 3) := by decide +kernel
theorem i_226_28 : pm_at q_226 28 = some (.goto (-19), 3) := by decide +kernel
theorem i_226_31 : pm_at q_226 31 = some (.iconst 0, 1) := by decide +kernel
theorem i_226_32 : pm_at q_226 32 = some (.istore_n 1, 1) := by decide +kernel
theorem i_226_33 : pm_at q_226 33 = some (.iload_n 1, 1) := by decide +kernel
theorem i_226_34 : pm_at q_226 34 = some (.aload_n 0, 1) := by decide +kernel
theorem i_226_35 : pm_at q_226 35 = some (.getfield 96, 3) := by decide +kernel
theorem i_226_38 : pm_at q_226 38 = some (.if_icmp .ge 86, 3) := by decide +kernel
theorem i_226_41 : pm_at q_226 41 = some (.aload_n 0, 1) := by decide +kernel
theorem i_226_42 : pm_at q_226 42 = some (.aload_n 0, 1) := by decide +kernel
theorem i_226_43 : pm_at q_226 43 = some (.getfield 13, 3) := by decide +kernel
theorem i_226_46 : pm_at q_226 46 = some (.iload_n 1, 1) := by decide +kernel
theorem i_226_47 : pm_at q_226 47 = some (.iaload, 1) := by decide +kernel
theorem i_226_48 : pm_at q_226 48 = some (.i2l, 1) := by decide +kernel
theorem i_226_49 : pm_at q_226 49 = some (.invokevirtual 345, 3) := by decide +kernel
theorem i_226_52 : pm_at q_226 52 = some (.aload_n 0, 1) := by decide +kernel
theorem i_226_53 : pm_at q_226 53 = some (.aload_n 0, 1) := by decide +kernel
theorem i_226_54 : pm_at q_226 54 = some (.getfield 16, 3) := by decide +kernel
theorem i_226_57 : pm_at q_226 57 = some (.iload_n 1, 1) := by decide +kernel
theorem i_226_58 : pm_at q_226 58 = some (.iaload, 1) := by decide +kernel
theorem i_226_59 : pm_at q_226 59 = some (.i2l, 1) := by decide +kernel
theorem i_226_60 : pm_at q_226 60 = some (.invokevirtual 345, 3) := by decide +kernel
theorem i_226_63 : pm_at q_226 63 = some (.aload_n 0, 1) := by decide +kernel
theorem i_226_64 : pm_at q_226 64 = some (.aload_n 0, 1) := by decide +kernel
theorem i_226_65 : pm_at q_226 65 = some (.getfield 19, 3) := by decide +kernel
theorem i_226_68 : pm_at q_226 68 = some (.iload_n 1, 1) := by decide +kernel
theorem i_226_69 : pm_at q_226 69 = some (.iaload, 1) := by decide +kernel
theorem i_226_70 : pm_at q_226 70 = some (.i2l, 1) := by decide +kernel
theorem i_226_71 : pm_at q_226 71 = some (.invokevirtual 345, 3) := by decide +kernel
theorem i_226_74 : pm_at q_226 74 = some (.aload_n 0, 1) := by decide +kernel
theorem i_226_75 : pm_at q_226 75 = some (.aload_n 0, 1) := by decide +kernel
theorem i_226_76 : pm_at q_226 76 = some (.getfield 22, 3) := by decide +kernel
theorem i_226_79 : pm_at q_226 79 = some (.iload_n 1, 1) := by decide +kernel
theorem i_226_80 : pm_at q_226 80 = some (.iaload, 1) := by decide +kernel
theorem i_226_81 : pm_at q_226 81 = some (.i2l, 1) := by decide +kernel
theorem i_226_82 : pm_at q_226 82 = some (.invokevirtual 345, 3) := by decide +kernel
theorem i_226_85 : pm_at q_226 85 = some (.aload_n 0, 1) := by decide +kernel
theorem i_226_86 : pm_at q_226 86 = some (.aload_n 0, 1) := by decide +kernel
theorem i_226_87 : pm_at q_226 87 = some (.getfield 25, 3) := by decide +kernel
theorem i_226_90 : pm_at q_226 90 = some (.iload_n 1, 1) := by decide +kernel
theorem i_226_91 : pm_at q_226 91 = some (.iaload, 1) := by decide +kernel
theorem i_226_92 : pm_at q_226 92 = some (.i2l, 1) := by decide +kernel
theorem i_226_93 : pm_at q_226 93 = some (.invokevirtual 345, 3) := by decide +kernel
theorem i_226_96 : pm_at q_226 96 = some (.aload_n 0, 1) := by decide +kernel
theorem i_226_97 : pm_at q_226 97 = some (.aload_n 0, 1) := by decide +kernel
theorem i_226_98 : pm_at q_226 98 = some (.getfield 28, 3) := by decide +kernel
theorem i_226_101 : pm_at q_226 101 = some (.iload_n 1, 1) := by decide +kernel
theorem i_226_102 : pm_at q_226 102 = some (.iaload, 1) := by decide +kernel
theorem i_226_103 : pm_at q_226 103 = some (.i2l, 1) := by decide +kernel
theorem i_226_104 : pm_at q_226 104 = some (.invokevirtual 345, 3) := by decide +kernel
theorem i_226_107 : pm_at q_226 107 = some (.aload_n 0, 1) := by decide +kernel
theorem i_226_108 : pm_at q_226 108 = some (.aload_n 0, 1) := by decide +kernel
theorem i_226_109 : pm_at q_226 109 = some (.getfield 31, 3) := by decide +kernel
theorem i_226_112 : pm_at q_226 112 = some (.iload_n 1, 1) := by decide +kernel
theorem i_226_113 : pm_at q_226 113 = some (.iaload, 1) := by decide +kernel
theorem i_226_114 : pm_at q_226 114 = some (.i2l, 1) := by decide +kernel
theorem i_226_115 : pm_at q_226 115 = some (.invokevirtual 345, 3) := by decide +kernel
theorem i_226_118 : pm_at q_226 118 = some (.iinc 1 1, 3) := by decide +kernel
theorem i_226_121 : pm_at q_226 121 = some (.goto (-88), 3) := by decide +kernel
theorem i_226_124 : pm_at q_226 124 = some (.iconst 0, 1) := by decide +kernel
theorem i_226_125 : pm_at q_226 125 = some (.istore_n 1, 1) := by decide +kernel
theorem i_226_126 : pm_at q_226 126 = some (.iload_n 1, 1) := by decide +kernel
theorem i_226_127 : pm_at q_226 127 = some (.iconst 5, 1) := by decide +kernel
theorem i_226_128 : pm_at q_226 128 = some (.aload_n 0, 1) := by decide +kernel
theorem i_226_129 : pm_at q_226 129 = some (.getfield 106, 3) := by decide +kernel
theorem i_226_132 : pm_at q_226 132 = some (.imul, 1) := by decide +kernel
theorem i_226_133 : pm_at q_226 133 = some (.if_icmp .ge 20, 3) := by decide +kernel
theorem i_226_136 : pm_at q_226 136 = some (.aload_n 0, 1) := by decide +kernel
theorem i_226_137 : pm_at q_226 137 = some (.aload_n 0, 1) := by decide +kernel
theorem i_226_138 : pm_at q_226 138 = some (.getfield 34, 3) := by decide +kernel
theorem i_226_141 : pm_at q_226 141 = some (.iload_n 1, 1) := by decide +kernel
theorem i_226_142 : pm_at q_226 142 = some (.iaload, 1) := by decide +kernel
theorem i_226_143 : pm_at q_226 143 = some (.i2l, 1) := by decide +kernel
theorem i_226_144 : pm_at q_226 144 = some (.invokevirtual 345, 3) := by decide +kernel
theorem i_226_147 : pm_at q_226 147 = some (.iinc 1 1, 3) := by decide +kernel
theorem i_226_150 : pm_at q_226 150 = some (.goto (-24), 3) := by decide +kernel
theorem i_226_153 : pm_at q_226 153 = some (.iconst 0, 1) := by decide +kernel
theorem i_226_154 : pm_at q_226 154 = some (.istore_n 1, 1) := by decide +kernel
theorem i_226_155 : pm_at q_226 155 = some (.iload_n 1, 1) := by decide +kernel
theorem i_226_156 : pm_at q_226 156 = some (.aload_n 0, 1) := by decide +kernel
theorem i_226_157 : pm_at q_226 157 = some (.getfield 109, 3) := by decide +kernel
theorem i_226_160 : pm_at q_226 160 = some (.if_icmp .ge 31, 3) := by decide +kernel
theorem i_226_163 : pm_at q_226 163 = some (.aload_n 0, 1) := by decide +kernel
theorem i_226_164 : pm_at q_226 164 = some (.aload_n 0, 1) := by decide +kernel
theorem i_226_165 : pm_at q_226 165 = some (.getfield 37, 3) := by decide +kernel
theorem i_226_168 : pm_at q_226 168 = some (.iload_n 1, 1) := by decide +kernel
theorem i_226_169 : pm_at q_226 169 = some (.iaload, 1) := by decide +kernel
theorem i_226_170 : pm_at q_226 170 = some (.i2l, 1) := by decide +kernel
theorem i_226_171 : pm_at q_226 171 = some (.invokevirtual 345, 3) := by decide +kernel
theorem i_226_174 : pm_at q_226 174 = some (.aload_n 0, 1) := by decide +kernel
theorem i_226_175 : pm_at q_226 175 = some (.aload_n 0, 1) := by decide +kernel
theorem i_226_176 : pm_at q_226 176 = some (.getfield 40, 3) := by decide +kernel
theorem i_226_179 : pm_at q_226 179 = some (.iload_n 1, 1) := by decide +kernel
theorem i_226_180 : pm_at q_226 180 = some (.iaload, 1) := by decide +kernel
theorem i_226_181 : pm_at q_226 181 = some (.i2l, 1) := by decide +kernel
theorem i_226_182 : pm_at q_226 182 = some (.invokevirtual 345, 3) := by decide +kernel
theorem i_226_185 : pm_at q_226 185 = some (.iinc 1 1, 3) := by decide +kernel
theorem i_226_188 : pm_at q_226 188 = some (.goto (-33), 3) := by decide +kernel
theorem i_226_191 : pm_at q_226 191 = some (.aload_n 0, 1) := by decide +kernel
theorem i_226_192 : pm_at q_226 192 = some (.aload_n 0, 1) := by decide +kernel
theorem i_226_193 : pm_at q_226 193 = some (.getfield 309, 3) := by decide +kernel
theorem i_226_196 : pm_at q_226 196 = some (.invokevirtual 345, 3) := by decide +kernel
theorem i_226_199 : pm_at q_226 199 = some (.aload_n 0, 1) := by decide +kernel
theorem i_226_200 : pm_at q_226 200 = some (.aload_n 0, 1) := by decide +kernel
theorem i_226_201 : pm_at q_226 201 = some (.getfield 82, 3) := by decide +kernel
theorem i_226_204 : pm_at q_226 204 = some (.invokevirtual 345, 3) := by decide +kernel
theorem i_226_207 : pm_at q_226 207 = some (.aload_n 0, 1) := by decide +kernel
theorem i_226_208 : pm_at q_226 208 = some (.getfield 340, 3) := by decide +kernel
theorem i_226_211 : pm_at q_226 211 = some (.lreturn, 1) := by decide +kernel
theorem i_227_0 : pm_at q_227 0 = some (.iload_n 0, 1) := by decide +kernel
theorem i_227_1 : pm_at q_227 1 = some (.iload_n 0, 1) := by decide +kernel
theorem i_227_2 : pm_at q_227 2 = some (.iconst 1, 1) := by decide +kernel
theorem i_227_3 : pm_at q_227 3 = some (.iushr, 1) := by decide +kernel
theorem i_227_4 : pm_at q_227 4 = some (.ldc_w 265, 3) := by decide +kernel
theorem i_227_7 : pm_at q_227 7 = some (.iand, 1) := by decide +kernel
theorem i_227_8 : pm_at q_227 8 = some (.isub, 1) := by decide +kernel
theorem i_227_9 : pm_at q_227 9 = some (.istore_n 0, 1) := by decide +kernel
theorem i_227_10 : pm_at q_227 10 = some (.iload_n 0, 1) := by decide +kernel
theorem i_227_11 : pm_at q_227 11 = some (.ldc_w 266, 3) := by decide +kernel
theorem i_227_14 : pm_at q_227 14 = some (.iand, 1) := by decide +kernel
theorem i_227_15 : pm_at q_227 15 = some (.iload_n 0, 1) := by decide +kernel
theorem i_227_16 : pm_at q_227 16 = some (.iconst 2, 1) := by decide +kernel
theorem i_227_17 : pm_at q_227 17 = some (.iushr, 1) := by decide +kernel
theorem i_227_18 : pm_at q_227 18 = some (.ldc_w 266, 3) := by decide +kernel
theorem i_227_21 : pm_at q_227 21 = some (.iand, 1) := by decide +kernel
theorem i_227_22 : pm_at q_227 22 = some (.iadd, 1) := by decide +kernel
theorem i_227_23 : pm_at q_227 23 = some (.istore_n 0, 1) := by decide +kernel
theorem i_227_24 : pm_at q_227 24 = some (.iload_n 0, 1) := by decide +kernel
theorem i_227_25 : pm_at q_227 25 = some (.iload_n 0, 1) := by decide +kernel
theorem i_227_26 : pm_at q_227 26 = some (.iconst 4, 1) := by decide +kernel
theorem i_227_27 : pm_at q_227 27 = some (.iushr, 1) := by decide +kernel
theorem i_227_28 : pm_at q_227 28 = some (.iadd, 1) := by decide +kernel
theorem i_227_29 : pm_at q_227 29 = some (.ldc_w 267, 3) := by decide +kernel
theorem i_227_32 : pm_at q_227 32 = some (.iand, 1) := by decide +kernel
theorem i_227_33 : pm_at q_227 33 = some (.istore_n 0, 1) := by decide +kernel
theorem i_227_34 : pm_at q_227 34 = some (.iload_n 0, 1) := by decide +kernel
theorem i_227_35 : pm_at q_227 35 = some (.iload_n 0, 1) := by decide +kernel
theorem i_227_36 : pm_at q_227 36 = some (.bipush 8, 2) := by decide +kernel
theorem i_227_38 : pm_at q_227 38 = some (.iushr, 1) := by decide +kernel
theorem i_227_39 : pm_at q_227 39 = some (.iadd, 1) := by decide +kernel
theorem i_227_40 : pm_at q_227 40 = some (.istore_n 0, 1) := by decide +kernel
theorem i_227_41 : pm_at q_227 41 = some (.iload_n 0, 1) := by decide +kernel
theorem i_227_42 : pm_at q_227 42 = some (.iload_n 0, 1) := by decide +kernel
theorem i_227_43 : pm_at q_227 43 = some (.bipush 16, 2) := by decide +kernel
theorem i_227_45 : pm_at q_227 45 = some (.iushr, 1) := by decide +kernel
theorem i_227_46 : pm_at q_227 46 = some (.iadd, 1) := by decide +kernel
theorem i_227_47 : pm_at q_227 47 = some (.istore_n 0, 1) := by decide +kernel
theorem i_227_48 : pm_at q_227 48 = some (.iload_n 0, 1) := by decide +kernel
theorem i_227_49 : pm_at q_227 49 = some (.bipush 63, 2) := by decide +kernel
theorem i_227_51 : pm_at q_227 51 = some (.iand, 1) := by decide +kernel
theorem i_227_52 : pm_at q_227 52 = some (.ireturn, 1) := by decide +kernel
