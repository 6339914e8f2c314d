theorem at_10_0 : mj_at 10 0 = some (.iload_n 1, 0, 0) := by decide +kernel
theorem at_10_1 : mj_at 10 1 = some (.iconst 1, 0, 0) := by decide +kernel
theorem at_10_2 : mj_at 10 2 = some (.sipush 5000, 0, 0) := by decide +kernel
theorem at_10_5 : mj_at 10 5 = some (.invokestatic 39, 11, 3) := by decide +kernel
theorem at_10_8 : mj_at 10 8 = some (.ifCond .eq 27, 0, 0) := by decide +kernel
theorem at_10_11 : mj_at 10 11 = some (.iload_n 2, 0, 0) := by decide +kernel
theorem at_10_12 : mj_at 10 12 = some (.iconst 1, 0, 0) := by decide +kernel
theorem at_10_13 : mj_at 10 13 = some (.iload_n 1, 0, 0) := by decide +kernel
theorem at_10_14 : mj_at 10 14 = some (.invokestatic 39, 11, 3) := by decide +kernel
theorem at_10_17 : mj_at 10 17 = some (.ifCond .eq 18, 0, 0) := by decide +kernel
theorem at_10_20 : mj_at 10 20 = some (.iload_n 3, 0, 0) := by decide +kernel
theorem at_10_21 : mj_at 10 21 = some (.iconst (-1), 0, 0) := by decide +kernel
theorem at_10_22 : mj_at 10 22 = some (.sipush 5000, 0, 0) := by decide +kernel
theorem at_10_25 : mj_at 10 25 = some (.invokestatic 39, 11, 3) := by decide +kernel
theorem at_10_28 : mj_at 10 28 = some (.ifCond .eq 7, 0, 0) := by decide +kernel
theorem at_10_31 : mj_at 10 31 = some (.iconst 1, 0, 0) := by decide +kernel
theorem at_10_32 : mj_at 10 32 = some (.goto 4, 0, 0) := by decide +kernel
theorem at_10_35 : mj_at 10 35 = some (.iconst 0, 0, 0) := by decide +kernel
theorem at_10_36 : mj_at 10 36 = some (.istore 4, 0, 0) := by decide +kernel
theorem at_10_38 : mj_at 10 38 = some (.aload_n 0, 0, 0) := by decide +kernel
theorem at_10_39 : mj_at 10 39 = some (.getfield 35, 0, 3) := by decide +kernel
theorem at_10_42 : mj_at 10 42 = some (.getfield 43, 5, 0) := by decide +kernel
theorem at_10_45 : mj_at 10 45 = some (.ifCond .ne 16, 0, 0) := by decide +kernel
theorem at_10_48 : mj_at 10 48 = some (.aload_n 0, 0, 0) := by decide +kernel
theorem at_10_49 : mj_at 10 49 = some (.getfield 47, 0, 4) := by decide +kernel
theorem at_10_52 : mj_at 10 52 = some (.iconst 5, 0, 0) := by decide +kernel
theorem at_10_53 : mj_at 10 53 = some (.if_icmp .ge 8, 0, 0) := by decide +kernel
theorem at_10_56 : mj_at 10 56 = some (.iload 4, 0, 0) := by decide +kernel
theorem at_10_58 : mj_at 10 58 = some (.ifCond .ne 5, 0, 0) := by decide +kernel
theorem at_10_61 : mj_at 10 61 = some (.iconst (-1), 0, 0) := by decide +kernel
theorem at_10_62 : mj_at 10 62 = some (.ireturn, 0, 0) := by decide +kernel
theorem at_10_63 : mj_at 10 63 = some (.aload_n 0, 0, 0) := by decide +kernel
theorem at_10_64 : mj_at 10 64 = some (.getfield 11, 0, 0) := by decide +kernel
theorem at_10_67 : mj_at 10 67 = some (.aload_n 0, 0, 0) := by decide +kernel
theorem at_10_68 : mj_at 10 68 = some (.getfield 47, 0, 4) := by decide +kernel
theorem at_10_71 : mj_at 10 71 = some (.aaload, 0, 0) := by decide +kernel
theorem at_10_72 : mj_at 10 72 = some (.iload_n 1, 0, 0) := by decide +kernel
theorem at_10_73 : mj_at 10 73 = some (.iload_n 2, 0, 0) := by decide +kernel
theorem at_10_74 : mj_at 10 74 = some (.iload_n 3, 0, 0) := by decide +kernel
theorem at_10_75 : mj_at 10 75 = some (.invokevirtual 51, 12, 3) := by decide +kernel
theorem at_10_78 : mj_at 10 78 = some (.aload_n 0, 0, 0) := by decide +kernel
theorem at_10_79 : mj_at 10 79 = some (.getfield 25, 0, 2) := by decide +kernel
theorem at_10_82 : mj_at 10 82 = some (.iconst 0, 0, 0) := by decide +kernel
theorem at_10_83 : mj_at 10 83 = some (.putfield 55, 2, 0) := by decide +kernel
theorem at_10_86 : mj_at 10 86 = some (.aload_n 0, 0, 0) := by decide +kernel
theorem at_10_87 : mj_at 10 87 = some (.dup, 0, 0) := by decide +kernel
theorem at_10_88 : mj_at 10 88 = some (.getfield 47, 0, 4) := by decide +kernel
theorem at_10_91 : mj_at 10 91 = some (.iconst 1, 0, 0) := by decide +kernel
theorem at_10_92 : mj_at 10 92 = some (.iadd, 0, 0) := by decide +kernel
theorem at_10_93 : mj_at 10 93 = some (.putfield 47, 0, 4) := by decide +kernel
theorem at_10_96 : mj_at 10 96 = some (.aload_n 0, 0, 0) := by decide +kernel
theorem at_10_97 : mj_at 10 97 = some (.getfield 47, 0, 4) := by decide +kernel
theorem at_10_100 : mj_at 10 100 = some (.iconst 1, 0, 0) := by decide +kernel
theorem at_10_101 : mj_at 10 101 = some (.isub, 0, 0) := by decide +kernel
theorem at_10_102 : mj_at 10 102 = some (.ireturn, 0, 0) := by decide +kernel
theorem at_11_0 : mj_at 11 0 = some (.iload_n 0, 0, 0) := by decide +kernel
theorem at_11_1 : mj_at 11 1 = some (.iload_n 1, 0, 0) := by decide +kernel
theorem at_11_2 : mj_at 11 2 = some (.if_icmp .lt 12, 0, 0) := by decide +kernel
theorem at_11_5 : mj_at 11 5 = some (.iload_n 0, 0, 0) := by decide +kernel
theorem at_11_6 : mj_at 11 6 = some (.iload_n 2, 0, 0) := by decide +kernel
theorem at_11_7 : mj_at 11 7 = some (.if_icmp .gt 7, 0, 0) := by decide +kernel
theorem at_11_10 : mj_at 11 10 = some (.iconst 1, 0, 0) := by decide +kernel
theorem at_11_11 : mj_at 11 11 = some (.goto 4, 0, 0) := by decide +kernel
theorem at_11_14 : mj_at 11 14 = some (.iconst 0, 0, 0) := by decide +kernel
theorem at_11_15 : mj_at 11 15 = some (.ireturn, 0, 0) := by decide +kernel
theorem at_12_0 : mj_at 12 0 = some (.aload_n 0, 0, 0) := by decide +kernel
theorem at_12_1 : mj_at 12 1 = some (.iload_n 1, 0, 0) := by decide +kernel
theorem at_12_2 : mj_at 12 2 = some (.putfield 18, 3, 1) := by decide +kernel
theorem at_12_5 : mj_at 12 5 = some (.aload_n 0, 0, 0) := by decide +kernel
theorem at_12_6 : mj_at 12 6 = some (.iload_n 2, 0, 0) := by decide +kernel
theorem at_12_7 : mj_at 12 7 = some (.putfield 22, 3, 2) := by decide +kernel
theorem at_12_10 : mj_at 12 10 = some (.aload_n 0, 0, 0) := by decide +kernel
theorem at_12_11 : mj_at 12 11 = some (.iload_n 3, 0, 0) := by decide +kernel
theorem at_12_12 : mj_at 12 12 = some (.putfield 25, 3, 3) := by decide +kernel
theorem at_12_15 : mj_at 12 15 = some (.return_, 0, 0) := by decide +kernel
theorem at_13_0 : mj_at 13 0 = some (.aload_n 0, 0, 0) := by decide +kernel
theorem at_13_1 : mj_at 13 1 = some (.getfield 35, 0, 3) := by decide +kernel
theorem at_13_4 : mj_at 13 4 = some (.getfield 43, 5, 0) := by decide +kernel
theorem at_13_7 : mj_at 13 7 = some (.ifCond .ne 30, 0, 0) := by decide +kernel
theorem at_13_10 : mj_at 13 10 = some (.aload_n 0, 0, 0) := by decide +kernel
theorem at_13_11 : mj_at 13 11 = some (.iload_n 1, 0, 0) := by decide +kernel
theorem at_13_12 : mj_at 13 12 = some (.invokevirtual 58, 14, 1) := by decide +kernel
theorem at_13_15 : mj_at 13 15 = some (.ifCond .eq 22, 0, 0) := by decide +kernel
theorem at_13_18 : mj_at 13 18 = some (.iload_n 2, 0, 0) := by decide +kernel
theorem at_13_19 : mj_at 13 19 = some (.iconst 3, 0, 0) := by decide +kernel
theorem at_13_20 : mj_at 13 20 = some (.invokestatic 62, 15, 2) := by decide +kernel
theorem at_13_23 : mj_at 13 23 = some (.ifCond .eq 14, 0, 0) := by decide +kernel
theorem at_13_26 : mj_at 13 26 = some (.iload_n 3, 0, 0) := by decide +kernel
theorem at_13_27 : mj_at 13 27 = some (.iload 4, 0, 0) := by decide +kernel
theorem at_13_29 : mj_at 13 29 = some (.iload 5, 0, 0) := by decide +kernel
theorem at_13_31 : mj_at 13 31 = some (.invokestatic 66, 16, 3) := by decide +kernel
theorem at_13_34 : mj_at 13 34 = some (.ifCond .ne 5, 0, 0) := by decide +kernel
theorem at_13_37 : mj_at 13 37 = some (.iconst 0, 0, 0) := by decide +kernel
theorem at_13_38 : mj_at 13 38 = some (.ireturn, 0, 0) := by decide +kernel
theorem at_13_39 : mj_at 13 39 = some (.aload_n 0, 0, 0) := by decide +kernel
theorem at_13_40 : mj_at 13 40 = some (.getfield 11, 0, 0) := by decide +kernel
theorem at_13_43 : mj_at 13 43 = some (.iload_n 1, 0, 0) := by decide +kernel
theorem at_13_44 : mj_at 13 44 = some (.aaload, 0, 0) := by decide +kernel
theorem at_13_45 : mj_at 13 45 = some (.getfield 69, 3, 0) := by decide +kernel
theorem at_13_48 : mj_at 13 48 = some (.iload_n 2, 0, 0) := by decide +kernel
theorem at_13_49 : mj_at 13 49 = some (.aaload, 0, 0) := by decide +kernel
theorem at_13_50 : mj_at 13 50 = some (.iload_n 3, 0, 0) := by decide +kernel
theorem at_13_51 : mj_at 13 51 = some (.iload 4, 0, 0) := by decide +kernel
theorem at_13_53 : mj_at 13 53 = some (.iload 5, 0, 0) := by decide +kernel
theorem at_13_55 : mj_at 13 55 = some (.invokevirtual 73, 17, 3) := by decide +kernel
theorem at_13_58 : mj_at 13 58 = some (.ifCond .ne 5, 0, 0) := by decide +kernel
theorem at_13_61 : mj_at 13 61 = some (.iconst 0, 0, 0) := by decide +kernel
theorem at_13_62 : mj_at 13 62 = some (.ireturn, 0, 0) := by decide +kernel
theorem at_13_63 : mj_at 13 63 = some (.aload_n 0, 0, 0) := by decide +kernel
theorem at_13_64 : mj_at 13 64 = some (.getfield 25, 0, 2) := by decide +kernel
theorem at_13_67 : mj_at 13 67 = some (.iconst 0, 0, 0) := by decide +kernel
theorem at_13_68 : mj_at 13 68 = some (.putfield 55, 2, 0) := by decide +kernel
theorem at_13_71 : mj_at 13 71 = some (.iconst 1, 0, 0) := by decide +kernel
theorem at_13_72 : mj_at 13 72 = some (.ireturn, 0, 0) := by decide +kernel
theorem at_14_0 : mj_at 14 0 = some (.iload_n 1, 0, 0) := by decide +kernel
theorem at_14_1 : mj_at 14 1 = some (.aload_n 0, 0, 0) := by decide +kernel
theorem at_14_2 : mj_at 14 2 = some (.getfield 47, 0, 4) := by decide +kernel
theorem at_14_5 : mj_at 14 5 = some (.invokestatic 62, 15, 2) := by decide +kernel
theorem at_14_8 : mj_at 14 8 = some (.ireturn, 0, 0) := by decide +kernel
theorem at_15_0 : mj_at 15 0 = some (.iload_n 0, 0, 0) := by decide +kernel
theorem at_15_1 : mj_at 15 1 = some (.ifCond .lt 12, 0, 0) := by decide +kernel
theorem at_15_4 : mj_at 15 4 = some (.iload_n 0, 0, 0) := by decide +kernel
theorem at_15_5 : mj_at 15 5 = some (.iload_n 1, 0, 0) := by decide +kernel
theorem at_15_6 : mj_at 15 6 = some (.if_icmp .ge 7, 0, 0) := by decide +kernel
theorem at_15_9 : mj_at 15 9 = some (.iconst 1, 0, 0) := by decide +kernel
theorem at_15_10 : mj_at 15 10 = some (.goto 4, 0, 0) := by decide +kernel
theorem at_15_13 : mj_at 15 13 = some (.iconst 0, 0, 0) := by decide +kernel
theorem at_15_14 : mj_at 15 14 = some (.ireturn, 0, 0) := by decide +kernel
theorem at_16_0 : mj_at 16 0 = some (.iload_n 0, 0, 0) := by decide +kernel
theorem at_16_1 : mj_at 16 1 = some (.getstatic 157, 1, 0) := by decide +kernel
theorem at_16_4 : mj_at 16 4 = some (.arraylength, 0, 0) := by decide +kernel
theorem at_16_5 : mj_at 16 5 = some (.invokestatic 62, 15, 2) := by decide +kernel
theorem at_16_8 : mj_at 16 8 = some (.ifCond .eq 37, 0, 0) := by decide +kernel
theorem at_16_11 : mj_at 16 11 = some (.iload_n 1, 0, 0) := by decide +kernel
theorem at_16_12 : mj_at 16 12 = some (.iconst 0, 0, 0) := by decide +kernel
theorem at_16_13 : mj_at 16 13 = some (.getstatic 160, 2, 0) := by decide +kernel
theorem at_16_16 : mj_at 16 16 = some (.iload_n 0, 0, 0) := by decide +kernel
theorem at_16_17 : mj_at 16 17 = some (.iaload, 0, 0) := by decide +kernel
theorem at_16_18 : mj_at 16 18 = some (.invokestatic 39, 11, 3) := by decide +kernel
theorem at_16_21 : mj_at 16 21 = some (.ifCond .eq 24, 0, 0) := by decide +kernel
theorem at_16_24 : mj_at 16 24 = some (.iload_n 2, 0, 0) := by decide +kernel
theorem at_16_25 : mj_at 16 25 = some (.getstatic 163, 3, 0) := by decide +kernel
theorem at_16_28 : mj_at 16 28 = some (.iload_n 0, 0, 0) := by decide +kernel
theorem at_16_29 : mj_at 16 29 = some (.iaload, 0, 0) := by decide +kernel
theorem at_16_30 : mj_at 16 30 = some (.getstatic 166, 4, 0) := by decide +kernel
theorem at_16_33 : mj_at 16 33 = some (.iload_n 0, 0, 0) := by decide +kernel
theorem at_16_34 : mj_at 16 34 = some (.iaload, 0, 0) := by decide +kernel
theorem at_16_35 : mj_at 16 35 = some (.invokestatic 39, 11, 3) := by decide +kernel
theorem at_16_38 : mj_at 16 38 = some (.ifCond .eq 7, 0, 0) := by decide +kernel
theorem at_16_41 : mj_at 16 41 = some (.iconst 1, 0, 0) := by decide +kernel
theorem at_16_42 : mj_at 16 42 = some (.goto 4, 0, 0) := by decide +kernel
theorem at_16_45 : mj_at 16 45 = some (.iconst 0, 0, 0) := by decide +kernel
theorem at_16_46 : mj_at 16 46 = some (.ireturn, 0, 0) := by decide +kernel
theorem at_17_0 : mj_at 17 0 = some (.aload_n 0, 0, 0) := by decide +kernel
theorem at_17_1 : mj_at 17 1 = some (.getfield 24, 4, 4) := by decide +kernel
theorem at_17_4 : mj_at 17 4 = some (.bipush 12, 0, 0) := by decide +kernel
theorem at_17_6 : mj_at 17 6 = some (.if_icmp .lt 5, 0, 0) := by decide +kernel
theorem at_17_9 : mj_at 17 9 = some (.iconst 0, 0, 0) := by decide +kernel
theorem at_17_10 : mj_at 17 10 = some (.ireturn, 0, 0) := by decide +kernel
theorem at_17_11 : mj_at 17 11 = some (.aload_n 0, 0, 0) := by decide +kernel
theorem at_17_12 : mj_at 17 12 = some (.getfield 9, 4, 0) := by decide +kernel
theorem at_17_15 : mj_at 17 15 = some (.aload_n 0, 0, 0) := by decide +kernel
theorem at_17_16 : mj_at 17 16 = some (.getfield 24, 4, 4) := by decide +kernel
theorem at_17_19 : mj_at 17 19 = some (.iload_n 1, 0, 0) := by decide +kernel
theorem at_17_20 : mj_at 17 20 = some (.iastore, 0, 0) := by decide +kernel
theorem at_17_21 : mj_at 17 21 = some (.aload_n 0, 0, 0) := by decide +kernel
theorem at_17_22 : mj_at 17 22 = some (.getfield 15, 4, 1) := by decide +kernel
theorem at_17_25 : mj_at 17 25 = some (.aload_n 0, 0, 0) := by decide +kernel
theorem at_17_26 : mj_at 17 26 = some (.getfield 24, 4, 4) := by decide +kernel
theorem at_17_29 : mj_at 17 29 = some (.iload_n 2, 0, 0) := by decide +kernel
theorem at_17_30 : mj_at 17 30 = some (.iastore, 0, 0) := by decide +kernel
theorem at_17_31 : mj_at 17 31 = some (.aload_n 0, 0, 0) := by decide +kernel
theorem at_17_32 : mj_at 17 32 = some (.getfield 18, 4, 2) := by decide +kernel
theorem at_17_35 : mj_at 17 35 = some (.aload_n 0, 0, 0) := by decide +kernel
theorem at_17_36 : mj_at 17 36 = some (.getfield 24, 4, 4) := by decide +kernel
theorem at_17_39 : mj_at 17 39 = some (.iload_n 3, 0, 0) := by decide +kernel
theorem at_17_40 : mj_at 17 40 = some (.iastore, 0, 0) := by decide +kernel
theorem at_17_41 : mj_at 17 41 = some (.aload_n 0, 0, 0) := by decide +kernel
theorem at_17_42 : mj_at 17 42 = some (.dup, 0, 0) := by decide +kernel
theorem at_17_43 : mj_at 17 43 = some (.getfield 24, 4, 4) := by decide +kernel
theorem at_17_46 : mj_at 17 46 = some (.iconst 1, 0, 0) := by decide +kernel
theorem at_17_47 : mj_at 17 47 = some (.iadd, 0, 0) := by decide +kernel
theorem at_17_48 : mj_at 17 48 = some (.putfield 24, 4, 4) := by decide +kernel
theorem at_17_51 : mj_at 17 51 = some (.iconst 1, 0, 0) := by decide +kernel
theorem at_17_52 : mj_at 17 52 = some (.ireturn, 0, 0) := by decide +kernel
theorem at_18_0 : mj_at 18 0 = some (.aload_n 0, 0, 0) := by decide +kernel
theorem at_18_1 : mj_at 18 1 = some (.getfield 35, 0, 3) := by decide +kernel
theorem at_18_4 : mj_at 18 4 = some (.getfield 43, 5, 0) := by decide +kernel
theorem at_18_7 : mj_at 18 7 = some (.ifCond .ne 11, 0, 0) := by decide +kernel
theorem at_18_10 : mj_at 18 10 = some (.aload_n 0, 0, 0) := by decide +kernel
theorem at_18_11 : mj_at 18 11 = some (.iload_n 1, 0, 0) := by decide +kernel
theorem at_18_12 : mj_at 18 12 = some (.invokevirtual 58, 14, 1) := by decide +kernel
theorem at_18_15 : mj_at 18 15 = some (.ifCond .ne 5, 0, 0) := by decide +kernel
theorem at_18_18 : mj_at 18 18 = some (.iconst 0, 0, 0) := by decide +kernel
theorem at_18_19 : mj_at 18 19 = some (.ireturn, 0, 0) := by decide +kernel
theorem at_18_20 : mj_at 18 20 = some (.aload_n 0, 0, 0) := by decide +kernel
theorem at_18_21 : mj_at 18 21 = some (.getfield 11, 0, 0) := by decide +kernel
theorem at_18_24 : mj_at 18 24 = some (.iload_n 1, 0, 0) := by decide +kernel
theorem at_18_25 : mj_at 18 25 = some (.aaload, 0, 0) := by decide +kernel
theorem at_18_26 : mj_at 18 26 = some (.invokevirtual 78, 19, 0) := by decide +kernel
theorem at_18_29 : mj_at 18 29 = some (.aload_n 0, 0, 0) := by decide +kernel
theorem at_18_30 : mj_at 18 30 = some (.getfield 25, 0, 2) := by decide +kernel
theorem at_18_33 : mj_at 18 33 = some (.iconst 0, 0, 0) := by decide +kernel
theorem at_18_34 : mj_at 18 34 = some (.putfield 55, 2, 0) := by decide +kernel
theorem at_18_37 : mj_at 18 37 = some (.iconst 1, 0, 0) := by decide +kernel
theorem at_18_38 : mj_at 18 38 = some (.ireturn, 0, 0) := by decide +kernel
theorem at_19_0 : mj_at 19 0 = some (.iconst 0, 0, 0) := by decide +kernel
theorem at_19_1 : mj_at 19 1 = some (.istore_n 1, 0, 0) := by decide +kernel
theorem at_19_2 : mj_at 19 2 = some (.iload_n 1, 0, 0) := by decide +kernel
theorem at_19_3 : mj_at 19 3 = some (.iconst 3, 0, 0) := by decide +kernel
theorem at_19_4 : mj_at 19 4 = some (.if_icmp .ge 19, 0, 0) := by decide +kernel
theorem at_19_7 : mj_at 19 7 = some (.aload_n 0, 0, 0) := by decide +kernel
theorem at_19_8 : mj_at 19 8 = some (.getfield 11, 3, 0) := by decide +kernel
theorem at_19_11 : mj_at 19 11 = some (.iload_n 1, 0, 0) := by decide +kernel
theorem at_19_12 : mj_at 19 12 = some (.aaload, 0, 0) := by decide +kernel
theorem at_19_13 : mj_at 19 13 = some (.iconst 0, 0, 0) := by decide +kernel
theorem at_19_14 : mj_at 19 14 = some (.putfield 28, 4, 4) := by decide +kernel
theorem at_19_17 : mj_at 19 17 = some (.iinc 1 1, 0, 0) := by decide +kernel
theorem at_19_20 : mj_at 19 20 = some (.goto (-18), 0, 0) := by decide +kernel
theorem at_19_23 : mj_at 19 23 = some (.return_, 0, 0) := by decide +kernel
theorem at_20_0 : mj_at 20 0 = some (.aload_n 0, 0, 0) := by decide +kernel
theorem at_20_1 : mj_at 20 1 = some (.getfield 35, 0, 3) := by decide +kernel
theorem at_20_4 : mj_at 20 4 = some (.getfield 43, 5, 0) := by decide +kernel
theorem at_20_7 : mj_at 20 7 = some (.ifCond .eq 5, 0, 0) := by decide +kernel
theorem at_20_10 : mj_at 20 10 = some (.iconst (-1), 0, 0) := by decide +kernel
theorem at_20_11 : mj_at 20 11 = some (.ireturn, 0, 0) := by decide +kernel
theorem at_20_12 : mj_at 20 12 = some (.aload_n 0, 0, 0) := by decide +kernel
theorem at_20_13 : mj_at 20 13 = some (.getfield 25, 0, 2) := by decide +kernel
theorem at_20_16 : mj_at 20 16 = some (.iconst 0, 0, 0) := by decide +kernel
theorem at_20_17 : mj_at 20 17 = some (.putfield 55, 2, 0) := by decide +kernel
theorem at_20_20 : mj_at 20 20 = some (.aload_n 0, 0, 0) := by decide +kernel
theorem at_20_21 : mj_at 20 21 = some (.getfield 18, 0, 1) := by decide +kernel
theorem at_20_24 : mj_at 20 24 = some (.iconst (-1), 0, 0) := by decide +kernel
theorem at_20_25 : mj_at 20 25 = some (.putfield 81, 1, 0) := by decide +kernel
theorem at_20_28 : mj_at 20 28 = some (.aload_n 0, 0, 0) := by decide +kernel
theorem at_20_29 : mj_at 20 29 = some (.getfield 47, 0, 4) := by decide +kernel
theorem at_20_32 : mj_at 20 32 = some (.ifCond .ne 6, 0, 0) := by decide +kernel
theorem at_20_35 : mj_at 20 35 = some (.bipush 9, 0, 0) := by decide +kernel
theorem at_20_37 : mj_at 20 37 = some (.ireturn, 0, 0) := by decide +kernel
theorem at_20_38 : mj_at 20 38 = some (.iconst 0, 0, 0) := by decide +kernel
theorem at_20_39 : mj_at 20 39 = some (.istore_n 1, 0, 0) := by decide +kernel
theorem at_20_40 : mj_at 20 40 = some (.iload_n 1, 0, 0) := by decide +kernel
theorem at_20_41 : mj_at 20 41 = some (.aload_n 0, 0, 0) := by decide +kernel
theorem at_20_42 : mj_at 20 42 = some (.getfield 47, 0, 4) := by decide +kernel
theorem at_20_45 : mj_at 20 45 = some (.if_icmp .ge 37, 0, 0) := by decide +kernel
theorem at_20_48 : mj_at 20 48 = some (.aload_n 0, 0, 0) := by decide +kernel
theorem at_20_49 : mj_at 20 49 = some (.getfield 18, 0, 1) := by decide +kernel
theorem at_20_52 : mj_at 20 52 = some (.aload_n 0, 0, 0) := by decide +kernel
theorem at_20_53 : mj_at 20 53 = some (.getfield 11, 0, 0) := by decide +kernel
theorem at_20_56 : mj_at 20 56 = some (.iload_n 1, 0, 0) := by decide +kernel
theorem at_20_57 : mj_at 20 57 = some (.aaload, 0, 0) := by decide +kernel
theorem at_20_58 : mj_at 20 58 = some (.getfield 69, 3, 0) := by decide +kernel
theorem at_20_61 : mj_at 20 61 = some (.invokevirtual 84, 21, 1) := by decide +kernel
theorem at_20_64 : mj_at 20 64 = some (.istore_n 2, 0, 0) := by decide +kernel
theorem at_20_65 : mj_at 20 65 = some (.iload_n 2, 0, 0) := by decide +kernel
theorem at_20_66 : mj_at 20 66 = some (.ifCond .eq 10, 0, 0) := by decide +kernel
theorem at_20_69 : mj_at 20 69 = some (.iload_n 2, 0, 0) := by decide +kernel
theorem at_20_70 : mj_at 20 70 = some (.bipush 10, 0, 0) := by decide +kernel
theorem at_20_72 : mj_at 20 72 = some (.iload_n 1, 0, 0) := by decide +kernel
theorem at_20_73 : mj_at 20 73 = some (.imul, 0, 0) := by decide +kernel
theorem at_20_74 : mj_at 20 74 = some (.iadd, 0, 0) := by decide +kernel
theorem at_20_75 : mj_at 20 75 = some (.ireturn, 0, 0) := by decide +kernel
theorem at_20_76 : mj_at 20 76 = some (.iinc 1 1, 0, 0) := by decide +kernel
theorem at_20_79 : mj_at 20 79 = some (.goto (-39), 0, 0) := by decide +kernel
theorem at_20_82 : mj_at 20 82 = some (.aload_n 0, 0, 0) := by decide +kernel
theorem at_20_83 : mj_at 20 83 = some (.getfield 25, 0, 2) := by decide +kernel
theorem at_20_86 : mj_at 20 86 = some (.aload_n 0, 0, 0) := by decide +kernel
theorem at_20_87 : mj_at 20 87 = some (.getfield 11, 0, 0) := by decide +kernel
theorem at_20_90 : mj_at 20 90 = some (.aload_n 0, 0, 0) := by decide +kernel
theorem at_20_91 : mj_at 20 91 = some (.getfield 47, 0, 4) := by decide +kernel
theorem at_20_94 : mj_at 20 94 = some (.invokevirtual 88, 35, 2) := by decide +kernel
theorem at_20_97 : mj_at 20 97 = some (.istore_n 1, 0, 0) := by decide +kernel
theorem at_20_98 : mj_at 20 98 = some (.iload_n 1, 0, 0) := by decide +kernel
theorem at_20_99 : mj_at 20 99 = some (.iconst (-1), 0, 0) := by decide +kernel
theorem at_20_100 : mj_at 20 100 = some (.if_icmp .ne 7, 0, 0) := by decide +kernel
theorem at_20_103 : mj_at 20 103 = some (.iconst 0, 0, 0) := by decide +kernel
theorem at_20_104 : mj_at 20 104 = some (.goto 10, 0, 0) := by decide +kernel
theorem at_20_107 : mj_at 20 107 = some (.bipush 8, 0, 0) := by decide +kernel
theorem at_20_109 : mj_at 20 109 = some (.bipush 10, 0, 0) := by decide +kernel
theorem at_20_111 : mj_at 20 111 = some (.iload_n 1, 0, 0) := by decide +kernel
theorem at_20_112 : mj_at 20 112 = some (.imul, 0, 0) := by decide +kernel
theorem at_20_113 : mj_at 20 113 = some (.iadd, 0, 0) := by decide +kernel
theorem at_20_114 : mj_at 20 114 = some (.ireturn, 0, 0) := by decide +kernel
theorem at_21_0 : mj_at 21 0 = some (.aload_n 0, 0, 0) := by decide +kernel
theorem at_21_1 : mj_at 21 1 = some (.aload_n 1, 0, 0) := by decide +kernel
theorem at_21_2 : mj_at 21 2 = some (.invokevirtual 19, 22, 1) := by decide +kernel
theorem at_21_5 : mj_at 21 5 = some (.iconst 0, 0, 0) := by decide +kernel
theorem at_21_6 : mj_at 21 6 = some (.istore_n 2, 0, 0) := by decide +kernel
theorem at_21_7 : mj_at 21 7 = some (.iload_n 2, 0, 0) := by decide +kernel
theorem at_21_8 : mj_at 21 8 = some (.iconst 3, 0, 0) := by decide +kernel
theorem at_21_9 : mj_at 21 9 = some (.if_icmp .ge 22, 0, 0) := by decide +kernel
theorem at_21_12 : mj_at 21 12 = some (.aload_n 0, 0, 0) := by decide +kernel
theorem at_21_13 : mj_at 21 13 = some (.aload_n 1, 0, 0) := by decide +kernel
theorem at_21_14 : mj_at 21 14 = some (.iload_n 2, 0, 0) := by decide +kernel
theorem at_21_15 : mj_at 21 15 = some (.invokevirtual 23, 23, 2) := by decide +kernel
theorem at_21_18 : mj_at 21 18 = some (.istore_n 3, 0, 0) := by decide +kernel
theorem at_21_19 : mj_at 21 19 = some (.iload_n 3, 0, 0) := by decide +kernel
theorem at_21_20 : mj_at 21 20 = some (.ifCond .eq 5, 0, 0) := by decide +kernel
theorem at_21_23 : mj_at 21 23 = some (.iload_n 3, 0, 0) := by decide +kernel
theorem at_21_24 : mj_at 21 24 = some (.ireturn, 0, 0) := by decide +kernel
theorem at_21_25 : mj_at 21 25 = some (.iinc 2 1, 0, 0) := by decide +kernel
theorem at_21_28 : mj_at 21 28 = some (.goto (-21), 0, 0) := by decide +kernel
theorem at_21_31 : mj_at 21 31 = some (.iconst 0, 0, 0) := by decide +kernel
theorem at_21_32 : mj_at 21 32 = some (.ireturn, 0, 0) := by decide +kernel
theorem at_22_0 : mj_at 22 0 = some (.iconst 2, 0, 0) := by decide +kernel
theorem at_22_1 : mj_at 22 1 = some (.istore_n 2, 0, 0) := by decide +kernel
theorem at_22_2 : mj_at 22 2 = some (.iload_n 2, 0, 0) := by decide +kernel
theorem at_22_3 : mj_at 22 3 = some (.ifCond .lt 107, 0, 0) := by decide +kernel
theorem at_22_6 : mj_at 22 6 = some (.aload_n 1, 0, 0) := by decide +kernel
theorem at_22_7 : mj_at 22 7 = some (.iload_n 2, 0, 0) := by decide +kernel
theorem at_22_8 : mj_at 22 8 = some (.aaload, 0, 0) := by decide +kernel
theorem at_22_9 : mj_at 22 9 = some (.astore_n 3, 0, 0) := by decide +kernel
theorem at_22_10 : mj_at 22 10 = some (.aload_n 3, 0, 0) := by decide +kernel
theorem at_22_11 : mj_at 22 11 = some (.iconst 0, 0, 0) := by decide +kernel
theorem at_22_12 : mj_at 22 12 = some (.putfield 27, 4, 5) := by decide +kernel
theorem at_22_15 : mj_at 22 15 = some (.iconst 0, 0, 0) := by decide +kernel
theorem at_22_16 : mj_at 22 16 = some (.istore 4, 0, 0) := by decide +kernel
theorem at_22_18 : mj_at 22 18 = some (.iload 4, 0, 0) := by decide +kernel
theorem at_22_20 : mj_at 22 20 = some (.aload_n 3, 0, 0) := by decide +kernel
theorem at_22_21 : mj_at 22 21 = some (.getfield 32, 4, 4) := by decide +kernel
theorem at_22_24 : mj_at 22 24 = some (.if_icmp .ge 80, 0, 0) := by decide +kernel
theorem at_22_27 : mj_at 22 27 = some (.aload_n 3, 0, 0) := by decide +kernel
theorem at_22_28 : mj_at 22 28 = some (.getfield 35, 4, 2) := by decide +kernel
theorem at_22_31 : mj_at 22 31 = some (.iload 4, 0, 0) := by decide +kernel
theorem at_22_33 : mj_at 22 33 = some (.iaload, 0, 0) := by decide +kernel
theorem at_22_34 : mj_at 22 34 = some (.istore 5, 0, 0) := by decide +kernel
theorem at_22_36 : mj_at 22 36 = some (.aload_n 3, 0, 0) := by decide +kernel
theorem at_22_37 : mj_at 22 37 = some (.getfield 38, 4, 0) := by decide +kernel
theorem at_22_40 : mj_at 22 40 = some (.iload 4, 0, 0) := by decide +kernel
theorem at_22_42 : mj_at 22 42 = some (.iaload, 0, 0) := by decide +kernel
theorem at_22_43 : mj_at 22 43 = some (.bipush 8, 0, 0) := by decide +kernel
theorem at_22_45 : mj_at 22 45 = some (.if_icmp .ne 19, 0, 0) := by decide +kernel
theorem at_22_48 : mj_at 22 48 = some (.aload_n 3, 0, 0) := by decide +kernel
theorem at_22_49 : mj_at 22 49 = some (.dup, 0, 0) := by decide +kernel
theorem at_22_50 : mj_at 22 50 = some (.getfield 27, 4, 5) := by decide +kernel
theorem at_22_53 : mj_at 22 53 = some (.iconst 1, 0, 0) := by decide +kernel
theorem at_22_54 : mj_at 22 54 = some (.iload 5, 0, 0) := by decide +kernel
theorem at_22_56 : mj_at 22 56 = some (.ishl, 0, 0) := by decide +kernel
theorem at_22_57 : mj_at 22 57 = some (.ior, 0, 0) := by decide +kernel
theorem at_22_58 : mj_at 22 58 = some (.putfield 27, 4, 5) := by decide +kernel
theorem at_22_61 : mj_at 22 61 = some (.goto 37, 0, 0) := by decide +kernel
theorem at_22_64 : mj_at 22 64 = some (.aload_n 3, 0, 0) := by decide +kernel
theorem at_22_65 : mj_at 22 65 = some (.getfield 38, 4, 0) := by decide +kernel
theorem at_22_68 : mj_at 22 68 = some (.iload 4, 0, 0) := by decide +kernel
theorem at_22_70 : mj_at 22 70 = some (.iaload, 0, 0) := by decide +kernel
theorem at_22_71 : mj_at 22 71 = some (.bipush 10, 0, 0) := by decide +kernel
theorem at_22_73 : mj_at 22 73 = some (.if_icmp .ne 25, 0, 0) := by decide +kernel
theorem at_22_76 : mj_at 22 76 = some (.iload 5, 0, 0) := by decide +kernel
theorem at_22_78 : mj_at 22 78 = some (.iload_n 2, 0, 0) := by decide +kernel
theorem at_22_79 : mj_at 22 79 = some (.if_icmp .le 19, 0, 0) := by decide +kernel
theorem at_22_82 : mj_at 22 82 = some (.aload_n 3, 0, 0) := by decide +kernel
theorem at_22_83 : mj_at 22 83 = some (.dup, 0, 0) := by decide +kernel
theorem at_22_84 : mj_at 22 84 = some (.getfield 27, 4, 5) := by decide +kernel
theorem at_22_87 : mj_at 22 87 = some (.aload_n 1, 0, 0) := by decide +kernel
theorem at_22_88 : mj_at 22 88 = some (.iload 5, 0, 0) := by decide +kernel
theorem at_22_90 : mj_at 22 90 = some (.aaload, 0, 0) := by decide +kernel
theorem at_22_91 : mj_at 22 91 = some (.getfield 27, 4, 5) := by decide +kernel
theorem at_22_94 : mj_at 22 94 = some (.ior, 0, 0) := by decide +kernel
theorem at_22_95 : mj_at 22 95 = some (.putfield 27, 4, 5) := by decide +kernel
theorem at_22_98 : mj_at 22 98 = some (.iinc 4 1, 0, 0) := by decide +kernel
theorem at_22_101 : mj_at 22 101 = some (.goto (-83), 0, 0) := by decide +kernel
theorem at_22_104 : mj_at 22 104 = some (.iinc 2 (-1), 0, 0) := by decide +kernel
theorem at_22_107 : mj_at 22 107 = some (.goto (-105), 0, 0) := by decide +kernel
theorem at_22_110 : mj_at 22 110 = some (.return_, 0, 0) := by decide +kernel
theorem at_23_0 : mj_at 23 0 = some (.aload_n 1, 0, 0) := by decide +kernel
theorem at_23_1 : mj_at 23 1 = some (.iload_n 2, 0, 0) := by decide +kernel
theorem at_23_2 : mj_at 23 2 = some (.aaload, 0, 0) := by decide +kernel
theorem at_23_3 : mj_at 23 3 = some (.astore_n 3, 0, 0) := by decide +kernel
theorem at_23_4 : mj_at 23 4 = some (.aload_n 0, 0, 0) := by decide +kernel
theorem at_23_5 : mj_at 23 5 = some (.iconst 0, 0, 0) := by decide +kernel
theorem at_23_6 : mj_at 23 6 = some (.putfield 41, 1, 2) := by decide +kernel
theorem at_23_9 : mj_at 23 9 = some (.aload_n 0, 0, 0) := by decide +kernel
theorem at_23_10 : mj_at 23 10 = some (.iconst 0, 0, 0) := by decide +kernel
theorem at_23_11 : mj_at 23 11 = some (.putfield 44, 1, 3) := by decide +kernel
theorem at_23_14 : mj_at 23 14 = some (.aload_n 0, 0, 0) := by decide +kernel
theorem at_23_15 : mj_at 23 15 = some (.iconst 0, 0, 0) := by decide +kernel
theorem at_23_16 : mj_at 23 16 = some (.putfield 47, 1, 4) := by decide +kernel
theorem at_23_19 : mj_at 23 19 = some (.iload_n 2, 0, 0) := by decide +kernel
theorem at_23_20 : mj_at 23 20 = some (.ifCond .ne 18, 0, 0) := by decide +kernel
theorem at_23_23 : mj_at 23 23 = some (.aload_n 3, 0, 0) := by decide +kernel
theorem at_23_24 : mj_at 23 24 = some (.getfield 32, 4, 4) := by decide +kernel
theorem at_23_27 : mj_at 23 27 = some (.ifCond .ne 11, 0, 0) := by decide +kernel
theorem at_23_30 : mj_at 23 30 = some (.aload_n 0, 0, 0) := by decide +kernel
theorem at_23_31 : mj_at 23 31 = some (.iconst 1, 0, 0) := by decide +kernel
theorem at_23_32 : mj_at 23 32 = some (.iload_n 2, 0, 0) := by decide +kernel
theorem at_23_33 : mj_at 23 33 = some (.iconst 0, 0, 0) := by decide +kernel
theorem at_23_34 : mj_at 23 34 = some (.invokevirtual 50, 24, 3) := by decide +kernel
theorem at_23_37 : mj_at 23 37 = some (.ireturn, 0, 0) := by decide +kernel
theorem at_23_38 : mj_at 23 38 = some (.iconst 0, 0, 0) := by decide +kernel
theorem at_23_39 : mj_at 23 39 = some (.istore 4, 0, 0) := by decide +kernel
theorem at_23_41 : mj_at 23 41 = some (.iload 4, 0, 0) := by decide +kernel
theorem at_23_43 : mj_at 23 43 = some (.aload_n 3, 0, 0) := by decide +kernel
theorem at_23_44 : mj_at 23 44 = some (.getfield 32, 4, 4) := by decide +kernel
theorem at_23_47 : mj_at 23 47 = some (.if_icmp .ge 34, 0, 0) := by decide +kernel
theorem at_23_50 : mj_at 23 50 = some (.aload_n 0, 0, 0) := by decide +kernel
theorem at_23_51 : mj_at 23 51 = some (.aload_n 1, 0, 0) := by decide +kernel
theorem at_23_52 : mj_at 23 52 = some (.iload_n 2, 0, 0) := by decide +kernel
theorem at_23_53 : mj_at 23 53 = some (.iload 4, 0, 0) := by decide +kernel
theorem at_23_55 : mj_at 23 55 = some (.invokevirtual 54, 25, 3) := by decide +kernel
theorem at_23_58 : mj_at 23 58 = some (.istore 5, 0, 0) := by decide +kernel
theorem at_23_60 : mj_at 23 60 = some (.iload 5, 0, 0) := by decide +kernel
theorem at_23_62 : mj_at 23 62 = some (.ifCond .eq 13, 0, 0) := by decide +kernel
theorem at_23_65 : mj_at 23 65 = some (.aload_n 0, 0, 0) := by decide +kernel
theorem at_23_66 : mj_at 23 66 = some (.iload 5, 0, 0) := by decide +kernel
theorem at_23_68 : mj_at 23 68 = some (.iload_n 2, 0, 0) := by decide +kernel
theorem at_23_69 : mj_at 23 69 = some (.iload 4, 0, 0) := by decide +kernel
theorem at_23_71 : mj_at 23 71 = some (.invokevirtual 50, 24, 3) := by decide +kernel
theorem at_23_74 : mj_at 23 74 = some (.ireturn, 0, 0) := by decide +kernel
theorem at_23_75 : mj_at 23 75 = some (.iinc 4 1, 0, 0) := by decide +kernel
theorem at_23_78 : mj_at 23 78 = some (.goto (-37), 0, 0) := by decide +kernel
theorem at_23_81 : mj_at 23 81 = some (.aload_n 0, 0, 0) := by decide +kernel
theorem at_23_82 : mj_at 23 82 = some (.getfield 41, 1, 2) := by decide +kernel
theorem at_23_85 : mj_at 23 85 = some (.ifCond .le 17, 0, 0) := by decide +kernel
theorem at_23_88 : mj_at 23 88 = some (.aload_n 0, 0, 0) := by decide +kernel
theorem at_23_89 : mj_at 23 89 = some (.bipush 7, 0, 0) := by decide +kernel
theorem at_23_91 : mj_at 23 91 = some (.iload_n 2, 0, 0) := by decide +kernel
theorem at_23_92 : mj_at 23 92 = some (.aload_n 3, 0, 0) := by decide +kernel
theorem at_23_93 : mj_at 23 93 = some (.getfield 32, 4, 4) := by decide +kernel
theorem at_23_96 : mj_at 23 96 = some (.invokevirtual 50, 24, 3) := by decide +kernel
theorem at_23_99 : mj_at 23 99 = some (.goto 4, 0, 0) := by decide +kernel
theorem at_23_102 : mj_at 23 102 = some (.iconst 0, 0, 0) := by decide +kernel
theorem at_23_103 : mj_at 23 103 = some (.ireturn, 0, 0) := by decide +kernel
theorem at_24_0 : mj_at 24 0 = some (.aload_n 0, 0, 0) := by decide +kernel
theorem at_24_1 : mj_at 24 1 = some (.bipush 100, 0, 0) := by decide +kernel
theorem at_24_3 : mj_at 24 3 = some (.iload_n 2, 0, 0) := by decide +kernel
theorem at_24_4 : mj_at 24 4 = some (.imul, 0, 0) := by decide +kernel
theorem at_24_5 : mj_at 24 5 = some (.iload_n 3, 0, 0) := by decide +kernel
theorem at_24_6 : mj_at 24 6 = some (.iadd, 0, 0) := by decide +kernel
theorem at_24_7 : mj_at 24 7 = some (.putfield 9, 1, 0) := by decide +kernel
theorem at_24_10 : mj_at 24 10 = some (.iload_n 1, 0, 0) := by decide +kernel
theorem at_24_11 : mj_at 24 11 = some (.ireturn, 0, 0) := by decide +kernel
theorem at_25_0 : mj_at 25 0 = some (.aload_n 1, 0, 0) := by decide +kernel
theorem at_25_1 : mj_at 25 1 = some (.iload_n 2, 0, 0) := by decide +kernel
theorem at_25_2 : mj_at 25 2 = some (.aaload, 0, 0) := by decide +kernel
theorem at_25_3 : mj_at 25 3 = some (.astore 4, 0, 0) := by decide +kernel
theorem at_25_5 : mj_at 25 5 = some (.aload 4, 0, 0) := by decide +kernel
theorem at_25_7 : mj_at 25 7 = some (.getfield 38, 4, 0) := by decide +kernel
theorem at_25_10 : mj_at 25 10 = some (.iload_n 3, 0, 0) := by decide +kernel
theorem at_25_11 : mj_at 25 11 = some (.iaload, 0, 0) := by decide +kernel
theorem at_25_12 : mj_at 25 12 = some (.tableswitch 103 5 10 #[95, 40, 61, 46, 71, 81], 0, 0) := by decide +kernel
theorem at_25_52 : mj_at 25 52 = some (.aload_n 0, 0, 0) := by decide +kernel
theorem at_25_53 : mj_at 25 53 = some (.iload_n 3, 0, 0) := by decide +kernel
theorem at_25_54 : mj_at 25 54 = some (.invokevirtual 58, 26, 1) := by decide +kernel
theorem at_25_57 : mj_at 25 57 = some (.ireturn, 0, 0) := by decide +kernel
theorem at_25_58 : mj_at 25 58 = some (.aload_n 0, 0, 0) := by decide +kernel
theorem at_25_59 : mj_at 25 59 = some (.iload_n 3, 0, 0) := by decide +kernel
theorem at_25_60 : mj_at 25 60 = some (.iconst 1, 0, 0) := by decide +kernel
theorem at_25_61 : mj_at 25 61 = some (.aload 4, 0, 0) := by decide +kernel
theorem at_25_63 : mj_at 25 63 = some (.getfield 35, 4, 2) := by decide +kernel
theorem at_25_66 : mj_at 25 66 = some (.iload_n 3, 0, 0) := by decide +kernel
theorem at_25_67 : mj_at 25 67 = some (.iaload, 0, 0) := by decide +kernel
theorem at_25_68 : mj_at 25 68 = some (.ishl, 0, 0) := by decide +kernel
theorem at_25_69 : mj_at 25 69 = some (.invokevirtual 62, 28, 2) := by decide +kernel
theorem at_25_72 : mj_at 25 72 = some (.ireturn, 0, 0) := by decide +kernel
theorem at_25_73 : mj_at 25 73 = some (.aload_n 0, 0, 0) := by decide +kernel
theorem at_25_74 : mj_at 25 74 = some (.aload 4, 0, 0) := by decide +kernel
theorem at_25_76 : mj_at 25 76 = some (.iload_n 3, 0, 0) := by decide +kernel
theorem at_25_77 : mj_at 25 77 = some (.bipush 6, 0, 0) := by decide +kernel
theorem at_25_79 : mj_at 25 79 = some (.invokevirtual 66, 29, 3) := by decide +kernel
theorem at_25_82 : mj_at 25 82 = some (.ireturn, 0, 0) := by decide +kernel
theorem at_25_83 : mj_at 25 83 = some (.aload_n 0, 0, 0) := by decide +kernel
theorem at_25_84 : mj_at 25 84 = some (.aload 4, 0, 0) := by decide +kernel
theorem at_25_86 : mj_at 25 86 = some (.iload_n 3, 0, 0) := by decide +kernel
theorem at_25_87 : mj_at 25 87 = some (.bipush 8, 0, 0) := by decide +kernel
theorem at_25_89 : mj_at 25 89 = some (.invokevirtual 66, 29, 3) := by decide +kernel
theorem at_25_92 : mj_at 25 92 = some (.ireturn, 0, 0) := by decide +kernel
theorem at_25_93 : mj_at 25 93 = some (.aload_n 0, 0, 0) := by decide +kernel
theorem at_25_94 : mj_at 25 94 = some (.aload_n 1, 0, 0) := by decide +kernel
theorem at_25_95 : mj_at 25 95 = some (.iload_n 2, 0, 0) := by decide +kernel
theorem at_25_96 : mj_at 25 96 = some (.aload 4, 0, 0) := by decide +kernel
theorem at_25_98 : mj_at 25 98 = some (.getfield 35, 4, 2) := by decide +kernel
theorem at_25_101 : mj_at 25 101 = some (.iload_n 3, 0, 0) := by decide +kernel
theorem at_25_102 : mj_at 25 102 = some (.iaload, 0, 0) := by decide +kernel
theorem at_25_103 : mj_at 25 103 = some (.invokevirtual 70, 32, 3) := by decide +kernel
theorem at_25_106 : mj_at 25 106 = some (.ireturn, 0, 0) := by decide +kernel
theorem at_25_107 : mj_at 25 107 = some (.aload_n 0, 0, 0) := by decide +kernel
theorem at_25_108 : mj_at 25 108 = some (.aload 4, 0, 0) := by decide +kernel
theorem at_25_110 : mj_at 25 110 = some (.iload_n 3, 0, 0) := by decide +kernel
theorem at_25_111 : mj_at 25 111 = some (.invokevirtual 73, 33, 2) := by decide +kernel
theorem at_25_114 : mj_at 25 114 = some (.ireturn, 0, 0) := by decide +kernel
theorem at_25_115 : mj_at 25 115 = some (.iconst 0, 0, 0) := by decide +kernel
theorem at_25_116 : mj_at 25 116 = some (.ireturn, 0, 0) := by decide +kernel
theorem at_26_0 : mj_at 26 0 = some (.aload_n 0, 0, 0) := by decide +kernel
theorem at_26_1 : mj_at 26 1 = some (.getfield 44, 1, 3) := by decide +kernel
theorem at_26_4 : mj_at 26 4 = some (.iconst 2, 0, 0) := by decide +kernel
theorem at_26_5 : mj_at 26 5 = some (.if_icmp .lt 5, 0, 0) := by decide +kernel
theorem at_26_8 : mj_at 26 8 = some (.iconst 3, 0, 0) := by decide +kernel
theorem at_26_9 : mj_at 26 9 = some (.ireturn, 0, 0) := by decide +kernel
theorem at_26_10 : mj_at 26 10 = some (.aload_n 0, 0, 0) := by decide +kernel
theorem at_26_11 : mj_at 26 11 = some (.dup, 0, 0) := by decide +kernel
theorem at_26_12 : mj_at 26 12 = some (.getfield 44, 1, 3) := by decide +kernel
theorem at_26_15 : mj_at 26 15 = some (.iconst 1, 0, 0) := by decide +kernel
theorem at_26_16 : mj_at 26 16 = some (.iadd, 0, 0) := by decide +kernel
theorem at_26_17 : mj_at 26 17 = some (.putfield 44, 1, 3) := by decide +kernel
theorem at_26_20 : mj_at 26 20 = some (.aload_n 0, 0, 0) := by decide +kernel
theorem at_26_21 : mj_at 26 21 = some (.iload_n 1, 0, 0) := by decide +kernel
theorem at_26_22 : mj_at 26 22 = some (.invokevirtual 77, 27, 1) := by decide +kernel
theorem at_26_25 : mj_at 26 25 = some (.ireturn, 0, 0) := by decide +kernel
theorem at_27_0 : mj_at 27 0 = some (.aload_n 0, 0, 0) := by decide +kernel
theorem at_27_1 : mj_at 27 1 = some (.getfield 15, 1, 1) := by decide +kernel
theorem at_27_4 : mj_at 27 4 = some (.aload_n 0, 0, 0) := by decide +kernel
theorem at_27_5 : mj_at 27 5 = some (.getfield 41, 1, 2) := by decide +kernel
theorem at_27_8 : mj_at 27 8 = some (.iload_n 1, 0, 0) := by decide +kernel
theorem at_27_9 : mj_at 27 9 = some (.iastore, 0, 0) := by decide +kernel
theorem at_27_10 : mj_at 27 10 = some (.aload_n 0, 0, 0) := by decide +kernel
theorem at_27_11 : mj_at 27 11 = some (.dup, 0, 0) := by decide +kernel
theorem at_27_12 : mj_at 27 12 = some (.getfield 41, 1, 2) := by decide +kernel
theorem at_27_15 : mj_at 27 15 = some (.iconst 1, 0, 0) := by decide +kernel
theorem at_27_16 : mj_at 27 16 = some (.iadd, 0, 0) := by decide +kernel
theorem at_27_17 : mj_at 27 17 = some (.putfield 41, 1, 2) := by decide +kernel
theorem at_27_20 : mj_at 27 20 = some (.iconst 0, 0, 0) := by decide +kernel
theorem at_27_21 : mj_at 27 21 = some (.ireturn, 0, 0) := by decide +kernel
theorem at_28_0 : mj_at 28 0 = some (.aload_n 0, 0, 0) := by decide +kernel
theorem at_28_1 : mj_at 28 1 = some (.getfield 47, 1, 4) := by decide +kernel
theorem at_28_4 : mj_at 28 4 = some (.iload_n 2, 0, 0) := by decide +kernel
theorem at_28_5 : mj_at 28 5 = some (.iand, 0, 0) := by decide +kernel
theorem at_28_6 : mj_at 28 6 = some (.ifCond .eq 5, 0, 0) := by decide +kernel
theorem at_28_9 : mj_at 28 9 = some (.iconst 5, 0, 0) := by decide +kernel
theorem at_28_10 : mj_at 28 10 = some (.ireturn, 0, 0) := by decide +kernel
theorem at_28_11 : mj_at 28 11 = some (.aload_n 0, 0, 0) := by decide +kernel
theorem at_28_12 : mj_at 28 12 = some (.dup, 0, 0) := by decide +kernel
theorem at_28_13 : mj_at 28 13 = some (.getfield 47, 1, 4) := by decide +kernel
theorem at_28_16 : mj_at 28 16 = some (.iload_n 2, 0, 0) := by decide +kernel
theorem at_28_17 : mj_at 28 17 = some (.ior, 0, 0) := by decide +kernel
theorem at_28_18 : mj_at 28 18 = some (.putfield 47, 1, 4) := by decide +kernel
theorem at_28_21 : mj_at 28 21 = some (.aload_n 0, 0, 0) := by decide +kernel
theorem at_28_22 : mj_at 28 22 = some (.iload_n 1, 0, 0) := by decide +kernel
theorem at_28_23 : mj_at 28 23 = some (.invokevirtual 77, 27, 1) := by decide +kernel
theorem at_28_26 : mj_at 28 26 = some (.ireturn, 0, 0) := by decide +kernel
theorem at_29_0 : mj_at 29 0 = some (.aload_n 0, 0, 0) := by decide +kernel
theorem at_29_1 : mj_at 29 1 = some (.getfield 41, 1, 2) := by decide +kernel
theorem at_29_4 : mj_at 29 4 = some (.ifCond .eq 23, 0, 0) := by decide +kernel
theorem at_29_7 : mj_at 29 7 = some (.aload_n 1, 0, 0) := by decide +kernel
theorem at_29_8 : mj_at 29 8 = some (.getfield 38, 4, 0) := by decide +kernel
theorem at_29_11 : mj_at 29 11 = some (.aload_n 0, 0, 0) := by decide +kernel
theorem at_29_12 : mj_at 29 12 = some (.getfield 15, 1, 1) := by decide +kernel
theorem at_29_15 : mj_at 29 15 = some (.aload_n 0, 0, 0) := by decide +kernel
theorem at_29_16 : mj_at 29 16 = some (.getfield 41, 1, 2) := by decide +kernel
theorem at_29_19 : mj_at 29 19 = some (.iconst 1, 0, 0) := by decide +kernel
theorem at_29_20 : mj_at 29 20 = some (.isub, 0, 0) := by decide +kernel
theorem at_29_21 : mj_at 29 21 = some (.iaload, 0, 0) := by decide +kernel
theorem at_29_22 : mj_at 29 22 = some (.iaload, 0, 0) := by decide +kernel
theorem at_29_23 : mj_at 29 23 = some (.iload_n 3, 0, 0) := by decide +kernel
theorem at_29_24 : mj_at 29 24 = some (.if_icmp .eq 5, 0, 0) := by decide +kernel
theorem at_29_27 : mj_at 29 27 = some (.iconst 2, 0, 0) := by decide +kernel
theorem at_29_28 : mj_at 29 28 = some (.ireturn, 0, 0) := by decide +kernel
theorem at_29_29 : mj_at 29 29 = some (.aload_n 0, 0, 0) := by decide +kernel
theorem at_29_30 : mj_at 29 30 = some (.dup, 0, 0) := by decide +kernel
theorem at_29_31 : mj_at 29 31 = some (.getfield 41, 1, 2) := by decide +kernel
theorem at_29_34 : mj_at 29 34 = some (.iconst 1, 0, 0) := by decide +kernel
theorem at_29_35 : mj_at 29 35 = some (.isub, 0, 0) := by decide +kernel
theorem at_29_36 : mj_at 29 36 = some (.putfield 41, 1, 2) := by decide +kernel
theorem at_29_39 : mj_at 29 39 = some (.aload_n 1, 0, 0) := by decide +kernel
theorem at_29_40 : mj_at 29 40 = some (.aload_n 0, 0, 0) := by decide +kernel
theorem at_29_41 : mj_at 29 41 = some (.getfield 15, 1, 1) := by decide +kernel
theorem at_29_44 : mj_at 29 44 = some (.aload_n 0, 0, 0) := by decide +kernel
theorem at_29_45 : mj_at 29 45 = some (.getfield 41, 1, 2) := by decide +kernel
theorem at_29_48 : mj_at 29 48 = some (.iaload, 0, 0) := by decide +kernel
theorem at_29_49 : mj_at 29 49 = some (.iload_n 2, 0, 0) := by decide +kernel
theorem at_29_50 : mj_at 29 50 = some (.invokevirtual 80, 30, 2) := by decide +kernel
theorem at_29_53 : mj_at 29 53 = some (.iload_n 3, 0, 0) := by decide +kernel
theorem at_29_54 : mj_at 29 54 = some (.bipush 6, 0, 0) := by decide +kernel
theorem at_29_56 : mj_at 29 56 = some (.if_icmp .ne 16, 0, 0) := by decide +kernel
theorem at_29_59 : mj_at 29 59 = some (.aload_n 0, 0, 0) := by decide +kernel
theorem at_29_60 : mj_at 29 60 = some (.dup, 0, 0) := by decide +kernel
theorem at_29_61 : mj_at 29 61 = some (.getfield 44, 1, 3) := by decide +kernel
theorem at_29_64 : mj_at 29 64 = some (.iconst 1, 0, 0) := by decide +kernel
theorem at_29_65 : mj_at 29 65 = some (.isub, 0, 0) := by decide +kernel
theorem at_29_66 : mj_at 29 66 = some (.putfield 44, 1, 3) := by decide +kernel
theorem at_29_69 : mj_at 29 69 = some (.goto 21, 0, 0) := by decide +kernel
theorem at_29_72 : mj_at 29 72 = some (.aload_n 0, 0, 0) := by decide +kernel
theorem at_29_73 : mj_at 29 73 = some (.dup, 0, 0) := by decide +kernel
theorem at_29_74 : mj_at 29 74 = some (.getfield 47, 1, 4) := by decide +kernel
theorem at_29_77 : mj_at 29 77 = some (.iconst 1, 0, 0) := by decide +kernel
theorem at_29_78 : mj_at 29 78 = some (.aload_n 1, 0, 0) := by decide +kernel
theorem at_29_79 : mj_at 29 79 = some (.iload_n 2, 0, 0) := by decide +kernel
theorem at_29_80 : mj_at 29 80 = some (.invokevirtual 84, 31, 1) := by decide +kernel
theorem at_29_83 : mj_at 29 83 = some (.ishl, 0, 0) := by decide +kernel
theorem at_29_84 : mj_at 29 84 = some (.iconst (-1), 0, 0) := by decide +kernel
theorem at_29_85 : mj_at 29 85 = some (.ixor, 0, 0) := by decide +kernel
theorem at_29_86 : mj_at 29 86 = some (.iand, 0, 0) := by decide +kernel
theorem at_29_87 : mj_at 29 87 = some (.putfield 47, 1, 4) := by decide +kernel
theorem at_29_90 : mj_at 29 90 = some (.iconst 0, 0, 0) := by decide +kernel
theorem at_29_91 : mj_at 29 91 = some (.ireturn, 0, 0) := by decide +kernel
theorem at_30_0 : mj_at 30 0 = some (.aload_n 0, 0, 0) := by decide +kernel
theorem at_30_1 : mj_at 30 1 = some (.getfield 21, 4, 3) := by decide +kernel
theorem at_30_4 : mj_at 30 4 = some (.iload_n 1, 0, 0) := by decide +kernel
theorem at_30_5 : mj_at 30 5 = some (.iload_n 2, 0, 0) := by decide +kernel
theorem at_30_6 : mj_at 30 6 = some (.iastore, 0, 0) := by decide +kernel
theorem at_30_7 : mj_at 30 7 = some (.aload_n 0, 0, 0) := by decide +kernel
theorem at_30_8 : mj_at 30 8 = some (.getfield 21, 4, 3) := by decide +kernel
theorem at_30_11 : mj_at 30 11 = some (.iload_n 2, 0, 0) := by decide +kernel
theorem at_30_12 : mj_at 30 12 = some (.iload_n 1, 0, 0) := by decide +kernel
theorem at_30_13 : mj_at 30 13 = some (.iastore, 0, 0) := by decide +kernel
theorem at_30_14 : mj_at 30 14 = some (.return_, 0, 0) := by decide +kernel
theorem at_31_0 : mj_at 31 0 = some (.aload_n 0, 0, 0) := by decide +kernel
theorem at_31_1 : mj_at 31 1 = some (.getfield 18, 4, 2) := by decide +kernel
theorem at_31_4 : mj_at 31 4 = some (.aload_n 0, 0, 0) := by decide +kernel
theorem at_31_5 : mj_at 31 5 = some (.getfield 21, 4, 3) := by decide +kernel
theorem at_31_8 : mj_at 31 8 = some (.iload_n 1, 0, 0) := by decide +kernel
theorem at_31_9 : mj_at 31 9 = some (.iaload, 0, 0) := by decide +kernel
theorem at_31_10 : mj_at 31 10 = some (.iaload, 0, 0) := by decide +kernel
theorem at_31_11 : mj_at 31 11 = some (.ireturn, 0, 0) := by decide +kernel
theorem at_32_0 : mj_at 32 0 = some (.iload_n 3, 0, 0) := by decide +kernel
theorem at_32_1 : mj_at 32 1 = some (.iload_n 2, 0, 0) := by decide +kernel
theorem at_32_2 : mj_at 32 2 = some (.if_icmp .le 12, 0, 0) := by decide +kernel
theorem at_32_5 : mj_at 32 5 = some (.aload_n 1, 0, 0) := by decide +kernel
theorem at_32_6 : mj_at 32 6 = some (.iload_n 3, 0, 0) := by decide +kernel
theorem at_32_7 : mj_at 32 7 = some (.aaload, 0, 0) := by decide +kernel
theorem at_32_8 : mj_at 32 8 = some (.getfield 32, 4, 4) := by decide +kernel
theorem at_32_11 : mj_at 32 11 = some (.ifCond .ne 5, 0, 0) := by decide +kernel
theorem at_32_14 : mj_at 32 14 = some (.iconst 4, 0, 0) := by decide +kernel
theorem at_32_15 : mj_at 32 15 = some (.ireturn, 0, 0) := by decide +kernel
theorem at_32_16 : mj_at 32 16 = some (.aload_n 1, 0, 0) := by decide +kernel
theorem at_32_17 : mj_at 32 17 = some (.iload_n 3, 0, 0) := by decide +kernel
theorem at_32_18 : mj_at 32 18 = some (.aaload, 0, 0) := by decide +kernel
theorem at_32_19 : mj_at 32 19 = some (.getfield 27, 4, 5) := by decide +kernel
theorem at_32_22 : mj_at 32 22 = some (.aload_n 0, 0, 0) := by decide +kernel
theorem at_32_23 : mj_at 32 23 = some (.getfield 47, 1, 4) := by decide +kernel
theorem at_32_26 : mj_at 32 26 = some (.iand, 0, 0) := by decide +kernel
theorem at_32_27 : mj_at 32 27 = some (.ifCond .eq 7, 0, 0) := by decide +kernel
theorem at_32_30 : mj_at 32 30 = some (.iconst 5, 0, 0) := by decide +kernel
theorem at_32_31 : mj_at 32 31 = some (.goto 4, 0, 0) := by decide +kernel
theorem at_32_34 : mj_at 32 34 = some (.iconst 0, 0, 0) := by decide +kernel
theorem at_32_35 : mj_at 32 35 = some (.ireturn, 0, 0) := by decide +kernel
theorem at_33_0 : mj_at 33 0 = some (.iload_n 2, 0, 0) := by decide +kernel
theorem at_33_1 : mj_at 33 1 = some (.aload_n 1, 0, 0) := by decide +kernel
theorem at_33_2 : mj_at 33 2 = some (.getfield 35, 4, 2) := by decide +kernel
theorem at_33_5 : mj_at 33 5 = some (.iload_n 2, 0, 0) := by decide +kernel
theorem at_33_6 : mj_at 33 6 = some (.iaload, 0, 0) := by decide +kernel
theorem at_33_7 : mj_at 33 7 = some (.iadd, 0, 0) := by decide +kernel
theorem at_33_8 : mj_at 33 8 = some (.iconst 1, 0, 0) := by decide +kernel
theorem at_33_9 : mj_at 33 9 = some (.iadd, 0, 0) := by decide +kernel
theorem at_33_10 : mj_at 33 10 = some (.istore_n 3, 0, 0) := by decide +kernel
theorem at_33_11 : mj_at 33 11 = some (.iload_n 3, 0, 0) := by decide +kernel
theorem at_33_12 : mj_at 33 12 = some (.aload_n 1, 0, 0) := by decide +kernel
theorem at_33_13 : mj_at 33 13 = some (.getfield 32, 4, 4) := by decide +kernel
theorem at_33_16 : mj_at 33 16 = some (.if_icmp .le 6, 0, 0) := by decide +kernel
theorem at_33_19 : mj_at 33 19 = some (.bipush 6, 0, 0) := by decide +kernel
theorem at_33_21 : mj_at 33 21 = some (.ireturn, 0, 0) := by decide +kernel
theorem at_33_22 : mj_at 33 22 = some (.iconst 0, 0, 0) := by decide +kernel
theorem at_33_23 : mj_at 33 23 = some (.istore 4, 0, 0) := by decide +kernel
theorem at_33_25 : mj_at 33 25 = some (.iload_n 2, 0, 0) := by decide +kernel
theorem at_33_26 : mj_at 33 26 = some (.iconst 1, 0, 0) := by decide +kernel
theorem at_33_27 : mj_at 33 27 = some (.iadd, 0, 0) := by decide +kernel
theorem at_33_28 : mj_at 33 28 = some (.istore 5, 0, 0) := by decide +kernel
theorem at_33_30 : mj_at 33 30 = some (.iload 5, 0, 0) := by decide +kernel
theorem at_33_32 : mj_at 33 32 = some (.iload_n 3, 0, 0) := by decide +kernel
theorem at_33_33 : mj_at 33 33 = some (.if_icmp .ge 29, 0, 0) := by decide +kernel
theorem at_33_36 : mj_at 33 36 = some (.iload 4, 0, 0) := by decide +kernel
theorem at_33_38 : mj_at 33 38 = some (.ifCond .lt 24, 0, 0) := by decide +kernel
theorem at_33_41 : mj_at 33 41 = some (.iload 4, 0, 0) := by decide +kernel
theorem at_33_43 : mj_at 33 43 = some (.aload_n 1, 0, 0) := by decide +kernel
theorem at_33_44 : mj_at 33 44 = some (.getfield 38, 4, 0) := by decide +kernel
theorem at_33_47 : mj_at 33 47 = some (.iload 5, 0, 0) := by decide +kernel
theorem at_33_49 : mj_at 33 49 = some (.iaload, 0, 0) := by decide +kernel
theorem at_33_50 : mj_at 33 50 = some (.invokestatic 87, 34, 1) := by decide +kernel
theorem at_33_53 : mj_at 33 53 = some (.iadd, 0, 0) := by decide +kernel
theorem at_33_54 : mj_at 33 54 = some (.istore 4, 0, 0) := by decide +kernel
theorem at_33_56 : mj_at 33 56 = some (.iinc 5 1, 0, 0) := by decide +kernel
theorem at_33_59 : mj_at 33 59 = some (.goto (-29), 0, 0) := by decide +kernel
theorem at_33_62 : mj_at 33 62 = some (.iload 4, 0, 0) := by decide +kernel
theorem at_33_64 : mj_at 33 64 = some (.ifCond .eq 8, 0, 0) := by decide +kernel
theorem at_33_67 : mj_at 33 67 = some (.bipush 6, 0, 0) := by decide +kernel
theorem at_33_69 : mj_at 33 69 = some (.goto 4, 0, 0) := by decide +kernel
theorem at_33_72 : mj_at 33 72 = some (.iconst 0, 0, 0) := by decide +kernel
theorem at_33_73 : mj_at 33 73 = some (.ireturn, 0, 0) := by decide +kernel
theorem at_34_0 : mj_at 34 0 = some (.iload_n 0, 0, 0) := by decide +kernel
theorem at_34_1 : mj_at 34 1 = some (.bipush 6, 0, 0) := by decide +kernel
theorem at_34_3 : mj_at 34 3 = some (.if_icmp .eq 9, 0, 0) := by decide +kernel
theorem at_34_6 : mj_at 34 6 = some (.iload_n 0, 0, 0) := by decide +kernel
theorem at_34_7 : mj_at 34 7 = some (.bipush 8, 0, 0) := by decide +kernel
theorem at_34_9 : mj_at 34 9 = some (.if_icmp .ne 5, 0, 0) := by decide +kernel
theorem at_34_12 : mj_at 34 12 = some (.iconst 1, 0, 0) := by decide +kernel
theorem at_34_13 : mj_at 34 13 = some (.ireturn, 0, 0) := by decide +kernel
theorem at_34_14 : mj_at 34 14 = some (.iload_n 0, 0, 0) := by decide +kernel
theorem at_34_15 : mj_at 34 15 = some (.bipush 7, 0, 0) := by decide +kernel
theorem at_34_17 : mj_at 34 17 = some (.if_icmp .eq 9, 0, 0) := by decide +kernel
theorem at_34_20 : mj_at 34 20 = some (.iload_n 0, 0, 0) := by decide +kernel
theorem at_34_21 : mj_at 34 21 = some (.bipush 9, 0, 0) := by decide +kernel
theorem at_34_23 : mj_at 34 23 = some (.if_icmp .ne 7, 0, 0) := by decide +kernel
theorem at_34_26 : mj_at 34 26 = some (.iconst (-1), 0, 0) := by decide +kernel
theorem at_34_27 : mj_at 34 27 = some (.goto 4, 0, 0) := by decide +kernel
theorem at_34_30 : mj_at 34 30 = some (.iconst 0, 0, 0) := by decide +kernel
theorem at_34_31 : mj_at 34 31 = some (.ireturn, 0, 0) := by decide +kernel
theorem at_35_0 : mj_at 35 0 = some (.aload_n 0, 0, 0) := by decide +kernel
theorem at_35_1 : mj_at 35 1 = some (.getfield 26, 2, 5) := by decide +kernel
theorem at_35_4 : mj_at 35 4 = some (.iconst (-1), 0, 0) := by decide +kernel
theorem at_35_5 : mj_at 35 5 = some (.invokestatic 29, 36, 2) := by decide +kernel
theorem at_35_8 : mj_at 35 8 = some (.iconst 0, 0, 0) := by decide +kernel
theorem at_35_9 : mj_at 35 9 = some (.istore_n 3, 0, 0) := by decide +kernel
theorem at_35_10 : mj_at 35 10 = some (.iload_n 3, 0, 0) := by decide +kernel
theorem at_35_11 : mj_at 35 11 = some (.iload_n 2, 0, 0) := by decide +kernel
theorem at_35_12 : mj_at 35 12 = some (.if_icmp .ge 46, 0, 0) := by decide +kernel
theorem at_35_15 : mj_at 35 15 = some (.aload_n 1, 0, 0) := by decide +kernel
theorem at_35_16 : mj_at 35 16 = some (.iload_n 3, 0, 0) := by decide +kernel
theorem at_35_17 : mj_at 35 17 = some (.aaload, 0, 0) := by decide +kernel
theorem at_35_18 : mj_at 35 18 = some (.getfield 35, 3, 0) := by decide +kernel
theorem at_35_21 : mj_at 35 21 = some (.invokestatic 41, 37, 1) := by decide +kernel
theorem at_35_24 : mj_at 35 24 = some (.aload_n 0, 0, 0) := by decide +kernel
theorem at_35_25 : mj_at 35 25 = some (.getfield 9, 2, 1) := by decide +kernel
theorem at_35_28 : mj_at 35 28 = some (.iload_n 3, 0, 0) := by decide +kernel
theorem at_35_29 : mj_at 35 29 = some (.aload_n 1, 0, 0) := by decide +kernel
theorem at_35_30 : mj_at 35 30 = some (.iload_n 3, 0, 0) := by decide +kernel
theorem at_35_31 : mj_at 35 31 = some (.aaload, 0, 0) := by decide +kernel
theorem at_35_32 : mj_at 35 32 = some (.getfield 35, 3, 0) := by decide +kernel
theorem at_35_35 : mj_at 35 35 = some (.iconst 0, 0, 0) := by decide +kernel
theorem at_35_36 : mj_at 35 36 = some (.aaload, 0, 0) := by decide +kernel
theorem at_35_37 : mj_at 35 37 = some (.getfield 45, 4, 6) := by decide +kernel
theorem at_35_40 : mj_at 35 40 = some (.iastore, 0, 0) := by decide +kernel
theorem at_35_41 : mj_at 35 41 = some (.aload_n 0, 0, 0) := by decide +kernel
theorem at_35_42 : mj_at 35 42 = some (.aload_n 1, 0, 0) := by decide +kernel
theorem at_35_43 : mj_at 35 43 = some (.iload_n 3, 0, 0) := by decide +kernel
theorem at_35_44 : mj_at 35 44 = some (.aaload, 0, 0) := by decide +kernel
theorem at_35_45 : mj_at 35 45 = some (.getfield 35, 3, 0) := by decide +kernel
theorem at_35_48 : mj_at 35 48 = some (.iload_n 3, 0, 0) := by decide +kernel
theorem at_35_49 : mj_at 35 49 = some (.invokevirtual 51, 39, 2) := by decide +kernel
theorem at_35_52 : mj_at 35 52 = some (.iinc 3 1, 0, 0) := by decide +kernel
theorem at_35_55 : mj_at 35 55 = some (.goto (-45), 0, 0) := by decide +kernel
theorem at_35_58 : mj_at 35 58 = some (.iconst 0, 0, 0) := by decide +kernel
theorem at_35_59 : mj_at 35 59 = some (.istore_n 3, 0, 0) := by decide +kernel
theorem at_35_60 : mj_at 35 60 = some (.iload_n 3, 0, 0) := by decide +kernel
theorem at_35_61 : mj_at 35 61 = some (.iload_n 2, 0, 0) := by decide +kernel
theorem at_35_62 : mj_at 35 62 = some (.if_icmp .ge 21, 0, 0) := by decide +kernel
theorem at_35_65 : mj_at 35 65 = some (.aload_n 0, 0, 0) := by decide +kernel
theorem at_35_66 : mj_at 35 66 = some (.getfield 20, 2, 3) := by decide +kernel
theorem at_35_69 : mj_at 35 69 = some (.iload_n 3, 0, 0) := by decide +kernel
theorem at_35_70 : mj_at 35 70 = some (.aload_n 0, 0, 0) := by decide +kernel
theorem at_35_71 : mj_at 35 71 = some (.iload_n 3, 0, 0) := by decide +kernel
theorem at_35_72 : mj_at 35 72 = some (.iload_n 2, 0, 0) := by decide +kernel
theorem at_35_73 : mj_at 35 73 = some (.invokevirtual 55, 41, 2) := by decide +kernel
theorem at_35_76 : mj_at 35 76 = some (.iastore, 0, 0) := by decide +kernel
theorem at_35_77 : mj_at 35 77 = some (.iinc 3 1, 0, 0) := by decide +kernel
theorem at_35_80 : mj_at 35 80 = some (.goto (-20), 0, 0) := by decide +kernel
theorem at_35_83 : mj_at 35 83 = some (.aload_n 0, 0, 0) := by decide +kernel
theorem at_35_84 : mj_at 35 84 = some (.iconst 1, 0, 0) := by decide +kernel
theorem at_35_85 : mj_at 35 85 = some (.putfield 59, 2, 0) := by decide +kernel
theorem at_35_88 : mj_at 35 88 = some (.aload_n 0, 0, 0) := by decide +kernel
theorem at_35_89 : mj_at 35 89 = some (.aload_n 1, 0, 0) := by decide +kernel
theorem at_35_90 : mj_at 35 90 = some (.iload_n 2, 0, 0) := by decide +kernel
theorem at_35_91 : mj_at 35 91 = some (.invokevirtual 63, 42, 2) := by decide +kernel
theorem at_35_94 : mj_at 35 94 = some (.ireturn, 0, 0) := by decide +kernel
theorem at_36_0 : mj_at 36 0 = some (.iconst 0, 0, 0) := by decide +kernel
theorem at_36_1 : mj_at 36 1 = some (.istore_n 2, 0, 0) := by decide +kernel
theorem at_36_2 : mj_at 36 2 = some (.aload_n 0, 0, 0) := by decide +kernel
theorem at_36_3 : mj_at 36 3 = some (.arraylength, 0, 0) := by decide +kernel
theorem at_36_4 : mj_at 36 4 = some (.istore_n 3, 0, 0) := by decide +kernel
theorem at_36_5 : mj_at 36 5 = some (.iload_n 2, 0, 0) := by decide +kernel
theorem at_36_6 : mj_at 36 6 = some (.iload_n 3, 0, 0) := by decide +kernel
theorem at_36_7 : mj_at 36 7 = some (.if_icmp .ge 13, 0, 0) := by decide +kernel
theorem at_36_10 : mj_at 36 10 = some (.aload_n 0, 0, 0) := by decide +kernel
theorem at_36_11 : mj_at 36 11 = some (.iload_n 2, 0, 0) := by decide +kernel
theorem at_36_12 : mj_at 36 12 = some (.iload_n 1, 0, 0) := by decide +kernel
theorem at_36_13 : mj_at 36 13 = some (.iastore, 0, 0) := by decide +kernel
theorem at_36_14 : mj_at 36 14 = some (.iinc 2 1, 0, 0) := by decide +kernel
theorem at_36_17 : mj_at 36 17 = some (.goto (-12), 0, 0) := by decide +kernel
theorem at_36_20 : mj_at 36 20 = some (.return_, 0, 0) := by decide +kernel
theorem at_37_0 : mj_at 37 0 = some (.iconst 2, 0, 0) := by decide +kernel
theorem at_37_1 : mj_at 37 1 = some (.istore_n 1, 0, 0) := by decide +kernel
theorem at_37_2 : mj_at 37 2 = some (.iload_n 1, 0, 0) := by decide +kernel
theorem at_37_3 : mj_at 37 3 = some (.ifCond .lt 29, 0, 0) := by decide +kernel
theorem at_37_6 : mj_at 37 6 = some (.aload_n 0, 0, 0) := by decide +kernel
theorem at_37_7 : mj_at 37 7 = some (.iload_n 1, 0, 0) := by decide +kernel
theorem at_37_8 : mj_at 37 8 = some (.aaload, 0, 0) := by decide +kernel
theorem at_37_9 : mj_at 37 9 = some (.aload_n 0, 0, 0) := by decide +kernel
theorem at_37_10 : mj_at 37 10 = some (.aload_n 0, 0, 0) := by decide +kernel
theorem at_37_11 : mj_at 37 11 = some (.iload_n 1, 0, 0) := by decide +kernel
theorem at_37_12 : mj_at 37 12 = some (.aaload, 0, 0) := by decide +kernel
theorem at_37_13 : mj_at 37 13 = some (.iconst 0, 0, 0) := by decide +kernel
theorem at_37_14 : mj_at 37 14 = some (.aload_n 0, 0, 0) := by decide +kernel
theorem at_37_15 : mj_at 37 15 = some (.iload_n 1, 0, 0) := by decide +kernel
theorem at_37_16 : mj_at 37 16 = some (.aaload, 0, 0) := by decide +kernel
theorem at_37_17 : mj_at 37 17 = some (.getfield 67, 4, 4) := by decide +kernel
theorem at_37_20 : mj_at 37 20 = some (.invokestatic 70, 38, 4) := by decide +kernel
theorem at_37_23 : mj_at 37 23 = some (.putfield 45, 4, 6) := by decide +kernel
theorem at_37_26 : mj_at 37 26 = some (.iinc 1 (-1), 0, 0) := by decide +kernel
theorem at_37_29 : mj_at 37 29 = some (.goto (-27), 0, 0) := by decide +kernel
theorem at_37_32 : mj_at 37 32 = some (.return_, 0, 0) := by decide +kernel
theorem at_38_0 : mj_at 38 0 = some (.iconst 0, 0, 0) := by decide +kernel
theorem at_38_1 : mj_at 38 1 = some (.istore 4, 0, 0) := by decide +kernel
theorem at_38_3 : mj_at 38 3 = some (.iconst 1, 0, 0) := by decide +kernel
theorem at_38_4 : mj_at 38 4 = some (.istore 5, 0, 0) := by decide +kernel
theorem at_38_6 : mj_at 38 6 = some (.iload_n 2, 0, 0) := by decide +kernel
theorem at_38_7 : mj_at 38 7 = some (.istore 6, 0, 0) := by decide +kernel
theorem at_38_9 : mj_at 38 9 = some (.iload 6, 0, 0) := by decide +kernel
theorem at_38_11 : mj_at 38 11 = some (.iload_n 3, 0, 0) := by decide +kernel
theorem at_38_12 : mj_at 38 12 = some (.if_icmp .ge 106, 0, 0) := by decide +kernel
theorem at_38_15 : mj_at 38 15 = some (.aload_n 1, 0, 0) := by decide +kernel
theorem at_38_16 : mj_at 38 16 = some (.getfield 74, 4, 0) := by decide +kernel
theorem at_38_19 : mj_at 38 19 = some (.iload 6, 0, 0) := by decide +kernel
theorem at_38_21 : mj_at 38 21 = some (.iaload, 0, 0) := by decide +kernel
theorem at_38_22 : mj_at 38 22 = some (.istore 7, 0, 0) := by decide +kernel
theorem at_38_24 : mj_at 38 24 = some (.iload 4, 0, 0) := by decide +kernel
theorem at_38_26 : mj_at 38 26 = some (.iload 5, 0, 0) := by decide +kernel
theorem at_38_28 : mj_at 38 28 = some (.getstatic 77, 1, 0) := by decide +kernel
theorem at_38_31 : mj_at 38 31 = some (.iload 7, 0, 0) := by decide +kernel
theorem at_38_33 : mj_at 38 33 = some (.iaload, 0, 0) := by decide +kernel
theorem at_38_34 : mj_at 38 34 = some (.imul, 0, 0) := by decide +kernel
theorem at_38_35 : mj_at 38 35 = some (.iadd, 0, 0) := by decide +kernel
theorem at_38_36 : mj_at 38 36 = some (.istore 4, 0, 0) := by decide +kernel
theorem at_38_38 : mj_at 38 38 = some (.iload 7, 0, 0) := by decide +kernel
theorem at_38_40 : mj_at 38 40 = some (.bipush 6, 0, 0) := by decide +kernel
theorem at_38_42 : mj_at 38 42 = some (.if_icmp .ne 18, 0, 0) := by decide +kernel
theorem at_38_45 : mj_at 38 45 = some (.iload 5, 0, 0) := by decide +kernel
theorem at_38_47 : mj_at 38 47 = some (.aload_n 1, 0, 0) := by decide +kernel
theorem at_38_48 : mj_at 38 48 = some (.getfield 80, 4, 2) := by decide +kernel
theorem at_38_51 : mj_at 38 51 = some (.iload 6, 0, 0) := by decide +kernel
theorem at_38_53 : mj_at 38 53 = some (.iaload, 0, 0) := by decide +kernel
theorem at_38_54 : mj_at 38 54 = some (.imul, 0, 0) := by decide +kernel
theorem at_38_55 : mj_at 38 55 = some (.istore 5, 0, 0) := by decide +kernel
theorem at_38_57 : mj_at 38 57 = some (.goto 55, 0, 0) := by decide +kernel
theorem at_38_60 : mj_at 38 60 = some (.iload 7, 0, 0) := by decide +kernel
theorem at_38_62 : mj_at 38 62 = some (.bipush 7, 0, 0) := by decide +kernel
theorem at_38_64 : mj_at 38 64 = some (.if_icmp .ne 21, 0, 0) := by decide +kernel
theorem at_38_67 : mj_at 38 67 = some (.iload 5, 0, 0) := by decide +kernel
theorem at_38_69 : mj_at 38 69 = some (.iconst 1, 0, 0) := by decide +kernel
theorem at_38_70 : mj_at 38 70 = some (.aload_n 1, 0, 0) := by decide +kernel
theorem at_38_71 : mj_at 38 71 = some (.iload 6, 0, 0) := by decide +kernel
theorem at_38_73 : mj_at 38 73 = some (.invokevirtual 83, 31, 1) := by decide +kernel
theorem at_38_76 : mj_at 38 76 = some (.invokestatic 87, 1001, 2) := by decide +kernel
theorem at_38_79 : mj_at 38 79 = some (.idiv, 0, 0) := by decide +kernel
theorem at_38_80 : mj_at 38 80 = some (.istore 5, 0, 0) := by decide +kernel
theorem at_38_82 : mj_at 38 82 = some (.goto 30, 0, 0) := by decide +kernel
theorem at_38_85 : mj_at 38 85 = some (.iload 7, 0, 0) := by decide +kernel
theorem at_38_87 : mj_at 38 87 = some (.bipush 10, 0, 0) := by decide +kernel
theorem at_38_89 : mj_at 38 89 = some (.if_icmp .ne 23, 0, 0) := by decide +kernel
theorem at_38_92 : mj_at 38 92 = some (.iload 4, 0, 0) := by decide +kernel
theorem at_38_94 : mj_at 38 94 = some (.iload 5, 0, 0) := by decide +kernel
theorem at_38_96 : mj_at 38 96 = some (.aload_n 0, 0, 0) := by decide +kernel
theorem at_38_97 : mj_at 38 97 = some (.aload_n 1, 0, 0) := by decide +kernel
theorem at_38_98 : mj_at 38 98 = some (.getfield 80, 4, 2) := by decide +kernel
theorem at_38_101 : mj_at 38 101 = some (.iload 6, 0, 0) := by decide +kernel
theorem at_38_103 : mj_at 38 103 = some (.iaload, 0, 0) := by decide +kernel
theorem at_38_104 : mj_at 38 104 = some (.aaload, 0, 0) := by decide +kernel
theorem at_38_105 : mj_at 38 105 = some (.getfield 45, 4, 6) := by decide +kernel
theorem at_38_108 : mj_at 38 108 = some (.imul, 0, 0) := by decide +kernel
theorem at_38_109 : mj_at 38 109 = some (.iadd, 0, 0) := by decide +kernel
theorem at_38_110 : mj_at 38 110 = some (.istore 4, 0, 0) := by decide +kernel
theorem at_38_112 : mj_at 38 112 = some (.iinc 6 1, 0, 0) := by decide +kernel
theorem at_38_115 : mj_at 38 115 = some (.goto (-106), 0, 0) := by decide +kernel
theorem at_38_118 : mj_at 38 118 = some (.iload 4, 0, 0) := by decide +kernel
theorem at_38_120 : mj_at 38 120 = some (.ireturn, 0, 0) := by decide +kernel
theorem at_39_0 : mj_at 39 0 = some (.aload_n 0, 0, 0) := by decide +kernel
theorem at_39_1 : mj_at 39 1 = some (.getfield 17, 2, 2) := by decide +kernel
theorem at_39_4 : mj_at 39 4 = some (.iload_n 2, 0, 0) := by decide +kernel
theorem at_39_5 : mj_at 39 5 = some (.aaload, 0, 0) := by decide +kernel
theorem at_39_6 : mj_at 39 6 = some (.iconst 0, 0, 0) := by decide +kernel
theorem at_39_7 : mj_at 39 7 = some (.invokestatic 29, 36, 2) := by decide +kernel
theorem at_39_10 : mj_at 39 10 = some (.iconst 0, 0, 0) := by decide +kernel
theorem at_39_11 : mj_at 39 11 = some (.istore_n 3, 0, 0) := by decide +kernel
theorem at_39_12 : mj_at 39 12 = some (.iload_n 3, 0, 0) := by decide +kernel
theorem at_39_13 : mj_at 39 13 = some (.iconst 3, 0, 0) := by decide +kernel
theorem at_39_14 : mj_at 39 14 = some (.if_icmp .ge 83, 0, 0) := by decide +kernel
theorem at_39_17 : mj_at 39 17 = some (.aload_n 1, 0, 0) := by decide +kernel
theorem at_39_18 : mj_at 39 18 = some (.iload_n 3, 0, 0) := by decide +kernel
theorem at_39_19 : mj_at 39 19 = some (.aaload, 0, 0) := by decide +kernel
theorem at_39_20 : mj_at 39 20 = some (.astore 4, 0, 0) := by decide +kernel
theorem at_39_22 : mj_at 39 22 = some (.iconst 0, 0, 0) := by decide +kernel
theorem at_39_23 : mj_at 39 23 = some (.istore 5, 0, 0) := by decide +kernel
theorem at_39_25 : mj_at 39 25 = some (.iload 5, 0, 0) := by decide +kernel
theorem at_39_27 : mj_at 39 27 = some (.aload 4, 0, 0) := by decide +kernel
theorem at_39_29 : mj_at 39 29 = some (.getfield 67, 4, 4) := by decide +kernel
theorem at_39_32 : mj_at 39 32 = some (.if_icmp .ge 59, 0, 0) := by decide +kernel
theorem at_39_35 : mj_at 39 35 = some (.aload 4, 0, 0) := by decide +kernel
theorem at_39_37 : mj_at 39 37 = some (.getfield 74, 4, 0) := by decide +kernel
theorem at_39_40 : mj_at 39 40 = some (.iload 5, 0, 0) := by decide +kernel
theorem at_39_42 : mj_at 39 42 = some (.iaload, 0, 0) := by decide +kernel
theorem at_39_43 : mj_at 39 43 = some (.bipush 8, 0, 0) := by decide +kernel
theorem at_39_45 : mj_at 39 45 = some (.if_icmp .ne 40, 0, 0) := by decide +kernel
theorem at_39_48 : mj_at 39 48 = some (.aload_n 1, 0, 0) := by decide +kernel
theorem at_39_49 : mj_at 39 49 = some (.aload 4, 0, 0) := by decide +kernel
theorem at_39_51 : mj_at 39 51 = some (.iload 5, 0, 0) := by decide +kernel
theorem at_39_53 : mj_at 39 53 = some (.iconst 1, 0, 0) := by decide +kernel
theorem at_39_54 : mj_at 39 54 = some (.iadd, 0, 0) := by decide +kernel
theorem at_39_55 : mj_at 39 55 = some (.aload 4, 0, 0) := by decide +kernel
theorem at_39_57 : mj_at 39 57 = some (.getfield 92, 4, 3) := by decide +kernel
theorem at_39_60 : mj_at 39 60 = some (.iload 5, 0, 0) := by decide +kernel
theorem at_39_62 : mj_at 39 62 = some (.iaload, 0, 0) := by decide +kernel
theorem at_39_63 : mj_at 39 63 = some (.iconst 1, 0, 0) := by decide +kernel
theorem at_39_64 : mj_at 39 64 = some (.iadd, 0, 0) := by decide +kernel
theorem at_39_65 : mj_at 39 65 = some (.invokestatic 70, 38, 4) := by decide +kernel
theorem at_39_68 : mj_at 39 68 = some (.istore 6, 0, 0) := by decide +kernel
theorem at_39_70 : mj_at 39 70 = some (.aload_n 0, 0, 0) := by decide +kernel
theorem at_39_71 : mj_at 39 71 = some (.iload_n 2, 0, 0) := by decide +kernel
theorem at_39_72 : mj_at 39 72 = some (.aload 4, 0, 0) := by decide +kernel
theorem at_39_74 : mj_at 39 74 = some (.getfield 80, 4, 2) := by decide +kernel
theorem at_39_77 : mj_at 39 77 = some (.iload 5, 0, 0) := by decide +kernel
theorem at_39_79 : mj_at 39 79 = some (.iaload, 0, 0) := by decide +kernel
theorem at_39_80 : mj_at 39 80 = some (.iload 6, 0, 0) := by decide +kernel
theorem at_39_82 : mj_at 39 82 = some (.invokevirtual 95, 40, 3) := by decide +kernel
theorem at_39_85 : mj_at 39 85 = some (.iinc 5 1, 0, 0) := by decide +kernel
theorem at_39_88 : mj_at 39 88 = some (.goto (-63), 0, 0) := by decide +kernel
theorem at_39_91 : mj_at 39 91 = some (.iinc 3 1, 0, 0) := by decide +kernel
theorem at_39_94 : mj_at 39 94 = some (.goto (-82), 0, 0) := by decide +kernel
theorem at_39_97 : mj_at 39 97 = some (.return_, 0, 0) := by decide +kernel
theorem at_40_0 : mj_at 40 0 = some (.aload_n 0, 0, 0) := by decide +kernel
theorem at_40_1 : mj_at 40 1 = some (.getfield 17, 2, 2) := by decide +kernel
theorem at_40_4 : mj_at 40 4 = some (.iload_n 1, 0, 0) := by decide +kernel
theorem at_40_5 : mj_at 40 5 = some (.aaload, 0, 0) := by decide +kernel
theorem at_40_6 : mj_at 40 6 = some (.iload_n 2, 0, 0) := by decide +kernel
theorem at_40_7 : mj_at 40 7 = some (.aload_n 0, 0, 0) := by decide +kernel
theorem at_40_8 : mj_at 40 8 = some (.getfield 17, 2, 2) := by decide +kernel
theorem at_40_11 : mj_at 40 11 = some (.iload_n 1, 0, 0) := by decide +kernel
theorem at_40_12 : mj_at 40 12 = some (.aaload, 0, 0) := by decide +kernel
theorem at_40_13 : mj_at 40 13 = some (.iload_n 2, 0, 0) := by decide +kernel
theorem at_40_14 : mj_at 40 14 = some (.iaload, 0, 0) := by decide +kernel
theorem at_40_15 : mj_at 40 15 = some (.iload_n 3, 0, 0) := by decide +kernel
theorem at_40_16 : mj_at 40 16 = some (.invokestatic 87, 1001, 2) := by decide +kernel
theorem at_40_19 : mj_at 40 19 = some (.iastore, 0, 0) := by decide +kernel
theorem at_40_20 : mj_at 40 20 = some (.aload_n 0, 0, 0) := by decide +kernel
theorem at_40_21 : mj_at 40 21 = some (.getfield 26, 2, 5) := by decide +kernel
theorem at_40_24 : mj_at 40 24 = some (.iload_n 2, 0, 0) := by decide +kernel
theorem at_40_25 : mj_at 40 25 = some (.iaload, 0, 0) := by decide +kernel
theorem at_40_26 : mj_at 40 26 = some (.iconst (-1), 0, 0) := by decide +kernel
theorem at_40_27 : mj_at 40 27 = some (.if_icmp .ne 10, 0, 0) := by decide +kernel
theorem at_40_30 : mj_at 40 30 = some (.aload_n 0, 0, 0) := by decide +kernel
theorem at_40_31 : mj_at 40 31 = some (.getfield 26, 2, 5) := by decide +kernel
theorem at_40_34 : mj_at 40 34 = some (.iload_n 2, 0, 0) := by decide +kernel
theorem at_40_35 : mj_at 40 35 = some (.iload_n 1, 0, 0) := by decide +kernel
theorem at_40_36 : mj_at 40 36 = some (.iastore, 0, 0) := by decide +kernel
theorem at_40_37 : mj_at 40 37 = some (.return_, 0, 0) := by decide +kernel
theorem at_41_0 : mj_at 41 0 = some (.iconst 0, 0, 0) := by decide +kernel
theorem at_41_1 : mj_at 41 1 = some (.istore_n 3, 0, 0) := by decide +kernel
theorem at_41_2 : mj_at 41 2 = some (.iconst 0, 0, 0) := by decide +kernel
theorem at_41_3 : mj_at 41 3 = some (.istore 4, 0, 0) := by decide +kernel
theorem at_41_5 : mj_at 41 5 = some (.iload 4, 0, 0) := by decide +kernel
theorem at_41_7 : mj_at 41 7 = some (.iconst 4, 0, 0) := by decide +kernel
theorem at_41_8 : mj_at 41 8 = some (.if_icmp .ge 56, 0, 0) := by decide +kernel
theorem at_41_11 : mj_at 41 11 = some (.aload_n 0, 0, 0) := by decide +kernel
theorem at_41_12 : mj_at 41 12 = some (.getfield 26, 2, 5) := by decide +kernel
theorem at_41_15 : mj_at 41 15 = some (.iload 4, 0, 0) := by decide +kernel
theorem at_41_17 : mj_at 41 17 = some (.iaload, 0, 0) := by decide +kernel
theorem at_41_18 : mj_at 41 18 = some (.iconst 0, 0, 0) := by decide +kernel
theorem at_41_19 : mj_at 41 19 = some (.iload_n 1, 0, 0) := by decide +kernel
theorem at_41_20 : mj_at 41 20 = some (.invokestatic 99, 11, 3) := by decide +kernel
theorem at_41_23 : mj_at 41 23 = some (.ifCond .eq 35, 0, 0) := by decide +kernel
theorem at_41_26 : mj_at 41 26 = some (.iload_n 1, 0, 0) := by decide +kernel
theorem at_41_27 : mj_at 41 27 = some (.iconst 1, 0, 0) := by decide +kernel
theorem at_41_28 : mj_at 41 28 = some (.iadd, 0, 0) := by decide +kernel
theorem at_41_29 : mj_at 41 29 = some (.istore 5, 0, 0) := by decide +kernel
theorem at_41_31 : mj_at 41 31 = some (.iload 5, 0, 0) := by decide +kernel
theorem at_41_33 : mj_at 41 33 = some (.iload_n 2, 0, 0) := by decide +kernel
theorem at_41_34 : mj_at 41 34 = some (.if_icmp .ge 24, 0, 0) := by decide +kernel
theorem at_41_37 : mj_at 41 37 = some (.iload_n 3, 0, 0) := by decide +kernel
theorem at_41_38 : mj_at 41 38 = some (.aload_n 0, 0, 0) := by decide +kernel
theorem at_41_39 : mj_at 41 39 = some (.getfield 17, 2, 2) := by decide +kernel
theorem at_41_42 : mj_at 41 42 = some (.iload 5, 0, 0) := by decide +kernel
theorem at_41_44 : mj_at 41 44 = some (.aaload, 0, 0) := by decide +kernel
theorem at_41_45 : mj_at 41 45 = some (.iload 4, 0, 0) := by decide +kernel
theorem at_41_47 : mj_at 41 47 = some (.iaload, 0, 0) := by decide +kernel
theorem at_41_48 : mj_at 41 48 = some (.invokestatic 87, 1001, 2) := by decide +kernel
theorem at_41_51 : mj_at 41 51 = some (.istore_n 3, 0, 0) := by decide +kernel
theorem at_41_52 : mj_at 41 52 = some (.iinc 5 1, 0, 0) := by decide +kernel
theorem at_41_55 : mj_at 41 55 = some (.goto (-24), 0, 0) := by decide +kernel
theorem at_41_58 : mj_at 41 58 = some (.iinc 4 1, 0, 0) := by decide +kernel
theorem at_41_61 : mj_at 41 61 = some (.goto (-56), 0, 0) := by decide +kernel
theorem at_41_64 : mj_at 41 64 = some (.iload_n 3, 0, 0) := by decide +kernel
theorem at_41_65 : mj_at 41 65 = some (.ifCond .ne 7, 0, 0) := by decide +kernel
theorem at_41_68 : mj_at 41 68 = some (.iconst 0, 0, 0) := by decide +kernel
theorem at_41_69 : mj_at 41 69 = some (.goto 6, 0, 0) := by decide +kernel
theorem at_41_72 : mj_at 41 72 = some (.iload_n 3, 0, 0) := by decide +kernel
theorem at_41_73 : mj_at 41 73 = some (.iconst 2, 0, 0) := by decide +kernel
theorem at_41_74 : mj_at 41 74 = some (.iadd, 0, 0) := by decide +kernel
theorem at_41_75 : mj_at 41 75 = some (.ireturn, 0, 0) := by decide +kernel
theorem at_42_0 : mj_at 42 0 = some (.aload_n 0, 0, 0) := by decide +kernel
theorem at_42_1 : mj_at 42 1 = some (.getfield 23, 2, 4) := by decide +kernel
theorem at_42_4 : mj_at 42 4 = some (.iconst (-1), 0, 0) := by decide +kernel
theorem at_42_5 : mj_at 42 5 = some (.invokestatic 29, 36, 2) := by decide +kernel
theorem at_42_8 : mj_at 42 8 = some (.iconst 0, 0, 0) := by decide +kernel
theorem at_42_9 : mj_at 42 9 = some (.istore_n 3, 0, 0) := by decide +kernel
theorem at_42_10 : mj_at 42 10 = some (.iload_n 3, 0, 0) := by decide +kernel
theorem at_42_11 : mj_at 42 11 = some (.iload_n 2, 0, 0) := by decide +kernel
theorem at_42_12 : mj_at 42 12 = some (.if_icmp .ge 33, 0, 0) := by decide +kernel
theorem at_42_15 : mj_at 42 15 = some (.aload_n 0, 0, 0) := by decide +kernel
theorem at_42_16 : mj_at 42 16 = some (.getfield 23, 2, 4) := by decide +kernel
theorem at_42_19 : mj_at 42 19 = some (.iload_n 3, 0, 0) := by decide +kernel
theorem at_42_20 : mj_at 42 20 = some (.aload_n 0, 0, 0) := by decide +kernel
theorem at_42_21 : mj_at 42 21 = some (.aload_n 1, 0, 0) := by decide +kernel
theorem at_42_22 : mj_at 42 22 = some (.iload_n 3, 0, 0) := by decide +kernel
theorem at_42_23 : mj_at 42 23 = some (.invokevirtual 103, 43, 2) := by decide +kernel
theorem at_42_26 : mj_at 42 26 = some (.iastore, 0, 0) := by decide +kernel
theorem at_42_27 : mj_at 42 27 = some (.aload_n 0, 0, 0) := by decide +kernel
theorem at_42_28 : mj_at 42 28 = some (.getfield 23, 2, 4) := by decide +kernel
theorem at_42_31 : mj_at 42 31 = some (.iload_n 3, 0, 0) := by decide +kernel
theorem at_42_32 : mj_at 42 32 = some (.iaload, 0, 0) := by decide +kernel
theorem at_42_33 : mj_at 42 33 = some (.iconst (-1), 0, 0) := by decide +kernel
theorem at_42_34 : mj_at 42 34 = some (.if_icmp .ne 5, 0, 0) := by decide +kernel
theorem at_42_37 : mj_at 42 37 = some (.iload_n 3, 0, 0) := by decide +kernel
theorem at_42_38 : mj_at 42 38 = some (.ireturn, 0, 0) := by decide +kernel
theorem at_42_39 : mj_at 42 39 = some (.iinc 3 1, 0, 0) := by decide +kernel
theorem at_42_42 : mj_at 42 42 = some (.goto (-32), 0, 0) := by decide +kernel
theorem at_42_45 : mj_at 42 45 = some (.iconst (-1), 0, 0) := by decide +kernel
theorem at_42_46 : mj_at 42 46 = some (.ireturn, 0, 0) := by decide +kernel
theorem at_43_0 : mj_at 43 0 = some (.aload_n 1, 0, 0) := by decide +kernel
theorem at_43_1 : mj_at 43 1 = some (.iload_n 2, 0, 0) := by decide +kernel
theorem at_43_2 : mj_at 43 2 = some (.aaload, 0, 0) := by decide +kernel
theorem at_43_3 : mj_at 43 3 = some (.getfield 106, 3, 2) := by decide +kernel
theorem at_43_6 : mj_at 43 6 = some (.istore_n 3, 0, 0) := by decide +kernel
theorem at_43_7 : mj_at 43 7 = some (.iconst 1, 0, 0) := by decide +kernel
theorem at_43_8 : mj_at 43 8 = some (.istore 4, 0, 0) := by decide +kernel
theorem at_43_10 : mj_at 43 10 = some (.iconst 0, 0, 0) := by decide +kernel
theorem at_43_11 : mj_at 43 11 = some (.istore 5, 0, 0) := by decide +kernel
theorem at_43_13 : mj_at 43 13 = some (.iload 5, 0, 0) := by decide +kernel
theorem at_43_15 : mj_at 43 15 = some (.iload_n 3, 0, 0) := by decide +kernel
theorem at_43_16 : mj_at 43 16 = some (.if_icmp .gt 41, 0, 0) := by decide +kernel
theorem at_43_19 : mj_at 43 19 = some (.aload_n 0, 0, 0) := by decide +kernel
theorem at_43_20 : mj_at 43 20 = some (.aload_n 1, 0, 0) := by decide +kernel
theorem at_43_21 : mj_at 43 21 = some (.iload_n 2, 0, 0) := by decide +kernel
theorem at_43_22 : mj_at 43 22 = some (.iload 4, 0, 0) := by decide +kernel
theorem at_43_24 : mj_at 43 24 = some (.invokevirtual 109, 44, 3) := by decide +kernel
theorem at_43_27 : mj_at 43 27 = some (.istore 6, 0, 0) := by decide +kernel
theorem at_43_29 : mj_at 43 29 = some (.iload 6, 0, 0) := by decide +kernel
theorem at_43_31 : mj_at 43 31 = some (.iload_n 3, 0, 0) := by decide +kernel
theorem at_43_32 : mj_at 43 32 = some (.if_icmp .le 5, 0, 0) := by decide +kernel
theorem at_43_35 : mj_at 43 35 = some (.iconst (-1), 0, 0) := by decide +kernel
theorem at_43_36 : mj_at 43 36 = some (.ireturn, 0, 0) := by decide +kernel
theorem at_43_37 : mj_at 43 37 = some (.iload 6, 0, 0) := by decide +kernel
theorem at_43_39 : mj_at 43 39 = some (.iload 4, 0, 0) := by decide +kernel
theorem at_43_41 : mj_at 43 41 = some (.if_icmp .ne 6, 0, 0) := by decide +kernel
theorem at_43_44 : mj_at 43 44 = some (.iload 4, 0, 0) := by decide +kernel
theorem at_43_46 : mj_at 43 46 = some (.ireturn, 0, 0) := by decide +kernel
theorem at_43_47 : mj_at 43 47 = some (.iload 6, 0, 0) := by decide +kernel
theorem at_43_49 : mj_at 43 49 = some (.istore 4, 0, 0) := by decide +kernel
theorem at_43_51 : mj_at 43 51 = some (.iinc 5 1, 0, 0) := by decide +kernel
theorem at_43_54 : mj_at 43 54 = some (.goto (-41), 0, 0) := by decide +kernel
theorem at_43_57 : mj_at 43 57 = some (.iconst (-1), 0, 0) := by decide +kernel
theorem at_43_58 : mj_at 43 58 = some (.ireturn, 0, 0) := by decide +kernel
theorem at_44_0 : mj_at 44 0 = some (.aload_n 0, 0, 0) := by decide +kernel
theorem at_44_1 : mj_at 44 1 = some (.getfield 20, 2, 3) := by decide +kernel
theorem at_44_4 : mj_at 44 4 = some (.iload_n 2, 0, 0) := by decide +kernel
theorem at_44_5 : mj_at 44 5 = some (.iaload, 0, 0) := by decide +kernel
theorem at_44_6 : mj_at 44 6 = some (.aload_n 0, 0, 0) := by decide +kernel
theorem at_44_7 : mj_at 44 7 = some (.getfield 9, 2, 1) := by decide +kernel
theorem at_44_10 : mj_at 44 10 = some (.iload_n 2, 0, 0) := by decide +kernel
theorem at_44_11 : mj_at 44 11 = some (.iaload, 0, 0) := by decide +kernel
theorem at_44_12 : mj_at 44 12 = some (.iadd, 0, 0) := by decide +kernel
theorem at_44_13 : mj_at 44 13 = some (.iconst 2, 0, 0) := by decide +kernel
theorem at_44_14 : mj_at 44 14 = some (.iadd, 0, 0) := by decide +kernel
theorem at_44_15 : mj_at 44 15 = some (.istore 4, 0, 0) := by decide +kernel
theorem at_44_17 : mj_at 44 17 = some (.iconst 0, 0, 0) := by decide +kernel
theorem at_44_18 : mj_at 44 18 = some (.istore 5, 0, 0) := by decide +kernel
theorem at_44_20 : mj_at 44 20 = some (.iload 5, 0, 0) := by decide +kernel
theorem at_44_22 : mj_at 44 22 = some (.iload_n 2, 0, 0) := by decide +kernel
theorem at_44_23 : mj_at 44 23 = some (.if_icmp .ge 50, 0, 0) := by decide +kernel
theorem at_44_26 : mj_at 44 26 = some (.iconst 1, 0, 0) := by decide +kernel
theorem at_44_27 : mj_at 44 27 = some (.aload_n 1, 0, 0) := by decide +kernel
theorem at_44_28 : mj_at 44 28 = some (.iload 5, 0, 0) := by decide +kernel
theorem at_44_30 : mj_at 44 30 = some (.aaload, 0, 0) := by decide +kernel
theorem at_44_31 : mj_at 44 31 = some (.getfield 113, 3, 1) := by decide +kernel
theorem at_44_34 : mj_at 44 34 = some (.invokestatic 87, 1001, 2) := by decide +kernel
theorem at_44_37 : mj_at 44 37 = some (.istore 6, 0, 0) := by decide +kernel
theorem at_44_39 : mj_at 44 39 = some (.iload_n 3, 0, 0) := by decide +kernel
theorem at_44_40 : mj_at 44 40 = some (.iload 6, 0, 0) := by decide +kernel
theorem at_44_42 : mj_at 44 42 = some (.iadd, 0, 0) := by decide +kernel
theorem at_44_43 : mj_at 44 43 = some (.iconst 1, 0, 0) := by decide +kernel
theorem at_44_44 : mj_at 44 44 = some (.isub, 0, 0) := by decide +kernel
theorem at_44_45 : mj_at 44 45 = some (.iload 6, 0, 0) := by decide +kernel
theorem at_44_47 : mj_at 44 47 = some (.idiv, 0, 0) := by decide +kernel
theorem at_44_48 : mj_at 44 48 = some (.istore 7, 0, 0) := by decide +kernel
theorem at_44_50 : mj_at 44 50 = some (.iload 4, 0, 0) := by decide +kernel
theorem at_44_52 : mj_at 44 52 = some (.iload 7, 0, 0) := by decide +kernel
theorem at_44_54 : mj_at 44 54 = some (.aload_n 0, 0, 0) := by decide +kernel
theorem at_44_55 : mj_at 44 55 = some (.getfield 9, 2, 1) := by decide +kernel
theorem at_44_58 : mj_at 44 58 = some (.iload 5, 0, 0) := by decide +kernel
theorem at_44_60 : mj_at 44 60 = some (.iaload, 0, 0) := by decide +kernel
theorem at_44_61 : mj_at 44 61 = some (.iconst 4, 0, 0) := by decide +kernel
theorem at_44_62 : mj_at 44 62 = some (.iadd, 0, 0) := by decide +kernel
theorem at_44_63 : mj_at 44 63 = some (.imul, 0, 0) := by decide +kernel
theorem at_44_64 : mj_at 44 64 = some (.iadd, 0, 0) := by decide +kernel
theorem at_44_65 : mj_at 44 65 = some (.istore 4, 0, 0) := by decide +kernel
theorem at_44_67 : mj_at 44 67 = some (.iinc 5 1, 0, 0) := by decide +kernel
theorem at_44_70 : mj_at 44 70 = some (.goto (-50), 0, 0) := by decide +kernel
theorem at_44_73 : mj_at 44 73 = some (.iload 4, 0, 0) := by decide +kernel
theorem at_44_75 : mj_at 44 75 = some (.ireturn, 0, 0) := by decide +kernel
theorem at_45_0 : mj_at 45 0 = some (.aload_n 0, 0, 0) := by decide +kernel
theorem at_45_1 : mj_at 45 1 = some (.getfield 18, 0, 1) := by decide +kernel
theorem at_45_4 : mj_at 45 4 = some (.getfield 81, 1, 0) := by decide +kernel
theorem at_45_7 : mj_at 45 7 = some (.ireturn, 0, 0) := by decide +kernel
theorem at_46_0 : mj_at 46 0 = some (.aload_n 0, 0, 0) := by decide +kernel
theorem at_46_1 : mj_at 46 1 = some (.iload_n 1, 0, 0) := by decide +kernel
theorem at_46_2 : mj_at 46 2 = some (.invokevirtual 92, 47, 1) := by decide +kernel
theorem at_46_5 : mj_at 46 5 = some (.ifCond .eq 15, 0, 0) := by decide +kernel
theorem at_46_8 : mj_at 46 8 = some (.aload_n 0, 0, 0) := by decide +kernel
theorem at_46_9 : mj_at 46 9 = some (.getfield 25, 0, 2) := by decide +kernel
theorem at_46_12 : mj_at 46 12 = some (.getfield 95, 2, 1) := by decide +kernel
theorem at_46_15 : mj_at 46 15 = some (.iload_n 1, 0, 0) := by decide +kernel
theorem at_46_16 : mj_at 46 16 = some (.iaload, 0, 0) := by decide +kernel
theorem at_46_17 : mj_at 46 17 = some (.goto 4, 0, 0) := by decide +kernel
theorem at_46_20 : mj_at 46 20 = some (.iconst (-1), 0, 0) := by decide +kernel
theorem at_46_21 : mj_at 46 21 = some (.ireturn, 0, 0) := by decide +kernel
theorem at_47_0 : mj_at 47 0 = some (.aload_n 0, 0, 0) := by decide +kernel
theorem at_47_1 : mj_at 47 1 = some (.getfield 25, 0, 2) := by decide +kernel
theorem at_47_4 : mj_at 47 4 = some (.getfield 55, 2, 0) := by decide +kernel
theorem at_47_7 : mj_at 47 7 = some (.ifCond .eq 15, 0, 0) := by decide +kernel
theorem at_47_10 : mj_at 47 10 = some (.aload_n 0, 0, 0) := by decide +kernel
theorem at_47_11 : mj_at 47 11 = some (.iload_n 1, 0, 0) := by decide +kernel
theorem at_47_12 : mj_at 47 12 = some (.invokevirtual 58, 14, 1) := by decide +kernel
theorem at_47_15 : mj_at 47 15 = some (.ifCond .eq 7, 0, 0) := by decide +kernel
theorem at_47_18 : mj_at 47 18 = some (.iconst 1, 0, 0) := by decide +kernel
theorem at_47_19 : mj_at 47 19 = some (.goto 4, 0, 0) := by decide +kernel
theorem at_47_22 : mj_at 47 22 = some (.iconst 0, 0, 0) := by decide +kernel
theorem at_47_23 : mj_at 47 23 = some (.ireturn, 0, 0) := by decide +kernel
theorem at_48_0 : mj_at 48 0 = some (.aload_n 0, 0, 0) := by decide +kernel
theorem at_48_1 : mj_at 48 1 = some (.iload_n 1, 0, 0) := by decide +kernel
theorem at_48_2 : mj_at 48 2 = some (.invokevirtual 92, 47, 1) := by decide +kernel
theorem at_48_5 : mj_at 48 5 = some (.ifCond .eq 25, 0, 0) := by decide +kernel
theorem at_48_8 : mj_at 48 8 = some (.iload_n 2, 0, 0) := by decide +kernel
theorem at_48_9 : mj_at 48 9 = some (.iconst 4, 0, 0) := by decide +kernel
theorem at_48_10 : mj_at 48 10 = some (.invokestatic 62, 15, 2) := by decide +kernel
theorem at_48_13 : mj_at 48 13 = some (.ifCond .eq 17, 0, 0) := by decide +kernel
theorem at_48_16 : mj_at 48 16 = some (.aload_n 0, 0, 0) := by decide +kernel
theorem at_48_17 : mj_at 48 17 = some (.getfield 25, 0, 2) := by decide +kernel
theorem at_48_20 : mj_at 48 20 = some (.getfield 99, 2, 2) := by decide +kernel
theorem at_48_23 : mj_at 48 23 = some (.iload_n 1, 0, 0) := by decide +kernel
theorem at_48_24 : mj_at 48 24 = some (.aaload, 0, 0) := by decide +kernel
theorem at_48_25 : mj_at 48 25 = some (.iload_n 2, 0, 0) := by decide +kernel
theorem at_48_26 : mj_at 48 26 = some (.iaload, 0, 0) := by decide +kernel
theorem at_48_27 : mj_at 48 27 = some (.goto 4, 0, 0) := by decide +kernel
theorem at_48_30 : mj_at 48 30 = some (.iconst (-1), 0, 0) := by decide +kernel
theorem at_48_31 : mj_at 48 31 = some (.ireturn, 0, 0) := by decide +kernel
theorem at_49_0 : mj_at 49 0 = some (.aload_n 0, 0, 0) := by decide +kernel
theorem at_49_1 : mj_at 49 1 = some (.iload_n 1, 0, 0) := by decide +kernel
theorem at_49_2 : mj_at 49 2 = some (.invokevirtual 92, 47, 1) := by decide +kernel
theorem at_49_5 : mj_at 49 5 = some (.ifCond .eq 15, 0, 0) := by decide +kernel
theorem at_49_8 : mj_at 49 8 = some (.aload_n 0, 0, 0) := by decide +kernel
theorem at_49_9 : mj_at 49 9 = some (.getfield 25, 0, 2) := by decide +kernel
theorem at_49_12 : mj_at 49 12 = some (.getfield 103, 2, 3) := by decide +kernel
theorem at_49_15 : mj_at 49 15 = some (.iload_n 1, 0, 0) := by decide +kernel
theorem at_49_16 : mj_at 49 16 = some (.iaload, 0, 0) := by decide +kernel
theorem at_49_17 : mj_at 49 17 = some (.goto 4, 0, 0) := by decide +kernel
theorem at_49_20 : mj_at 49 20 = some (.iconst (-1), 0, 0) := by decide +kernel
theorem at_49_21 : mj_at 49 21 = some (.ireturn, 0, 0) := by decide +kernel
theorem at_50_0 : mj_at 50 0 = some (.aload_n 0, 0, 0) := by decide +kernel
theorem at_50_1 : mj_at 50 1 = some (.iload_n 1, 0, 0) := by decide +kernel
theorem at_50_2 : mj_at 50 2 = some (.invokevirtual 92, 47, 1) := by decide +kernel
theorem at_50_5 : mj_at 50 5 = some (.ifCond .eq 15, 0, 0) := by decide +kernel
theorem at_50_8 : mj_at 50 8 = some (.aload_n 0, 0, 0) := by decide +kernel
theorem at_50_9 : mj_at 50 9 = some (.getfield 25, 0, 2) := by decide +kernel
theorem at_50_12 : mj_at 50 12 = some (.getfield 106, 2, 4) := by decide +kernel
theorem at_50_15 : mj_at 50 15 = some (.iload_n 1, 0, 0) := by decide +kernel
theorem at_50_16 : mj_at 50 16 = some (.iaload, 0, 0) := by decide +kernel
theorem at_50_17 : mj_at 50 17 = some (.goto 4, 0, 0) := by decide +kernel
theorem at_50_20 : mj_at 50 20 = some (.iconst (-1), 0, 0) := by decide +kernel
theorem at_50_21 : mj_at 50 21 = some (.ireturn, 0, 0) := by decide +kernel
theorem at_51_0 : mj_at 51 0 = some (.aload_n 0, 0, 0) := by decide +kernel
theorem at_51_1 : mj_at 51 1 = some (.getfield 25, 0, 2) := by decide +kernel
theorem at_51_4 : mj_at 51 4 = some (.getfield 55, 2, 0) := by decide +kernel
theorem at_51_7 : mj_at 51 7 = some (.ifCond .eq 23, 0, 0) := by decide +kernel
theorem at_51_10 : mj_at 51 10 = some (.iload_n 1, 0, 0) := by decide +kernel
theorem at_51_11 : mj_at 51 11 = some (.iconst 4, 0, 0) := by decide +kernel
theorem at_51_12 : mj_at 51 12 = some (.invokestatic 62, 15, 2) := by decide +kernel
theorem at_51_15 : mj_at 51 15 = some (.ifCond .eq 15, 0, 0) := by decide +kernel
theorem at_51_18 : mj_at 51 18 = some (.aload_n 0, 0, 0) := by decide +kernel
theorem at_51_19 : mj_at 51 19 = some (.getfield 25, 0, 2) := by decide +kernel
theorem at_51_22 : mj_at 51 22 = some (.getfield 109, 2, 5) := by decide +kernel
theorem at_51_25 : mj_at 51 25 = some (.iload_n 1, 0, 0) := by decide +kernel
theorem at_51_26 : mj_at 51 26 = some (.iaload, 0, 0) := by decide +kernel
theorem at_51_27 : mj_at 51 27 = some (.goto 4, 0, 0) := by decide +kernel
theorem at_51_30 : mj_at 51 30 = some (.iconst (-1), 0, 0) := by decide +kernel
theorem at_51_31 : mj_at 51 31 = some (.ireturn, 0, 0) := by decide +kernel
theorem at_52_0 : mj_at 52 0 = some (.aload_n 0, 0, 0) := by decide +kernel
theorem at_52_1 : mj_at 52 1 = some (.getfield 35, 0, 3) := by decide +kernel
theorem at_52_4 : mj_at 52 4 = some (.getfield 43, 5, 0) := by decide +kernel
theorem at_52_7 : mj_at 52 7 = some (.ifCond .ne 13, 0, 0) := by decide +kernel
theorem at_52_10 : mj_at 52 10 = some (.aload_n 0, 0, 0) := by decide +kernel
theorem at_52_11 : mj_at 52 11 = some (.getfield 25, 0, 2) := by decide +kernel
theorem at_52_14 : mj_at 52 14 = some (.getfield 55, 2, 0) := by decide +kernel
theorem at_52_17 : mj_at 52 17 = some (.ifCond .ne 5, 0, 0) := by decide +kernel
theorem at_52_20 : mj_at 52 20 = some (.iconst 0, 0, 0) := by decide +kernel
theorem at_52_21 : mj_at 52 21 = some (.ireturn, 0, 0) := by decide +kernel
theorem at_52_22 : mj_at 52 22 = some (.aload_n 0, 0, 0) := by decide +kernel
theorem at_52_23 : mj_at 52 23 = some (.getfield 35, 0, 3) := by decide +kernel
theorem at_52_26 : mj_at 52 26 = some (.aload_n 0, 0, 0) := by decide +kernel
theorem at_52_27 : mj_at 52 27 = some (.getfield 47, 0, 4) := by decide +kernel
theorem at_52_30 : mj_at 52 30 = some (.invokevirtual 112, 53, 1) := by decide +kernel
theorem at_52_33 : mj_at 52 33 = some (.iconst 1, 0, 0) := by decide +kernel
theorem at_52_34 : mj_at 52 34 = some (.ireturn, 0, 0) := by decide +kernel
theorem at_53_0 : mj_at 53 0 = some (.aload_n 0, 0, 0) := by decide +kernel
theorem at_53_1 : mj_at 53 1 = some (.iconst 1, 0, 0) := by decide +kernel
theorem at_53_2 : mj_at 53 2 = some (.putfield 42, 5, 0) := by decide +kernel
theorem at_53_5 : mj_at 53 5 = some (.aload_n 0, 0, 0) := by decide +kernel
theorem at_53_6 : mj_at 53 6 = some (.iload_n 1, 0, 0) := by decide +kernel
theorem at_53_7 : mj_at 53 7 = some (.putfield 46, 5, 6) := by decide +kernel
theorem at_53_10 : mj_at 53 10 = some (.aload_n 0, 0, 0) := by decide +kernel
theorem at_53_11 : mj_at 53 11 = some (.iconst 0, 0, 0) := by decide +kernel
theorem at_53_12 : mj_at 53 12 = some (.putfield 50, 5, 7) := by decide +kernel
theorem at_53_15 : mj_at 53 15 = some (.aload_n 0, 0, 0) := by decide +kernel
theorem at_53_16 : mj_at 53 16 = some (.iconst (-1), 0, 0) := by decide +kernel
theorem at_53_17 : mj_at 53 17 = some (.putfield 53, 5, 8) := by decide +kernel
theorem at_53_20 : mj_at 53 20 = some (.aload_n 0, 0, 0) := by decide +kernel
theorem at_53_21 : mj_at 53 21 = some (.iconst (-1), 0, 0) := by decide +kernel
theorem at_53_22 : mj_at 53 22 = some (.putfield 56, 5, 9) := by decide +kernel
theorem at_53_25 : mj_at 53 25 = some (.aload_n 0, 0, 0) := by decide +kernel
theorem at_53_26 : mj_at 53 26 = some (.iconst 0, 0, 0) := by decide +kernel
theorem at_53_27 : mj_at 53 27 = some (.putfield 59, 5, 10) := by decide +kernel
theorem at_53_30 : mj_at 53 30 = some (.aload_n 0, 0, 0) := by decide +kernel
theorem at_53_31 : mj_at 53 31 = some (.iconst 0, 0, 0) := by decide +kernel
theorem at_53_32 : mj_at 53 32 = some (.putfield 62, 5, 11) := by decide +kernel
theorem at_53_35 : mj_at 53 35 = some (.aload_n 0, 0, 0) := by decide +kernel
theorem at_53_36 : mj_at 53 36 = some (.iconst 0, 0, 0) := by decide +kernel
theorem at_53_37 : mj_at 53 37 = some (.putfield 65, 5, 12) := by decide +kernel
theorem at_53_40 : mj_at 53 40 = some (.aload_n 0, 0, 0) := by decide +kernel
theorem at_53_41 : mj_at 53 41 = some (.iconst 0, 0, 0) := by decide +kernel
theorem at_53_42 : mj_at 53 42 = some (.putfield 68, 5, 13) := by decide +kernel
theorem at_53_45 : mj_at 53 45 = some (.aload_n 0, 0, 0) := by decide +kernel
theorem at_53_46 : mj_at 53 46 = some (.getfield 24, 5, 3) := by decide +kernel
theorem at_53_49 : mj_at 53 49 = some (.iconst 0, 0, 0) := by decide +kernel
theorem at_53_50 : mj_at 53 50 = some (.putfield 71, 7, 0) := by decide +kernel
theorem at_53_53 : mj_at 53 53 = some (.aload_n 0, 0, 0) := by decide +kernel
theorem at_53_54 : mj_at 53 54 = some (.getfield 17, 5, 2) := by decide +kernel
theorem at_53_57 : mj_at 53 57 = some (.iconst 0, 0, 0) := by decide +kernel
theorem at_53_58 : mj_at 53 58 = some (.invokestatic 74, 36, 2) := by decide +kernel
theorem at_53_61 : mj_at 53 61 = some (.iconst 0, 0, 0) := by decide +kernel
theorem at_53_62 : mj_at 53 62 = some (.istore_n 2, 0, 0) := by decide +kernel
theorem at_53_63 : mj_at 53 63 = some (.iload_n 2, 0, 0) := by decide +kernel
theorem at_53_64 : mj_at 53 64 = some (.iconst 2, 0, 0) := by decide +kernel
theorem at_53_65 : mj_at 53 65 = some (.if_icmp .ge 18, 0, 0) := by decide +kernel
theorem at_53_68 : mj_at 53 68 = some (.aload_n 0, 0, 0) := by decide +kernel
theorem at_53_69 : mj_at 53 69 = some (.getfield 30, 5, 5) := by decide +kernel
theorem at_53_72 : mj_at 53 72 = some (.iload_n 2, 0, 0) := by decide +kernel
theorem at_53_73 : mj_at 53 73 = some (.aaload, 0, 0) := by decide +kernel
theorem at_53_74 : mj_at 53 74 = some (.invokevirtual 80, 54, 0) := by decide +kernel
theorem at_53_77 : mj_at 53 77 = some (.iinc 2 1, 0, 0) := by decide +kernel
theorem at_53_80 : mj_at 53 80 = some (.goto (-17), 0, 0) := by decide +kernel
theorem at_53_83 : mj_at 53 83 = some (.iconst 0, 0, 0) := by decide +kernel
theorem at_53_84 : mj_at 53 84 = some (.istore_n 2, 0, 0) := by decide +kernel
theorem at_53_85 : mj_at 53 85 = some (.iload_n 2, 0, 0) := by decide +kernel
theorem at_53_86 : mj_at 53 86 = some (.iload_n 1, 0, 0) := by decide +kernel
theorem at_53_87 : mj_at 53 87 = some (.if_icmp .ge 18, 0, 0) := by decide +kernel
theorem at_53_90 : mj_at 53 90 = some (.aload_n 0, 0, 0) := by decide +kernel
theorem at_53_91 : mj_at 53 91 = some (.getfield 11, 5, 1) := by decide +kernel
theorem at_53_94 : mj_at 53 94 = some (.iload_n 2, 0, 0) := by decide +kernel
theorem at_53_95 : mj_at 53 95 = some (.aaload, 0, 0) := by decide +kernel
theorem at_53_96 : mj_at 53 96 = some (.invokevirtual 83, 55, 0) := by decide +kernel
theorem at_53_99 : mj_at 53 99 = some (.iinc 2 1, 0, 0) := by decide +kernel
theorem at_53_102 : mj_at 53 102 = some (.goto (-17), 0, 0) := by decide +kernel
theorem at_53_105 : mj_at 53 105 = some (.return_, 0, 0) := by decide +kernel
theorem at_54_0 : mj_at 54 0 = some (.aload_n 0, 0, 0) := by decide +kernel
theorem at_54_1 : mj_at 54 1 = some (.iconst 0, 0, 0) := by decide +kernel
theorem at_54_2 : mj_at 54 2 = some (.putfield 15, 9, 1) := by decide +kernel
theorem at_54_5 : mj_at 54 5 = some (.return_, 0, 0) := by decide +kernel
theorem at_55_0 : mj_at 55 0 = some (.aload_n 0, 0, 0) := by decide +kernel
theorem at_55_1 : mj_at 55 1 = some (.getfield 30, 8, 1) := by decide +kernel
theorem at_55_4 : mj_at 55 4 = some (.iconst 0, 0, 0) := by decide +kernel
theorem at_55_5 : mj_at 55 5 = some (.putfield 34, 6, 0) := by decide +kernel
theorem at_55_8 : mj_at 55 8 = some (.aload_n 0, 0, 0) := by decide +kernel
theorem at_55_9 : mj_at 55 9 = some (.getfield 9, 8, 2) := by decide +kernel
theorem at_55_12 : mj_at 55 12 = some (.iconst 0, 0, 0) := by decide +kernel
theorem at_55_13 : mj_at 55 13 = some (.invokestatic 38, 36, 2) := by decide +kernel
theorem at_55_16 : mj_at 55 16 = some (.aload_n 0, 0, 0) := by decide +kernel
theorem at_55_17 : mj_at 55 17 = some (.iconst 0, 0, 0) := by decide +kernel
theorem at_55_18 : mj_at 55 18 = some (.putfield 44, 8, 3) := by decide +kernel
theorem at_55_21 : mj_at 55 21 = some (.aload_n 0, 0, 0) := by decide +kernel
theorem at_55_22 : mj_at 55 22 = some (.aload_n 0, 0, 0) := by decide +kernel
theorem at_55_23 : mj_at 55 23 = some (.getfield 15, 8, 0) := by decide +kernel
theorem at_55_26 : mj_at 55 26 = some (.invokevirtual 48, 56, 0) := by decide +kernel
theorem at_55_29 : mj_at 55 29 = some (.ifCond .eq 13, 0, 0) := by decide +kernel
theorem at_55_32 : mj_at 55 32 = some (.aload_n 0, 0, 0) := by decide +kernel
theorem at_55_33 : mj_at 55 33 = some (.getfield 15, 8, 0) := by decide +kernel
theorem at_55_36 : mj_at 55 36 = some (.getfield 52, 3, 3) := by decide +kernel
theorem at_55_39 : mj_at 55 39 = some (.goto 4, 0, 0) := by decide +kernel
theorem at_55_42 : mj_at 55 42 = some (.iconst 0, 0, 0) := by decide +kernel
theorem at_55_43 : mj_at 55 43 = some (.putfield 55, 8, 4) := by decide +kernel
theorem at_55_46 : mj_at 55 46 = some (.aload_n 0, 0, 0) := by decide +kernel
theorem at_55_47 : mj_at 55 47 = some (.iconst 0, 0, 0) := by decide +kernel
theorem at_55_48 : mj_at 55 48 = some (.putfield 58, 8, 5) := by decide +kernel
theorem at_55_51 : mj_at 55 51 = some (.return_, 0, 0) := by decide +kernel
theorem at_56_0 : mj_at 56 0 = some (.aload_n 0, 0, 0) := by decide +kernel
theorem at_56_1 : mj_at 56 1 = some (.getfield 25, 3, 3) := by decide +kernel
theorem at_56_4 : mj_at 56 4 = some (.iconst (-1), 0, 0) := by decide +kernel
theorem at_56_5 : mj_at 56 5 = some (.if_icmp .eq 7, 0, 0) := by decide +kernel
theorem at_56_8 : mj_at 56 8 = some (.iconst 1, 0, 0) := by decide +kernel
theorem at_56_9 : mj_at 56 9 = some (.goto 4, 0, 0) := by decide +kernel
theorem at_56_12 : mj_at 56 12 = some (.iconst 0, 0, 0) := by decide +kernel
theorem at_56_13 : mj_at 56 13 = some (.ireturn, 0, 0) := by decide +kernel
theorem at_57_0 : mj_at 57 0 = some (.aload_n 0, 0, 0) := by decide +kernel
theorem at_57_1 : mj_at 57 1 = some (.getfield 35, 0, 3) := by decide +kernel
theorem at_57_4 : mj_at 57 4 = some (.getfield 43, 5, 0) := by decide +kernel
theorem at_57_7 : mj_at 57 7 = some (.ifCond .ne 5, 0, 0) := by decide +kernel
theorem at_57_10 : mj_at 57 10 = some (.iconst 0, 0, 0) := by decide +kernel
theorem at_57_11 : mj_at 57 11 = some (.ireturn, 0, 0) := by decide +kernel
theorem at_57_12 : mj_at 57 12 = some (.aload_n 0, 0, 0) := by decide +kernel
theorem at_57_13 : mj_at 57 13 = some (.getfield 35, 0, 3) := by decide +kernel
theorem at_57_16 : mj_at 57 16 = some (.iconst 0, 0, 0) := by decide +kernel
theorem at_57_17 : mj_at 57 17 = some (.putfield 43, 5, 0) := by decide +kernel
theorem at_57_20 : mj_at 57 20 = some (.iconst 1, 0, 0) := by decide +kernel
theorem at_57_21 : mj_at 57 21 = some (.ireturn, 0, 0) := by decide +kernel
theorem at_58_0 : mj_at 58 0 = some (.aload_n 0, 0, 0) := by decide +kernel
theorem at_58_1 : mj_at 58 1 = some (.iload_n 1, 0, 0) := by decide +kernel
theorem at_58_2 : mj_at 58 2 = some (.invokevirtual 116, 59, 1) := by decide +kernel
theorem at_58_5 : mj_at 58 5 = some (.ifCond .eq 22, 0, 0) := by decide +kernel
theorem at_58_8 : mj_at 58 8 = some (.aload_n 0, 0, 0) := by decide +kernel
theorem at_58_9 : mj_at 58 9 = some (.getfield 35, 0, 3) := by decide +kernel
theorem at_58_12 : mj_at 58 12 = some (.getfield 119, 5, 1) := by decide +kernel
theorem at_58_15 : mj_at 58 15 = some (.iload_n 1, 0, 0) := by decide +kernel
theorem at_58_16 : mj_at 58 16 = some (.aaload, 0, 0) := by decide +kernel
theorem at_58_17 : mj_at 58 17 = some (.invokevirtual 123, 60, 0) := by decide +kernel
theorem at_58_20 : mj_at 58 20 = some (.ifCond .eq 7, 0, 0) := by decide +kernel
theorem at_58_23 : mj_at 58 23 = some (.iconst 1, 0, 0) := by decide +kernel
theorem at_58_24 : mj_at 58 24 = some (.goto 4, 0, 0) := by decide +kernel
theorem at_58_27 : mj_at 58 27 = some (.iconst 0, 0, 0) := by decide +kernel
theorem at_58_28 : mj_at 58 28 = some (.ireturn, 0, 0) := by decide +kernel
theorem at_59_0 : mj_at 59 0 = some (.aload_n 0, 0, 0) := by decide +kernel
theorem at_59_1 : mj_at 59 1 = some (.getfield 35, 0, 3) := by decide +kernel
theorem at_59_4 : mj_at 59 4 = some (.getfield 43, 5, 0) := by decide +kernel
theorem at_59_7 : mj_at 59 7 = some (.ifCond .eq 15, 0, 0) := by decide +kernel
theorem at_59_10 : mj_at 59 10 = some (.aload_n 0, 0, 0) := by decide +kernel
theorem at_59_11 : mj_at 59 11 = some (.iload_n 1, 0, 0) := by decide +kernel
theorem at_59_12 : mj_at 59 12 = some (.invokevirtual 58, 14, 1) := by decide +kernel
theorem at_59_15 : mj_at 59 15 = some (.ifCond .eq 7, 0, 0) := by decide +kernel
theorem at_59_18 : mj_at 59 18 = some (.iconst 1, 0, 0) := by decide +kernel
theorem at_59_19 : mj_at 59 19 = some (.goto 4, 0, 0) := by decide +kernel
theorem at_59_22 : mj_at 59 22 = some (.iconst 0, 0, 0) := by decide +kernel
theorem at_59_23 : mj_at 59 23 = some (.ireturn, 0, 0) := by decide +kernel
theorem at_60_0 : mj_at 60 0 = some (.aload_n 0, 0, 0) := by decide +kernel
theorem at_60_1 : mj_at 60 1 = some (.getfield 15, 8, 0) := by decide +kernel
theorem at_60_4 : mj_at 60 4 = some (.invokevirtual 48, 56, 0) := by decide +kernel
theorem at_60_7 : mj_at 60 7 = some (.ifCond .ne 11, 0, 0) := by decide +kernel
theorem at_60_10 : mj_at 60 10 = some (.aload_n 0, 0, 0) := by decide +kernel
theorem at_60_11 : mj_at 60 11 = some (.getfield 58, 8, 5) := by decide +kernel
theorem at_60_14 : mj_at 60 14 = some (.iconst 4, 0, 0) := by decide +kernel
theorem at_60_15 : mj_at 60 15 = some (.if_icmp .lt 5, 0, 0) := by decide +kernel
theorem at_60_18 : mj_at 60 18 = some (.iconst 0, 0, 0) := by decide +kernel
theorem at_60_19 : mj_at 60 19 = some (.ireturn, 0, 0) := by decide +kernel
theorem at_60_20 : mj_at 60 20 = some (.aload_n 0, 0, 0) := by decide +kernel
theorem at_60_21 : mj_at 60 21 = some (.dup, 0, 0) := by decide +kernel
theorem at_60_22 : mj_at 60 22 = some (.getfield 58, 8, 5) := by decide +kernel
theorem at_60_25 : mj_at 60 25 = some (.iconst 1, 0, 0) := by decide +kernel
theorem at_60_26 : mj_at 60 26 = some (.iadd, 0, 0) := by decide +kernel
theorem at_60_27 : mj_at 60 27 = some (.putfield 58, 8, 5) := by decide +kernel
theorem at_60_30 : mj_at 60 30 = some (.iconst 1, 0, 0) := by decide +kernel
theorem at_60_31 : mj_at 60 31 = some (.ireturn, 0, 0) := by decide +kernel
theorem at_61_0 : mj_at 61 0 = some (.aload_n 0, 0, 0) := by decide +kernel
theorem at_61_1 : mj_at 61 1 = some (.getfield 35, 0, 3) := by decide +kernel
theorem at_61_4 : mj_at 61 4 = some (.getfield 43, 5, 0) := by decide +kernel
theorem at_61_7 : mj_at 61 7 = some (.ifCond .eq 11, 0, 0) := by decide +kernel
theorem at_61_10 : mj_at 61 10 = some (.iload_n 1, 0, 0) := by decide +kernel
theorem at_61_11 : mj_at 61 11 = some (.iconst 2, 0, 0) := by decide +kernel
theorem at_61_12 : mj_at 61 12 = some (.invokestatic 62, 15, 2) := by decide +kernel
theorem at_61_15 : mj_at 61 15 = some (.ifCond .ne 5, 0, 0) := by decide +kernel
theorem at_61_18 : mj_at 61 18 = some (.iconst 0, 0, 0) := by decide +kernel
theorem at_61_19 : mj_at 61 19 = some (.ireturn, 0, 0) := by decide +kernel
theorem at_61_20 : mj_at 61 20 = some (.aload_n 0, 0, 0) := by decide +kernel
theorem at_61_21 : mj_at 61 21 = some (.getfield 35, 0, 3) := by decide +kernel
theorem at_61_24 : mj_at 61 24 = some (.getfield 129, 5, 2) := by decide +kernel
theorem at_61_27 : mj_at 61 27 = some (.iload_n 1, 0, 0) := by decide +kernel
theorem at_61_28 : mj_at 61 28 = some (.iload_n 2, 0, 0) := by decide +kernel
theorem at_61_29 : mj_at 61 29 = some (.iastore, 0, 0) := by decide +kernel
theorem at_61_30 : mj_at 61 30 = some (.iconst 1, 0, 0) := by decide +kernel
theorem at_61_31 : mj_at 61 31 = some (.ireturn, 0, 0) := by decide +kernel
theorem at_62_0 : mj_at 62 0 = some (.aload_n 0, 0, 0) := by decide +kernel
theorem at_62_1 : mj_at 62 1 = some (.getfield 35, 0, 3) := by decide +kernel
theorem at_62_4 : mj_at 62 4 = some (.getfield 43, 5, 0) := by decide +kernel
theorem at_62_7 : mj_at 62 7 = some (.ifCond .eq 25, 0, 0) := by decide +kernel
theorem at_62_10 : mj_at 62 10 = some (.iload_n 1, 0, 0) := by decide +kernel
theorem at_62_11 : mj_at 62 11 = some (.iconst 1, 0, 0) := by decide +kernel
theorem at_62_12 : mj_at 62 12 = some (.sipush 500, 0, 0) := by decide +kernel
theorem at_62_15 : mj_at 62 15 = some (.invokestatic 39, 11, 3) := by decide +kernel
theorem at_62_18 : mj_at 62 18 = some (.ifCond .eq 14, 0, 0) := by decide +kernel
theorem at_62_21 : mj_at 62 21 = some (.aload_n 0, 0, 0) := by decide +kernel
theorem at_62_22 : mj_at 62 22 = some (.getfield 35, 0, 3) := by decide +kernel
theorem at_62_25 : mj_at 62 25 = some (.iload_n 1, 0, 0) := by decide +kernel
theorem at_62_26 : mj_at 62 26 = some (.invokevirtual 132, 63, 1) := by decide +kernel
theorem at_62_29 : mj_at 62 29 = some (.goto 4, 0, 0) := by decide +kernel
theorem at_62_32 : mj_at 62 32 = some (.iconst (-1), 0, 0) := by decide +kernel
theorem at_62_33 : mj_at 62 33 = some (.ireturn, 0, 0) := by decide +kernel
theorem at_63_0 : mj_at 63 0 = some (.aload_n 0, 0, 0) := by decide +kernel
theorem at_63_1 : mj_at 63 1 = some (.getfield 24, 5, 3) := by decide +kernel
theorem at_63_4 : mj_at 63 4 = some (.getfield 71, 7, 0) := by decide +kernel
theorem at_63_7 : mj_at 63 7 = some (.istore_n 2, 0, 0) := by decide +kernel
theorem at_63_8 : mj_at 63 8 = some (.iconst 0, 0, 0) := by decide +kernel
theorem at_63_9 : mj_at 63 9 = some (.istore_n 3, 0, 0) := by decide +kernel
theorem at_63_10 : mj_at 63 10 = some (.iload_n 3, 0, 0) := by decide +kernel
theorem at_63_11 : mj_at 63 11 = some (.iload_n 1, 0, 0) := by decide +kernel
theorem at_63_12 : mj_at 63 12 = some (.if_icmp .ge 60, 0, 0) := by decide +kernel
theorem at_63_15 : mj_at 63 15 = some (.aload_n 0, 0, 0) := by decide +kernel
theorem at_63_16 : mj_at 63 16 = some (.invokevirtual 86, 64, 0) := by decide +kernel
theorem at_63_19 : mj_at 63 19 = some (.aload_n 0, 0, 0) := by decide +kernel
theorem at_63_20 : mj_at 63 20 = some (.aload_n 0, 0, 0) := by decide +kernel
theorem at_63_21 : mj_at 63 21 = some (.invokevirtual 89, 70, 0) := by decide +kernel
theorem at_63_24 : mj_at 63 24 = some (.putfield 56, 5, 9) := by decide +kernel
theorem at_63_27 : mj_at 63 27 = some (.aload_n 0, 0, 0) := by decide +kernel
theorem at_63_28 : mj_at 63 28 = some (.dup, 0, 0) := by decide +kernel
theorem at_63_29 : mj_at 63 29 = some (.getfield 50, 5, 7) := by decide +kernel
theorem at_63_32 : mj_at 63 32 = some (.iconst 1, 0, 0) := by decide +kernel
theorem at_63_33 : mj_at 63 33 = some (.iadd, 0, 0) := by decide +kernel
theorem at_63_34 : mj_at 63 34 = some (.putfield 50, 5, 7) := by decide +kernel
theorem at_63_37 : mj_at 63 37 = some (.aload_n 0, 0, 0) := by decide +kernel
theorem at_63_38 : mj_at 63 38 = some (.getfield 56, 5, 9) := by decide +kernel
theorem at_63_41 : mj_at 63 41 = some (.iconst (-1), 0, 0) := by decide +kernel
theorem at_63_42 : mj_at 63 42 = some (.if_icmp .ne 16, 0, 0) := by decide +kernel
theorem at_63_45 : mj_at 63 45 = some (.aload_n 0, 0, 0) := by decide +kernel
theorem at_63_46 : mj_at 63 46 = some (.dup, 0, 0) := by decide +kernel
theorem at_63_47 : mj_at 63 47 = some (.getfield 68, 5, 13) := by decide +kernel
theorem at_63_50 : mj_at 63 50 = some (.iconst 1, 0, 0) := by decide +kernel
theorem at_63_51 : mj_at 63 51 = some (.iadd, 0, 0) := by decide +kernel
theorem at_63_52 : mj_at 63 52 = some (.putfield 68, 5, 13) := by decide +kernel
theorem at_63_55 : mj_at 63 55 = some (.goto 11, 0, 0) := by decide +kernel
theorem at_63_58 : mj_at 63 58 = some (.aload_n 0, 0, 0) := by decide +kernel
theorem at_63_59 : mj_at 63 59 = some (.aload_n 0, 0, 0) := by decide +kernel
theorem at_63_60 : mj_at 63 60 = some (.getfield 56, 5, 9) := by decide +kernel
theorem at_63_63 : mj_at 63 63 = some (.invokevirtual 93, 72, 1) := by decide +kernel
theorem at_63_66 : mj_at 63 66 = some (.iinc 3 1, 0, 0) := by decide +kernel
theorem at_63_69 : mj_at 63 69 = some (.goto (-59), 0, 0) := by decide +kernel
theorem at_63_72 : mj_at 63 72 = some (.aload_n 0, 0, 0) := by decide +kernel
theorem at_63_73 : mj_at 63 73 = some (.getfield 24, 5, 3) := by decide +kernel
theorem at_63_76 : mj_at 63 76 = some (.getfield 71, 7, 0) := by decide +kernel
theorem at_63_79 : mj_at 63 79 = some (.iload_n 2, 0, 0) := by decide +kernel
theorem at_63_80 : mj_at 63 80 = some (.isub, 0, 0) := by decide +kernel
theorem at_63_81 : mj_at 63 81 = some (.ireturn, 0, 0) := by decide +kernel
theorem at_64_0 : mj_at 64 0 = some (.iconst 0, 0, 0) := by decide +kernel
theorem at_64_1 : mj_at 64 1 = some (.istore_n 1, 0, 0) := by decide +kernel
theorem at_64_2 : mj_at 64 2 = some (.iload_n 1, 0, 0) := by decide +kernel
theorem at_64_3 : mj_at 64 3 = some (.aload_n 0, 0, 0) := by decide +kernel
theorem at_64_4 : mj_at 64 4 = some (.getfield 46, 5, 6) := by decide +kernel
theorem at_64_7 : mj_at 64 7 = some (.if_icmp .ge 52, 0, 0) := by decide +kernel
theorem at_64_10 : mj_at 64 10 = some (.aload_n 0, 0, 0) := by decide +kernel
theorem at_64_11 : mj_at 64 11 = some (.getfield 11, 5, 1) := by decide +kernel
theorem at_64_14 : mj_at 64 14 = some (.iload_n 1, 0, 0) := by decide +kernel
theorem at_64_15 : mj_at 64 15 = some (.aaload, 0, 0) := by decide +kernel
theorem at_64_16 : mj_at 64 16 = some (.aload_n 0, 0, 0) := by decide +kernel
theorem at_64_17 : mj_at 64 17 = some (.getfield 50, 5, 7) := by decide +kernel
theorem at_64_20 : mj_at 64 20 = some (.invokevirtual 97, 65, 1) := by decide +kernel
theorem at_64_23 : mj_at 64 23 = some (.ifCond .eq 30, 0, 0) := by decide +kernel
theorem at_64_26 : mj_at 64 26 = some (.aload_n 0, 0, 0) := by decide +kernel
theorem at_64_27 : mj_at 64 27 = some (.getfield 11, 5, 1) := by decide +kernel
theorem at_64_30 : mj_at 64 30 = some (.iload_n 1, 0, 0) := by decide +kernel
theorem at_64_31 : mj_at 64 31 = some (.aaload, 0, 0) := by decide +kernel
theorem at_64_32 : mj_at 64 32 = some (.aload_n 0, 0, 0) := by decide +kernel
theorem at_64_33 : mj_at 64 33 = some (.getfield 50, 5, 7) := by decide +kernel
theorem at_64_36 : mj_at 64 36 = some (.invokevirtual 101, 66, 1) := by decide +kernel
theorem at_64_39 : mj_at 64 39 = some (.aload_n 0, 0, 0) := by decide +kernel
theorem at_64_40 : mj_at 64 40 = some (.iload_n 1, 0, 0) := by decide +kernel
theorem at_64_41 : mj_at 64 41 = some (.aload_n 0, 0, 0) := by decide +kernel
theorem at_64_42 : mj_at 64 42 = some (.getfield 11, 5, 1) := by decide +kernel
theorem at_64_45 : mj_at 64 45 = some (.iload_n 1, 0, 0) := by decide +kernel
theorem at_64_46 : mj_at 64 46 = some (.aaload, 0, 0) := by decide +kernel
theorem at_64_47 : mj_at 64 47 = some (.getfield 104, 8, 1) := by decide +kernel
theorem at_64_50 : mj_at 64 50 = some (.invokevirtual 108, 67, 2) := by decide +kernel
theorem at_64_53 : mj_at 64 53 = some (.iinc 1 1, 0, 0) := by decide +kernel
theorem at_64_56 : mj_at 64 56 = some (.goto (-54), 0, 0) := by decide +kernel
theorem at_64_59 : mj_at 64 59 = some (.return_, 0, 0) := by decide +kernel
theorem at_65_0 : mj_at 65 0 = some (.iload_n 1, 0, 0) := by decide +kernel
theorem at_65_1 : mj_at 65 1 = some (.aload_n 0, 0, 0) := by decide +kernel
theorem at_65_2 : mj_at 65 2 = some (.getfield 55, 8, 4) := by decide +kernel
theorem at_65_5 : mj_at 65 5 = some (.if_icmp .lt 24, 0, 0) := by decide +kernel
theorem at_65_8 : mj_at 65 8 = some (.aload_n 0, 0, 0) := by decide +kernel
theorem at_65_9 : mj_at 65 9 = some (.getfield 15, 8, 0) := by decide +kernel
theorem at_65_12 : mj_at 65 12 = some (.invokevirtual 48, 56, 0) := by decide +kernel
theorem at_65_15 : mj_at 65 15 = some (.ifCond .ne 10, 0, 0) := by decide +kernel
theorem at_65_18 : mj_at 65 18 = some (.aload_n 0, 0, 0) := by decide +kernel
theorem at_65_19 : mj_at 65 19 = some (.getfield 58, 8, 5) := by decide +kernel
theorem at_65_22 : mj_at 65 22 = some (.ifCond .le 7, 0, 0) := by decide +kernel
theorem at_65_25 : mj_at 65 25 = some (.iconst 1, 0, 0) := by decide +kernel
theorem at_65_26 : mj_at 65 26 = some (.goto 4, 0, 0) := by decide +kernel
theorem at_65_29 : mj_at 65 29 = some (.iconst 0, 0, 0) := by decide +kernel
theorem at_65_30 : mj_at 65 30 = some (.ireturn, 0, 0) := by decide +kernel
theorem at_66_0 : mj_at 66 0 = some (.aload_n 0, 0, 0) := by decide +kernel
theorem at_66_1 : mj_at 66 1 = some (.iload_n 1, 0, 0) := by decide +kernel
theorem at_66_2 : mj_at 66 2 = some (.aload_n 0, 0, 0) := by decide +kernel
theorem at_66_3 : mj_at 66 3 = some (.getfield 15, 8, 0) := by decide +kernel
theorem at_66_6 : mj_at 66 6 = some (.getfield 61, 3, 1) := by decide +kernel
theorem at_66_9 : mj_at 66 9 = some (.iadd, 0, 0) := by decide +kernel
theorem at_66_10 : mj_at 66 10 = some (.putfield 55, 8, 4) := by decide +kernel
theorem at_66_13 : mj_at 66 13 = some (.aload_n 0, 0, 0) := by decide +kernel
theorem at_66_14 : mj_at 66 14 = some (.getfield 15, 8, 0) := by decide +kernel
theorem at_66_17 : mj_at 66 17 = some (.invokevirtual 48, 56, 0) := by decide +kernel
theorem at_66_20 : mj_at 66 20 = some (.ifCond .ne 13, 0, 0) := by decide +kernel
theorem at_66_23 : mj_at 66 23 = some (.aload_n 0, 0, 0) := by decide +kernel
theorem at_66_24 : mj_at 66 24 = some (.dup, 0, 0) := by decide +kernel
theorem at_66_25 : mj_at 66 25 = some (.getfield 58, 8, 5) := by decide +kernel
theorem at_66_28 : mj_at 66 28 = some (.iconst 1, 0, 0) := by decide +kernel
theorem at_66_29 : mj_at 66 29 = some (.isub, 0, 0) := by decide +kernel
theorem at_66_30 : mj_at 66 30 = some (.putfield 58, 8, 5) := by decide +kernel
theorem at_66_33 : mj_at 66 33 = some (.return_, 0, 0) := by decide +kernel
theorem at_67_0 : mj_at 67 0 = some (.aload_n 2, 0, 0) := by decide +kernel
theorem at_67_1 : mj_at 67 1 = some (.getfield 112, 6, 0) := by decide +kernel
theorem at_67_4 : mj_at 67 4 = some (.ifCond .eq 38, 0, 0) := by decide +kernel
theorem at_67_7 : mj_at 67 7 = some (.aload_n 0, 0, 0) := by decide +kernel
theorem at_67_8 : mj_at 67 8 = some (.dup, 0, 0) := by decide +kernel
theorem at_67_9 : mj_at 67 9 = some (.getfield 65, 5, 12) := by decide +kernel
theorem at_67_12 : mj_at 67 12 = some (.iconst 1, 0, 0) := by decide +kernel
theorem at_67_13 : mj_at 67 13 = some (.iadd, 0, 0) := by decide +kernel
theorem at_67_14 : mj_at 67 14 = some (.putfield 65, 5, 12) := by decide +kernel
theorem at_67_17 : mj_at 67 17 = some (.aload_n 0, 0, 0) := by decide +kernel
theorem at_67_18 : mj_at 67 18 = some (.getfield 24, 5, 3) := by decide +kernel
theorem at_67_21 : mj_at 67 21 = some (.iconst 4, 0, 0) := by decide +kernel
theorem at_67_22 : mj_at 67 22 = some (.iload_n 1, 0, 0) := by decide +kernel
theorem at_67_23 : mj_at 67 23 = some (.aload_n 0, 0, 0) := by decide +kernel
theorem at_67_24 : mj_at 67 24 = some (.getfield 50, 5, 7) := by decide +kernel
theorem at_67_27 : mj_at 67 27 = some (.aload_n 0, 0, 0) := by decide +kernel
theorem at_67_28 : mj_at 67 28 = some (.getfield 50, 5, 7) := by decide +kernel
theorem at_67_31 : mj_at 67 31 = some (.aload_n 2, 0, 0) := by decide +kernel
theorem at_67_32 : mj_at 67 32 = some (.getfield 117, 6, 5) := by decide +kernel
theorem at_67_35 : mj_at 67 35 = some (.isub, 0, 0) := by decide +kernel
theorem at_67_36 : mj_at 67 36 = some (.invokevirtual 120, 68, 4) := by decide +kernel
theorem at_67_39 : mj_at 67 39 = some (.goto 12, 0, 0) := by decide +kernel
theorem at_67_42 : mj_at 67 42 = some (.aload_n 2, 0, 0) := by decide +kernel
theorem at_67_43 : mj_at 67 43 = some (.iload_n 1, 0, 0) := by decide +kernel
theorem at_67_44 : mj_at 67 44 = some (.aload_n 0, 0, 0) := by decide +kernel
theorem at_67_45 : mj_at 67 45 = some (.getfield 50, 5, 7) := by decide +kernel
theorem at_67_48 : mj_at 67 48 = some (.invokevirtual 124, 69, 2) := by decide +kernel
theorem at_67_51 : mj_at 67 51 = some (.return_, 0, 0) := by decide +kernel
theorem at_68_0 : mj_at 68 0 = some (.aload_n 0, 0, 0) := by decide +kernel
theorem at_68_1 : mj_at 68 1 = some (.getfield 24, 7, 0) := by decide +kernel
theorem at_68_4 : mj_at 68 4 = some (.bipush 31, 0, 0) := by decide +kernel
theorem at_68_6 : mj_at 68 6 = some (.iand, 0, 0) := by decide +kernel
theorem at_68_7 : mj_at 68 7 = some (.istore 5, 0, 0) := by decide +kernel
theorem at_68_9 : mj_at 68 9 = some (.aload_n 0, 0, 0) := by decide +kernel
theorem at_68_10 : mj_at 68 10 = some (.getfield 9, 7, 1) := by decide +kernel
theorem at_68_13 : mj_at 68 13 = some (.iload 5, 0, 0) := by decide +kernel
theorem at_68_15 : mj_at 68 15 = some (.iload_n 1, 0, 0) := by decide +kernel
theorem at_68_16 : mj_at 68 16 = some (.iastore, 0, 0) := by decide +kernel
theorem at_68_17 : mj_at 68 17 = some (.aload_n 0, 0, 0) := by decide +kernel
theorem at_68_18 : mj_at 68 18 = some (.getfield 15, 7, 2) := by decide +kernel
theorem at_68_21 : mj_at 68 21 = some (.iload 5, 0, 0) := by decide +kernel
theorem at_68_23 : mj_at 68 23 = some (.iload_n 2, 0, 0) := by decide +kernel
theorem at_68_24 : mj_at 68 24 = some (.iastore, 0, 0) := by decide +kernel
theorem at_68_25 : mj_at 68 25 = some (.aload_n 0, 0, 0) := by decide +kernel
theorem at_68_26 : mj_at 68 26 = some (.getfield 18, 7, 3) := by decide +kernel
theorem at_68_29 : mj_at 68 29 = some (.iload 5, 0, 0) := by decide +kernel
theorem at_68_31 : mj_at 68 31 = some (.iload_n 3, 0, 0) := by decide +kernel
theorem at_68_32 : mj_at 68 32 = some (.iastore, 0, 0) := by decide +kernel
theorem at_68_33 : mj_at 68 33 = some (.aload_n 0, 0, 0) := by decide +kernel
theorem at_68_34 : mj_at 68 34 = some (.getfield 21, 7, 4) := by decide +kernel
theorem at_68_37 : mj_at 68 37 = some (.iload 5, 0, 0) := by decide +kernel
theorem at_68_39 : mj_at 68 39 = some (.iload 4, 0, 0) := by decide +kernel
theorem at_68_41 : mj_at 68 41 = some (.iastore, 0, 0) := by decide +kernel
theorem at_68_42 : mj_at 68 42 = some (.aload_n 0, 0, 0) := by decide +kernel
theorem at_68_43 : mj_at 68 43 = some (.dup, 0, 0) := by decide +kernel
theorem at_68_44 : mj_at 68 44 = some (.getfield 24, 7, 0) := by decide +kernel
theorem at_68_47 : mj_at 68 47 = some (.iconst 1, 0, 0) := by decide +kernel
theorem at_68_48 : mj_at 68 48 = some (.iadd, 0, 0) := by decide +kernel
theorem at_68_49 : mj_at 68 49 = some (.putfield 24, 7, 0) := by decide +kernel
theorem at_68_52 : mj_at 68 52 = some (.return_, 0, 0) := by decide +kernel
theorem at_69_0 : mj_at 69 0 = some (.aload_n 0, 0, 0) := by decide +kernel
theorem at_69_1 : mj_at 69 1 = some (.iconst 1, 0, 0) := by decide +kernel
theorem at_69_2 : mj_at 69 2 = some (.putfield 30, 6, 0) := by decide +kernel
theorem at_69_5 : mj_at 69 5 = some (.aload_n 0, 0, 0) := by decide +kernel
theorem at_69_6 : mj_at 69 6 = some (.iconst 0, 0, 0) := by decide +kernel
theorem at_69_7 : mj_at 69 7 = some (.putfield 34, 6, 1) := by decide +kernel
theorem at_69_10 : mj_at 69 10 = some (.aload_n 0, 0, 0) := by decide +kernel
theorem at_69_11 : mj_at 69 11 = some (.iconst 0, 0, 0) := by decide +kernel
theorem at_69_12 : mj_at 69 12 = some (.putfield 37, 6, 2) := by decide +kernel
theorem at_69_15 : mj_at 69 15 = some (.aload_n 0, 0, 0) := by decide +kernel
theorem at_69_16 : mj_at 69 16 = some (.iload_n 1, 0, 0) := by decide +kernel
theorem at_69_17 : mj_at 69 17 = some (.putfield 40, 6, 3) := by decide +kernel
theorem at_69_20 : mj_at 69 20 = some (.aload_n 0, 0, 0) := by decide +kernel
theorem at_69_21 : mj_at 69 21 = some (.iconst 0, 0, 0) := by decide +kernel
theorem at_69_22 : mj_at 69 22 = some (.putfield 44, 6, 4) := by decide +kernel
theorem at_69_25 : mj_at 69 25 = some (.aload_n 0, 0, 0) := by decide +kernel
theorem at_69_26 : mj_at 69 26 = some (.iload_n 2, 0, 0) := by decide +kernel
theorem at_69_27 : mj_at 69 27 = some (.putfield 47, 6, 5) := by decide +kernel
theorem at_69_30 : mj_at 69 30 = some (.aload_n 0, 0, 0) := by decide +kernel
theorem at_69_31 : mj_at 69 31 = some (.iconst 0, 0, 0) := by decide +kernel
theorem at_69_32 : mj_at 69 32 = some (.putfield 50, 6, 6) := by decide +kernel
theorem at_69_35 : mj_at 69 35 = some (.aload_n 0, 0, 0) := by decide +kernel
theorem at_69_36 : mj_at 69 36 = some (.iconst 0, 0, 0) := by decide +kernel
theorem at_69_37 : mj_at 69 37 = some (.putfield 53, 6, 7) := by decide +kernel
theorem at_69_40 : mj_at 69 40 = some (.aload_n 0, 0, 0) := by decide +kernel
theorem at_69_41 : mj_at 69 41 = some (.iconst 0, 0, 0) := by decide +kernel
theorem at_69_42 : mj_at 69 42 = some (.putfield 56, 6, 10) := by decide +kernel
theorem at_69_45 : mj_at 69 45 = some (.aload_n 0, 0, 0) := by decide +kernel
theorem at_69_46 : mj_at 69 46 = some (.iconst 0, 0, 0) := by decide +kernel
theorem at_69_47 : mj_at 69 47 = some (.putfield 59, 6, 11) := by decide +kernel
theorem at_69_50 : mj_at 69 50 = some (.aload_n 0, 0, 0) := by decide +kernel
theorem at_69_51 : mj_at 69 51 = some (.iconst 0, 0, 0) := by decide +kernel
theorem at_69_52 : mj_at 69 52 = some (.putfield 62, 6, 12) := by decide +kernel
theorem at_69_55 : mj_at 69 55 = some (.aload_n 0, 0, 0) := by decide +kernel
theorem at_69_56 : mj_at 69 56 = some (.getfield 9, 6, 8) := by decide +kernel
theorem at_69_59 : mj_at 69 59 = some (.iconst 0, 0, 0) := by decide +kernel
theorem at_69_60 : mj_at 69 60 = some (.invokestatic 65, 36, 2) := by decide +kernel
theorem at_69_63 : mj_at 69 63 = some (.return_, 0, 0) := by decide +kernel
theorem at_70_0 : mj_at 70 0 = some (.iconst (-1), 0, 0) := by decide +kernel
theorem at_70_1 : mj_at 70 1 = some (.istore_n 1, 0, 0) := by decide +kernel
theorem at_70_2 : mj_at 70 2 = some (.iconst 0, 0, 0) := by decide +kernel
theorem at_70_3 : mj_at 70 3 = some (.istore_n 2, 0, 0) := by decide +kernel
theorem at_70_4 : mj_at 70 4 = some (.iload_n 2, 0, 0) := by decide +kernel
theorem at_70_5 : mj_at 70 5 = some (.aload_n 0, 0, 0) := by decide +kernel
theorem at_70_6 : mj_at 70 6 = some (.getfield 46, 5, 6) := by decide +kernel
theorem at_70_9 : mj_at 70 9 = some (.if_icmp .ge 49, 0, 0) := by decide +kernel
theorem at_70_12 : mj_at 70 12 = some (.aload_n 0, 0, 0) := by decide +kernel
theorem at_70_13 : mj_at 70 13 = some (.getfield 11, 5, 1) := by decide +kernel
theorem at_70_16 : mj_at 70 16 = some (.iload_n 2, 0, 0) := by decide +kernel
theorem at_70_17 : mj_at 70 17 = some (.aaload, 0, 0) := by decide +kernel
theorem at_70_18 : mj_at 70 18 = some (.getfield 104, 8, 1) := by decide +kernel
theorem at_70_21 : mj_at 70 21 = some (.astore_n 3, 0, 0) := by decide +kernel
theorem at_70_22 : mj_at 70 22 = some (.aload_n 3, 0, 0) := by decide +kernel
theorem at_70_23 : mj_at 70 23 = some (.getfield 112, 6, 0) := by decide +kernel
theorem at_70_26 : mj_at 70 26 = some (.ifCond .eq 26, 0, 0) := by decide +kernel
theorem at_70_29 : mj_at 70 29 = some (.iload_n 1, 0, 0) := by decide +kernel
theorem at_70_30 : mj_at 70 30 = some (.iconst (-1), 0, 0) := by decide +kernel
theorem at_70_31 : mj_at 70 31 = some (.if_icmp .eq 19, 0, 0) := by decide +kernel
theorem at_70_34 : mj_at 70 34 = some (.aload_n 3, 0, 0) := by decide +kernel
theorem at_70_35 : mj_at 70 35 = some (.aload_n 0, 0, 0) := by decide +kernel
theorem at_70_36 : mj_at 70 36 = some (.getfield 11, 5, 1) := by decide +kernel
theorem at_70_39 : mj_at 70 39 = some (.iload_n 1, 0, 0) := by decide +kernel
theorem at_70_40 : mj_at 70 40 = some (.aaload, 0, 0) := by decide +kernel
theorem at_70_41 : mj_at 70 41 = some (.getfield 104, 8, 1) := by decide +kernel
theorem at_70_44 : mj_at 70 44 = some (.invokevirtual 128, 71, 1) := by decide +kernel
theorem at_70_47 : mj_at 70 47 = some (.ifCond .eq 5, 0, 0) := by decide +kernel
theorem at_70_50 : mj_at 70 50 = some (.iload_n 2, 0, 0) := by decide +kernel
theorem at_70_51 : mj_at 70 51 = some (.istore_n 1, 0, 0) := by decide +kernel
theorem at_70_52 : mj_at 70 52 = some (.iinc 2 1, 0, 0) := by decide +kernel
theorem at_70_55 : mj_at 70 55 = some (.goto (-51), 0, 0) := by decide +kernel
theorem at_70_58 : mj_at 70 58 = some (.iload_n 1, 0, 0) := by decide +kernel
theorem at_70_59 : mj_at 70 59 = some (.ireturn, 0, 0) := by decide +kernel
theorem at_71_0 : mj_at 71 0 = some (.aload_n 0, 0, 0) := by decide +kernel
theorem at_71_1 : mj_at 71 1 = some (.getfield 40, 6, 3) := by decide +kernel
theorem at_71_4 : mj_at 71 4 = some (.aload_n 1, 0, 0) := by decide +kernel
theorem at_71_5 : mj_at 71 5 = some (.getfield 40, 6, 3) := by decide +kernel
theorem at_71_8 : mj_at 71 8 = some (.if_icmp .lt 28, 0, 0) := by decide +kernel
theorem at_71_11 : mj_at 71 11 = some (.aload_n 0, 0, 0) := by decide +kernel
theorem at_71_12 : mj_at 71 12 = some (.getfield 40, 6, 3) := by decide +kernel
theorem at_71_15 : mj_at 71 15 = some (.aload_n 1, 0, 0) := by decide +kernel
theorem at_71_16 : mj_at 71 16 = some (.getfield 40, 6, 3) := by decide +kernel
theorem at_71_19 : mj_at 71 19 = some (.if_icmp .ne 21, 0, 0) := by decide +kernel
theorem at_71_22 : mj_at 71 22 = some (.aload_n 0, 0, 0) := by decide +kernel
theorem at_71_23 : mj_at 71 23 = some (.getfield 34, 6, 1) := by decide +kernel
theorem at_71_26 : mj_at 71 26 = some (.ifCond .eq 14, 0, 0) := by decide +kernel
theorem at_71_29 : mj_at 71 29 = some (.aload_n 1, 0, 0) := by decide +kernel
theorem at_71_30 : mj_at 71 30 = some (.getfield 34, 6, 1) := by decide +kernel
theorem at_71_33 : mj_at 71 33 = some (.ifCond .ne 7, 0, 0) := by decide +kernel
theorem at_71_36 : mj_at 71 36 = some (.iconst 1, 0, 0) := by decide +kernel
theorem at_71_37 : mj_at 71 37 = some (.goto 4, 0, 0) := by decide +kernel
theorem at_71_40 : mj_at 71 40 = some (.iconst 0, 0, 0) := by decide +kernel
theorem at_71_41 : mj_at 71 41 = some (.ireturn, 0, 0) := by decide +kernel
theorem at_72_0 : mj_at 72 0 = some (.aload_n 0, 0, 0) := by decide +kernel
theorem at_72_1 : mj_at 72 1 = some (.getfield 11, 5, 1) := by decide +kernel
theorem at_72_4 : mj_at 72 4 = some (.iload_n 1, 0, 0) := by decide +kernel
theorem at_72_5 : mj_at 72 5 = some (.aaload, 0, 0) := by decide +kernel
theorem at_72_6 : mj_at 72 6 = some (.getfield 104, 8, 1) := by decide +kernel
theorem at_72_9 : mj_at 72 9 = some (.astore_n 2, 0, 0) := by decide +kernel
theorem at_72_10 : mj_at 72 10 = some (.aload_n 0, 0, 0) := by decide +kernel
theorem at_72_11 : mj_at 72 11 = some (.getfield 53, 5, 8) := by decide +kernel
theorem at_72_14 : mj_at 72 14 = some (.iload_n 1, 0, 0) := by decide +kernel
theorem at_72_15 : mj_at 72 15 = some (.if_icmp .eq 28, 0, 0) := by decide +kernel
theorem at_72_18 : mj_at 72 18 = some (.aload_n 0, 0, 0) := by decide +kernel
theorem at_72_19 : mj_at 72 19 = some (.iload_n 1, 0, 0) := by decide +kernel
theorem at_72_20 : mj_at 72 20 = some (.putfield 53, 5, 8) := by decide +kernel
theorem at_72_23 : mj_at 72 23 = some (.aload_n 0, 0, 0) := by decide +kernel
theorem at_72_24 : mj_at 72 24 = some (.dup, 0, 0) := by decide +kernel
theorem at_72_25 : mj_at 72 25 = some (.getfield 59, 5, 10) := by decide +kernel
theorem at_72_28 : mj_at 72 28 = some (.iconst 1, 0, 0) := by decide +kernel
theorem at_72_29 : mj_at 72 29 = some (.iadd, 0, 0) := by decide +kernel
theorem at_72_30 : mj_at 72 30 = some (.putfield 59, 5, 10) := by decide +kernel
theorem at_72_33 : mj_at 72 33 = some (.aload_n 2, 0, 0) := by decide +kernel
theorem at_72_34 : mj_at 72 34 = some (.iconst 1, 0, 0) := by decide +kernel
theorem at_72_35 : mj_at 72 35 = some (.putfield 132, 6, 1) := by decide +kernel
theorem at_72_38 : mj_at 72 38 = some (.aload_n 2, 0, 0) := by decide +kernel
theorem at_72_39 : mj_at 72 39 = some (.iconst 2, 0, 0) := by decide +kernel
theorem at_72_40 : mj_at 72 40 = some (.putfield 135, 6, 7) := by decide +kernel
theorem at_72_43 : mj_at 72 43 = some (.aload_n 2, 0, 0) := by decide +kernel
theorem at_72_44 : mj_at 72 44 = some (.getfield 135, 6, 7) := by decide +kernel
theorem at_72_47 : mj_at 72 47 = some (.ifCond .le 16, 0, 0) := by decide +kernel
theorem at_72_50 : mj_at 72 50 = some (.aload_n 2, 0, 0) := by decide +kernel
theorem at_72_51 : mj_at 72 51 = some (.dup, 0, 0) := by decide +kernel
theorem at_72_52 : mj_at 72 52 = some (.getfield 135, 6, 7) := by decide +kernel
theorem at_72_55 : mj_at 72 55 = some (.iconst 1, 0, 0) := by decide +kernel
theorem at_72_56 : mj_at 72 56 = some (.isub, 0, 0) := by decide +kernel
theorem at_72_57 : mj_at 72 57 = some (.putfield 135, 6, 7) := by decide +kernel
theorem at_72_60 : mj_at 72 60 = some (.goto 16, 0, 0) := by decide +kernel
theorem at_72_63 : mj_at 72 63 = some (.aload_n 2, 0, 0) := by decide +kernel
theorem at_72_64 : mj_at 72 64 = some (.invokevirtual 138, 73, 0) := by decide +kernel
theorem at_72_67 : mj_at 72 67 = some (.ifCond .eq 9, 0, 0) := by decide +kernel
theorem at_72_70 : mj_at 72 70 = some (.aload_n 0, 0, 0) := by decide +kernel
theorem at_72_71 : mj_at 72 71 = some (.iload_n 1, 0, 0) := by decide +kernel
theorem at_72_72 : mj_at 72 72 = some (.aload_n 2, 0, 0) := by decide +kernel
theorem at_72_73 : mj_at 72 73 = some (.invokevirtual 142, 74, 2) := by decide +kernel
theorem at_72_76 : mj_at 72 76 = some (.return_, 0, 0) := by decide +kernel
theorem at_73_0 : mj_at 73 0 = some (.aload_n 0, 0, 0) := by decide +kernel
theorem at_73_1 : mj_at 73 1 = some (.dup, 0, 0) := by decide +kernel
theorem at_73_2 : mj_at 73 2 = some (.getfield 62, 6, 12) := by decide +kernel
theorem at_73_5 : mj_at 73 5 = some (.iconst 1, 0, 0) := by decide +kernel
theorem at_73_6 : mj_at 73 6 = some (.iadd, 0, 0) := by decide +kernel
theorem at_73_7 : mj_at 73 7 = some (.putfield 62, 6, 12) := by decide +kernel
theorem at_73_10 : mj_at 73 10 = some (.aload_n 0, 0, 0) := by decide +kernel
theorem at_73_11 : mj_at 73 11 = some (.getfield 62, 6, 12) := by decide +kernel
theorem at_73_14 : mj_at 73 14 = some (.getstatic 71, 1, 0) := by decide +kernel
theorem at_73_17 : mj_at 73 17 = some (.aload_n 0, 0, 0) := by decide +kernel
theorem at_73_18 : mj_at 73 18 = some (.getfield 26, 6, 9) := by decide +kernel
theorem at_73_21 : mj_at 73 21 = some (.aload_n 0, 0, 0) := by decide +kernel
theorem at_73_22 : mj_at 73 22 = some (.getfield 56, 6, 10) := by decide +kernel
theorem at_73_25 : mj_at 73 25 = some (.aaload, 0, 0) := by decide +kernel
theorem at_73_26 : mj_at 73 26 = some (.getfield 74, 4, 0) := by decide +kernel
theorem at_73_29 : mj_at 73 29 = some (.aload_n 0, 0, 0) := by decide +kernel
theorem at_73_30 : mj_at 73 30 = some (.getfield 59, 6, 11) := by decide +kernel
theorem at_73_33 : mj_at 73 33 = some (.iaload, 0, 0) := by decide +kernel
theorem at_73_34 : mj_at 73 34 = some (.iaload, 0, 0) := by decide +kernel
theorem at_73_35 : mj_at 73 35 = some (.if_icmp .lt 7, 0, 0) := by decide +kernel
theorem at_73_38 : mj_at 73 38 = some (.iconst 1, 0, 0) := by decide +kernel
theorem at_73_39 : mj_at 73 39 = some (.goto 4, 0, 0) := by decide +kernel
theorem at_73_42 : mj_at 73 42 = some (.iconst 0, 0, 0) := by decide +kernel
theorem at_73_43 : mj_at 73 43 = some (.ireturn, 0, 0) := by decide +kernel
theorem at_74_0 : mj_at 74 0 = some (.aload_n 0, 0, 0) := by decide +kernel
theorem at_74_1 : mj_at 74 1 = some (.iload_n 1, 0, 0) := by decide +kernel
theorem at_74_2 : mj_at 74 2 = some (.aload_n 2, 0, 0) := by decide +kernel
theorem at_74_3 : mj_at 74 3 = some (.invokevirtual 145, 75, 2) := by decide +kernel
theorem at_74_6 : mj_at 74 6 = some (.aload_n 2, 0, 0) := by decide +kernel
theorem at_74_7 : mj_at 74 7 = some (.getfield 148, 6, 2) := by decide +kernel
theorem at_74_10 : mj_at 74 10 = some (.ifCond .eq 12, 0, 0) := by decide +kernel
theorem at_74_13 : mj_at 74 13 = some (.aload_n 0, 0, 0) := by decide +kernel
theorem at_74_14 : mj_at 74 14 = some (.iload_n 1, 0, 0) := by decide +kernel
theorem at_74_15 : mj_at 74 15 = some (.iconst 3, 0, 0) := by decide +kernel
theorem at_74_16 : mj_at 74 16 = some (.invokevirtual 151, 89, 2) := by decide +kernel
theorem at_74_19 : mj_at 74 19 = some (.goto 16, 0, 0) := by decide +kernel
theorem at_74_22 : mj_at 74 22 = some (.aload_n 2, 0, 0) := by decide +kernel
theorem at_74_23 : mj_at 74 23 = some (.invokevirtual 154, 90, 0) := by decide +kernel
theorem at_74_26 : mj_at 74 26 = some (.ifCond .eq 9, 0, 0) := by decide +kernel
theorem at_74_29 : mj_at 74 29 = some (.aload_n 0, 0, 0) := by decide +kernel
theorem at_74_30 : mj_at 74 30 = some (.iload_n 1, 0, 0) := by decide +kernel
theorem at_74_31 : mj_at 74 31 = some (.iconst 2, 0, 0) := by decide +kernel
theorem at_74_32 : mj_at 74 32 = some (.invokevirtual 151, 89, 2) := by decide +kernel
theorem at_74_35 : mj_at 74 35 = some (.return_, 0, 0) := by decide +kernel
theorem at_75_0 : mj_at 75 0 = some (.aload_n 2, 0, 0) := by decide +kernel
theorem at_75_1 : mj_at 75 1 = some (.invokevirtual 157, 76, 0) := by decide +kernel
theorem at_75_4 : mj_at 75 4 = some (.astore_n 3, 0, 0) := by decide +kernel
theorem at_75_5 : mj_at 75 5 = some (.aload_n 2, 0, 0) := by decide +kernel
theorem at_75_6 : mj_at 75 6 = some (.invokevirtual 161, 77, 0) := by decide +kernel
theorem at_75_9 : mj_at 75 9 = some (.istore 4, 0, 0) := by decide +kernel
theorem at_75_11 : mj_at 75 11 = some (.aload_n 3, 0, 0) := by decide +kernel
theorem at_75_12 : mj_at 75 12 = some (.getfield 164, 4, 1) := by decide +kernel
theorem at_75_15 : mj_at 75 15 = some (.iload 4, 0, 0) := by decide +kernel
theorem at_75_17 : mj_at 75 17 = some (.iaload, 0, 0) := by decide +kernel
theorem at_75_18 : mj_at 75 18 = some (.istore 5, 0, 0) := by decide +kernel
theorem at_75_20 : mj_at 75 20 = some (.aload_n 3, 0, 0) := by decide +kernel
theorem at_75_21 : mj_at 75 21 = some (.getfield 169, 4, 2) := by decide +kernel
theorem at_75_24 : mj_at 75 24 = some (.iload 4, 0, 0) := by decide +kernel
theorem at_75_26 : mj_at 75 26 = some (.iaload, 0, 0) := by decide +kernel
theorem at_75_27 : mj_at 75 27 = some (.istore 6, 0, 0) := by decide +kernel
theorem at_75_29 : mj_at 75 29 = some (.aload_n 2, 0, 0) := by decide +kernel
theorem at_75_30 : mj_at 75 30 = some (.invokevirtual 172, 78, 0) := by decide +kernel
theorem at_75_33 : mj_at 75 33 = some (.aload_n 3, 0, 0) := by decide +kernel
theorem at_75_34 : mj_at 75 34 = some (.getfield 175, 4, 0) := by decide +kernel
theorem at_75_37 : mj_at 75 37 = some (.iload 4, 0, 0) := by decide +kernel
theorem at_75_39 : mj_at 75 39 = some (.iaload, 0, 0) := by decide +kernel
theorem at_75_40 : mj_at 75 40 = some (.tableswitch 243 3 14 #[64, 86, 243, 243, 243, 108, 126, 243, 150, 167, 190, 224], 0, 0) := by decide +kernel
theorem at_75_104 : mj_at 75 104 = some (.aload_n 2, 0, 0) := by decide +kernel
theorem at_75_105 : mj_at 75 105 = some (.getfield 178, 6, 8) := by decide +kernel
theorem at_75_108 : mj_at 75 108 = some (.iload 5, 0, 0) := by decide +kernel
theorem at_75_110 : mj_at 75 110 = some (.aload_n 0, 0, 0) := by decide +kernel
theorem at_75_111 : mj_at 75 111 = some (.getfield 11, 5, 1) := by decide +kernel
theorem at_75_114 : mj_at 75 114 = some (.iload_n 1, 0, 0) := by decide +kernel
theorem at_75_115 : mj_at 75 115 = some (.aaload, 0, 0) := by decide +kernel
theorem at_75_116 : mj_at 75 116 = some (.getfield 181, 8, 2) := by decide +kernel
theorem at_75_119 : mj_at 75 119 = some (.iload 6, 0, 0) := by decide +kernel
theorem at_75_121 : mj_at 75 121 = some (.iaload, 0, 0) := by decide +kernel
theorem at_75_122 : mj_at 75 122 = some (.iastore, 0, 0) := by decide +kernel
theorem at_75_123 : mj_at 75 123 = some (.goto 177, 0, 0) := by decide +kernel
theorem at_75_126 : mj_at 75 126 = some (.aload_n 0, 0, 0) := by decide +kernel
theorem at_75_127 : mj_at 75 127 = some (.getfield 11, 5, 1) := by decide +kernel
theorem at_75_130 : mj_at 75 130 = some (.iload_n 1, 0, 0) := by decide +kernel
theorem at_75_131 : mj_at 75 131 = some (.aaload, 0, 0) := by decide +kernel
theorem at_75_132 : mj_at 75 132 = some (.getfield 181, 8, 2) := by decide +kernel
theorem at_75_135 : mj_at 75 135 = some (.iload 6, 0, 0) := by decide +kernel
theorem at_75_137 : mj_at 75 137 = some (.aload_n 2, 0, 0) := by decide +kernel
theorem at_75_138 : mj_at 75 138 = some (.getfield 178, 6, 8) := by decide +kernel
theorem at_75_141 : mj_at 75 141 = some (.iload 5, 0, 0) := by decide +kernel
theorem at_75_143 : mj_at 75 143 = some (.iaload, 0, 0) := by decide +kernel
theorem at_75_144 : mj_at 75 144 = some (.iastore, 0, 0) := by decide +kernel
theorem at_75_145 : mj_at 75 145 = some (.goto 155, 0, 0) := by decide +kernel
theorem at_75_148 : mj_at 75 148 = some (.aload_n 0, 0, 0) := by decide +kernel
theorem at_75_149 : mj_at 75 149 = some (.iload_n 1, 0, 0) := by decide +kernel
theorem at_75_150 : mj_at 75 150 = some (.aload_n 2, 0, 0) := by decide +kernel
theorem at_75_151 : mj_at 75 151 = some (.aload_n 2, 0, 0) := by decide +kernel
theorem at_75_152 : mj_at 75 152 = some (.getfield 184, 6, 4) := by decide +kernel
theorem at_75_155 : mj_at 75 155 = some (.iconst 1, 0, 0) := by decide +kernel
theorem at_75_156 : mj_at 75 156 = some (.iload 6, 0, 0) := by decide +kernel
theorem at_75_158 : mj_at 75 158 = some (.ishl, 0, 0) := by decide +kernel
theorem at_75_159 : mj_at 75 159 = some (.ior, 0, 0) := by decide +kernel
theorem at_75_160 : mj_at 75 160 = some (.invokevirtual 187, 79, 3) := by decide +kernel
theorem at_75_163 : mj_at 75 163 = some (.goto 137, 0, 0) := by decide +kernel
theorem at_75_166 : mj_at 75 166 = some (.aload_n 0, 0, 0) := by decide +kernel
theorem at_75_167 : mj_at 75 167 = some (.iload_n 1, 0, 0) := by decide +kernel
theorem at_75_168 : mj_at 75 168 = some (.aload_n 2, 0, 0) := by decide +kernel
theorem at_75_169 : mj_at 75 169 = some (.aload_n 2, 0, 0) := by decide +kernel
theorem at_75_170 : mj_at 75 170 = some (.getfield 184, 6, 4) := by decide +kernel
theorem at_75_173 : mj_at 75 173 = some (.iconst 1, 0, 0) := by decide +kernel
theorem at_75_174 : mj_at 75 174 = some (.aload_n 3, 0, 0) := by decide +kernel
theorem at_75_175 : mj_at 75 175 = some (.iload 4, 0, 0) := by decide +kernel
theorem at_75_177 : mj_at 75 177 = some (.invokevirtual 191, 31, 1) := by decide +kernel
theorem at_75_180 : mj_at 75 180 = some (.ishl, 0, 0) := by decide +kernel
theorem at_75_181 : mj_at 75 181 = some (.iconst (-1), 0, 0) := by decide +kernel
theorem at_75_182 : mj_at 75 182 = some (.ixor, 0, 0) := by decide +kernel
theorem at_75_183 : mj_at 75 183 = some (.iand, 0, 0) := by decide +kernel
theorem at_75_184 : mj_at 75 184 = some (.invokevirtual 187, 79, 3) := by decide +kernel
theorem at_75_187 : mj_at 75 187 = some (.goto 113, 0, 0) := by decide +kernel
theorem at_75_190 : mj_at 75 190 = some (.aload_n 2, 0, 0) := by decide +kernel
theorem at_75_191 : mj_at 75 191 = some (.getfield 178, 6, 8) := by decide +kernel
theorem at_75_194 : mj_at 75 194 = some (.iload 5, 0, 0) := by decide +kernel
theorem at_75_196 : mj_at 75 196 = some (.aload_n 0, 0, 0) := by decide +kernel
theorem at_75_197 : mj_at 75 197 = some (.getfield 17, 5, 2) := by decide +kernel
theorem at_75_200 : mj_at 75 200 = some (.iload 6, 0, 0) := by decide +kernel
theorem at_75_202 : mj_at 75 202 = some (.iaload, 0, 0) := by decide +kernel
theorem at_75_203 : mj_at 75 203 = some (.iastore, 0, 0) := by decide +kernel
theorem at_75_204 : mj_at 75 204 = some (.goto 96, 0, 0) := by decide +kernel
theorem at_75_207 : mj_at 75 207 = some (.aload_n 0, 0, 0) := by decide +kernel
theorem at_75_208 : mj_at 75 208 = some (.getfield 24, 5, 3) := by decide +kernel
theorem at_75_211 : mj_at 75 211 = some (.iconst 1, 0, 0) := by decide +kernel
theorem at_75_212 : mj_at 75 212 = some (.iload_n 1, 0, 0) := by decide +kernel
theorem at_75_213 : mj_at 75 213 = some (.aload_n 0, 0, 0) := by decide +kernel
theorem at_75_214 : mj_at 75 214 = some (.getfield 50, 5, 7) := by decide +kernel
theorem at_75_217 : mj_at 75 217 = some (.aload_n 2, 0, 0) := by decide +kernel
theorem at_75_218 : mj_at 75 218 = some (.getfield 178, 6, 8) := by decide +kernel
theorem at_75_221 : mj_at 75 221 = some (.iload 5, 0, 0) := by decide +kernel
theorem at_75_223 : mj_at 75 223 = some (.iaload, 0, 0) := by decide +kernel
theorem at_75_224 : mj_at 75 224 = some (.invokevirtual 120, 68, 4) := by decide +kernel
theorem at_75_227 : mj_at 75 227 = some (.goto 73, 0, 0) := by decide +kernel
theorem at_75_230 : mj_at 75 230 = some (.aload_n 2, 0, 0) := by decide +kernel
theorem at_75_231 : mj_at 75 231 = some (.getfield 178, 6, 8) := by decide +kernel
theorem at_75_234 : mj_at 75 234 = some (.iconst 0, 0, 0) := by decide +kernel
theorem at_75_235 : mj_at 75 235 = some (.aload_n 0, 0, 0) := by decide +kernel
theorem at_75_236 : mj_at 75 236 = some (.getfield 30, 5, 5) := by decide +kernel
theorem at_75_239 : mj_at 75 239 = some (.iload 6, 0, 0) := by decide +kernel
theorem at_75_241 : mj_at 75 241 = some (.aaload, 0, 0) := by decide +kernel
theorem at_75_242 : mj_at 75 242 = some (.aload_n 2, 0, 0) := by decide +kernel
theorem at_75_243 : mj_at 75 243 = some (.getfield 178, 6, 8) := by decide +kernel
theorem at_75_246 : mj_at 75 246 = some (.iload 5, 0, 0) := by decide +kernel
theorem at_75_248 : mj_at 75 248 = some (.iaload, 0, 0) := by decide +kernel
theorem at_75_249 : mj_at 75 249 = some (.invokevirtual 195, 81, 1) := by decide +kernel
theorem at_75_252 : mj_at 75 252 = some (.ifCond .eq 7, 0, 0) := by decide +kernel
theorem at_75_255 : mj_at 75 255 = some (.iconst 1, 0, 0) := by decide +kernel
theorem at_75_256 : mj_at 75 256 = some (.goto 4, 0, 0) := by decide +kernel
theorem at_75_259 : mj_at 75 259 = some (.iconst 0, 0, 0) := by decide +kernel
theorem at_75_260 : mj_at 75 260 = some (.iastore, 0, 0) := by decide +kernel
theorem at_75_261 : mj_at 75 261 = some (.goto 39, 0, 0) := by decide +kernel
theorem at_75_264 : mj_at 75 264 = some (.aload_n 0, 0, 0) := by decide +kernel
theorem at_75_265 : mj_at 75 265 = some (.getfield 30, 5, 5) := by decide +kernel
theorem at_75_268 : mj_at 75 268 = some (.iload 6, 0, 0) := by decide +kernel
theorem at_75_270 : mj_at 75 270 = some (.aaload, 0, 0) := by decide +kernel
theorem at_75_271 : mj_at 75 271 = some (.aload_n 2, 0, 0) := by decide +kernel
theorem at_75_272 : mj_at 75 272 = some (.getfield 178, 6, 8) := by decide +kernel
theorem at_75_275 : mj_at 75 275 = some (.iload 5, 0, 0) := by decide +kernel
theorem at_75_277 : mj_at 75 277 = some (.invokestatic 198, 82, 3) := by decide +kernel
theorem at_75_280 : mj_at 75 280 = some (.goto 20, 0, 0) := by decide +kernel
theorem at_75_283 : mj_at 75 283 = some (.aload_n 2, 0, 0) := by decide +kernel
theorem at_75_284 : mj_at 75 284 = some (.aload_n 3, 0, 0) := by decide +kernel
theorem at_75_285 : mj_at 75 285 = some (.getfield 175, 4, 0) := by decide +kernel
theorem at_75_288 : mj_at 75 288 = some (.iload 4, 0, 0) := by decide +kernel
theorem at_75_290 : mj_at 75 290 = some (.iaload, 0, 0) := by decide +kernel
theorem at_75_291 : mj_at 75 291 = some (.iload 5, 0, 0) := by decide +kernel
theorem at_75_293 : mj_at 75 293 = some (.iload 6, 0, 0) := by decide +kernel
theorem at_75_295 : mj_at 75 295 = some (.iload 4, 0, 0) := by decide +kernel
theorem at_75_297 : mj_at 75 297 = some (.invokevirtual 202, 85, 4) := by decide +kernel
theorem at_75_300 : mj_at 75 300 = some (.return_, 0, 0) := by decide +kernel
theorem at_76_0 : mj_at 76 0 = some (.aload_n 0, 0, 0) := by decide +kernel
theorem at_76_1 : mj_at 76 1 = some (.getfield 26, 6, 9) := by decide +kernel
theorem at_76_4 : mj_at 76 4 = some (.aload_n 0, 0, 0) := by decide +kernel
theorem at_76_5 : mj_at 76 5 = some (.getfield 56, 6, 10) := by decide +kernel
theorem at_76_8 : mj_at 76 8 = some (.aaload, 0, 0) := by decide +kernel
theorem at_76_9 : mj_at 76 9 = some (.areturn, 0, 0) := by decide +kernel
theorem at_77_0 : mj_at 77 0 = some (.aload_n 0, 0, 0) := by decide +kernel
theorem at_77_1 : mj_at 77 1 = some (.getfield 59, 6, 11) := by decide +kernel
theorem at_77_4 : mj_at 77 4 = some (.ireturn, 0, 0) := by decide +kernel
theorem at_78_0 : mj_at 78 0 = some (.aload_n 0, 0, 0) := by decide +kernel
theorem at_78_1 : mj_at 78 1 = some (.iconst 0, 0, 0) := by decide +kernel
theorem at_78_2 : mj_at 78 2 = some (.putfield 62, 6, 12) := by decide +kernel
theorem at_78_5 : mj_at 78 5 = some (.aload_n 0, 0, 0) := by decide +kernel
theorem at_78_6 : mj_at 78 6 = some (.dup, 0, 0) := by decide +kernel
theorem at_78_7 : mj_at 78 7 = some (.getfield 50, 6, 6) := by decide +kernel
theorem at_78_10 : mj_at 78 10 = some (.iconst 1, 0, 0) := by decide +kernel
theorem at_78_11 : mj_at 78 11 = some (.iadd, 0, 0) := by decide +kernel
theorem at_78_12 : mj_at 78 12 = some (.putfield 50, 6, 6) := by decide +kernel
theorem at_78_15 : mj_at 78 15 = some (.aload_n 0, 0, 0) := by decide +kernel
theorem at_78_16 : mj_at 78 16 = some (.dup, 0, 0) := by decide +kernel
theorem at_78_17 : mj_at 78 17 = some (.getfield 59, 6, 11) := by decide +kernel
theorem at_78_20 : mj_at 78 20 = some (.iconst 1, 0, 0) := by decide +kernel
theorem at_78_21 : mj_at 78 21 = some (.iadd, 0, 0) := by decide +kernel
theorem at_78_22 : mj_at 78 22 = some (.putfield 59, 6, 11) := by decide +kernel
theorem at_78_25 : mj_at 78 25 = some (.return_, 0, 0) := by decide +kernel
theorem at_79_0 : mj_at 79 0 = some (.aload_n 2, 0, 0) := by decide +kernel
theorem at_79_1 : mj_at 79 1 = some (.iload_n 3, 0, 0) := by decide +kernel
theorem at_79_2 : mj_at 79 2 = some (.putfield 184, 6, 4) := by decide +kernel
theorem at_79_5 : mj_at 79 5 = some (.aload_n 2, 0, 0) := by decide +kernel
theorem at_79_6 : mj_at 79 6 = some (.aload_n 0, 0, 0) := by decide +kernel
theorem at_79_7 : mj_at 79 7 = some (.getfield 34, 5, 4) := by decide +kernel
theorem at_79_10 : mj_at 79 10 = some (.iload_n 1, 0, 0) := by decide +kernel
theorem at_79_11 : mj_at 79 11 = some (.iload_n 3, 0, 0) := by decide +kernel
theorem at_79_12 : mj_at 79 12 = some (.invokevirtual 205, 80, 2) := by decide +kernel
theorem at_79_15 : mj_at 79 15 = some (.putfield 211, 6, 3) := by decide +kernel
theorem at_79_18 : mj_at 79 18 = some (.return_, 0, 0) := by decide +kernel
theorem at_80_0 : mj_at 80 0 = some (.iload_n 1, 0, 0) := by decide +kernel
theorem at_80_1 : mj_at 80 1 = some (.istore_n 3, 0, 0) := by decide +kernel
theorem at_80_2 : mj_at 80 2 = some (.iconst 0, 0, 0) := by decide +kernel
theorem at_80_3 : mj_at 80 3 = some (.istore 4, 0, 0) := by decide +kernel
theorem at_80_5 : mj_at 80 5 = some (.iload 4, 0, 0) := by decide +kernel
theorem at_80_7 : mj_at 80 7 = some (.iconst 4, 0, 0) := by decide +kernel
theorem at_80_8 : mj_at 80 8 = some (.if_icmp .ge 41, 0, 0) := by decide +kernel
theorem at_80_11 : mj_at 80 11 = some (.iload_n 2, 0, 0) := by decide +kernel
theorem at_80_12 : mj_at 80 12 = some (.iconst 1, 0, 0) := by decide +kernel
theorem at_80_13 : mj_at 80 13 = some (.iload 4, 0, 0) := by decide +kernel
theorem at_80_15 : mj_at 80 15 = some (.ishl, 0, 0) := by decide +kernel
theorem at_80_16 : mj_at 80 16 = some (.iand, 0, 0) := by decide +kernel
theorem at_80_17 : mj_at 80 17 = some (.ifCond .eq 26, 0, 0) := by decide +kernel
theorem at_80_20 : mj_at 80 20 = some (.aload_n 0, 0, 0) := by decide +kernel
theorem at_80_21 : mj_at 80 21 = some (.getfield 26, 2, 5) := by decide +kernel
theorem at_80_24 : mj_at 80 24 = some (.iload 4, 0, 0) := by decide +kernel
theorem at_80_26 : mj_at 80 26 = some (.iaload, 0, 0) := by decide +kernel
theorem at_80_27 : mj_at 80 27 = some (.iconst (-1), 0, 0) := by decide +kernel
theorem at_80_28 : mj_at 80 28 = some (.if_icmp .eq 15, 0, 0) := by decide +kernel
theorem at_80_31 : mj_at 80 31 = some (.iload_n 3, 0, 0) := by decide +kernel
theorem at_80_32 : mj_at 80 32 = some (.aload_n 0, 0, 0) := by decide +kernel
theorem at_80_33 : mj_at 80 33 = some (.getfield 26, 2, 5) := by decide +kernel
theorem at_80_36 : mj_at 80 36 = some (.iload 4, 0, 0) := by decide +kernel
theorem at_80_38 : mj_at 80 38 = some (.iaload, 0, 0) := by decide +kernel
theorem at_80_39 : mj_at 80 39 = some (.invokestatic 116, 1002, 2) := by decide +kernel
theorem at_80_42 : mj_at 80 42 = some (.istore_n 3, 0, 0) := by decide +kernel
theorem at_80_43 : mj_at 80 43 = some (.iinc 4 1, 0, 0) := by decide +kernel
theorem at_80_46 : mj_at 80 46 = some (.goto (-41), 0, 0) := by decide +kernel
theorem at_80_49 : mj_at 80 49 = some (.iload_n 3, 0, 0) := by decide +kernel
theorem at_80_50 : mj_at 80 50 = some (.ireturn, 0, 0) := by decide +kernel
theorem at_81_0 : mj_at 81 0 = some (.aload_n 0, 0, 0) := by decide +kernel
theorem at_81_1 : mj_at 81 1 = some (.getfield 15, 9, 1) := by decide +kernel
theorem at_81_4 : mj_at 81 4 = some (.iconst 3, 0, 0) := by decide +kernel
theorem at_81_5 : mj_at 81 5 = some (.if_icmp .lt 5, 0, 0) := by decide +kernel
theorem at_81_8 : mj_at 81 8 = some (.iconst 0, 0, 0) := by decide +kernel
theorem at_81_9 : mj_at 81 9 = some (.ireturn, 0, 0) := by decide +kernel
theorem at_81_10 : mj_at 81 10 = some (.aload_n 0, 0, 0) := by decide +kernel
theorem at_81_11 : mj_at 81 11 = some (.getfield 9, 9, 0) := by decide +kernel
theorem at_81_14 : mj_at 81 14 = some (.aload_n 0, 0, 0) := by decide +kernel
theorem at_81_15 : mj_at 81 15 = some (.getfield 15, 9, 1) := by decide +kernel
theorem at_81_18 : mj_at 81 18 = some (.iload_n 1, 0, 0) := by decide +kernel
theorem at_81_19 : mj_at 81 19 = some (.iastore, 0, 0) := by decide +kernel
theorem at_81_20 : mj_at 81 20 = some (.aload_n 0, 0, 0) := by decide +kernel
theorem at_81_21 : mj_at 81 21 = some (.dup, 0, 0) := by decide +kernel
theorem at_81_22 : mj_at 81 22 = some (.getfield 15, 9, 1) := by decide +kernel
theorem at_81_25 : mj_at 81 25 = some (.iconst 1, 0, 0) := by decide +kernel
theorem at_81_26 : mj_at 81 26 = some (.iadd, 0, 0) := by decide +kernel
theorem at_81_27 : mj_at 81 27 = some (.putfield 15, 9, 1) := by decide +kernel
theorem at_81_30 : mj_at 81 30 = some (.iconst 1, 0, 0) := by decide +kernel
theorem at_81_31 : mj_at 81 31 = some (.ireturn, 0, 0) := by decide +kernel
theorem at_82_0 : mj_at 82 0 = some (.aload_n 0, 0, 0) := by decide +kernel
theorem at_82_1 : mj_at 82 1 = some (.invokevirtual 214, 83, 0) := by decide +kernel
theorem at_82_4 : mj_at 82 4 = some (.ifCond .eq 10, 0, 0) := by decide +kernel
theorem at_82_7 : mj_at 82 7 = some (.aload_n 1, 0, 0) := by decide +kernel
theorem at_82_8 : mj_at 82 8 = some (.iconst 0, 0, 0) := by decide +kernel
theorem at_82_9 : mj_at 82 9 = some (.iconst 0, 0, 0) := by decide +kernel
theorem at_82_10 : mj_at 82 10 = some (.iastore, 0, 0) := by decide +kernel
theorem at_82_11 : mj_at 82 11 = some (.goto 14, 0, 0) := by decide +kernel
theorem at_82_14 : mj_at 82 14 = some (.aload_n 1, 0, 0) := by decide +kernel
theorem at_82_15 : mj_at 82 15 = some (.iload_n 2, 0, 0) := by decide +kernel
theorem at_82_16 : mj_at 82 16 = some (.aload_n 0, 0, 0) := by decide +kernel
theorem at_82_17 : mj_at 82 17 = some (.invokevirtual 217, 84, 0) := by decide +kernel
theorem at_82_20 : mj_at 82 20 = some (.iastore, 0, 0) := by decide +kernel
theorem at_82_21 : mj_at 82 21 = some (.aload_n 1, 0, 0) := by decide +kernel
theorem at_82_22 : mj_at 82 22 = some (.iconst 0, 0, 0) := by decide +kernel
theorem at_82_23 : mj_at 82 23 = some (.iconst 1, 0, 0) := by decide +kernel
theorem at_82_24 : mj_at 82 24 = some (.iastore, 0, 0) := by decide +kernel
theorem at_82_25 : mj_at 82 25 = some (.return_, 0, 0) := by decide +kernel
theorem at_83_0 : mj_at 83 0 = some (.aload_n 0, 0, 0) := by decide +kernel
theorem at_83_1 : mj_at 83 1 = some (.getfield 15, 9, 1) := by decide +kernel
theorem at_83_4 : mj_at 83 4 = some (.ifCond .ne 7, 0, 0) := by decide +kernel
theorem at_83_7 : mj_at 83 7 = some (.iconst 1, 0, 0) := by decide +kernel
theorem at_83_8 : mj_at 83 8 = some (.goto 4, 0, 0) := by decide +kernel
theorem at_83_11 : mj_at 83 11 = some (.iconst 0, 0, 0) := by decide +kernel
theorem at_83_12 : mj_at 83 12 = some (.ireturn, 0, 0) := by decide +kernel
theorem at_84_0 : mj_at 84 0 = some (.aload_n 0, 0, 0) := by decide +kernel
theorem at_84_1 : mj_at 84 1 = some (.getfield 15, 9, 1) := by decide +kernel
theorem at_84_4 : mj_at 84 4 = some (.ifCond .ne 5, 0, 0) := by decide +kernel
theorem at_84_7 : mj_at 84 7 = some (.iconst 0, 0, 0) := by decide +kernel
theorem at_84_8 : mj_at 84 8 = some (.ireturn, 0, 0) := by decide +kernel
theorem at_84_9 : mj_at 84 9 = some (.aload_n 0, 0, 0) := by decide +kernel
theorem at_84_10 : mj_at 84 10 = some (.getfield 9, 9, 0) := by decide +kernel
theorem at_84_13 : mj_at 84 13 = some (.iconst 0, 0, 0) := by decide +kernel
theorem at_84_14 : mj_at 84 14 = some (.iaload, 0, 0) := by decide +kernel
theorem at_84_15 : mj_at 84 15 = some (.istore_n 1, 0, 0) := by decide +kernel
theorem at_84_16 : mj_at 84 16 = some (.aload_n 0, 0, 0) := by decide +kernel
theorem at_84_17 : mj_at 84 17 = some (.dup, 0, 0) := by decide +kernel
theorem at_84_18 : mj_at 84 18 = some (.getfield 15, 9, 1) := by decide +kernel
theorem at_84_21 : mj_at 84 21 = some (.iconst 1, 0, 0) := by decide +kernel
theorem at_84_22 : mj_at 84 22 = some (.isub, 0, 0) := by decide +kernel
theorem at_84_23 : mj_at 84 23 = some (.putfield 15, 9, 1) := by decide +kernel
theorem at_84_26 : mj_at 84 26 = some (.iconst 0, 0, 0) := by decide +kernel
theorem at_84_27 : mj_at 84 27 = some (.istore_n 2, 0, 0) := by decide +kernel
theorem at_84_28 : mj_at 84 28 = some (.iload_n 2, 0, 0) := by decide +kernel
theorem at_84_29 : mj_at 84 29 = some (.aload_n 0, 0, 0) := by decide +kernel
theorem at_84_30 : mj_at 84 30 = some (.getfield 15, 9, 1) := by decide +kernel
theorem at_84_33 : mj_at 84 33 = some (.if_icmp .ge 23, 0, 0) := by decide +kernel
theorem at_84_36 : mj_at 84 36 = some (.aload_n 0, 0, 0) := by decide +kernel
theorem at_84_37 : mj_at 84 37 = some (.getfield 9, 9, 0) := by decide +kernel
theorem at_84_40 : mj_at 84 40 = some (.iload_n 2, 0, 0) := by decide +kernel
theorem at_84_41 : mj_at 84 41 = some (.aload_n 0, 0, 0) := by decide +kernel
theorem at_84_42 : mj_at 84 42 = some (.getfield 9, 9, 0) := by decide +kernel
theorem at_84_45 : mj_at 84 45 = some (.iload_n 2, 0, 0) := by decide +kernel
theorem at_84_46 : mj_at 84 46 = some (.iconst 1, 0, 0) := by decide +kernel
theorem at_84_47 : mj_at 84 47 = some (.iadd, 0, 0) := by decide +kernel
theorem at_84_48 : mj_at 84 48 = some (.iaload, 0, 0) := by decide +kernel
theorem at_84_49 : mj_at 84 49 = some (.iastore, 0, 0) := by decide +kernel
theorem at_84_50 : mj_at 84 50 = some (.iinc 2 1, 0, 0) := by decide +kernel
theorem at_84_53 : mj_at 84 53 = some (.goto (-25), 0, 0) := by decide +kernel
theorem at_84_56 : mj_at 84 56 = some (.iload_n 1, 0, 0) := by decide +kernel
theorem at_84_57 : mj_at 84 57 = some (.ireturn, 0, 0) := by decide +kernel
theorem at_85_0 : mj_at 85 0 = some (.iload_n 1, 0, 0) := by decide +kernel
theorem at_85_1 : mj_at 85 1 = some (.tableswitch 168 0 10 #[59, 69, 87, 168, 168, 96, 122, 138, 168, 168, 160], 0, 0) := by decide +kernel
theorem at_85_60 : mj_at 85 60 = some (.aload_n 0, 0, 0) := by decide +kernel
theorem at_85_61 : mj_at 85 61 = some (.getfield 9, 6, 8) := by decide +kernel
theorem at_85_64 : mj_at 85 64 = some (.iload_n 2, 0, 0) := by decide +kernel
theorem at_85_65 : mj_at 85 65 = some (.iload_n 3, 0, 0) := by decide +kernel
theorem at_85_66 : mj_at 85 66 = some (.iastore, 0, 0) := by decide +kernel
theorem at_85_67 : mj_at 85 67 = some (.goto 102, 0, 0) := by decide +kernel
theorem at_85_70 : mj_at 85 70 = some (.aload_n 0, 0, 0) := by decide +kernel
theorem at_85_71 : mj_at 85 71 = some (.getfield 9, 6, 8) := by decide +kernel
theorem at_85_74 : mj_at 85 74 = some (.iload_n 2, 0, 0) := by decide +kernel
theorem at_85_75 : mj_at 85 75 = some (.dup2, 0, 0) := by decide +kernel
theorem at_85_76 : mj_at 85 76 = some (.iaload, 0, 0) := by decide +kernel
theorem at_85_77 : mj_at 85 77 = some (.aload_n 0, 0, 0) := by decide +kernel
theorem at_85_78 : mj_at 85 78 = some (.getfield 9, 6, 8) := by decide +kernel
theorem at_85_81 : mj_at 85 81 = some (.iload_n 3, 0, 0) := by decide +kernel
theorem at_85_82 : mj_at 85 82 = some (.iaload, 0, 0) := by decide +kernel
theorem at_85_83 : mj_at 85 83 = some (.iadd, 0, 0) := by decide +kernel
theorem at_85_84 : mj_at 85 84 = some (.iastore, 0, 0) := by decide +kernel
theorem at_85_85 : mj_at 85 85 = some (.goto 84, 0, 0) := by decide +kernel
theorem at_85_88 : mj_at 85 88 = some (.aload_n 0, 0, 0) := by decide +kernel
theorem at_85_89 : mj_at 85 89 = some (.iload_n 2, 0, 0) := by decide +kernel
theorem at_85_90 : mj_at 85 90 = some (.iload_n 3, 0, 0) := by decide +kernel
theorem at_85_91 : mj_at 85 91 = some (.invokevirtual 79, 86, 2) := by decide +kernel
theorem at_85_94 : mj_at 85 94 = some (.goto 75, 0, 0) := by decide +kernel
theorem at_85_97 : mj_at 85 97 = some (.aload_n 0, 0, 0) := by decide +kernel
theorem at_85_98 : mj_at 85 98 = some (.dup, 0, 0) := by decide +kernel
theorem at_85_99 : mj_at 85 99 = some (.getfield 59, 6, 11) := by decide +kernel
theorem at_85_102 : mj_at 85 102 = some (.aload_n 0, 0, 0) := by decide +kernel
theorem at_85_103 : mj_at 85 103 = some (.getfield 9, 6, 8) := by decide +kernel
theorem at_85_106 : mj_at 85 106 = some (.iload_n 2, 0, 0) := by decide +kernel
theorem at_85_107 : mj_at 85 107 = some (.iaload, 0, 0) := by decide +kernel
theorem at_85_108 : mj_at 85 108 = some (.ifCond .ne 7, 0, 0) := by decide +kernel
theorem at_85_111 : mj_at 85 111 = some (.iload_n 3, 0, 0) := by decide +kernel
theorem at_85_112 : mj_at 85 112 = some (.goto 4, 0, 0) := by decide +kernel
theorem at_85_115 : mj_at 85 115 = some (.iconst 0, 0, 0) := by decide +kernel
theorem at_85_116 : mj_at 85 116 = some (.iadd, 0, 0) := by decide +kernel
theorem at_85_117 : mj_at 85 117 = some (.putfield 59, 6, 11) := by decide +kernel
theorem at_85_120 : mj_at 85 120 = some (.goto 49, 0, 0) := by decide +kernel
theorem at_85_123 : mj_at 85 123 = some (.aload_n 0, 0, 0) := by decide +kernel
theorem at_85_124 : mj_at 85 124 = some (.getfield 23, 6, 15) := by decide +kernel
theorem at_85_127 : mj_at 85 127 = some (.aload_n 0, 0, 0) := by decide +kernel
theorem at_85_128 : mj_at 85 128 = some (.getfield 56, 6, 10) := by decide +kernel
theorem at_85_131 : mj_at 85 131 = some (.aaload, 0, 0) := by decide +kernel
theorem at_85_132 : mj_at 85 132 = some (.iload 4, 0, 0) := by decide +kernel
theorem at_85_134 : mj_at 85 134 = some (.iload_n 3, 0, 0) := by decide +kernel
theorem at_85_135 : mj_at 85 135 = some (.iastore, 0, 0) := by decide +kernel
theorem at_85_136 : mj_at 85 136 = some (.goto 33, 0, 0) := by decide +kernel
theorem at_85_139 : mj_at 85 139 = some (.aload_n 0, 0, 0) := by decide +kernel
theorem at_85_140 : mj_at 85 140 = some (.aload_n 0, 0, 0) := by decide +kernel
theorem at_85_141 : mj_at 85 141 = some (.getfield 26, 6, 9) := by decide +kernel
theorem at_85_144 : mj_at 85 144 = some (.aload_n 0, 0, 0) := by decide +kernel
theorem at_85_145 : mj_at 85 145 = some (.getfield 56, 6, 10) := by decide +kernel
theorem at_85_148 : mj_at 85 148 = some (.aaload, 0, 0) := by decide +kernel
theorem at_85_149 : mj_at 85 149 = some (.getfield 83, 4, 3) := by decide +kernel
theorem at_85_152 : mj_at 85 152 = some (.iload 4, 0, 0) := by decide +kernel
theorem at_85_154 : mj_at 85 154 = some (.iaload, 0, 0) := by decide +kernel
theorem at_85_155 : mj_at 85 155 = some (.invokevirtual 86, 87, 1) := by decide +kernel
theorem at_85_158 : mj_at 85 158 = some (.goto 11, 0, 0) := by decide +kernel
theorem at_85_161 : mj_at 85 161 = some (.aload_n 0, 0, 0) := by decide +kernel
theorem at_85_162 : mj_at 85 162 = some (.iload_n 3, 0, 0) := by decide +kernel
theorem at_85_163 : mj_at 85 163 = some (.invokevirtual 90, 88, 1) := by decide +kernel
theorem at_85_166 : mj_at 85 166 = some (.goto 3, 0, 0) := by decide +kernel
theorem at_85_169 : mj_at 85 169 = some (.return_, 0, 0) := by decide +kernel
theorem at_86_0 : mj_at 86 0 = some (.aload_n 0, 0, 0) := by decide +kernel
theorem at_86_1 : mj_at 86 1 = some (.getfield 9, 6, 8) := by decide +kernel
theorem at_86_4 : mj_at 86 4 = some (.iload_n 2, 0, 0) := by decide +kernel
theorem at_86_5 : mj_at 86 5 = some (.iaload, 0, 0) := by decide +kernel
theorem at_86_6 : mj_at 86 6 = some (.ifCond .ne 11, 0, 0) := by decide +kernel
theorem at_86_9 : mj_at 86 9 = some (.aload_n 0, 0, 0) := by decide +kernel
theorem at_86_10 : mj_at 86 10 = some (.iconst 1, 0, 0) := by decide +kernel
theorem at_86_11 : mj_at 86 11 = some (.putfield 37, 6, 2) := by decide +kernel
theorem at_86_14 : mj_at 86 14 = some (.goto 18, 0, 0) := by decide +kernel
theorem at_86_17 : mj_at 86 17 = some (.aload_n 0, 0, 0) := by decide +kernel
theorem at_86_18 : mj_at 86 18 = some (.getfield 9, 6, 8) := by decide +kernel
theorem at_86_21 : mj_at 86 21 = some (.iload_n 1, 0, 0) := by decide +kernel
theorem at_86_22 : mj_at 86 22 = some (.dup2, 0, 0) := by decide +kernel
theorem at_86_23 : mj_at 86 23 = some (.iaload, 0, 0) := by decide +kernel
theorem at_86_24 : mj_at 86 24 = some (.aload_n 0, 0, 0) := by decide +kernel
theorem at_86_25 : mj_at 86 25 = some (.getfield 9, 6, 8) := by decide +kernel
theorem at_86_28 : mj_at 86 28 = some (.iload_n 2, 0, 0) := by decide +kernel
theorem at_86_29 : mj_at 86 29 = some (.iaload, 0, 0) := by decide +kernel
theorem at_86_30 : mj_at 86 30 = some (.idiv, 0, 0) := by decide +kernel
theorem at_86_31 : mj_at 86 31 = some (.iastore, 0, 0) := by decide +kernel
theorem at_86_32 : mj_at 86 32 = some (.return_, 0, 0) := by decide +kernel
theorem at_87_0 : mj_at 87 0 = some (.aload_n 0, 0, 0) := by decide +kernel
theorem at_87_1 : mj_at 87 1 = some (.getfield 23, 6, 15) := by decide +kernel
theorem at_87_4 : mj_at 87 4 = some (.aload_n 0, 0, 0) := by decide +kernel
theorem at_87_5 : mj_at 87 5 = some (.getfield 56, 6, 10) := by decide +kernel
theorem at_87_8 : mj_at 87 8 = some (.aaload, 0, 0) := by decide +kernel
theorem at_87_9 : mj_at 87 9 = some (.iload_n 1, 0, 0) := by decide +kernel
theorem at_87_10 : mj_at 87 10 = some (.dup2, 0, 0) := by decide +kernel
theorem at_87_11 : mj_at 87 11 = some (.iaload, 0, 0) := by decide +kernel
theorem at_87_12 : mj_at 87 12 = some (.iconst 1, 0, 0) := by decide +kernel
theorem at_87_13 : mj_at 87 13 = some (.isub, 0, 0) := by decide +kernel
theorem at_87_14 : mj_at 87 14 = some (.iastore, 0, 0) := by decide +kernel
theorem at_87_15 : mj_at 87 15 = some (.aload_n 0, 0, 0) := by decide +kernel
theorem at_87_16 : mj_at 87 16 = some (.getfield 23, 6, 15) := by decide +kernel
theorem at_87_19 : mj_at 87 19 = some (.aload_n 0, 0, 0) := by decide +kernel
theorem at_87_20 : mj_at 87 20 = some (.getfield 56, 6, 10) := by decide +kernel
theorem at_87_23 : mj_at 87 23 = some (.aaload, 0, 0) := by decide +kernel
theorem at_87_24 : mj_at 87 24 = some (.iload_n 1, 0, 0) := by decide +kernel
theorem at_87_25 : mj_at 87 25 = some (.iaload, 0, 0) := by decide +kernel
theorem at_87_26 : mj_at 87 26 = some (.ifCond .le 10, 0, 0) := by decide +kernel
theorem at_87_29 : mj_at 87 29 = some (.aload_n 0, 0, 0) := by decide +kernel
theorem at_87_30 : mj_at 87 30 = some (.iload_n 1, 0, 0) := by decide +kernel
theorem at_87_31 : mj_at 87 31 = some (.iconst 1, 0, 0) := by decide +kernel
theorem at_87_32 : mj_at 87 32 = some (.iadd, 0, 0) := by decide +kernel
theorem at_87_33 : mj_at 87 33 = some (.putfield 59, 6, 11) := by decide +kernel
theorem at_87_36 : mj_at 87 36 = some (.return_, 0, 0) := by decide +kernel
theorem at_88_0 : mj_at 88 0 = some (.aload_n 0, 0, 0) := by decide +kernel
theorem at_88_1 : mj_at 88 1 = some (.getfield 15, 6, 13) := by decide +kernel
theorem at_88_4 : mj_at 88 4 = some (.iload_n 1, 0, 0) := by decide +kernel
theorem at_88_5 : mj_at 88 5 = some (.aload_n 0, 0, 0) := by decide +kernel
theorem at_88_6 : mj_at 88 6 = some (.getfield 56, 6, 10) := by decide +kernel
theorem at_88_9 : mj_at 88 9 = some (.iastore, 0, 0) := by decide +kernel
theorem at_88_10 : mj_at 88 10 = some (.aload_n 0, 0, 0) := by decide +kernel
theorem at_88_11 : mj_at 88 11 = some (.getfield 18, 6, 14) := by decide +kernel
theorem at_88_14 : mj_at 88 14 = some (.iload_n 1, 0, 0) := by decide +kernel
theorem at_88_15 : mj_at 88 15 = some (.aload_n 0, 0, 0) := by decide +kernel
theorem at_88_16 : mj_at 88 16 = some (.getfield 59, 6, 11) := by decide +kernel
theorem at_88_19 : mj_at 88 19 = some (.iastore, 0, 0) := by decide +kernel
theorem at_88_20 : mj_at 88 20 = some (.aload_n 0, 0, 0) := by decide +kernel
theorem at_88_21 : mj_at 88 21 = some (.iload_n 1, 0, 0) := by decide +kernel
theorem at_88_22 : mj_at 88 22 = some (.putfield 56, 6, 10) := by decide +kernel
theorem at_88_25 : mj_at 88 25 = some (.aload_n 0, 0, 0) := by decide +kernel
theorem at_88_26 : mj_at 88 26 = some (.iconst 0, 0, 0) := by decide +kernel
theorem at_88_27 : mj_at 88 27 = some (.putfield 59, 6, 11) := by decide +kernel
theorem at_88_30 : mj_at 88 30 = some (.return_, 0, 0) := by decide +kernel
theorem at_89_0 : mj_at 89 0 = some (.aload_n 0, 0, 0) := by decide +kernel
theorem at_89_1 : mj_at 89 1 = some (.getfield 11, 5, 1) := by decide +kernel
theorem at_89_4 : mj_at 89 4 = some (.iload_n 1, 0, 0) := by decide +kernel
theorem at_89_5 : mj_at 89 5 = some (.aaload, 0, 0) := by decide +kernel
theorem at_89_6 : mj_at 89 6 = some (.astore_n 3, 0, 0) := by decide +kernel
theorem at_89_7 : mj_at 89 7 = some (.aload_n 0, 0, 0) := by decide +kernel
theorem at_89_8 : mj_at 89 8 = some (.getfield 50, 5, 7) := by decide +kernel
theorem at_89_11 : mj_at 89 11 = some (.aload_n 3, 0, 0) := by decide +kernel
theorem at_89_12 : mj_at 89 12 = some (.getfield 104, 8, 1) := by decide +kernel
theorem at_89_15 : mj_at 89 15 = some (.getfield 117, 6, 5) := by decide +kernel
theorem at_89_18 : mj_at 89 18 = some (.isub, 0, 0) := by decide +kernel
theorem at_89_19 : mj_at 89 19 = some (.istore 4, 0, 0) := by decide +kernel
theorem at_89_21 : mj_at 89 21 = some (.aload_n 3, 0, 0) := by decide +kernel
theorem at_89_22 : mj_at 89 22 = some (.getfield 104, 8, 1) := by decide +kernel
theorem at_89_25 : mj_at 89 25 = some (.iconst 0, 0, 0) := by decide +kernel
theorem at_89_26 : mj_at 89 26 = some (.putfield 112, 6, 0) := by decide +kernel
theorem at_89_29 : mj_at 89 29 = some (.aload_n 0, 0, 0) := by decide +kernel
theorem at_89_30 : mj_at 89 30 = some (.iconst (-1), 0, 0) := by decide +kernel
theorem at_89_31 : mj_at 89 31 = some (.putfield 53, 5, 8) := by decide +kernel
theorem at_89_34 : mj_at 89 34 = some (.aload_n 3, 0, 0) := by decide +kernel
theorem at_89_35 : mj_at 89 35 = some (.aload_n 3, 0, 0) := by decide +kernel
theorem at_89_36 : mj_at 89 36 = some (.getfield 220, 8, 3) := by decide +kernel
theorem at_89_39 : mj_at 89 39 = some (.iload 4, 0, 0) := by decide +kernel
theorem at_89_41 : mj_at 89 41 = some (.invokestatic 223, 1001, 2) := by decide +kernel
theorem at_89_44 : mj_at 89 44 = some (.putfield 220, 8, 3) := by decide +kernel
theorem at_89_47 : mj_at 89 47 = some (.iload 4, 0, 0) := by decide +kernel
theorem at_89_49 : mj_at 89 49 = some (.aload_n 3, 0, 0) := by decide +kernel
theorem at_89_50 : mj_at 89 50 = some (.getfield 228, 8, 0) := by decide +kernel
theorem at_89_53 : mj_at 89 53 = some (.getfield 232, 3, 2) := by decide +kernel
theorem at_89_56 : mj_at 89 56 = some (.if_icmp .le 13, 0, 0) := by decide +kernel
theorem at_89_59 : mj_at 89 59 = some (.aload_n 0, 0, 0) := by decide +kernel
theorem at_89_60 : mj_at 89 60 = some (.dup, 0, 0) := by decide +kernel
theorem at_89_61 : mj_at 89 61 = some (.getfield 62, 5, 11) := by decide +kernel
theorem at_89_64 : mj_at 89 64 = some (.iconst 1, 0, 0) := by decide +kernel
theorem at_89_65 : mj_at 89 65 = some (.iadd, 0, 0) := by decide +kernel
theorem at_89_66 : mj_at 89 66 = some (.putfield 62, 5, 11) := by decide +kernel
theorem at_89_69 : mj_at 89 69 = some (.aload_n 0, 0, 0) := by decide +kernel
theorem at_89_70 : mj_at 89 70 = some (.getfield 24, 5, 3) := by decide +kernel
theorem at_89_73 : mj_at 89 73 = some (.iload_n 2, 0, 0) := by decide +kernel
theorem at_89_74 : mj_at 89 74 = some (.iload_n 1, 0, 0) := by decide +kernel
theorem at_89_75 : mj_at 89 75 = some (.aload_n 0, 0, 0) := by decide +kernel
theorem at_89_76 : mj_at 89 76 = some (.getfield 50, 5, 7) := by decide +kernel
theorem at_89_79 : mj_at 89 79 = some (.iload 4, 0, 0) := by decide +kernel
theorem at_89_81 : mj_at 89 81 = some (.invokevirtual 120, 68, 4) := by decide +kernel
theorem at_89_84 : mj_at 89 84 = some (.return_, 0, 0) := by decide +kernel
theorem at_90_0 : mj_at 90 0 = some (.iconst 0, 0, 0) := by decide +kernel
theorem at_90_1 : mj_at 90 1 = some (.istore_n 1, 0, 0) := by decide +kernel
theorem at_90_2 : mj_at 90 2 = some (.iload_n 1, 0, 0) := by decide +kernel
theorem at_90_3 : mj_at 90 3 = some (.iconst 3, 0, 0) := by decide +kernel
theorem at_90_4 : mj_at 90 4 = some (.if_icmp .ge 61, 0, 0) := by decide +kernel
theorem at_90_7 : mj_at 90 7 = some (.aload_n 0, 0, 0) := by decide +kernel
theorem at_90_8 : mj_at 90 8 = some (.getfield 56, 6, 10) := by decide +kernel
theorem at_90_11 : mj_at 90 11 = some (.ifCond .le 54, 0, 0) := by decide +kernel
theorem at_90_14 : mj_at 90 14 = some (.aload_n 0, 0, 0) := by decide +kernel
theorem at_90_15 : mj_at 90 15 = some (.getfield 59, 6, 11) := by decide +kernel
theorem at_90_18 : mj_at 90 18 = some (.aload_n 0, 0, 0) := by decide +kernel
theorem at_90_19 : mj_at 90 19 = some (.getfield 26, 6, 9) := by decide +kernel
theorem at_90_22 : mj_at 90 22 = some (.aload_n 0, 0, 0) := by decide +kernel
theorem at_90_23 : mj_at 90 23 = some (.getfield 56, 6, 10) := by decide +kernel
theorem at_90_26 : mj_at 90 26 = some (.aaload, 0, 0) := by decide +kernel
theorem at_90_27 : mj_at 90 27 = some (.getfield 93, 4, 4) := by decide +kernel
theorem at_90_30 : mj_at 90 30 = some (.if_icmp .lt 35, 0, 0) := by decide +kernel
theorem at_90_33 : mj_at 90 33 = some (.aload_n 0, 0, 0) := by decide +kernel
theorem at_90_34 : mj_at 90 34 = some (.aload_n 0, 0, 0) := by decide +kernel
theorem at_90_35 : mj_at 90 35 = some (.getfield 18, 6, 14) := by decide +kernel
theorem at_90_38 : mj_at 90 38 = some (.aload_n 0, 0, 0) := by decide +kernel
theorem at_90_39 : mj_at 90 39 = some (.getfield 56, 6, 10) := by decide +kernel
theorem at_90_42 : mj_at 90 42 = some (.iaload, 0, 0) := by decide +kernel
theorem at_90_43 : mj_at 90 43 = some (.putfield 59, 6, 11) := by decide +kernel
theorem at_90_46 : mj_at 90 46 = some (.aload_n 0, 0, 0) := by decide +kernel
theorem at_90_47 : mj_at 90 47 = some (.aload_n 0, 0, 0) := by decide +kernel
theorem at_90_48 : mj_at 90 48 = some (.getfield 15, 6, 13) := by decide +kernel
theorem at_90_51 : mj_at 90 51 = some (.aload_n 0, 0, 0) := by decide +kernel
theorem at_90_52 : mj_at 90 52 = some (.getfield 56, 6, 10) := by decide +kernel
theorem at_90_55 : mj_at 90 55 = some (.iaload, 0, 0) := by decide +kernel
theorem at_90_56 : mj_at 90 56 = some (.putfield 56, 6, 10) := by decide +kernel
theorem at_90_59 : mj_at 90 59 = some (.iinc 1 1, 0, 0) := by decide +kernel
theorem at_90_62 : mj_at 90 62 = some (.goto (-60), 0, 0) := by decide +kernel
theorem at_90_65 : mj_at 90 65 = some (.aload_n 0, 0, 0) := by decide +kernel
theorem at_90_66 : mj_at 90 66 = some (.getfield 59, 6, 11) := by decide +kernel
theorem at_90_69 : mj_at 90 69 = some (.aload_n 0, 0, 0) := by decide +kernel
theorem at_90_70 : mj_at 90 70 = some (.getfield 26, 6, 9) := by decide +kernel
theorem at_90_73 : mj_at 90 73 = some (.aload_n 0, 0, 0) := by decide +kernel
theorem at_90_74 : mj_at 90 74 = some (.getfield 56, 6, 10) := by decide +kernel
theorem at_90_77 : mj_at 90 77 = some (.aaload, 0, 0) := by decide +kernel
theorem at_90_78 : mj_at 90 78 = some (.getfield 93, 4, 4) := by decide +kernel
theorem at_90_81 : mj_at 90 81 = some (.if_icmp .lt 7, 0, 0) := by decide +kernel
theorem at_90_84 : mj_at 90 84 = some (.iconst 1, 0, 0) := by decide +kernel
theorem at_90_85 : mj_at 90 85 = some (.goto 4, 0, 0) := by decide +kernel
theorem at_90_88 : mj_at 90 88 = some (.iconst 0, 0, 0) := by decide +kernel
theorem at_90_89 : mj_at 90 89 = some (.ireturn, 0, 0) := by decide +kernel
theorem at_91_0 : mj_at 91 0 = some (.aload_n 0, 0, 0) := by decide +kernel
theorem at_91_1 : mj_at 91 1 = some (.getfield 35, 0, 3) := by decide +kernel
theorem at_91_4 : mj_at 91 4 = some (.getfield 43, 5, 0) := by decide +kernel
theorem at_91_7 : mj_at 91 7 = some (.ifCond .eq 14, 0, 0) := by decide +kernel
theorem at_91_10 : mj_at 91 10 = some (.aload_n 0, 0, 0) := by decide +kernel
theorem at_91_11 : mj_at 91 11 = some (.getfield 35, 0, 3) := by decide +kernel
theorem at_91_14 : mj_at 91 14 = some (.iload_n 1, 0, 0) := by decide +kernel
theorem at_91_15 : mj_at 91 15 = some (.invokevirtual 136, 92, 1) := by decide +kernel
theorem at_91_18 : mj_at 91 18 = some (.goto 4, 0, 0) := by decide +kernel
theorem at_91_21 : mj_at 91 21 = some (.iconst (-1), 0, 0) := by decide +kernel
theorem at_91_22 : mj_at 91 22 = some (.ireturn, 0, 0) := by decide +kernel
theorem at_92_0 : mj_at 92 0 = some (.iload_n 1, 0, 0) := by decide +kernel
theorem at_92_1 : mj_at 92 1 = some (.tableswitch 81 0 6 #[43, 48, 53, 58, 66, 71, 76], 0, 0) := by decide +kernel
theorem at_92_44 : mj_at 92 44 = some (.aload_n 0, 0, 0) := by decide +kernel
theorem at_92_45 : mj_at 92 45 = some (.getfield 50, 5, 7) := by decide +kernel
theorem at_92_48 : mj_at 92 48 = some (.ireturn, 0, 0) := by decide +kernel
theorem at_92_49 : mj_at 92 49 = some (.aload_n 0, 0, 0) := by decide +kernel
theorem at_92_50 : mj_at 92 50 = some (.getfield 56, 5, 9) := by decide +kernel
theorem at_92_53 : mj_at 92 53 = some (.ireturn, 0, 0) := by decide +kernel
theorem at_92_54 : mj_at 92 54 = some (.aload_n 0, 0, 0) := by decide +kernel
theorem at_92_55 : mj_at 92 55 = some (.getfield 59, 5, 10) := by decide +kernel
theorem at_92_58 : mj_at 92 58 = some (.ireturn, 0, 0) := by decide +kernel
theorem at_92_59 : mj_at 92 59 = some (.aload_n 0, 0, 0) := by decide +kernel
theorem at_92_60 : mj_at 92 60 = some (.getfield 24, 5, 3) := by decide +kernel
theorem at_92_63 : mj_at 92 63 = some (.getfield 71, 7, 0) := by decide +kernel
theorem at_92_66 : mj_at 92 66 = some (.ireturn, 0, 0) := by decide +kernel
theorem at_92_67 : mj_at 92 67 = some (.aload_n 0, 0, 0) := by decide +kernel
theorem at_92_68 : mj_at 92 68 = some (.getfield 62, 5, 11) := by decide +kernel
theorem at_92_71 : mj_at 92 71 = some (.ireturn, 0, 0) := by decide +kernel
theorem at_92_72 : mj_at 92 72 = some (.aload_n 0, 0, 0) := by decide +kernel
theorem at_92_73 : mj_at 92 73 = some (.getfield 65, 5, 12) := by decide +kernel
theorem at_92_76 : mj_at 92 76 = some (.ireturn, 0, 0) := by decide +kernel
theorem at_92_77 : mj_at 92 77 = some (.aload_n 0, 0, 0) := by decide +kernel
theorem at_92_78 : mj_at 92 78 = some (.getfield 68, 5, 13) := by decide +kernel
theorem at_92_81 : mj_at 92 81 = some (.ireturn, 0, 0) := by decide +kernel
theorem at_92_82 : mj_at 92 82 = some (.iconst (-1), 0, 0) := by decide +kernel
theorem at_92_83 : mj_at 92 83 = some (.ireturn, 0, 0) := by decide +kernel
theorem at_93_0 : mj_at 93 0 = some (.aload_n 0, 0, 0) := by decide +kernel
theorem at_93_1 : mj_at 93 1 = some (.iload_n 1, 0, 0) := by decide +kernel
theorem at_93_2 : mj_at 93 2 = some (.invokevirtual 116, 59, 1) := by decide +kernel
theorem at_93_5 : mj_at 93 5 = some (.ifCond .eq 15, 0, 0) := by decide +kernel
theorem at_93_8 : mj_at 93 8 = some (.aload_n 0, 0, 0) := by decide +kernel
theorem at_93_9 : mj_at 93 9 = some (.getfield 35, 0, 3) := by decide +kernel
theorem at_93_12 : mj_at 93 12 = some (.iload_n 1, 0, 0) := by decide +kernel
theorem at_93_13 : mj_at 93 13 = some (.iload_n 2, 0, 0) := by decide +kernel
theorem at_93_14 : mj_at 93 14 = some (.invokevirtual 139, 94, 2) := by decide +kernel
theorem at_93_17 : mj_at 93 17 = some (.goto 4, 0, 0) := by decide +kernel
theorem at_93_20 : mj_at 93 20 = some (.iconst (-1), 0, 0) := by decide +kernel
theorem at_93_21 : mj_at 93 21 = some (.ireturn, 0, 0) := by decide +kernel
theorem at_94_0 : mj_at 94 0 = some (.aload_n 0, 0, 0) := by decide +kernel
theorem at_94_1 : mj_at 94 1 = some (.getfield 11, 5, 1) := by decide +kernel
theorem at_94_4 : mj_at 94 4 = some (.iload_n 1, 0, 0) := by decide +kernel
theorem at_94_5 : mj_at 94 5 = some (.aaload, 0, 0) := by decide +kernel
theorem at_94_6 : mj_at 94 6 = some (.getfield 104, 8, 1) := by decide +kernel
theorem at_94_9 : mj_at 94 9 = some (.astore_n 3, 0, 0) := by decide +kernel
theorem at_94_10 : mj_at 94 10 = some (.aload_n 3, 0, 0) := by decide +kernel
theorem at_94_11 : mj_at 94 11 = some (.getfield 112, 6, 0) := by decide +kernel
theorem at_94_14 : mj_at 94 14 = some (.ifCond .ne 5, 0, 0) := by decide +kernel
theorem at_94_17 : mj_at 94 17 = some (.iconst (-1), 0, 0) := by decide +kernel
theorem at_94_18 : mj_at 94 18 = some (.ireturn, 0, 0) := by decide +kernel
theorem at_94_19 : mj_at 94 19 = some (.iload_n 2, 0, 0) := by decide +kernel
theorem at_94_20 : mj_at 94 20 = some (.tableswitch 57 0 3 #[32, 37, 47, 52], 0, 0) := by decide +kernel
theorem at_94_52 : mj_at 94 52 = some (.aload_n 3, 0, 0) := by decide +kernel
theorem at_94_53 : mj_at 94 53 = some (.getfield 211, 6, 3) := by decide +kernel
theorem at_94_56 : mj_at 94 56 = some (.ireturn, 0, 0) := by decide +kernel
theorem at_94_57 : mj_at 94 57 = some (.aload_n 0, 0, 0) := by decide +kernel
theorem at_94_58 : mj_at 94 58 = some (.getfield 50, 5, 7) := by decide +kernel
theorem at_94_61 : mj_at 94 61 = some (.aload_n 3, 0, 0) := by decide +kernel
theorem at_94_62 : mj_at 94 62 = some (.getfield 117, 6, 5) := by decide +kernel
theorem at_94_65 : mj_at 94 65 = some (.isub, 0, 0) := by decide +kernel
theorem at_94_66 : mj_at 94 66 = some (.ireturn, 0, 0) := by decide +kernel
theorem at_94_67 : mj_at 94 67 = some (.aload_n 3, 0, 0) := by decide +kernel
theorem at_94_68 : mj_at 94 68 = some (.getfield 237, 6, 6) := by decide +kernel
theorem at_94_71 : mj_at 94 71 = some (.ireturn, 0, 0) := by decide +kernel
theorem at_94_72 : mj_at 94 72 = some (.aload_n 3, 0, 0) := by decide +kernel
theorem at_94_73 : mj_at 94 73 = some (.getfield 184, 6, 4) := by decide +kernel
theorem at_94_76 : mj_at 94 76 = some (.ireturn, 0, 0) := by decide +kernel
theorem at_94_77 : mj_at 94 77 = some (.iconst (-1), 0, 0) := by decide +kernel
theorem at_94_78 : mj_at 94 78 = some (.ireturn, 0, 0) := by decide +kernel
theorem at_95_0 : mj_at 95 0 = some (.aload_n 0, 0, 0) := by decide +kernel
theorem at_95_1 : mj_at 95 1 = some (.iload_n 1, 0, 0) := by decide +kernel
theorem at_95_2 : mj_at 95 2 = some (.invokevirtual 116, 59, 1) := by decide +kernel
theorem at_95_5 : mj_at 95 5 = some (.ifCond .eq 18, 0, 0) := by decide +kernel
theorem at_95_8 : mj_at 95 8 = some (.aload_n 0, 0, 0) := by decide +kernel
theorem at_95_9 : mj_at 95 9 = some (.getfield 35, 0, 3) := by decide +kernel
theorem at_95_12 : mj_at 95 12 = some (.getfield 119, 5, 1) := by decide +kernel
theorem at_95_15 : mj_at 95 15 = some (.iload_n 1, 0, 0) := by decide +kernel
theorem at_95_16 : mj_at 95 16 = some (.aaload, 0, 0) := by decide +kernel
theorem at_95_17 : mj_at 95 17 = some (.getfield 143, 8, 3) := by decide +kernel
theorem at_95_20 : mj_at 95 20 = some (.goto 4, 0, 0) := by decide +kernel
theorem at_95_23 : mj_at 95 23 = some (.iconst (-1), 0, 0) := by decide +kernel
theorem at_95_24 : mj_at 95 24 = some (.ireturn, 0, 0) := by decide +kernel
theorem at_96_0 : mj_at 96 0 = some (.aload_n 0, 0, 0) := by decide +kernel
theorem at_96_1 : mj_at 96 1 = some (.iload_n 1, 0, 0) := by decide +kernel
theorem at_96_2 : mj_at 96 2 = some (.invokevirtual 116, 59, 1) := by decide +kernel
theorem at_96_5 : mj_at 96 5 = some (.ifCond .eq 29, 0, 0) := by decide +kernel
theorem at_96_8 : mj_at 96 8 = some (.iload_n 2, 0, 0) := by decide +kernel
theorem at_96_9 : mj_at 96 9 = some (.bipush 8, 0, 0) := by decide +kernel
theorem at_96_11 : mj_at 96 11 = some (.invokestatic 62, 15, 2) := by decide +kernel
theorem at_96_14 : mj_at 96 14 = some (.ifCond .eq 20, 0, 0) := by decide +kernel
theorem at_96_17 : mj_at 96 17 = some (.aload_n 0, 0, 0) := by decide +kernel
theorem at_96_18 : mj_at 96 18 = some (.getfield 35, 0, 3) := by decide +kernel
theorem at_96_21 : mj_at 96 21 = some (.getfield 119, 5, 1) := by decide +kernel
theorem at_96_24 : mj_at 96 24 = some (.iload_n 1, 0, 0) := by decide +kernel
theorem at_96_25 : mj_at 96 25 = some (.aaload, 0, 0) := by decide +kernel
theorem at_96_26 : mj_at 96 26 = some (.getfield 146, 8, 2) := by decide +kernel
theorem at_96_29 : mj_at 96 29 = some (.iload_n 2, 0, 0) := by decide +kernel
theorem at_96_30 : mj_at 96 30 = some (.iaload, 0, 0) := by decide +kernel
theorem at_96_31 : mj_at 96 31 = some (.goto 4, 0, 0) := by decide +kernel
theorem at_96_34 : mj_at 96 34 = some (.iconst (-1), 0, 0) := by decide +kernel
theorem at_96_35 : mj_at 96 35 = some (.ireturn, 0, 0) := by decide +kernel
theorem at_97_0 : mj_at 97 0 = some (.aload_n 0, 0, 0) := by decide +kernel
theorem at_97_1 : mj_at 97 1 = some (.getfield 35, 0, 3) := by decide +kernel
theorem at_97_4 : mj_at 97 4 = some (.getfield 43, 5, 0) := by decide +kernel
theorem at_97_7 : mj_at 97 7 = some (.ifCond .eq 18, 0, 0) := by decide +kernel
theorem at_97_10 : mj_at 97 10 = some (.aload_n 0, 0, 0) := by decide +kernel
theorem at_97_11 : mj_at 97 11 = some (.getfield 35, 0, 3) := by decide +kernel
theorem at_97_14 : mj_at 97 14 = some (.getfield 149, 5, 3) := by decide +kernel
theorem at_97_17 : mj_at 97 17 = some (.iload_n 1, 0, 0) := by decide +kernel
theorem at_97_18 : mj_at 97 18 = some (.iload_n 2, 0, 0) := by decide +kernel
theorem at_97_19 : mj_at 97 19 = some (.invokevirtual 153, 98, 2) := by decide +kernel
theorem at_97_22 : mj_at 97 22 = some (.goto 4, 0, 0) := by decide +kernel
theorem at_97_25 : mj_at 97 25 = some (.iconst (-1), 0, 0) := by decide +kernel
theorem at_97_26 : mj_at 97 26 = some (.ireturn, 0, 0) := by decide +kernel
theorem at_98_0 : mj_at 98 0 = some (.iload_n 1, 0, 0) := by decide +kernel
theorem at_98_1 : mj_at 98 1 = some (.aload_n 0, 0, 0) := by decide +kernel
theorem at_98_2 : mj_at 98 2 = some (.getfield 24, 7, 0) := by decide +kernel
theorem at_98_5 : mj_at 98 5 = some (.bipush 32, 0, 0) := by decide +kernel
theorem at_98_7 : mj_at 98 7 = some (.invokestatic 28, 1002, 2) := by decide +kernel
theorem at_98_10 : mj_at 98 10 = some (.invokestatic 34, 15, 2) := by decide +kernel
theorem at_98_13 : mj_at 98 13 = some (.ifCond .ne 5, 0, 0) := by decide +kernel
theorem at_98_16 : mj_at 98 16 = some (.iconst (-1), 0, 0) := by decide +kernel
theorem at_98_17 : mj_at 98 17 = some (.ireturn, 0, 0) := by decide +kernel
theorem at_98_18 : mj_at 98 18 = some (.aload_n 0, 0, 0) := by decide +kernel
theorem at_98_19 : mj_at 98 19 = some (.getfield 24, 7, 0) := by decide +kernel
theorem at_98_22 : mj_at 98 22 = some (.iconst 1, 0, 0) := by decide +kernel
theorem at_98_23 : mj_at 98 23 = some (.isub, 0, 0) := by decide +kernel
theorem at_98_24 : mj_at 98 24 = some (.iload_n 1, 0, 0) := by decide +kernel
theorem at_98_25 : mj_at 98 25 = some (.isub, 0, 0) := by decide +kernel
theorem at_98_26 : mj_at 98 26 = some (.bipush 31, 0, 0) := by decide +kernel
theorem at_98_28 : mj_at 98 28 = some (.iand, 0, 0) := by decide +kernel
theorem at_98_29 : mj_at 98 29 = some (.istore_n 3, 0, 0) := by decide +kernel
theorem at_98_30 : mj_at 98 30 = some (.iload_n 2, 0, 0) := by decide +kernel
theorem at_98_31 : mj_at 98 31 = some (.tableswitch 57 0 3 #[29, 36, 43, 50], 0, 0) := by decide +kernel
theorem at_98_60 : mj_at 98 60 = some (.aload_n 0, 0, 0) := by decide +kernel
theorem at_98_61 : mj_at 98 61 = some (.getfield 9, 7, 1) := by decide +kernel
theorem at_98_64 : mj_at 98 64 = some (.iload_n 3, 0, 0) := by decide +kernel
theorem at_98_65 : mj_at 98 65 = some (.iaload, 0, 0) := by decide +kernel
theorem at_98_66 : mj_at 98 66 = some (.ireturn, 0, 0) := by decide +kernel
theorem at_98_67 : mj_at 98 67 = some (.aload_n 0, 0, 0) := by decide +kernel
theorem at_98_68 : mj_at 98 68 = some (.getfield 15, 7, 2) := by decide +kernel
theorem at_98_71 : mj_at 98 71 = some (.iload_n 3, 0, 0) := by decide +kernel
theorem at_98_72 : mj_at 98 72 = some (.iaload, 0, 0) := by decide +kernel
theorem at_98_73 : mj_at 98 73 = some (.ireturn, 0, 0) := by decide +kernel
theorem at_98_74 : mj_at 98 74 = some (.aload_n 0, 0, 0) := by decide +kernel
theorem at_98_75 : mj_at 98 75 = some (.getfield 18, 7, 3) := by decide +kernel
theorem at_98_78 : mj_at 98 78 = some (.iload_n 3, 0, 0) := by decide +kernel
theorem at_98_79 : mj_at 98 79 = some (.iaload, 0, 0) := by decide +kernel
theorem at_98_80 : mj_at 98 80 = some (.ireturn, 0, 0) := by decide +kernel
theorem at_98_81 : mj_at 98 81 = some (.aload_n 0, 0, 0) := by decide +kernel
theorem at_98_82 : mj_at 98 82 = some (.getfield 21, 7, 4) := by decide +kernel
theorem at_98_85 : mj_at 98 85 = some (.iload_n 3, 0, 0) := by decide +kernel
theorem at_98_86 : mj_at 98 86 = some (.iaload, 0, 0) := by decide +kernel
theorem at_98_87 : mj_at 98 87 = some (.ireturn, 0, 0) := by decide +kernel
theorem at_98_88 : mj_at 98 88 = some (.iconst (-1), 0, 0) := by decide +kernel
theorem at_98_89 : mj_at 98 89 = some (.ireturn, 0, 0) := by decide +kernel
theorem at_100_0 : mj_at 100 0 = some (.aload_n 0, 0, 0) := by decide +kernel
theorem at_100_1 : mj_at 100 1 = some (.getfield 141, 10, 2) := by decide +kernel
theorem at_100_4 : mj_at 100 4 = some (.ifCond .ne 42, 0, 0) := by decide +kernel
theorem at_100_7 : mj_at 100 7 = some (.aload_n 0, 0, 0) := by decide +kernel
theorem at_100_8 : mj_at 100 8 = some (.getfield 138, 10, 0) := by decide +kernel
theorem at_100_11 : mj_at 100 11 = some (.iconst 5, 0, 0) := by decide +kernel
theorem at_100_12 : mj_at 100 12 = some (.if_icmp .eq 34, 0, 0) := by decide +kernel
theorem at_100_15 : mj_at 100 15 = some (.iload_n 1, 0, 0) := by decide +kernel
theorem at_100_16 : mj_at 100 16 = some (.iconst 1, 0, 0) := by decide +kernel
theorem at_100_17 : mj_at 100 17 = some (.sipush 5000, 0, 0) := by decide +kernel
theorem at_100_20 : mj_at 100 20 = some (.invokestatic 145, 101, 3) := by decide +kernel
theorem at_100_23 : mj_at 100 23 = some (.ifCond .eq 23, 0, 0) := by decide +kernel
theorem at_100_26 : mj_at 100 26 = some (.iload_n 2, 0, 0) := by decide +kernel
theorem at_100_27 : mj_at 100 27 = some (.iconst 1, 0, 0) := by decide +kernel
theorem at_100_28 : mj_at 100 28 = some (.iload_n 1, 0, 0) := by decide +kernel
theorem at_100_29 : mj_at 100 29 = some (.invokestatic 145, 101, 3) := by decide +kernel
theorem at_100_32 : mj_at 100 32 = some (.ifCond .eq 14, 0, 0) := by decide +kernel
theorem at_100_35 : mj_at 100 35 = some (.iload_n 3, 0, 0) := by decide +kernel
theorem at_100_36 : mj_at 100 36 = some (.iconst (-1), 0, 0) := by decide +kernel
theorem at_100_37 : mj_at 100 37 = some (.sipush 5000, 0, 0) := by decide +kernel
theorem at_100_40 : mj_at 100 40 = some (.invokestatic 145, 101, 3) := by decide +kernel
theorem at_100_43 : mj_at 100 43 = some (.ifCond .ne 5, 0, 0) := by decide +kernel
theorem at_100_46 : mj_at 100 46 = some (.iconst (-1), 0, 0) := by decide +kernel
theorem at_100_47 : mj_at 100 47 = some (.ireturn, 0, 0) := by decide +kernel
theorem at_100_48 : mj_at 100 48 = some (.aload_n 0, 0, 0) := by decide +kernel
theorem at_100_49 : mj_at 100 49 = some (.getfield 13, 10, 4) := by decide +kernel
theorem at_100_52 : mj_at 100 52 = some (.aload_n 0, 0, 0) := by decide +kernel
theorem at_100_53 : mj_at 100 53 = some (.getfield 138, 10, 0) := by decide +kernel
theorem at_100_56 : mj_at 100 56 = some (.iload_n 1, 0, 0) := by decide +kernel
theorem at_100_57 : mj_at 100 57 = some (.iastore, 0, 0) := by decide +kernel
theorem at_100_58 : mj_at 100 58 = some (.aload_n 0, 0, 0) := by decide +kernel
theorem at_100_59 : mj_at 100 59 = some (.getfield 17, 10, 5) := by decide +kernel
theorem at_100_62 : mj_at 100 62 = some (.aload_n 0, 0, 0) := by decide +kernel
theorem at_100_63 : mj_at 100 63 = some (.getfield 138, 10, 0) := by decide +kernel
theorem at_100_66 : mj_at 100 66 = some (.iload_n 2, 0, 0) := by decide +kernel
theorem at_100_67 : mj_at 100 67 = some (.iastore, 0, 0) := by decide +kernel
theorem at_100_68 : mj_at 100 68 = some (.aload_n 0, 0, 0) := by decide +kernel
theorem at_100_69 : mj_at 100 69 = some (.getfield 20, 10, 6) := by decide +kernel
theorem at_100_72 : mj_at 100 72 = some (.aload_n 0, 0, 0) := by decide +kernel
theorem at_100_73 : mj_at 100 73 = some (.getfield 138, 10, 0) := by decide +kernel
theorem at_100_76 : mj_at 100 76 = some (.iload_n 3, 0, 0) := by decide +kernel
theorem at_100_77 : mj_at 100 77 = some (.iastore, 0, 0) := by decide +kernel
theorem at_100_78 : mj_at 100 78 = some (.aload_n 0, 0, 0) := by decide +kernel
theorem at_100_79 : mj_at 100 79 = some (.iconst 0, 0, 0) := by decide +kernel
theorem at_100_80 : mj_at 100 80 = some (.putfield 149, 10, 1) := by decide +kernel
theorem at_100_83 : mj_at 100 83 = some (.aload_n 0, 0, 0) := by decide +kernel
theorem at_100_84 : mj_at 100 84 = some (.dup, 0, 0) := by decide +kernel
theorem at_100_85 : mj_at 100 85 = some (.getfield 138, 10, 0) := by decide +kernel
theorem at_100_88 : mj_at 100 88 = some (.iconst 1, 0, 0) := by decide +kernel
theorem at_100_89 : mj_at 100 89 = some (.iadd, 0, 0) := by decide +kernel
theorem at_100_90 : mj_at 100 90 = some (.putfield 138, 10, 0) := by decide +kernel
theorem at_100_93 : mj_at 100 93 = some (.aload_n 0, 0, 0) := by decide +kernel
theorem at_100_94 : mj_at 100 94 = some (.getfield 138, 10, 0) := by decide +kernel
theorem at_100_97 : mj_at 100 97 = some (.iconst 1, 0, 0) := by decide +kernel
theorem at_100_98 : mj_at 100 98 = some (.isub, 0, 0) := by decide +kernel
theorem at_100_99 : mj_at 100 99 = some (.ireturn, 0, 0) := by decide +kernel
theorem at_101_0 : mj_at 101 0 = some (.iload_n 0, 0, 0) := by decide +kernel
theorem at_101_1 : mj_at 101 1 = some (.iload_n 1, 0, 0) := by decide +kernel
theorem at_101_2 : mj_at 101 2 = some (.if_icmp .lt 12, 0, 0) := by decide +kernel
theorem at_101_5 : mj_at 101 5 = some (.iload_n 0, 0, 0) := by decide +kernel
theorem at_101_6 : mj_at 101 6 = some (.iload_n 2, 0, 0) := by decide +kernel
theorem at_101_7 : mj_at 101 7 = some (.if_icmp .gt 7, 0, 0) := by decide +kernel
theorem at_101_10 : mj_at 101 10 = some (.iconst 1, 0, 0) := by decide +kernel
theorem at_101_11 : mj_at 101 11 = some (.goto 4, 0, 0) := by decide +kernel
theorem at_101_14 : mj_at 101 14 = some (.iconst 0, 0, 0) := by decide +kernel
theorem at_101_15 : mj_at 101 15 = some (.ireturn, 0, 0) := by decide +kernel
theorem at_102_0 : mj_at 102 0 = some (.aload_n 0, 0, 0) := by decide +kernel
theorem at_102_1 : mj_at 102 1 = some (.getfield 141, 10, 2) := by decide +kernel
theorem at_102_4 : mj_at 102 4 = some (.ifCond .ne 56, 0, 0) := by decide +kernel
theorem at_102_7 : mj_at 102 7 = some (.aload_n 0, 0, 0) := by decide +kernel
theorem at_102_8 : mj_at 102 8 = some (.iload_n 1, 0, 0) := by decide +kernel
theorem at_102_9 : mj_at 102 9 = some (.invokevirtual 152, 103, 1) := by decide +kernel
theorem at_102_12 : mj_at 102 12 = some (.ifCond .eq 48, 0, 0) := by decide +kernel
theorem at_102_15 : mj_at 102 15 = some (.iload_n 2, 0, 0) := by decide +kernel
theorem at_102_16 : mj_at 102 16 = some (.iconst 0, 0, 0) := by decide +kernel
theorem at_102_17 : mj_at 102 17 = some (.iconst 2, 0, 0) := by decide +kernel
theorem at_102_18 : mj_at 102 18 = some (.invokestatic 145, 101, 3) := by decide +kernel
theorem at_102_21 : mj_at 102 21 = some (.ifCond .eq 39, 0, 0) := by decide +kernel
theorem at_102_24 : mj_at 102 24 = some (.aload_n 0, 0, 0) := by decide +kernel
theorem at_102_25 : mj_at 102 25 = some (.getfield 35, 10, 11) := by decide +kernel
theorem at_102_28 : mj_at 102 28 = some (.iconst 3, 0, 0) := by decide +kernel
theorem at_102_29 : mj_at 102 29 = some (.iload_n 1, 0, 0) := by decide +kernel
theorem at_102_30 : mj_at 102 30 = some (.imul, 0, 0) := by decide +kernel
theorem at_102_31 : mj_at 102 31 = some (.iload_n 2, 0, 0) := by decide +kernel
theorem at_102_32 : mj_at 102 32 = some (.iadd, 0, 0) := by decide +kernel
theorem at_102_33 : mj_at 102 33 = some (.iaload, 0, 0) := by decide +kernel
theorem at_102_34 : mj_at 102 34 = some (.bipush 12, 0, 0) := by decide +kernel
theorem at_102_36 : mj_at 102 36 = some (.if_icmp .eq 24, 0, 0) := by decide +kernel
theorem at_102_39 : mj_at 102 39 = some (.iload_n 3, 0, 0) := by decide +kernel
theorem at_102_40 : mj_at 102 40 = some (.iconst 0, 0, 0) := by decide +kernel
theorem at_102_41 : mj_at 102 41 = some (.bipush 14, 0, 0) := by decide +kernel
theorem at_102_43 : mj_at 102 43 = some (.invokestatic 145, 101, 3) := by decide +kernel
theorem at_102_46 : mj_at 102 46 = some (.ifCond .eq 14, 0, 0) := by decide +kernel
theorem at_102_49 : mj_at 102 49 = some (.iload_n 3, 0, 0) := by decide +kernel
theorem at_102_50 : mj_at 102 50 = some (.iload 4, 0, 0) := by decide +kernel
theorem at_102_52 : mj_at 102 52 = some (.iload 5, 0, 0) := by decide +kernel
theorem at_102_54 : mj_at 102 54 = some (.invokestatic 156, 104, 3) := by decide +kernel
theorem at_102_57 : mj_at 102 57 = some (.ifCond .ne 5, 0, 0) := by decide +kernel
theorem at_102_60 : mj_at 102 60 = some (.iconst 0, 0, 0) := by decide +kernel
theorem at_102_61 : mj_at 102 61 = some (.ireturn, 0, 0) := by decide +kernel
theorem at_102_62 : mj_at 102 62 = some (.iconst 3, 0, 0) := by decide +kernel
theorem at_102_63 : mj_at 102 63 = some (.iload_n 1, 0, 0) := by decide +kernel
theorem at_102_64 : mj_at 102 64 = some (.imul, 0, 0) := by decide +kernel
theorem at_102_65 : mj_at 102 65 = some (.iload_n 2, 0, 0) := by decide +kernel
theorem at_102_66 : mj_at 102 66 = some (.iadd, 0, 0) := by decide +kernel
theorem at_102_67 : mj_at 102 67 = some (.bipush 12, 0, 0) := by decide +kernel
theorem at_102_69 : mj_at 102 69 = some (.imul, 0, 0) := by decide +kernel
theorem at_102_70 : mj_at 102 70 = some (.aload_n 0, 0, 0) := by decide +kernel
theorem at_102_71 : mj_at 102 71 = some (.getfield 35, 10, 11) := by decide +kernel
theorem at_102_74 : mj_at 102 74 = some (.iconst 3, 0, 0) := by decide +kernel
theorem at_102_75 : mj_at 102 75 = some (.iload_n 1, 0, 0) := by decide +kernel
theorem at_102_76 : mj_at 102 76 = some (.imul, 0, 0) := by decide +kernel
theorem at_102_77 : mj_at 102 77 = some (.iload_n 2, 0, 0) := by decide +kernel
theorem at_102_78 : mj_at 102 78 = some (.iadd, 0, 0) := by decide +kernel
theorem at_102_79 : mj_at 102 79 = some (.iaload, 0, 0) := by decide +kernel
theorem at_102_80 : mj_at 102 80 = some (.iadd, 0, 0) := by decide +kernel
theorem at_102_81 : mj_at 102 81 = some (.istore 6, 0, 0) := by decide +kernel
theorem at_102_83 : mj_at 102 83 = some (.aload_n 0, 0, 0) := by decide +kernel
theorem at_102_84 : mj_at 102 84 = some (.getfield 23, 10, 7) := by decide +kernel
theorem at_102_87 : mj_at 102 87 = some (.iload 6, 0, 0) := by decide +kernel
theorem at_102_89 : mj_at 102 89 = some (.iload_n 3, 0, 0) := by decide +kernel
theorem at_102_90 : mj_at 102 90 = some (.iastore, 0, 0) := by decide +kernel
theorem at_102_91 : mj_at 102 91 = some (.aload_n 0, 0, 0) := by decide +kernel
theorem at_102_92 : mj_at 102 92 = some (.getfield 26, 10, 8) := by decide +kernel
theorem at_102_95 : mj_at 102 95 = some (.iload 6, 0, 0) := by decide +kernel
theorem at_102_97 : mj_at 102 97 = some (.iload 4, 0, 0) := by decide +kernel
theorem at_102_99 : mj_at 102 99 = some (.iastore, 0, 0) := by decide +kernel
theorem at_102_100 : mj_at 102 100 = some (.aload_n 0, 0, 0) := by decide +kernel
theorem at_102_101 : mj_at 102 101 = some (.getfield 29, 10, 9) := by decide +kernel
theorem at_102_104 : mj_at 102 104 = some (.iload 6, 0, 0) := by decide +kernel
theorem at_102_106 : mj_at 102 106 = some (.iload 5, 0, 0) := by decide +kernel
theorem at_102_108 : mj_at 102 108 = some (.iastore, 0, 0) := by decide +kernel
theorem at_102_109 : mj_at 102 109 = some (.aload_n 0, 0, 0) := by decide +kernel
theorem at_102_110 : mj_at 102 110 = some (.getfield 35, 10, 11) := by decide +kernel
theorem at_102_113 : mj_at 102 113 = some (.iconst 3, 0, 0) := by decide +kernel
theorem at_102_114 : mj_at 102 114 = some (.iload_n 1, 0, 0) := by decide +kernel
theorem at_102_115 : mj_at 102 115 = some (.imul, 0, 0) := by decide +kernel
theorem at_102_116 : mj_at 102 116 = some (.iload_n 2, 0, 0) := by decide +kernel
theorem at_102_117 : mj_at 102 117 = some (.iadd, 0, 0) := by decide +kernel
theorem at_102_118 : mj_at 102 118 = some (.dup2, 0, 0) := by decide +kernel
theorem at_102_119 : mj_at 102 119 = some (.iaload, 0, 0) := by decide +kernel
theorem at_102_120 : mj_at 102 120 = some (.iconst 1, 0, 0) := by decide +kernel
theorem at_102_121 : mj_at 102 121 = some (.iadd, 0, 0) := by decide +kernel
theorem at_102_122 : mj_at 102 122 = some (.iastore, 0, 0) := by decide +kernel
theorem at_102_123 : mj_at 102 123 = some (.aload_n 0, 0, 0) := by decide +kernel
theorem at_102_124 : mj_at 102 124 = some (.iconst 0, 0, 0) := by decide +kernel
theorem at_102_125 : mj_at 102 125 = some (.putfield 149, 10, 1) := by decide +kernel
theorem at_102_128 : mj_at 102 128 = some (.iconst 1, 0, 0) := by decide +kernel
theorem at_102_129 : mj_at 102 129 = some (.ireturn, 0, 0) := by decide +kernel
theorem at_103_0 : mj_at 103 0 = some (.iload_n 1, 0, 0) := by decide +kernel
theorem at_103_1 : mj_at 103 1 = some (.ifCond .lt 15, 0, 0) := by decide +kernel
theorem at_103_4 : mj_at 103 4 = some (.iload_n 1, 0, 0) := by decide +kernel
theorem at_103_5 : mj_at 103 5 = some (.aload_n 0, 0, 0) := by decide +kernel
theorem at_103_6 : mj_at 103 6 = some (.getfield 138, 10, 0) := by decide +kernel
theorem at_103_9 : mj_at 103 9 = some (.if_icmp .ge 7, 0, 0) := by decide +kernel
theorem at_103_12 : mj_at 103 12 = some (.iconst 1, 0, 0) := by decide +kernel
theorem at_103_13 : mj_at 103 13 = some (.goto 4, 0, 0) := by decide +kernel
theorem at_103_16 : mj_at 103 16 = some (.iconst 0, 0, 0) := by decide +kernel
theorem at_103_17 : mj_at 103 17 = some (.ireturn, 0, 0) := by decide +kernel
theorem at_104_0 : mj_at 104 0 = some (.iload_n 0, 0, 0) := by decide +kernel
theorem at_104_1 : mj_at 104 1 = some (.bipush 6, 0, 0) := by decide +kernel
theorem at_104_3 : mj_at 104 3 = some (.if_icmp .lt 13, 0, 0) := by decide +kernel
theorem at_104_6 : mj_at 104 6 = some (.iload_n 0, 0, 0) := by decide +kernel
theorem at_104_7 : mj_at 104 7 = some (.bipush 10, 0, 0) := by decide +kernel
theorem at_104_9 : mj_at 104 9 = some (.if_icmp .gt 7, 0, 0) := by decide +kernel
theorem at_104_12 : mj_at 104 12 = some (.iconst 1, 0, 0) := by decide +kernel
theorem at_104_13 : mj_at 104 13 = some (.goto 4, 0, 0) := by decide +kernel
theorem at_104_16 : mj_at 104 16 = some (.iconst 0, 0, 0) := by decide +kernel
theorem at_104_17 : mj_at 104 17 = some (.istore_n 3, 0, 0) := by decide +kernel
theorem at_104_18 : mj_at 104 18 = some (.iload_n 3, 0, 0) := by decide +kernel
theorem at_104_19 : mj_at 104 19 = some (.ifCond .eq 15, 0, 0) := by decide +kernel
theorem at_104_22 : mj_at 104 22 = some (.iload_n 1, 0, 0) := by decide +kernel
theorem at_104_23 : mj_at 104 23 = some (.ifCond .ne 7, 0, 0) := by decide +kernel
theorem at_104_26 : mj_at 104 26 = some (.iconst 1, 0, 0) := by decide +kernel
theorem at_104_27 : mj_at 104 27 = some (.goto 13, 0, 0) := by decide +kernel
theorem at_104_30 : mj_at 104 30 = some (.iconst 0, 0, 0) := by decide +kernel
theorem at_104_31 : mj_at 104 31 = some (.goto 9, 0, 0) := by decide +kernel
theorem at_104_34 : mj_at 104 34 = some (.iload_n 1, 0, 0) := by decide +kernel
theorem at_104_35 : mj_at 104 35 = some (.iconst 0, 0, 0) := by decide +kernel
theorem at_104_36 : mj_at 104 36 = some (.iconst 3, 0, 0) := by decide +kernel
theorem at_104_37 : mj_at 104 37 = some (.invokestatic 145, 101, 3) := by decide +kernel
theorem at_104_40 : mj_at 104 40 = some (.istore 4, 0, 0) := by decide +kernel
theorem at_104_42 : mj_at 104 42 = some (.iload_n 0, 0, 0) := by decide +kernel
theorem at_104_43 : mj_at 104 43 = some (.iconst 5, 0, 0) := by decide +kernel
theorem at_104_44 : mj_at 104 44 = some (.if_icmp .eq 9, 0, 0) := by decide +kernel
theorem at_104_47 : mj_at 104 47 = some (.iload_n 0, 0, 0) := by decide +kernel
theorem at_104_48 : mj_at 104 48 = some (.bipush 6, 0, 0) := by decide +kernel
theorem at_104_50 : mj_at 104 50 = some (.if_icmp .ne 7, 0, 0) := by decide +kernel
theorem at_104_53 : mj_at 104 53 = some (.iconst 1, 0, 0) := by decide +kernel
theorem at_104_54 : mj_at 104 54 = some (.goto 4, 0, 0) := by decide +kernel
theorem at_104_57 : mj_at 104 57 = some (.iconst 0, 0, 0) := by decide +kernel
theorem at_104_58 : mj_at 104 58 = some (.istore 5, 0, 0) := by decide +kernel
theorem at_104_60 : mj_at 104 60 = some (.iload_n 0, 0, 0) := by decide +kernel
theorem at_104_61 : mj_at 104 61 = some (.iconst 3, 0, 0) := by decide +kernel
theorem at_104_62 : mj_at 104 62 = some (.if_icmp .eq 8, 0, 0) := by decide +kernel
theorem at_104_65 : mj_at 104 65 = some (.iload_n 0, 0, 0) := by decide +kernel
theorem at_104_66 : mj_at 104 66 = some (.iconst 4, 0, 0) := by decide +kernel
theorem at_104_67 : mj_at 104 67 = some (.if_icmp .ne 8, 0, 0) := by decide +kernel
theorem at_104_70 : mj_at 104 70 = some (.bipush 7, 0, 0) := by decide +kernel
theorem at_104_72 : mj_at 104 72 = some (.goto 73, 0, 0) := by decide +kernel
theorem at_104_75 : mj_at 104 75 = some (.iload_n 0, 0, 0) := by decide +kernel
theorem at_104_76 : mj_at 104 76 = some (.iconst 5, 0, 0) := by decide +kernel
theorem at_104_77 : mj_at 104 77 = some (.if_icmp .ne 8, 0, 0) := by decide +kernel
theorem at_104_80 : mj_at 104 80 = some (.bipush 11, 0, 0) := by decide +kernel
theorem at_104_82 : mj_at 104 82 = some (.goto 63, 0, 0) := by decide +kernel
theorem at_104_85 : mj_at 104 85 = some (.iload_n 0, 0, 0) := by decide +kernel
theorem at_104_86 : mj_at 104 86 = some (.bipush 6, 0, 0) := by decide +kernel
theorem at_104_88 : mj_at 104 88 = some (.if_icmp .ne 8, 0, 0) := by decide +kernel
theorem at_104_91 : mj_at 104 91 = some (.bipush 8, 0, 0) := by decide +kernel
theorem at_104_93 : mj_at 104 93 = some (.goto 52, 0, 0) := by decide +kernel
theorem at_104_96 : mj_at 104 96 = some (.iload_n 0, 0, 0) := by decide +kernel
theorem at_104_97 : mj_at 104 97 = some (.bipush 7, 0, 0) := by decide +kernel
theorem at_104_99 : mj_at 104 99 = some (.if_icmp .eq 15, 0, 0) := by decide +kernel
theorem at_104_102 : mj_at 104 102 = some (.iload_n 0, 0, 0) := by decide +kernel
theorem at_104_103 : mj_at 104 103 = some (.bipush 9, 0, 0) := by decide +kernel
theorem at_104_105 : mj_at 104 105 = some (.if_icmp .eq 9, 0, 0) := by decide +kernel
theorem at_104_108 : mj_at 104 108 = some (.iload_n 0, 0, 0) := by decide +kernel
theorem at_104_109 : mj_at 104 109 = some (.bipush 12, 0, 0) := by decide +kernel
theorem at_104_111 : mj_at 104 111 = some (.if_icmp .ne 7, 0, 0) := by decide +kernel
theorem at_104_114 : mj_at 104 114 = some (.iconst 0, 0, 0) := by decide +kernel
theorem at_104_115 : mj_at 104 115 = some (.goto 30, 0, 0) := by decide +kernel
theorem at_104_118 : mj_at 104 118 = some (.iload_n 0, 0, 0) := by decide +kernel
theorem at_104_119 : mj_at 104 119 = some (.bipush 10, 0, 0) := by decide +kernel
theorem at_104_121 : mj_at 104 121 = some (.if_icmp .ne 7, 0, 0) := by decide +kernel
theorem at_104_124 : mj_at 104 124 = some (.iconst 2, 0, 0) := by decide +kernel
theorem at_104_125 : mj_at 104 125 = some (.goto 20, 0, 0) := by decide +kernel
theorem at_104_128 : mj_at 104 128 = some (.iload_n 0, 0, 0) := by decide +kernel
theorem at_104_129 : mj_at 104 129 = some (.bipush 11, 0, 0) := by decide +kernel
theorem at_104_131 : mj_at 104 131 = some (.if_icmp .eq 9, 0, 0) := by decide +kernel
theorem at_104_134 : mj_at 104 134 = some (.iload_n 0, 0, 0) := by decide +kernel
theorem at_104_135 : mj_at 104 135 = some (.bipush 13, 0, 0) := by decide +kernel
theorem at_104_137 : mj_at 104 137 = some (.if_icmp .lt 7, 0, 0) := by decide +kernel
theorem at_104_140 : mj_at 104 140 = some (.iconst 1, 0, 0) := by decide +kernel
theorem at_104_141 : mj_at 104 141 = some (.goto 4, 0, 0) := by decide +kernel
theorem at_104_144 : mj_at 104 144 = some (.iconst 3, 0, 0) := by decide +kernel
theorem at_104_145 : mj_at 104 145 = some (.istore 6, 0, 0) := by decide +kernel
theorem at_104_147 : mj_at 104 147 = some (.iload 4, 0, 0) := by decide +kernel
theorem at_104_149 : mj_at 104 149 = some (.ifCond .eq 22, 0, 0) := by decide +kernel
theorem at_104_152 : mj_at 104 152 = some (.iload_n 0, 0, 0) := by decide +kernel
theorem at_104_153 : mj_at 104 153 = some (.ifCond .eq 14, 0, 0) := by decide +kernel
theorem at_104_156 : mj_at 104 156 = some (.iload_n 2, 0, 0) := by decide +kernel
theorem at_104_157 : mj_at 104 157 = some (.iload 5, 0, 0) := by decide +kernel
theorem at_104_159 : mj_at 104 159 = some (.iload 6, 0, 0) := by decide +kernel
theorem at_104_161 : mj_at 104 161 = some (.invokestatic 145, 101, 3) := by decide +kernel
theorem at_104_164 : mj_at 104 164 = some (.ifCond .eq 7, 0, 0) := by decide +kernel
theorem at_104_167 : mj_at 104 167 = some (.iconst 1, 0, 0) := by decide +kernel
theorem at_104_168 : mj_at 104 168 = some (.goto 4, 0, 0) := by decide +kernel
theorem at_104_171 : mj_at 104 171 = some (.iconst 0, 0, 0) := by decide +kernel
theorem at_104_172 : mj_at 104 172 = some (.ireturn, 0, 0) := by decide +kernel
theorem at_105_0 : mj_at 105 0 = some (.aload_n 0, 0, 0) := by decide +kernel
theorem at_105_1 : mj_at 105 1 = some (.getfield 141, 10, 2) := by decide +kernel
theorem at_105_4 : mj_at 105 4 = some (.ifCond .ne 11, 0, 0) := by decide +kernel
theorem at_105_7 : mj_at 105 7 = some (.aload_n 0, 0, 0) := by decide +kernel
theorem at_105_8 : mj_at 105 8 = some (.iload_n 1, 0, 0) := by decide +kernel
theorem at_105_9 : mj_at 105 9 = some (.invokevirtual 152, 103, 1) := by decide +kernel
theorem at_105_12 : mj_at 105 12 = some (.ifCond .ne 5, 0, 0) := by decide +kernel
theorem at_105_15 : mj_at 105 15 = some (.iconst 0, 0, 0) := by decide +kernel
theorem at_105_16 : mj_at 105 16 = some (.ireturn, 0, 0) := by decide +kernel
theorem at_105_17 : mj_at 105 17 = some (.iconst 0, 0, 0) := by decide +kernel
theorem at_105_18 : mj_at 105 18 = some (.istore_n 2, 0, 0) := by decide +kernel
theorem at_105_19 : mj_at 105 19 = some (.iload_n 2, 0, 0) := by decide +kernel
theorem at_105_20 : mj_at 105 20 = some (.iconst 3, 0, 0) := by decide +kernel
theorem at_105_21 : mj_at 105 21 = some (.if_icmp .ge 20, 0, 0) := by decide +kernel
theorem at_105_24 : mj_at 105 24 = some (.aload_n 0, 0, 0) := by decide +kernel
theorem at_105_25 : mj_at 105 25 = some (.getfield 35, 10, 11) := by decide +kernel
theorem at_105_28 : mj_at 105 28 = some (.iconst 3, 0, 0) := by decide +kernel
theorem at_105_29 : mj_at 105 29 = some (.iload_n 1, 0, 0) := by decide +kernel
theorem at_105_30 : mj_at 105 30 = some (.imul, 0, 0) := by decide +kernel
theorem at_105_31 : mj_at 105 31 = some (.iload_n 2, 0, 0) := by decide +kernel
theorem at_105_32 : mj_at 105 32 = some (.iadd, 0, 0) := by decide +kernel
theorem at_105_33 : mj_at 105 33 = some (.iconst 0, 0, 0) := by decide +kernel
theorem at_105_34 : mj_at 105 34 = some (.iastore, 0, 0) := by decide +kernel
theorem at_105_35 : mj_at 105 35 = some (.iinc 2 1, 0, 0) := by decide +kernel
theorem at_105_38 : mj_at 105 38 = some (.goto (-19), 0, 0) := by decide +kernel
theorem at_105_41 : mj_at 105 41 = some (.aload_n 0, 0, 0) := by decide +kernel
theorem at_105_42 : mj_at 105 42 = some (.iconst 0, 0, 0) := by decide +kernel
theorem at_105_43 : mj_at 105 43 = some (.putfield 149, 10, 1) := by decide +kernel
theorem at_105_46 : mj_at 105 46 = some (.iconst 1, 0, 0) := by decide +kernel
theorem at_105_47 : mj_at 105 47 = some (.ireturn, 0, 0) := by decide +kernel
theorem at_106_0 : mj_at 106 0 = some (.aload_n 0, 0, 0) := by decide +kernel
theorem at_106_1 : mj_at 106 1 = some (.getfield 141, 10, 2) := by decide +kernel
theorem at_106_4 : mj_at 106 4 = some (.ifCond .eq 5, 0, 0) := by decide +kernel
theorem at_106_7 : mj_at 106 7 = some (.iconst (-1), 0, 0) := by decide +kernel
theorem at_106_8 : mj_at 106 8 = some (.ireturn, 0, 0) := by decide +kernel
theorem at_106_9 : mj_at 106 9 = some (.aload_n 0, 0, 0) := by decide +kernel
theorem at_106_10 : mj_at 106 10 = some (.iconst (-1), 0, 0) := by decide +kernel
theorem at_106_11 : mj_at 106 11 = some (.putfield 7, 10, 3) := by decide +kernel
theorem at_106_14 : mj_at 106 14 = some (.aload_n 0, 0, 0) := by decide +kernel
theorem at_106_15 : mj_at 106 15 = some (.iconst 0, 0, 0) := by decide +kernel
theorem at_106_16 : mj_at 106 16 = some (.putfield 149, 10, 1) := by decide +kernel
theorem at_106_19 : mj_at 106 19 = some (.aload_n 0, 0, 0) := by decide +kernel
theorem at_106_20 : mj_at 106 20 = some (.getfield 138, 10, 0) := by decide +kernel
theorem at_106_23 : mj_at 106 23 = some (.ifCond .ne 6, 0, 0) := by decide +kernel
theorem at_106_26 : mj_at 106 26 = some (.bipush 9, 0, 0) := by decide +kernel
theorem at_106_28 : mj_at 106 28 = some (.ireturn, 0, 0) := by decide +kernel
theorem at_106_29 : mj_at 106 29 = some (.iconst 0, 0, 0) := by decide +kernel
theorem at_106_30 : mj_at 106 30 = some (.istore_n 1, 0, 0) := by decide +kernel
theorem at_106_31 : mj_at 106 31 = some (.iload_n 1, 0, 0) := by decide +kernel
theorem at_106_32 : mj_at 106 32 = some (.aload_n 0, 0, 0) := by decide +kernel
theorem at_106_33 : mj_at 106 33 = some (.getfield 138, 10, 0) := by decide +kernel
theorem at_106_36 : mj_at 106 36 = some (.if_icmp .ge 26, 0, 0) := by decide +kernel
theorem at_106_39 : mj_at 106 39 = some (.aload_n 0, 0, 0) := by decide +kernel
theorem at_106_40 : mj_at 106 40 = some (.iload_n 1, 0, 0) := by decide +kernel
theorem at_106_41 : mj_at 106 41 = some (.invokevirtual 193, 107, 1) := by decide +kernel
theorem at_106_44 : mj_at 106 44 = some (.istore_n 2, 0, 0) := by decide +kernel
theorem at_106_45 : mj_at 106 45 = some (.iload_n 2, 0, 0) := by decide +kernel
theorem at_106_46 : mj_at 106 46 = some (.ifCond .le 10, 0, 0) := by decide +kernel
theorem at_106_49 : mj_at 106 49 = some (.iload_n 2, 0, 0) := by decide +kernel
theorem at_106_50 : mj_at 106 50 = some (.bipush 10, 0, 0) := by decide +kernel
theorem at_106_52 : mj_at 106 52 = some (.iload_n 1, 0, 0) := by decide +kernel
theorem at_106_53 : mj_at 106 53 = some (.imul, 0, 0) := by decide +kernel
theorem at_106_54 : mj_at 106 54 = some (.iadd, 0, 0) := by decide +kernel
theorem at_106_55 : mj_at 106 55 = some (.ireturn, 0, 0) := by decide +kernel
theorem at_106_56 : mj_at 106 56 = some (.iinc 1 1, 0, 0) := by decide +kernel
theorem at_106_59 : mj_at 106 59 = some (.goto (-28), 0, 0) := by decide +kernel
theorem at_106_62 : mj_at 106 62 = some (.iconst 0, 0, 0) := by decide +kernel
theorem at_106_63 : mj_at 106 63 = some (.istore_n 1, 0, 0) := by decide +kernel
theorem at_106_64 : mj_at 106 64 = some (.iload_n 1, 0, 0) := by decide +kernel
theorem at_106_65 : mj_at 106 65 = some (.aload_n 0, 0, 0) := by decide +kernel
theorem at_106_66 : mj_at 106 66 = some (.getfield 138, 10, 0) := by decide +kernel
theorem at_106_69 : mj_at 106 69 = some (.if_icmp .ge 14, 0, 0) := by decide +kernel
theorem at_106_72 : mj_at 106 72 = some (.aload_n 0, 0, 0) := by decide +kernel
theorem at_106_73 : mj_at 106 73 = some (.iload_n 1, 0, 0) := by decide +kernel
theorem at_106_74 : mj_at 106 74 = some (.invokevirtual 196, 115, 1) := by decide +kernel
theorem at_106_77 : mj_at 106 77 = some (.iinc 1 1, 0, 0) := by decide +kernel
theorem at_106_80 : mj_at 106 80 = some (.goto (-16), 0, 0) := by decide +kernel
theorem at_106_83 : mj_at 106 83 = some (.iconst 0, 0, 0) := by decide +kernel
theorem at_106_84 : mj_at 106 84 = some (.istore_n 1, 0, 0) := by decide +kernel
theorem at_106_85 : mj_at 106 85 = some (.iload_n 1, 0, 0) := by decide +kernel
theorem at_106_86 : mj_at 106 86 = some (.iconst 4, 0, 0) := by decide +kernel
theorem at_106_87 : mj_at 106 87 = some (.if_icmp .ge 20, 0, 0) := by decide +kernel
theorem at_106_90 : mj_at 106 90 = some (.aload_n 0, 0, 0) := by decide +kernel
theorem at_106_91 : mj_at 106 91 = some (.getfield 62, 10, 21) := by decide +kernel
theorem at_106_94 : mj_at 106 94 = some (.iload_n 1, 0, 0) := by decide +kernel
theorem at_106_95 : mj_at 106 95 = some (.aload_n 0, 0, 0) := by decide +kernel
theorem at_106_96 : mj_at 106 96 = some (.iload_n 1, 0, 0) := by decide +kernel
theorem at_106_97 : mj_at 106 97 = some (.invokevirtual 200, 117, 1) := by decide +kernel
theorem at_106_100 : mj_at 106 100 = some (.iastore, 0, 0) := by decide +kernel
theorem at_106_101 : mj_at 106 101 = some (.iinc 1 1, 0, 0) := by decide +kernel
theorem at_106_104 : mj_at 106 104 = some (.goto (-19), 0, 0) := by decide +kernel
theorem at_106_107 : mj_at 106 107 = some (.aload_n 0, 0, 0) := by decide +kernel
theorem at_106_108 : mj_at 106 108 = some (.iconst 1, 0, 0) := by decide +kernel
theorem at_106_109 : mj_at 106 109 = some (.putfield 149, 10, 1) := by decide +kernel
theorem at_106_112 : mj_at 106 112 = some (.iconst 0, 0, 0) := by decide +kernel
theorem at_106_113 : mj_at 106 113 = some (.istore_n 1, 0, 0) := by decide +kernel
theorem at_106_114 : mj_at 106 114 = some (.iconst 0, 0, 0) := by decide +kernel
theorem at_106_115 : mj_at 106 115 = some (.istore_n 2, 0, 0) := by decide +kernel
theorem at_106_116 : mj_at 106 116 = some (.iload_n 2, 0, 0) := by decide +kernel
theorem at_106_117 : mj_at 106 117 = some (.aload_n 0, 0, 0) := by decide +kernel
theorem at_106_118 : mj_at 106 118 = some (.getfield 138, 10, 0) := by decide +kernel
theorem at_106_121 : mj_at 106 121 = some (.if_icmp .ge 64, 0, 0) := by decide +kernel
theorem at_106_124 : mj_at 106 124 = some (.aload_n 0, 0, 0) := by decide +kernel
theorem at_106_125 : mj_at 106 125 = some (.getfield 56, 10, 19) := by decide +kernel
theorem at_106_128 : mj_at 106 128 = some (.iload_n 2, 0, 0) := by decide +kernel
theorem at_106_129 : mj_at 106 129 = some (.aload_n 0, 0, 0) := by decide +kernel
theorem at_106_130 : mj_at 106 130 = some (.iload_n 2, 0, 0) := by decide +kernel
theorem at_106_131 : mj_at 106 131 = some (.invokevirtual 203, 118, 1) := by decide +kernel
theorem at_106_134 : mj_at 106 134 = some (.iastore, 0, 0) := by decide +kernel
theorem at_106_135 : mj_at 106 135 = some (.aload_n 0, 0, 0) := by decide +kernel
theorem at_106_136 : mj_at 106 136 = some (.getfield 59, 10, 20) := by decide +kernel
theorem at_106_139 : mj_at 106 139 = some (.iload_n 2, 0, 0) := by decide +kernel
theorem at_106_140 : mj_at 106 140 = some (.iload_n 1, 0, 0) := by decide +kernel
theorem at_106_141 : mj_at 106 141 = some (.ifCond .ne 11, 0, 0) := by decide +kernel
theorem at_106_144 : mj_at 106 144 = some (.aload_n 0, 0, 0) := by decide +kernel
theorem at_106_145 : mj_at 106 145 = some (.iload_n 2, 0, 0) := by decide +kernel
theorem at_106_146 : mj_at 106 146 = some (.invokevirtual 206, 119, 1) := by decide +kernel
theorem at_106_149 : mj_at 106 149 = some (.goto 4, 0, 0) := by decide +kernel
theorem at_106_152 : mj_at 106 152 = some (.iconst (-1), 0, 0) := by decide +kernel
theorem at_106_153 : mj_at 106 153 = some (.iastore, 0, 0) := by decide +kernel
theorem at_106_154 : mj_at 106 154 = some (.iload_n 1, 0, 0) := by decide +kernel
theorem at_106_155 : mj_at 106 155 = some (.ifCond .ne 22, 0, 0) := by decide +kernel
theorem at_106_158 : mj_at 106 158 = some (.aload_n 0, 0, 0) := by decide +kernel
theorem at_106_159 : mj_at 106 159 = some (.getfield 59, 10, 20) := by decide +kernel
theorem at_106_162 : mj_at 106 162 = some (.iload_n 2, 0, 0) := by decide +kernel
theorem at_106_163 : mj_at 106 163 = some (.iaload, 0, 0) := by decide +kernel
theorem at_106_164 : mj_at 106 164 = some (.ifCond .ge 13, 0, 0) := by decide +kernel
theorem at_106_167 : mj_at 106 167 = some (.bipush 8, 0, 0) := by decide +kernel
theorem at_106_169 : mj_at 106 169 = some (.bipush 10, 0, 0) := by decide +kernel
theorem at_106_171 : mj_at 106 171 = some (.iload_n 2, 0, 0) := by decide +kernel
theorem at_106_172 : mj_at 106 172 = some (.imul, 0, 0) := by decide +kernel
theorem at_106_173 : mj_at 106 173 = some (.iadd, 0, 0) := by decide +kernel
theorem at_106_174 : mj_at 106 174 = some (.goto 4, 0, 0) := by decide +kernel
theorem at_106_177 : mj_at 106 177 = some (.iload_n 1, 0, 0) := by decide +kernel
theorem at_106_178 : mj_at 106 178 = some (.istore_n 1, 0, 0) := by decide +kernel
theorem at_106_179 : mj_at 106 179 = some (.iinc 2 1, 0, 0) := by decide +kernel
theorem at_106_182 : mj_at 106 182 = some (.goto (-66), 0, 0) := by decide +kernel
theorem at_106_185 : mj_at 106 185 = some (.iload_n 1, 0, 0) := by decide +kernel
theorem at_106_186 : mj_at 106 186 = some (.ireturn, 0, 0) := by decide +kernel
theorem at_107_0 : mj_at 107 0 = some (.iconst 0, 0, 0) := by decide +kernel
theorem at_107_1 : mj_at 107 1 = some (.istore_n 2, 0, 0) := by decide +kernel
theorem at_107_2 : mj_at 107 2 = some (.iload_n 2, 0, 0) := by decide +kernel
theorem at_107_3 : mj_at 107 3 = some (.iconst 3, 0, 0) := by decide +kernel
theorem at_107_4 : mj_at 107 4 = some (.if_icmp .ge 129, 0, 0) := by decide +kernel
theorem at_107_7 : mj_at 107 7 = some (.aload_n 0, 0, 0) := by decide +kernel
theorem at_107_8 : mj_at 107 8 = some (.getfield 35, 10, 11) := by decide +kernel
theorem at_107_11 : mj_at 107 11 = some (.iconst 3, 0, 0) := by decide +kernel
theorem at_107_12 : mj_at 107 12 = some (.iload_n 1, 0, 0) := by decide +kernel
theorem at_107_13 : mj_at 107 13 = some (.imul, 0, 0) := by decide +kernel
theorem at_107_14 : mj_at 107 14 = some (.iload_n 2, 0, 0) := by decide +kernel
theorem at_107_15 : mj_at 107 15 = some (.iadd, 0, 0) := by decide +kernel
theorem at_107_16 : mj_at 107 16 = some (.iaload, 0, 0) := by decide +kernel
theorem at_107_17 : mj_at 107 17 = some (.istore_n 3, 0, 0) := by decide +kernel
theorem at_107_18 : mj_at 107 18 = some (.aload_n 0, 0, 0) := by decide +kernel
theorem at_107_19 : mj_at 107 19 = some (.iconst 0, 0, 0) := by decide +kernel
theorem at_107_20 : mj_at 107 20 = some (.putfield 159, 10, 14) := by decide +kernel
theorem at_107_23 : mj_at 107 23 = some (.iconst 0, 0, 0) := by decide +kernel
theorem at_107_24 : mj_at 107 24 = some (.istore 4, 0, 0) := by decide +kernel
theorem at_107_26 : mj_at 107 26 = some (.iload 4, 0, 0) := by decide +kernel
theorem at_107_28 : mj_at 107 28 = some (.iload_n 3, 0, 0) := by decide +kernel
theorem at_107_29 : mj_at 107 29 = some (.if_icmp .gt 98, 0, 0) := by decide +kernel
theorem at_107_32 : mj_at 107 32 = some (.iload 4, 0, 0) := by decide +kernel
theorem at_107_34 : mj_at 107 34 = some (.iload_n 3, 0, 0) := by decide +kernel
theorem at_107_35 : mj_at 107 35 = some (.if_icmp .ge 14, 0, 0) := by decide +kernel
theorem at_107_38 : mj_at 107 38 = some (.aload_n 0, 0, 0) := by decide +kernel
theorem at_107_39 : mj_at 107 39 = some (.iload_n 1, 0, 0) := by decide +kernel
theorem at_107_40 : mj_at 107 40 = some (.iload_n 2, 0, 0) := by decide +kernel
theorem at_107_41 : mj_at 107 41 = some (.iload 4, 0, 0) := by decide +kernel
theorem at_107_43 : mj_at 107 43 = some (.invokevirtual 180, 108, 3) := by decide +kernel
theorem at_107_46 : mj_at 107 46 = some (.goto 28, 0, 0) := by decide +kernel
theorem at_107_49 : mj_at 107 49 = some (.iload_n 2, 0, 0) := by decide +kernel
theorem at_107_50 : mj_at 107 50 = some (.ifCond .ne 11, 0, 0) := by decide +kernel
theorem at_107_53 : mj_at 107 53 = some (.iload_n 3, 0, 0) := by decide +kernel
theorem at_107_54 : mj_at 107 54 = some (.ifCond .ne 7, 0, 0) := by decide +kernel
theorem at_107_57 : mj_at 107 57 = some (.iconst 1, 0, 0) := by decide +kernel
theorem at_107_58 : mj_at 107 58 = some (.goto 16, 0, 0) := by decide +kernel
theorem at_107_61 : mj_at 107 61 = some (.aload_n 0, 0, 0) := by decide +kernel
theorem at_107_62 : mj_at 107 62 = some (.getfield 159, 10, 14) := by decide +kernel
theorem at_107_65 : mj_at 107 65 = some (.ifCond .le 8, 0, 0) := by decide +kernel
theorem at_107_68 : mj_at 107 68 = some (.bipush 7, 0, 0) := by decide +kernel
theorem at_107_70 : mj_at 107 70 = some (.goto 4, 0, 0) := by decide +kernel
theorem at_107_73 : mj_at 107 73 = some (.iconst 0, 0, 0) := by decide +kernel
theorem at_107_74 : mj_at 107 74 = some (.istore 5, 0, 0) := by decide +kernel
theorem at_107_76 : mj_at 107 76 = some (.iload 5, 0, 0) := by decide +kernel
theorem at_107_78 : mj_at 107 78 = some (.ifCond .le 17, 0, 0) := by decide +kernel
theorem at_107_81 : mj_at 107 81 = some (.aload_n 0, 0, 0) := by decide +kernel
theorem at_107_82 : mj_at 107 82 = some (.bipush 100, 0, 0) := by decide +kernel
theorem at_107_84 : mj_at 107 84 = some (.iload_n 2, 0, 0) := by decide +kernel
theorem at_107_85 : mj_at 107 85 = some (.imul, 0, 0) := by decide +kernel
theorem at_107_86 : mj_at 107 86 = some (.iload 4, 0, 0) := by decide +kernel
theorem at_107_88 : mj_at 107 88 = some (.iadd, 0, 0) := by decide +kernel
theorem at_107_89 : mj_at 107 89 = some (.putfield 7, 10, 3) := by decide +kernel
theorem at_107_92 : mj_at 107 92 = some (.iload 5, 0, 0) := by decide +kernel
theorem at_107_94 : mj_at 107 94 = some (.ireturn, 0, 0) := by decide +kernel
theorem at_107_95 : mj_at 107 95 = some (.aload_n 0, 0, 0) := by decide +kernel
theorem at_107_96 : mj_at 107 96 = some (.iconst 3, 0, 0) := by decide +kernel
theorem at_107_97 : mj_at 107 97 = some (.iload_n 1, 0, 0) := by decide +kernel
theorem at_107_98 : mj_at 107 98 = some (.imul, 0, 0) := by decide +kernel
theorem at_107_99 : mj_at 107 99 = some (.iload_n 2, 0, 0) := by decide +kernel
theorem at_107_100 : mj_at 107 100 = some (.iadd, 0, 0) := by decide +kernel
theorem at_107_101 : mj_at 107 101 = some (.bipush 12, 0, 0) := by decide +kernel
theorem at_107_103 : mj_at 107 103 = some (.imul, 0, 0) := by decide +kernel
theorem at_107_104 : mj_at 107 104 = some (.iload 4, 0, 0) := by decide +kernel
theorem at_107_106 : mj_at 107 106 = some (.iadd, 0, 0) := by decide +kernel
theorem at_107_107 : mj_at 107 107 = some (.iload 4, 0, 0) := by decide +kernel
theorem at_107_109 : mj_at 107 109 = some (.iload_n 3, 0, 0) := by decide +kernel
theorem at_107_110 : mj_at 107 110 = some (.if_icmp .ge 7, 0, 0) := by decide +kernel
theorem at_107_113 : mj_at 107 113 = some (.iconst 1, 0, 0) := by decide +kernel
theorem at_107_114 : mj_at 107 114 = some (.goto 4, 0, 0) := by decide +kernel
theorem at_107_117 : mj_at 107 117 = some (.iconst 0, 0, 0) := by decide +kernel
theorem at_107_118 : mj_at 107 118 = some (.invokevirtual 184, 114, 2) := by decide +kernel
theorem at_107_121 : mj_at 107 121 = some (.iinc 4 1, 0, 0) := by decide +kernel
theorem at_107_124 : mj_at 107 124 = some (.goto (-98), 0, 0) := by decide +kernel
theorem at_107_127 : mj_at 107 127 = some (.iinc 2 1, 0, 0) := by decide +kernel
theorem at_107_130 : mj_at 107 130 = some (.goto (-128), 0, 0) := by decide +kernel
theorem at_107_133 : mj_at 107 133 = some (.iconst 0, 0, 0) := by decide +kernel
theorem at_107_134 : mj_at 107 134 = some (.ireturn, 0, 0) := by decide +kernel
theorem at_108_0 : mj_at 108 0 = some (.iconst 3, 0, 0) := by decide +kernel
theorem at_108_1 : mj_at 108 1 = some (.iload_n 1, 0, 0) := by decide +kernel
theorem at_108_2 : mj_at 108 2 = some (.imul, 0, 0) := by decide +kernel
theorem at_108_3 : mj_at 108 3 = some (.iload_n 2, 0, 0) := by decide +kernel
theorem at_108_4 : mj_at 108 4 = some (.iadd, 0, 0) := by decide +kernel
theorem at_108_5 : mj_at 108 5 = some (.bipush 12, 0, 0) := by decide +kernel
theorem at_108_7 : mj_at 108 7 = some (.imul, 0, 0) := by decide +kernel
theorem at_108_8 : mj_at 108 8 = some (.iload_n 3, 0, 0) := by decide +kernel
theorem at_108_9 : mj_at 108 9 = some (.iadd, 0, 0) := by decide +kernel
theorem at_108_10 : mj_at 108 10 = some (.istore 4, 0, 0) := by decide +kernel
theorem at_108_12 : mj_at 108 12 = some (.aload_n 0, 0, 0) := by decide +kernel
theorem at_108_13 : mj_at 108 13 = some (.getfield 23, 10, 7) := by decide +kernel
theorem at_108_16 : mj_at 108 16 = some (.iload 4, 0, 0) := by decide +kernel
theorem at_108_18 : mj_at 108 18 = some (.iaload, 0, 0) := by decide +kernel
theorem at_108_19 : mj_at 108 19 = some (.istore 5, 0, 0) := by decide +kernel
theorem at_108_21 : mj_at 108 21 = some (.aload_n 0, 0, 0) := by decide +kernel
theorem at_108_22 : mj_at 108 22 = some (.getfield 29, 10, 9) := by decide +kernel
theorem at_108_25 : mj_at 108 25 = some (.iload 4, 0, 0) := by decide +kernel
theorem at_108_27 : mj_at 108 27 = some (.iaload, 0, 0) := by decide +kernel
theorem at_108_28 : mj_at 108 28 = some (.istore 6, 0, 0) := by decide +kernel
theorem at_108_30 : mj_at 108 30 = some (.aload_n 0, 0, 0) := by decide +kernel
theorem at_108_31 : mj_at 108 31 = some (.getfield 159, 10, 14) := by decide +kernel
theorem at_108_34 : mj_at 108 34 = some (.ifCond .le 22, 0, 0) := by decide +kernel
theorem at_108_37 : mj_at 108 37 = some (.aload_n 0, 0, 0) := by decide +kernel
theorem at_108_38 : mj_at 108 38 = some (.getfield 23, 10, 7) := by decide +kernel
theorem at_108_41 : mj_at 108 41 = some (.aload_n 0, 0, 0) := by decide +kernel
theorem at_108_42 : mj_at 108 42 = some (.getfield 41, 10, 13) := by decide +kernel
theorem at_108_45 : mj_at 108 45 = some (.aload_n 0, 0, 0) := by decide +kernel
theorem at_108_46 : mj_at 108 46 = some (.getfield 159, 10, 14) := by decide +kernel
theorem at_108_49 : mj_at 108 49 = some (.iconst 1, 0, 0) := by decide +kernel
theorem at_108_50 : mj_at 108 50 = some (.isub, 0, 0) := by decide +kernel
theorem at_108_51 : mj_at 108 51 = some (.iaload, 0, 0) := by decide +kernel
theorem at_108_52 : mj_at 108 52 = some (.iaload, 0, 0) := by decide +kernel
theorem at_108_53 : mj_at 108 53 = some (.goto 4, 0, 0) := by decide +kernel
theorem at_108_56 : mj_at 108 56 = some (.iconst (-1), 0, 0) := by decide +kernel
theorem at_108_57 : mj_at 108 57 = some (.istore 7, 0, 0) := by decide +kernel
theorem at_108_59 : mj_at 108 59 = some (.iload 5, 0, 0) := by decide +kernel
theorem at_108_61 : mj_at 108 61 = some (.bipush 7, 0, 0) := by decide +kernel
theorem at_108_63 : mj_at 108 63 = some (.if_icmp .ne 10, 0, 0) := by decide +kernel
theorem at_108_66 : mj_at 108 66 = some (.iload 7, 0, 0) := by decide +kernel
theorem at_108_68 : mj_at 108 68 = some (.bipush 6, 0, 0) := by decide +kernel
theorem at_108_70 : mj_at 108 70 = some (.if_icmp .ne 17, 0, 0) := by decide +kernel
theorem at_108_73 : mj_at 108 73 = some (.iload 5, 0, 0) := by decide +kernel
theorem at_108_75 : mj_at 108 75 = some (.bipush 9, 0, 0) := by decide +kernel
theorem at_108_77 : mj_at 108 77 = some (.if_icmp .ne 12, 0, 0) := by decide +kernel
theorem at_108_80 : mj_at 108 80 = some (.iload 7, 0, 0) := by decide +kernel
theorem at_108_82 : mj_at 108 82 = some (.bipush 8, 0, 0) := by decide +kernel
theorem at_108_84 : mj_at 108 84 = some (.if_icmp .eq 5, 0, 0) := by decide +kernel
theorem at_108_87 : mj_at 108 87 = some (.iconst 2, 0, 0) := by decide +kernel
theorem at_108_88 : mj_at 108 88 = some (.ireturn, 0, 0) := by decide +kernel
theorem at_108_89 : mj_at 108 89 = some (.iload 5, 0, 0) := by decide +kernel
theorem at_108_91 : mj_at 108 91 = some (.bipush 6, 0, 0) := by decide +kernel
theorem at_108_93 : mj_at 108 93 = some (.if_icmp .ne 13, 0, 0) := by decide +kernel
theorem at_108_96 : mj_at 108 96 = some (.aload_n 0, 0, 0) := by decide +kernel
theorem at_108_97 : mj_at 108 97 = some (.invokevirtual 166, 109, 0) := by decide +kernel
theorem at_108_100 : mj_at 108 100 = some (.iconst 2, 0, 0) := by decide +kernel
theorem at_108_101 : mj_at 108 101 = some (.if_icmp .ne 5, 0, 0) := by decide +kernel
theorem at_108_104 : mj_at 108 104 = some (.iconst 3, 0, 0) := by decide +kernel
theorem at_108_105 : mj_at 108 105 = some (.ireturn, 0, 0) := by decide +kernel
theorem at_108_106 : mj_at 108 106 = some (.iload 5, 0, 0) := by decide +kernel
theorem at_108_108 : mj_at 108 108 = some (.bipush 10, 0, 0) := by decide +kernel
theorem at_108_110 : mj_at 108 110 = some (.if_icmp .ne 25, 0, 0) := by decide +kernel
theorem at_108_113 : mj_at 108 113 = some (.iload 6, 0, 0) := by decide +kernel
theorem at_108_115 : mj_at 108 115 = some (.iload_n 2, 0, 0) := by decide +kernel
theorem at_108_116 : mj_at 108 116 = some (.if_icmp .le 17, 0, 0) := by decide +kernel
theorem at_108_119 : mj_at 108 119 = some (.aload_n 0, 0, 0) := by decide +kernel
theorem at_108_120 : mj_at 108 120 = some (.getfield 35, 10, 11) := by decide +kernel
theorem at_108_123 : mj_at 108 123 = some (.iconst 3, 0, 0) := by decide +kernel
theorem at_108_124 : mj_at 108 124 = some (.iload_n 1, 0, 0) := by decide +kernel
theorem at_108_125 : mj_at 108 125 = some (.imul, 0, 0) := by decide +kernel
theorem at_108_126 : mj_at 108 126 = some (.iload 6, 0, 0) := by decide +kernel
theorem at_108_128 : mj_at 108 128 = some (.iadd, 0, 0) := by decide +kernel
theorem at_108_129 : mj_at 108 129 = some (.iaload, 0, 0) := by decide +kernel
theorem at_108_130 : mj_at 108 130 = some (.ifCond .ne 5, 0, 0) := by decide +kernel
theorem at_108_133 : mj_at 108 133 = some (.iconst 4, 0, 0) := by decide +kernel
theorem at_108_134 : mj_at 108 134 = some (.ireturn, 0, 0) := by decide +kernel
theorem at_108_135 : mj_at 108 135 = some (.iload 5, 0, 0) := by decide +kernel
theorem at_108_137 : mj_at 108 137 = some (.bipush 8, 0, 0) := by decide +kernel
theorem at_108_139 : mj_at 108 139 = some (.if_icmp .ne 10, 0, 0) := by decide +kernel
theorem at_108_142 : mj_at 108 142 = some (.iconst 1, 0, 0) := by decide +kernel
theorem at_108_143 : mj_at 108 143 = some (.iload 6, 0, 0) := by decide +kernel
theorem at_108_145 : mj_at 108 145 = some (.ishl, 0, 0) := by decide +kernel
theorem at_108_146 : mj_at 108 146 = some (.goto 21, 0, 0) := by decide +kernel
theorem at_108_149 : mj_at 108 149 = some (.iload 5, 0, 0) := by decide +kernel
theorem at_108_151 : mj_at 108 151 = some (.bipush 10, 0, 0) := by decide +kernel
theorem at_108_153 : mj_at 108 153 = some (.if_icmp .ne 13, 0, 0) := by decide +kernel
theorem at_108_156 : mj_at 108 156 = some (.aload_n 0, 0, 0) := by decide +kernel
theorem at_108_157 : mj_at 108 157 = some (.iload_n 1, 0, 0) := by decide +kernel
theorem at_108_158 : mj_at 108 158 = some (.iload 6, 0, 0) := by decide +kernel
theorem at_108_160 : mj_at 108 160 = some (.invokevirtual 170, 110, 2) := by decide +kernel
theorem at_108_163 : mj_at 108 163 = some (.goto 4, 0, 0) := by decide +kernel
theorem at_108_166 : mj_at 108 166 = some (.iconst 0, 0, 0) := by decide +kernel
theorem at_108_167 : mj_at 108 167 = some (.istore 8, 0, 0) := by decide +kernel
theorem at_108_169 : mj_at 108 169 = some (.iload 8, 0, 0) := by decide +kernel
theorem at_108_171 : mj_at 108 171 = some (.aload_n 0, 0, 0) := by decide +kernel
theorem at_108_172 : mj_at 108 172 = some (.invokevirtual 174, 111, 0) := by decide +kernel
theorem at_108_175 : mj_at 108 175 = some (.iand, 0, 0) := by decide +kernel
theorem at_108_176 : mj_at 108 176 = some (.ifCond .eq 5, 0, 0) := by decide +kernel
theorem at_108_179 : mj_at 108 179 = some (.iconst 5, 0, 0) := by decide +kernel
theorem at_108_180 : mj_at 108 180 = some (.ireturn, 0, 0) := by decide +kernel
theorem at_108_181 : mj_at 108 181 = some (.iload 5, 0, 0) := by decide +kernel
theorem at_108_183 : mj_at 108 183 = some (.iconst 5, 0, 0) := by decide +kernel
theorem at_108_184 : mj_at 108 184 = some (.if_icmp .ne 28, 0, 0) := by decide +kernel
theorem at_108_187 : mj_at 108 187 = some (.aload_n 0, 0, 0) := by decide +kernel
theorem at_108_188 : mj_at 108 188 = some (.iload 4, 0, 0) := by decide +kernel
theorem at_108_190 : mj_at 108 190 = some (.iload_n 3, 0, 0) := by decide +kernel
theorem at_108_191 : mj_at 108 191 = some (.aload_n 0, 0, 0) := by decide +kernel
theorem at_108_192 : mj_at 108 192 = some (.getfield 35, 10, 11) := by decide +kernel
theorem at_108_195 : mj_at 108 195 = some (.iconst 3, 0, 0) := by decide +kernel
theorem at_108_196 : mj_at 108 196 = some (.iload_n 1, 0, 0) := by decide +kernel
theorem at_108_197 : mj_at 108 197 = some (.imul, 0, 0) := by decide +kernel
theorem at_108_198 : mj_at 108 198 = some (.iload_n 2, 0, 0) := by decide +kernel
theorem at_108_199 : mj_at 108 199 = some (.iadd, 0, 0) := by decide +kernel
theorem at_108_200 : mj_at 108 200 = some (.iaload, 0, 0) := by decide +kernel
theorem at_108_201 : mj_at 108 201 = some (.invokevirtual 177, 112, 3) := by decide +kernel
theorem at_108_204 : mj_at 108 204 = some (.ifCond .ne 8, 0, 0) := by decide +kernel
theorem at_108_207 : mj_at 108 207 = some (.bipush 6, 0, 0) := by decide +kernel
theorem at_108_209 : mj_at 108 209 = some (.goto 4, 0, 0) := by decide +kernel
theorem at_108_212 : mj_at 108 212 = some (.iconst 0, 0, 0) := by decide +kernel
theorem at_108_213 : mj_at 108 213 = some (.ireturn, 0, 0) := by decide +kernel
theorem at_109_0 : mj_at 109 0 = some (.iconst 0, 0, 0) := by decide +kernel
theorem at_109_1 : mj_at 109 1 = some (.istore_n 1, 0, 0) := by decide +kernel
theorem at_109_2 : mj_at 109 2 = some (.iconst 0, 0, 0) := by decide +kernel
theorem at_109_3 : mj_at 109 3 = some (.istore_n 2, 0, 0) := by decide +kernel
theorem at_109_4 : mj_at 109 4 = some (.iload_n 2, 0, 0) := by decide +kernel
theorem at_109_5 : mj_at 109 5 = some (.aload_n 0, 0, 0) := by decide +kernel
theorem at_109_6 : mj_at 109 6 = some (.getfield 159, 10, 14) := by decide +kernel
theorem at_109_9 : mj_at 109 9 = some (.if_icmp .ge 33, 0, 0) := by decide +kernel
theorem at_109_12 : mj_at 109 12 = some (.aload_n 0, 0, 0) := by decide +kernel
theorem at_109_13 : mj_at 109 13 = some (.getfield 23, 10, 7) := by decide +kernel
theorem at_109_16 : mj_at 109 16 = some (.aload_n 0, 0, 0) := by decide +kernel
theorem at_109_17 : mj_at 109 17 = some (.getfield 41, 10, 13) := by decide +kernel
theorem at_109_20 : mj_at 109 20 = some (.iload_n 2, 0, 0) := by decide +kernel
theorem at_109_21 : mj_at 109 21 = some (.iaload, 0, 0) := by decide +kernel
theorem at_109_22 : mj_at 109 22 = some (.iaload, 0, 0) := by decide +kernel
theorem at_109_23 : mj_at 109 23 = some (.bipush 6, 0, 0) := by decide +kernel
theorem at_109_25 : mj_at 109 25 = some (.if_icmp .ne 9, 0, 0) := by decide +kernel
theorem at_109_28 : mj_at 109 28 = some (.iload_n 1, 0, 0) := by decide +kernel
theorem at_109_29 : mj_at 109 29 = some (.iconst 1, 0, 0) := by decide +kernel
theorem at_109_30 : mj_at 109 30 = some (.iadd, 0, 0) := by decide +kernel
theorem at_109_31 : mj_at 109 31 = some (.goto 4, 0, 0) := by decide +kernel
theorem at_109_34 : mj_at 109 34 = some (.iload_n 1, 0, 0) := by decide +kernel
theorem at_109_35 : mj_at 109 35 = some (.istore_n 1, 0, 0) := by decide +kernel
theorem at_109_36 : mj_at 109 36 = some (.iinc 2 1, 0, 0) := by decide +kernel
theorem at_109_39 : mj_at 109 39 = some (.goto (-35), 0, 0) := by decide +kernel
theorem at_109_42 : mj_at 109 42 = some (.iload_n 1, 0, 0) := by decide +kernel
theorem at_109_43 : mj_at 109 43 = some (.ireturn, 0, 0) := by decide +kernel
theorem at_110_0 : mj_at 110 0 = some (.iconst 0, 0, 0) := by decide +kernel
theorem at_110_1 : mj_at 110 1 = some (.istore_n 3, 0, 0) := by decide +kernel
theorem at_110_2 : mj_at 110 2 = some (.iconst 1, 0, 0) := by decide +kernel
theorem at_110_3 : mj_at 110 3 = some (.iload_n 2, 0, 0) := by decide +kernel
theorem at_110_4 : mj_at 110 4 = some (.ishl, 0, 0) := by decide +kernel
theorem at_110_5 : mj_at 110 5 = some (.istore 4, 0, 0) := by decide +kernel
theorem at_110_7 : mj_at 110 7 = some (.iload_n 2, 0, 0) := by decide +kernel
theorem at_110_8 : mj_at 110 8 = some (.istore 5, 0, 0) := by decide +kernel
theorem at_110_10 : mj_at 110 10 = some (.iload 5, 0, 0) := by decide +kernel
theorem at_110_12 : mj_at 110 12 = some (.iconst 3, 0, 0) := by decide +kernel
theorem at_110_13 : mj_at 110 13 = some (.if_icmp .ge 130, 0, 0) := by decide +kernel
theorem at_110_16 : mj_at 110 16 = some (.iconst 0, 0, 0) := by decide +kernel
theorem at_110_17 : mj_at 110 17 = some (.istore 6, 0, 0) := by decide +kernel
theorem at_110_19 : mj_at 110 19 = some (.iload 6, 0, 0) := by decide +kernel
theorem at_110_21 : mj_at 110 21 = some (.aload_n 0, 0, 0) := by decide +kernel
theorem at_110_22 : mj_at 110 22 = some (.getfield 35, 10, 11) := by decide +kernel
theorem at_110_25 : mj_at 110 25 = some (.iconst 3, 0, 0) := by decide +kernel
theorem at_110_26 : mj_at 110 26 = some (.iload_n 1, 0, 0) := by decide +kernel
theorem at_110_27 : mj_at 110 27 = some (.imul, 0, 0) := by decide +kernel
theorem at_110_28 : mj_at 110 28 = some (.iload 5, 0, 0) := by decide +kernel
theorem at_110_30 : mj_at 110 30 = some (.iadd, 0, 0) := by decide +kernel
theorem at_110_31 : mj_at 110 31 = some (.iaload, 0, 0) := by decide +kernel
theorem at_110_32 : mj_at 110 32 = some (.if_icmp .ge 105, 0, 0) := by decide +kernel
theorem at_110_35 : mj_at 110 35 = some (.iload 4, 0, 0) := by decide +kernel
theorem at_110_37 : mj_at 110 37 = some (.iload 5, 0, 0) := by decide +kernel
theorem at_110_39 : mj_at 110 39 = some (.ishr, 0, 0) := by decide +kernel
theorem at_110_40 : mj_at 110 40 = some (.iconst 1, 0, 0) := by decide +kernel
theorem at_110_41 : mj_at 110 41 = some (.iand, 0, 0) := by decide +kernel
theorem at_110_42 : mj_at 110 42 = some (.iconst 1, 0, 0) := by decide +kernel
theorem at_110_43 : mj_at 110 43 = some (.if_icmp .ne 94, 0, 0) := by decide +kernel
theorem at_110_46 : mj_at 110 46 = some (.iconst 3, 0, 0) := by decide +kernel
theorem at_110_47 : mj_at 110 47 = some (.iload_n 1, 0, 0) := by decide +kernel
theorem at_110_48 : mj_at 110 48 = some (.imul, 0, 0) := by decide +kernel
theorem at_110_49 : mj_at 110 49 = some (.iload 5, 0, 0) := by decide +kernel
theorem at_110_51 : mj_at 110 51 = some (.iadd, 0, 0) := by decide +kernel
theorem at_110_52 : mj_at 110 52 = some (.bipush 12, 0, 0) := by decide +kernel
theorem at_110_54 : mj_at 110 54 = some (.imul, 0, 0) := by decide +kernel
theorem at_110_55 : mj_at 110 55 = some (.iload 6, 0, 0) := by decide +kernel
theorem at_110_57 : mj_at 110 57 = some (.iadd, 0, 0) := by decide +kernel
theorem at_110_58 : mj_at 110 58 = some (.istore 7, 0, 0) := by decide +kernel
theorem at_110_60 : mj_at 110 60 = some (.aload_n 0, 0, 0) := by decide +kernel
theorem at_110_61 : mj_at 110 61 = some (.getfield 23, 10, 7) := by decide +kernel
theorem at_110_64 : mj_at 110 64 = some (.iload 7, 0, 0) := by decide +kernel
theorem at_110_66 : mj_at 110 66 = some (.iaload, 0, 0) := by decide +kernel
theorem at_110_67 : mj_at 110 67 = some (.bipush 8, 0, 0) := by decide +kernel
theorem at_110_69 : mj_at 110 69 = some (.if_icmp .ne 17, 0, 0) := by decide +kernel
theorem at_110_72 : mj_at 110 72 = some (.iload_n 3, 0, 0) := by decide +kernel
theorem at_110_73 : mj_at 110 73 = some (.iconst 1, 0, 0) := by decide +kernel
theorem at_110_74 : mj_at 110 74 = some (.aload_n 0, 0, 0) := by decide +kernel
theorem at_110_75 : mj_at 110 75 = some (.getfield 29, 10, 9) := by decide +kernel
theorem at_110_78 : mj_at 110 78 = some (.iload 7, 0, 0) := by decide +kernel
theorem at_110_80 : mj_at 110 80 = some (.iaload, 0, 0) := by decide +kernel
theorem at_110_81 : mj_at 110 81 = some (.ishl, 0, 0) := by decide +kernel
theorem at_110_82 : mj_at 110 82 = some (.ior, 0, 0) := by decide +kernel
theorem at_110_83 : mj_at 110 83 = some (.goto 4, 0, 0) := by decide +kernel
theorem at_110_86 : mj_at 110 86 = some (.iload_n 3, 0, 0) := by decide +kernel
theorem at_110_87 : mj_at 110 87 = some (.istore_n 3, 0, 0) := by decide +kernel
theorem at_110_88 : mj_at 110 88 = some (.aload_n 0, 0, 0) := by decide +kernel
theorem at_110_89 : mj_at 110 89 = some (.getfield 23, 10, 7) := by decide +kernel
theorem at_110_92 : mj_at 110 92 = some (.iload 7, 0, 0) := by decide +kernel
theorem at_110_94 : mj_at 110 94 = some (.iaload, 0, 0) := by decide +kernel
theorem at_110_95 : mj_at 110 95 = some (.bipush 10, 0, 0) := by decide +kernel
theorem at_110_97 : mj_at 110 97 = some (.if_icmp .ne 30, 0, 0) := by decide +kernel
theorem at_110_100 : mj_at 110 100 = some (.aload_n 0, 0, 0) := by decide +kernel
theorem at_110_101 : mj_at 110 101 = some (.getfield 29, 10, 9) := by decide +kernel
theorem at_110_104 : mj_at 110 104 = some (.iload 7, 0, 0) := by decide +kernel
theorem at_110_106 : mj_at 110 106 = some (.iaload, 0, 0) := by decide +kernel
theorem at_110_107 : mj_at 110 107 = some (.iload 5, 0, 0) := by decide +kernel
theorem at_110_109 : mj_at 110 109 = some (.if_icmp .le 18, 0, 0) := by decide +kernel
theorem at_110_112 : mj_at 110 112 = some (.iload 4, 0, 0) := by decide +kernel
theorem at_110_114 : mj_at 110 114 = some (.iconst 1, 0, 0) := by decide +kernel
theorem at_110_115 : mj_at 110 115 = some (.aload_n 0, 0, 0) := by decide +kernel
theorem at_110_116 : mj_at 110 116 = some (.getfield 29, 10, 9) := by decide +kernel
theorem at_110_119 : mj_at 110 119 = some (.iload 7, 0, 0) := by decide +kernel
theorem at_110_121 : mj_at 110 121 = some (.iaload, 0, 0) := by decide +kernel
theorem at_110_122 : mj_at 110 122 = some (.ishl, 0, 0) := by decide +kernel
theorem at_110_123 : mj_at 110 123 = some (.ior, 0, 0) := by decide +kernel
theorem at_110_124 : mj_at 110 124 = some (.goto 5, 0, 0) := by decide +kernel
theorem at_110_127 : mj_at 110 127 = some (.iload 4, 0, 0) := by decide +kernel
theorem at_110_129 : mj_at 110 129 = some (.istore 4, 0, 0) := by decide +kernel
theorem at_110_131 : mj_at 110 131 = some (.iinc 6 1, 0, 0) := by decide +kernel
theorem at_110_134 : mj_at 110 134 = some (.goto (-115), 0, 0) := by decide +kernel
theorem at_110_137 : mj_at 110 137 = some (.iinc 5 1, 0, 0) := by decide +kernel
theorem at_110_140 : mj_at 110 140 = some (.goto (-130), 0, 0) := by decide +kernel
theorem at_110_143 : mj_at 110 143 = some (.iload_n 3, 0, 0) := by decide +kernel
theorem at_110_144 : mj_at 110 144 = some (.ireturn, 0, 0) := by decide +kernel
theorem at_111_0 : mj_at 111 0 = some (.iconst 0, 0, 0) := by decide +kernel
theorem at_111_1 : mj_at 111 1 = some (.istore_n 1, 0, 0) := by decide +kernel
theorem at_111_2 : mj_at 111 2 = some (.iconst 0, 0, 0) := by decide +kernel
theorem at_111_3 : mj_at 111 3 = some (.istore_n 2, 0, 0) := by decide +kernel
theorem at_111_4 : mj_at 111 4 = some (.iload_n 2, 0, 0) := by decide +kernel
theorem at_111_5 : mj_at 111 5 = some (.aload_n 0, 0, 0) := by decide +kernel
theorem at_111_6 : mj_at 111 6 = some (.getfield 159, 10, 14) := by decide +kernel
theorem at_111_9 : mj_at 111 9 = some (.if_icmp .ge 45, 0, 0) := by decide +kernel
theorem at_111_12 : mj_at 111 12 = some (.aload_n 0, 0, 0) := by decide +kernel
theorem at_111_13 : mj_at 111 13 = some (.getfield 23, 10, 7) := by decide +kernel
theorem at_111_16 : mj_at 111 16 = some (.aload_n 0, 0, 0) := by decide +kernel
theorem at_111_17 : mj_at 111 17 = some (.getfield 41, 10, 13) := by decide +kernel
theorem at_111_20 : mj_at 111 20 = some (.iload_n 2, 0, 0) := by decide +kernel
theorem at_111_21 : mj_at 111 21 = some (.iaload, 0, 0) := by decide +kernel
theorem at_111_22 : mj_at 111 22 = some (.iaload, 0, 0) := by decide +kernel
theorem at_111_23 : mj_at 111 23 = some (.bipush 8, 0, 0) := by decide +kernel
theorem at_111_25 : mj_at 111 25 = some (.if_icmp .ne 21, 0, 0) := by decide +kernel
theorem at_111_28 : mj_at 111 28 = some (.iload_n 1, 0, 0) := by decide +kernel
theorem at_111_29 : mj_at 111 29 = some (.iconst 1, 0, 0) := by decide +kernel
theorem at_111_30 : mj_at 111 30 = some (.aload_n 0, 0, 0) := by decide +kernel
theorem at_111_31 : mj_at 111 31 = some (.getfield 29, 10, 9) := by decide +kernel
theorem at_111_34 : mj_at 111 34 = some (.aload_n 0, 0, 0) := by decide +kernel
theorem at_111_35 : mj_at 111 35 = some (.getfield 41, 10, 13) := by decide +kernel
theorem at_111_38 : mj_at 111 38 = some (.iload_n 2, 0, 0) := by decide +kernel
theorem at_111_39 : mj_at 111 39 = some (.iaload, 0, 0) := by decide +kernel
theorem at_111_40 : mj_at 111 40 = some (.iaload, 0, 0) := by decide +kernel
theorem at_111_41 : mj_at 111 41 = some (.ishl, 0, 0) := by decide +kernel
theorem at_111_42 : mj_at 111 42 = some (.ior, 0, 0) := by decide +kernel
theorem at_111_43 : mj_at 111 43 = some (.goto 4, 0, 0) := by decide +kernel
theorem at_111_46 : mj_at 111 46 = some (.iload_n 1, 0, 0) := by decide +kernel
theorem at_111_47 : mj_at 111 47 = some (.istore_n 1, 0, 0) := by decide +kernel
theorem at_111_48 : mj_at 111 48 = some (.iinc 2 1, 0, 0) := by decide +kernel
theorem at_111_51 : mj_at 111 51 = some (.goto (-47), 0, 0) := by decide +kernel
theorem at_111_54 : mj_at 111 54 = some (.iload_n 1, 0, 0) := by decide +kernel
theorem at_111_55 : mj_at 111 55 = some (.ireturn, 0, 0) := by decide +kernel
theorem at_112_0 : mj_at 112 0 = some (.iload_n 2, 0, 0) := by decide +kernel
theorem at_112_1 : mj_at 112 1 = some (.aload_n 0, 0, 0) := by decide +kernel
theorem at_112_2 : mj_at 112 2 = some (.getfield 29, 10, 9) := by decide +kernel
theorem at_112_5 : mj_at 112 5 = some (.iload_n 1, 0, 0) := by decide +kernel
theorem at_112_6 : mj_at 112 6 = some (.iaload, 0, 0) := by decide +kernel
theorem at_112_7 : mj_at 112 7 = some (.iadd, 0, 0) := by decide +kernel
theorem at_112_8 : mj_at 112 8 = some (.iconst 1, 0, 0) := by decide +kernel
theorem at_112_9 : mj_at 112 9 = some (.iadd, 0, 0) := by decide +kernel
theorem at_112_10 : mj_at 112 10 = some (.iload_n 3, 0, 0) := by decide +kernel
theorem at_112_11 : mj_at 112 11 = some (.if_icmp .le 5, 0, 0) := by decide +kernel
theorem at_112_14 : mj_at 112 14 = some (.iconst 0, 0, 0) := by decide +kernel
theorem at_112_15 : mj_at 112 15 = some (.ireturn, 0, 0) := by decide +kernel
theorem at_112_16 : mj_at 112 16 = some (.iconst 0, 0, 0) := by decide +kernel
theorem at_112_17 : mj_at 112 17 = some (.istore 4, 0, 0) := by decide +kernel
theorem at_112_19 : mj_at 112 19 = some (.iload_n 1, 0, 0) := by decide +kernel
theorem at_112_20 : mj_at 112 20 = some (.iconst 1, 0, 0) := by decide +kernel
theorem at_112_21 : mj_at 112 21 = some (.iadd, 0, 0) := by decide +kernel
theorem at_112_22 : mj_at 112 22 = some (.istore 5, 0, 0) := by decide +kernel
theorem at_112_24 : mj_at 112 24 = some (.iload 5, 0, 0) := by decide +kernel
theorem at_112_26 : mj_at 112 26 = some (.iload_n 1, 0, 0) := by decide +kernel
theorem at_112_27 : mj_at 112 27 = some (.aload_n 0, 0, 0) := by decide +kernel
theorem at_112_28 : mj_at 112 28 = some (.getfield 29, 10, 9) := by decide +kernel
theorem at_112_31 : mj_at 112 31 = some (.iload_n 1, 0, 0) := by decide +kernel
theorem at_112_32 : mj_at 112 32 = some (.iaload, 0, 0) := by decide +kernel
theorem at_112_33 : mj_at 112 33 = some (.iadd, 0, 0) := by decide +kernel
theorem at_112_34 : mj_at 112 34 = some (.if_icmp .gt 31, 0, 0) := by decide +kernel
theorem at_112_37 : mj_at 112 37 = some (.iload 4, 0, 0) := by decide +kernel
theorem at_112_39 : mj_at 112 39 = some (.aload_n 0, 0, 0) := by decide +kernel
theorem at_112_40 : mj_at 112 40 = some (.getfield 23, 10, 7) := by decide +kernel
theorem at_112_43 : mj_at 112 43 = some (.iload 5, 0, 0) := by decide +kernel
theorem at_112_45 : mj_at 112 45 = some (.iaload, 0, 0) := by decide +kernel
theorem at_112_46 : mj_at 112 46 = some (.invokestatic 162, 113, 1) := by decide +kernel
theorem at_112_49 : mj_at 112 49 = some (.iadd, 0, 0) := by decide +kernel
theorem at_112_50 : mj_at 112 50 = some (.istore 4, 0, 0) := by decide +kernel
theorem at_112_52 : mj_at 112 52 = some (.iload 4, 0, 0) := by decide +kernel
theorem at_112_54 : mj_at 112 54 = some (.ifCond .ge 5, 0, 0) := by decide +kernel
theorem at_112_57 : mj_at 112 57 = some (.iconst 0, 0, 0) := by decide +kernel
theorem at_112_58 : mj_at 112 58 = some (.ireturn, 0, 0) := by decide +kernel
theorem at_112_59 : mj_at 112 59 = some (.iinc 5 1, 0, 0) := by decide +kernel
theorem at_112_62 : mj_at 112 62 = some (.goto (-38), 0, 0) := by decide +kernel
theorem at_112_65 : mj_at 112 65 = some (.iload 4, 0, 0) := by decide +kernel
theorem at_112_67 : mj_at 112 67 = some (.ifCond .ne 7, 0, 0) := by decide +kernel
theorem at_112_70 : mj_at 112 70 = some (.iconst 1, 0, 0) := by decide +kernel
theorem at_112_71 : mj_at 112 71 = some (.goto 4, 0, 0) := by decide +kernel
theorem at_112_74 : mj_at 112 74 = some (.iconst 0, 0, 0) := by decide +kernel
theorem at_112_75 : mj_at 112 75 = some (.ireturn, 0, 0) := by decide +kernel
theorem at_113_0 : mj_at 113 0 = some (.iload_n 0, 0, 0) := by decide +kernel
theorem at_113_1 : mj_at 113 1 = some (.bipush 6, 0, 0) := by decide +kernel
theorem at_113_3 : mj_at 113 3 = some (.if_icmp .eq 9, 0, 0) := by decide +kernel
theorem at_113_6 : mj_at 113 6 = some (.iload_n 0, 0, 0) := by decide +kernel
theorem at_113_7 : mj_at 113 7 = some (.bipush 8, 0, 0) := by decide +kernel
theorem at_113_9 : mj_at 113 9 = some (.if_icmp .ne 7, 0, 0) := by decide +kernel
theorem at_113_12 : mj_at 113 12 = some (.iconst 1, 0, 0) := by decide +kernel
theorem at_113_13 : mj_at 113 13 = some (.goto 20, 0, 0) := by decide +kernel
theorem at_113_16 : mj_at 113 16 = some (.iload_n 0, 0, 0) := by decide +kernel
theorem at_113_17 : mj_at 113 17 = some (.bipush 7, 0, 0) := by decide +kernel
theorem at_113_19 : mj_at 113 19 = some (.if_icmp .eq 9, 0, 0) := by decide +kernel
theorem at_113_22 : mj_at 113 22 = some (.iload_n 0, 0, 0) := by decide +kernel
theorem at_113_23 : mj_at 113 23 = some (.bipush 9, 0, 0) := by decide +kernel
theorem at_113_25 : mj_at 113 25 = some (.if_icmp .ne 7, 0, 0) := by decide +kernel
theorem at_113_28 : mj_at 113 28 = some (.iconst (-1), 0, 0) := by decide +kernel
theorem at_113_29 : mj_at 113 29 = some (.goto 4, 0, 0) := by decide +kernel
theorem at_113_32 : mj_at 113 32 = some (.iconst 0, 0, 0) := by decide +kernel
theorem at_113_33 : mj_at 113 33 = some (.ireturn, 0, 0) := by decide +kernel
theorem at_114_0 : mj_at 114 0 = some (.iload_n 2, 0, 0) := by decide +kernel
theorem at_114_1 : mj_at 114 1 = some (.ifCond .eq 15, 0, 0) := by decide +kernel
theorem at_114_4 : mj_at 114 4 = some (.aload_n 0, 0, 0) := by decide +kernel
theorem at_114_5 : mj_at 114 5 = some (.getfield 23, 10, 7) := by decide +kernel
theorem at_114_8 : mj_at 114 8 = some (.iload_n 1, 0, 0) := by decide +kernel
theorem at_114_9 : mj_at 114 9 = some (.iaload, 0, 0) := by decide +kernel
theorem at_114_10 : mj_at 114 10 = some (.invokestatic 162, 113, 1) := by decide +kernel
theorem at_114_13 : mj_at 114 13 = some (.goto 4, 0, 0) := by decide +kernel
theorem at_114_16 : mj_at 114 16 = some (.iconst 0, 0, 0) := by decide +kernel
theorem at_114_17 : mj_at 114 17 = some (.istore_n 3, 0, 0) := by decide +kernel
theorem at_114_18 : mj_at 114 18 = some (.iload_n 3, 0, 0) := by decide +kernel
theorem at_114_19 : mj_at 114 19 = some (.ifCond .le 23, 0, 0) := by decide +kernel
theorem at_114_22 : mj_at 114 22 = some (.aload_n 0, 0, 0) := by decide +kernel
theorem at_114_23 : mj_at 114 23 = some (.getfield 41, 10, 13) := by decide +kernel
theorem at_114_26 : mj_at 114 26 = some (.aload_n 0, 0, 0) := by decide +kernel
theorem at_114_27 : mj_at 114 27 = some (.getfield 159, 10, 14) := by decide +kernel
theorem at_114_30 : mj_at 114 30 = some (.iload_n 1, 0, 0) := by decide +kernel
theorem at_114_31 : mj_at 114 31 = some (.iastore, 0, 0) := by decide +kernel
theorem at_114_32 : mj_at 114 32 = some (.aload_n 0, 0, 0) := by decide +kernel
theorem at_114_33 : mj_at 114 33 = some (.dup, 0, 0) := by decide +kernel
theorem at_114_34 : mj_at 114 34 = some (.getfield 159, 10, 14) := by decide +kernel
theorem at_114_37 : mj_at 114 37 = some (.iconst 1, 0, 0) := by decide +kernel
theorem at_114_38 : mj_at 114 38 = some (.iadd, 0, 0) := by decide +kernel
theorem at_114_39 : mj_at 114 39 = some (.putfield 159, 10, 14) := by decide +kernel
theorem at_114_42 : mj_at 114 42 = some (.iload_n 3, 0, 0) := by decide +kernel
theorem at_114_43 : mj_at 114 43 = some (.ifCond .ge 43, 0, 0) := by decide +kernel
theorem at_114_46 : mj_at 114 46 = some (.aload_n 0, 0, 0) := by decide +kernel
theorem at_114_47 : mj_at 114 47 = some (.dup, 0, 0) := by decide +kernel
theorem at_114_48 : mj_at 114 48 = some (.getfield 159, 10, 14) := by decide +kernel
theorem at_114_51 : mj_at 114 51 = some (.iconst 1, 0, 0) := by decide +kernel
theorem at_114_52 : mj_at 114 52 = some (.isub, 0, 0) := by decide +kernel
theorem at_114_53 : mj_at 114 53 = some (.putfield 159, 10, 14) := by decide +kernel
theorem at_114_56 : mj_at 114 56 = some (.aload_n 0, 0, 0) := by decide +kernel
theorem at_114_57 : mj_at 114 57 = some (.getfield 32, 10, 10) := by decide +kernel
theorem at_114_60 : mj_at 114 60 = some (.iload_n 1, 0, 0) := by decide +kernel
theorem at_114_61 : mj_at 114 61 = some (.aload_n 0, 0, 0) := by decide +kernel
theorem at_114_62 : mj_at 114 62 = some (.getfield 41, 10, 13) := by decide +kernel
theorem at_114_65 : mj_at 114 65 = some (.aload_n 0, 0, 0) := by decide +kernel
theorem at_114_66 : mj_at 114 66 = some (.getfield 159, 10, 14) := by decide +kernel
theorem at_114_69 : mj_at 114 69 = some (.iaload, 0, 0) := by decide +kernel
theorem at_114_70 : mj_at 114 70 = some (.iastore, 0, 0) := by decide +kernel
theorem at_114_71 : mj_at 114 71 = some (.aload_n 0, 0, 0) := by decide +kernel
theorem at_114_72 : mj_at 114 72 = some (.getfield 32, 10, 10) := by decide +kernel
theorem at_114_75 : mj_at 114 75 = some (.aload_n 0, 0, 0) := by decide +kernel
theorem at_114_76 : mj_at 114 76 = some (.getfield 41, 10, 13) := by decide +kernel
theorem at_114_79 : mj_at 114 79 = some (.aload_n 0, 0, 0) := by decide +kernel
theorem at_114_80 : mj_at 114 80 = some (.getfield 159, 10, 14) := by decide +kernel
theorem at_114_83 : mj_at 114 83 = some (.iaload, 0, 0) := by decide +kernel
theorem at_114_84 : mj_at 114 84 = some (.iload_n 1, 0, 0) := by decide +kernel
theorem at_114_85 : mj_at 114 85 = some (.iastore, 0, 0) := by decide +kernel
theorem at_114_86 : mj_at 114 86 = some (.return_, 0, 0) := by decide +kernel
theorem at_115_0 : mj_at 115 0 = some (.iconst 2, 0, 0) := by decide +kernel
theorem at_115_1 : mj_at 115 1 = some (.istore_n 2, 0, 0) := by decide +kernel
theorem at_115_2 : mj_at 115 2 = some (.iload_n 2, 0, 0) := by decide +kernel
theorem at_115_3 : mj_at 115 3 = some (.ifCond .lt 38, 0, 0) := by decide +kernel
theorem at_115_6 : mj_at 115 6 = some (.aload_n 0, 0, 0) := by decide +kernel
theorem at_115_7 : mj_at 115 7 = some (.getfield 47, 10, 16) := by decide +kernel
theorem at_115_10 : mj_at 115 10 = some (.iload_n 2, 0, 0) := by decide +kernel
theorem at_115_11 : mj_at 115 11 = some (.aload_n 0, 0, 0) := by decide +kernel
theorem at_115_12 : mj_at 115 12 = some (.iconst 3, 0, 0) := by decide +kernel
theorem at_115_13 : mj_at 115 13 = some (.iload_n 1, 0, 0) := by decide +kernel
theorem at_115_14 : mj_at 115 14 = some (.imul, 0, 0) := by decide +kernel
theorem at_115_15 : mj_at 115 15 = some (.iload_n 2, 0, 0) := by decide +kernel
theorem at_115_16 : mj_at 115 16 = some (.iadd, 0, 0) := by decide +kernel
theorem at_115_17 : mj_at 115 17 = some (.bipush 12, 0, 0) := by decide +kernel
theorem at_115_19 : mj_at 115 19 = some (.imul, 0, 0) := by decide +kernel
theorem at_115_20 : mj_at 115 20 = some (.iconst 0, 0, 0) := by decide +kernel
theorem at_115_21 : mj_at 115 21 = some (.aload_n 0, 0, 0) := by decide +kernel
theorem at_115_22 : mj_at 115 22 = some (.getfield 35, 10, 11) := by decide +kernel
theorem at_115_25 : mj_at 115 25 = some (.iconst 3, 0, 0) := by decide +kernel
theorem at_115_26 : mj_at 115 26 = some (.iload_n 1, 0, 0) := by decide +kernel
theorem at_115_27 : mj_at 115 27 = some (.imul, 0, 0) := by decide +kernel
theorem at_115_28 : mj_at 115 28 = some (.iload_n 2, 0, 0) := by decide +kernel
theorem at_115_29 : mj_at 115 29 = some (.iadd, 0, 0) := by decide +kernel
theorem at_115_30 : mj_at 115 30 = some (.iaload, 0, 0) := by decide +kernel
theorem at_115_31 : mj_at 115 31 = some (.invokevirtual 188, 116, 3) := by decide +kernel
theorem at_115_34 : mj_at 115 34 = some (.iastore, 0, 0) := by decide +kernel
theorem at_115_35 : mj_at 115 35 = some (.iinc 2 (-1), 0, 0) := by decide +kernel
theorem at_115_38 : mj_at 115 38 = some (.goto (-36), 0, 0) := by decide +kernel
theorem at_115_41 : mj_at 115 41 = some (.aload_n 0, 0, 0) := by decide +kernel
theorem at_115_42 : mj_at 115 42 = some (.getfield 50, 10, 17) := by decide +kernel
theorem at_115_45 : mj_at 115 45 = some (.iload_n 1, 0, 0) := by decide +kernel
theorem at_115_46 : mj_at 115 46 = some (.aload_n 0, 0, 0) := by decide +kernel
theorem at_115_47 : mj_at 115 47 = some (.getfield 47, 10, 16) := by decide +kernel
theorem at_115_50 : mj_at 115 50 = some (.iconst 0, 0, 0) := by decide +kernel
theorem at_115_51 : mj_at 115 51 = some (.iaload, 0, 0) := by decide +kernel
theorem at_115_52 : mj_at 115 52 = some (.iastore, 0, 0) := by decide +kernel
theorem at_115_53 : mj_at 115 53 = some (.iconst 0, 0, 0) := by decide +kernel
theorem at_115_54 : mj_at 115 54 = some (.istore_n 2, 0, 0) := by decide +kernel
theorem at_115_55 : mj_at 115 55 = some (.iload_n 2, 0, 0) := by decide +kernel
theorem at_115_56 : mj_at 115 56 = some (.iconst 4, 0, 0) := by decide +kernel
theorem at_115_57 : mj_at 115 57 = some (.if_icmp .ge 20, 0, 0) := by decide +kernel
theorem at_115_60 : mj_at 115 60 = some (.aload_n 0, 0, 0) := by decide +kernel
theorem at_115_61 : mj_at 115 61 = some (.getfield 53, 10, 18) := by decide +kernel
theorem at_115_64 : mj_at 115 64 = some (.iconst 4, 0, 0) := by decide +kernel
theorem at_115_65 : mj_at 115 65 = some (.iload_n 1, 0, 0) := by decide +kernel
theorem at_115_66 : mj_at 115 66 = some (.imul, 0, 0) := by decide +kernel
theorem at_115_67 : mj_at 115 67 = some (.iload_n 2, 0, 0) := by decide +kernel
theorem at_115_68 : mj_at 115 68 = some (.iadd, 0, 0) := by decide +kernel
theorem at_115_69 : mj_at 115 69 = some (.iconst 0, 0, 0) := by decide +kernel
theorem at_115_70 : mj_at 115 70 = some (.iastore, 0, 0) := by decide +kernel
theorem at_115_71 : mj_at 115 71 = some (.iinc 2 1, 0, 0) := by decide +kernel
theorem at_115_74 : mj_at 115 74 = some (.goto (-19), 0, 0) := by decide +kernel
theorem at_115_77 : mj_at 115 77 = some (.iconst 0, 0, 0) := by decide +kernel
theorem at_115_78 : mj_at 115 78 = some (.istore_n 2, 0, 0) := by decide +kernel
theorem at_115_79 : mj_at 115 79 = some (.iload_n 2, 0, 0) := by decide +kernel
theorem at_115_80 : mj_at 115 80 = some (.iconst 3, 0, 0) := by decide +kernel
theorem at_115_81 : mj_at 115 81 = some (.if_icmp .ge 126, 0, 0) := by decide +kernel
theorem at_115_84 : mj_at 115 84 = some (.iconst 3, 0, 0) := by decide +kernel
theorem at_115_85 : mj_at 115 85 = some (.iload_n 1, 0, 0) := by decide +kernel
theorem at_115_86 : mj_at 115 86 = some (.imul, 0, 0) := by decide +kernel
theorem at_115_87 : mj_at 115 87 = some (.iload_n 2, 0, 0) := by decide +kernel
theorem at_115_88 : mj_at 115 88 = some (.iadd, 0, 0) := by decide +kernel
theorem at_115_89 : mj_at 115 89 = some (.bipush 12, 0, 0) := by decide +kernel
theorem at_115_91 : mj_at 115 91 = some (.imul, 0, 0) := by decide +kernel
theorem at_115_92 : mj_at 115 92 = some (.istore_n 3, 0, 0) := by decide +kernel
theorem at_115_93 : mj_at 115 93 = some (.iconst 0, 0, 0) := by decide +kernel
theorem at_115_94 : mj_at 115 94 = some (.istore 4, 0, 0) := by decide +kernel
theorem at_115_96 : mj_at 115 96 = some (.iload 4, 0, 0) := by decide +kernel
theorem at_115_98 : mj_at 115 98 = some (.aload_n 0, 0, 0) := by decide +kernel
theorem at_115_99 : mj_at 115 99 = some (.getfield 35, 10, 11) := by decide +kernel
theorem at_115_102 : mj_at 115 102 = some (.iconst 3, 0, 0) := by decide +kernel
theorem at_115_103 : mj_at 115 103 = some (.iload_n 1, 0, 0) := by decide +kernel
theorem at_115_104 : mj_at 115 104 = some (.imul, 0, 0) := by decide +kernel
theorem at_115_105 : mj_at 115 105 = some (.iload_n 2, 0, 0) := by decide +kernel
theorem at_115_106 : mj_at 115 106 = some (.iadd, 0, 0) := by decide +kernel
theorem at_115_107 : mj_at 115 107 = some (.iaload, 0, 0) := by decide +kernel
theorem at_115_108 : mj_at 115 108 = some (.if_icmp .ge 93, 0, 0) := by decide +kernel
theorem at_115_111 : mj_at 115 111 = some (.aload_n 0, 0, 0) := by decide +kernel
theorem at_115_112 : mj_at 115 112 = some (.getfield 23, 10, 7) := by decide +kernel
theorem at_115_115 : mj_at 115 115 = some (.iload_n 3, 0, 0) := by decide +kernel
theorem at_115_116 : mj_at 115 116 = some (.iload 4, 0, 0) := by decide +kernel
theorem at_115_118 : mj_at 115 118 = some (.iadd, 0, 0) := by decide +kernel
theorem at_115_119 : mj_at 115 119 = some (.iaload, 0, 0) := by decide +kernel
theorem at_115_120 : mj_at 115 120 = some (.bipush 8, 0, 0) := by decide +kernel
theorem at_115_122 : mj_at 115 122 = some (.if_icmp .ne 73, 0, 0) := by decide +kernel
theorem at_115_125 : mj_at 115 125 = some (.aload_n 0, 0, 0) := by decide +kernel
theorem at_115_126 : mj_at 115 126 = some (.iload_n 3, 0, 0) := by decide +kernel
theorem at_115_127 : mj_at 115 127 = some (.iload 4, 0, 0) := by decide +kernel
theorem at_115_129 : mj_at 115 129 = some (.iconst 1, 0, 0) := by decide +kernel
theorem at_115_130 : mj_at 115 130 = some (.iadd, 0, 0) := by decide +kernel
theorem at_115_131 : mj_at 115 131 = some (.aload_n 0, 0, 0) := by decide +kernel
theorem at_115_132 : mj_at 115 132 = some (.getfield 32, 10, 10) := by decide +kernel
theorem at_115_135 : mj_at 115 135 = some (.iload_n 3, 0, 0) := by decide +kernel
theorem at_115_136 : mj_at 115 136 = some (.iload 4, 0, 0) := by decide +kernel
theorem at_115_138 : mj_at 115 138 = some (.iadd, 0, 0) := by decide +kernel
theorem at_115_139 : mj_at 115 139 = some (.iaload, 0, 0) := by decide +kernel
theorem at_115_140 : mj_at 115 140 = some (.iload_n 3, 0, 0) := by decide +kernel
theorem at_115_141 : mj_at 115 141 = some (.isub, 0, 0) := by decide +kernel
theorem at_115_142 : mj_at 115 142 = some (.iconst 1, 0, 0) := by decide +kernel
theorem at_115_143 : mj_at 115 143 = some (.iadd, 0, 0) := by decide +kernel
theorem at_115_144 : mj_at 115 144 = some (.invokevirtual 188, 116, 3) := by decide +kernel
theorem at_115_147 : mj_at 115 147 = some (.istore 5, 0, 0) := by decide +kernel
theorem at_115_149 : mj_at 115 149 = some (.iconst 4, 0, 0) := by decide +kernel
theorem at_115_150 : mj_at 115 150 = some (.iload_n 1, 0, 0) := by decide +kernel
theorem at_115_151 : mj_at 115 151 = some (.imul, 0, 0) := by decide +kernel
theorem at_115_152 : mj_at 115 152 = some (.aload_n 0, 0, 0) := by decide +kernel
theorem at_115_153 : mj_at 115 153 = some (.getfield 29, 10, 9) := by decide +kernel
theorem at_115_156 : mj_at 115 156 = some (.iload_n 3, 0, 0) := by decide +kernel
theorem at_115_157 : mj_at 115 157 = some (.iload 4, 0, 0) := by decide +kernel
theorem at_115_159 : mj_at 115 159 = some (.iadd, 0, 0) := by decide +kernel
theorem at_115_160 : mj_at 115 160 = some (.iaload, 0, 0) := by decide +kernel
theorem at_115_161 : mj_at 115 161 = some (.iadd, 0, 0) := by decide +kernel
theorem at_115_162 : mj_at 115 162 = some (.istore 6, 0, 0) := by decide +kernel
theorem at_115_164 : mj_at 115 164 = some (.aload_n 0, 0, 0) := by decide +kernel
theorem at_115_165 : mj_at 115 165 = some (.getfield 53, 10, 18) := by decide +kernel
theorem at_115_168 : mj_at 115 168 = some (.iload 6, 0, 0) := by decide +kernel
theorem at_115_170 : mj_at 115 170 = some (.iload 5, 0, 0) := by decide +kernel
theorem at_115_172 : mj_at 115 172 = some (.aload_n 0, 0, 0) := by decide +kernel
theorem at_115_173 : mj_at 115 173 = some (.getfield 53, 10, 18) := by decide +kernel
theorem at_115_176 : mj_at 115 176 = some (.iload 6, 0, 0) := by decide +kernel
theorem at_115_178 : mj_at 115 178 = some (.iaload, 0, 0) := by decide +kernel
theorem at_115_179 : mj_at 115 179 = some (.if_icmp .le 8, 0, 0) := by decide +kernel
theorem at_115_182 : mj_at 115 182 = some (.iload 5, 0, 0) := by decide +kernel
theorem at_115_184 : mj_at 115 184 = some (.goto 10, 0, 0) := by decide +kernel
theorem at_115_187 : mj_at 115 187 = some (.aload_n 0, 0, 0) := by decide +kernel
theorem at_115_188 : mj_at 115 188 = some (.getfield 53, 10, 18) := by decide +kernel
theorem at_115_191 : mj_at 115 191 = some (.iload 6, 0, 0) := by decide +kernel
theorem at_115_193 : mj_at 115 193 = some (.iaload, 0, 0) := by decide +kernel
theorem at_115_194 : mj_at 115 194 = some (.iastore, 0, 0) := by decide +kernel
theorem at_115_195 : mj_at 115 195 = some (.iinc 4 1, 0, 0) := by decide +kernel
theorem at_115_198 : mj_at 115 198 = some (.goto (-102), 0, 0) := by decide +kernel
theorem at_115_201 : mj_at 115 201 = some (.iinc 2 1, 0, 0) := by decide +kernel
theorem at_115_204 : mj_at 115 204 = some (.goto (-125), 0, 0) := by decide +kernel
theorem at_115_207 : mj_at 115 207 = some (.return_, 0, 0) := by decide +kernel
theorem at_116_0 : mj_at 116 0 = some (.iload_n 2, 0, 0) := by decide +kernel
theorem at_116_1 : mj_at 116 1 = some (.istore 4, 0, 0) := by decide +kernel
theorem at_116_3 : mj_at 116 3 = some (.iload 4, 0, 0) := by decide +kernel
theorem at_116_5 : mj_at 116 5 = some (.iload_n 3, 0, 0) := by decide +kernel
theorem at_116_6 : mj_at 116 6 = some (.if_icmp .gt 17, 0, 0) := by decide +kernel
theorem at_116_9 : mj_at 116 9 = some (.aload_n 0, 0, 0) := by decide +kernel
theorem at_116_10 : mj_at 116 10 = some (.getfield 44, 10, 15) := by decide +kernel
theorem at_116_13 : mj_at 116 13 = some (.iload 4, 0, 0) := by decide +kernel
theorem at_116_15 : mj_at 116 15 = some (.iconst (-1), 0, 0) := by decide +kernel
theorem at_116_16 : mj_at 116 16 = some (.iastore, 0, 0) := by decide +kernel
theorem at_116_17 : mj_at 116 17 = some (.iinc 4 1, 0, 0) := by decide +kernel
theorem at_116_20 : mj_at 116 20 = some (.goto (-17), 0, 0) := by decide +kernel
theorem at_116_23 : mj_at 116 23 = some (.aload_n 0, 0, 0) := by decide +kernel
theorem at_116_24 : mj_at 116 24 = some (.getfield 44, 10, 15) := by decide +kernel
theorem at_116_27 : mj_at 116 27 = some (.iload_n 2, 0, 0) := by decide +kernel
theorem at_116_28 : mj_at 116 28 = some (.iconst 0, 0, 0) := by decide +kernel
theorem at_116_29 : mj_at 116 29 = some (.iastore, 0, 0) := by decide +kernel
theorem at_116_30 : mj_at 116 30 = some (.iconst 1, 0, 0) := by decide +kernel
theorem at_116_31 : mj_at 116 31 = some (.istore 4, 0, 0) := by decide +kernel
theorem at_116_33 : mj_at 116 33 = some (.iload_n 2, 0, 0) := by decide +kernel
theorem at_116_34 : mj_at 116 34 = some (.istore 5, 0, 0) := by decide +kernel
theorem at_116_36 : mj_at 116 36 = some (.iload 5, 0, 0) := by decide +kernel
theorem at_116_38 : mj_at 116 38 = some (.iload_n 3, 0, 0) := by decide +kernel
theorem at_116_39 : mj_at 116 39 = some (.if_icmp .ge 223, 0, 0) := by decide +kernel
theorem at_116_42 : mj_at 116 42 = some (.iload_n 1, 0, 0) := by decide +kernel
theorem at_116_43 : mj_at 116 43 = some (.iload 5, 0, 0) := by decide +kernel
theorem at_116_45 : mj_at 116 45 = some (.iadd, 0, 0) := by decide +kernel
theorem at_116_46 : mj_at 116 46 = some (.istore 6, 0, 0) := by decide +kernel
theorem at_116_48 : mj_at 116 48 = some (.aload_n 0, 0, 0) := by decide +kernel
theorem at_116_49 : mj_at 116 49 = some (.getfield 23, 10, 7) := by decide +kernel
theorem at_116_52 : mj_at 116 52 = some (.iload 6, 0, 0) := by decide +kernel
theorem at_116_54 : mj_at 116 54 = some (.iaload, 0, 0) := by decide +kernel
theorem at_116_55 : mj_at 116 55 = some (.istore 7, 0, 0) := by decide +kernel
theorem at_116_57 : mj_at 116 57 = some (.iload 4, 0, 0) := by decide +kernel
theorem at_116_59 : mj_at 116 59 = some (.aload_n 0, 0, 0) := by decide +kernel
theorem at_116_60 : mj_at 116 60 = some (.getfield 38, 10, 12) := by decide +kernel
theorem at_116_63 : mj_at 116 63 = some (.iload 7, 0, 0) := by decide +kernel
theorem at_116_65 : mj_at 116 65 = some (.iaload, 0, 0) := by decide +kernel
theorem at_116_66 : mj_at 116 66 = some (.iload 7, 0, 0) := by decide +kernel
theorem at_116_68 : mj_at 116 68 = some (.bipush 10, 0, 0) := by decide +kernel
theorem at_116_70 : mj_at 116 70 = some (.if_icmp .ne 18, 0, 0) := by decide +kernel
theorem at_116_73 : mj_at 116 73 = some (.aload_n 0, 0, 0) := by decide +kernel
theorem at_116_74 : mj_at 116 74 = some (.getfield 47, 10, 16) := by decide +kernel
theorem at_116_77 : mj_at 116 77 = some (.aload_n 0, 0, 0) := by decide +kernel
theorem at_116_78 : mj_at 116 78 = some (.getfield 29, 10, 9) := by decide +kernel
theorem at_116_81 : mj_at 116 81 = some (.iload 6, 0, 0) := by decide +kernel
theorem at_116_83 : mj_at 116 83 = some (.iaload, 0, 0) := by decide +kernel
theorem at_116_84 : mj_at 116 84 = some (.iaload, 0, 0) := by decide +kernel
theorem at_116_85 : mj_at 116 85 = some (.goto 4, 0, 0) := by decide +kernel
theorem at_116_88 : mj_at 116 88 = some (.iconst 0, 0, 0) := by decide +kernel
theorem at_116_89 : mj_at 116 89 = some (.iadd, 0, 0) := by decide +kernel
theorem at_116_90 : mj_at 116 90 = some (.imul, 0, 0) := by decide +kernel
theorem at_116_91 : mj_at 116 91 = some (.istore 8, 0, 0) := by decide +kernel
theorem at_116_93 : mj_at 116 93 = some (.aload_n 0, 0, 0) := by decide +kernel
theorem at_116_94 : mj_at 116 94 = some (.getfield 44, 10, 15) := by decide +kernel
theorem at_116_97 : mj_at 116 97 = some (.iload 5, 0, 0) := by decide +kernel
theorem at_116_99 : mj_at 116 99 = some (.iaload, 0, 0) := by decide +kernel
theorem at_116_100 : mj_at 116 100 = some (.ifCond .ge 7, 0, 0) := by decide +kernel
theorem at_116_103 : mj_at 116 103 = some (.iconst (-1), 0, 0) := by decide +kernel
theorem at_116_104 : mj_at 116 104 = some (.goto 13, 0, 0) := by decide +kernel
theorem at_116_107 : mj_at 116 107 = some (.aload_n 0, 0, 0) := by decide +kernel
theorem at_116_108 : mj_at 116 108 = some (.getfield 44, 10, 15) := by decide +kernel
theorem at_116_111 : mj_at 116 111 = some (.iload 5, 0, 0) := by decide +kernel
theorem at_116_113 : mj_at 116 113 = some (.iaload, 0, 0) := by decide +kernel
theorem at_116_114 : mj_at 116 114 = some (.iload 8, 0, 0) := by decide +kernel
theorem at_116_116 : mj_at 116 116 = some (.iadd, 0, 0) := by decide +kernel
theorem at_116_117 : mj_at 116 117 = some (.istore 9, 0, 0) := by decide +kernel
theorem at_116_119 : mj_at 116 119 = some (.aload_n 0, 0, 0) := by decide +kernel
theorem at_116_120 : mj_at 116 120 = some (.getfield 44, 10, 15) := by decide +kernel
theorem at_116_123 : mj_at 116 123 = some (.iload 5, 0, 0) := by decide +kernel
theorem at_116_125 : mj_at 116 125 = some (.iconst 1, 0, 0) := by decide +kernel
theorem at_116_126 : mj_at 116 126 = some (.iadd, 0, 0) := by decide +kernel
theorem at_116_127 : mj_at 116 127 = some (.iload 9, 0, 0) := by decide +kernel
theorem at_116_129 : mj_at 116 129 = some (.aload_n 0, 0, 0) := by decide +kernel
theorem at_116_130 : mj_at 116 130 = some (.getfield 44, 10, 15) := by decide +kernel
theorem at_116_133 : mj_at 116 133 = some (.iload 5, 0, 0) := by decide +kernel
theorem at_116_135 : mj_at 116 135 = some (.iconst 1, 0, 0) := by decide +kernel
theorem at_116_136 : mj_at 116 136 = some (.iadd, 0, 0) := by decide +kernel
theorem at_116_137 : mj_at 116 137 = some (.iaload, 0, 0) := by decide +kernel
theorem at_116_138 : mj_at 116 138 = some (.if_icmp .le 8, 0, 0) := by decide +kernel
theorem at_116_141 : mj_at 116 141 = some (.iload 9, 0, 0) := by decide +kernel
theorem at_116_143 : mj_at 116 143 = some (.goto 12, 0, 0) := by decide +kernel
theorem at_116_146 : mj_at 116 146 = some (.aload_n 0, 0, 0) := by decide +kernel
theorem at_116_147 : mj_at 116 147 = some (.getfield 44, 10, 15) := by decide +kernel
theorem at_116_150 : mj_at 116 150 = some (.iload 5, 0, 0) := by decide +kernel
theorem at_116_152 : mj_at 116 152 = some (.iconst 1, 0, 0) := by decide +kernel
theorem at_116_153 : mj_at 116 153 = some (.iadd, 0, 0) := by decide +kernel
theorem at_116_154 : mj_at 116 154 = some (.iaload, 0, 0) := by decide +kernel
theorem at_116_155 : mj_at 116 155 = some (.iastore, 0, 0) := by decide +kernel
theorem at_116_156 : mj_at 116 156 = some (.iload 7, 0, 0) := by decide +kernel
theorem at_116_158 : mj_at 116 158 = some (.iconst 5, 0, 0) := by decide +kernel
theorem at_116_159 : mj_at 116 159 = some (.if_icmp .ne 48, 0, 0) := by decide +kernel
theorem at_116_162 : mj_at 116 162 = some (.iload 5, 0, 0) := by decide +kernel
theorem at_116_164 : mj_at 116 164 = some (.iconst 1, 0, 0) := by decide +kernel
theorem at_116_165 : mj_at 116 165 = some (.iadd, 0, 0) := by decide +kernel
theorem at_116_166 : mj_at 116 166 = some (.aload_n 0, 0, 0) := by decide +kernel
theorem at_116_167 : mj_at 116 167 = some (.getfield 29, 10, 9) := by decide +kernel
theorem at_116_170 : mj_at 116 170 = some (.iload 6, 0, 0) := by decide +kernel
theorem at_116_172 : mj_at 116 172 = some (.iaload, 0, 0) := by decide +kernel
theorem at_116_173 : mj_at 116 173 = some (.iadd, 0, 0) := by decide +kernel
theorem at_116_174 : mj_at 116 174 = some (.istore 10, 0, 0) := by decide +kernel
theorem at_116_176 : mj_at 116 176 = some (.aload_n 0, 0, 0) := by decide +kernel
theorem at_116_177 : mj_at 116 177 = some (.getfield 44, 10, 15) := by decide +kernel
theorem at_116_180 : mj_at 116 180 = some (.iload 10, 0, 0) := by decide +kernel
theorem at_116_182 : mj_at 116 182 = some (.iload 9, 0, 0) := by decide +kernel
theorem at_116_184 : mj_at 116 184 = some (.aload_n 0, 0, 0) := by decide +kernel
theorem at_116_185 : mj_at 116 185 = some (.getfield 44, 10, 15) := by decide +kernel
theorem at_116_188 : mj_at 116 188 = some (.iload 10, 0, 0) := by decide +kernel
theorem at_116_190 : mj_at 116 190 = some (.iaload, 0, 0) := by decide +kernel
theorem at_116_191 : mj_at 116 191 = some (.if_icmp .le 8, 0, 0) := by decide +kernel
theorem at_116_194 : mj_at 116 194 = some (.iload 9, 0, 0) := by decide +kernel
theorem at_116_196 : mj_at 116 196 = some (.goto 10, 0, 0) := by decide +kernel
theorem at_116_199 : mj_at 116 199 = some (.aload_n 0, 0, 0) := by decide +kernel
theorem at_116_200 : mj_at 116 200 = some (.getfield 44, 10, 15) := by decide +kernel
theorem at_116_203 : mj_at 116 203 = some (.iload 10, 0, 0) := by decide +kernel
theorem at_116_205 : mj_at 116 205 = some (.iaload, 0, 0) := by decide +kernel
theorem at_116_206 : mj_at 116 206 = some (.iastore, 0, 0) := by decide +kernel
theorem at_116_207 : mj_at 116 207 = some (.iload 7, 0, 0) := by decide +kernel
theorem at_116_209 : mj_at 116 209 = some (.bipush 6, 0, 0) := by decide +kernel
theorem at_116_211 : mj_at 116 211 = some (.if_icmp .ne 16, 0, 0) := by decide +kernel
theorem at_116_214 : mj_at 116 214 = some (.iload 4, 0, 0) := by decide +kernel
theorem at_116_216 : mj_at 116 216 = some (.aload_n 0, 0, 0) := by decide +kernel
theorem at_116_217 : mj_at 116 217 = some (.getfield 29, 10, 9) := by decide +kernel
theorem at_116_220 : mj_at 116 220 = some (.iload 6, 0, 0) := by decide +kernel
theorem at_116_222 : mj_at 116 222 = some (.iaload, 0, 0) := by decide +kernel
theorem at_116_223 : mj_at 116 223 = some (.imul, 0, 0) := by decide +kernel
theorem at_116_224 : mj_at 116 224 = some (.goto 30, 0, 0) := by decide +kernel
theorem at_116_227 : mj_at 116 227 = some (.iload 7, 0, 0) := by decide +kernel
theorem at_116_229 : mj_at 116 229 = some (.bipush 7, 0, 0) := by decide +kernel
theorem at_116_231 : mj_at 116 231 = some (.if_icmp .ne 21, 0, 0) := by decide +kernel
theorem at_116_234 : mj_at 116 234 = some (.iload 4, 0, 0) := by decide +kernel
theorem at_116_236 : mj_at 116 236 = some (.aload_n 0, 0, 0) := by decide +kernel
theorem at_116_237 : mj_at 116 237 = some (.getfield 29, 10, 9) := by decide +kernel
theorem at_116_240 : mj_at 116 240 = some (.aload_n 0, 0, 0) := by decide +kernel
theorem at_116_241 : mj_at 116 241 = some (.getfield 32, 10, 10) := by decide +kernel
theorem at_116_244 : mj_at 116 244 = some (.iload 6, 0, 0) := by decide +kernel
theorem at_116_246 : mj_at 116 246 = some (.iaload, 0, 0) := by decide +kernel
theorem at_116_247 : mj_at 116 247 = some (.iaload, 0, 0) := by decide +kernel
theorem at_116_248 : mj_at 116 248 = some (.idiv, 0, 0) := by decide +kernel
theorem at_116_249 : mj_at 116 249 = some (.goto 5, 0, 0) := by decide +kernel
theorem at_116_252 : mj_at 116 252 = some (.iload 4, 0, 0) := by decide +kernel
theorem at_116_254 : mj_at 116 254 = some (.istore 4, 0, 0) := by decide +kernel
theorem at_116_256 : mj_at 116 256 = some (.iinc 5 1, 0, 0) := by decide +kernel
theorem at_116_259 : mj_at 116 259 = some (.goto (-223), 0, 0) := by decide +kernel
theorem at_116_262 : mj_at 116 262 = some (.aload_n 0, 0, 0) := by decide +kernel
theorem at_116_263 : mj_at 116 263 = some (.getfield 44, 10, 15) := by decide +kernel
theorem at_116_266 : mj_at 116 266 = some (.iload_n 3, 0, 0) := by decide +kernel
theorem at_116_267 : mj_at 116 267 = some (.iaload, 0, 0) := by decide +kernel
theorem at_116_268 : mj_at 116 268 = some (.ireturn, 0, 0) := by decide +kernel
theorem at_117_0 : mj_at 117 0 = some (.iconst 0, 0, 0) := by decide +kernel
theorem at_117_1 : mj_at 117 1 = some (.istore_n 2, 0, 0) := by decide +kernel
theorem at_117_2 : mj_at 117 2 = some (.iload_n 2, 0, 0) := by decide +kernel
theorem at_117_3 : mj_at 117 3 = some (.aload_n 0, 0, 0) := by decide +kernel
theorem at_117_4 : mj_at 117 4 = some (.getfield 138, 10, 0) := by decide +kernel
theorem at_117_7 : mj_at 117 7 = some (.if_icmp .ge 24, 0, 0) := by decide +kernel
theorem at_117_10 : mj_at 117 10 = some (.aload_n 0, 0, 0) := by decide +kernel
theorem at_117_11 : mj_at 117 11 = some (.getfield 53, 10, 18) := by decide +kernel
theorem at_117_14 : mj_at 117 14 = some (.iconst 4, 0, 0) := by decide +kernel
theorem at_117_15 : mj_at 117 15 = some (.iload_n 2, 0, 0) := by decide +kernel
theorem at_117_16 : mj_at 117 16 = some (.imul, 0, 0) := by decide +kernel
theorem at_117_17 : mj_at 117 17 = some (.iload_n 1, 0, 0) := by decide +kernel
theorem at_117_18 : mj_at 117 18 = some (.iadd, 0, 0) := by decide +kernel
theorem at_117_19 : mj_at 117 19 = some (.iaload, 0, 0) := by decide +kernel
theorem at_117_20 : mj_at 117 20 = some (.ifCond .le 5, 0, 0) := by decide +kernel
theorem at_117_23 : mj_at 117 23 = some (.iload_n 2, 0, 0) := by decide +kernel
theorem at_117_24 : mj_at 117 24 = some (.ireturn, 0, 0) := by decide +kernel
theorem at_117_25 : mj_at 117 25 = some (.iinc 2 1, 0, 0) := by decide +kernel
theorem at_117_28 : mj_at 117 28 = some (.goto (-26), 0, 0) := by decide +kernel
theorem at_117_31 : mj_at 117 31 = some (.iconst (-1), 0, 0) := by decide +kernel
theorem at_117_32 : mj_at 117 32 = some (.ireturn, 0, 0) := by decide +kernel
theorem at_118_0 : mj_at 118 0 = some (.iconst 0, 0, 0) := by decide +kernel
theorem at_118_1 : mj_at 118 1 = some (.istore_n 2, 0, 0) := by decide +kernel
theorem at_118_2 : mj_at 118 2 = some (.iload_n 1, 0, 0) := by decide +kernel
theorem at_118_3 : mj_at 118 3 = some (.iconst 1, 0, 0) := by decide +kernel
theorem at_118_4 : mj_at 118 4 = some (.iadd, 0, 0) := by decide +kernel
theorem at_118_5 : mj_at 118 5 = some (.istore_n 3, 0, 0) := by decide +kernel
theorem at_118_6 : mj_at 118 6 = some (.iload_n 3, 0, 0) := by decide +kernel
theorem at_118_7 : mj_at 118 7 = some (.aload_n 0, 0, 0) := by decide +kernel
theorem at_118_8 : mj_at 118 8 = some (.getfield 138, 10, 0) := by decide +kernel
theorem at_118_11 : mj_at 118 11 = some (.if_icmp .ge 82, 0, 0) := by decide +kernel
theorem at_118_14 : mj_at 118 14 = some (.iconst 0, 0, 0) := by decide +kernel
theorem at_118_15 : mj_at 118 15 = some (.istore 4, 0, 0) := by decide +kernel
theorem at_118_17 : mj_at 118 17 = some (.iload 4, 0, 0) := by decide +kernel
theorem at_118_19 : mj_at 118 19 = some (.iconst 4, 0, 0) := by decide +kernel
theorem at_118_20 : mj_at 118 20 = some (.if_icmp .ge 67, 0, 0) := by decide +kernel
theorem at_118_23 : mj_at 118 23 = some (.aload_n 0, 0, 0) := by decide +kernel
theorem at_118_24 : mj_at 118 24 = some (.getfield 53, 10, 18) := by decide +kernel
theorem at_118_27 : mj_at 118 27 = some (.iconst 4, 0, 0) := by decide +kernel
theorem at_118_28 : mj_at 118 28 = some (.iload_n 3, 0, 0) := by decide +kernel
theorem at_118_29 : mj_at 118 29 = some (.imul, 0, 0) := by decide +kernel
theorem at_118_30 : mj_at 118 30 = some (.iload 4, 0, 0) := by decide +kernel
theorem at_118_32 : mj_at 118 32 = some (.iadd, 0, 0) := by decide +kernel
theorem at_118_33 : mj_at 118 33 = some (.iaload, 0, 0) := by decide +kernel
theorem at_118_34 : mj_at 118 34 = some (.istore 5, 0, 0) := by decide +kernel
theorem at_118_36 : mj_at 118 36 = some (.iload 5, 0, 0) := by decide +kernel
theorem at_118_38 : mj_at 118 38 = some (.ifCond .le 18, 0, 0) := by decide +kernel
theorem at_118_41 : mj_at 118 41 = some (.aload_n 0, 0, 0) := by decide +kernel
theorem at_118_42 : mj_at 118 42 = some (.getfield 62, 10, 21) := by decide +kernel
theorem at_118_45 : mj_at 118 45 = some (.iload 4, 0, 0) := by decide +kernel
theorem at_118_47 : mj_at 118 47 = some (.iaload, 0, 0) := by decide +kernel
theorem at_118_48 : mj_at 118 48 = some (.iload_n 1, 0, 0) := by decide +kernel
theorem at_118_49 : mj_at 118 49 = some (.if_icmp .gt 7, 0, 0) := by decide +kernel
theorem at_118_52 : mj_at 118 52 = some (.iconst 1, 0, 0) := by decide +kernel
theorem at_118_53 : mj_at 118 53 = some (.goto 4, 0, 0) := by decide +kernel
theorem at_118_56 : mj_at 118 56 = some (.iconst 0, 0, 0) := by decide +kernel
theorem at_118_57 : mj_at 118 57 = some (.istore 6, 0, 0) := by decide +kernel
theorem at_118_59 : mj_at 118 59 = some (.iload 6, 0, 0) := by decide +kernel
theorem at_118_61 : mj_at 118 61 = some (.ifCond .eq 18, 0, 0) := by decide +kernel
theorem at_118_64 : mj_at 118 64 = some (.iload 5, 0, 0) := by decide +kernel
theorem at_118_66 : mj_at 118 66 = some (.iconst 2, 0, 0) := by decide +kernel
theorem at_118_67 : mj_at 118 67 = some (.iadd, 0, 0) := by decide +kernel
theorem at_118_68 : mj_at 118 68 = some (.iload_n 2, 0, 0) := by decide +kernel
theorem at_118_69 : mj_at 118 69 = some (.if_icmp .le 10, 0, 0) := by decide +kernel
theorem at_118_72 : mj_at 118 72 = some (.iload 5, 0, 0) := by decide +kernel
theorem at_118_74 : mj_at 118 74 = some (.iconst 2, 0, 0) := by decide +kernel
theorem at_118_75 : mj_at 118 75 = some (.iadd, 0, 0) := by decide +kernel
theorem at_118_76 : mj_at 118 76 = some (.goto 4, 0, 0) := by decide +kernel
theorem at_118_79 : mj_at 118 79 = some (.iload_n 2, 0, 0) := by decide +kernel
theorem at_118_80 : mj_at 118 80 = some (.istore_n 2, 0, 0) := by decide +kernel
theorem at_118_81 : mj_at 118 81 = some (.iinc 4 1, 0, 0) := by decide +kernel
theorem at_118_84 : mj_at 118 84 = some (.goto (-67), 0, 0) := by decide +kernel
theorem at_118_87 : mj_at 118 87 = some (.iinc 3 1, 0, 0) := by decide +kernel
theorem at_118_90 : mj_at 118 90 = some (.goto (-84), 0, 0) := by decide +kernel
theorem at_118_93 : mj_at 118 93 = some (.iload_n 2, 0, 0) := by decide +kernel
theorem at_118_94 : mj_at 118 94 = some (.ireturn, 0, 0) := by decide +kernel
theorem at_119_0 : mj_at 119 0 = some (.iconst 1, 0, 0) := by decide +kernel
theorem at_119_1 : mj_at 119 1 = some (.istore_n 2, 0, 0) := by decide +kernel
theorem at_119_2 : mj_at 119 2 = some (.iload_n 2, 0, 0) := by decide +kernel
theorem at_119_3 : mj_at 119 3 = some (.aload_n 0, 0, 0) := by decide +kernel
theorem at_119_4 : mj_at 119 4 = some (.getfield 17, 10, 5) := by decide +kernel
theorem at_119_7 : mj_at 119 7 = some (.iload_n 1, 0, 0) := by decide +kernel
theorem at_119_8 : mj_at 119 8 = some (.iaload, 0, 0) := by decide +kernel
theorem at_119_9 : mj_at 119 9 = some (.if_icmp .gt 87, 0, 0) := by decide +kernel
theorem at_119_12 : mj_at 119 12 = some (.aload_n 0, 0, 0) := by decide +kernel
theorem at_119_13 : mj_at 119 13 = some (.getfield 56, 10, 19) := by decide +kernel
theorem at_119_16 : mj_at 119 16 = some (.iload_n 1, 0, 0) := by decide +kernel
theorem at_119_17 : mj_at 119 17 = some (.iaload, 0, 0) := by decide +kernel
theorem at_119_18 : mj_at 119 18 = some (.i2l, 0, 0) := by decide +kernel
theorem at_119_19 : mj_at 119 19 = some (.aload_n 0, 0, 0) := by decide +kernel
theorem at_119_20 : mj_at 119 20 = some (.getfield 50, 10, 17) := by decide +kernel
theorem at_119_23 : mj_at 119 23 = some (.iload_n 1, 0, 0) := by decide +kernel
theorem at_119_24 : mj_at 119 24 = some (.iaload, 0, 0) := by decide +kernel
theorem at_119_25 : mj_at 119 25 = some (.i2l, 0, 0) := by decide +kernel
theorem at_119_26 : mj_at 119 26 = some (.ladd, 0, 0) := by decide +kernel
theorem at_119_27 : mj_at 119 27 = some (.ldc2_w 191, 2, 0) := by decide +kernel
theorem at_119_30 : mj_at 119 30 = some (.ladd, 0, 0) := by decide +kernel
theorem at_119_31 : mj_at 119 31 = some (.lstore_n 3, 0, 0) := by decide +kernel
theorem at_119_32 : mj_at 119 32 = some (.iconst 0, 0, 0) := by decide +kernel
theorem at_119_33 : mj_at 119 33 = some (.istore 5, 0, 0) := by decide +kernel
theorem at_119_35 : mj_at 119 35 = some (.iload 5, 0, 0) := by decide +kernel
theorem at_119_37 : mj_at 119 37 = some (.iload_n 1, 0, 0) := by decide +kernel
theorem at_119_38 : mj_at 119 38 = some (.if_icmp .ge 43, 0, 0) := by decide +kernel
theorem at_119_41 : mj_at 119 41 = some (.lload_n 3, 0, 0) := by decide +kernel
theorem at_119_42 : mj_at 119 42 = some (.iload_n 2, 0, 0) := by decide +kernel
theorem at_119_43 : mj_at 119 43 = some (.aload_n 0, 0, 0) := by decide +kernel
theorem at_119_44 : mj_at 119 44 = some (.getfield 13, 10, 4) := by decide +kernel
theorem at_119_47 : mj_at 119 47 = some (.iload 5, 0, 0) := by decide +kernel
theorem at_119_49 : mj_at 119 49 = some (.iaload, 0, 0) := by decide +kernel
theorem at_119_50 : mj_at 119 50 = some (.iadd, 0, 0) := by decide +kernel
theorem at_119_51 : mj_at 119 51 = some (.iconst 1, 0, 0) := by decide +kernel
theorem at_119_52 : mj_at 119 52 = some (.isub, 0, 0) := by decide +kernel
theorem at_119_53 : mj_at 119 53 = some (.aload_n 0, 0, 0) := by decide +kernel
theorem at_119_54 : mj_at 119 54 = some (.getfield 13, 10, 4) := by decide +kernel
theorem at_119_57 : mj_at 119 57 = some (.iload 5, 0, 0) := by decide +kernel
theorem at_119_59 : mj_at 119 59 = some (.iaload, 0, 0) := by decide +kernel
theorem at_119_60 : mj_at 119 60 = some (.idiv, 0, 0) := by decide +kernel
theorem at_119_61 : mj_at 119 61 = some (.i2l, 0, 0) := by decide +kernel
theorem at_119_62 : mj_at 119 62 = some (.aload_n 0, 0, 0) := by decide +kernel
theorem at_119_63 : mj_at 119 63 = some (.getfield 50, 10, 17) := by decide +kernel
theorem at_119_66 : mj_at 119 66 = some (.iload 5, 0, 0) := by decide +kernel
theorem at_119_68 : mj_at 119 68 = some (.iaload, 0, 0) := by decide +kernel
theorem at_119_69 : mj_at 119 69 = some (.iconst 4, 0, 0) := by decide +kernel
theorem at_119_70 : mj_at 119 70 = some (.iadd, 0, 0) := by decide +kernel
theorem at_119_71 : mj_at 119 71 = some (.i2l, 0, 0) := by decide +kernel
theorem at_119_72 : mj_at 119 72 = some (.lmul, 0, 0) := by decide +kernel
theorem at_119_73 : mj_at 119 73 = some (.ladd, 0, 0) := by decide +kernel
theorem at_119_74 : mj_at 119 74 = some (.lstore_n 3, 0, 0) := by decide +kernel
theorem at_119_75 : mj_at 119 75 = some (.iinc 5 1, 0, 0) := by decide +kernel
theorem at_119_78 : mj_at 119 78 = some (.goto (-43), 0, 0) := by decide +kernel
theorem at_119_81 : mj_at 119 81 = some (.lload_n 3, 0, 0) := by decide +kernel
theorem at_119_82 : mj_at 119 82 = some (.iload_n 2, 0, 0) := by decide +kernel
theorem at_119_83 : mj_at 119 83 = some (.i2l, 0, 0) := by decide +kernel
theorem at_119_84 : mj_at 119 84 = some (.lcmp, 0, 0) := by decide +kernel
theorem at_119_85 : mj_at 119 85 = some (.ifCond .ne 5, 0, 0) := by decide +kernel
theorem at_119_88 : mj_at 119 88 = some (.iload_n 2, 0, 0) := by decide +kernel
theorem at_119_89 : mj_at 119 89 = some (.ireturn, 0, 0) := by decide +kernel
theorem at_119_90 : mj_at 119 90 = some (.iinc 2 1, 0, 0) := by decide +kernel
theorem at_119_93 : mj_at 119 93 = some (.goto (-91), 0, 0) := by decide +kernel
theorem at_119_96 : mj_at 119 96 = some (.iconst (-1), 0, 0) := by decide +kernel
theorem at_119_97 : mj_at 119 97 = some (.ireturn, 0, 0) := by decide +kernel
theorem at_120_0 : mj_at 120 0 = some (.aload_n 0, 0, 0) := by decide +kernel
theorem at_120_1 : mj_at 120 1 = some (.getfield 7, 10, 3) := by decide +kernel
theorem at_120_4 : mj_at 120 4 = some (.ireturn, 0, 0) := by decide +kernel
theorem at_121_0 : mj_at 121 0 = some (.aload_n 0, 0, 0) := by decide +kernel
theorem at_121_1 : mj_at 121 1 = some (.getfield 149, 10, 1) := by decide +kernel
theorem at_121_4 : mj_at 121 4 = some (.ifCond .eq 20, 0, 0) := by decide +kernel
theorem at_121_7 : mj_at 121 7 = some (.aload_n 0, 0, 0) := by decide +kernel
theorem at_121_8 : mj_at 121 8 = some (.iload_n 1, 0, 0) := by decide +kernel
theorem at_121_9 : mj_at 121 9 = some (.invokevirtual 152, 103, 1) := by decide +kernel
theorem at_121_12 : mj_at 121 12 = some (.ifCond .eq 12, 0, 0) := by decide +kernel
theorem at_121_15 : mj_at 121 15 = some (.aload_n 0, 0, 0) := by decide +kernel
theorem at_121_16 : mj_at 121 16 = some (.getfield 50, 10, 17) := by decide +kernel
theorem at_121_19 : mj_at 121 19 = some (.iload_n 1, 0, 0) := by decide +kernel
theorem at_121_20 : mj_at 121 20 = some (.iaload, 0, 0) := by decide +kernel
theorem at_121_21 : mj_at 121 21 = some (.goto 4, 0, 0) := by decide +kernel
theorem at_121_24 : mj_at 121 24 = some (.iconst (-1), 0, 0) := by decide +kernel
theorem at_121_25 : mj_at 121 25 = some (.ireturn, 0, 0) := by decide +kernel
theorem at_122_0 : mj_at 122 0 = some (.aload_n 0, 0, 0) := by decide +kernel
theorem at_122_1 : mj_at 122 1 = some (.getfield 149, 10, 1) := by decide +kernel
theorem at_122_4 : mj_at 122 4 = some (.ifCond .eq 33, 0, 0) := by decide +kernel
theorem at_122_7 : mj_at 122 7 = some (.aload_n 0, 0, 0) := by decide +kernel
theorem at_122_8 : mj_at 122 8 = some (.iload_n 1, 0, 0) := by decide +kernel
theorem at_122_9 : mj_at 122 9 = some (.invokevirtual 152, 103, 1) := by decide +kernel
theorem at_122_12 : mj_at 122 12 = some (.ifCond .eq 25, 0, 0) := by decide +kernel
theorem at_122_15 : mj_at 122 15 = some (.iload_n 2, 0, 0) := by decide +kernel
theorem at_122_16 : mj_at 122 16 = some (.iconst 0, 0, 0) := by decide +kernel
theorem at_122_17 : mj_at 122 17 = some (.iconst 3, 0, 0) := by decide +kernel
theorem at_122_18 : mj_at 122 18 = some (.invokestatic 145, 101, 3) := by decide +kernel
theorem at_122_21 : mj_at 122 21 = some (.ifCond .eq 16, 0, 0) := by decide +kernel
theorem at_122_24 : mj_at 122 24 = some (.aload_n 0, 0, 0) := by decide +kernel
theorem at_122_25 : mj_at 122 25 = some (.getfield 53, 10, 18) := by decide +kernel
theorem at_122_28 : mj_at 122 28 = some (.iconst 4, 0, 0) := by decide +kernel
theorem at_122_29 : mj_at 122 29 = some (.iload_n 1, 0, 0) := by decide +kernel
theorem at_122_30 : mj_at 122 30 = some (.imul, 0, 0) := by decide +kernel
theorem at_122_31 : mj_at 122 31 = some (.iload_n 2, 0, 0) := by decide +kernel
theorem at_122_32 : mj_at 122 32 = some (.iadd, 0, 0) := by decide +kernel
theorem at_122_33 : mj_at 122 33 = some (.iaload, 0, 0) := by decide +kernel
theorem at_122_34 : mj_at 122 34 = some (.goto 4, 0, 0) := by decide +kernel
theorem at_122_37 : mj_at 122 37 = some (.iconst (-1), 0, 0) := by decide +kernel
theorem at_122_38 : mj_at 122 38 = some (.ireturn, 0, 0) := by decide +kernel
theorem at_123_0 : mj_at 123 0 = some (.aload_n 0, 0, 0) := by decide +kernel
theorem at_123_1 : mj_at 123 1 = some (.getfield 149, 10, 1) := by decide +kernel
theorem at_123_4 : mj_at 123 4 = some (.ifCond .eq 20, 0, 0) := by decide +kernel
theorem at_123_7 : mj_at 123 7 = some (.aload_n 0, 0, 0) := by decide +kernel
theorem at_123_8 : mj_at 123 8 = some (.iload_n 1, 0, 0) := by decide +kernel
theorem at_123_9 : mj_at 123 9 = some (.invokevirtual 152, 103, 1) := by decide +kernel
theorem at_123_12 : mj_at 123 12 = some (.ifCond .eq 12, 0, 0) := by decide +kernel
theorem at_123_15 : mj_at 123 15 = some (.aload_n 0, 0, 0) := by decide +kernel
theorem at_123_16 : mj_at 123 16 = some (.getfield 56, 10, 19) := by decide +kernel
theorem at_123_19 : mj_at 123 19 = some (.iload_n 1, 0, 0) := by decide +kernel
theorem at_123_20 : mj_at 123 20 = some (.iaload, 0, 0) := by decide +kernel
theorem at_123_21 : mj_at 123 21 = some (.goto 4, 0, 0) := by decide +kernel
theorem at_123_24 : mj_at 123 24 = some (.iconst (-1), 0, 0) := by decide +kernel
theorem at_123_25 : mj_at 123 25 = some (.ireturn, 0, 0) := by decide +kernel
theorem at_124_0 : mj_at 124 0 = some (.aload_n 0, 0, 0) := by decide +kernel
theorem at_124_1 : mj_at 124 1 = some (.getfield 149, 10, 1) := by decide +kernel
theorem at_124_4 : mj_at 124 4 = some (.ifCond .eq 20, 0, 0) := by decide +kernel
theorem at_124_7 : mj_at 124 7 = some (.aload_n 0, 0, 0) := by decide +kernel
theorem at_124_8 : mj_at 124 8 = some (.iload_n 1, 0, 0) := by decide +kernel
theorem at_124_9 : mj_at 124 9 = some (.invokevirtual 152, 103, 1) := by decide +kernel
theorem at_124_12 : mj_at 124 12 = some (.ifCond .eq 12, 0, 0) := by decide +kernel
theorem at_124_15 : mj_at 124 15 = some (.aload_n 0, 0, 0) := by decide +kernel
theorem at_124_16 : mj_at 124 16 = some (.getfield 59, 10, 20) := by decide +kernel
theorem at_124_19 : mj_at 124 19 = some (.iload_n 1, 0, 0) := by decide +kernel
theorem at_124_20 : mj_at 124 20 = some (.iaload, 0, 0) := by decide +kernel
theorem at_124_21 : mj_at 124 21 = some (.goto 4, 0, 0) := by decide +kernel
theorem at_124_24 : mj_at 124 24 = some (.iconst (-1), 0, 0) := by decide +kernel
theorem at_124_25 : mj_at 124 25 = some (.ireturn, 0, 0) := by decide +kernel
theorem at_125_0 : mj_at 125 0 = some (.aload_n 0, 0, 0) := by decide +kernel
theorem at_125_1 : mj_at 125 1 = some (.getfield 149, 10, 1) := by decide +kernel
theorem at_125_4 : mj_at 125 4 = some (.ifCond .eq 21, 0, 0) := by decide +kernel
theorem at_125_7 : mj_at 125 7 = some (.iload_n 1, 0, 0) := by decide +kernel
theorem at_125_8 : mj_at 125 8 = some (.iconst 0, 0, 0) := by decide +kernel
theorem at_125_9 : mj_at 125 9 = some (.iconst 3, 0, 0) := by decide +kernel
theorem at_125_10 : mj_at 125 10 = some (.invokestatic 145, 101, 3) := by decide +kernel
theorem at_125_13 : mj_at 125 13 = some (.ifCond .eq 12, 0, 0) := by decide +kernel
theorem at_125_16 : mj_at 125 16 = some (.aload_n 0, 0, 0) := by decide +kernel
theorem at_125_17 : mj_at 125 17 = some (.getfield 62, 10, 21) := by decide +kernel
theorem at_125_20 : mj_at 125 20 = some (.iload_n 1, 0, 0) := by decide +kernel
theorem at_125_21 : mj_at 125 21 = some (.iaload, 0, 0) := by decide +kernel
theorem at_125_22 : mj_at 125 22 = some (.goto 4, 0, 0) := by decide +kernel
theorem at_125_25 : mj_at 125 25 = some (.iconst (-1), 0, 0) := by decide +kernel
theorem at_125_26 : mj_at 125 26 = some (.ireturn, 0, 0) := by decide +kernel
theorem at_126_0 : mj_at 126 0 = some (.aload_n 0, 0, 0) := by decide +kernel
theorem at_126_1 : mj_at 126 1 = some (.getfield 141, 10, 2) := by decide +kernel
theorem at_126_4 : mj_at 126 4 = some (.ifCond .ne 10, 0, 0) := by decide +kernel
theorem at_126_7 : mj_at 126 7 = some (.aload_n 0, 0, 0) := by decide +kernel
theorem at_126_8 : mj_at 126 8 = some (.getfield 149, 10, 1) := by decide +kernel
theorem at_126_11 : mj_at 126 11 = some (.ifCond .ne 5, 0, 0) := by decide +kernel
theorem at_126_14 : mj_at 126 14 = some (.iconst 0, 0, 0) := by decide +kernel
theorem at_126_15 : mj_at 126 15 = some (.ireturn, 0, 0) := by decide +kernel
theorem at_126_16 : mj_at 126 16 = some (.aload_n 0, 0, 0) := by decide +kernel
theorem at_126_17 : mj_at 126 17 = some (.iconst 1, 0, 0) := by decide +kernel
theorem at_126_18 : mj_at 126 18 = some (.putfield 141, 10, 2) := by decide +kernel
theorem at_126_21 : mj_at 126 21 = some (.aload_n 0, 0, 0) := by decide +kernel
theorem at_126_22 : mj_at 126 22 = some (.iconst 0, 0, 0) := by decide +kernel
theorem at_126_23 : mj_at 126 23 = some (.putfield 209, 10, 22) := by decide +kernel
theorem at_126_26 : mj_at 126 26 = some (.aload_n 0, 0, 0) := by decide +kernel
theorem at_126_27 : mj_at 126 27 = some (.iconst (-1), 0, 0) := by decide +kernel
theorem at_126_28 : mj_at 126 28 = some (.putfield 212, 10, 23) := by decide +kernel
theorem at_126_31 : mj_at 126 31 = some (.aload_n 0, 0, 0) := by decide +kernel
theorem at_126_32 : mj_at 126 32 = some (.iconst (-1), 0, 0) := by decide +kernel
theorem at_126_33 : mj_at 126 33 = some (.putfield 215, 10, 24) := by decide +kernel
theorem at_126_36 : mj_at 126 36 = some (.aload_n 0, 0, 0) := by decide +kernel
theorem at_126_37 : mj_at 126 37 = some (.iconst 0, 0, 0) := by decide +kernel
theorem at_126_38 : mj_at 126 38 = some (.putfield 218, 10, 25) := by decide +kernel
theorem at_126_41 : mj_at 126 41 = some (.aload_n 0, 0, 0) := by decide +kernel
theorem at_126_42 : mj_at 126 42 = some (.iconst 0, 0, 0) := by decide +kernel
theorem at_126_43 : mj_at 126 43 = some (.putfield 221, 10, 26) := by decide +kernel
theorem at_126_46 : mj_at 126 46 = some (.aload_n 0, 0, 0) := by decide +kernel
theorem at_126_47 : mj_at 126 47 = some (.iconst 0, 0, 0) := by decide +kernel
theorem at_126_48 : mj_at 126 48 = some (.putfield 224, 10, 27) := by decide +kernel
theorem at_126_51 : mj_at 126 51 = some (.aload_n 0, 0, 0) := by decide +kernel
theorem at_126_52 : mj_at 126 52 = some (.iconst 0, 0, 0) := by decide +kernel
theorem at_126_53 : mj_at 126 53 = some (.putfield 227, 10, 28) := by decide +kernel
theorem at_126_56 : mj_at 126 56 = some (.aload_n 0, 0, 0) := by decide +kernel
theorem at_126_57 : mj_at 126 57 = some (.iconst 0, 0, 0) := by decide +kernel
theorem at_126_58 : mj_at 126 58 = some (.putfield 230, 10, 29) := by decide +kernel
theorem at_126_61 : mj_at 126 61 = some (.iconst 0, 0, 0) := by decide +kernel
theorem at_126_62 : mj_at 126 62 = some (.istore_n 1, 0, 0) := by decide +kernel
theorem at_126_63 : mj_at 126 63 = some (.iload_n 1, 0, 0) := by decide +kernel
theorem at_126_64 : mj_at 126 64 = some (.iconst 5, 0, 0) := by decide +kernel
theorem at_126_65 : mj_at 126 65 = some (.if_icmp .ge 55, 0, 0) := by decide +kernel
theorem at_126_68 : mj_at 126 68 = some (.aload_n 0, 0, 0) := by decide +kernel
theorem at_126_69 : mj_at 126 69 = some (.getfield 65, 10, 30) := by decide +kernel
theorem at_126_72 : mj_at 126 72 = some (.iload_n 1, 0, 0) := by decide +kernel
theorem at_126_73 : mj_at 126 73 = some (.iconst 0, 0, 0) := by decide +kernel
theorem at_126_74 : mj_at 126 74 = some (.bastore, 0, 0) := by decide +kernel
theorem at_126_75 : mj_at 126 75 = some (.aload_n 0, 0, 0) := by decide +kernel
theorem at_126_76 : mj_at 126 76 = some (.getfield 108, 10, 44) := by decide +kernel
theorem at_126_79 : mj_at 126 79 = some (.iload_n 1, 0, 0) := by decide +kernel
theorem at_126_80 : mj_at 126 80 = some (.aload_n 0, 0, 0) := by decide +kernel
theorem at_126_81 : mj_at 126 81 = some (.getfield 20, 10, 6) := by decide +kernel
theorem at_126_84 : mj_at 126 84 = some (.iload_n 1, 0, 0) := by decide +kernel
theorem at_126_85 : mj_at 126 85 = some (.iaload, 0, 0) := by decide +kernel
theorem at_126_86 : mj_at 126 86 = some (.ifCond .ge 7, 0, 0) := by decide +kernel
theorem at_126_89 : mj_at 126 89 = some (.iconst 0, 0, 0) := by decide +kernel
theorem at_126_90 : mj_at 126 90 = some (.goto 9, 0, 0) := by decide +kernel
theorem at_126_93 : mj_at 126 93 = some (.aload_n 0, 0, 0) := by decide +kernel
theorem at_126_94 : mj_at 126 94 = some (.getfield 20, 10, 6) := by decide +kernel
theorem at_126_97 : mj_at 126 97 = some (.iload_n 1, 0, 0) := by decide +kernel
theorem at_126_98 : mj_at 126 98 = some (.iaload, 0, 0) := by decide +kernel
theorem at_126_99 : mj_at 126 99 = some (.iastore, 0, 0) := by decide +kernel
theorem at_126_100 : mj_at 126 100 = some (.aload_n 0, 0, 0) := by decide +kernel
theorem at_126_101 : mj_at 126 101 = some (.getfield 111, 10, 45) := by decide +kernel
theorem at_126_104 : mj_at 126 104 = some (.iload_n 1, 0, 0) := by decide +kernel
theorem at_126_105 : mj_at 126 105 = some (.iconst 0, 0, 0) := by decide +kernel
theorem at_126_106 : mj_at 126 106 = some (.iastore, 0, 0) := by decide +kernel
theorem at_126_107 : mj_at 126 107 = some (.aload_n 0, 0, 0) := by decide +kernel
theorem at_126_108 : mj_at 126 108 = some (.getfield 114, 10, 46) := by decide +kernel
theorem at_126_111 : mj_at 126 111 = some (.iload_n 1, 0, 0) := by decide +kernel
theorem at_126_112 : mj_at 126 112 = some (.iconst 0, 0, 0) := by decide +kernel
theorem at_126_113 : mj_at 126 113 = some (.iastore, 0, 0) := by decide +kernel
theorem at_126_114 : mj_at 126 114 = some (.iinc 1 1, 0, 0) := by decide +kernel
theorem at_126_117 : mj_at 126 117 = some (.goto (-54), 0, 0) := by decide +kernel
theorem at_126_120 : mj_at 126 120 = some (.iconst 0, 0, 0) := by decide +kernel
theorem at_126_121 : mj_at 126 121 = some (.istore_n 1, 0, 0) := by decide +kernel
theorem at_126_122 : mj_at 126 122 = some (.iload_n 1, 0, 0) := by decide +kernel
theorem at_126_123 : mj_at 126 123 = some (.bipush 40, 0, 0) := by decide +kernel
theorem at_126_125 : mj_at 126 125 = some (.if_icmp .ge 16, 0, 0) := by decide +kernel
theorem at_126_128 : mj_at 126 128 = some (.aload_n 0, 0, 0) := by decide +kernel
theorem at_126_129 : mj_at 126 129 = some (.getfield 105, 10, 43) := by decide +kernel
theorem at_126_132 : mj_at 126 132 = some (.iload_n 1, 0, 0) := by decide +kernel
theorem at_126_133 : mj_at 126 133 = some (.iconst 0, 0, 0) := by decide +kernel
theorem at_126_134 : mj_at 126 134 = some (.iastore, 0, 0) := by decide +kernel
theorem at_126_135 : mj_at 126 135 = some (.iinc 1 1, 0, 0) := by decide +kernel
theorem at_126_138 : mj_at 126 138 = some (.goto (-16), 0, 0) := by decide +kernel
theorem at_126_141 : mj_at 126 141 = some (.iconst 0, 0, 0) := by decide +kernel
theorem at_126_142 : mj_at 126 142 = some (.istore_n 1, 0, 0) := by decide +kernel
theorem at_126_143 : mj_at 126 143 = some (.iload_n 1, 0, 0) := by decide +kernel
theorem at_126_144 : mj_at 126 144 = some (.iconst 2, 0, 0) := by decide +kernel
theorem at_126_145 : mj_at 126 145 = some (.if_icmp .ge 23, 0, 0) := by decide +kernel
theorem at_126_148 : mj_at 126 148 = some (.aload_n 0, 0, 0) := by decide +kernel
theorem at_126_149 : mj_at 126 149 = some (.getfield 117, 10, 47) := by decide +kernel
theorem at_126_152 : mj_at 126 152 = some (.iload_n 1, 0, 0) := by decide +kernel
theorem at_126_153 : mj_at 126 153 = some (.iconst 0, 0, 0) := by decide +kernel
theorem at_126_154 : mj_at 126 154 = some (.iastore, 0, 0) := by decide +kernel
theorem at_126_155 : mj_at 126 155 = some (.aload_n 0, 0, 0) := by decide +kernel
theorem at_126_156 : mj_at 126 156 = some (.getfield 123, 10, 49) := by decide +kernel
theorem at_126_159 : mj_at 126 159 = some (.iload_n 1, 0, 0) := by decide +kernel
theorem at_126_160 : mj_at 126 160 = some (.iconst 0, 0, 0) := by decide +kernel
theorem at_126_161 : mj_at 126 161 = some (.iastore, 0, 0) := by decide +kernel
theorem at_126_162 : mj_at 126 162 = some (.iinc 1 1, 0, 0) := by decide +kernel
theorem at_126_165 : mj_at 126 165 = some (.goto (-22), 0, 0) := by decide +kernel
theorem at_126_168 : mj_at 126 168 = some (.iconst 1, 0, 0) := by decide +kernel
theorem at_126_169 : mj_at 126 169 = some (.ireturn, 0, 0) := by decide +kernel
theorem at_127_0 : mj_at 127 0 = some (.aload_n 0, 0, 0) := by decide +kernel
theorem at_127_1 : mj_at 127 1 = some (.getfield 141, 10, 2) := by decide +kernel
theorem at_127_4 : mj_at 127 4 = some (.istore_n 1, 0, 0) := by decide +kernel
theorem at_127_5 : mj_at 127 5 = some (.aload_n 0, 0, 0) := by decide +kernel
theorem at_127_6 : mj_at 127 6 = some (.iconst 0, 0, 0) := by decide +kernel
theorem at_127_7 : mj_at 127 7 = some (.putfield 141, 10, 2) := by decide +kernel
theorem at_127_10 : mj_at 127 10 = some (.iload_n 1, 0, 0) := by decide +kernel
theorem at_127_11 : mj_at 127 11 = some (.ireturn, 0, 0) := by decide +kernel
theorem at_128_0 : mj_at 128 0 = some (.aload_n 0, 0, 0) := by decide +kernel
theorem at_128_1 : mj_at 128 1 = some (.getfield 141, 10, 2) := by decide +kernel
theorem at_128_4 : mj_at 128 4 = some (.ifCond .eq 30, 0, 0) := by decide +kernel
theorem at_128_7 : mj_at 128 7 = some (.aload_n 0, 0, 0) := by decide +kernel
theorem at_128_8 : mj_at 128 8 = some (.iload_n 1, 0, 0) := by decide +kernel
theorem at_128_9 : mj_at 128 9 = some (.invokevirtual 152, 103, 1) := by decide +kernel
theorem at_128_12 : mj_at 128 12 = some (.ifCond .eq 22, 0, 0) := by decide +kernel
theorem at_128_15 : mj_at 128 15 = some (.aload_n 0, 0, 0) := by decide +kernel
theorem at_128_16 : mj_at 128 16 = some (.getfield 20, 10, 6) := by decide +kernel
theorem at_128_19 : mj_at 128 19 = some (.iload_n 1, 0, 0) := by decide +kernel
theorem at_128_20 : mj_at 128 20 = some (.iaload, 0, 0) := by decide +kernel
theorem at_128_21 : mj_at 128 21 = some (.ifCond .ge 13, 0, 0) := by decide +kernel
theorem at_128_24 : mj_at 128 24 = some (.aload_n 0, 0, 0) := by decide +kernel
theorem at_128_25 : mj_at 128 25 = some (.getfield 111, 10, 45) := by decide +kernel
theorem at_128_28 : mj_at 128 28 = some (.iload_n 1, 0, 0) := by decide +kernel
theorem at_128_29 : mj_at 128 29 = some (.iaload, 0, 0) := by decide +kernel
theorem at_128_30 : mj_at 128 30 = some (.iconst 4, 0, 0) := by decide +kernel
theorem at_128_31 : mj_at 128 31 = some (.if_icmp .ne 5, 0, 0) := by decide +kernel
theorem at_128_34 : mj_at 128 34 = some (.iconst 0, 0, 0) := by decide +kernel
theorem at_128_35 : mj_at 128 35 = some (.ireturn, 0, 0) := by decide +kernel
theorem at_128_36 : mj_at 128 36 = some (.aload_n 0, 0, 0) := by decide +kernel
theorem at_128_37 : mj_at 128 37 = some (.getfield 111, 10, 45) := by decide +kernel
theorem at_128_40 : mj_at 128 40 = some (.iload_n 1, 0, 0) := by decide +kernel
theorem at_128_41 : mj_at 128 41 = some (.dup2, 0, 0) := by decide +kernel
theorem at_128_42 : mj_at 128 42 = some (.iaload, 0, 0) := by decide +kernel
theorem at_128_43 : mj_at 128 43 = some (.iconst 1, 0, 0) := by decide +kernel
theorem at_128_44 : mj_at 128 44 = some (.iadd, 0, 0) := by decide +kernel
theorem at_128_45 : mj_at 128 45 = some (.iastore, 0, 0) := by decide +kernel
theorem at_128_46 : mj_at 128 46 = some (.iconst 1, 0, 0) := by decide +kernel
theorem at_128_47 : mj_at 128 47 = some (.ireturn, 0, 0) := by decide +kernel
theorem at_129_0 : mj_at 129 0 = some (.aload_n 0, 0, 0) := by decide +kernel
theorem at_129_1 : mj_at 129 1 = some (.getfield 141, 10, 2) := by decide +kernel
theorem at_129_4 : mj_at 129 4 = some (.ifCond .eq 12, 0, 0) := by decide +kernel
theorem at_129_7 : mj_at 129 7 = some (.iload_n 1, 0, 0) := by decide +kernel
theorem at_129_8 : mj_at 129 8 = some (.iconst 0, 0, 0) := by decide +kernel
theorem at_129_9 : mj_at 129 9 = some (.iconst 1, 0, 0) := by decide +kernel
theorem at_129_10 : mj_at 129 10 = some (.invokestatic 145, 101, 3) := by decide +kernel
theorem at_129_13 : mj_at 129 13 = some (.ifCond .ne 5, 0, 0) := by decide +kernel
theorem at_129_16 : mj_at 129 16 = some (.iconst 0, 0, 0) := by decide +kernel
theorem at_129_17 : mj_at 129 17 = some (.ireturn, 0, 0) := by decide +kernel
theorem at_129_18 : mj_at 129 18 = some (.aload_n 0, 0, 0) := by decide +kernel
theorem at_129_19 : mj_at 129 19 = some (.getfield 117, 10, 47) := by decide +kernel
theorem at_129_22 : mj_at 129 22 = some (.iload_n 1, 0, 0) := by decide +kernel
theorem at_129_23 : mj_at 129 23 = some (.iload_n 2, 0, 0) := by decide +kernel
theorem at_129_24 : mj_at 129 24 = some (.iastore, 0, 0) := by decide +kernel
theorem at_129_25 : mj_at 129 25 = some (.iconst 1, 0, 0) := by decide +kernel
theorem at_129_26 : mj_at 129 26 = some (.ireturn, 0, 0) := by decide +kernel
theorem at_130_0 : mj_at 130 0 = some (.aload_n 0, 0, 0) := by decide +kernel
theorem at_130_1 : mj_at 130 1 = some (.getfield 141, 10, 2) := by decide +kernel
theorem at_130_4 : mj_at 130 4 = some (.ifCond .eq 14, 0, 0) := by decide +kernel
theorem at_130_7 : mj_at 130 7 = some (.iload_n 1, 0, 0) := by decide +kernel
theorem at_130_8 : mj_at 130 8 = some (.iconst 1, 0, 0) := by decide +kernel
theorem at_130_9 : mj_at 130 9 = some (.sipush 500, 0, 0) := by decide +kernel
theorem at_130_12 : mj_at 130 12 = some (.invokestatic 145, 101, 3) := by decide +kernel
theorem at_130_15 : mj_at 130 15 = some (.ifCond .ne 5, 0, 0) := by decide +kernel
theorem at_130_18 : mj_at 130 18 = some (.iconst (-1), 0, 0) := by decide +kernel
theorem at_130_19 : mj_at 130 19 = some (.ireturn, 0, 0) := by decide +kernel
theorem at_130_20 : mj_at 130 20 = some (.aload_n 0, 0, 0) := by decide +kernel
theorem at_130_21 : mj_at 130 21 = some (.getfield 230, 10, 29) := by decide +kernel
theorem at_130_24 : mj_at 130 24 = some (.istore_n 2, 0, 0) := by decide +kernel
theorem at_130_25 : mj_at 130 25 = some (.iconst 0, 0, 0) := by decide +kernel
theorem at_130_26 : mj_at 130 26 = some (.istore_n 3, 0, 0) := by decide +kernel
theorem at_130_27 : mj_at 130 27 = some (.iload_n 3, 0, 0) := by decide +kernel
theorem at_130_28 : mj_at 130 28 = some (.iload_n 1, 0, 0) := by decide +kernel
theorem at_130_29 : mj_at 130 29 = some (.if_icmp .ge 13, 0, 0) := by decide +kernel
theorem at_130_32 : mj_at 130 32 = some (.aload_n 0, 0, 0) := by decide +kernel
theorem at_130_33 : mj_at 130 33 = some (.invokevirtual 263, 131, 0) := by decide +kernel
theorem at_130_36 : mj_at 130 36 = some (.iinc 3 1, 0, 0) := by decide +kernel
theorem at_130_39 : mj_at 130 39 = some (.goto (-12), 0, 0) := by decide +kernel
theorem at_130_42 : mj_at 130 42 = some (.aload_n 0, 0, 0) := by decide +kernel
theorem at_130_43 : mj_at 130 43 = some (.getfield 230, 10, 29) := by decide +kernel
theorem at_130_46 : mj_at 130 46 = some (.iload_n 2, 0, 0) := by decide +kernel
theorem at_130_47 : mj_at 130 47 = some (.isub, 0, 0) := by decide +kernel
theorem at_130_48 : mj_at 130 48 = some (.ireturn, 0, 0) := by decide +kernel
theorem at_131_0 : mj_at 131 0 = some (.iconst 0, 0, 0) := by decide +kernel
theorem at_131_1 : mj_at 131 1 = some (.istore_n 1, 0, 0) := by decide +kernel
theorem at_131_2 : mj_at 131 2 = some (.iload_n 1, 0, 0) := by decide +kernel
theorem at_131_3 : mj_at 131 3 = some (.aload_n 0, 0, 0) := by decide +kernel
theorem at_131_4 : mj_at 131 4 = some (.getfield 138, 10, 0) := by decide +kernel
theorem at_131_7 : mj_at 131 7 = some (.if_icmp .ge 45, 0, 0) := by decide +kernel
theorem at_131_10 : mj_at 131 10 = some (.aload_n 0, 0, 0) := by decide +kernel
theorem at_131_11 : mj_at 131 11 = some (.getfield 209, 10, 22) := by decide +kernel
theorem at_131_14 : mj_at 131 14 = some (.aload_n 0, 0, 0) := by decide +kernel
theorem at_131_15 : mj_at 131 15 = some (.getfield 108, 10, 44) := by decide +kernel
theorem at_131_18 : mj_at 131 18 = some (.iload_n 1, 0, 0) := by decide +kernel
theorem at_131_19 : mj_at 131 19 = some (.iaload, 0, 0) := by decide +kernel
theorem at_131_20 : mj_at 131 20 = some (.if_icmp .lt 26, 0, 0) := by decide +kernel
theorem at_131_23 : mj_at 131 23 = some (.aload_n 0, 0, 0) := by decide +kernel
theorem at_131_24 : mj_at 131 24 = some (.getfield 20, 10, 6) := by decide +kernel
theorem at_131_27 : mj_at 131 27 = some (.iload_n 1, 0, 0) := by decide +kernel
theorem at_131_28 : mj_at 131 28 = some (.iaload, 0, 0) := by decide +kernel
theorem at_131_29 : mj_at 131 29 = some (.ifCond .ge 12, 0, 0) := by decide +kernel
theorem at_131_32 : mj_at 131 32 = some (.aload_n 0, 0, 0) := by decide +kernel
theorem at_131_33 : mj_at 131 33 = some (.getfield 111, 10, 45) := by decide +kernel
theorem at_131_36 : mj_at 131 36 = some (.iload_n 1, 0, 0) := by decide +kernel
theorem at_131_37 : mj_at 131 37 = some (.iaload, 0, 0) := by decide +kernel
theorem at_131_38 : mj_at 131 38 = some (.ifCond .le 8, 0, 0) := by decide +kernel
theorem at_131_41 : mj_at 131 41 = some (.aload_n 0, 0, 0) := by decide +kernel
theorem at_131_42 : mj_at 131 42 = some (.iload_n 1, 0, 0) := by decide +kernel
theorem at_131_43 : mj_at 131 43 = some (.invokevirtual 240, 132, 1) := by decide +kernel
theorem at_131_46 : mj_at 131 46 = some (.iinc 1 1, 0, 0) := by decide +kernel
theorem at_131_49 : mj_at 131 49 = some (.goto (-47), 0, 0) := by decide +kernel
theorem at_131_52 : mj_at 131 52 = some (.aload_n 0, 0, 0) := by decide +kernel
theorem at_131_53 : mj_at 131 53 = some (.invokevirtual 243, 134, 0) := by decide +kernel
theorem at_131_56 : mj_at 131 56 = some (.istore_n 1, 0, 0) := by decide +kernel
theorem at_131_57 : mj_at 131 57 = some (.aload_n 0, 0, 0) := by decide +kernel
theorem at_131_58 : mj_at 131 58 = some (.dup, 0, 0) := by decide +kernel
theorem at_131_59 : mj_at 131 59 = some (.getfield 209, 10, 22) := by decide +kernel
theorem at_131_62 : mj_at 131 62 = some (.iconst 1, 0, 0) := by decide +kernel
theorem at_131_63 : mj_at 131 63 = some (.iadd, 0, 0) := by decide +kernel
theorem at_131_64 : mj_at 131 64 = some (.putfield 209, 10, 22) := by decide +kernel
theorem at_131_67 : mj_at 131 67 = some (.aload_n 0, 0, 0) := by decide +kernel
theorem at_131_68 : mj_at 131 68 = some (.iload_n 1, 0, 0) := by decide +kernel
theorem at_131_69 : mj_at 131 69 = some (.putfield 212, 10, 23) := by decide +kernel
theorem at_131_72 : mj_at 131 72 = some (.iload_n 1, 0, 0) := by decide +kernel
theorem at_131_73 : mj_at 131 73 = some (.ifCond .ge 16, 0, 0) := by decide +kernel
theorem at_131_76 : mj_at 131 76 = some (.aload_n 0, 0, 0) := by decide +kernel
theorem at_131_77 : mj_at 131 77 = some (.dup, 0, 0) := by decide +kernel
theorem at_131_78 : mj_at 131 78 = some (.getfield 227, 10, 28) := by decide +kernel
theorem at_131_81 : mj_at 131 81 = some (.iconst 1, 0, 0) := by decide +kernel
theorem at_131_82 : mj_at 131 82 = some (.iadd, 0, 0) := by decide +kernel
theorem at_131_83 : mj_at 131 83 = some (.putfield 227, 10, 28) := by decide +kernel
theorem at_131_86 : mj_at 131 86 = some (.goto 63, 0, 0) := by decide +kernel
theorem at_131_89 : mj_at 131 89 = some (.iload_n 1, 0, 0) := by decide +kernel
theorem at_131_90 : mj_at 131 90 = some (.aload_n 0, 0, 0) := by decide +kernel
theorem at_131_91 : mj_at 131 91 = some (.getfield 215, 10, 24) := by decide +kernel
theorem at_131_94 : mj_at 131 94 = some (.if_icmp .eq 23, 0, 0) := by decide +kernel
theorem at_131_97 : mj_at 131 97 = some (.aload_n 0, 0, 0) := by decide +kernel
theorem at_131_98 : mj_at 131 98 = some (.dup, 0, 0) := by decide +kernel
theorem at_131_99 : mj_at 131 99 = some (.getfield 218, 10, 25) := by decide +kernel
theorem at_131_102 : mj_at 131 102 = some (.iconst 1, 0, 0) := by decide +kernel
theorem at_131_103 : mj_at 131 103 = some (.iadd, 0, 0) := by decide +kernel
theorem at_131_104 : mj_at 131 104 = some (.putfield 218, 10, 25) := by decide +kernel
theorem at_131_107 : mj_at 131 107 = some (.aload_n 0, 0, 0) := by decide +kernel
theorem at_131_108 : mj_at 131 108 = some (.getfield 75, 10, 33) := by decide +kernel
theorem at_131_111 : mj_at 131 111 = some (.iload_n 1, 0, 0) := by decide +kernel
theorem at_131_112 : mj_at 131 112 = some (.iconst 1, 0, 0) := by decide +kernel
theorem at_131_113 : mj_at 131 113 = some (.iastore, 0, 0) := by decide +kernel
theorem at_131_114 : mj_at 131 114 = some (.goto 35, 0, 0) := by decide +kernel
theorem at_131_117 : mj_at 131 117 = some (.aload_n 0, 0, 0) := by decide +kernel
theorem at_131_118 : mj_at 131 118 = some (.getfield 75, 10, 33) := by decide +kernel
theorem at_131_121 : mj_at 131 121 = some (.iload_n 1, 0, 0) := by decide +kernel
theorem at_131_122 : mj_at 131 122 = some (.iaload, 0, 0) := by decide +kernel
theorem at_131_123 : mj_at 131 123 = some (.ifCond .le 16, 0, 0) := by decide +kernel
theorem at_131_126 : mj_at 131 126 = some (.aload_n 0, 0, 0) := by decide +kernel
theorem at_131_127 : mj_at 131 127 = some (.getfield 75, 10, 33) := by decide +kernel
theorem at_131_130 : mj_at 131 130 = some (.iload_n 1, 0, 0) := by decide +kernel
theorem at_131_131 : mj_at 131 131 = some (.dup2, 0, 0) := by decide +kernel
theorem at_131_132 : mj_at 131 132 = some (.iaload, 0, 0) := by decide +kernel
theorem at_131_133 : mj_at 131 133 = some (.iconst 1, 0, 0) := by decide +kernel
theorem at_131_134 : mj_at 131 134 = some (.isub, 0, 0) := by decide +kernel
theorem at_131_135 : mj_at 131 135 = some (.iastore, 0, 0) := by decide +kernel
theorem at_131_136 : mj_at 131 136 = some (.goto 13, 0, 0) := by decide +kernel
theorem at_131_139 : mj_at 131 139 = some (.aload_n 0, 0, 0) := by decide +kernel
theorem at_131_140 : mj_at 131 140 = some (.getfield 78, 10, 34) := by decide +kernel
theorem at_131_143 : mj_at 131 143 = some (.iload_n 1, 0, 0) := by decide +kernel
theorem at_131_144 : mj_at 131 144 = some (.dup2, 0, 0) := by decide +kernel
theorem at_131_145 : mj_at 131 145 = some (.iaload, 0, 0) := by decide +kernel
theorem at_131_146 : mj_at 131 146 = some (.iconst 1, 0, 0) := by decide +kernel
theorem at_131_147 : mj_at 131 147 = some (.iadd, 0, 0) := by decide +kernel
theorem at_131_148 : mj_at 131 148 = some (.iastore, 0, 0) := by decide +kernel
theorem at_131_149 : mj_at 131 149 = some (.aload_n 0, 0, 0) := by decide +kernel
theorem at_131_150 : mj_at 131 150 = some (.iload_n 1, 0, 0) := by decide +kernel
theorem at_131_151 : mj_at 131 151 = some (.putfield 215, 10, 24) := by decide +kernel
theorem at_131_154 : mj_at 131 154 = some (.iload_n 1, 0, 0) := by decide +kernel
theorem at_131_155 : mj_at 131 155 = some (.ifCond .lt 64, 0, 0) := by decide +kernel
theorem at_131_158 : mj_at 131 158 = some (.aload_n 0, 0, 0) := by decide +kernel
theorem at_131_159 : mj_at 131 159 = some (.getfield 69, 10, 31) := by decide +kernel
theorem at_131_162 : mj_at 131 162 = some (.iload_n 1, 0, 0) := by decide +kernel
theorem at_131_163 : mj_at 131 163 = some (.iconst 1, 0, 0) := by decide +kernel
theorem at_131_164 : mj_at 131 164 = some (.bastore, 0, 0) := by decide +kernel
theorem at_131_165 : mj_at 131 165 = some (.iconst 3, 0, 0) := by decide +kernel
theorem at_131_166 : mj_at 131 166 = some (.iload_n 1, 0, 0) := by decide +kernel
theorem at_131_167 : mj_at 131 167 = some (.imul, 0, 0) := by decide +kernel
theorem at_131_168 : mj_at 131 168 = some (.aload_n 0, 0, 0) := by decide +kernel
theorem at_131_169 : mj_at 131 169 = some (.getfield 87, 10, 37) := by decide +kernel
theorem at_131_172 : mj_at 131 172 = some (.iload_n 1, 0, 0) := by decide +kernel
theorem at_131_173 : mj_at 131 173 = some (.iaload, 0, 0) := by decide +kernel
theorem at_131_174 : mj_at 131 174 = some (.iadd, 0, 0) := by decide +kernel
theorem at_131_175 : mj_at 131 175 = some (.bipush 12, 0, 0) := by decide +kernel
theorem at_131_177 : mj_at 131 177 = some (.imul, 0, 0) := by decide +kernel
theorem at_131_178 : mj_at 131 178 = some (.aload_n 0, 0, 0) := by decide +kernel
theorem at_131_179 : mj_at 131 179 = some (.getfield 90, 10, 38) := by decide +kernel
theorem at_131_182 : mj_at 131 182 = some (.iload_n 1, 0, 0) := by decide +kernel
theorem at_131_183 : mj_at 131 183 = some (.iaload, 0, 0) := by decide +kernel
theorem at_131_184 : mj_at 131 184 = some (.iadd, 0, 0) := by decide +kernel
theorem at_131_185 : mj_at 131 185 = some (.istore_n 2, 0, 0) := by decide +kernel
theorem at_131_186 : mj_at 131 186 = some (.aload_n 0, 0, 0) := by decide +kernel
theorem at_131_187 : mj_at 131 187 = some (.getfield 78, 10, 34) := by decide +kernel
theorem at_131_190 : mj_at 131 190 = some (.iload_n 1, 0, 0) := by decide +kernel
theorem at_131_191 : mj_at 131 191 = some (.iaload, 0, 0) := by decide +kernel
theorem at_131_192 : mj_at 131 192 = some (.aload_n 0, 0, 0) := by decide +kernel
theorem at_131_193 : mj_at 131 193 = some (.getfield 38, 10, 12) := by decide +kernel
theorem at_131_196 : mj_at 131 196 = some (.aload_n 0, 0, 0) := by decide +kernel
theorem at_131_197 : mj_at 131 197 = some (.getfield 23, 10, 7) := by decide +kernel
theorem at_131_200 : mj_at 131 200 = some (.iload_n 2, 0, 0) := by decide +kernel
theorem at_131_201 : mj_at 131 201 = some (.iaload, 0, 0) := by decide +kernel
theorem at_131_202 : mj_at 131 202 = some (.iaload, 0, 0) := by decide +kernel
theorem at_131_203 : mj_at 131 203 = some (.if_icmp .ne 16, 0, 0) := by decide +kernel
theorem at_131_206 : mj_at 131 206 = some (.aload_n 0, 0, 0) := by decide +kernel
theorem at_131_207 : mj_at 131 207 = some (.getfield 78, 10, 34) := by decide +kernel
theorem at_131_210 : mj_at 131 210 = some (.iload_n 1, 0, 0) := by decide +kernel
theorem at_131_211 : mj_at 131 211 = some (.iconst 0, 0, 0) := by decide +kernel
theorem at_131_212 : mj_at 131 212 = some (.iastore, 0, 0) := by decide +kernel
theorem at_131_213 : mj_at 131 213 = some (.aload_n 0, 0, 0) := by decide +kernel
theorem at_131_214 : mj_at 131 214 = some (.iload_n 1, 0, 0) := by decide +kernel
theorem at_131_215 : mj_at 131 215 = some (.iload_n 2, 0, 0) := by decide +kernel
theorem at_131_216 : mj_at 131 216 = some (.invokevirtual 246, 136, 2) := by decide +kernel
theorem at_131_219 : mj_at 131 219 = some (.return_, 0, 0) := by decide +kernel
theorem at_132_0 : mj_at 132 0 = some (.aload_n 0, 0, 0) := by decide +kernel
theorem at_132_1 : mj_at 132 1 = some (.getfield 108, 10, 44) := by decide +kernel
theorem at_132_4 : mj_at 132 4 = some (.iload_n 1, 0, 0) := by decide +kernel
theorem at_132_5 : mj_at 132 5 = some (.aload_n 0, 0, 0) := by decide +kernel
theorem at_132_6 : mj_at 132 6 = some (.getfield 209, 10, 22) := by decide +kernel
theorem at_132_9 : mj_at 132 9 = some (.aload_n 0, 0, 0) := by decide +kernel
theorem at_132_10 : mj_at 132 10 = some (.getfield 13, 10, 4) := by decide +kernel
theorem at_132_13 : mj_at 132 13 = some (.iload_n 1, 0, 0) := by decide +kernel
theorem at_132_14 : mj_at 132 14 = some (.iaload, 0, 0) := by decide +kernel
theorem at_132_15 : mj_at 132 15 = some (.iadd, 0, 0) := by decide +kernel
theorem at_132_16 : mj_at 132 16 = some (.iastore, 0, 0) := by decide +kernel
theorem at_132_17 : mj_at 132 17 = some (.aload_n 0, 0, 0) := by decide +kernel
theorem at_132_18 : mj_at 132 18 = some (.getfield 111, 10, 45) := by decide +kernel
theorem at_132_21 : mj_at 132 21 = some (.iload_n 1, 0, 0) := by decide +kernel
theorem at_132_22 : mj_at 132 22 = some (.aload_n 0, 0, 0) := by decide +kernel
theorem at_132_23 : mj_at 132 23 = some (.getfield 20, 10, 6) := by decide +kernel
theorem at_132_26 : mj_at 132 26 = some (.iload_n 1, 0, 0) := by decide +kernel
theorem at_132_27 : mj_at 132 27 = some (.iaload, 0, 0) := by decide +kernel
theorem at_132_28 : mj_at 132 28 = some (.ifCond .ge 14, 0, 0) := by decide +kernel
theorem at_132_31 : mj_at 132 31 = some (.aload_n 0, 0, 0) := by decide +kernel
theorem at_132_32 : mj_at 132 32 = some (.getfield 111, 10, 45) := by decide +kernel
theorem at_132_35 : mj_at 132 35 = some (.iload_n 1, 0, 0) := by decide +kernel
theorem at_132_36 : mj_at 132 36 = some (.iaload, 0, 0) := by decide +kernel
theorem at_132_37 : mj_at 132 37 = some (.iconst 1, 0, 0) := by decide +kernel
theorem at_132_38 : mj_at 132 38 = some (.isub, 0, 0) := by decide +kernel
theorem at_132_39 : mj_at 132 39 = some (.goto 4, 0, 0) := by decide +kernel
theorem at_132_42 : mj_at 132 42 = some (.iconst 0, 0, 0) := by decide +kernel
theorem at_132_43 : mj_at 132 43 = some (.iastore, 0, 0) := by decide +kernel
theorem at_132_44 : mj_at 132 44 = some (.aload_n 0, 0, 0) := by decide +kernel
theorem at_132_45 : mj_at 132 45 = some (.getfield 65, 10, 30) := by decide +kernel
theorem at_132_48 : mj_at 132 48 = some (.iload_n 1, 0, 0) := by decide +kernel
theorem at_132_49 : mj_at 132 49 = some (.baload, 0, 0) := by decide +kernel
theorem at_132_50 : mj_at 132 50 = some (.ifCond .eq 31, 0, 0) := by decide +kernel
theorem at_132_53 : mj_at 132 53 = some (.aload_n 0, 0, 0) := by decide +kernel
theorem at_132_54 : mj_at 132 54 = some (.dup, 0, 0) := by decide +kernel
theorem at_132_55 : mj_at 132 55 = some (.getfield 224, 10, 27) := by decide +kernel
theorem at_132_58 : mj_at 132 58 = some (.iconst 1, 0, 0) := by decide +kernel
theorem at_132_59 : mj_at 132 59 = some (.iadd, 0, 0) := by decide +kernel
theorem at_132_60 : mj_at 132 60 = some (.putfield 224, 10, 27) := by decide +kernel
theorem at_132_63 : mj_at 132 63 = some (.aload_n 0, 0, 0) := by decide +kernel
theorem at_132_64 : mj_at 132 64 = some (.iconst 4, 0, 0) := by decide +kernel
theorem at_132_65 : mj_at 132 65 = some (.iload_n 1, 0, 0) := by decide +kernel
theorem at_132_66 : mj_at 132 66 = some (.aload_n 0, 0, 0) := by decide +kernel
theorem at_132_67 : mj_at 132 67 = some (.getfield 209, 10, 22) := by decide +kernel
theorem at_132_70 : mj_at 132 70 = some (.aload_n 0, 0, 0) := by decide +kernel
theorem at_132_71 : mj_at 132 71 = some (.getfield 72, 10, 32) := by decide +kernel
theorem at_132_74 : mj_at 132 74 = some (.iload_n 1, 0, 0) := by decide +kernel
theorem at_132_75 : mj_at 132 75 = some (.iaload, 0, 0) := by decide +kernel
theorem at_132_76 : mj_at 132 76 = some (.isub, 0, 0) := by decide +kernel
theorem at_132_77 : mj_at 132 77 = some (.invokevirtual 233, 133, 3) := by decide +kernel
theorem at_132_80 : mj_at 132 80 = some (.return_, 0, 0) := by decide +kernel
theorem at_132_81 : mj_at 132 81 = some (.aload_n 0, 0, 0) := by decide +kernel
theorem at_132_82 : mj_at 132 82 = some (.getfield 65, 10, 30) := by decide +kernel
theorem at_132_85 : mj_at 132 85 = some (.iload_n 1, 0, 0) := by decide +kernel
theorem at_132_86 : mj_at 132 86 = some (.iconst 1, 0, 0) := by decide +kernel
theorem at_132_87 : mj_at 132 87 = some (.bastore, 0, 0) := by decide +kernel
theorem at_132_88 : mj_at 132 88 = some (.aload_n 0, 0, 0) := by decide +kernel
theorem at_132_89 : mj_at 132 89 = some (.getfield 69, 10, 31) := by decide +kernel
theorem at_132_92 : mj_at 132 92 = some (.iload_n 1, 0, 0) := by decide +kernel
theorem at_132_93 : mj_at 132 93 = some (.iconst 0, 0, 0) := by decide +kernel
theorem at_132_94 : mj_at 132 94 = some (.bastore, 0, 0) := by decide +kernel
theorem at_132_95 : mj_at 132 95 = some (.aload_n 0, 0, 0) := by decide +kernel
theorem at_132_96 : mj_at 132 96 = some (.getfield 72, 10, 32) := by decide +kernel
theorem at_132_99 : mj_at 132 99 = some (.iload_n 1, 0, 0) := by decide +kernel
theorem at_132_100 : mj_at 132 100 = some (.aload_n 0, 0, 0) := by decide +kernel
theorem at_132_101 : mj_at 132 101 = some (.getfield 209, 10, 22) := by decide +kernel
theorem at_132_104 : mj_at 132 104 = some (.iastore, 0, 0) := by decide +kernel
theorem at_132_105 : mj_at 132 105 = some (.aload_n 0, 0, 0) := by decide +kernel
theorem at_132_106 : mj_at 132 106 = some (.getfield 78, 10, 34) := by decide +kernel
theorem at_132_109 : mj_at 132 109 = some (.iload_n 1, 0, 0) := by decide +kernel
theorem at_132_110 : mj_at 132 110 = some (.iconst 0, 0, 0) := by decide +kernel
theorem at_132_111 : mj_at 132 111 = some (.iastore, 0, 0) := by decide +kernel
theorem at_132_112 : mj_at 132 112 = some (.aload_n 0, 0, 0) := by decide +kernel
theorem at_132_113 : mj_at 132 113 = some (.getfield 81, 10, 35) := by decide +kernel
theorem at_132_116 : mj_at 132 116 = some (.iload_n 1, 0, 0) := by decide +kernel
theorem at_132_117 : mj_at 132 117 = some (.iconst 0, 0, 0) := by decide +kernel
theorem at_132_118 : mj_at 132 118 = some (.iastore, 0, 0) := by decide +kernel
theorem at_132_119 : mj_at 132 119 = some (.aload_n 0, 0, 0) := by decide +kernel
theorem at_132_120 : mj_at 132 120 = some (.getfield 84, 10, 36) := by decide +kernel
theorem at_132_123 : mj_at 132 123 = some (.iload_n 1, 0, 0) := by decide +kernel
theorem at_132_124 : mj_at 132 124 = some (.iconst 0, 0, 0) := by decide +kernel
theorem at_132_125 : mj_at 132 125 = some (.iastore, 0, 0) := by decide +kernel
theorem at_132_126 : mj_at 132 126 = some (.aload_n 0, 0, 0) := by decide +kernel
theorem at_132_127 : mj_at 132 127 = some (.getfield 87, 10, 37) := by decide +kernel
theorem at_132_130 : mj_at 132 130 = some (.iload_n 1, 0, 0) := by decide +kernel
theorem at_132_131 : mj_at 132 131 = some (.iconst 0, 0, 0) := by decide +kernel
theorem at_132_132 : mj_at 132 132 = some (.iastore, 0, 0) := by decide +kernel
theorem at_132_133 : mj_at 132 133 = some (.aload_n 0, 0, 0) := by decide +kernel
theorem at_132_134 : mj_at 132 134 = some (.getfield 90, 10, 38) := by decide +kernel
theorem at_132_137 : mj_at 132 137 = some (.iload_n 1, 0, 0) := by decide +kernel
theorem at_132_138 : mj_at 132 138 = some (.iconst 0, 0, 0) := by decide +kernel
theorem at_132_139 : mj_at 132 139 = some (.iastore, 0, 0) := by decide +kernel
theorem at_132_140 : mj_at 132 140 = some (.iconst 0, 0, 0) := by decide +kernel
theorem at_132_141 : mj_at 132 141 = some (.istore_n 2, 0, 0) := by decide +kernel
theorem at_132_142 : mj_at 132 142 = some (.iload_n 2, 0, 0) := by decide +kernel
theorem at_132_143 : mj_at 132 143 = some (.iconst 4, 0, 0) := by decide +kernel
theorem at_132_144 : mj_at 132 144 = some (.if_icmp .ge 20, 0, 0) := by decide +kernel
theorem at_132_147 : mj_at 132 147 = some (.aload_n 0, 0, 0) := by decide +kernel
theorem at_132_148 : mj_at 132 148 = some (.getfield 102, 10, 42) := by decide +kernel
theorem at_132_151 : mj_at 132 151 = some (.iconst 4, 0, 0) := by decide +kernel
theorem at_132_152 : mj_at 132 152 = some (.iload_n 1, 0, 0) := by decide +kernel
theorem at_132_153 : mj_at 132 153 = some (.imul, 0, 0) := by decide +kernel
theorem at_132_154 : mj_at 132 154 = some (.iload_n 2, 0, 0) := by decide +kernel
theorem at_132_155 : mj_at 132 155 = some (.iadd, 0, 0) := by decide +kernel
theorem at_132_156 : mj_at 132 156 = some (.iconst 0, 0, 0) := by decide +kernel
theorem at_132_157 : mj_at 132 157 = some (.iastore, 0, 0) := by decide +kernel
theorem at_132_158 : mj_at 132 158 = some (.iinc 2 1, 0, 0) := by decide +kernel
theorem at_132_161 : mj_at 132 161 = some (.goto (-19), 0, 0) := by decide +kernel
theorem at_132_164 : mj_at 132 164 = some (.return_, 0, 0) := by decide +kernel
theorem at_133_0 : mj_at 133 0 = some (.aload_n 0, 0, 0) := by decide +kernel
theorem at_133_1 : mj_at 133 1 = some (.getfield 230, 10, 29) := by decide +kernel
theorem at_133_4 : mj_at 133 4 = some (.bipush 31, 0, 0) := by decide +kernel
theorem at_133_6 : mj_at 133 6 = some (.iand, 0, 0) := by decide +kernel
theorem at_133_7 : mj_at 133 7 = some (.istore 4, 0, 0) := by decide +kernel
theorem at_133_9 : mj_at 133 9 = some (.aload_n 0, 0, 0) := by decide +kernel
theorem at_133_10 : mj_at 133 10 = some (.getfield 126, 10, 50) := by decide +kernel
theorem at_133_13 : mj_at 133 13 = some (.iload 4, 0, 0) := by decide +kernel
theorem at_133_15 : mj_at 133 15 = some (.iload_n 1, 0, 0) := by decide +kernel
theorem at_133_16 : mj_at 133 16 = some (.iastore, 0, 0) := by decide +kernel
theorem at_133_17 : mj_at 133 17 = some (.aload_n 0, 0, 0) := by decide +kernel
theorem at_133_18 : mj_at 133 18 = some (.getfield 129, 10, 51) := by decide +kernel
theorem at_133_21 : mj_at 133 21 = some (.iload 4, 0, 0) := by decide +kernel
theorem at_133_23 : mj_at 133 23 = some (.iload_n 2, 0, 0) := by decide +kernel
theorem at_133_24 : mj_at 133 24 = some (.iastore, 0, 0) := by decide +kernel
theorem at_133_25 : mj_at 133 25 = some (.aload_n 0, 0, 0) := by decide +kernel
theorem at_133_26 : mj_at 133 26 = some (.getfield 132, 10, 52) := by decide +kernel
theorem at_133_29 : mj_at 133 29 = some (.iload 4, 0, 0) := by decide +kernel
theorem at_133_31 : mj_at 133 31 = some (.aload_n 0, 0, 0) := by decide +kernel
theorem at_133_32 : mj_at 133 32 = some (.getfield 209, 10, 22) := by decide +kernel
theorem at_133_35 : mj_at 133 35 = some (.iastore, 0, 0) := by decide +kernel
theorem at_133_36 : mj_at 133 36 = some (.aload_n 0, 0, 0) := by decide +kernel
theorem at_133_37 : mj_at 133 37 = some (.getfield 135, 10, 53) := by decide +kernel
theorem at_133_40 : mj_at 133 40 = some (.iload 4, 0, 0) := by decide +kernel
theorem at_133_42 : mj_at 133 42 = some (.iload_n 3, 0, 0) := by decide +kernel
theorem at_133_43 : mj_at 133 43 = some (.iastore, 0, 0) := by decide +kernel
theorem at_133_44 : mj_at 133 44 = some (.aload_n 0, 0, 0) := by decide +kernel
theorem at_133_45 : mj_at 133 45 = some (.dup, 0, 0) := by decide +kernel
theorem at_133_46 : mj_at 133 46 = some (.getfield 230, 10, 29) := by decide +kernel
theorem at_133_49 : mj_at 133 49 = some (.iconst 1, 0, 0) := by decide +kernel
theorem at_133_50 : mj_at 133 50 = some (.iadd, 0, 0) := by decide +kernel
theorem at_133_51 : mj_at 133 51 = some (.putfield 230, 10, 29) := by decide +kernel
theorem at_133_54 : mj_at 133 54 = some (.return_, 0, 0) := by decide +kernel
theorem at_134_0 : mj_at 134 0 = some (.iconst (-1), 0, 0) := by decide +kernel
theorem at_134_1 : mj_at 134 1 = some (.istore_n 1, 0, 0) := by decide +kernel
theorem at_134_2 : mj_at 134 2 = some (.iconst 0, 0, 0) := by decide +kernel
theorem at_134_3 : mj_at 134 3 = some (.istore_n 2, 0, 0) := by decide +kernel
theorem at_134_4 : mj_at 134 4 = some (.iload_n 2, 0, 0) := by decide +kernel
theorem at_134_5 : mj_at 134 5 = some (.aload_n 0, 0, 0) := by decide +kernel
theorem at_134_6 : mj_at 134 6 = some (.getfield 138, 10, 0) := by decide +kernel
theorem at_134_9 : mj_at 134 9 = some (.if_icmp .ge 76, 0, 0) := by decide +kernel
theorem at_134_12 : mj_at 134 12 = some (.aload_n 0, 0, 0) := by decide +kernel
theorem at_134_13 : mj_at 134 13 = some (.getfield 65, 10, 30) := by decide +kernel
theorem at_134_16 : mj_at 134 16 = some (.iload_n 2, 0, 0) := by decide +kernel
theorem at_134_17 : mj_at 134 17 = some (.baload, 0, 0) := by decide +kernel
theorem at_134_18 : mj_at 134 18 = some (.ifCond .eq 61, 0, 0) := by decide +kernel
theorem at_134_21 : mj_at 134 21 = some (.aload_n 0, 0, 0) := by decide +kernel
theorem at_134_22 : mj_at 134 22 = some (.iload_n 2, 0, 0) := by decide +kernel
theorem at_134_23 : mj_at 134 23 = some (.invokevirtual 237, 135, 1) := by decide +kernel
theorem at_134_26 : mj_at 134 26 = some (.istore_n 3, 0, 0) := by decide +kernel
theorem at_134_27 : mj_at 134 27 = some (.iload_n 1, 0, 0) := by decide +kernel
theorem at_134_28 : mj_at 134 28 = some (.ifCond .ge 8, 0, 0) := by decide +kernel
theorem at_134_31 : mj_at 134 31 = some (.bipush 9, 0, 0) := by decide +kernel
theorem at_134_33 : mj_at 134 33 = some (.goto 8, 0, 0) := by decide +kernel
theorem at_134_36 : mj_at 134 36 = some (.aload_n 0, 0, 0) := by decide +kernel
theorem at_134_37 : mj_at 134 37 = some (.iload_n 1, 0, 0) := by decide +kernel
theorem at_134_38 : mj_at 134 38 = some (.invokevirtual 237, 135, 1) := by decide +kernel
theorem at_134_41 : mj_at 134 41 = some (.istore 4, 0, 0) := by decide +kernel
theorem at_134_43 : mj_at 134 43 = some (.iload_n 3, 0, 0) := by decide +kernel
theorem at_134_44 : mj_at 134 44 = some (.iload 4, 0, 0) := by decide +kernel
theorem at_134_46 : mj_at 134 46 = some (.if_icmp .lt 27, 0, 0) := by decide +kernel
theorem at_134_49 : mj_at 134 49 = some (.iload_n 3, 0, 0) := by decide +kernel
theorem at_134_50 : mj_at 134 50 = some (.iload 4, 0, 0) := by decide +kernel
theorem at_134_52 : mj_at 134 52 = some (.if_icmp .ne 25, 0, 0) := by decide +kernel
theorem at_134_55 : mj_at 134 55 = some (.aload_n 0, 0, 0) := by decide +kernel
theorem at_134_56 : mj_at 134 56 = some (.getfield 69, 10, 31) := by decide +kernel
theorem at_134_59 : mj_at 134 59 = some (.iload_n 2, 0, 0) := by decide +kernel
theorem at_134_60 : mj_at 134 60 = some (.baload, 0, 0) := by decide +kernel
theorem at_134_61 : mj_at 134 61 = some (.ifCond .eq 16, 0, 0) := by decide +kernel
theorem at_134_64 : mj_at 134 64 = some (.aload_n 0, 0, 0) := by decide +kernel
theorem at_134_65 : mj_at 134 65 = some (.getfield 69, 10, 31) := by decide +kernel
theorem at_134_68 : mj_at 134 68 = some (.iload_n 1, 0, 0) := by decide +kernel
theorem at_134_69 : mj_at 134 69 = some (.baload, 0, 0) := by decide +kernel
theorem at_134_70 : mj_at 134 70 = some (.ifCond .ne 7, 0, 0) := by decide +kernel
theorem at_134_73 : mj_at 134 73 = some (.iload_n 2, 0, 0) := by decide +kernel
theorem at_134_74 : mj_at 134 74 = some (.goto 4, 0, 0) := by decide +kernel
theorem at_134_77 : mj_at 134 77 = some (.iload_n 1, 0, 0) := by decide +kernel
theorem at_134_78 : mj_at 134 78 = some (.istore_n 1, 0, 0) := by decide +kernel
theorem at_134_79 : mj_at 134 79 = some (.iinc 2 1, 0, 0) := by decide +kernel
theorem at_134_82 : mj_at 134 82 = some (.goto (-78), 0, 0) := by decide +kernel
theorem at_134_85 : mj_at 134 85 = some (.iload_n 1, 0, 0) := by decide +kernel
theorem at_134_86 : mj_at 134 86 = some (.ireturn, 0, 0) := by decide +kernel
theorem at_135_0 : mj_at 135 0 = some (.iload_n 1, 0, 0) := by decide +kernel
theorem at_135_1 : mj_at 135 1 = some (.istore_n 2, 0, 0) := by decide +kernel
theorem at_135_2 : mj_at 135 2 = some (.iconst 0, 0, 0) := by decide +kernel
theorem at_135_3 : mj_at 135 3 = some (.istore_n 3, 0, 0) := by decide +kernel
theorem at_135_4 : mj_at 135 4 = some (.iload_n 3, 0, 0) := by decide +kernel
theorem at_135_5 : mj_at 135 5 = some (.iconst 4, 0, 0) := by decide +kernel
theorem at_135_6 : mj_at 135 6 = some (.if_icmp .ge 44, 0, 0) := by decide +kernel
theorem at_135_9 : mj_at 135 9 = some (.aload_n 0, 0, 0) := by decide +kernel
theorem at_135_10 : mj_at 135 10 = some (.getfield 84, 10, 36) := by decide +kernel
theorem at_135_13 : mj_at 135 13 = some (.iload_n 1, 0, 0) := by decide +kernel
theorem at_135_14 : mj_at 135 14 = some (.iaload, 0, 0) := by decide +kernel
theorem at_135_15 : mj_at 135 15 = some (.iload_n 3, 0, 0) := by decide +kernel
theorem at_135_16 : mj_at 135 16 = some (.ishr, 0, 0) := by decide +kernel
theorem at_135_17 : mj_at 135 17 = some (.iconst 1, 0, 0) := by decide +kernel
theorem at_135_18 : mj_at 135 18 = some (.iand, 0, 0) := by decide +kernel
theorem at_135_19 : mj_at 135 19 = some (.iconst 1, 0, 0) := by decide +kernel
theorem at_135_20 : mj_at 135 20 = some (.if_icmp .ne 22, 0, 0) := by decide +kernel
theorem at_135_23 : mj_at 135 23 = some (.aload_n 0, 0, 0) := by decide +kernel
theorem at_135_24 : mj_at 135 24 = some (.getfield 62, 10, 21) := by decide +kernel
theorem at_135_27 : mj_at 135 27 = some (.iload_n 3, 0, 0) := by decide +kernel
theorem at_135_28 : mj_at 135 28 = some (.iaload, 0, 0) := by decide +kernel
theorem at_135_29 : mj_at 135 29 = some (.iload_n 2, 0, 0) := by decide +kernel
theorem at_135_30 : mj_at 135 30 = some (.if_icmp .ge 12, 0, 0) := by decide +kernel
theorem at_135_33 : mj_at 135 33 = some (.aload_n 0, 0, 0) := by decide +kernel
theorem at_135_34 : mj_at 135 34 = some (.getfield 62, 10, 21) := by decide +kernel
theorem at_135_37 : mj_at 135 37 = some (.iload_n 3, 0, 0) := by decide +kernel
theorem at_135_38 : mj_at 135 38 = some (.iaload, 0, 0) := by decide +kernel
theorem at_135_39 : mj_at 135 39 = some (.goto 4, 0, 0) := by decide +kernel
theorem at_135_42 : mj_at 135 42 = some (.iload_n 2, 0, 0) := by decide +kernel
theorem at_135_43 : mj_at 135 43 = some (.istore_n 2, 0, 0) := by decide +kernel
theorem at_135_44 : mj_at 135 44 = some (.iinc 3 1, 0, 0) := by decide +kernel
theorem at_135_47 : mj_at 135 47 = some (.goto (-43), 0, 0) := by decide +kernel
theorem at_135_50 : mj_at 135 50 = some (.iload_n 2, 0, 0) := by decide +kernel
theorem at_135_51 : mj_at 135 51 = some (.ireturn, 0, 0) := by decide +kernel
theorem at_136_0 : mj_at 136 0 = some (.aload_n 0, 0, 0) := by decide +kernel
theorem at_136_1 : mj_at 136 1 = some (.getfield 23, 10, 7) := by decide +kernel
theorem at_136_4 : mj_at 136 4 = some (.iload_n 2, 0, 0) := by decide +kernel
theorem at_136_5 : mj_at 136 5 = some (.iaload, 0, 0) := by decide +kernel
theorem at_136_6 : mj_at 136 6 = some (.istore_n 3, 0, 0) := by decide +kernel
theorem at_136_7 : mj_at 136 7 = some (.aload_n 0, 0, 0) := by decide +kernel
theorem at_136_8 : mj_at 136 8 = some (.getfield 29, 10, 9) := by decide +kernel
theorem at_136_11 : mj_at 136 11 = some (.iload_n 2, 0, 0) := by decide +kernel
theorem at_136_12 : mj_at 136 12 = some (.iaload, 0, 0) := by decide +kernel
theorem at_136_13 : mj_at 136 13 = some (.istore 4, 0, 0) := by decide +kernel
theorem at_136_15 : mj_at 136 15 = some (.iconst 4, 0, 0) := by decide +kernel
theorem at_136_16 : mj_at 136 16 = some (.iload_n 1, 0, 0) := by decide +kernel
theorem at_136_17 : mj_at 136 17 = some (.imul, 0, 0) := by decide +kernel
theorem at_136_18 : mj_at 136 18 = some (.aload_n 0, 0, 0) := by decide +kernel
theorem at_136_19 : mj_at 136 19 = some (.getfield 26, 10, 8) := by decide +kernel
theorem at_136_22 : mj_at 136 22 = some (.iload_n 2, 0, 0) := by decide +kernel
theorem at_136_23 : mj_at 136 23 = some (.iaload, 0, 0) := by decide +kernel
theorem at_136_24 : mj_at 136 24 = some (.iadd, 0, 0) := by decide +kernel
theorem at_136_25 : mj_at 136 25 = some (.istore 5, 0, 0) := by decide +kernel
theorem at_136_27 : mj_at 136 27 = some (.aload_n 0, 0, 0) := by decide +kernel
theorem at_136_28 : mj_at 136 28 = some (.getfield 81, 10, 35) := by decide +kernel
theorem at_136_31 : mj_at 136 31 = some (.iload_n 1, 0, 0) := by decide +kernel
theorem at_136_32 : mj_at 136 32 = some (.dup2, 0, 0) := by decide +kernel
theorem at_136_33 : mj_at 136 33 = some (.iaload, 0, 0) := by decide +kernel
theorem at_136_34 : mj_at 136 34 = some (.iconst 1, 0, 0) := by decide +kernel
theorem at_136_35 : mj_at 136 35 = some (.iadd, 0, 0) := by decide +kernel
theorem at_136_36 : mj_at 136 36 = some (.iastore, 0, 0) := by decide +kernel
theorem at_136_37 : mj_at 136 37 = some (.aload_n 0, 0, 0) := by decide +kernel
theorem at_136_38 : mj_at 136 38 = some (.getfield 90, 10, 38) := by decide +kernel
theorem at_136_41 : mj_at 136 41 = some (.iload_n 1, 0, 0) := by decide +kernel
theorem at_136_42 : mj_at 136 42 = some (.dup2, 0, 0) := by decide +kernel
theorem at_136_43 : mj_at 136 43 = some (.iaload, 0, 0) := by decide +kernel
theorem at_136_44 : mj_at 136 44 = some (.iconst 1, 0, 0) := by decide +kernel
theorem at_136_45 : mj_at 136 45 = some (.iadd, 0, 0) := by decide +kernel
theorem at_136_46 : mj_at 136 46 = some (.iastore, 0, 0) := by decide +kernel
theorem at_136_47 : mj_at 136 47 = some (.iload_n 3, 0, 0) := by decide +kernel
theorem at_136_48 : mj_at 136 48 = some (.iconst 2, 0, 0) := by decide +kernel
theorem at_136_49 : mj_at 136 49 = some (.if_icmp .ne 24, 0, 0) := by decide +kernel
theorem at_136_52 : mj_at 136 52 = some (.aload_n 0, 0, 0) := by decide +kernel
theorem at_136_53 : mj_at 136 53 = some (.getfield 102, 10, 42) := by decide +kernel
theorem at_136_56 : mj_at 136 56 = some (.iconst 4, 0, 0) := by decide +kernel
theorem at_136_57 : mj_at 136 57 = some (.iload_n 1, 0, 0) := by decide +kernel
theorem at_136_58 : mj_at 136 58 = some (.imul, 0, 0) := by decide +kernel
theorem at_136_59 : mj_at 136 59 = some (.iload 4, 0, 0) := by decide +kernel
theorem at_136_61 : mj_at 136 61 = some (.iadd, 0, 0) := by decide +kernel
theorem at_136_62 : mj_at 136 62 = some (.iaload, 0, 0) := by decide +kernel
theorem at_136_63 : mj_at 136 63 = some (.ifCond .ne 10, 0, 0) := by decide +kernel
theorem at_136_66 : mj_at 136 66 = some (.aload_n 0, 0, 0) := by decide +kernel
theorem at_136_67 : mj_at 136 67 = some (.iload_n 1, 0, 0) := by decide +kernel
theorem at_136_68 : mj_at 136 68 = some (.iconst 3, 0, 0) := by decide +kernel
theorem at_136_69 : mj_at 136 69 = some (.invokevirtual 250, 137, 2) := by decide +kernel
theorem at_136_72 : mj_at 136 72 = some (.return_, 0, 0) := by decide +kernel
theorem at_136_73 : mj_at 136 73 = some (.iload_n 3, 0, 0) := by decide +kernel
theorem at_136_74 : mj_at 136 74 = some (.iconst 4, 0, 0) := by decide +kernel
theorem at_136_75 : mj_at 136 75 = some (.if_icmp .le 15, 0, 0) := by decide +kernel
theorem at_136_78 : mj_at 136 78 = some (.iload_n 3, 0, 0) := by decide +kernel
theorem at_136_79 : mj_at 136 79 = some (.bipush 11, 0, 0) := by decide +kernel
theorem at_136_81 : mj_at 136 81 = some (.if_icmp .eq 9, 0, 0) := by decide +kernel
theorem at_136_84 : mj_at 136 84 = some (.iload_n 3, 0, 0) := by decide +kernel
theorem at_136_85 : mj_at 136 85 = some (.bipush 12, 0, 0) := by decide +kernel
theorem at_136_87 : mj_at 136 87 = some (.if_icmp .ne 16, 0, 0) := by decide +kernel
theorem at_136_90 : mj_at 136 90 = some (.aload_n 0, 0, 0) := by decide +kernel
theorem at_136_91 : mj_at 136 91 = some (.iload_n 1, 0, 0) := by decide +kernel
theorem at_136_92 : mj_at 136 92 = some (.iload_n 3, 0, 0) := by decide +kernel
theorem at_136_93 : mj_at 136 93 = some (.iload 5, 0, 0) := by decide +kernel
theorem at_136_95 : mj_at 136 95 = some (.iload 4, 0, 0) := by decide +kernel
theorem at_136_97 : mj_at 136 97 = some (.invokevirtual 253, 138, 4) := by decide +kernel
theorem at_136_100 : mj_at 136 100 = some (.goto 31, 0, 0) := by decide +kernel
theorem at_136_103 : mj_at 136 103 = some (.iload_n 3, 0, 0) := by decide +kernel
theorem at_136_104 : mj_at 136 104 = some (.bipush 13, 0, 0) := by decide +kernel
theorem at_136_106 : mj_at 136 106 = some (.if_icmp .lt 16, 0, 0) := by decide +kernel
theorem at_136_109 : mj_at 136 109 = some (.aload_n 0, 0, 0) := by decide +kernel
theorem at_136_110 : mj_at 136 110 = some (.iload_n 1, 0, 0) := by decide +kernel
theorem at_136_111 : mj_at 136 111 = some (.iload_n 3, 0, 0) := by decide +kernel
theorem at_136_112 : mj_at 136 112 = some (.iload 5, 0, 0) := by decide +kernel
theorem at_136_114 : mj_at 136 114 = some (.iload 4, 0, 0) := by decide +kernel
theorem at_136_116 : mj_at 136 116 = some (.invokevirtual 257, 139, 4) := by decide +kernel
theorem at_136_119 : mj_at 136 119 = some (.goto 12, 0, 0) := by decide +kernel
theorem at_136_122 : mj_at 136 122 = some (.aload_n 0, 0, 0) := by decide +kernel
theorem at_136_123 : mj_at 136 123 = some (.iload_n 1, 0, 0) := by decide +kernel
theorem at_136_124 : mj_at 136 124 = some (.iload_n 3, 0, 0) := by decide +kernel
theorem at_136_125 : mj_at 136 125 = some (.iload 5, 0, 0) := by decide +kernel
theorem at_136_127 : mj_at 136 127 = some (.iload_n 2, 0, 0) := by decide +kernel
theorem at_136_128 : mj_at 136 128 = some (.invokevirtual 260, 140, 4) := by decide +kernel
theorem at_136_131 : mj_at 136 131 = some (.iconst 0, 0, 0) := by decide +kernel
theorem at_136_132 : mj_at 136 132 = some (.istore 6, 0, 0) := by decide +kernel
theorem at_136_134 : mj_at 136 134 = some (.iload 6, 0, 0) := by decide +kernel
theorem at_136_136 : mj_at 136 136 = some (.iconst 3, 0, 0) := by decide +kernel
theorem at_136_137 : mj_at 136 137 = some (.if_icmp .ge 80, 0, 0) := by decide +kernel
theorem at_136_140 : mj_at 136 140 = some (.aload_n 0, 0, 0) := by decide +kernel
theorem at_136_141 : mj_at 136 141 = some (.getfield 87, 10, 37) := by decide +kernel
theorem at_136_144 : mj_at 136 144 = some (.iload_n 1, 0, 0) := by decide +kernel
theorem at_136_145 : mj_at 136 145 = some (.iaload, 0, 0) := by decide +kernel
theorem at_136_146 : mj_at 136 146 = some (.ifCond .le 71, 0, 0) := by decide +kernel
theorem at_136_149 : mj_at 136 149 = some (.aload_n 0, 0, 0) := by decide +kernel
theorem at_136_150 : mj_at 136 150 = some (.getfield 90, 10, 38) := by decide +kernel
theorem at_136_153 : mj_at 136 153 = some (.iload_n 1, 0, 0) := by decide +kernel
theorem at_136_154 : mj_at 136 154 = some (.iaload, 0, 0) := by decide +kernel
theorem at_136_155 : mj_at 136 155 = some (.aload_n 0, 0, 0) := by decide +kernel
theorem at_136_156 : mj_at 136 156 = some (.getfield 35, 10, 11) := by decide +kernel
theorem at_136_159 : mj_at 136 159 = some (.iconst 3, 0, 0) := by decide +kernel
theorem at_136_160 : mj_at 136 160 = some (.iload_n 1, 0, 0) := by decide +kernel
theorem at_136_161 : mj_at 136 161 = some (.imul, 0, 0) := by decide +kernel
theorem at_136_162 : mj_at 136 162 = some (.aload_n 0, 0, 0) := by decide +kernel
theorem at_136_163 : mj_at 136 163 = some (.getfield 87, 10, 37) := by decide +kernel
theorem at_136_166 : mj_at 136 166 = some (.iload_n 1, 0, 0) := by decide +kernel
theorem at_136_167 : mj_at 136 167 = some (.iaload, 0, 0) := by decide +kernel
theorem at_136_168 : mj_at 136 168 = some (.iadd, 0, 0) := by decide +kernel
theorem at_136_169 : mj_at 136 169 = some (.iaload, 0, 0) := by decide +kernel
theorem at_136_170 : mj_at 136 170 = some (.if_icmp .ne 47, 0, 0) := by decide +kernel
theorem at_136_173 : mj_at 136 173 = some (.iconst 3, 0, 0) := by decide +kernel
theorem at_136_174 : mj_at 136 174 = some (.iload_n 1, 0, 0) := by decide +kernel
theorem at_136_175 : mj_at 136 175 = some (.imul, 0, 0) := by decide +kernel
theorem at_136_176 : mj_at 136 176 = some (.aload_n 0, 0, 0) := by decide +kernel
theorem at_136_177 : mj_at 136 177 = some (.getfield 87, 10, 37) := by decide +kernel
theorem at_136_180 : mj_at 136 180 = some (.iload_n 1, 0, 0) := by decide +kernel
theorem at_136_181 : mj_at 136 181 = some (.iaload, 0, 0) := by decide +kernel
theorem at_136_182 : mj_at 136 182 = some (.iadd, 0, 0) := by decide +kernel
theorem at_136_183 : mj_at 136 183 = some (.istore 7, 0, 0) := by decide +kernel
theorem at_136_185 : mj_at 136 185 = some (.aload_n 0, 0, 0) := by decide +kernel
theorem at_136_186 : mj_at 136 186 = some (.getfield 87, 10, 37) := by decide +kernel
theorem at_136_189 : mj_at 136 189 = some (.iload_n 1, 0, 0) := by decide +kernel
theorem at_136_190 : mj_at 136 190 = some (.aload_n 0, 0, 0) := by decide +kernel
theorem at_136_191 : mj_at 136 191 = some (.getfield 93, 10, 39) := by decide +kernel
theorem at_136_194 : mj_at 136 194 = some (.iload 7, 0, 0) := by decide +kernel
theorem at_136_196 : mj_at 136 196 = some (.iaload, 0, 0) := by decide +kernel
theorem at_136_197 : mj_at 136 197 = some (.iastore, 0, 0) := by decide +kernel
theorem at_136_198 : mj_at 136 198 = some (.aload_n 0, 0, 0) := by decide +kernel
theorem at_136_199 : mj_at 136 199 = some (.getfield 90, 10, 38) := by decide +kernel
theorem at_136_202 : mj_at 136 202 = some (.iload_n 1, 0, 0) := by decide +kernel
theorem at_136_203 : mj_at 136 203 = some (.aload_n 0, 0, 0) := by decide +kernel
theorem at_136_204 : mj_at 136 204 = some (.getfield 96, 10, 40) := by decide +kernel
theorem at_136_207 : mj_at 136 207 = some (.iload 7, 0, 0) := by decide +kernel
theorem at_136_209 : mj_at 136 209 = some (.iaload, 0, 0) := by decide +kernel
theorem at_136_210 : mj_at 136 210 = some (.iastore, 0, 0) := by decide +kernel
theorem at_136_211 : mj_at 136 211 = some (.iinc 6 1, 0, 0) := by decide +kernel
theorem at_136_214 : mj_at 136 214 = some (.goto (-80), 0, 0) := by decide +kernel
theorem at_136_217 : mj_at 136 217 = some (.aload_n 0, 0, 0) := by decide +kernel
theorem at_136_218 : mj_at 136 218 = some (.getfield 87, 10, 37) := by decide +kernel
theorem at_136_221 : mj_at 136 221 = some (.iload_n 1, 0, 0) := by decide +kernel
theorem at_136_222 : mj_at 136 222 = some (.iaload, 0, 0) := by decide +kernel
theorem at_136_223 : mj_at 136 223 = some (.ifCond .ne 26, 0, 0) := by decide +kernel
theorem at_136_226 : mj_at 136 226 = some (.aload_n 0, 0, 0) := by decide +kernel
theorem at_136_227 : mj_at 136 227 = some (.getfield 90, 10, 38) := by decide +kernel
theorem at_136_230 : mj_at 136 230 = some (.iload_n 1, 0, 0) := by decide +kernel
theorem at_136_231 : mj_at 136 231 = some (.iaload, 0, 0) := by decide +kernel
theorem at_136_232 : mj_at 136 232 = some (.aload_n 0, 0, 0) := by decide +kernel
theorem at_136_233 : mj_at 136 233 = some (.getfield 35, 10, 11) := by decide +kernel
theorem at_136_236 : mj_at 136 236 = some (.iconst 3, 0, 0) := by decide +kernel
theorem at_136_237 : mj_at 136 237 = some (.iload_n 1, 0, 0) := by decide +kernel
theorem at_136_238 : mj_at 136 238 = some (.imul, 0, 0) := by decide +kernel
theorem at_136_239 : mj_at 136 239 = some (.iaload, 0, 0) := by decide +kernel
theorem at_136_240 : mj_at 136 240 = some (.if_icmp .ne 9, 0, 0) := by decide +kernel
theorem at_136_243 : mj_at 136 243 = some (.aload_n 0, 0, 0) := by decide +kernel
theorem at_136_244 : mj_at 136 244 = some (.iload_n 1, 0, 0) := by decide +kernel
theorem at_136_245 : mj_at 136 245 = some (.iconst 2, 0, 0) := by decide +kernel
theorem at_136_246 : mj_at 136 246 = some (.invokevirtual 250, 137, 2) := by decide +kernel
theorem at_136_249 : mj_at 136 249 = some (.return_, 0, 0) := by decide +kernel
theorem at_137_0 : mj_at 137 0 = some (.aload_n 0, 0, 0) := by decide +kernel
theorem at_137_1 : mj_at 137 1 = some (.getfield 209, 10, 22) := by decide +kernel
theorem at_137_4 : mj_at 137 4 = some (.aload_n 0, 0, 0) := by decide +kernel
theorem at_137_5 : mj_at 137 5 = some (.getfield 72, 10, 32) := by decide +kernel
theorem at_137_8 : mj_at 137 8 = some (.iload_n 1, 0, 0) := by decide +kernel
theorem at_137_9 : mj_at 137 9 = some (.iaload, 0, 0) := by decide +kernel
theorem at_137_10 : mj_at 137 10 = some (.isub, 0, 0) := by decide +kernel
theorem at_137_11 : mj_at 137 11 = some (.istore_n 3, 0, 0) := by decide +kernel
theorem at_137_12 : mj_at 137 12 = some (.aload_n 0, 0, 0) := by decide +kernel
theorem at_137_13 : mj_at 137 13 = some (.iload_n 2, 0, 0) := by decide +kernel
theorem at_137_14 : mj_at 137 14 = some (.iload_n 1, 0, 0) := by decide +kernel
theorem at_137_15 : mj_at 137 15 = some (.iload_n 3, 0, 0) := by decide +kernel
theorem at_137_16 : mj_at 137 16 = some (.invokevirtual 233, 133, 3) := by decide +kernel
theorem at_137_19 : mj_at 137 19 = some (.aload_n 0, 0, 0) := by decide +kernel
theorem at_137_20 : mj_at 137 20 = some (.getfield 65, 10, 30) := by decide +kernel
theorem at_137_23 : mj_at 137 23 = some (.iload_n 1, 0, 0) := by decide +kernel
theorem at_137_24 : mj_at 137 24 = some (.iconst 0, 0, 0) := by decide +kernel
theorem at_137_25 : mj_at 137 25 = some (.bastore, 0, 0) := by decide +kernel
theorem at_137_26 : mj_at 137 26 = some (.aload_n 0, 0, 0) := by decide +kernel
theorem at_137_27 : mj_at 137 27 = some (.iconst (-1), 0, 0) := by decide +kernel
theorem at_137_28 : mj_at 137 28 = some (.putfield 215, 10, 24) := by decide +kernel
theorem at_137_31 : mj_at 137 31 = some (.aload_n 0, 0, 0) := by decide +kernel
theorem at_137_32 : mj_at 137 32 = some (.getfield 114, 10, 46) := by decide +kernel
theorem at_137_35 : mj_at 137 35 = some (.iload_n 1, 0, 0) := by decide +kernel
theorem at_137_36 : mj_at 137 36 = some (.iload_n 3, 0, 0) := by decide +kernel
theorem at_137_37 : mj_at 137 37 = some (.aload_n 0, 0, 0) := by decide +kernel
theorem at_137_38 : mj_at 137 38 = some (.getfield 114, 10, 46) := by decide +kernel
theorem at_137_41 : mj_at 137 41 = some (.iload_n 1, 0, 0) := by decide +kernel
theorem at_137_42 : mj_at 137 42 = some (.iaload, 0, 0) := by decide +kernel
theorem at_137_43 : mj_at 137 43 = some (.if_icmp .le 7, 0, 0) := by decide +kernel
theorem at_137_46 : mj_at 137 46 = some (.iload_n 3, 0, 0) := by decide +kernel
theorem at_137_47 : mj_at 137 47 = some (.goto 9, 0, 0) := by decide +kernel
theorem at_137_50 : mj_at 137 50 = some (.aload_n 0, 0, 0) := by decide +kernel
theorem at_137_51 : mj_at 137 51 = some (.getfield 114, 10, 46) := by decide +kernel
theorem at_137_54 : mj_at 137 54 = some (.iload_n 1, 0, 0) := by decide +kernel
theorem at_137_55 : mj_at 137 55 = some (.iaload, 0, 0) := by decide +kernel
theorem at_137_56 : mj_at 137 56 = some (.iastore, 0, 0) := by decide +kernel
theorem at_137_57 : mj_at 137 57 = some (.aload_n 0, 0, 0) := by decide +kernel
theorem at_137_58 : mj_at 137 58 = some (.iload_n 3, 0, 0) := by decide +kernel
theorem at_137_59 : mj_at 137 59 = some (.aload_n 0, 0, 0) := by decide +kernel
theorem at_137_60 : mj_at 137 60 = some (.getfield 17, 10, 5) := by decide +kernel
theorem at_137_63 : mj_at 137 63 = some (.iload_n 1, 0, 0) := by decide +kernel
theorem at_137_64 : mj_at 137 64 = some (.iaload, 0, 0) := by decide +kernel
theorem at_137_65 : mj_at 137 65 = some (.if_icmp .le 12, 0, 0) := by decide +kernel
theorem at_137_68 : mj_at 137 68 = some (.aload_n 0, 0, 0) := by decide +kernel
theorem at_137_69 : mj_at 137 69 = some (.getfield 221, 10, 26) := by decide +kernel
theorem at_137_72 : mj_at 137 72 = some (.iconst 1, 0, 0) := by decide +kernel
theorem at_137_73 : mj_at 137 73 = some (.iadd, 0, 0) := by decide +kernel
theorem at_137_74 : mj_at 137 74 = some (.goto 7, 0, 0) := by decide +kernel
theorem at_137_77 : mj_at 137 77 = some (.aload_n 0, 0, 0) := by decide +kernel
theorem at_137_78 : mj_at 137 78 = some (.getfield 221, 10, 26) := by decide +kernel
theorem at_137_81 : mj_at 137 81 = some (.putfield 221, 10, 26) := by decide +kernel
theorem at_137_84 : mj_at 137 84 = some (.return_, 0, 0) := by decide +kernel
theorem at_138_0 : mj_at 138 0 = some (.iload_n 2, 0, 0) := by decide +kernel
theorem at_138_1 : mj_at 138 1 = some (.iconst 4, 0, 0) := by decide +kernel
theorem at_138_2 : mj_at 138 2 = some (.if_icmp .ne 24, 0, 0) := by decide +kernel
theorem at_138_5 : mj_at 138 5 = some (.aload_n 0, 0, 0) := by decide +kernel
theorem at_138_6 : mj_at 138 6 = some (.getfield 105, 10, 43) := by decide +kernel
theorem at_138_9 : mj_at 138 9 = some (.bipush 8, 0, 0) := by decide +kernel
theorem at_138_11 : mj_at 138 11 = some (.iload_n 1, 0, 0) := by decide +kernel
theorem at_138_12 : mj_at 138 12 = some (.imul, 0, 0) := by decide +kernel
theorem at_138_13 : mj_at 138 13 = some (.iload 4, 0, 0) := by decide +kernel
theorem at_138_15 : mj_at 138 15 = some (.iadd, 0, 0) := by decide +kernel
theorem at_138_16 : mj_at 138 16 = some (.aload_n 0, 0, 0) := by decide +kernel
theorem at_138_17 : mj_at 138 17 = some (.getfield 102, 10, 42) := by decide +kernel
theorem at_138_20 : mj_at 138 20 = some (.iload_n 3, 0, 0) := by decide +kernel
theorem at_138_21 : mj_at 138 21 = some (.iaload, 0, 0) := by decide +kernel
theorem at_138_22 : mj_at 138 22 = some (.iastore, 0, 0) := by decide +kernel
theorem at_138_23 : mj_at 138 23 = some (.goto 137, 0, 0) := by decide +kernel
theorem at_138_26 : mj_at 138 26 = some (.iload_n 2, 0, 0) := by decide +kernel
theorem at_138_27 : mj_at 138 27 = some (.bipush 12, 0, 0) := by decide +kernel
theorem at_138_29 : mj_at 138 29 = some (.if_icmp .ne 18, 0, 0) := by decide +kernel
theorem at_138_32 : mj_at 138 32 = some (.aload_n 0, 0, 0) := by decide +kernel
theorem at_138_33 : mj_at 138 33 = some (.iconst 1, 0, 0) := by decide +kernel
theorem at_138_34 : mj_at 138 34 = some (.iload_n 1, 0, 0) := by decide +kernel
theorem at_138_35 : mj_at 138 35 = some (.aload_n 0, 0, 0) := by decide +kernel
theorem at_138_36 : mj_at 138 36 = some (.getfield 102, 10, 42) := by decide +kernel
theorem at_138_39 : mj_at 138 39 = some (.iload_n 3, 0, 0) := by decide +kernel
theorem at_138_40 : mj_at 138 40 = some (.iaload, 0, 0) := by decide +kernel
theorem at_138_41 : mj_at 138 41 = some (.invokevirtual 233, 133, 3) := by decide +kernel
theorem at_138_44 : mj_at 138 44 = some (.goto 116, 0, 0) := by decide +kernel
theorem at_138_47 : mj_at 138 47 = some (.iload_n 2, 0, 0) := by decide +kernel
theorem at_138_48 : mj_at 138 48 = some (.ifCond .ne 14, 0, 0) := by decide +kernel
theorem at_138_51 : mj_at 138 51 = some (.aload_n 0, 0, 0) := by decide +kernel
theorem at_138_52 : mj_at 138 52 = some (.getfield 102, 10, 42) := by decide +kernel
theorem at_138_55 : mj_at 138 55 = some (.iload_n 3, 0, 0) := by decide +kernel
theorem at_138_56 : mj_at 138 56 = some (.iload 4, 0, 0) := by decide +kernel
theorem at_138_58 : mj_at 138 58 = some (.iastore, 0, 0) := by decide +kernel
theorem at_138_59 : mj_at 138 59 = some (.goto 101, 0, 0) := by decide +kernel
theorem at_138_62 : mj_at 138 62 = some (.iload_n 2, 0, 0) := by decide +kernel
theorem at_138_63 : mj_at 138 63 = some (.bipush 11, 0, 0) := by decide +kernel
theorem at_138_65 : mj_at 138 65 = some (.if_icmp .ne 19, 0, 0) := by decide +kernel
theorem at_138_68 : mj_at 138 68 = some (.aload_n 0, 0, 0) := by decide +kernel
theorem at_138_69 : mj_at 138 69 = some (.getfield 102, 10, 42) := by decide +kernel
theorem at_138_72 : mj_at 138 72 = some (.iload_n 3, 0, 0) := by decide +kernel
theorem at_138_73 : mj_at 138 73 = some (.aload_n 0, 0, 0) := by decide +kernel
theorem at_138_74 : mj_at 138 74 = some (.getfield 117, 10, 47) := by decide +kernel
theorem at_138_77 : mj_at 138 77 = some (.iload 4, 0, 0) := by decide +kernel
theorem at_138_79 : mj_at 138 79 = some (.iaload, 0, 0) := by decide +kernel
theorem at_138_80 : mj_at 138 80 = some (.iastore, 0, 0) := by decide +kernel
theorem at_138_81 : mj_at 138 81 = some (.goto 79, 0, 0) := by decide +kernel
theorem at_138_84 : mj_at 138 84 = some (.iload_n 2, 0, 0) := by decide +kernel
theorem at_138_85 : mj_at 138 85 = some (.iconst 3, 0, 0) := by decide +kernel
theorem at_138_86 : mj_at 138 86 = some (.if_icmp .ne 24, 0, 0) := by decide +kernel
theorem at_138_89 : mj_at 138 89 = some (.aload_n 0, 0, 0) := by decide +kernel
theorem at_138_90 : mj_at 138 90 = some (.getfield 102, 10, 42) := by decide +kernel
theorem at_138_93 : mj_at 138 93 = some (.iload_n 3, 0, 0) := by decide +kernel
theorem at_138_94 : mj_at 138 94 = some (.aload_n 0, 0, 0) := by decide +kernel
theorem at_138_95 : mj_at 138 95 = some (.getfield 105, 10, 43) := by decide +kernel
theorem at_138_98 : mj_at 138 98 = some (.bipush 8, 0, 0) := by decide +kernel
theorem at_138_100 : mj_at 138 100 = some (.iload_n 1, 0, 0) := by decide +kernel
theorem at_138_101 : mj_at 138 101 = some (.imul, 0, 0) := by decide +kernel
theorem at_138_102 : mj_at 138 102 = some (.iload 4, 0, 0) := by decide +kernel
theorem at_138_104 : mj_at 138 104 = some (.iadd, 0, 0) := by decide +kernel
theorem at_138_105 : mj_at 138 105 = some (.iaload, 0, 0) := by decide +kernel
theorem at_138_106 : mj_at 138 106 = some (.iastore, 0, 0) := by decide +kernel
theorem at_138_107 : mj_at 138 107 = some (.goto 53, 0, 0) := by decide +kernel
theorem at_138_110 : mj_at 138 110 = some (.aload_n 0, 0, 0) := by decide +kernel
theorem at_138_111 : mj_at 138 111 = some (.getfield 102, 10, 42) := by decide +kernel
theorem at_138_114 : mj_at 138 114 = some (.iload_n 3, 0, 0) := by decide +kernel
theorem at_138_115 : mj_at 138 115 = some (.iload_n 2, 0, 0) := by decide +kernel
theorem at_138_116 : mj_at 138 116 = some (.iconst 1, 0, 0) := by decide +kernel
theorem at_138_117 : mj_at 138 117 = some (.if_icmp .ne 24, 0, 0) := by decide +kernel
theorem at_138_120 : mj_at 138 120 = some (.aload_n 0, 0, 0) := by decide +kernel
theorem at_138_121 : mj_at 138 121 = some (.getfield 102, 10, 42) := by decide +kernel
theorem at_138_124 : mj_at 138 124 = some (.iload_n 3, 0, 0) := by decide +kernel
theorem at_138_125 : mj_at 138 125 = some (.iaload, 0, 0) := by decide +kernel
theorem at_138_126 : mj_at 138 126 = some (.aload_n 0, 0, 0) := by decide +kernel
theorem at_138_127 : mj_at 138 127 = some (.getfield 102, 10, 42) := by decide +kernel
theorem at_138_130 : mj_at 138 130 = some (.iconst 4, 0, 0) := by decide +kernel
theorem at_138_131 : mj_at 138 131 = some (.iload_n 1, 0, 0) := by decide +kernel
theorem at_138_132 : mj_at 138 132 = some (.imul, 0, 0) := by decide +kernel
theorem at_138_133 : mj_at 138 133 = some (.iload 4, 0, 0) := by decide +kernel
theorem at_138_135 : mj_at 138 135 = some (.iadd, 0, 0) := by decide +kernel
theorem at_138_136 : mj_at 138 136 = some (.iaload, 0, 0) := by decide +kernel
theorem at_138_137 : mj_at 138 137 = some (.iadd, 0, 0) := by decide +kernel
theorem at_138_138 : mj_at 138 138 = some (.goto 21, 0, 0) := by decide +kernel
theorem at_138_141 : mj_at 138 141 = some (.aload_n 0, 0, 0) := by decide +kernel
theorem at_138_142 : mj_at 138 142 = some (.getfield 102, 10, 42) := by decide +kernel
theorem at_138_145 : mj_at 138 145 = some (.iload_n 3, 0, 0) := by decide +kernel
theorem at_138_146 : mj_at 138 146 = some (.iaload, 0, 0) := by decide +kernel
theorem at_138_147 : mj_at 138 147 = some (.aload_n 0, 0, 0) := by decide +kernel
theorem at_138_148 : mj_at 138 148 = some (.getfield 102, 10, 42) := by decide +kernel
theorem at_138_151 : mj_at 138 151 = some (.iconst 4, 0, 0) := by decide +kernel
theorem at_138_152 : mj_at 138 152 = some (.iload_n 1, 0, 0) := by decide +kernel
theorem at_138_153 : mj_at 138 153 = some (.imul, 0, 0) := by decide +kernel
theorem at_138_154 : mj_at 138 154 = some (.iload 4, 0, 0) := by decide +kernel
theorem at_138_156 : mj_at 138 156 = some (.iadd, 0, 0) := by decide +kernel
theorem at_138_157 : mj_at 138 157 = some (.iaload, 0, 0) := by decide +kernel
theorem at_138_158 : mj_at 138 158 = some (.idiv, 0, 0) := by decide +kernel
theorem at_138_159 : mj_at 138 159 = some (.iastore, 0, 0) := by decide +kernel
theorem at_138_160 : mj_at 138 160 = some (.return_, 0, 0) := by decide +kernel
theorem at_139_0 : mj_at 139 0 = some (.iload_n 2, 0, 0) := by decide +kernel
theorem at_139_1 : mj_at 139 1 = some (.bipush 13, 0, 0) := by decide +kernel
theorem at_139_3 : mj_at 139 3 = some (.if_icmp .ne 22, 0, 0) := by decide +kernel
theorem at_139_6 : mj_at 139 6 = some (.aload_n 0, 0, 0) := by decide +kernel
theorem at_139_7 : mj_at 139 7 = some (.getfield 123, 10, 49) := by decide +kernel
theorem at_139_10 : mj_at 139 10 = some (.iload 4, 0, 0) := by decide +kernel
theorem at_139_12 : mj_at 139 12 = some (.iaload, 0, 0) := by decide +kernel
theorem at_139_13 : mj_at 139 13 = some (.iconst 3, 0, 0) := by decide +kernel
theorem at_139_14 : mj_at 139 14 = some (.if_icmp .ge 7, 0, 0) := by decide +kernel
theorem at_139_17 : mj_at 139 17 = some (.iconst 1, 0, 0) := by decide +kernel
theorem at_139_18 : mj_at 139 18 = some (.goto 22, 0, 0) := by decide +kernel
theorem at_139_21 : mj_at 139 21 = some (.iconst 0, 0, 0) := by decide +kernel
theorem at_139_22 : mj_at 139 22 = some (.goto 18, 0, 0) := by decide +kernel
theorem at_139_25 : mj_at 139 25 = some (.aload_n 0, 0, 0) := by decide +kernel
theorem at_139_26 : mj_at 139 26 = some (.getfield 123, 10, 49) := by decide +kernel
theorem at_139_29 : mj_at 139 29 = some (.iload 4, 0, 0) := by decide +kernel
theorem at_139_31 : mj_at 139 31 = some (.iaload, 0, 0) := by decide +kernel
theorem at_139_32 : mj_at 139 32 = some (.ifCond .le 7, 0, 0) := by decide +kernel
theorem at_139_35 : mj_at 139 35 = some (.iconst 1, 0, 0) := by decide +kernel
theorem at_139_36 : mj_at 139 36 = some (.goto 4, 0, 0) := by decide +kernel
theorem at_139_39 : mj_at 139 39 = some (.iconst 0, 0, 0) := by decide +kernel
theorem at_139_40 : mj_at 139 40 = some (.istore 5, 0, 0) := by decide +kernel
theorem at_139_42 : mj_at 139 42 = some (.iload 5, 0, 0) := by decide +kernel
theorem at_139_44 : mj_at 139 44 = some (.ifCond .eq 43, 0, 0) := by decide +kernel
theorem at_139_47 : mj_at 139 47 = some (.iload_n 2, 0, 0) := by decide +kernel
theorem at_139_48 : mj_at 139 48 = some (.bipush 13, 0, 0) := by decide +kernel
theorem at_139_50 : mj_at 139 50 = some (.if_icmp .ne 37, 0, 0) := by decide +kernel
theorem at_139_53 : mj_at 139 53 = some (.aload_n 0, 0, 0) := by decide +kernel
theorem at_139_54 : mj_at 139 54 = some (.getfield 120, 10, 48) := by decide +kernel
theorem at_139_57 : mj_at 139 57 = some (.iconst 3, 0, 0) := by decide +kernel
theorem at_139_58 : mj_at 139 58 = some (.iload 4, 0, 0) := by decide +kernel
theorem at_139_60 : mj_at 139 60 = some (.imul, 0, 0) := by decide +kernel
theorem at_139_61 : mj_at 139 61 = some (.aload_n 0, 0, 0) := by decide +kernel
theorem at_139_62 : mj_at 139 62 = some (.getfield 123, 10, 49) := by decide +kernel
theorem at_139_65 : mj_at 139 65 = some (.iload 4, 0, 0) := by decide +kernel
theorem at_139_67 : mj_at 139 67 = some (.iaload, 0, 0) := by decide +kernel
theorem at_139_68 : mj_at 139 68 = some (.iadd, 0, 0) := by decide +kernel
theorem at_139_69 : mj_at 139 69 = some (.aload_n 0, 0, 0) := by decide +kernel
theorem at_139_70 : mj_at 139 70 = some (.getfield 102, 10, 42) := by decide +kernel
theorem at_139_73 : mj_at 139 73 = some (.iload_n 3, 0, 0) := by decide +kernel
theorem at_139_74 : mj_at 139 74 = some (.iaload, 0, 0) := by decide +kernel
theorem at_139_75 : mj_at 139 75 = some (.iastore, 0, 0) := by decide +kernel
theorem at_139_76 : mj_at 139 76 = some (.aload_n 0, 0, 0) := by decide +kernel
theorem at_139_77 : mj_at 139 77 = some (.getfield 123, 10, 49) := by decide +kernel
theorem at_139_80 : mj_at 139 80 = some (.iload 4, 0, 0) := by decide +kernel
theorem at_139_82 : mj_at 139 82 = some (.dup2, 0, 0) := by decide +kernel
theorem at_139_83 : mj_at 139 83 = some (.iaload, 0, 0) := by decide +kernel
theorem at_139_84 : mj_at 139 84 = some (.iconst 1, 0, 0) := by decide +kernel
theorem at_139_85 : mj_at 139 85 = some (.iadd, 0, 0) := by decide +kernel
theorem at_139_86 : mj_at 139 86 = some (.iastore, 0, 0) := by decide +kernel
theorem at_139_87 : mj_at 139 87 = some (.iload 5, 0, 0) := by decide +kernel
theorem at_139_89 : mj_at 139 89 = some (.ifCond .eq 77, 0, 0) := by decide +kernel
theorem at_139_92 : mj_at 139 92 = some (.iload_n 2, 0, 0) := by decide +kernel
theorem at_139_93 : mj_at 139 93 = some (.bipush 14, 0, 0) := by decide +kernel
theorem at_139_95 : mj_at 139 95 = some (.if_icmp .ne 71, 0, 0) := by decide +kernel
theorem at_139_98 : mj_at 139 98 = some (.aload_n 0, 0, 0) := by decide +kernel
theorem at_139_99 : mj_at 139 99 = some (.getfield 102, 10, 42) := by decide +kernel
theorem at_139_102 : mj_at 139 102 = some (.iload_n 3, 0, 0) := by decide +kernel
theorem at_139_103 : mj_at 139 103 = some (.aload_n 0, 0, 0) := by decide +kernel
theorem at_139_104 : mj_at 139 104 = some (.getfield 120, 10, 48) := by decide +kernel
theorem at_139_107 : mj_at 139 107 = some (.iconst 3, 0, 0) := by decide +kernel
theorem at_139_108 : mj_at 139 108 = some (.iload 4, 0, 0) := by decide +kernel
theorem at_139_110 : mj_at 139 110 = some (.imul, 0, 0) := by decide +kernel
theorem at_139_111 : mj_at 139 111 = some (.iaload, 0, 0) := by decide +kernel
theorem at_139_112 : mj_at 139 112 = some (.iastore, 0, 0) := by decide +kernel
theorem at_139_113 : mj_at 139 113 = some (.aload_n 0, 0, 0) := by decide +kernel
theorem at_139_114 : mj_at 139 114 = some (.getfield 120, 10, 48) := by decide +kernel
theorem at_139_117 : mj_at 139 117 = some (.iconst 3, 0, 0) := by decide +kernel
theorem at_139_118 : mj_at 139 118 = some (.iload 4, 0, 0) := by decide +kernel
theorem at_139_120 : mj_at 139 120 = some (.imul, 0, 0) := by decide +kernel
theorem at_139_121 : mj_at 139 121 = some (.aload_n 0, 0, 0) := by decide +kernel
theorem at_139_122 : mj_at 139 122 = some (.getfield 120, 10, 48) := by decide +kernel
theorem at_139_125 : mj_at 139 125 = some (.iconst 3, 0, 0) := by decide +kernel
theorem at_139_126 : mj_at 139 126 = some (.iload 4, 0, 0) := by decide +kernel
theorem at_139_128 : mj_at 139 128 = some (.imul, 0, 0) := by decide +kernel
theorem at_139_129 : mj_at 139 129 = some (.iconst 1, 0, 0) := by decide +kernel
theorem at_139_130 : mj_at 139 130 = some (.iadd, 0, 0) := by decide +kernel
theorem at_139_131 : mj_at 139 131 = some (.iaload, 0, 0) := by decide +kernel
theorem at_139_132 : mj_at 139 132 = some (.iastore, 0, 0) := by decide +kernel
theorem at_139_133 : mj_at 139 133 = some (.aload_n 0, 0, 0) := by decide +kernel
theorem at_139_134 : mj_at 139 134 = some (.getfield 120, 10, 48) := by decide +kernel
theorem at_139_137 : mj_at 139 137 = some (.iconst 3, 0, 0) := by decide +kernel
theorem at_139_138 : mj_at 139 138 = some (.iload 4, 0, 0) := by decide +kernel
theorem at_139_140 : mj_at 139 140 = some (.imul, 0, 0) := by decide +kernel
theorem at_139_141 : mj_at 139 141 = some (.iconst 1, 0, 0) := by decide +kernel
theorem at_139_142 : mj_at 139 142 = some (.iadd, 0, 0) := by decide +kernel
theorem at_139_143 : mj_at 139 143 = some (.aload_n 0, 0, 0) := by decide +kernel
theorem at_139_144 : mj_at 139 144 = some (.getfield 120, 10, 48) := by decide +kernel
theorem at_139_147 : mj_at 139 147 = some (.iconst 3, 0, 0) := by decide +kernel
theorem at_139_148 : mj_at 139 148 = some (.iload 4, 0, 0) := by decide +kernel
theorem at_139_150 : mj_at 139 150 = some (.imul, 0, 0) := by decide +kernel
theorem at_139_151 : mj_at 139 151 = some (.iconst 2, 0, 0) := by decide +kernel
theorem at_139_152 : mj_at 139 152 = some (.iadd, 0, 0) := by decide +kernel
theorem at_139_153 : mj_at 139 153 = some (.iaload, 0, 0) := by decide +kernel
theorem at_139_154 : mj_at 139 154 = some (.iastore, 0, 0) := by decide +kernel
theorem at_139_155 : mj_at 139 155 = some (.aload_n 0, 0, 0) := by decide +kernel
theorem at_139_156 : mj_at 139 156 = some (.getfield 123, 10, 49) := by decide +kernel
theorem at_139_159 : mj_at 139 159 = some (.iload 4, 0, 0) := by decide +kernel
theorem at_139_161 : mj_at 139 161 = some (.dup2, 0, 0) := by decide +kernel
theorem at_139_162 : mj_at 139 162 = some (.iaload, 0, 0) := by decide +kernel
theorem at_139_163 : mj_at 139 163 = some (.iconst 1, 0, 0) := by decide +kernel
theorem at_139_164 : mj_at 139 164 = some (.isub, 0, 0) := by decide +kernel
theorem at_139_165 : mj_at 139 165 = some (.iastore, 0, 0) := by decide +kernel
theorem at_139_166 : mj_at 139 166 = some (.aload_n 0, 0, 0) := by decide +kernel
theorem at_139_167 : mj_at 139 167 = some (.getfield 102, 10, 42) := by decide +kernel
theorem at_139_170 : mj_at 139 170 = some (.iconst 4, 0, 0) := by decide +kernel
theorem at_139_171 : mj_at 139 171 = some (.iload_n 1, 0, 0) := by decide +kernel
theorem at_139_172 : mj_at 139 172 = some (.imul, 0, 0) := by decide +kernel
theorem at_139_173 : mj_at 139 173 = some (.iload 5, 0, 0) := by decide +kernel
theorem at_139_175 : mj_at 139 175 = some (.ifCond .eq 7, 0, 0) := by decide +kernel
theorem at_139_178 : mj_at 139 178 = some (.iconst 1, 0, 0) := by decide +kernel
theorem at_139_179 : mj_at 139 179 = some (.goto 4, 0, 0) := by decide +kernel
theorem at_139_182 : mj_at 139 182 = some (.iconst 0, 0, 0) := by decide +kernel
theorem at_139_183 : mj_at 139 183 = some (.iastore, 0, 0) := by decide +kernel
theorem at_139_184 : mj_at 139 184 = some (.return_, 0, 0) := by decide +kernel
theorem at_140_0 : mj_at 140 0 = some (.aload_n 0, 0, 0) := by decide +kernel
theorem at_140_1 : mj_at 140 1 = some (.getfield 29, 10, 9) := by decide +kernel
theorem at_140_4 : mj_at 140 4 = some (.iload 4, 0, 0) := by decide +kernel
theorem at_140_6 : mj_at 140 6 = some (.iaload, 0, 0) := by decide +kernel
theorem at_140_7 : mj_at 140 7 = some (.istore 5, 0, 0) := by decide +kernel
theorem at_140_9 : mj_at 140 9 = some (.iload_n 2, 0, 0) := by decide +kernel
theorem at_140_10 : mj_at 140 10 = some (.iconst 5, 0, 0) := by decide +kernel
theorem at_140_11 : mj_at 140 11 = some (.if_icmp .ne 30, 0, 0) := by decide +kernel
theorem at_140_14 : mj_at 140 14 = some (.aload_n 0, 0, 0) := by decide +kernel
theorem at_140_15 : mj_at 140 15 = some (.getfield 102, 10, 42) := by decide +kernel
theorem at_140_18 : mj_at 140 18 = some (.iload_n 3, 0, 0) := by decide +kernel
theorem at_140_19 : mj_at 140 19 = some (.iaload, 0, 0) := by decide +kernel
theorem at_140_20 : mj_at 140 20 = some (.ifCond .ne 21, 0, 0) := by decide +kernel
theorem at_140_23 : mj_at 140 23 = some (.aload_n 0, 0, 0) := by decide +kernel
theorem at_140_24 : mj_at 140 24 = some (.getfield 90, 10, 38) := by decide +kernel
theorem at_140_27 : mj_at 140 27 = some (.iload_n 1, 0, 0) := by decide +kernel
theorem at_140_28 : mj_at 140 28 = some (.aload_n 0, 0, 0) := by decide +kernel
theorem at_140_29 : mj_at 140 29 = some (.getfield 90, 10, 38) := by decide +kernel
theorem at_140_32 : mj_at 140 32 = some (.iload_n 1, 0, 0) := by decide +kernel
theorem at_140_33 : mj_at 140 33 = some (.iaload, 0, 0) := by decide +kernel
theorem at_140_34 : mj_at 140 34 = some (.iload 5, 0, 0) := by decide +kernel
theorem at_140_36 : mj_at 140 36 = some (.iadd, 0, 0) := by decide +kernel
theorem at_140_37 : mj_at 140 37 = some (.iastore, 0, 0) := by decide +kernel
theorem at_140_38 : mj_at 140 38 = some (.goto 206, 0, 0) := by decide +kernel
theorem at_140_41 : mj_at 140 41 = some (.iload_n 2, 0, 0) := by decide +kernel
theorem at_140_42 : mj_at 140 42 = some (.bipush 6, 0, 0) := by decide +kernel
theorem at_140_44 : mj_at 140 44 = some (.if_icmp .ne 15, 0, 0) := by decide +kernel
theorem at_140_47 : mj_at 140 47 = some (.aload_n 0, 0, 0) := by decide +kernel
theorem at_140_48 : mj_at 140 48 = some (.getfield 99, 10, 41) := by decide +kernel
theorem at_140_51 : mj_at 140 51 = some (.iload 4, 0, 0) := by decide +kernel
theorem at_140_53 : mj_at 140 53 = some (.iload 5, 0, 0) := by decide +kernel
theorem at_140_55 : mj_at 140 55 = some (.iastore, 0, 0) := by decide +kernel
theorem at_140_56 : mj_at 140 56 = some (.goto 188, 0, 0) := by decide +kernel
theorem at_140_59 : mj_at 140 59 = some (.iload_n 2, 0, 0) := by decide +kernel
theorem at_140_60 : mj_at 140 60 = some (.bipush 7, 0, 0) := by decide +kernel
theorem at_140_62 : mj_at 140 62 = some (.if_icmp .ne 63, 0, 0) := by decide +kernel
theorem at_140_65 : mj_at 140 65 = some (.aload_n 0, 0, 0) := by decide +kernel
theorem at_140_66 : mj_at 140 66 = some (.getfield 32, 10, 10) := by decide +kernel
theorem at_140_69 : mj_at 140 69 = some (.iload 4, 0, 0) := by decide +kernel
theorem at_140_71 : mj_at 140 71 = some (.iaload, 0, 0) := by decide +kernel
theorem at_140_72 : mj_at 140 72 = some (.istore 6, 0, 0) := by decide +kernel
theorem at_140_74 : mj_at 140 74 = some (.aload_n 0, 0, 0) := by decide +kernel
theorem at_140_75 : mj_at 140 75 = some (.getfield 99, 10, 41) := by decide +kernel
theorem at_140_78 : mj_at 140 78 = some (.iload 6, 0, 0) := by decide +kernel
theorem at_140_80 : mj_at 140 80 = some (.dup2, 0, 0) := by decide +kernel
theorem at_140_81 : mj_at 140 81 = some (.iaload, 0, 0) := by decide +kernel
theorem at_140_82 : mj_at 140 82 = some (.iconst 1, 0, 0) := by decide +kernel
theorem at_140_83 : mj_at 140 83 = some (.isub, 0, 0) := by decide +kernel
theorem at_140_84 : mj_at 140 84 = some (.iastore, 0, 0) := by decide +kernel
theorem at_140_85 : mj_at 140 85 = some (.aload_n 0, 0, 0) := by decide +kernel
theorem at_140_86 : mj_at 140 86 = some (.getfield 90, 10, 38) := by decide +kernel
theorem at_140_89 : mj_at 140 89 = some (.iload_n 1, 0, 0) := by decide +kernel
theorem at_140_90 : mj_at 140 90 = some (.aload_n 0, 0, 0) := by decide +kernel
theorem at_140_91 : mj_at 140 91 = some (.getfield 99, 10, 41) := by decide +kernel
theorem at_140_94 : mj_at 140 94 = some (.iload 6, 0, 0) := by decide +kernel
theorem at_140_96 : mj_at 140 96 = some (.iaload, 0, 0) := by decide +kernel
theorem at_140_97 : mj_at 140 97 = some (.ifCond .le 18, 0, 0) := by decide +kernel
theorem at_140_100 : mj_at 140 100 = some (.aload_n 0, 0, 0) := by decide +kernel
theorem at_140_101 : mj_at 140 101 = some (.getfield 90, 10, 38) := by decide +kernel
theorem at_140_104 : mj_at 140 104 = some (.iload_n 1, 0, 0) := by decide +kernel
theorem at_140_105 : mj_at 140 105 = some (.iaload, 0, 0) := by decide +kernel
theorem at_140_106 : mj_at 140 106 = some (.iload 6, 0, 0) := by decide +kernel
theorem at_140_108 : mj_at 140 108 = some (.iadd, 0, 0) := by decide +kernel
theorem at_140_109 : mj_at 140 109 = some (.iload 4, 0, 0) := by decide +kernel
theorem at_140_111 : mj_at 140 111 = some (.isub, 0, 0) := by decide +kernel
theorem at_140_112 : mj_at 140 112 = some (.goto 9, 0, 0) := by decide +kernel
theorem at_140_115 : mj_at 140 115 = some (.aload_n 0, 0, 0) := by decide +kernel
theorem at_140_116 : mj_at 140 116 = some (.getfield 90, 10, 38) := by decide +kernel
theorem at_140_119 : mj_at 140 119 = some (.iload_n 1, 0, 0) := by decide +kernel
theorem at_140_120 : mj_at 140 120 = some (.iaload, 0, 0) := by decide +kernel
theorem at_140_121 : mj_at 140 121 = some (.iastore, 0, 0) := by decide +kernel
theorem at_140_122 : mj_at 140 122 = some (.goto 122, 0, 0) := by decide +kernel
theorem at_140_125 : mj_at 140 125 = some (.iload_n 2, 0, 0) := by decide +kernel
theorem at_140_126 : mj_at 140 126 = some (.bipush 8, 0, 0) := by decide +kernel
theorem at_140_128 : mj_at 140 128 = some (.if_icmp .ne 23, 0, 0) := by decide +kernel
theorem at_140_131 : mj_at 140 131 = some (.aload_n 0, 0, 0) := by decide +kernel
theorem at_140_132 : mj_at 140 132 = some (.getfield 84, 10, 36) := by decide +kernel
theorem at_140_135 : mj_at 140 135 = some (.iload_n 1, 0, 0) := by decide +kernel
theorem at_140_136 : mj_at 140 136 = some (.aload_n 0, 0, 0) := by decide +kernel
theorem at_140_137 : mj_at 140 137 = some (.getfield 84, 10, 36) := by decide +kernel
theorem at_140_140 : mj_at 140 140 = some (.iload_n 1, 0, 0) := by decide +kernel
theorem at_140_141 : mj_at 140 141 = some (.iaload, 0, 0) := by decide +kernel
theorem at_140_142 : mj_at 140 142 = some (.iconst 1, 0, 0) := by decide +kernel
theorem at_140_143 : mj_at 140 143 = some (.iload 5, 0, 0) := by decide +kernel
theorem at_140_145 : mj_at 140 145 = some (.ishl, 0, 0) := by decide +kernel
theorem at_140_146 : mj_at 140 146 = some (.ior, 0, 0) := by decide +kernel
theorem at_140_147 : mj_at 140 147 = some (.iastore, 0, 0) := by decide +kernel
theorem at_140_148 : mj_at 140 148 = some (.goto 96, 0, 0) := by decide +kernel
theorem at_140_151 : mj_at 140 151 = some (.iload_n 2, 0, 0) := by decide +kernel
theorem at_140_152 : mj_at 140 152 = some (.bipush 9, 0, 0) := by decide +kernel
theorem at_140_154 : mj_at 140 154 = some (.if_icmp .ne 35, 0, 0) := by decide +kernel
theorem at_140_157 : mj_at 140 157 = some (.aload_n 0, 0, 0) := by decide +kernel
theorem at_140_158 : mj_at 140 158 = some (.getfield 84, 10, 36) := by decide +kernel
theorem at_140_161 : mj_at 140 161 = some (.iload_n 1, 0, 0) := by decide +kernel
theorem at_140_162 : mj_at 140 162 = some (.aload_n 0, 0, 0) := by decide +kernel
theorem at_140_163 : mj_at 140 163 = some (.getfield 84, 10, 36) := by decide +kernel
theorem at_140_166 : mj_at 140 166 = some (.iload_n 1, 0, 0) := by decide +kernel
theorem at_140_167 : mj_at 140 167 = some (.iaload, 0, 0) := by decide +kernel
theorem at_140_168 : mj_at 140 168 = some (.iconst 1, 0, 0) := by decide +kernel
theorem at_140_169 : mj_at 140 169 = some (.aload_n 0, 0, 0) := by decide +kernel
theorem at_140_170 : mj_at 140 170 = some (.getfield 29, 10, 9) := by decide +kernel
theorem at_140_173 : mj_at 140 173 = some (.aload_n 0, 0, 0) := by decide +kernel
theorem at_140_174 : mj_at 140 174 = some (.getfield 32, 10, 10) := by decide +kernel
theorem at_140_177 : mj_at 140 177 = some (.iload 4, 0, 0) := by decide +kernel
theorem at_140_179 : mj_at 140 179 = some (.iaload, 0, 0) := by decide +kernel
theorem at_140_180 : mj_at 140 180 = some (.iaload, 0, 0) := by decide +kernel
theorem at_140_181 : mj_at 140 181 = some (.ishl, 0, 0) := by decide +kernel
theorem at_140_182 : mj_at 140 182 = some (.iconst (-1), 0, 0) := by decide +kernel
theorem at_140_183 : mj_at 140 183 = some (.ixor, 0, 0) := by decide +kernel
theorem at_140_184 : mj_at 140 184 = some (.iand, 0, 0) := by decide +kernel
theorem at_140_185 : mj_at 140 185 = some (.iastore, 0, 0) := by decide +kernel
theorem at_140_186 : mj_at 140 186 = some (.goto 58, 0, 0) := by decide +kernel
theorem at_140_189 : mj_at 140 189 = some (.iload_n 2, 0, 0) := by decide +kernel
theorem at_140_190 : mj_at 140 190 = some (.bipush 10, 0, 0) := by decide +kernel
theorem at_140_192 : mj_at 140 192 = some (.if_icmp .ne 52, 0, 0) := by decide +kernel
theorem at_140_195 : mj_at 140 195 = some (.aload_n 0, 0, 0) := by decide +kernel
theorem at_140_196 : mj_at 140 196 = some (.getfield 93, 10, 39) := by decide +kernel
theorem at_140_199 : mj_at 140 199 = some (.iconst 3, 0, 0) := by decide +kernel
theorem at_140_200 : mj_at 140 200 = some (.iload_n 1, 0, 0) := by decide +kernel
theorem at_140_201 : mj_at 140 201 = some (.imul, 0, 0) := by decide +kernel
theorem at_140_202 : mj_at 140 202 = some (.iload 5, 0, 0) := by decide +kernel
theorem at_140_204 : mj_at 140 204 = some (.iadd, 0, 0) := by decide +kernel
theorem at_140_205 : mj_at 140 205 = some (.aload_n 0, 0, 0) := by decide +kernel
theorem at_140_206 : mj_at 140 206 = some (.getfield 87, 10, 37) := by decide +kernel
theorem at_140_209 : mj_at 140 209 = some (.iload_n 1, 0, 0) := by decide +kernel
theorem at_140_210 : mj_at 140 210 = some (.iaload, 0, 0) := by decide +kernel
theorem at_140_211 : mj_at 140 211 = some (.iastore, 0, 0) := by decide +kernel
theorem at_140_212 : mj_at 140 212 = some (.aload_n 0, 0, 0) := by decide +kernel
theorem at_140_213 : mj_at 140 213 = some (.getfield 96, 10, 40) := by decide +kernel
theorem at_140_216 : mj_at 140 216 = some (.iconst 3, 0, 0) := by decide +kernel
theorem at_140_217 : mj_at 140 217 = some (.iload_n 1, 0, 0) := by decide +kernel
theorem at_140_218 : mj_at 140 218 = some (.imul, 0, 0) := by decide +kernel
theorem at_140_219 : mj_at 140 219 = some (.iload 5, 0, 0) := by decide +kernel
theorem at_140_221 : mj_at 140 221 = some (.iadd, 0, 0) := by decide +kernel
theorem at_140_222 : mj_at 140 222 = some (.aload_n 0, 0, 0) := by decide +kernel
theorem at_140_223 : mj_at 140 223 = some (.getfield 90, 10, 38) := by decide +kernel
theorem at_140_226 : mj_at 140 226 = some (.iload_n 1, 0, 0) := by decide +kernel
theorem at_140_227 : mj_at 140 227 = some (.iaload, 0, 0) := by decide +kernel
theorem at_140_228 : mj_at 140 228 = some (.iastore, 0, 0) := by decide +kernel
theorem at_140_229 : mj_at 140 229 = some (.aload_n 0, 0, 0) := by decide +kernel
theorem at_140_230 : mj_at 140 230 = some (.getfield 87, 10, 37) := by decide +kernel
theorem at_140_233 : mj_at 140 233 = some (.iload_n 1, 0, 0) := by decide +kernel
theorem at_140_234 : mj_at 140 234 = some (.iload 5, 0, 0) := by decide +kernel
theorem at_140_236 : mj_at 140 236 = some (.iastore, 0, 0) := by decide +kernel
theorem at_140_237 : mj_at 140 237 = some (.aload_n 0, 0, 0) := by decide +kernel
theorem at_140_238 : mj_at 140 238 = some (.getfield 90, 10, 38) := by decide +kernel
theorem at_140_241 : mj_at 140 241 = some (.iload_n 1, 0, 0) := by decide +kernel
theorem at_140_242 : mj_at 140 242 = some (.iconst 0, 0, 0) := by decide +kernel
theorem at_140_243 : mj_at 140 243 = some (.iastore, 0, 0) := by decide +kernel
theorem at_140_244 : mj_at 140 244 = some (.return_, 0, 0) := by decide +kernel
theorem at_141_0 : mj_at 141 0 = some (.aload_n 0, 0, 0) := by decide +kernel
theorem at_141_1 : mj_at 141 1 = some (.getfield 141, 10, 2) := by decide +kernel
theorem at_141_4 : mj_at 141 4 = some (.ifCond .eq 13, 0, 0) := by decide +kernel
theorem at_141_7 : mj_at 141 7 = some (.iload_n 1, 0, 0) := by decide +kernel
theorem at_141_8 : mj_at 141 8 = some (.iconst 0, 0, 0) := by decide +kernel
theorem at_141_9 : mj_at 141 9 = some (.bipush 6, 0, 0) := by decide +kernel
theorem at_141_11 : mj_at 141 11 = some (.invokestatic 145, 101, 3) := by decide +kernel
theorem at_141_14 : mj_at 141 14 = some (.ifCond .ne 5, 0, 0) := by decide +kernel
theorem at_141_17 : mj_at 141 17 = some (.iconst (-1), 0, 0) := by decide +kernel
theorem at_141_18 : mj_at 141 18 = some (.ireturn, 0, 0) := by decide +kernel
theorem at_141_19 : mj_at 141 19 = some (.iload_n 1, 0, 0) := by decide +kernel
theorem at_141_20 : mj_at 141 20 = some (.ifCond .ne 10, 0, 0) := by decide +kernel
theorem at_141_23 : mj_at 141 23 = some (.aload_n 0, 0, 0) := by decide +kernel
theorem at_141_24 : mj_at 141 24 = some (.getfield 209, 10, 22) := by decide +kernel
theorem at_141_27 : mj_at 141 27 = some (.goto 67, 0, 0) := by decide +kernel
theorem at_141_30 : mj_at 141 30 = some (.iload_n 1, 0, 0) := by decide +kernel
theorem at_141_31 : mj_at 141 31 = some (.iconst 1, 0, 0) := by decide +kernel
theorem at_141_32 : mj_at 141 32 = some (.if_icmp .ne 10, 0, 0) := by decide +kernel
theorem at_141_35 : mj_at 141 35 = some (.aload_n 0, 0, 0) := by decide +kernel
theorem at_141_36 : mj_at 141 36 = some (.getfield 212, 10, 23) := by decide +kernel
theorem at_141_39 : mj_at 141 39 = some (.goto 55, 0, 0) := by decide +kernel
theorem at_141_42 : mj_at 141 42 = some (.iload_n 1, 0, 0) := by decide +kernel
theorem at_141_43 : mj_at 141 43 = some (.iconst 2, 0, 0) := by decide +kernel
theorem at_141_44 : mj_at 141 44 = some (.if_icmp .ne 10, 0, 0) := by decide +kernel
theorem at_141_47 : mj_at 141 47 = some (.aload_n 0, 0, 0) := by decide +kernel
theorem at_141_48 : mj_at 141 48 = some (.getfield 218, 10, 25) := by decide +kernel
theorem at_141_51 : mj_at 141 51 = some (.goto 43, 0, 0) := by decide +kernel
theorem at_141_54 : mj_at 141 54 = some (.iload_n 1, 0, 0) := by decide +kernel
theorem at_141_55 : mj_at 141 55 = some (.iconst 3, 0, 0) := by decide +kernel
theorem at_141_56 : mj_at 141 56 = some (.if_icmp .ne 10, 0, 0) := by decide +kernel
theorem at_141_59 : mj_at 141 59 = some (.aload_n 0, 0, 0) := by decide +kernel
theorem at_141_60 : mj_at 141 60 = some (.getfield 230, 10, 29) := by decide +kernel
theorem at_141_63 : mj_at 141 63 = some (.goto 31, 0, 0) := by decide +kernel
theorem at_141_66 : mj_at 141 66 = some (.iload_n 1, 0, 0) := by decide +kernel
theorem at_141_67 : mj_at 141 67 = some (.iconst 4, 0, 0) := by decide +kernel
theorem at_141_68 : mj_at 141 68 = some (.if_icmp .ne 10, 0, 0) := by decide +kernel
theorem at_141_71 : mj_at 141 71 = some (.aload_n 0, 0, 0) := by decide +kernel
theorem at_141_72 : mj_at 141 72 = some (.getfield 221, 10, 26) := by decide +kernel
theorem at_141_75 : mj_at 141 75 = some (.goto 19, 0, 0) := by decide +kernel
theorem at_141_78 : mj_at 141 78 = some (.iload_n 1, 0, 0) := by decide +kernel
theorem at_141_79 : mj_at 141 79 = some (.iconst 5, 0, 0) := by decide +kernel
theorem at_141_80 : mj_at 141 80 = some (.if_icmp .ne 10, 0, 0) := by decide +kernel
theorem at_141_83 : mj_at 141 83 = some (.aload_n 0, 0, 0) := by decide +kernel
theorem at_141_84 : mj_at 141 84 = some (.getfield 224, 10, 27) := by decide +kernel
theorem at_141_87 : mj_at 141 87 = some (.goto 7, 0, 0) := by decide +kernel
theorem at_141_90 : mj_at 141 90 = some (.aload_n 0, 0, 0) := by decide +kernel
theorem at_141_91 : mj_at 141 91 = some (.getfield 227, 10, 28) := by decide +kernel
theorem at_141_94 : mj_at 141 94 = some (.ireturn, 0, 0) := by decide +kernel
theorem at_142_0 : mj_at 142 0 = some (.aload_n 0, 0, 0) := by decide +kernel
theorem at_142_1 : mj_at 142 1 = some (.getfield 141, 10, 2) := by decide +kernel
theorem at_142_4 : mj_at 142 4 = some (.ifCond .eq 29, 0, 0) := by decide +kernel
theorem at_142_7 : mj_at 142 7 = some (.aload_n 0, 0, 0) := by decide +kernel
theorem at_142_8 : mj_at 142 8 = some (.iload_n 1, 0, 0) := by decide +kernel
theorem at_142_9 : mj_at 142 9 = some (.invokevirtual 152, 103, 1) := by decide +kernel
theorem at_142_12 : mj_at 142 12 = some (.ifCond .eq 21, 0, 0) := by decide +kernel
theorem at_142_15 : mj_at 142 15 = some (.aload_n 0, 0, 0) := by decide +kernel
theorem at_142_16 : mj_at 142 16 = some (.getfield 65, 10, 30) := by decide +kernel
theorem at_142_19 : mj_at 142 19 = some (.iload_n 1, 0, 0) := by decide +kernel
theorem at_142_20 : mj_at 142 20 = some (.baload, 0, 0) := by decide +kernel
theorem at_142_21 : mj_at 142 21 = some (.ifCond .eq 12, 0, 0) := by decide +kernel
theorem at_142_24 : mj_at 142 24 = some (.iload_n 2, 0, 0) := by decide +kernel
theorem at_142_25 : mj_at 142 25 = some (.iconst 0, 0, 0) := by decide +kernel
theorem at_142_26 : mj_at 142 26 = some (.iconst 3, 0, 0) := by decide +kernel
theorem at_142_27 : mj_at 142 27 = some (.invokestatic 145, 101, 3) := by decide +kernel
theorem at_142_30 : mj_at 142 30 = some (.ifCond .ne 5, 0, 0) := by decide +kernel
theorem at_142_33 : mj_at 142 33 = some (.iconst (-1), 0, 0) := by decide +kernel
theorem at_142_34 : mj_at 142 34 = some (.ireturn, 0, 0) := by decide +kernel
theorem at_142_35 : mj_at 142 35 = some (.iload_n 2, 0, 0) := by decide +kernel
theorem at_142_36 : mj_at 142 36 = some (.ifCond .ne 11, 0, 0) := by decide +kernel
theorem at_142_39 : mj_at 142 39 = some (.aload_n 0, 0, 0) := by decide +kernel
theorem at_142_40 : mj_at 142 40 = some (.iload_n 1, 0, 0) := by decide +kernel
theorem at_142_41 : mj_at 142 41 = some (.invokevirtual 237, 135, 1) := by decide +kernel
theorem at_142_44 : mj_at 142 44 = some (.goto 42, 0, 0) := by decide +kernel
theorem at_142_47 : mj_at 142 47 = some (.iload_n 2, 0, 0) := by decide +kernel
theorem at_142_48 : mj_at 142 48 = some (.iconst 1, 0, 0) := by decide +kernel
theorem at_142_49 : mj_at 142 49 = some (.if_icmp .ne 17, 0, 0) := by decide +kernel
theorem at_142_52 : mj_at 142 52 = some (.aload_n 0, 0, 0) := by decide +kernel
theorem at_142_53 : mj_at 142 53 = some (.getfield 209, 10, 22) := by decide +kernel
theorem at_142_56 : mj_at 142 56 = some (.aload_n 0, 0, 0) := by decide +kernel
theorem at_142_57 : mj_at 142 57 = some (.getfield 72, 10, 32) := by decide +kernel
theorem at_142_60 : mj_at 142 60 = some (.iload_n 1, 0, 0) := by decide +kernel
theorem at_142_61 : mj_at 142 61 = some (.iaload, 0, 0) := by decide +kernel
theorem at_142_62 : mj_at 142 62 = some (.isub, 0, 0) := by decide +kernel
theorem at_142_63 : mj_at 142 63 = some (.goto 23, 0, 0) := by decide +kernel
theorem at_142_66 : mj_at 142 66 = some (.iload_n 2, 0, 0) := by decide +kernel
theorem at_142_67 : mj_at 142 67 = some (.iconst 2, 0, 0) := by decide +kernel
theorem at_142_68 : mj_at 142 68 = some (.if_icmp .ne 12, 0, 0) := by decide +kernel
theorem at_142_71 : mj_at 142 71 = some (.aload_n 0, 0, 0) := by decide +kernel
theorem at_142_72 : mj_at 142 72 = some (.getfield 81, 10, 35) := by decide +kernel
theorem at_142_75 : mj_at 142 75 = some (.iload_n 1, 0, 0) := by decide +kernel
theorem at_142_76 : mj_at 142 76 = some (.iaload, 0, 0) := by decide +kernel
theorem at_142_77 : mj_at 142 77 = some (.goto 9, 0, 0) := by decide +kernel
theorem at_142_80 : mj_at 142 80 = some (.aload_n 0, 0, 0) := by decide +kernel
theorem at_142_81 : mj_at 142 81 = some (.getfield 84, 10, 36) := by decide +kernel
theorem at_142_84 : mj_at 142 84 = some (.iload_n 1, 0, 0) := by decide +kernel
theorem at_142_85 : mj_at 142 85 = some (.iaload, 0, 0) := by decide +kernel
theorem at_142_86 : mj_at 142 86 = some (.ireturn, 0, 0) := by decide +kernel
theorem at_143_0 : mj_at 143 0 = some (.aload_n 0, 0, 0) := by decide +kernel
theorem at_143_1 : mj_at 143 1 = some (.getfield 141, 10, 2) := by decide +kernel
theorem at_143_4 : mj_at 143 4 = some (.ifCond .eq 20, 0, 0) := by decide +kernel
theorem at_143_7 : mj_at 143 7 = some (.aload_n 0, 0, 0) := by decide +kernel
theorem at_143_8 : mj_at 143 8 = some (.iload_n 1, 0, 0) := by decide +kernel
theorem at_143_9 : mj_at 143 9 = some (.invokevirtual 152, 103, 1) := by decide +kernel
theorem at_143_12 : mj_at 143 12 = some (.ifCond .eq 12, 0, 0) := by decide +kernel
theorem at_143_15 : mj_at 143 15 = some (.aload_n 0, 0, 0) := by decide +kernel
theorem at_143_16 : mj_at 143 16 = some (.getfield 114, 10, 46) := by decide +kernel
theorem at_143_19 : mj_at 143 19 = some (.iload_n 1, 0, 0) := by decide +kernel
theorem at_143_20 : mj_at 143 20 = some (.iaload, 0, 0) := by decide +kernel
theorem at_143_21 : mj_at 143 21 = some (.goto 4, 0, 0) := by decide +kernel
theorem at_143_24 : mj_at 143 24 = some (.iconst (-1), 0, 0) := by decide +kernel
theorem at_143_25 : mj_at 143 25 = some (.ireturn, 0, 0) := by decide +kernel
theorem at_144_0 : mj_at 144 0 = some (.aload_n 0, 0, 0) := by decide +kernel
theorem at_144_1 : mj_at 144 1 = some (.getfield 141, 10, 2) := by decide +kernel
theorem at_144_4 : mj_at 144 4 = some (.ifCond .eq 35, 0, 0) := by decide +kernel
theorem at_144_7 : mj_at 144 7 = some (.aload_n 0, 0, 0) := by decide +kernel
theorem at_144_8 : mj_at 144 8 = some (.iload_n 1, 0, 0) := by decide +kernel
theorem at_144_9 : mj_at 144 9 = some (.invokevirtual 152, 103, 1) := by decide +kernel
theorem at_144_12 : mj_at 144 12 = some (.ifCond .eq 27, 0, 0) := by decide +kernel
theorem at_144_15 : mj_at 144 15 = some (.iload_n 2, 0, 0) := by decide +kernel
theorem at_144_16 : mj_at 144 16 = some (.iconst 0, 0, 0) := by decide +kernel
theorem at_144_17 : mj_at 144 17 = some (.bipush 7, 0, 0) := by decide +kernel
theorem at_144_19 : mj_at 144 19 = some (.invokestatic 145, 101, 3) := by decide +kernel
theorem at_144_22 : mj_at 144 22 = some (.ifCond .eq 17, 0, 0) := by decide +kernel
theorem at_144_25 : mj_at 144 25 = some (.aload_n 0, 0, 0) := by decide +kernel
theorem at_144_26 : mj_at 144 26 = some (.getfield 105, 10, 43) := by decide +kernel
theorem at_144_29 : mj_at 144 29 = some (.bipush 8, 0, 0) := by decide +kernel
theorem at_144_31 : mj_at 144 31 = some (.iload_n 1, 0, 0) := by decide +kernel
theorem at_144_32 : mj_at 144 32 = some (.imul, 0, 0) := by decide +kernel
theorem at_144_33 : mj_at 144 33 = some (.iload_n 2, 0, 0) := by decide +kernel
theorem at_144_34 : mj_at 144 34 = some (.iadd, 0, 0) := by decide +kernel
theorem at_144_35 : mj_at 144 35 = some (.iaload, 0, 0) := by decide +kernel
theorem at_144_36 : mj_at 144 36 = some (.goto 4, 0, 0) := by decide +kernel
theorem at_144_39 : mj_at 144 39 = some (.iconst (-1), 0, 0) := by decide +kernel
theorem at_144_40 : mj_at 144 40 = some (.ireturn, 0, 0) := by decide +kernel
theorem at_145_0 : mj_at 145 0 = some (.aload_n 0, 0, 0) := by decide +kernel
theorem at_145_1 : mj_at 145 1 = some (.getfield 141, 10, 2) := by decide +kernel
theorem at_145_4 : mj_at 145 4 = some (.ifCond .eq 30, 0, 0) := by decide +kernel
theorem at_145_7 : mj_at 145 7 = some (.iload_n 1, 0, 0) := by decide +kernel
theorem at_145_8 : mj_at 145 8 = some (.iconst 0, 0, 0) := by decide +kernel
theorem at_145_9 : mj_at 145 9 = some (.bipush 31, 0, 0) := by decide +kernel
theorem at_145_11 : mj_at 145 11 = some (.invokestatic 145, 101, 3) := by decide +kernel
theorem at_145_14 : mj_at 145 14 = some (.ifCond .eq 20, 0, 0) := by decide +kernel
theorem at_145_17 : mj_at 145 17 = some (.iload_n 1, 0, 0) := by decide +kernel
theorem at_145_18 : mj_at 145 18 = some (.aload_n 0, 0, 0) := by decide +kernel
theorem at_145_19 : mj_at 145 19 = some (.getfield 230, 10, 29) := by decide +kernel
theorem at_145_22 : mj_at 145 22 = some (.if_icmp .ge 12, 0, 0) := by decide +kernel
theorem at_145_25 : mj_at 145 25 = some (.iload_n 2, 0, 0) := by decide +kernel
theorem at_145_26 : mj_at 145 26 = some (.iconst 0, 0, 0) := by decide +kernel
theorem at_145_27 : mj_at 145 27 = some (.iconst 3, 0, 0) := by decide +kernel
theorem at_145_28 : mj_at 145 28 = some (.invokestatic 145, 101, 3) := by decide +kernel
theorem at_145_31 : mj_at 145 31 = some (.ifCond .ne 5, 0, 0) := by decide +kernel
theorem at_145_34 : mj_at 145 34 = some (.iconst (-1), 0, 0) := by decide +kernel
theorem at_145_35 : mj_at 145 35 = some (.ireturn, 0, 0) := by decide +kernel
theorem at_145_36 : mj_at 145 36 = some (.aload_n 0, 0, 0) := by decide +kernel
theorem at_145_37 : mj_at 145 37 = some (.getfield 230, 10, 29) := by decide +kernel
theorem at_145_40 : mj_at 145 40 = some (.iconst 1, 0, 0) := by decide +kernel
theorem at_145_41 : mj_at 145 41 = some (.isub, 0, 0) := by decide +kernel
theorem at_145_42 : mj_at 145 42 = some (.iload_n 1, 0, 0) := by decide +kernel
theorem at_145_43 : mj_at 145 43 = some (.isub, 0, 0) := by decide +kernel
theorem at_145_44 : mj_at 145 44 = some (.bipush 31, 0, 0) := by decide +kernel
theorem at_145_46 : mj_at 145 46 = some (.iand, 0, 0) := by decide +kernel
theorem at_145_47 : mj_at 145 47 = some (.istore_n 3, 0, 0) := by decide +kernel
theorem at_145_48 : mj_at 145 48 = some (.iload_n 2, 0, 0) := by decide +kernel
theorem at_145_49 : mj_at 145 49 = some (.ifCond .ne 12, 0, 0) := by decide +kernel
theorem at_145_52 : mj_at 145 52 = some (.aload_n 0, 0, 0) := by decide +kernel
theorem at_145_53 : mj_at 145 53 = some (.getfield 126, 10, 50) := by decide +kernel
theorem at_145_56 : mj_at 145 56 = some (.iload_n 3, 0, 0) := by decide +kernel
theorem at_145_57 : mj_at 145 57 = some (.iaload, 0, 0) := by decide +kernel
theorem at_145_58 : mj_at 145 58 = some (.goto 37, 0, 0) := by decide +kernel
theorem at_145_61 : mj_at 145 61 = some (.iload_n 2, 0, 0) := by decide +kernel
theorem at_145_62 : mj_at 145 62 = some (.iconst 1, 0, 0) := by decide +kernel
theorem at_145_63 : mj_at 145 63 = some (.if_icmp .ne 12, 0, 0) := by decide +kernel
theorem at_145_66 : mj_at 145 66 = some (.aload_n 0, 0, 0) := by decide +kernel
theorem at_145_67 : mj_at 145 67 = some (.getfield 129, 10, 51) := by decide +kernel
theorem at_145_70 : mj_at 145 70 = some (.iload_n 3, 0, 0) := by decide +kernel
theorem at_145_71 : mj_at 145 71 = some (.iaload, 0, 0) := by decide +kernel
theorem at_145_72 : mj_at 145 72 = some (.goto 23, 0, 0) := by decide +kernel
theorem at_145_75 : mj_at 145 75 = some (.iload_n 2, 0, 0) := by decide +kernel
theorem at_145_76 : mj_at 145 76 = some (.iconst 2, 0, 0) := by decide +kernel
theorem at_145_77 : mj_at 145 77 = some (.if_icmp .ne 12, 0, 0) := by decide +kernel
theorem at_145_80 : mj_at 145 80 = some (.aload_n 0, 0, 0) := by decide +kernel
theorem at_145_81 : mj_at 145 81 = some (.getfield 132, 10, 52) := by decide +kernel
theorem at_145_84 : mj_at 145 84 = some (.iload_n 3, 0, 0) := by decide +kernel
theorem at_145_85 : mj_at 145 85 = some (.iaload, 0, 0) := by decide +kernel
theorem at_145_86 : mj_at 145 86 = some (.goto 9, 0, 0) := by decide +kernel
theorem at_145_89 : mj_at 145 89 = some (.aload_n 0, 0, 0) := by decide +kernel
theorem at_145_90 : mj_at 145 90 = some (.getfield 135, 10, 53) := by decide +kernel
theorem at_145_93 : mj_at 145 93 = some (.iload_n 3, 0, 0) := by decide +kernel
theorem at_145_94 : mj_at 145 94 = some (.iaload, 0, 0) := by decide +kernel
theorem at_145_95 : mj_at 145 95 = some (.ireturn, 0, 0) := by decide +kernel
theorem at_146_0 : mj_at 146 0 = some (.new 7, 0, 0) := by decide +kernel
theorem at_146_3 : mj_at 146 3 = some (.dup, 0, 0) := by decide +kernel
theorem at_146_4 : mj_at 146 4 = some (.invokespecial 9, 0, 0) := by decide +kernel
theorem at_146_7 : mj_at 146 7 = some (.astore_n 1, 0, 0) := by decide +kernel
theorem at_146_8 : mj_at 146 8 = some (.new 10, 10, 0) := by decide +kernel
theorem at_146_11 : mj_at 146 11 = some (.dup, 0, 0) := by decide +kernel
theorem at_146_12 : mj_at 146 12 = some (.invokespecial 12, 99, 0) := by decide +kernel
theorem at_146_15 : mj_at 146 15 = some (.astore_n 2, 0, 0) := by decide +kernel
theorem at_146_16 : mj_at 146 16 = some (.iconst 0, 0, 0) := by decide +kernel
theorem at_146_17 : mj_at 146 17 = some (.istore_n 3, 0, 0) := by decide +kernel
theorem at_146_18 : mj_at 146 18 = some (.iload_n 3, 0, 0) := by decide +kernel
theorem at_146_19 : mj_at 146 19 = some (.aload_n 0, 0, 0) := by decide +kernel
theorem at_146_20 : mj_at 146 20 = some (.arraylength, 0, 0) := by decide +kernel
theorem at_146_21 : mj_at 146 21 = some (.bipush 6, 0, 0) := by decide +kernel
theorem at_146_23 : mj_at 146 23 = some (.isub, 0, 0) := by decide +kernel
theorem at_146_24 : mj_at 146 24 = some (.if_icmp .gt 640, 0, 0) := by decide +kernel
theorem at_146_27 : mj_at 146 27 = some (.aload_n 0, 0, 0) := by decide +kernel
theorem at_146_28 : mj_at 146 28 = some (.iload_n 3, 0, 0) := by decide +kernel
theorem at_146_29 : mj_at 146 29 = some (.iaload, 0, 0) := by decide +kernel
theorem at_146_30 : mj_at 146 30 = some (.bipush 31, 0, 0) := by decide +kernel
theorem at_146_32 : mj_at 146 32 = some (.iand, 0, 0) := by decide +kernel
theorem at_146_33 : mj_at 146 33 = some (.tableswitch 625 0 19 #[95, 138, 201, 224, 237, 250, 273, 306, 329, 352, 375, 388, 401, 424, 457, 480, 503, 536, 559, 592], 0, 0) := by decide +kernel
theorem at_146_128 : mj_at 146 128 = some (.aload_n 1, 0, 0) := by decide +kernel
theorem at_146_129 : mj_at 146 129 = some (.aload_n 0, 0, 0) := by decide +kernel
theorem at_146_130 : mj_at 146 130 = some (.iload_n 3, 0, 0) := by decide +kernel
theorem at_146_131 : mj_at 146 131 = some (.iconst 1, 0, 0) := by decide +kernel
theorem at_146_132 : mj_at 146 132 = some (.iadd, 0, 0) := by decide +kernel
theorem at_146_133 : mj_at 146 133 = some (.iaload, 0, 0) := by decide +kernel
theorem at_146_134 : mj_at 146 134 = some (.aload_n 0, 0, 0) := by decide +kernel
theorem at_146_135 : mj_at 146 135 = some (.iload_n 3, 0, 0) := by decide +kernel
theorem at_146_136 : mj_at 146 136 = some (.iconst 2, 0, 0) := by decide +kernel
theorem at_146_137 : mj_at 146 137 = some (.iadd, 0, 0) := by decide +kernel
theorem at_146_138 : mj_at 146 138 = some (.iaload, 0, 0) := by decide +kernel
theorem at_146_139 : mj_at 146 139 = some (.aload_n 0, 0, 0) := by decide +kernel
theorem at_146_140 : mj_at 146 140 = some (.iload_n 3, 0, 0) := by decide +kernel
theorem at_146_141 : mj_at 146 141 = some (.iconst 3, 0, 0) := by decide +kernel
theorem at_146_142 : mj_at 146 142 = some (.iadd, 0, 0) := by decide +kernel
theorem at_146_143 : mj_at 146 143 = some (.iaload, 0, 0) := by decide +kernel
theorem at_146_144 : mj_at 146 144 = some (.invokevirtual 13, 10, 3) := by decide +kernel
theorem at_146_147 : mj_at 146 147 = some (.aload_n 2, 0, 0) := by decide +kernel
theorem at_146_148 : mj_at 146 148 = some (.aload_n 0, 0, 0) := by decide +kernel
theorem at_146_149 : mj_at 146 149 = some (.iload_n 3, 0, 0) := by decide +kernel
theorem at_146_150 : mj_at 146 150 = some (.iconst 1, 0, 0) := by decide +kernel
theorem at_146_151 : mj_at 146 151 = some (.iadd, 0, 0) := by decide +kernel
theorem at_146_152 : mj_at 146 152 = some (.iaload, 0, 0) := by decide +kernel
theorem at_146_153 : mj_at 146 153 = some (.aload_n 0, 0, 0) := by decide +kernel
theorem at_146_154 : mj_at 146 154 = some (.iload_n 3, 0, 0) := by decide +kernel
theorem at_146_155 : mj_at 146 155 = some (.iconst 2, 0, 0) := by decide +kernel
theorem at_146_156 : mj_at 146 156 = some (.iadd, 0, 0) := by decide +kernel
theorem at_146_157 : mj_at 146 157 = some (.iaload, 0, 0) := by decide +kernel
theorem at_146_158 : mj_at 146 158 = some (.aload_n 0, 0, 0) := by decide +kernel
theorem at_146_159 : mj_at 146 159 = some (.iload_n 3, 0, 0) := by decide +kernel
theorem at_146_160 : mj_at 146 160 = some (.iconst 3, 0, 0) := by decide +kernel
theorem at_146_161 : mj_at 146 161 = some (.iadd, 0, 0) := by decide +kernel
theorem at_146_162 : mj_at 146 162 = some (.iaload, 0, 0) := by decide +kernel
theorem at_146_163 : mj_at 146 163 = some (.invokevirtual 17, 100, 3) := by decide +kernel
theorem at_146_166 : mj_at 146 166 = some (.if_icmp .eq 492, 0, 0) := by decide +kernel
theorem at_146_169 : mj_at 146 169 = some (.iconst 0, 0, 0) := by decide +kernel
theorem at_146_170 : mj_at 146 170 = some (.ireturn, 0, 0) := by decide +kernel
theorem at_146_171 : mj_at 146 171 = some (.aload_n 1, 0, 0) := by decide +kernel
theorem at_146_172 : mj_at 146 172 = some (.aload_n 0, 0, 0) := by decide +kernel
theorem at_146_173 : mj_at 146 173 = some (.iload_n 3, 0, 0) := by decide +kernel
theorem at_146_174 : mj_at 146 174 = some (.iconst 1, 0, 0) := by decide +kernel
theorem at_146_175 : mj_at 146 175 = some (.iadd, 0, 0) := by decide +kernel
theorem at_146_176 : mj_at 146 176 = some (.iaload, 0, 0) := by decide +kernel
theorem at_146_177 : mj_at 146 177 = some (.aload_n 0, 0, 0) := by decide +kernel
theorem at_146_178 : mj_at 146 178 = some (.iload_n 3, 0, 0) := by decide +kernel
theorem at_146_179 : mj_at 146 179 = some (.iconst 2, 0, 0) := by decide +kernel
theorem at_146_180 : mj_at 146 180 = some (.iadd, 0, 0) := by decide +kernel
theorem at_146_181 : mj_at 146 181 = some (.iaload, 0, 0) := by decide +kernel
theorem at_146_182 : mj_at 146 182 = some (.aload_n 0, 0, 0) := by decide +kernel
theorem at_146_183 : mj_at 146 183 = some (.iload_n 3, 0, 0) := by decide +kernel
theorem at_146_184 : mj_at 146 184 = some (.iconst 3, 0, 0) := by decide +kernel
theorem at_146_185 : mj_at 146 185 = some (.iadd, 0, 0) := by decide +kernel
theorem at_146_186 : mj_at 146 186 = some (.iaload, 0, 0) := by decide +kernel
theorem at_146_187 : mj_at 146 187 = some (.aload_n 0, 0, 0) := by decide +kernel
theorem at_146_188 : mj_at 146 188 = some (.iload_n 3, 0, 0) := by decide +kernel
theorem at_146_189 : mj_at 146 189 = some (.iconst 4, 0, 0) := by decide +kernel
theorem at_146_190 : mj_at 146 190 = some (.iadd, 0, 0) := by decide +kernel
theorem at_146_191 : mj_at 146 191 = some (.iaload, 0, 0) := by decide +kernel
theorem at_146_192 : mj_at 146 192 = some (.aload_n 0, 0, 0) := by decide +kernel
theorem at_146_193 : mj_at 146 193 = some (.iload_n 3, 0, 0) := by decide +kernel
theorem at_146_194 : mj_at 146 194 = some (.iconst 5, 0, 0) := by decide +kernel
theorem at_146_195 : mj_at 146 195 = some (.iadd, 0, 0) := by decide +kernel
theorem at_146_196 : mj_at 146 196 = some (.iaload, 0, 0) := by decide +kernel
theorem at_146_197 : mj_at 146 197 = some (.invokevirtual 18, 13, 5) := by decide +kernel
theorem at_146_200 : mj_at 146 200 = some (.aload_n 2, 0, 0) := by decide +kernel
theorem at_146_201 : mj_at 146 201 = some (.aload_n 0, 0, 0) := by decide +kernel
theorem at_146_202 : mj_at 146 202 = some (.iload_n 3, 0, 0) := by decide +kernel
theorem at_146_203 : mj_at 146 203 = some (.iconst 1, 0, 0) := by decide +kernel
theorem at_146_204 : mj_at 146 204 = some (.iadd, 0, 0) := by decide +kernel
theorem at_146_205 : mj_at 146 205 = some (.iaload, 0, 0) := by decide +kernel
theorem at_146_206 : mj_at 146 206 = some (.aload_n 0, 0, 0) := by decide +kernel
theorem at_146_207 : mj_at 146 207 = some (.iload_n 3, 0, 0) := by decide +kernel
theorem at_146_208 : mj_at 146 208 = some (.iconst 2, 0, 0) := by decide +kernel
theorem at_146_209 : mj_at 146 209 = some (.iadd, 0, 0) := by decide +kernel
theorem at_146_210 : mj_at 146 210 = some (.iaload, 0, 0) := by decide +kernel
theorem at_146_211 : mj_at 146 211 = some (.aload_n 0, 0, 0) := by decide +kernel
theorem at_146_212 : mj_at 146 212 = some (.iload_n 3, 0, 0) := by decide +kernel
theorem at_146_213 : mj_at 146 213 = some (.iconst 3, 0, 0) := by decide +kernel
theorem at_146_214 : mj_at 146 214 = some (.iadd, 0, 0) := by decide +kernel
theorem at_146_215 : mj_at 146 215 = some (.iaload, 0, 0) := by decide +kernel
theorem at_146_216 : mj_at 146 216 = some (.aload_n 0, 0, 0) := by decide +kernel
theorem at_146_217 : mj_at 146 217 = some (.iload_n 3, 0, 0) := by decide +kernel
theorem at_146_218 : mj_at 146 218 = some (.iconst 4, 0, 0) := by decide +kernel
theorem at_146_219 : mj_at 146 219 = some (.iadd, 0, 0) := by decide +kernel
theorem at_146_220 : mj_at 146 220 = some (.iaload, 0, 0) := by decide +kernel
theorem at_146_221 : mj_at 146 221 = some (.aload_n 0, 0, 0) := by decide +kernel
theorem at_146_222 : mj_at 146 222 = some (.iload_n 3, 0, 0) := by decide +kernel
theorem at_146_223 : mj_at 146 223 = some (.iconst 5, 0, 0) := by decide +kernel
theorem at_146_224 : mj_at 146 224 = some (.iadd, 0, 0) := by decide +kernel
theorem at_146_225 : mj_at 146 225 = some (.iaload, 0, 0) := by decide +kernel
theorem at_146_226 : mj_at 146 226 = some (.invokevirtual 22, 102, 5) := by decide +kernel
theorem at_146_229 : mj_at 146 229 = some (.if_icmp .eq 429, 0, 0) := by decide +kernel
theorem at_146_232 : mj_at 146 232 = some (.iconst 0, 0, 0) := by decide +kernel
theorem at_146_233 : mj_at 146 233 = some (.ireturn, 0, 0) := by decide +kernel
theorem at_146_234 : mj_at 146 234 = some (.aload_n 1, 0, 0) := by decide +kernel
theorem at_146_235 : mj_at 146 235 = some (.aload_n 0, 0, 0) := by decide +kernel
theorem at_146_236 : mj_at 146 236 = some (.iload_n 3, 0, 0) := by decide +kernel
theorem at_146_237 : mj_at 146 237 = some (.iconst 1, 0, 0) := by decide +kernel
theorem at_146_238 : mj_at 146 238 = some (.iadd, 0, 0) := by decide +kernel
theorem at_146_239 : mj_at 146 239 = some (.iaload, 0, 0) := by decide +kernel
theorem at_146_240 : mj_at 146 240 = some (.invokevirtual 23, 18, 1) := by decide +kernel
theorem at_146_243 : mj_at 146 243 = some (.aload_n 2, 0, 0) := by decide +kernel
theorem at_146_244 : mj_at 146 244 = some (.aload_n 0, 0, 0) := by decide +kernel
theorem at_146_245 : mj_at 146 245 = some (.iload_n 3, 0, 0) := by decide +kernel
theorem at_146_246 : mj_at 146 246 = some (.iconst 1, 0, 0) := by decide +kernel
theorem at_146_247 : mj_at 146 247 = some (.iadd, 0, 0) := by decide +kernel
theorem at_146_248 : mj_at 146 248 = some (.iaload, 0, 0) := by decide +kernel
theorem at_146_249 : mj_at 146 249 = some (.invokevirtual 27, 105, 1) := by decide +kernel
theorem at_146_252 : mj_at 146 252 = some (.if_icmp .eq 406, 0, 0) := by decide +kernel
theorem at_146_255 : mj_at 146 255 = some (.iconst 0, 0, 0) := by decide +kernel
theorem at_146_256 : mj_at 146 256 = some (.ireturn, 0, 0) := by decide +kernel
theorem at_146_257 : mj_at 146 257 = some (.aload_n 1, 0, 0) := by decide +kernel
theorem at_146_258 : mj_at 146 258 = some (.invokevirtual 28, 20, 0) := by decide +kernel
theorem at_146_261 : mj_at 146 261 = some (.aload_n 2, 0, 0) := by decide +kernel
theorem at_146_262 : mj_at 146 262 = some (.invokevirtual 32, 106, 0) := by decide +kernel
theorem at_146_265 : mj_at 146 265 = some (.if_icmp .eq 393, 0, 0) := by decide +kernel
theorem at_146_268 : mj_at 146 268 = some (.iconst 0, 0, 0) := by decide +kernel
theorem at_146_269 : mj_at 146 269 = some (.ireturn, 0, 0) := by decide +kernel
theorem at_146_270 : mj_at 146 270 = some (.aload_n 1, 0, 0) := by decide +kernel
theorem at_146_271 : mj_at 146 271 = some (.invokevirtual 33, 45, 0) := by decide +kernel
theorem at_146_274 : mj_at 146 274 = some (.aload_n 2, 0, 0) := by decide +kernel
theorem at_146_275 : mj_at 146 275 = some (.invokevirtual 36, 120, 0) := by decide +kernel
theorem at_146_278 : mj_at 146 278 = some (.if_icmp .eq 380, 0, 0) := by decide +kernel
theorem at_146_281 : mj_at 146 281 = some (.iconst 0, 0, 0) := by decide +kernel
theorem at_146_282 : mj_at 146 282 = some (.ireturn, 0, 0) := by decide +kernel
theorem at_146_283 : mj_at 146 283 = some (.aload_n 1, 0, 0) := by decide +kernel
theorem at_146_284 : mj_at 146 284 = some (.aload_n 0, 0, 0) := by decide +kernel
theorem at_146_285 : mj_at 146 285 = some (.iload_n 3, 0, 0) := by decide +kernel
theorem at_146_286 : mj_at 146 286 = some (.iconst 1, 0, 0) := by decide +kernel
theorem at_146_287 : mj_at 146 287 = some (.iadd, 0, 0) := by decide +kernel
theorem at_146_288 : mj_at 146 288 = some (.iaload, 0, 0) := by decide +kernel
theorem at_146_289 : mj_at 146 289 = some (.invokevirtual 37, 46, 1) := by decide +kernel
theorem at_146_292 : mj_at 146 292 = some (.aload_n 2, 0, 0) := by decide +kernel
theorem at_146_293 : mj_at 146 293 = some (.aload_n 0, 0, 0) := by decide +kernel
theorem at_146_294 : mj_at 146 294 = some (.iload_n 3, 0, 0) := by decide +kernel
theorem at_146_295 : mj_at 146 295 = some (.iconst 1, 0, 0) := by decide +kernel
theorem at_146_296 : mj_at 146 296 = some (.iadd, 0, 0) := by decide +kernel
theorem at_146_297 : mj_at 146 297 = some (.iaload, 0, 0) := by decide +kernel
theorem at_146_298 : mj_at 146 298 = some (.invokevirtual 41, 121, 1) := by decide +kernel
theorem at_146_301 : mj_at 146 301 = some (.if_icmp .eq 357, 0, 0) := by decide +kernel
theorem at_146_304 : mj_at 146 304 = some (.iconst 0, 0, 0) := by decide +kernel
theorem at_146_305 : mj_at 146 305 = some (.ireturn, 0, 0) := by decide +kernel
theorem at_146_306 : mj_at 146 306 = some (.aload_n 1, 0, 0) := by decide +kernel
theorem at_146_307 : mj_at 146 307 = some (.aload_n 0, 0, 0) := by decide +kernel
theorem at_146_308 : mj_at 146 308 = some (.iload_n 3, 0, 0) := by decide +kernel
theorem at_146_309 : mj_at 146 309 = some (.iconst 1, 0, 0) := by decide +kernel
theorem at_146_310 : mj_at 146 310 = some (.iadd, 0, 0) := by decide +kernel
theorem at_146_311 : mj_at 146 311 = some (.iaload, 0, 0) := by decide +kernel
theorem at_146_312 : mj_at 146 312 = some (.aload_n 0, 0, 0) := by decide +kernel
theorem at_146_313 : mj_at 146 313 = some (.iload_n 3, 0, 0) := by decide +kernel
theorem at_146_314 : mj_at 146 314 = some (.iconst 2, 0, 0) := by decide +kernel
theorem at_146_315 : mj_at 146 315 = some (.iadd, 0, 0) := by decide +kernel
theorem at_146_316 : mj_at 146 316 = some (.iaload, 0, 0) := by decide +kernel
theorem at_146_317 : mj_at 146 317 = some (.invokevirtual 42, 48, 2) := by decide +kernel
theorem at_146_320 : mj_at 146 320 = some (.aload_n 2, 0, 0) := by decide +kernel
theorem at_146_321 : mj_at 146 321 = some (.aload_n 0, 0, 0) := by decide +kernel
theorem at_146_322 : mj_at 146 322 = some (.iload_n 3, 0, 0) := by decide +kernel
theorem at_146_323 : mj_at 146 323 = some (.iconst 1, 0, 0) := by decide +kernel
theorem at_146_324 : mj_at 146 324 = some (.iadd, 0, 0) := by decide +kernel
theorem at_146_325 : mj_at 146 325 = some (.iaload, 0, 0) := by decide +kernel
theorem at_146_326 : mj_at 146 326 = some (.aload_n 0, 0, 0) := by decide +kernel
theorem at_146_327 : mj_at 146 327 = some (.iload_n 3, 0, 0) := by decide +kernel
theorem at_146_328 : mj_at 146 328 = some (.iconst 2, 0, 0) := by decide +kernel
theorem at_146_329 : mj_at 146 329 = some (.iadd, 0, 0) := by decide +kernel
theorem at_146_330 : mj_at 146 330 = some (.iaload, 0, 0) := by decide +kernel
theorem at_146_331 : mj_at 146 331 = some (.invokevirtual 46, 122, 2) := by decide +kernel
theorem at_146_334 : mj_at 146 334 = some (.if_icmp .eq 324, 0, 0) := by decide +kernel
theorem at_146_337 : mj_at 146 337 = some (.iconst 0, 0, 0) := by decide +kernel
theorem at_146_338 : mj_at 146 338 = some (.ireturn, 0, 0) := by decide +kernel
theorem at_146_339 : mj_at 146 339 = some (.aload_n 1, 0, 0) := by decide +kernel
theorem at_146_340 : mj_at 146 340 = some (.aload_n 0, 0, 0) := by decide +kernel
theorem at_146_341 : mj_at 146 341 = some (.iload_n 3, 0, 0) := by decide +kernel
theorem at_146_342 : mj_at 146 342 = some (.iconst 1, 0, 0) := by decide +kernel
theorem at_146_343 : mj_at 146 343 = some (.iadd, 0, 0) := by decide +kernel
theorem at_146_344 : mj_at 146 344 = some (.iaload, 0, 0) := by decide +kernel
theorem at_146_345 : mj_at 146 345 = some (.invokevirtual 47, 49, 1) := by decide +kernel
theorem at_146_348 : mj_at 146 348 = some (.aload_n 2, 0, 0) := by decide +kernel
theorem at_146_349 : mj_at 146 349 = some (.aload_n 0, 0, 0) := by decide +kernel
theorem at_146_350 : mj_at 146 350 = some (.iload_n 3, 0, 0) := by decide +kernel
theorem at_146_351 : mj_at 146 351 = some (.iconst 1, 0, 0) := by decide +kernel
theorem at_146_352 : mj_at 146 352 = some (.iadd, 0, 0) := by decide +kernel
theorem at_146_353 : mj_at 146 353 = some (.iaload, 0, 0) := by decide +kernel
theorem at_146_354 : mj_at 146 354 = some (.invokevirtual 50, 123, 1) := by decide +kernel
theorem at_146_357 : mj_at 146 357 = some (.if_icmp .eq 301, 0, 0) := by decide +kernel
theorem at_146_360 : mj_at 146 360 = some (.iconst 0, 0, 0) := by decide +kernel
theorem at_146_361 : mj_at 146 361 = some (.ireturn, 0, 0) := by decide +kernel
theorem at_146_362 : mj_at 146 362 = some (.aload_n 1, 0, 0) := by decide +kernel
theorem at_146_363 : mj_at 146 363 = some (.aload_n 0, 0, 0) := by decide +kernel
theorem at_146_364 : mj_at 146 364 = some (.iload_n 3, 0, 0) := by decide +kernel
theorem at_146_365 : mj_at 146 365 = some (.iconst 1, 0, 0) := by decide +kernel
theorem at_146_366 : mj_at 146 366 = some (.iadd, 0, 0) := by decide +kernel
theorem at_146_367 : mj_at 146 367 = some (.iaload, 0, 0) := by decide +kernel
theorem at_146_368 : mj_at 146 368 = some (.invokevirtual 51, 50, 1) := by decide +kernel
theorem at_146_371 : mj_at 146 371 = some (.aload_n 2, 0, 0) := by decide +kernel
theorem at_146_372 : mj_at 146 372 = some (.aload_n 0, 0, 0) := by decide +kernel
theorem at_146_373 : mj_at 146 373 = some (.iload_n 3, 0, 0) := by decide +kernel
theorem at_146_374 : mj_at 146 374 = some (.iconst 1, 0, 0) := by decide +kernel
theorem at_146_375 : mj_at 146 375 = some (.iadd, 0, 0) := by decide +kernel
theorem at_146_376 : mj_at 146 376 = some (.iaload, 0, 0) := by decide +kernel
theorem at_146_377 : mj_at 146 377 = some (.invokevirtual 54, 124, 1) := by decide +kernel
theorem at_146_380 : mj_at 146 380 = some (.if_icmp .eq 278, 0, 0) := by decide +kernel
theorem at_146_383 : mj_at 146 383 = some (.iconst 0, 0, 0) := by decide +kernel
theorem at_146_384 : mj_at 146 384 = some (.ireturn, 0, 0) := by decide +kernel
theorem at_146_385 : mj_at 146 385 = some (.aload_n 1, 0, 0) := by decide +kernel
theorem at_146_386 : mj_at 146 386 = some (.aload_n 0, 0, 0) := by decide +kernel
theorem at_146_387 : mj_at 146 387 = some (.iload_n 3, 0, 0) := by decide +kernel
theorem at_146_388 : mj_at 146 388 = some (.iconst 1, 0, 0) := by decide +kernel
theorem at_146_389 : mj_at 146 389 = some (.iadd, 0, 0) := by decide +kernel
theorem at_146_390 : mj_at 146 390 = some (.iaload, 0, 0) := by decide +kernel
theorem at_146_391 : mj_at 146 391 = some (.invokevirtual 55, 51, 1) := by decide +kernel
theorem at_146_394 : mj_at 146 394 = some (.aload_n 2, 0, 0) := by decide +kernel
theorem at_146_395 : mj_at 146 395 = some (.aload_n 0, 0, 0) := by decide +kernel
theorem at_146_396 : mj_at 146 396 = some (.iload_n 3, 0, 0) := by decide +kernel
theorem at_146_397 : mj_at 146 397 = some (.iconst 1, 0, 0) := by decide +kernel
theorem at_146_398 : mj_at 146 398 = some (.iadd, 0, 0) := by decide +kernel
theorem at_146_399 : mj_at 146 399 = some (.iaload, 0, 0) := by decide +kernel
theorem at_146_400 : mj_at 146 400 = some (.invokevirtual 58, 125, 1) := by decide +kernel
theorem at_146_403 : mj_at 146 403 = some (.if_icmp .eq 255, 0, 0) := by decide +kernel
theorem at_146_406 : mj_at 146 406 = some (.iconst 0, 0, 0) := by decide +kernel
theorem at_146_407 : mj_at 146 407 = some (.ireturn, 0, 0) := by decide +kernel
theorem at_146_408 : mj_at 146 408 = some (.aload_n 1, 0, 0) := by decide +kernel
theorem at_146_409 : mj_at 146 409 = some (.invokevirtual 59, 52, 0) := by decide +kernel
theorem at_146_412 : mj_at 146 412 = some (.aload_n 2, 0, 0) := by decide +kernel
theorem at_146_413 : mj_at 146 413 = some (.invokevirtual 63, 126, 0) := by decide +kernel
theorem at_146_416 : mj_at 146 416 = some (.if_icmp .eq 242, 0, 0) := by decide +kernel
theorem at_146_419 : mj_at 146 419 = some (.iconst 0, 0, 0) := by decide +kernel
theorem at_146_420 : mj_at 146 420 = some (.ireturn, 0, 0) := by decide +kernel
theorem at_146_421 : mj_at 146 421 = some (.aload_n 1, 0, 0) := by decide +kernel
theorem at_146_422 : mj_at 146 422 = some (.invokevirtual 64, 57, 0) := by decide +kernel
theorem at_146_425 : mj_at 146 425 = some (.aload_n 2, 0, 0) := by decide +kernel
theorem at_146_426 : mj_at 146 426 = some (.invokevirtual 67, 127, 0) := by decide +kernel
theorem at_146_429 : mj_at 146 429 = some (.if_icmp .eq 229, 0, 0) := by decide +kernel
theorem at_146_432 : mj_at 146 432 = some (.iconst 0, 0, 0) := by decide +kernel
theorem at_146_433 : mj_at 146 433 = some (.ireturn, 0, 0) := by decide +kernel
theorem at_146_434 : mj_at 146 434 = some (.aload_n 1, 0, 0) := by decide +kernel
theorem at_146_435 : mj_at 146 435 = some (.aload_n 0, 0, 0) := by decide +kernel
theorem at_146_436 : mj_at 146 436 = some (.iload_n 3, 0, 0) := by decide +kernel
theorem at_146_437 : mj_at 146 437 = some (.iconst 1, 0, 0) := by decide +kernel
theorem at_146_438 : mj_at 146 438 = some (.iadd, 0, 0) := by decide +kernel
theorem at_146_439 : mj_at 146 439 = some (.iaload, 0, 0) := by decide +kernel
theorem at_146_440 : mj_at 146 440 = some (.invokevirtual 68, 58, 1) := by decide +kernel
theorem at_146_443 : mj_at 146 443 = some (.aload_n 2, 0, 0) := by decide +kernel
theorem at_146_444 : mj_at 146 444 = some (.aload_n 0, 0, 0) := by decide +kernel
theorem at_146_445 : mj_at 146 445 = some (.iload_n 3, 0, 0) := by decide +kernel
theorem at_146_446 : mj_at 146 446 = some (.iconst 1, 0, 0) := by decide +kernel
theorem at_146_447 : mj_at 146 447 = some (.iadd, 0, 0) := by decide +kernel
theorem at_146_448 : mj_at 146 448 = some (.iaload, 0, 0) := by decide +kernel
theorem at_146_449 : mj_at 146 449 = some (.invokevirtual 71, 128, 1) := by decide +kernel
theorem at_146_452 : mj_at 146 452 = some (.if_icmp .eq 206, 0, 0) := by decide +kernel
theorem at_146_455 : mj_at 146 455 = some (.iconst 0, 0, 0) := by decide +kernel
theorem at_146_456 : mj_at 146 456 = some (.ireturn, 0, 0) := by decide +kernel
theorem at_146_457 : mj_at 146 457 = some (.aload_n 1, 0, 0) := by decide +kernel
theorem at_146_458 : mj_at 146 458 = some (.aload_n 0, 0, 0) := by decide +kernel
theorem at_146_459 : mj_at 146 459 = some (.iload_n 3, 0, 0) := by decide +kernel
theorem at_146_460 : mj_at 146 460 = some (.iconst 1, 0, 0) := by decide +kernel
theorem at_146_461 : mj_at 146 461 = some (.iadd, 0, 0) := by decide +kernel
theorem at_146_462 : mj_at 146 462 = some (.iaload, 0, 0) := by decide +kernel
theorem at_146_463 : mj_at 146 463 = some (.aload_n 0, 0, 0) := by decide +kernel
theorem at_146_464 : mj_at 146 464 = some (.iload_n 3, 0, 0) := by decide +kernel
theorem at_146_465 : mj_at 146 465 = some (.iconst 2, 0, 0) := by decide +kernel
theorem at_146_466 : mj_at 146 466 = some (.iadd, 0, 0) := by decide +kernel
theorem at_146_467 : mj_at 146 467 = some (.iaload, 0, 0) := by decide +kernel
theorem at_146_468 : mj_at 146 468 = some (.invokevirtual 72, 61, 2) := by decide +kernel
theorem at_146_471 : mj_at 146 471 = some (.aload_n 2, 0, 0) := by decide +kernel
theorem at_146_472 : mj_at 146 472 = some (.aload_n 0, 0, 0) := by decide +kernel
theorem at_146_473 : mj_at 146 473 = some (.iload_n 3, 0, 0) := by decide +kernel
theorem at_146_474 : mj_at 146 474 = some (.iconst 1, 0, 0) := by decide +kernel
theorem at_146_475 : mj_at 146 475 = some (.iadd, 0, 0) := by decide +kernel
theorem at_146_476 : mj_at 146 476 = some (.iaload, 0, 0) := by decide +kernel
theorem at_146_477 : mj_at 146 477 = some (.aload_n 0, 0, 0) := by decide +kernel
theorem at_146_478 : mj_at 146 478 = some (.iload_n 3, 0, 0) := by decide +kernel
theorem at_146_479 : mj_at 146 479 = some (.iconst 2, 0, 0) := by decide +kernel
theorem at_146_480 : mj_at 146 480 = some (.iadd, 0, 0) := by decide +kernel
theorem at_146_481 : mj_at 146 481 = some (.iaload, 0, 0) := by decide +kernel
theorem at_146_482 : mj_at 146 482 = some (.invokevirtual 76, 129, 2) := by decide +kernel
theorem at_146_485 : mj_at 146 485 = some (.if_icmp .eq 173, 0, 0) := by decide +kernel
theorem at_146_488 : mj_at 146 488 = some (.iconst 0, 0, 0) := by decide +kernel
theorem at_146_489 : mj_at 146 489 = some (.ireturn, 0, 0) := by decide +kernel
theorem at_146_490 : mj_at 146 490 = some (.aload_n 1, 0, 0) := by decide +kernel
theorem at_146_491 : mj_at 146 491 = some (.aload_n 0, 0, 0) := by decide +kernel
theorem at_146_492 : mj_at 146 492 = some (.iload_n 3, 0, 0) := by decide +kernel
theorem at_146_493 : mj_at 146 493 = some (.iconst 1, 0, 0) := by decide +kernel
theorem at_146_494 : mj_at 146 494 = some (.iadd, 0, 0) := by decide +kernel
theorem at_146_495 : mj_at 146 495 = some (.iaload, 0, 0) := by decide +kernel
theorem at_146_496 : mj_at 146 496 = some (.invokevirtual 77, 62, 1) := by decide +kernel
theorem at_146_499 : mj_at 146 499 = some (.aload_n 2, 0, 0) := by decide +kernel
theorem at_146_500 : mj_at 146 500 = some (.aload_n 0, 0, 0) := by decide +kernel
theorem at_146_501 : mj_at 146 501 = some (.iload_n 3, 0, 0) := by decide +kernel
theorem at_146_502 : mj_at 146 502 = some (.iconst 1, 0, 0) := by decide +kernel
theorem at_146_503 : mj_at 146 503 = some (.iadd, 0, 0) := by decide +kernel
theorem at_146_504 : mj_at 146 504 = some (.iaload, 0, 0) := by decide +kernel
theorem at_146_505 : mj_at 146 505 = some (.invokevirtual 80, 130, 1) := by decide +kernel
theorem at_146_508 : mj_at 146 508 = some (.if_icmp .eq 150, 0, 0) := by decide +kernel
theorem at_146_511 : mj_at 146 511 = some (.iconst 0, 0, 0) := by decide +kernel
theorem at_146_512 : mj_at 146 512 = some (.ireturn, 0, 0) := by decide +kernel
theorem at_146_513 : mj_at 146 513 = some (.aload_n 1, 0, 0) := by decide +kernel
theorem at_146_514 : mj_at 146 514 = some (.aload_n 0, 0, 0) := by decide +kernel
theorem at_146_515 : mj_at 146 515 = some (.iload_n 3, 0, 0) := by decide +kernel
theorem at_146_516 : mj_at 146 516 = some (.iconst 1, 0, 0) := by decide +kernel
theorem at_146_517 : mj_at 146 517 = some (.iadd, 0, 0) := by decide +kernel
theorem at_146_518 : mj_at 146 518 = some (.iaload, 0, 0) := by decide +kernel
theorem at_146_519 : mj_at 146 519 = some (.invokevirtual 81, 91, 1) := by decide +kernel
theorem at_146_522 : mj_at 146 522 = some (.aload_n 2, 0, 0) := by decide +kernel
theorem at_146_523 : mj_at 146 523 = some (.aload_n 0, 0, 0) := by decide +kernel
theorem at_146_524 : mj_at 146 524 = some (.iload_n 3, 0, 0) := by decide +kernel
theorem at_146_525 : mj_at 146 525 = some (.iconst 1, 0, 0) := by decide +kernel
theorem at_146_526 : mj_at 146 526 = some (.iadd, 0, 0) := by decide +kernel
theorem at_146_527 : mj_at 146 527 = some (.iaload, 0, 0) := by decide +kernel
theorem at_146_528 : mj_at 146 528 = some (.invokevirtual 84, 141, 1) := by decide +kernel
theorem at_146_531 : mj_at 146 531 = some (.if_icmp .eq 127, 0, 0) := by decide +kernel
theorem at_146_534 : mj_at 146 534 = some (.iconst 0, 0, 0) := by decide +kernel
theorem at_146_535 : mj_at 146 535 = some (.ireturn, 0, 0) := by decide +kernel
theorem at_146_536 : mj_at 146 536 = some (.aload_n 1, 0, 0) := by decide +kernel
theorem at_146_537 : mj_at 146 537 = some (.aload_n 0, 0, 0) := by decide +kernel
theorem at_146_538 : mj_at 146 538 = some (.iload_n 3, 0, 0) := by decide +kernel
theorem at_146_539 : mj_at 146 539 = some (.iconst 1, 0, 0) := by decide +kernel
theorem at_146_540 : mj_at 146 540 = some (.iadd, 0, 0) := by decide +kernel
theorem at_146_541 : mj_at 146 541 = some (.iaload, 0, 0) := by decide +kernel
theorem at_146_542 : mj_at 146 542 = some (.aload_n 0, 0, 0) := by decide +kernel
theorem at_146_543 : mj_at 146 543 = some (.iload_n 3, 0, 0) := by decide +kernel
theorem at_146_544 : mj_at 146 544 = some (.iconst 2, 0, 0) := by decide +kernel
theorem at_146_545 : mj_at 146 545 = some (.iadd, 0, 0) := by decide +kernel
theorem at_146_546 : mj_at 146 546 = some (.iaload, 0, 0) := by decide +kernel
theorem at_146_547 : mj_at 146 547 = some (.invokevirtual 85, 93, 2) := by decide +kernel
theorem at_146_550 : mj_at 146 550 = some (.aload_n 2, 0, 0) := by decide +kernel
theorem at_146_551 : mj_at 146 551 = some (.aload_n 0, 0, 0) := by decide +kernel
theorem at_146_552 : mj_at 146 552 = some (.iload_n 3, 0, 0) := by decide +kernel
theorem at_146_553 : mj_at 146 553 = some (.iconst 1, 0, 0) := by decide +kernel
theorem at_146_554 : mj_at 146 554 = some (.iadd, 0, 0) := by decide +kernel
theorem at_146_555 : mj_at 146 555 = some (.iaload, 0, 0) := by decide +kernel
theorem at_146_556 : mj_at 146 556 = some (.aload_n 0, 0, 0) := by decide +kernel
theorem at_146_557 : mj_at 146 557 = some (.iload_n 3, 0, 0) := by decide +kernel
theorem at_146_558 : mj_at 146 558 = some (.iconst 2, 0, 0) := by decide +kernel
theorem at_146_559 : mj_at 146 559 = some (.iadd, 0, 0) := by decide +kernel
theorem at_146_560 : mj_at 146 560 = some (.iaload, 0, 0) := by decide +kernel
theorem at_146_561 : mj_at 146 561 = some (.invokevirtual 88, 142, 2) := by decide +kernel
theorem at_146_564 : mj_at 146 564 = some (.if_icmp .eq 94, 0, 0) := by decide +kernel
theorem at_146_567 : mj_at 146 567 = some (.iconst 0, 0, 0) := by decide +kernel
theorem at_146_568 : mj_at 146 568 = some (.ireturn, 0, 0) := by decide +kernel
theorem at_146_569 : mj_at 146 569 = some (.aload_n 1, 0, 0) := by decide +kernel
theorem at_146_570 : mj_at 146 570 = some (.aload_n 0, 0, 0) := by decide +kernel
theorem at_146_571 : mj_at 146 571 = some (.iload_n 3, 0, 0) := by decide +kernel
theorem at_146_572 : mj_at 146 572 = some (.iconst 1, 0, 0) := by decide +kernel
theorem at_146_573 : mj_at 146 573 = some (.iadd, 0, 0) := by decide +kernel
theorem at_146_574 : mj_at 146 574 = some (.iaload, 0, 0) := by decide +kernel
theorem at_146_575 : mj_at 146 575 = some (.invokevirtual 89, 95, 1) := by decide +kernel
theorem at_146_578 : mj_at 146 578 = some (.aload_n 2, 0, 0) := by decide +kernel
theorem at_146_579 : mj_at 146 579 = some (.aload_n 0, 0, 0) := by decide +kernel
theorem at_146_580 : mj_at 146 580 = some (.iload_n 3, 0, 0) := by decide +kernel
theorem at_146_581 : mj_at 146 581 = some (.iconst 1, 0, 0) := by decide +kernel
theorem at_146_582 : mj_at 146 582 = some (.iadd, 0, 0) := by decide +kernel
theorem at_146_583 : mj_at 146 583 = some (.iaload, 0, 0) := by decide +kernel
theorem at_146_584 : mj_at 146 584 = some (.invokevirtual 92, 143, 1) := by decide +kernel
theorem at_146_587 : mj_at 146 587 = some (.if_icmp .eq 71, 0, 0) := by decide +kernel
theorem at_146_590 : mj_at 146 590 = some (.iconst 0, 0, 0) := by decide +kernel
theorem at_146_591 : mj_at 146 591 = some (.ireturn, 0, 0) := by decide +kernel
theorem at_146_592 : mj_at 146 592 = some (.aload_n 1, 0, 0) := by decide +kernel
theorem at_146_593 : mj_at 146 593 = some (.aload_n 0, 0, 0) := by decide +kernel
theorem at_146_594 : mj_at 146 594 = some (.iload_n 3, 0, 0) := by decide +kernel
theorem at_146_595 : mj_at 146 595 = some (.iconst 1, 0, 0) := by decide +kernel
theorem at_146_596 : mj_at 146 596 = some (.iadd, 0, 0) := by decide +kernel
theorem at_146_597 : mj_at 146 597 = some (.iaload, 0, 0) := by decide +kernel
theorem at_146_598 : mj_at 146 598 = some (.aload_n 0, 0, 0) := by decide +kernel
theorem at_146_599 : mj_at 146 599 = some (.iload_n 3, 0, 0) := by decide +kernel
theorem at_146_600 : mj_at 146 600 = some (.iconst 2, 0, 0) := by decide +kernel
theorem at_146_601 : mj_at 146 601 = some (.iadd, 0, 0) := by decide +kernel
theorem at_146_602 : mj_at 146 602 = some (.iaload, 0, 0) := by decide +kernel
theorem at_146_603 : mj_at 146 603 = some (.invokevirtual 93, 96, 2) := by decide +kernel
theorem at_146_606 : mj_at 146 606 = some (.aload_n 2, 0, 0) := by decide +kernel
theorem at_146_607 : mj_at 146 607 = some (.aload_n 0, 0, 0) := by decide +kernel
theorem at_146_608 : mj_at 146 608 = some (.iload_n 3, 0, 0) := by decide +kernel
theorem at_146_609 : mj_at 146 609 = some (.iconst 1, 0, 0) := by decide +kernel
theorem at_146_610 : mj_at 146 610 = some (.iadd, 0, 0) := by decide +kernel
theorem at_146_611 : mj_at 146 611 = some (.iaload, 0, 0) := by decide +kernel
theorem at_146_612 : mj_at 146 612 = some (.aload_n 0, 0, 0) := by decide +kernel
theorem at_146_613 : mj_at 146 613 = some (.iload_n 3, 0, 0) := by decide +kernel
theorem at_146_614 : mj_at 146 614 = some (.iconst 2, 0, 0) := by decide +kernel
theorem at_146_615 : mj_at 146 615 = some (.iadd, 0, 0) := by decide +kernel
theorem at_146_616 : mj_at 146 616 = some (.iaload, 0, 0) := by decide +kernel
theorem at_146_617 : mj_at 146 617 = some (.invokevirtual 96, 144, 2) := by decide +kernel
theorem at_146_620 : mj_at 146 620 = some (.if_icmp .eq 38, 0, 0) := by decide +kernel
theorem at_146_623 : mj_at 146 623 = some (.iconst 0, 0, 0) := by decide +kernel
theorem at_146_624 : mj_at 146 624 = some (.ireturn, 0, 0) := by decide +kernel
theorem at_146_625 : mj_at 146 625 = some (.aload_n 1, 0, 0) := by decide +kernel
theorem at_146_626 : mj_at 146 626 = some (.aload_n 0, 0, 0) := by decide +kernel
theorem at_146_627 : mj_at 146 627 = some (.iload_n 3, 0, 0) := by decide +kernel
theorem at_146_628 : mj_at 146 628 = some (.iconst 1, 0, 0) := by decide +kernel
theorem at_146_629 : mj_at 146 629 = some (.iadd, 0, 0) := by decide +kernel
theorem at_146_630 : mj_at 146 630 = some (.iaload, 0, 0) := by decide +kernel
theorem at_146_631 : mj_at 146 631 = some (.aload_n 0, 0, 0) := by decide +kernel
theorem at_146_632 : mj_at 146 632 = some (.iload_n 3, 0, 0) := by decide +kernel
theorem at_146_633 : mj_at 146 633 = some (.iconst 2, 0, 0) := by decide +kernel
theorem at_146_634 : mj_at 146 634 = some (.iadd, 0, 0) := by decide +kernel
theorem at_146_635 : mj_at 146 635 = some (.iaload, 0, 0) := by decide +kernel
theorem at_146_636 : mj_at 146 636 = some (.invokevirtual 97, 97, 2) := by decide +kernel
theorem at_146_639 : mj_at 146 639 = some (.aload_n 2, 0, 0) := by decide +kernel
theorem at_146_640 : mj_at 146 640 = some (.aload_n 0, 0, 0) := by decide +kernel
theorem at_146_641 : mj_at 146 641 = some (.iload_n 3, 0, 0) := by decide +kernel
theorem at_146_642 : mj_at 146 642 = some (.iconst 1, 0, 0) := by decide +kernel
theorem at_146_643 : mj_at 146 643 = some (.iadd, 0, 0) := by decide +kernel
theorem at_146_644 : mj_at 146 644 = some (.iaload, 0, 0) := by decide +kernel
theorem at_146_645 : mj_at 146 645 = some (.aload_n 0, 0, 0) := by decide +kernel
theorem at_146_646 : mj_at 146 646 = some (.iload_n 3, 0, 0) := by decide +kernel
theorem at_146_647 : mj_at 146 647 = some (.iconst 2, 0, 0) := by decide +kernel
theorem at_146_648 : mj_at 146 648 = some (.iadd, 0, 0) := by decide +kernel
theorem at_146_649 : mj_at 146 649 = some (.iaload, 0, 0) := by decide +kernel
theorem at_146_650 : mj_at 146 650 = some (.invokevirtual 100, 145, 2) := by decide +kernel
theorem at_146_653 : mj_at 146 653 = some (.if_icmp .eq 5, 0, 0) := by decide +kernel
theorem at_146_656 : mj_at 146 656 = some (.iconst 0, 0, 0) := by decide +kernel
theorem at_146_657 : mj_at 146 657 = some (.ireturn, 0, 0) := by decide +kernel
theorem at_146_658 : mj_at 146 658 = some (.iinc 3 6, 0, 0) := by decide +kernel
theorem at_146_661 : mj_at 146 661 = some (.goto (-643), 0, 0) := by decide +kernel
theorem at_146_664 : mj_at 146 664 = some (.iconst 1, 0, 0) := by decide +kernel
theorem at_146_665 : mj_at 146 665 = some (.ireturn, 0, 0) := by decide +kernel
