theorem dX1_init_0 : decode cX1_init 0 = .ok (.aload_n 0, 1) := by decide +kernel
theorem dX1_init_1 : decode cX1_init 1 = .ok (.invokespecial 3, 3) := by decide +kernel
theorem dX1_init_4 : decode cX1_init 4 = .ok (.aload_n 0, 1) := by decide +kernel
theorem dX1_init_5 : decode cX1_init 5 = .ok (.sipush 144, 3) := by decide +kernel
theorem dX1_init_8 : decode cX1_init 8 = .ok (.newarray .int, 2) := by decide +kernel
theorem dX1_init_10 : decode cX1_init 10 = .ok (.putfield 9, 3) := by decide +kernel
theorem dX1_init_13 : decode cX1_init 13 = .ok (.return_, 1) := by decide +kernel
theorem dX1_column_0 : decode cX1_column 0 = .ok (.iload_n 1, 1) := by decide +kernel
theorem dX1_column_1 : decode cX1_column 1 = .ok (.invokestatic 15, 3) := by decide +kernel
theorem dX1_column_4 : decode cX1_column 4 = .ok (.ifCond .eq 24, 3) := by decide +kernel
theorem dX1_column_7 : decode cX1_column 7 = .ok (.iload_n 2, 1) := by decide +kernel
theorem dX1_column_8 : decode cX1_column 8 = .ok (.invokestatic 15, 3) := by decide +kernel
theorem dX1_column_11 : decode cX1_column 11 = .ok (.ifCond .eq 17, 3) := by decide +kernel
theorem dX1_column_14 : decode cX1_column 14 = .ok (.aload_n 0, 1) := by decide +kernel
theorem dX1_column_15 : decode cX1_column 15 = .ok (.getfield 9, 3) := by decide +kernel
theorem dX1_column_18 : decode cX1_column 18 = .ok (.iload_n 1, 1) := by decide +kernel
theorem dX1_column_19 : decode cX1_column 19 = .ok (.bipush 12, 2) := by decide +kernel
theorem dX1_column_21 : decode cX1_column 21 = .ok (.imul, 1) := by decide +kernel
theorem dX1_column_22 : decode cX1_column 22 = .ok (.iload_n 2, 1) := by decide +kernel
theorem dX1_column_23 : decode cX1_column 23 = .ok (.iadd, 1) := by decide +kernel
theorem dX1_column_24 : decode cX1_column 24 = .ok (.iaload, 1) := by decide +kernel
theorem dX1_column_25 : decode cX1_column 25 = .ok (.goto 4, 3) := by decide +kernel
theorem dX1_column_28 : decode cX1_column 28 = .ok (.iconst 0, 1) := by decide +kernel
theorem dX1_column_29 : decode cX1_column 29 = .ok (.ireturn, 1) := by decide +kernel
theorem dX1_columnAlong_0 : decode cX1_columnAlong 0 = .ok (.iload_n 1, 1) := by decide +kernel
theorem dX1_columnAlong_1 : decode cX1_columnAlong 1 = .ok (.iconst 2, 1) := by decide +kernel
theorem dX1_columnAlong_2 : decode cX1_columnAlong 2 = .ok (.if_icmp .ne 10, 3) := by decide +kernel
theorem dX1_columnAlong_5 : decode cX1_columnAlong 5 = .ok (.aload_n 0, 1) := by decide +kernel
theorem dX1_columnAlong_6 : decode cX1_columnAlong 6 = .ok (.iload_n 2, 1) := by decide +kernel
theorem dX1_columnAlong_7 : decode cX1_columnAlong 7 = .ok (.iload_n 3, 1) := by decide +kernel
theorem dX1_columnAlong_8 : decode cX1_columnAlong 8 = .ok (.invokevirtual 19, 3) := by decide +kernel
theorem dX1_columnAlong_11 : decode cX1_columnAlong 11 = .ok (.ireturn, 1) := by decide +kernel
theorem dX1_columnAlong_12 : decode cX1_columnAlong 12 = .ok (.iload_n 3, 1) := by decide +kernel
theorem dX1_columnAlong_13 : decode cX1_columnAlong 13 = .ok (.invokestatic 15, 3) := by decide +kernel
theorem dX1_columnAlong_16 : decode cX1_columnAlong 16 = .ok (.ifCond .ne 5, 3) := by decide +kernel
theorem dX1_columnAlong_19 : decode cX1_columnAlong 19 = .ok (.iconst 0, 1) := by decide +kernel
theorem dX1_columnAlong_20 : decode cX1_columnAlong 20 = .ok (.ireturn, 1) := by decide +kernel
theorem dX1_columnAlong_21 : decode cX1_columnAlong 21 = .ok (.iconst 0, 1) := by decide +kernel
theorem dX1_columnAlong_22 : decode cX1_columnAlong 22 = .ok (.istore 4, 2) := by decide +kernel
theorem dX1_columnAlong_24 : decode cX1_columnAlong 24 = .ok (.iconst 0, 1) := by decide +kernel
theorem dX1_columnAlong_25 : decode cX1_columnAlong 25 = .ok (.istore 5, 2) := by decide +kernel
theorem dX1_columnAlong_27 : decode cX1_columnAlong 27 = .ok (.iload 5, 2) := by decide +kernel
theorem dX1_columnAlong_29 : decode cX1_columnAlong 29 = .ok (.bipush 12, 2) := by decide +kernel
theorem dX1_columnAlong_31 : decode cX1_columnAlong 31 = .ok (.if_icmp .ge 46, 3) := by decide +kernel
theorem dX1_columnAlong_34 : decode cX1_columnAlong 34 = .ok (.iload_n 1, 1) := by decide +kernel
theorem dX1_columnAlong_35 : decode cX1_columnAlong 35 = .ok (.ifCond .ne 13, 3) := by decide +kernel
theorem dX1_columnAlong_38 : decode cX1_columnAlong 38 = .ok (.aload_n 0, 1) := by decide +kernel
theorem dX1_columnAlong_39 : decode cX1_columnAlong 39 = .ok (.iload 5, 2) := by decide +kernel
theorem dX1_columnAlong_41 : decode cX1_columnAlong 41 = .ok (.iload_n 2, 1) := by decide +kernel
theorem dX1_columnAlong_42 : decode cX1_columnAlong 42 = .ok (.invokevirtual 19, 3) := by decide +kernel
theorem dX1_columnAlong_45 : decode cX1_columnAlong 45 = .ok (.goto 10, 3) := by decide +kernel
theorem dX1_columnAlong_48 : decode cX1_columnAlong 48 = .ok (.aload_n 0, 1) := by decide +kernel
theorem dX1_columnAlong_49 : decode cX1_columnAlong 49 = .ok (.iload_n 2, 1) := by decide +kernel
theorem dX1_columnAlong_50 : decode cX1_columnAlong 50 = .ok (.iload 5, 2) := by decide +kernel
theorem dX1_columnAlong_52 : decode cX1_columnAlong 52 = .ok (.invokevirtual 19, 3) := by decide +kernel
theorem dX1_columnAlong_55 : decode cX1_columnAlong 55 = .ok (.istore 6, 2) := by decide +kernel
theorem dX1_columnAlong_57 : decode cX1_columnAlong 57 = .ok (.iload 4, 2) := by decide +kernel
theorem dX1_columnAlong_59 : decode cX1_columnAlong 59 = .ok (.iload 6, 2) := by decide +kernel
theorem dX1_columnAlong_61 : decode cX1_columnAlong 61 = .ok (.iload_n 3, 1) := by decide +kernel
theorem dX1_columnAlong_62 : decode cX1_columnAlong 62 = .ok (.ishr, 1) := by decide +kernel
theorem dX1_columnAlong_63 : decode cX1_columnAlong 63 = .ok (.iconst 1, 1) := by decide +kernel
theorem dX1_columnAlong_64 : decode cX1_columnAlong 64 = .ok (.iand, 1) := by decide +kernel
theorem dX1_columnAlong_65 : decode cX1_columnAlong 65 = .ok (.iload 5, 2) := by decide +kernel
theorem dX1_columnAlong_67 : decode cX1_columnAlong 67 = .ok (.ishl, 1) := by decide +kernel
theorem dX1_columnAlong_68 : decode cX1_columnAlong 68 = .ok (.ior, 1) := by decide +kernel
theorem dX1_columnAlong_69 : decode cX1_columnAlong 69 = .ok (.istore 4, 2) := by decide +kernel
theorem dX1_columnAlong_71 : decode cX1_columnAlong 71 = .ok (.iinc 5 1, 3) := by decide +kernel
theorem dX1_columnAlong_74 : decode cX1_columnAlong 74 = .ok (.goto (-47), 3) := by decide +kernel
theorem dX1_columnAlong_77 : decode cX1_columnAlong 77 = .ok (.iload 4, 2) := by decide +kernel
theorem dX1_columnAlong_79 : decode cX1_columnAlong 79 = .ok (.ireturn, 1) := by decide +kernel
theorem dX1_becomeView_0 : decode cX1_becomeView 0 = .ok (.iconst 0, 1) := by decide +kernel
theorem dX1_becomeView_1 : decode cX1_becomeView 1 = .ok (.istore_n 3, 1) := by decide +kernel
theorem dX1_becomeView_2 : decode cX1_becomeView 2 = .ok (.iload_n 3, 1) := by decide +kernel
theorem dX1_becomeView_3 : decode cX1_becomeView 3 = .ok (.bipush 12, 2) := by decide +kernel
theorem dX1_becomeView_5 : decode cX1_becomeView 5 = .ok (.if_icmp .ge 45, 3) := by decide +kernel
theorem dX1_becomeView_8 : decode cX1_becomeView 8 = .ok (.iconst 0, 1) := by decide +kernel
theorem dX1_becomeView_9 : decode cX1_becomeView 9 = .ok (.istore 4, 2) := by decide +kernel
theorem dX1_becomeView_11 : decode cX1_becomeView 11 = .ok (.iload 4, 2) := by decide +kernel
theorem dX1_becomeView_13 : decode cX1_becomeView 13 = .ok (.bipush 12, 2) := by decide +kernel
theorem dX1_becomeView_15 : decode cX1_becomeView 15 = .ok (.if_icmp .ge 29, 3) := by decide +kernel
theorem dX1_becomeView_18 : decode cX1_becomeView 18 = .ok (.aload_n 0, 1) := by decide +kernel
theorem dX1_becomeView_19 : decode cX1_becomeView 19 = .ok (.getfield 9, 3) := by decide +kernel
theorem dX1_becomeView_22 : decode cX1_becomeView 22 = .ok (.iload_n 3, 1) := by decide +kernel
theorem dX1_becomeView_23 : decode cX1_becomeView 23 = .ok (.bipush 12, 2) := by decide +kernel
theorem dX1_becomeView_25 : decode cX1_becomeView 25 = .ok (.imul, 1) := by decide +kernel
theorem dX1_becomeView_26 : decode cX1_becomeView 26 = .ok (.iload 4, 2) := by decide +kernel
theorem dX1_becomeView_28 : decode cX1_becomeView 28 = .ok (.iadd, 1) := by decide +kernel
theorem dX1_becomeView_29 : decode cX1_becomeView 29 = .ok (.aload_n 1, 1) := by decide +kernel
theorem dX1_becomeView_30 : decode cX1_becomeView 30 = .ok (.iload_n 2, 1) := by decide +kernel
theorem dX1_becomeView_31 : decode cX1_becomeView 31 = .ok (.iload_n 3, 1) := by decide +kernel
theorem dX1_becomeView_32 : decode cX1_becomeView 32 = .ok (.iload 4, 2) := by decide +kernel
theorem dX1_becomeView_34 : decode cX1_becomeView 34 = .ok (.invokevirtual 23, 3) := by decide +kernel
theorem dX1_becomeView_37 : decode cX1_becomeView 37 = .ok (.iastore, 1) := by decide +kernel
theorem dX1_becomeView_38 : decode cX1_becomeView 38 = .ok (.iinc 4 1, 3) := by decide +kernel
theorem dX1_becomeView_41 : decode cX1_becomeView 41 = .ok (.goto (-30), 3) := by decide +kernel
theorem dX1_becomeView_44 : decode cX1_becomeView 44 = .ok (.iinc 3 1, 3) := by decide +kernel
theorem dX1_becomeView_47 : decode cX1_becomeView 47 = .ok (.goto (-45), 3) := by decide +kernel
theorem dX1_becomeView_50 : decode cX1_becomeView 50 = .ok (.return_, 1) := by decide +kernel
theorem dX1_becomeBox_0 : decode cX1_becomeBox 0 = .ok (.iload_n 3, 1) := by decide +kernel
theorem dX1_becomeBox_1 : decode cX1_becomeBox 1 = .ok (.iload 6, 2) := by decide +kernel
theorem dX1_becomeBox_3 : decode cX1_becomeBox 3 = .ok (.invokestatic 27, 3) := by decide +kernel
theorem dX1_becomeBox_6 : decode cX1_becomeBox 6 = .ok (.istore 7, 2) := by decide +kernel
theorem dX1_becomeBox_8 : decode cX1_becomeBox 8 = .ok (.iconst 0, 1) := by decide +kernel
theorem dX1_becomeBox_9 : decode cX1_becomeBox 9 = .ok (.istore 8, 2) := by decide +kernel
theorem dX1_becomeBox_11 : decode cX1_becomeBox 11 = .ok (.iload 8, 2) := by decide +kernel
theorem dX1_becomeBox_13 : decode cX1_becomeBox 13 = .ok (.bipush 12, 2) := by decide +kernel
theorem dX1_becomeBox_15 : decode cX1_becomeBox 15 = .ok (.if_icmp .ge 82, 3) := by decide +kernel
theorem dX1_becomeBox_18 : decode cX1_becomeBox 18 = .ok (.iconst 0, 1) := by decide +kernel
theorem dX1_becomeBox_19 : decode cX1_becomeBox 19 = .ok (.istore 9, 2) := by decide +kernel
theorem dX1_becomeBox_21 : decode cX1_becomeBox 21 = .ok (.iload 9, 2) := by decide +kernel
theorem dX1_becomeBox_23 : decode cX1_becomeBox 23 = .ok (.bipush 12, 2) := by decide +kernel
theorem dX1_becomeBox_25 : decode cX1_becomeBox 25 = .ok (.if_icmp .ge 66, 3) := by decide +kernel
theorem dX1_becomeBox_28 : decode cX1_becomeBox 28 = .ok (.iload 8, 2) := by decide +kernel
theorem dX1_becomeBox_30 : decode cX1_becomeBox 30 = .ok (.iload_n 1, 1) := by decide +kernel
theorem dX1_becomeBox_31 : decode cX1_becomeBox 31 = .ok (.if_icmp .lt 27, 3) := by decide +kernel
theorem dX1_becomeBox_34 : decode cX1_becomeBox 34 = .ok (.iload 8, 2) := by decide +kernel
theorem dX1_becomeBox_36 : decode cX1_becomeBox 36 = .ok (.iload 4, 2) := by decide +kernel
theorem dX1_becomeBox_38 : decode cX1_becomeBox 38 = .ok (.if_icmp .gt 20, 3) := by decide +kernel
theorem dX1_becomeBox_41 : decode cX1_becomeBox 41 = .ok (.iload 9, 2) := by decide +kernel
theorem dX1_becomeBox_43 : decode cX1_becomeBox 43 = .ok (.iload_n 2, 1) := by decide +kernel
theorem dX1_becomeBox_44 : decode cX1_becomeBox 44 = .ok (.if_icmp .lt 14, 3) := by decide +kernel
theorem dX1_becomeBox_47 : decode cX1_becomeBox 47 = .ok (.iload 9, 2) := by decide +kernel
theorem dX1_becomeBox_49 : decode cX1_becomeBox 49 = .ok (.iload 5, 2) := by decide +kernel
theorem dX1_becomeBox_51 : decode cX1_becomeBox 51 = .ok (.if_icmp .gt 7, 3) := by decide +kernel
theorem dX1_becomeBox_54 : decode cX1_becomeBox 54 = .ok (.iconst 1, 1) := by decide +kernel
theorem dX1_becomeBox_55 : decode cX1_becomeBox 55 = .ok (.goto 4, 3) := by decide +kernel
theorem dX1_becomeBox_58 : decode cX1_becomeBox 58 = .ok (.iconst 0, 1) := by decide +kernel
theorem dX1_becomeBox_59 : decode cX1_becomeBox 59 = .ok (.istore 10, 2) := by decide +kernel
theorem dX1_becomeBox_61 : decode cX1_becomeBox 61 = .ok (.aload_n 0, 1) := by decide +kernel
theorem dX1_becomeBox_62 : decode cX1_becomeBox 62 = .ok (.getfield 9, 3) := by decide +kernel
theorem dX1_becomeBox_65 : decode cX1_becomeBox 65 = .ok (.iload 8, 2) := by decide +kernel
theorem dX1_becomeBox_67 : decode cX1_becomeBox 67 = .ok (.bipush 12, 2) := by decide +kernel
theorem dX1_becomeBox_69 : decode cX1_becomeBox 69 = .ok (.imul, 1) := by decide +kernel
theorem dX1_becomeBox_70 : decode cX1_becomeBox 70 = .ok (.iload 9, 2) := by decide +kernel
theorem dX1_becomeBox_72 : decode cX1_becomeBox 72 = .ok (.iadd, 1) := by decide +kernel
theorem dX1_becomeBox_73 : decode cX1_becomeBox 73 = .ok (.iload 10, 2) := by decide +kernel
theorem dX1_becomeBox_75 : decode cX1_becomeBox 75 = .ok (.ifCond .eq 8, 3) := by decide +kernel
theorem dX1_becomeBox_78 : decode cX1_becomeBox 78 = .ok (.iload 7, 2) := by decide +kernel
theorem dX1_becomeBox_80 : decode cX1_becomeBox 80 = .ok (.goto 4, 3) := by decide +kernel
theorem dX1_becomeBox_83 : decode cX1_becomeBox 83 = .ok (.iconst 0, 1) := by decide +kernel
theorem dX1_becomeBox_84 : decode cX1_becomeBox 84 = .ok (.iastore, 1) := by decide +kernel
theorem dX1_becomeBox_85 : decode cX1_becomeBox 85 = .ok (.iinc 9 1, 3) := by decide +kernel
theorem dX1_becomeBox_88 : decode cX1_becomeBox 88 = .ok (.goto (-67), 3) := by decide +kernel
theorem dX1_becomeBox_91 : decode cX1_becomeBox 91 = .ok (.iinc 8 1, 3) := by decide +kernel
theorem dX1_becomeBox_94 : decode cX1_becomeBox 94 = .ok (.goto (-83), 3) := by decide +kernel
theorem dX1_becomeBox_97 : decode cX1_becomeBox 97 = .ok (.return_, 1) := by decide +kernel
theorem dX1_becomeJoined_0 : decode cX1_becomeJoined 0 = .ok (.iconst 0, 1) := by decide +kernel
theorem dX1_becomeJoined_1 : decode cX1_becomeJoined 1 = .ok (.istore 4, 2) := by decide +kernel
theorem dX1_becomeJoined_3 : decode cX1_becomeJoined 3 = .ok (.iload 4, 2) := by decide +kernel
theorem dX1_becomeJoined_5 : decode cX1_becomeJoined 5 = .ok (.sipush 144, 3) := by decide +kernel
theorem dX1_becomeJoined_8 : decode cX1_becomeJoined 8 = .ok (.if_icmp .ge 34, 3) := by decide +kernel
theorem dX1_becomeJoined_11 : decode cX1_becomeJoined 11 = .ok (.aload_n 0, 1) := by decide +kernel
theorem dX1_becomeJoined_12 : decode cX1_becomeJoined 12 = .ok (.getfield 9, 3) := by decide +kernel
theorem dX1_becomeJoined_15 : decode cX1_becomeJoined 15 = .ok (.iload 4, 2) := by decide +kernel
theorem dX1_becomeJoined_17 : decode cX1_becomeJoined 17 = .ok (.aload_n 1, 1) := by decide +kernel
theorem dX1_becomeJoined_18 : decode cX1_becomeJoined 18 = .ok (.getfield 9, 3) := by decide +kernel
theorem dX1_becomeJoined_21 : decode cX1_becomeJoined 21 = .ok (.iload 4, 2) := by decide +kernel
theorem dX1_becomeJoined_23 : decode cX1_becomeJoined 23 = .ok (.iaload, 1) := by decide +kernel
theorem dX1_becomeJoined_24 : decode cX1_becomeJoined 24 = .ok (.aload_n 2, 1) := by decide +kernel
theorem dX1_becomeJoined_25 : decode cX1_becomeJoined 25 = .ok (.getfield 9, 3) := by decide +kernel
theorem dX1_becomeJoined_28 : decode cX1_becomeJoined 28 = .ok (.iload 4, 2) := by decide +kernel
theorem dX1_becomeJoined_30 : decode cX1_becomeJoined 30 = .ok (.iaload, 1) := by decide +kernel
theorem dX1_becomeJoined_31 : decode cX1_becomeJoined 31 = .ok (.iload_n 3, 1) := by decide +kernel
theorem dX1_becomeJoined_32 : decode cX1_becomeJoined 32 = .ok (.invokestatic 30, 3) := by decide +kernel
theorem dX1_becomeJoined_35 : decode cX1_becomeJoined 35 = .ok (.iastore, 1) := by decide +kernel
theorem dX1_becomeJoined_36 : decode cX1_becomeJoined 36 = .ok (.iinc 4 1, 3) := by decide +kernel
theorem dX1_becomeJoined_39 : decode cX1_becomeJoined 39 = .ok (.goto (-36), 3) := by decide +kernel
theorem dX1_becomeJoined_42 : decode cX1_becomeJoined 42 = .ok (.return_, 1) := by decide +kernel
theorem dX1_becomeTurned_0 : decode cX1_becomeTurned 0 = .ok (.iconst 0, 1) := by decide +kernel
theorem dX1_becomeTurned_1 : decode cX1_becomeTurned 1 = .ok (.istore_n 3, 1) := by decide +kernel
theorem dX1_becomeTurned_2 : decode cX1_becomeTurned 2 = .ok (.iload_n 3, 1) := by decide +kernel
theorem dX1_becomeTurned_3 : decode cX1_becomeTurned 3 = .ok (.bipush 12, 2) := by decide +kernel
theorem dX1_becomeTurned_5 : decode cX1_becomeTurned 5 = .ok (.if_icmp .ge 45, 3) := by decide +kernel
theorem dX1_becomeTurned_8 : decode cX1_becomeTurned 8 = .ok (.iconst 0, 1) := by decide +kernel
theorem dX1_becomeTurned_9 : decode cX1_becomeTurned 9 = .ok (.istore 4, 2) := by decide +kernel
theorem dX1_becomeTurned_11 : decode cX1_becomeTurned 11 = .ok (.iload 4, 2) := by decide +kernel
theorem dX1_becomeTurned_13 : decode cX1_becomeTurned 13 = .ok (.bipush 12, 2) := by decide +kernel
theorem dX1_becomeTurned_15 : decode cX1_becomeTurned 15 = .ok (.if_icmp .ge 29, 3) := by decide +kernel
theorem dX1_becomeTurned_18 : decode cX1_becomeTurned 18 = .ok (.aload_n 0, 1) := by decide +kernel
theorem dX1_becomeTurned_19 : decode cX1_becomeTurned 19 = .ok (.getfield 9, 3) := by decide +kernel
theorem dX1_becomeTurned_22 : decode cX1_becomeTurned 22 = .ok (.iload_n 3, 1) := by decide +kernel
theorem dX1_becomeTurned_23 : decode cX1_becomeTurned 23 = .ok (.bipush 12, 2) := by decide +kernel
theorem dX1_becomeTurned_25 : decode cX1_becomeTurned 25 = .ok (.imul, 1) := by decide +kernel
theorem dX1_becomeTurned_26 : decode cX1_becomeTurned 26 = .ok (.iload 4, 2) := by decide +kernel
theorem dX1_becomeTurned_28 : decode cX1_becomeTurned 28 = .ok (.iadd, 1) := by decide +kernel
theorem dX1_becomeTurned_29 : decode cX1_becomeTurned 29 = .ok (.aload_n 1, 1) := by decide +kernel
theorem dX1_becomeTurned_30 : decode cX1_becomeTurned 30 = .ok (.iload_n 2, 1) := by decide +kernel
theorem dX1_becomeTurned_31 : decode cX1_becomeTurned 31 = .ok (.iload_n 3, 1) := by decide +kernel
theorem dX1_becomeTurned_32 : decode cX1_becomeTurned 32 = .ok (.iload 4, 2) := by decide +kernel
theorem dX1_becomeTurned_34 : decode cX1_becomeTurned 34 = .ok (.invokestatic 33, 3) := by decide +kernel
theorem dX1_becomeTurned_37 : decode cX1_becomeTurned 37 = .ok (.iastore, 1) := by decide +kernel
theorem dX1_becomeTurned_38 : decode cX1_becomeTurned 38 = .ok (.iinc 4 1, 3) := by decide +kernel
theorem dX1_becomeTurned_41 : decode cX1_becomeTurned 41 = .ok (.goto (-30), 3) := by decide +kernel
theorem dX1_becomeTurned_44 : decode cX1_becomeTurned 44 = .ok (.iinc 3 1, 3) := by decide +kernel
theorem dX1_becomeTurned_47 : decode cX1_becomeTurned 47 = .ok (.goto (-45), 3) := by decide +kernel
theorem dX1_becomeTurned_50 : decode cX1_becomeTurned 50 = .ok (.return_, 1) := by decide +kernel
theorem dX1_becomeMirrored_0 : decode cX1_becomeMirrored 0 = .ok (.iconst 0, 1) := by decide +kernel
theorem dX1_becomeMirrored_1 : decode cX1_becomeMirrored 1 = .ok (.istore_n 3, 1) := by decide +kernel
theorem dX1_becomeMirrored_2 : decode cX1_becomeMirrored 2 = .ok (.iload_n 3, 1) := by decide +kernel
theorem dX1_becomeMirrored_3 : decode cX1_becomeMirrored 3 = .ok (.bipush 12, 2) := by decide +kernel
theorem dX1_becomeMirrored_5 : decode cX1_becomeMirrored 5 = .ok (.if_icmp .ge 45, 3) := by decide +kernel
theorem dX1_becomeMirrored_8 : decode cX1_becomeMirrored 8 = .ok (.iconst 0, 1) := by decide +kernel
theorem dX1_becomeMirrored_9 : decode cX1_becomeMirrored 9 = .ok (.istore 4, 2) := by decide +kernel
theorem dX1_becomeMirrored_11 : decode cX1_becomeMirrored 11 = .ok (.iload 4, 2) := by decide +kernel
theorem dX1_becomeMirrored_13 : decode cX1_becomeMirrored 13 = .ok (.bipush 12, 2) := by decide +kernel
theorem dX1_becomeMirrored_15 : decode cX1_becomeMirrored 15 = .ok (.if_icmp .ge 29, 3) := by decide +kernel
theorem dX1_becomeMirrored_18 : decode cX1_becomeMirrored 18 = .ok (.aload_n 0, 1) := by decide +kernel
theorem dX1_becomeMirrored_19 : decode cX1_becomeMirrored 19 = .ok (.getfield 9, 3) := by decide +kernel
theorem dX1_becomeMirrored_22 : decode cX1_becomeMirrored 22 = .ok (.iload_n 3, 1) := by decide +kernel
theorem dX1_becomeMirrored_23 : decode cX1_becomeMirrored 23 = .ok (.bipush 12, 2) := by decide +kernel
theorem dX1_becomeMirrored_25 : decode cX1_becomeMirrored 25 = .ok (.imul, 1) := by decide +kernel
theorem dX1_becomeMirrored_26 : decode cX1_becomeMirrored 26 = .ok (.iload 4, 2) := by decide +kernel
theorem dX1_becomeMirrored_28 : decode cX1_becomeMirrored 28 = .ok (.iadd, 1) := by decide +kernel
theorem dX1_becomeMirrored_29 : decode cX1_becomeMirrored 29 = .ok (.aload_n 1, 1) := by decide +kernel
theorem dX1_becomeMirrored_30 : decode cX1_becomeMirrored 30 = .ok (.iload_n 2, 1) := by decide +kernel
theorem dX1_becomeMirrored_31 : decode cX1_becomeMirrored 31 = .ok (.iload_n 3, 1) := by decide +kernel
theorem dX1_becomeMirrored_32 : decode cX1_becomeMirrored 32 = .ok (.iload 4, 2) := by decide +kernel
theorem dX1_becomeMirrored_34 : decode cX1_becomeMirrored 34 = .ok (.invokestatic 37, 3) := by decide +kernel
theorem dX1_becomeMirrored_37 : decode cX1_becomeMirrored 37 = .ok (.iastore, 1) := by decide +kernel
theorem dX1_becomeMirrored_38 : decode cX1_becomeMirrored 38 = .ok (.iinc 4 1, 3) := by decide +kernel
theorem dX1_becomeMirrored_41 : decode cX1_becomeMirrored 41 = .ok (.goto (-30), 3) := by decide +kernel
theorem dX1_becomeMirrored_44 : decode cX1_becomeMirrored 44 = .ok (.iinc 3 1, 3) := by decide +kernel
theorem dX1_becomeMirrored_47 : decode cX1_becomeMirrored 47 = .ok (.goto (-45), 3) := by decide +kernel
theorem dX1_becomeMirrored_50 : decode cX1_becomeMirrored 50 = .ok (.return_, 1) := by decide +kernel
theorem dX1_becomeShifted_0 : decode cX1_becomeShifted 0 = .ok (.iconst 0, 1) := by decide +kernel
theorem dX1_becomeShifted_1 : decode cX1_becomeShifted 1 = .ok (.istore 5, 2) := by decide +kernel
theorem dX1_becomeShifted_3 : decode cX1_becomeShifted 3 = .ok (.iload 5, 2) := by decide +kernel
theorem dX1_becomeShifted_5 : decode cX1_becomeShifted 5 = .ok (.bipush 12, 2) := by decide +kernel
theorem dX1_becomeShifted_7 : decode cX1_becomeShifted 7 = .ok (.if_icmp .ge 71, 3) := by decide +kernel
theorem dX1_becomeShifted_10 : decode cX1_becomeShifted 10 = .ok (.iconst 0, 1) := by decide +kernel
theorem dX1_becomeShifted_11 : decode cX1_becomeShifted 11 = .ok (.istore 6, 2) := by decide +kernel
theorem dX1_becomeShifted_13 : decode cX1_becomeShifted 13 = .ok (.iload 6, 2) := by decide +kernel
theorem dX1_becomeShifted_15 : decode cX1_becomeShifted 15 = .ok (.bipush 12, 2) := by decide +kernel
theorem dX1_becomeShifted_17 : decode cX1_becomeShifted 17 = .ok (.if_icmp .ge 55, 3) := by decide +kernel
theorem dX1_becomeShifted_20 : decode cX1_becomeShifted 20 = .ok (.aload_n 1, 1) := by decide +kernel
theorem dX1_becomeShifted_21 : decode cX1_becomeShifted 21 = .ok (.iload 5, 2) := by decide +kernel
theorem dX1_becomeShifted_23 : decode cX1_becomeShifted 23 = .ok (.iload_n 2, 1) := by decide +kernel
theorem dX1_becomeShifted_24 : decode cX1_becomeShifted 24 = .ok (.isub, 1) := by decide +kernel
theorem dX1_becomeShifted_25 : decode cX1_becomeShifted 25 = .ok (.iload 6, 2) := by decide +kernel
theorem dX1_becomeShifted_27 : decode cX1_becomeShifted 27 = .ok (.iload_n 3, 1) := by decide +kernel
theorem dX1_becomeShifted_28 : decode cX1_becomeShifted 28 = .ok (.isub, 1) := by decide +kernel
theorem dX1_becomeShifted_29 : decode cX1_becomeShifted 29 = .ok (.invokevirtual 19, 3) := by decide +kernel
theorem dX1_becomeShifted_32 : decode cX1_becomeShifted 32 = .ok (.istore 7, 2) := by decide +kernel
theorem dX1_becomeShifted_34 : decode cX1_becomeShifted 34 = .ok (.aload_n 0, 1) := by decide +kernel
theorem dX1_becomeShifted_35 : decode cX1_becomeShifted 35 = .ok (.getfield 9, 3) := by decide +kernel
theorem dX1_becomeShifted_38 : decode cX1_becomeShifted 38 = .ok (.iload 5, 2) := by decide +kernel
theorem dX1_becomeShifted_40 : decode cX1_becomeShifted 40 = .ok (.bipush 12, 2) := by decide +kernel
theorem dX1_becomeShifted_42 : decode cX1_becomeShifted 42 = .ok (.imul, 1) := by decide +kernel
theorem dX1_becomeShifted_43 : decode cX1_becomeShifted 43 = .ok (.iload 6, 2) := by decide +kernel
theorem dX1_becomeShifted_45 : decode cX1_becomeShifted 45 = .ok (.iadd, 1) := by decide +kernel
theorem dX1_becomeShifted_46 : decode cX1_becomeShifted 46 = .ok (.iload 4, 2) := by decide +kernel
theorem dX1_becomeShifted_48 : decode cX1_becomeShifted 48 = .ok (.ifCond .ge 12, 3) := by decide +kernel
theorem dX1_becomeShifted_51 : decode cX1_becomeShifted 51 = .ok (.iload 7, 2) := by decide +kernel
theorem dX1_becomeShifted_53 : decode cX1_becomeShifted 53 = .ok (.iload 4, 2) := by decide +kernel
theorem dX1_becomeShifted_55 : decode cX1_becomeShifted 55 = .ok (.ineg, 1) := by decide +kernel
theorem dX1_becomeShifted_56 : decode cX1_becomeShifted 56 = .ok (.ishr, 1) := by decide +kernel
theorem dX1_becomeShifted_57 : decode cX1_becomeShifted 57 = .ok (.goto 8, 3) := by decide +kernel
theorem dX1_becomeShifted_60 : decode cX1_becomeShifted 60 = .ok (.iload 7, 2) := by decide +kernel
theorem dX1_becomeShifted_62 : decode cX1_becomeShifted 62 = .ok (.iload 4, 2) := by decide +kernel
theorem dX1_becomeShifted_64 : decode cX1_becomeShifted 64 = .ok (.ishl, 1) := by decide +kernel
theorem dX1_becomeShifted_65 : decode cX1_becomeShifted 65 = .ok (.iastore, 1) := by decide +kernel
theorem dX1_becomeShifted_66 : decode cX1_becomeShifted 66 = .ok (.iinc 6 1, 3) := by decide +kernel
theorem dX1_becomeShifted_69 : decode cX1_becomeShifted 69 = .ok (.goto (-56), 3) := by decide +kernel
theorem dX1_becomeShifted_72 : decode cX1_becomeShifted 72 = .ok (.iinc 5 1, 3) := by decide +kernel
theorem dX1_becomeShifted_75 : decode cX1_becomeShifted 75 = .ok (.goto (-72), 3) := by decide +kernel
theorem dX1_becomeShifted_78 : decode cX1_becomeShifted 78 = .ok (.return_, 1) := by decide +kernel
theorem dX1_becomeSwept_0 : decode cX1_becomeSwept 0 = .ok (.iload 4, 2) := by decide +kernel
theorem dX1_becomeSwept_2 : decode cX1_becomeSwept 2 = .ok (.iload 5, 2) := by decide +kernel
theorem dX1_becomeSwept_4 : decode cX1_becomeSwept 4 = .ok (.invokestatic 27, 3) := by decide +kernel
theorem dX1_becomeSwept_7 : decode cX1_becomeSwept 7 = .ok (.istore 6, 2) := by decide +kernel
theorem dX1_becomeSwept_9 : decode cX1_becomeSwept 9 = .ok (.iconst 0, 1) := by decide +kernel
theorem dX1_becomeSwept_10 : decode cX1_becomeSwept 10 = .ok (.istore 7, 2) := by decide +kernel
theorem dX1_becomeSwept_12 : decode cX1_becomeSwept 12 = .ok (.iload 7, 2) := by decide +kernel
theorem dX1_becomeSwept_14 : decode cX1_becomeSwept 14 = .ok (.bipush 12, 2) := by decide +kernel
theorem dX1_becomeSwept_16 : decode cX1_becomeSwept 16 = .ok (.if_icmp .ge 133, 3) := by decide +kernel
theorem dX1_becomeSwept_19 : decode cX1_becomeSwept 19 = .ok (.iconst 0, 1) := by decide +kernel
theorem dX1_becomeSwept_20 : decode cX1_becomeSwept 20 = .ok (.istore 8, 2) := by decide +kernel
theorem dX1_becomeSwept_22 : decode cX1_becomeSwept 22 = .ok (.iload 8, 2) := by decide +kernel
theorem dX1_becomeSwept_24 : decode cX1_becomeSwept 24 = .ok (.bipush 12, 2) := by decide +kernel
theorem dX1_becomeSwept_26 : decode cX1_becomeSwept 26 = .ok (.if_icmp .ge 117, 3) := by decide +kernel
theorem dX1_becomeSwept_29 : decode cX1_becomeSwept 29 = .ok (.iload_n 2, 1) := by decide +kernel
theorem dX1_becomeSwept_30 : decode cX1_becomeSwept 30 = .ok (.ifCond .ne 33, 3) := by decide +kernel
theorem dX1_becomeSwept_33 : decode cX1_becomeSwept 33 = .ok (.iload 7, 2) := by decide +kernel
theorem dX1_becomeSwept_35 : decode cX1_becomeSwept 35 = .ok (.iload 4, 2) := by decide +kernel
theorem dX1_becomeSwept_37 : decode cX1_becomeSwept 37 = .ok (.if_icmp .lt 20, 3) := by decide +kernel
theorem dX1_becomeSwept_40 : decode cX1_becomeSwept 40 = .ok (.iload 7, 2) := by decide +kernel
theorem dX1_becomeSwept_42 : decode cX1_becomeSwept 42 = .ok (.iload 5, 2) := by decide +kernel
theorem dX1_becomeSwept_44 : decode cX1_becomeSwept 44 = .ok (.if_icmp .gt 13, 3) := by decide +kernel
theorem dX1_becomeSwept_47 : decode cX1_becomeSwept 47 = .ok (.aload_n 1, 1) := by decide +kernel
theorem dX1_becomeSwept_48 : decode cX1_becomeSwept 48 = .ok (.iload_n 3, 1) := by decide +kernel
theorem dX1_becomeSwept_49 : decode cX1_becomeSwept 49 = .ok (.iload 8, 2) := by decide +kernel
theorem dX1_becomeSwept_51 : decode cX1_becomeSwept 51 = .ok (.invokevirtual 19, 3) := by decide +kernel
theorem dX1_becomeSwept_54 : decode cX1_becomeSwept 54 = .ok (.goto 4, 3) := by decide +kernel
theorem dX1_becomeSwept_57 : decode cX1_becomeSwept 57 = .ok (.iconst 0, 1) := by decide +kernel
theorem dX1_becomeSwept_58 : decode cX1_becomeSwept 58 = .ok (.istore 9, 2) := by decide +kernel
theorem dX1_becomeSwept_60 : decode cX1_becomeSwept 60 = .ok (.goto 62, 3) := by decide +kernel
theorem dX1_becomeSwept_63 : decode cX1_becomeSwept 63 = .ok (.iload_n 2, 1) := by decide +kernel
theorem dX1_becomeSwept_64 : decode cX1_becomeSwept 64 = .ok (.iconst 1, 1) := by decide +kernel
theorem dX1_becomeSwept_65 : decode cX1_becomeSwept 65 = .ok (.if_icmp .ne 33, 3) := by decide +kernel
theorem dX1_becomeSwept_68 : decode cX1_becomeSwept 68 = .ok (.iload 8, 2) := by decide +kernel
theorem dX1_becomeSwept_70 : decode cX1_becomeSwept 70 = .ok (.iload 4, 2) := by decide +kernel
theorem dX1_becomeSwept_72 : decode cX1_becomeSwept 72 = .ok (.if_icmp .lt 20, 3) := by decide +kernel
theorem dX1_becomeSwept_75 : decode cX1_becomeSwept 75 = .ok (.iload 8, 2) := by decide +kernel
theorem dX1_becomeSwept_77 : decode cX1_becomeSwept 77 = .ok (.iload 5, 2) := by decide +kernel
theorem dX1_becomeSwept_79 : decode cX1_becomeSwept 79 = .ok (.if_icmp .gt 13, 3) := by decide +kernel
theorem dX1_becomeSwept_82 : decode cX1_becomeSwept 82 = .ok (.aload_n 1, 1) := by decide +kernel
theorem dX1_becomeSwept_83 : decode cX1_becomeSwept 83 = .ok (.iload 7, 2) := by decide +kernel
theorem dX1_becomeSwept_85 : decode cX1_becomeSwept 85 = .ok (.iload_n 3, 1) := by decide +kernel
theorem dX1_becomeSwept_86 : decode cX1_becomeSwept 86 = .ok (.invokevirtual 19, 3) := by decide +kernel
theorem dX1_becomeSwept_89 : decode cX1_becomeSwept 89 = .ok (.goto 4, 3) := by decide +kernel
theorem dX1_becomeSwept_92 : decode cX1_becomeSwept 92 = .ok (.iconst 0, 1) := by decide +kernel
theorem dX1_becomeSwept_93 : decode cX1_becomeSwept 93 = .ok (.istore 9, 2) := by decide +kernel
theorem dX1_becomeSwept_95 : decode cX1_becomeSwept 95 = .ok (.goto 27, 3) := by decide +kernel
theorem dX1_becomeSwept_98 : decode cX1_becomeSwept 98 = .ok (.aload_n 1, 1) := by decide +kernel
theorem dX1_becomeSwept_99 : decode cX1_becomeSwept 99 = .ok (.iload 7, 2) := by decide +kernel
theorem dX1_becomeSwept_101 : decode cX1_becomeSwept 101 = .ok (.iload 8, 2) := by decide +kernel
theorem dX1_becomeSwept_103 : decode cX1_becomeSwept 103 = .ok (.invokevirtual 19, 3) := by decide +kernel
theorem dX1_becomeSwept_106 : decode cX1_becomeSwept 106 = .ok (.iload_n 3, 1) := by decide +kernel
theorem dX1_becomeSwept_107 : decode cX1_becomeSwept 107 = .ok (.ishr, 1) := by decide +kernel
theorem dX1_becomeSwept_108 : decode cX1_becomeSwept 108 = .ok (.iconst 1, 1) := by decide +kernel
theorem dX1_becomeSwept_109 : decode cX1_becomeSwept 109 = .ok (.iand, 1) := by decide +kernel
theorem dX1_becomeSwept_110 : decode cX1_becomeSwept 110 = .ok (.iconst 1, 1) := by decide +kernel
theorem dX1_becomeSwept_111 : decode cX1_becomeSwept 111 = .ok (.if_icmp .ne 8, 3) := by decide +kernel
theorem dX1_becomeSwept_114 : decode cX1_becomeSwept 114 = .ok (.iload 6, 2) := by decide +kernel
theorem dX1_becomeSwept_116 : decode cX1_becomeSwept 116 = .ok (.goto 4, 3) := by decide +kernel
theorem dX1_becomeSwept_119 : decode cX1_becomeSwept 119 = .ok (.iconst 0, 1) := by decide +kernel
theorem dX1_becomeSwept_120 : decode cX1_becomeSwept 120 = .ok (.istore 9, 2) := by decide +kernel
theorem dX1_becomeSwept_122 : decode cX1_becomeSwept 122 = .ok (.aload_n 0, 1) := by decide +kernel
theorem dX1_becomeSwept_123 : decode cX1_becomeSwept 123 = .ok (.getfield 9, 3) := by decide +kernel
theorem dX1_becomeSwept_126 : decode cX1_becomeSwept 126 = .ok (.iload 7, 2) := by decide +kernel
theorem dX1_becomeSwept_128 : decode cX1_becomeSwept 128 = .ok (.bipush 12, 2) := by decide +kernel
theorem dX1_becomeSwept_130 : decode cX1_becomeSwept 130 = .ok (.imul, 1) := by decide +kernel
theorem dX1_becomeSwept_131 : decode cX1_becomeSwept 131 = .ok (.iload 8, 2) := by decide +kernel
theorem dX1_becomeSwept_133 : decode cX1_becomeSwept 133 = .ok (.iadd, 1) := by decide +kernel
theorem dX1_becomeSwept_134 : decode cX1_becomeSwept 134 = .ok (.iload 9, 2) := by decide +kernel
theorem dX1_becomeSwept_136 : decode cX1_becomeSwept 136 = .ok (.iastore, 1) := by decide +kernel
theorem dX1_becomeSwept_137 : decode cX1_becomeSwept 137 = .ok (.iinc 8 1, 3) := by decide +kernel
theorem dX1_becomeSwept_140 : decode cX1_becomeSwept 140 = .ok (.goto (-118), 3) := by decide +kernel
theorem dX1_becomeSwept_143 : decode cX1_becomeSwept 143 = .ok (.iinc 7 1, 3) := by decide +kernel
theorem dX1_becomeSwept_146 : decode cX1_becomeSwept 146 = .ok (.goto (-134), 3) := by decide +kernel
theorem dX1_becomeSwept_149 : decode cX1_becomeSwept 149 = .ok (.return_, 1) := by decide +kernel
theorem dX1_countCells_0 : decode cX1_countCells 0 = .ok (.iconst 0, 1) := by decide +kernel
theorem dX1_countCells_1 : decode cX1_countCells 1 = .ok (.istore_n 1, 1) := by decide +kernel
theorem dX1_countCells_2 : decode cX1_countCells 2 = .ok (.iconst 0, 1) := by decide +kernel
theorem dX1_countCells_3 : decode cX1_countCells 3 = .ok (.istore_n 2, 1) := by decide +kernel
theorem dX1_countCells_4 : decode cX1_countCells 4 = .ok (.iload_n 2, 1) := by decide +kernel
theorem dX1_countCells_5 : decode cX1_countCells 5 = .ok (.sipush 144, 3) := by decide +kernel
theorem dX1_countCells_8 : decode cX1_countCells 8 = .ok (.if_icmp .ge 21, 3) := by decide +kernel
theorem dX1_countCells_11 : decode cX1_countCells 11 = .ok (.iload_n 1, 1) := by decide +kernel
theorem dX1_countCells_12 : decode cX1_countCells 12 = .ok (.aload_n 0, 1) := by decide +kernel
theorem dX1_countCells_13 : decode cX1_countCells 13 = .ok (.getfield 9, 3) := by decide +kernel
theorem dX1_countCells_16 : decode cX1_countCells 16 = .ok (.iload_n 2, 1) := by decide +kernel
theorem dX1_countCells_17 : decode cX1_countCells 17 = .ok (.iaload, 1) := by decide +kernel
theorem dX1_countCells_18 : decode cX1_countCells 18 = .ok (.invokestatic 40, 3) := by decide +kernel
theorem dX1_countCells_21 : decode cX1_countCells 21 = .ok (.iadd, 1) := by decide +kernel
theorem dX1_countCells_22 : decode cX1_countCells 22 = .ok (.istore_n 1, 1) := by decide +kernel
theorem dX1_countCells_23 : decode cX1_countCells 23 = .ok (.iinc 2 1, 3) := by decide +kernel
theorem dX1_countCells_26 : decode cX1_countCells 26 = .ok (.goto (-22), 3) := by decide +kernel
theorem dX1_countCells_29 : decode cX1_countCells 29 = .ok (.iload_n 1, 1) := by decide +kernel
theorem dX1_countCells_30 : decode cX1_countCells 30 = .ok (.ireturn, 1) := by decide +kernel
theorem dX1_countLayer_0 : decode cX1_countLayer 0 = .ok (.iconst 0, 1) := by decide +kernel
theorem dX1_countLayer_1 : decode cX1_countLayer 1 = .ok (.istore_n 3, 1) := by decide +kernel
theorem dX1_countLayer_2 : decode cX1_countLayer 2 = .ok (.iconst 0, 1) := by decide +kernel
theorem dX1_countLayer_3 : decode cX1_countLayer 3 = .ok (.istore 4, 2) := by decide +kernel
theorem dX1_countLayer_5 : decode cX1_countLayer 5 = .ok (.iload 4, 2) := by decide +kernel
theorem dX1_countLayer_7 : decode cX1_countLayer 7 = .ok (.bipush 12, 2) := by decide +kernel
theorem dX1_countLayer_9 : decode cX1_countLayer 9 = .ok (.if_icmp .ge 64, 3) := by decide +kernel
theorem dX1_countLayer_12 : decode cX1_countLayer 12 = .ok (.iload_n 1, 1) := by decide +kernel
theorem dX1_countLayer_13 : decode cX1_countLayer 13 = .ok (.ifCond .ne 19, 3) := by decide +kernel
theorem dX1_countLayer_16 : decode cX1_countLayer 16 = .ok (.iload_n 3, 1) := by decide +kernel
theorem dX1_countLayer_17 : decode cX1_countLayer 17 = .ok (.aload_n 0, 1) := by decide +kernel
theorem dX1_countLayer_18 : decode cX1_countLayer 18 = .ok (.iload_n 2, 1) := by decide +kernel
theorem dX1_countLayer_19 : decode cX1_countLayer 19 = .ok (.iload 4, 2) := by decide +kernel
theorem dX1_countLayer_21 : decode cX1_countLayer 21 = .ok (.invokevirtual 19, 3) := by decide +kernel
theorem dX1_countLayer_24 : decode cX1_countLayer 24 = .ok (.invokestatic 40, 3) := by decide +kernel
theorem dX1_countLayer_27 : decode cX1_countLayer 27 = .ok (.iadd, 1) := by decide +kernel
theorem dX1_countLayer_28 : decode cX1_countLayer 28 = .ok (.istore_n 3, 1) := by decide +kernel
theorem dX1_countLayer_29 : decode cX1_countLayer 29 = .ok (.goto 38, 3) := by decide +kernel
theorem dX1_countLayer_32 : decode cX1_countLayer 32 = .ok (.iload_n 1, 1) := by decide +kernel
theorem dX1_countLayer_33 : decode cX1_countLayer 33 = .ok (.iconst 1, 1) := by decide +kernel
theorem dX1_countLayer_34 : decode cX1_countLayer 34 = .ok (.if_icmp .ne 19, 3) := by decide +kernel
theorem dX1_countLayer_37 : decode cX1_countLayer 37 = .ok (.iload_n 3, 1) := by decide +kernel
theorem dX1_countLayer_38 : decode cX1_countLayer 38 = .ok (.aload_n 0, 1) := by decide +kernel
theorem dX1_countLayer_39 : decode cX1_countLayer 39 = .ok (.iload 4, 2) := by decide +kernel
theorem dX1_countLayer_41 : decode cX1_countLayer 41 = .ok (.iload_n 2, 1) := by decide +kernel
theorem dX1_countLayer_42 : decode cX1_countLayer 42 = .ok (.invokevirtual 19, 3) := by decide +kernel
theorem dX1_countLayer_45 : decode cX1_countLayer 45 = .ok (.invokestatic 40, 3) := by decide +kernel
theorem dX1_countLayer_48 : decode cX1_countLayer 48 = .ok (.iadd, 1) := by decide +kernel
theorem dX1_countLayer_49 : decode cX1_countLayer 49 = .ok (.istore_n 3, 1) := by decide +kernel
theorem dX1_countLayer_50 : decode cX1_countLayer 50 = .ok (.goto 17, 3) := by decide +kernel
theorem dX1_countLayer_53 : decode cX1_countLayer 53 = .ok (.iload_n 3, 1) := by decide +kernel
theorem dX1_countLayer_54 : decode cX1_countLayer 54 = .ok (.aload_n 0, 1) := by decide +kernel
theorem dX1_countLayer_55 : decode cX1_countLayer 55 = .ok (.iconst 0, 1) := by decide +kernel
theorem dX1_countLayer_56 : decode cX1_countLayer 56 = .ok (.iload 4, 2) := by decide +kernel
theorem dX1_countLayer_58 : decode cX1_countLayer 58 = .ok (.iload_n 2, 1) := by decide +kernel
theorem dX1_countLayer_59 : decode cX1_countLayer 59 = .ok (.invokevirtual 23, 3) := by decide +kernel
theorem dX1_countLayer_62 : decode cX1_countLayer 62 = .ok (.invokestatic 40, 3) := by decide +kernel
theorem dX1_countLayer_65 : decode cX1_countLayer 65 = .ok (.iadd, 1) := by decide +kernel
theorem dX1_countLayer_66 : decode cX1_countLayer 66 = .ok (.istore_n 3, 1) := by decide +kernel
theorem dX1_countLayer_67 : decode cX1_countLayer 67 = .ok (.iinc 4 1, 3) := by decide +kernel
theorem dX1_countLayer_70 : decode cX1_countLayer 70 = .ok (.goto (-65), 3) := by decide +kernel
theorem dX1_countLayer_73 : decode cX1_countLayer 73 = .ok (.iload_n 3, 1) := by decide +kernel
theorem dX1_countLayer_74 : decode cX1_countLayer 74 = .ok (.ireturn, 1) := by decide +kernel
theorem dX1_leastAlong_0 : decode cX1_leastAlong 0 = .ok (.iconst 0, 1) := by decide +kernel
theorem dX1_leastAlong_1 : decode cX1_leastAlong 1 = .ok (.istore_n 2, 1) := by decide +kernel
theorem dX1_leastAlong_2 : decode cX1_leastAlong 2 = .ok (.iload_n 2, 1) := by decide +kernel
theorem dX1_leastAlong_3 : decode cX1_leastAlong 3 = .ok (.bipush 12, 2) := by decide +kernel
theorem dX1_leastAlong_5 : decode cX1_leastAlong 5 = .ok (.if_icmp .ge 20, 3) := by decide +kernel
theorem dX1_leastAlong_8 : decode cX1_leastAlong 8 = .ok (.aload_n 0, 1) := by decide +kernel
theorem dX1_leastAlong_9 : decode cX1_leastAlong 9 = .ok (.iload_n 1, 1) := by decide +kernel
theorem dX1_leastAlong_10 : decode cX1_leastAlong 10 = .ok (.iload_n 2, 1) := by decide +kernel
theorem dX1_leastAlong_11 : decode cX1_leastAlong 11 = .ok (.invokevirtual 46, 3) := by decide +kernel
theorem dX1_leastAlong_14 : decode cX1_leastAlong 14 = .ok (.ifCond .le 5, 3) := by decide +kernel
theorem dX1_leastAlong_17 : decode cX1_leastAlong 17 = .ok (.iload_n 2, 1) := by decide +kernel
theorem dX1_leastAlong_18 : decode cX1_leastAlong 18 = .ok (.ireturn, 1) := by decide +kernel
theorem dX1_leastAlong_19 : decode cX1_leastAlong 19 = .ok (.iinc 2 1, 3) := by decide +kernel
theorem dX1_leastAlong_22 : decode cX1_leastAlong 22 = .ok (.goto (-20), 3) := by decide +kernel
theorem dX1_leastAlong_25 : decode cX1_leastAlong 25 = .ok (.bipush 12, 2) := by decide +kernel
theorem dX1_leastAlong_27 : decode cX1_leastAlong 27 = .ok (.ireturn, 1) := by decide +kernel
theorem dX1_greatestAlong_0 : decode cX1_greatestAlong 0 = .ok (.bipush 11, 2) := by decide +kernel
theorem dX1_greatestAlong_2 : decode cX1_greatestAlong 2 = .ok (.istore_n 2, 1) := by decide +kernel
theorem dX1_greatestAlong_3 : decode cX1_greatestAlong 3 = .ok (.iload_n 2, 1) := by decide +kernel
theorem dX1_greatestAlong_4 : decode cX1_greatestAlong 4 = .ok (.ifCond .lt 20, 3) := by decide +kernel
theorem dX1_greatestAlong_7 : decode cX1_greatestAlong 7 = .ok (.aload_n 0, 1) := by decide +kernel
theorem dX1_greatestAlong_8 : decode cX1_greatestAlong 8 = .ok (.iload_n 1, 1) := by decide +kernel
theorem dX1_greatestAlong_9 : decode cX1_greatestAlong 9 = .ok (.iload_n 2, 1) := by decide +kernel
theorem dX1_greatestAlong_10 : decode cX1_greatestAlong 10 = .ok (.invokevirtual 46, 3) := by decide +kernel
theorem dX1_greatestAlong_13 : decode cX1_greatestAlong 13 = .ok (.ifCond .le 5, 3) := by decide +kernel
theorem dX1_greatestAlong_16 : decode cX1_greatestAlong 16 = .ok (.iload_n 2, 1) := by decide +kernel
theorem dX1_greatestAlong_17 : decode cX1_greatestAlong 17 = .ok (.ireturn, 1) := by decide +kernel
theorem dX1_greatestAlong_18 : decode cX1_greatestAlong 18 = .ok (.iinc 2 (-1), 3) := by decide +kernel
theorem dX1_greatestAlong_21 : decode cX1_greatestAlong 21 = .ok (.goto (-18), 3) := by decide +kernel
theorem dX1_greatestAlong_24 : decode cX1_greatestAlong 24 = .ok (.bipush 12, 2) := by decide +kernel
theorem dX1_greatestAlong_26 : decode cX1_greatestAlong 26 = .ok (.ireturn, 1) := by decide +kernel
theorem dX1_countSides_0 : decode cX1_countSides 0 = .ok (.iconst 0, 1) := by decide +kernel
theorem dX1_countSides_1 : decode cX1_countSides 1 = .ok (.istore_n 1, 1) := by decide +kernel
theorem dX1_countSides_2 : decode cX1_countSides 2 = .ok (.iconst 0, 1) := by decide +kernel
theorem dX1_countSides_3 : decode cX1_countSides 3 = .ok (.istore_n 2, 1) := by decide +kernel
theorem dX1_countSides_4 : decode cX1_countSides 4 = .ok (.iload_n 2, 1) := by decide +kernel
theorem dX1_countSides_5 : decode cX1_countSides 5 = .ok (.bipush 12, 2) := by decide +kernel
theorem dX1_countSides_7 : decode cX1_countSides 7 = .ok (.if_icmp .gt 78, 3) := by decide +kernel
theorem dX1_countSides_10 : decode cX1_countSides 10 = .ok (.iconst 0, 1) := by decide +kernel
theorem dX1_countSides_11 : decode cX1_countSides 11 = .ok (.istore_n 3, 1) := by decide +kernel
theorem dX1_countSides_12 : decode cX1_countSides 12 = .ok (.iload_n 3, 1) := by decide +kernel
theorem dX1_countSides_13 : decode cX1_countSides 13 = .ok (.bipush 12, 2) := by decide +kernel
theorem dX1_countSides_15 : decode cX1_countSides 15 = .ok (.if_icmp .gt 64, 3) := by decide +kernel
theorem dX1_countSides_18 : decode cX1_countSides 18 = .ok (.aload_n 0, 1) := by decide +kernel
theorem dX1_countSides_19 : decode cX1_countSides 19 = .ok (.iload_n 2, 1) := by decide +kernel
theorem dX1_countSides_20 : decode cX1_countSides 20 = .ok (.iload_n 3, 1) := by decide +kernel
theorem dX1_countSides_21 : decode cX1_countSides 21 = .ok (.invokevirtual 19, 3) := by decide +kernel
theorem dX1_countSides_24 : decode cX1_countSides 24 = .ok (.istore 4, 2) := by decide +kernel
theorem dX1_countSides_26 : decode cX1_countSides 26 = .ok (.iload_n 1, 1) := by decide +kernel
theorem dX1_countSides_27 : decode cX1_countSides 27 = .ok (.iload 4, 2) := by decide +kernel
theorem dX1_countSides_29 : decode cX1_countSides 29 = .ok (.aload_n 0, 1) := by decide +kernel
theorem dX1_countSides_30 : decode cX1_countSides 30 = .ok (.iload_n 2, 1) := by decide +kernel
theorem dX1_countSides_31 : decode cX1_countSides 31 = .ok (.iconst 1, 1) := by decide +kernel
theorem dX1_countSides_32 : decode cX1_countSides 32 = .ok (.isub, 1) := by decide +kernel
theorem dX1_countSides_33 : decode cX1_countSides 33 = .ok (.iload_n 3, 1) := by decide +kernel
theorem dX1_countSides_34 : decode cX1_countSides 34 = .ok (.invokevirtual 19, 3) := by decide +kernel
theorem dX1_countSides_37 : decode cX1_countSides 37 = .ok (.ixor, 1) := by decide +kernel
theorem dX1_countSides_38 : decode cX1_countSides 38 = .ok (.invokestatic 40, 3) := by decide +kernel
theorem dX1_countSides_41 : decode cX1_countSides 41 = .ok (.iadd, 1) := by decide +kernel
theorem dX1_countSides_42 : decode cX1_countSides 42 = .ok (.istore_n 1, 1) := by decide +kernel
theorem dX1_countSides_43 : decode cX1_countSides 43 = .ok (.iload_n 1, 1) := by decide +kernel
theorem dX1_countSides_44 : decode cX1_countSides 44 = .ok (.iload 4, 2) := by decide +kernel
theorem dX1_countSides_46 : decode cX1_countSides 46 = .ok (.aload_n 0, 1) := by decide +kernel
theorem dX1_countSides_47 : decode cX1_countSides 47 = .ok (.iload_n 2, 1) := by decide +kernel
theorem dX1_countSides_48 : decode cX1_countSides 48 = .ok (.iload_n 3, 1) := by decide +kernel
theorem dX1_countSides_49 : decode cX1_countSides 49 = .ok (.iconst 1, 1) := by decide +kernel
theorem dX1_countSides_50 : decode cX1_countSides 50 = .ok (.isub, 1) := by decide +kernel
theorem dX1_countSides_51 : decode cX1_countSides 51 = .ok (.invokevirtual 19, 3) := by decide +kernel
theorem dX1_countSides_54 : decode cX1_countSides 54 = .ok (.ixor, 1) := by decide +kernel
theorem dX1_countSides_55 : decode cX1_countSides 55 = .ok (.invokestatic 40, 3) := by decide +kernel
theorem dX1_countSides_58 : decode cX1_countSides 58 = .ok (.iadd, 1) := by decide +kernel
theorem dX1_countSides_59 : decode cX1_countSides 59 = .ok (.istore_n 1, 1) := by decide +kernel
theorem dX1_countSides_60 : decode cX1_countSides 60 = .ok (.iload_n 1, 1) := by decide +kernel
theorem dX1_countSides_61 : decode cX1_countSides 61 = .ok (.iload 4, 2) := by decide +kernel
theorem dX1_countSides_63 : decode cX1_countSides 63 = .ok (.iload 4, 2) := by decide +kernel
theorem dX1_countSides_65 : decode cX1_countSides 65 = .ok (.iconst 1, 1) := by decide +kernel
theorem dX1_countSides_66 : decode cX1_countSides 66 = .ok (.ishl, 1) := by decide +kernel
theorem dX1_countSides_67 : decode cX1_countSides 67 = .ok (.ixor, 1) := by decide +kernel
theorem dX1_countSides_68 : decode cX1_countSides 68 = .ok (.invokestatic 40, 3) := by decide +kernel
theorem dX1_countSides_71 : decode cX1_countSides 71 = .ok (.iadd, 1) := by decide +kernel
theorem dX1_countSides_72 : decode cX1_countSides 72 = .ok (.istore_n 1, 1) := by decide +kernel
theorem dX1_countSides_73 : decode cX1_countSides 73 = .ok (.iinc 3 1, 3) := by decide +kernel
theorem dX1_countSides_76 : decode cX1_countSides 76 = .ok (.goto (-64), 3) := by decide +kernel
theorem dX1_countSides_79 : decode cX1_countSides 79 = .ok (.iinc 2 1, 3) := by decide +kernel
theorem dX1_countSides_82 : decode cX1_countSides 82 = .ok (.goto (-78), 3) := by decide +kernel
theorem dX1_countSides_85 : decode cX1_countSides 85 = .ok (.iload_n 1, 1) := by decide +kernel
theorem dX1_countSides_86 : decode cX1_countSides 86 = .ok (.ireturn, 1) := by decide +kernel
theorem dX1_countEdges_0 : decode cX1_countEdges 0 = .ok (.iconst 0, 1) := by decide +kernel
theorem dX1_countEdges_1 : decode cX1_countEdges 1 = .ok (.istore_n 1, 1) := by decide +kernel
theorem dX1_countEdges_2 : decode cX1_countEdges 2 = .ok (.iconst 0, 1) := by decide +kernel
theorem dX1_countEdges_3 : decode cX1_countEdges 3 = .ok (.istore_n 2, 1) := by decide +kernel
theorem dX1_countEdges_4 : decode cX1_countEdges 4 = .ok (.iload_n 2, 1) := by decide +kernel
theorem dX1_countEdges_5 : decode cX1_countEdges 5 = .ok (.bipush 12, 2) := by decide +kernel
theorem dX1_countEdges_7 : decode cX1_countEdges 7 = .ok (.if_icmp .gt 106, 3) := by decide +kernel
theorem dX1_countEdges_10 : decode cX1_countEdges 10 = .ok (.iconst 0, 1) := by decide +kernel
theorem dX1_countEdges_11 : decode cX1_countEdges 11 = .ok (.istore_n 3, 1) := by decide +kernel
theorem dX1_countEdges_12 : decode cX1_countEdges 12 = .ok (.iload_n 3, 1) := by decide +kernel
theorem dX1_countEdges_13 : decode cX1_countEdges 13 = .ok (.bipush 12, 2) := by decide +kernel
theorem dX1_countEdges_15 : decode cX1_countEdges 15 = .ok (.if_icmp .gt 92, 3) := by decide +kernel
theorem dX1_countEdges_18 : decode cX1_countEdges 18 = .ok (.aload_n 0, 1) := by decide +kernel
theorem dX1_countEdges_19 : decode cX1_countEdges 19 = .ok (.iload_n 2, 1) := by decide +kernel
theorem dX1_countEdges_20 : decode cX1_countEdges 20 = .ok (.iload_n 3, 1) := by decide +kernel
theorem dX1_countEdges_21 : decode cX1_countEdges 21 = .ok (.invokevirtual 19, 3) := by decide +kernel
theorem dX1_countEdges_24 : decode cX1_countEdges 24 = .ok (.istore 4, 2) := by decide +kernel
theorem dX1_countEdges_26 : decode cX1_countEdges 26 = .ok (.aload_n 0, 1) := by decide +kernel
theorem dX1_countEdges_27 : decode cX1_countEdges 27 = .ok (.iload_n 2, 1) := by decide +kernel
theorem dX1_countEdges_28 : decode cX1_countEdges 28 = .ok (.iconst 1, 1) := by decide +kernel
theorem dX1_countEdges_29 : decode cX1_countEdges 29 = .ok (.isub, 1) := by decide +kernel
theorem dX1_countEdges_30 : decode cX1_countEdges 30 = .ok (.iload_n 3, 1) := by decide +kernel
theorem dX1_countEdges_31 : decode cX1_countEdges 31 = .ok (.invokevirtual 19, 3) := by decide +kernel
theorem dX1_countEdges_34 : decode cX1_countEdges 34 = .ok (.istore 5, 2) := by decide +kernel
theorem dX1_countEdges_36 : decode cX1_countEdges 36 = .ok (.aload_n 0, 1) := by decide +kernel
theorem dX1_countEdges_37 : decode cX1_countEdges 37 = .ok (.iload_n 2, 1) := by decide +kernel
theorem dX1_countEdges_38 : decode cX1_countEdges 38 = .ok (.iload_n 3, 1) := by decide +kernel
theorem dX1_countEdges_39 : decode cX1_countEdges 39 = .ok (.iconst 1, 1) := by decide +kernel
theorem dX1_countEdges_40 : decode cX1_countEdges 40 = .ok (.isub, 1) := by decide +kernel
theorem dX1_countEdges_41 : decode cX1_countEdges 41 = .ok (.invokevirtual 19, 3) := by decide +kernel
theorem dX1_countEdges_44 : decode cX1_countEdges 44 = .ok (.istore 6, 2) := by decide +kernel
theorem dX1_countEdges_46 : decode cX1_countEdges 46 = .ok (.aload_n 0, 1) := by decide +kernel
theorem dX1_countEdges_47 : decode cX1_countEdges 47 = .ok (.iload_n 2, 1) := by decide +kernel
theorem dX1_countEdges_48 : decode cX1_countEdges 48 = .ok (.iconst 1, 1) := by decide +kernel
theorem dX1_countEdges_49 : decode cX1_countEdges 49 = .ok (.isub, 1) := by decide +kernel
theorem dX1_countEdges_50 : decode cX1_countEdges 50 = .ok (.iload_n 3, 1) := by decide +kernel
theorem dX1_countEdges_51 : decode cX1_countEdges 51 = .ok (.iconst 1, 1) := by decide +kernel
theorem dX1_countEdges_52 : decode cX1_countEdges 52 = .ok (.isub, 1) := by decide +kernel
theorem dX1_countEdges_53 : decode cX1_countEdges 53 = .ok (.invokevirtual 19, 3) := by decide +kernel
theorem dX1_countEdges_56 : decode cX1_countEdges 56 = .ok (.istore 7, 2) := by decide +kernel
theorem dX1_countEdges_58 : decode cX1_countEdges 58 = .ok (.iload_n 1, 1) := by decide +kernel
theorem dX1_countEdges_59 : decode cX1_countEdges 59 = .ok (.iload 5, 2) := by decide +kernel
theorem dX1_countEdges_61 : decode cX1_countEdges 61 = .ok (.iload 4, 2) := by decide +kernel
theorem dX1_countEdges_63 : decode cX1_countEdges 63 = .ok (.invokestatic 49, 3) := by decide +kernel
theorem dX1_countEdges_66 : decode cX1_countEdges 66 = .ok (.invokestatic 40, 3) := by decide +kernel
theorem dX1_countEdges_69 : decode cX1_countEdges 69 = .ok (.iadd, 1) := by decide +kernel
theorem dX1_countEdges_70 : decode cX1_countEdges 70 = .ok (.istore_n 1, 1) := by decide +kernel
theorem dX1_countEdges_71 : decode cX1_countEdges 71 = .ok (.iload_n 1, 1) := by decide +kernel
theorem dX1_countEdges_72 : decode cX1_countEdges 72 = .ok (.iload 6, 2) := by decide +kernel
theorem dX1_countEdges_74 : decode cX1_countEdges 74 = .ok (.iload 4, 2) := by decide +kernel
theorem dX1_countEdges_76 : decode cX1_countEdges 76 = .ok (.invokestatic 49, 3) := by decide +kernel
theorem dX1_countEdges_79 : decode cX1_countEdges 79 = .ok (.invokestatic 40, 3) := by decide +kernel
theorem dX1_countEdges_82 : decode cX1_countEdges 82 = .ok (.iadd, 1) := by decide +kernel
theorem dX1_countEdges_83 : decode cX1_countEdges 83 = .ok (.istore_n 1, 1) := by decide +kernel
theorem dX1_countEdges_84 : decode cX1_countEdges 84 = .ok (.iload_n 1, 1) := by decide +kernel
theorem dX1_countEdges_85 : decode cX1_countEdges 85 = .ok (.iload 7, 2) := by decide +kernel
theorem dX1_countEdges_87 : decode cX1_countEdges 87 = .ok (.iload 6, 2) := by decide +kernel
theorem dX1_countEdges_89 : decode cX1_countEdges 89 = .ok (.iload 5, 2) := by decide +kernel
theorem dX1_countEdges_91 : decode cX1_countEdges 91 = .ok (.iload 4, 2) := by decide +kernel
theorem dX1_countEdges_93 : decode cX1_countEdges 93 = .ok (.invokestatic 52, 3) := by decide +kernel
theorem dX1_countEdges_96 : decode cX1_countEdges 96 = .ok (.invokestatic 40, 3) := by decide +kernel
theorem dX1_countEdges_99 : decode cX1_countEdges 99 = .ok (.iadd, 1) := by decide +kernel
theorem dX1_countEdges_100 : decode cX1_countEdges 100 = .ok (.istore_n 1, 1) := by decide +kernel
theorem dX1_countEdges_101 : decode cX1_countEdges 101 = .ok (.iinc 3 1, 3) := by decide +kernel
theorem dX1_countEdges_104 : decode cX1_countEdges 104 = .ok (.goto (-92), 3) := by decide +kernel
theorem dX1_countEdges_107 : decode cX1_countEdges 107 = .ok (.iinc 2 1, 3) := by decide +kernel
theorem dX1_countEdges_110 : decode cX1_countEdges 110 = .ok (.goto (-106), 3) := by decide +kernel
theorem dX1_countEdges_113 : decode cX1_countEdges 113 = .ok (.iload_n 1, 1) := by decide +kernel
theorem dX1_countEdges_114 : decode cX1_countEdges 114 = .ok (.ireturn, 1) := by decide +kernel
theorem dX1_countAround_0 : decode cX1_countAround 0 = .ok (.aload_n 0, 1) := by decide +kernel
theorem dX1_countAround_1 : decode cX1_countAround 1 = .ok (.iload_n 1, 1) := by decide +kernel
theorem dX1_countAround_2 : decode cX1_countAround 2 = .ok (.iconst 1, 1) := by decide +kernel
theorem dX1_countAround_3 : decode cX1_countAround 3 = .ok (.isub, 1) := by decide +kernel
theorem dX1_countAround_4 : decode cX1_countAround 4 = .ok (.iload_n 2, 1) := by decide +kernel
theorem dX1_countAround_5 : decode cX1_countAround 5 = .ok (.iconst 1, 1) := by decide +kernel
theorem dX1_countAround_6 : decode cX1_countAround 6 = .ok (.isub, 1) := by decide +kernel
theorem dX1_countAround_7 : decode cX1_countAround 7 = .ok (.iload_n 3, 1) := by decide +kernel
theorem dX1_countAround_8 : decode cX1_countAround 8 = .ok (.invokevirtual 56, 3) := by decide +kernel
theorem dX1_countAround_11 : decode cX1_countAround 11 = .ok (.aload_n 0, 1) := by decide +kernel
theorem dX1_countAround_12 : decode cX1_countAround 12 = .ok (.iload_n 1, 1) := by decide +kernel
theorem dX1_countAround_13 : decode cX1_countAround 13 = .ok (.iconst 1, 1) := by decide +kernel
theorem dX1_countAround_14 : decode cX1_countAround 14 = .ok (.isub, 1) := by decide +kernel
theorem dX1_countAround_15 : decode cX1_countAround 15 = .ok (.iload_n 2, 1) := by decide +kernel
theorem dX1_countAround_16 : decode cX1_countAround 16 = .ok (.iload_n 3, 1) := by decide +kernel
theorem dX1_countAround_17 : decode cX1_countAround 17 = .ok (.invokevirtual 56, 3) := by decide +kernel
theorem dX1_countAround_20 : decode cX1_countAround 20 = .ok (.iadd, 1) := by decide +kernel
theorem dX1_countAround_21 : decode cX1_countAround 21 = .ok (.aload_n 0, 1) := by decide +kernel
theorem dX1_countAround_22 : decode cX1_countAround 22 = .ok (.iload_n 1, 1) := by decide +kernel
theorem dX1_countAround_23 : decode cX1_countAround 23 = .ok (.iload_n 2, 1) := by decide +kernel
theorem dX1_countAround_24 : decode cX1_countAround 24 = .ok (.iconst 1, 1) := by decide +kernel
theorem dX1_countAround_25 : decode cX1_countAround 25 = .ok (.isub, 1) := by decide +kernel
theorem dX1_countAround_26 : decode cX1_countAround 26 = .ok (.iload_n 3, 1) := by decide +kernel
theorem dX1_countAround_27 : decode cX1_countAround 27 = .ok (.invokevirtual 56, 3) := by decide +kernel
theorem dX1_countAround_30 : decode cX1_countAround 30 = .ok (.iadd, 1) := by decide +kernel
theorem dX1_countAround_31 : decode cX1_countAround 31 = .ok (.aload_n 0, 1) := by decide +kernel
theorem dX1_countAround_32 : decode cX1_countAround 32 = .ok (.iload_n 1, 1) := by decide +kernel
theorem dX1_countAround_33 : decode cX1_countAround 33 = .ok (.iload_n 2, 1) := by decide +kernel
theorem dX1_countAround_34 : decode cX1_countAround 34 = .ok (.iload_n 3, 1) := by decide +kernel
theorem dX1_countAround_35 : decode cX1_countAround 35 = .ok (.invokevirtual 56, 3) := by decide +kernel
theorem dX1_countAround_38 : decode cX1_countAround 38 = .ok (.iadd, 1) := by decide +kernel
theorem dX1_countAround_39 : decode cX1_countAround 39 = .ok (.ireturn, 1) := by decide +kernel
theorem dX1_hasCellsOf_0 : decode cX1_hasCellsOf 0 = .ok (.iconst 0, 1) := by decide +kernel
theorem dX1_hasCellsOf_1 : decode cX1_hasCellsOf 1 = .ok (.istore_n 2, 1) := by decide +kernel
theorem dX1_hasCellsOf_2 : decode cX1_hasCellsOf 2 = .ok (.iload_n 2, 1) := by decide +kernel
theorem dX1_hasCellsOf_3 : decode cX1_hasCellsOf 3 = .ok (.sipush 144, 3) := by decide +kernel
theorem dX1_hasCellsOf_6 : decode cX1_hasCellsOf 6 = .ok (.if_icmp .ge 26, 3) := by decide +kernel
theorem dX1_hasCellsOf_9 : decode cX1_hasCellsOf 9 = .ok (.aload_n 0, 1) := by decide +kernel
theorem dX1_hasCellsOf_10 : decode cX1_hasCellsOf 10 = .ok (.getfield 9, 3) := by decide +kernel
theorem dX1_hasCellsOf_13 : decode cX1_hasCellsOf 13 = .ok (.iload_n 2, 1) := by decide +kernel
theorem dX1_hasCellsOf_14 : decode cX1_hasCellsOf 14 = .ok (.iaload, 1) := by decide +kernel
theorem dX1_hasCellsOf_15 : decode cX1_hasCellsOf 15 = .ok (.aload_n 1, 1) := by decide +kernel
theorem dX1_hasCellsOf_16 : decode cX1_hasCellsOf 16 = .ok (.getfield 9, 3) := by decide +kernel
theorem dX1_hasCellsOf_19 : decode cX1_hasCellsOf 19 = .ok (.iload_n 2, 1) := by decide +kernel
theorem dX1_hasCellsOf_20 : decode cX1_hasCellsOf 20 = .ok (.iaload, 1) := by decide +kernel
theorem dX1_hasCellsOf_21 : decode cX1_hasCellsOf 21 = .ok (.if_icmp .eq 5, 3) := by decide +kernel
theorem dX1_hasCellsOf_24 : decode cX1_hasCellsOf 24 = .ok (.iconst 0, 1) := by decide +kernel
theorem dX1_hasCellsOf_25 : decode cX1_hasCellsOf 25 = .ok (.ireturn, 1) := by decide +kernel
theorem dX1_hasCellsOf_26 : decode cX1_hasCellsOf 26 = .ok (.iinc 2 1, 3) := by decide +kernel
theorem dX1_hasCellsOf_29 : decode cX1_hasCellsOf 29 = .ok (.goto (-27), 3) := by decide +kernel
theorem dX1_hasCellsOf_32 : decode cX1_hasCellsOf 32 = .ok (.iconst 1, 1) := by decide +kernel
theorem dX1_hasCellsOf_33 : decode cX1_hasCellsOf 33 = .ok (.ireturn, 1) := by decide +kernel
theorem dX1_countPair_0 : decode cX1_countPair 0 = .ok (.aload_n 0, 1) := by decide +kernel
theorem dX1_countPair_1 : decode cX1_countPair 1 = .ok (.iload_n 1, 1) := by decide +kernel
theorem dX1_countPair_2 : decode cX1_countPair 2 = .ok (.iload_n 2, 1) := by decide +kernel
theorem dX1_countPair_3 : decode cX1_countPair 3 = .ok (.invokevirtual 19, 3) := by decide +kernel
theorem dX1_countPair_6 : decode cX1_countPair 6 = .ok (.iconst 1, 1) := by decide +kernel
theorem dX1_countPair_7 : decode cX1_countPair 7 = .ok (.ishl, 1) := by decide +kernel
theorem dX1_countPair_8 : decode cX1_countPair 8 = .ok (.iload_n 3, 1) := by decide +kernel
theorem dX1_countPair_9 : decode cX1_countPair 9 = .ok (.ishr, 1) := by decide +kernel
theorem dX1_countPair_10 : decode cX1_countPair 10 = .ok (.iconst 3, 1) := by decide +kernel
theorem dX1_countPair_11 : decode cX1_countPair 11 = .ok (.iand, 1) := by decide +kernel
theorem dX1_countPair_12 : decode cX1_countPair 12 = .ok (.invokestatic 40, 3) := by decide +kernel
theorem dX1_countPair_15 : decode cX1_countPair 15 = .ok (.ireturn, 1) := by decide +kernel
theorem dX1_spanOf_0 : decode cX1_spanOf 0 = .ok (.iconst 1, 1) := by decide +kernel
theorem dX1_spanOf_1 : decode cX1_spanOf 1 = .ok (.iload_n 1, 1) := by decide +kernel
theorem dX1_spanOf_2 : decode cX1_spanOf 2 = .ok (.iconst 1, 1) := by decide +kernel
theorem dX1_spanOf_3 : decode cX1_spanOf 3 = .ok (.iadd, 1) := by decide +kernel
theorem dX1_spanOf_4 : decode cX1_spanOf 4 = .ok (.ishl, 1) := by decide +kernel
theorem dX1_spanOf_5 : decode cX1_spanOf 5 = .ok (.iconst 1, 1) := by decide +kernel
theorem dX1_spanOf_6 : decode cX1_spanOf 6 = .ok (.iload_n 0, 1) := by decide +kernel
theorem dX1_spanOf_7 : decode cX1_spanOf 7 = .ok (.ishl, 1) := by decide +kernel
theorem dX1_spanOf_8 : decode cX1_spanOf 8 = .ok (.isub, 1) := by decide +kernel
theorem dX1_spanOf_9 : decode cX1_spanOf 9 = .ok (.ireturn, 1) := by decide +kernel
theorem dX1_joined_0 : decode cX1_joined 0 = .ok (.iload_n 2, 1) := by decide +kernel
theorem dX1_joined_1 : decode cX1_joined 1 = .ok (.tableswitch 41 0 2 #[27, 31, 35], 27) := by decide +kernel
theorem dX1_joined_28 : decode cX1_joined 28 = .ok (.iload_n 0, 1) := by decide +kernel
theorem dX1_joined_29 : decode cX1_joined 29 = .ok (.iload_n 1, 1) := by decide +kernel
theorem dX1_joined_30 : decode cX1_joined 30 = .ok (.ior, 1) := by decide +kernel
theorem dX1_joined_31 : decode cX1_joined 31 = .ok (.ireturn, 1) := by decide +kernel
theorem dX1_joined_32 : decode cX1_joined 32 = .ok (.iload_n 0, 1) := by decide +kernel
theorem dX1_joined_33 : decode cX1_joined 33 = .ok (.iload_n 1, 1) := by decide +kernel
theorem dX1_joined_34 : decode cX1_joined 34 = .ok (.iand, 1) := by decide +kernel
theorem dX1_joined_35 : decode cX1_joined 35 = .ok (.ireturn, 1) := by decide +kernel
theorem dX1_joined_36 : decode cX1_joined 36 = .ok (.iload_n 0, 1) := by decide +kernel
theorem dX1_joined_37 : decode cX1_joined 37 = .ok (.iload_n 1, 1) := by decide +kernel
theorem dX1_joined_38 : decode cX1_joined 38 = .ok (.iconst (-1), 1) := by decide +kernel
theorem dX1_joined_39 : decode cX1_joined 39 = .ok (.ixor, 1) := by decide +kernel
theorem dX1_joined_40 : decode cX1_joined 40 = .ok (.iand, 1) := by decide +kernel
theorem dX1_joined_41 : decode cX1_joined 41 = .ok (.ireturn, 1) := by decide +kernel
theorem dX1_joined_42 : decode cX1_joined 42 = .ok (.iload_n 0, 1) := by decide +kernel
theorem dX1_joined_43 : decode cX1_joined 43 = .ok (.iload_n 1, 1) := by decide +kernel
theorem dX1_joined_44 : decode cX1_joined 44 = .ok (.ixor, 1) := by decide +kernel
theorem dX1_joined_45 : decode cX1_joined 45 = .ok (.ireturn, 1) := by decide +kernel
theorem dX1_turnedColumn_0 : decode cX1_turnedColumn 0 = .ok (.iload_n 1, 1) := by decide +kernel
theorem dX1_turnedColumn_1 : decode cX1_turnedColumn 1 = .ok (.ifCond .ne 14, 3) := by decide +kernel
theorem dX1_turnedColumn_4 : decode cX1_turnedColumn 4 = .ok (.aload_n 0, 1) := by decide +kernel
theorem dX1_turnedColumn_5 : decode cX1_turnedColumn 5 = .ok (.iconst 1, 1) := by decide +kernel
theorem dX1_turnedColumn_6 : decode cX1_turnedColumn 6 = .ok (.iload_n 2, 1) := by decide +kernel
theorem dX1_turnedColumn_7 : decode cX1_turnedColumn 7 = .ok (.bipush 11, 2) := by decide +kernel
theorem dX1_turnedColumn_9 : decode cX1_turnedColumn 9 = .ok (.iload_n 3, 1) := by decide +kernel
theorem dX1_turnedColumn_10 : decode cX1_turnedColumn 10 = .ok (.isub, 1) := by decide +kernel
theorem dX1_turnedColumn_11 : decode cX1_turnedColumn 11 = .ok (.invokevirtual 23, 3) := by decide +kernel
theorem dX1_turnedColumn_14 : decode cX1_turnedColumn 14 = .ok (.ireturn, 1) := by decide +kernel
theorem dX1_turnedColumn_15 : decode cX1_turnedColumn 15 = .ok (.iload_n 1, 1) := by decide +kernel
theorem dX1_turnedColumn_16 : decode cX1_turnedColumn 16 = .ok (.iconst 1, 1) := by decide +kernel
theorem dX1_turnedColumn_17 : decode cX1_turnedColumn 17 = .ok (.if_icmp .ne 14, 3) := by decide +kernel
theorem dX1_turnedColumn_20 : decode cX1_turnedColumn 20 = .ok (.aload_n 0, 1) := by decide +kernel
theorem dX1_turnedColumn_21 : decode cX1_turnedColumn 21 = .ok (.iconst 0, 1) := by decide +kernel
theorem dX1_turnedColumn_22 : decode cX1_turnedColumn 22 = .ok (.iload_n 3, 1) := by decide +kernel
theorem dX1_turnedColumn_23 : decode cX1_turnedColumn 23 = .ok (.iload_n 2, 1) := by decide +kernel
theorem dX1_turnedColumn_24 : decode cX1_turnedColumn 24 = .ok (.invokevirtual 23, 3) := by decide +kernel
theorem dX1_turnedColumn_27 : decode cX1_turnedColumn 27 = .ok (.invokestatic 59, 3) := by decide +kernel
theorem dX1_turnedColumn_30 : decode cX1_turnedColumn 30 = .ok (.ireturn, 1) := by decide +kernel
theorem dX1_turnedColumn_31 : decode cX1_turnedColumn 31 = .ok (.aload_n 0, 1) := by decide +kernel
theorem dX1_turnedColumn_32 : decode cX1_turnedColumn 32 = .ok (.iload_n 3, 1) := by decide +kernel
theorem dX1_turnedColumn_33 : decode cX1_turnedColumn 33 = .ok (.bipush 11, 2) := by decide +kernel
theorem dX1_turnedColumn_35 : decode cX1_turnedColumn 35 = .ok (.iload_n 2, 1) := by decide +kernel
theorem dX1_turnedColumn_36 : decode cX1_turnedColumn 36 = .ok (.isub, 1) := by decide +kernel
theorem dX1_turnedColumn_37 : decode cX1_turnedColumn 37 = .ok (.invokevirtual 19, 3) := by decide +kernel
theorem dX1_turnedColumn_40 : decode cX1_turnedColumn 40 = .ok (.ireturn, 1) := by decide +kernel
theorem dX1_mirroredColumn_0 : decode cX1_mirroredColumn 0 = .ok (.iload_n 1, 1) := by decide +kernel
theorem dX1_mirroredColumn_1 : decode cX1_mirroredColumn 1 = .ok (.ifCond .ne 13, 3) := by decide +kernel
theorem dX1_mirroredColumn_4 : decode cX1_mirroredColumn 4 = .ok (.aload_n 0, 1) := by decide +kernel
theorem dX1_mirroredColumn_5 : decode cX1_mirroredColumn 5 = .ok (.bipush 11, 2) := by decide +kernel
theorem dX1_mirroredColumn_7 : decode cX1_mirroredColumn 7 = .ok (.iload_n 2, 1) := by decide +kernel
theorem dX1_mirroredColumn_8 : decode cX1_mirroredColumn 8 = .ok (.isub, 1) := by decide +kernel
theorem dX1_mirroredColumn_9 : decode cX1_mirroredColumn 9 = .ok (.iload_n 3, 1) := by decide +kernel
theorem dX1_mirroredColumn_10 : decode cX1_mirroredColumn 10 = .ok (.invokevirtual 19, 3) := by decide +kernel
theorem dX1_mirroredColumn_13 : decode cX1_mirroredColumn 13 = .ok (.ireturn, 1) := by decide +kernel
theorem dX1_mirroredColumn_14 : decode cX1_mirroredColumn 14 = .ok (.iload_n 1, 1) := by decide +kernel
theorem dX1_mirroredColumn_15 : decode cX1_mirroredColumn 15 = .ok (.iconst 1, 1) := by decide +kernel
theorem dX1_mirroredColumn_16 : decode cX1_mirroredColumn 16 = .ok (.if_icmp .ne 13, 3) := by decide +kernel
theorem dX1_mirroredColumn_19 : decode cX1_mirroredColumn 19 = .ok (.aload_n 0, 1) := by decide +kernel
theorem dX1_mirroredColumn_20 : decode cX1_mirroredColumn 20 = .ok (.iload_n 2, 1) := by decide +kernel
theorem dX1_mirroredColumn_21 : decode cX1_mirroredColumn 21 = .ok (.bipush 11, 2) := by decide +kernel
theorem dX1_mirroredColumn_23 : decode cX1_mirroredColumn 23 = .ok (.iload_n 3, 1) := by decide +kernel
theorem dX1_mirroredColumn_24 : decode cX1_mirroredColumn 24 = .ok (.isub, 1) := by decide +kernel
theorem dX1_mirroredColumn_25 : decode cX1_mirroredColumn 25 = .ok (.invokevirtual 19, 3) := by decide +kernel
theorem dX1_mirroredColumn_28 : decode cX1_mirroredColumn 28 = .ok (.ireturn, 1) := by decide +kernel
theorem dX1_mirroredColumn_29 : decode cX1_mirroredColumn 29 = .ok (.aload_n 0, 1) := by decide +kernel
theorem dX1_mirroredColumn_30 : decode cX1_mirroredColumn 30 = .ok (.iload_n 2, 1) := by decide +kernel
theorem dX1_mirroredColumn_31 : decode cX1_mirroredColumn 31 = .ok (.iload_n 3, 1) := by decide +kernel
theorem dX1_mirroredColumn_32 : decode cX1_mirroredColumn 32 = .ok (.invokevirtual 19, 3) := by decide +kernel
theorem dX1_mirroredColumn_35 : decode cX1_mirroredColumn 35 = .ok (.invokestatic 59, 3) := by decide +kernel
theorem dX1_mirroredColumn_38 : decode cX1_mirroredColumn 38 = .ok (.ireturn, 1) := by decide +kernel
theorem dX1_reversed_0 : decode cX1_reversed 0 = .ok (.iload_n 0, 1) := by decide +kernel
theorem dX1_reversed_1 : decode cX1_reversed 1 = .ok (.invokestatic 62, 3) := by decide +kernel
theorem dX1_reversed_4 : decode cX1_reversed 4 = .ok (.bipush 20, 2) := by decide +kernel
theorem dX1_reversed_6 : decode cX1_reversed 6 = .ok (.iushr, 1) := by decide +kernel
theorem dX1_reversed_7 : decode cX1_reversed 7 = .ok (.ireturn, 1) := by decide +kernel
theorem dX2_init_0 : decode cX2_init 0 = .ok (.aload_n 0, 1) := by decide +kernel
theorem dX2_init_1 : decode cX2_init 1 = .ok (.invokespecial 3, 3) := by decide +kernel
theorem dX2_init_4 : decode cX2_init 4 = .ok (.aload_n 0, 1) := by decide +kernel
theorem dX2_init_5 : decode cX2_init 5 = .ok (.bipush 12, 2) := by decide +kernel
theorem dX2_init_7 : decode cX2_init 7 = .ok (.newarray .int, 2) := by decide +kernel
theorem dX2_init_9 : decode cX2_init 9 = .ok (.putfield 9, 3) := by decide +kernel
theorem dX2_init_12 : decode cX2_init 12 = .ok (.aload_n 0, 1) := by decide +kernel
theorem dX2_init_13 : decode cX2_init 13 = .ok (.bipush 12, 2) := by decide +kernel
theorem dX2_init_15 : decode cX2_init 15 = .ok (.anewarray 15, 3) := by decide +kernel
theorem dX2_init_18 : decode cX2_init 18 = .ok (.putfield 17, 3) := by decide +kernel
theorem dX2_init_21 : decode cX2_init 21 = .ok (.iconst 0, 1) := by decide +kernel
theorem dX2_init_22 : decode cX2_init 22 = .ok (.istore_n 1, 1) := by decide +kernel
theorem dX2_init_23 : decode cX2_init 23 = .ok (.iload_n 1, 1) := by decide +kernel
theorem dX2_init_24 : decode cX2_init 24 = .ok (.bipush 12, 2) := by decide +kernel
theorem dX2_init_26 : decode cX2_init 26 = .ok (.if_icmp .ge 22, 3) := by decide +kernel
theorem dX2_init_29 : decode cX2_init 29 = .ok (.aload_n 0, 1) := by decide +kernel
theorem dX2_init_30 : decode cX2_init 30 = .ok (.getfield 17, 3) := by decide +kernel
theorem dX2_init_33 : decode cX2_init 33 = .ok (.iload_n 1, 1) := by decide +kernel
theorem dX2_init_34 : decode cX2_init 34 = .ok (.new 15, 3) := by decide +kernel
theorem dX2_init_37 : decode cX2_init 37 = .ok (.dup, 1) := by decide +kernel
theorem dX2_init_38 : decode cX2_init 38 = .ok (.invokespecial 21, 3) := by decide +kernel
theorem dX2_init_41 : decode cX2_init 41 = .ok (.aastore, 1) := by decide +kernel
theorem dX2_init_42 : decode cX2_init 42 = .ok (.iinc 1 1, 3) := by decide +kernel
theorem dX2_init_45 : decode cX2_init 45 = .ok (.goto (-22), 3) := by decide +kernel
theorem dX2_init_48 : decode cX2_init 48 = .ok (.return_, 1) := by decide +kernel
theorem dX2_keep_0 : decode cX2_keep 0 = .ok (.aload_n 0, 1) := by decide +kernel
theorem dX2_keep_1 : decode cX2_keep 1 = .ok (.getfield 22, 3) := by decide +kernel
theorem dX2_keep_4 : decode cX2_keep 4 = .ok (.bipush 12, 2) := by decide +kernel
theorem dX2_keep_6 : decode cX2_keep 6 = .ok (.if_icmp .ne 26, 3) := by decide +kernel
theorem dX2_keep_9 : decode cX2_keep 9 = .ok (.aload_n 0, 1) := by decide +kernel
theorem dX2_keep_10 : decode cX2_keep 10 = .ok (.aload_n 0, 1) := by decide +kernel
theorem dX2_keep_11 : decode cX2_keep 11 = .ok (.getfield 26, 3) := by decide +kernel
theorem dX2_keep_14 : decode cX2_keep 14 = .ok (.iconst 1, 1) := by decide +kernel
theorem dX2_keep_15 : decode cX2_keep 15 = .ok (.iadd, 1) := by decide +kernel
theorem dX2_keep_16 : decode cX2_keep 16 = .ok (.bipush 12, 2) := by decide +kernel
theorem dX2_keep_18 : decode cX2_keep 18 = .ok (.irem, 1) := by decide +kernel
theorem dX2_keep_19 : decode cX2_keep 19 = .ok (.putfield 26, 3) := by decide +kernel
theorem dX2_keep_22 : decode cX2_keep 22 = .ok (.aload_n 0, 1) := by decide +kernel
theorem dX2_keep_23 : decode cX2_keep 23 = .ok (.dup, 1) := by decide +kernel
theorem dX2_keep_24 : decode cX2_keep 24 = .ok (.getfield 22, 3) := by decide +kernel
theorem dX2_keep_27 : decode cX2_keep 27 = .ok (.iconst 1, 1) := by decide +kernel
theorem dX2_keep_28 : decode cX2_keep 28 = .ok (.isub, 1) := by decide +kernel
theorem dX2_keep_29 : decode cX2_keep 29 = .ok (.putfield 22, 3) := by decide +kernel
theorem dX2_keep_32 : decode cX2_keep 32 = .ok (.aload_n 0, 1) := by decide +kernel
theorem dX2_keep_33 : decode cX2_keep 33 = .ok (.getfield 26, 3) := by decide +kernel
theorem dX2_keep_36 : decode cX2_keep 36 = .ok (.aload_n 0, 1) := by decide +kernel
theorem dX2_keep_37 : decode cX2_keep 37 = .ok (.getfield 22, 3) := by decide +kernel
theorem dX2_keep_40 : decode cX2_keep 40 = .ok (.iadd, 1) := by decide +kernel
theorem dX2_keep_41 : decode cX2_keep 41 = .ok (.bipush 12, 2) := by decide +kernel
theorem dX2_keep_43 : decode cX2_keep 43 = .ok (.irem, 1) := by decide +kernel
theorem dX2_keep_44 : decode cX2_keep 44 = .ok (.istore_n 3, 1) := by decide +kernel
theorem dX2_keep_45 : decode cX2_keep 45 = .ok (.aload_n 0, 1) := by decide +kernel
theorem dX2_keep_46 : decode cX2_keep 46 = .ok (.getfield 17, 3) := by decide +kernel
theorem dX2_keep_49 : decode cX2_keep 49 = .ok (.iload_n 3, 1) := by decide +kernel
theorem dX2_keep_50 : decode cX2_keep 50 = .ok (.aaload, 1) := by decide +kernel
theorem dX2_keep_51 : decode cX2_keep 51 = .ok (.astore 4, 2) := by decide +kernel
theorem dX2_keep_53 : decode cX2_keep 53 = .ok (.aload_n 0, 1) := by decide +kernel
theorem dX2_keep_54 : decode cX2_keep 54 = .ok (.getfield 9, 3) := by decide +kernel
theorem dX2_keep_57 : decode cX2_keep 57 = .ok (.iload_n 3, 1) := by decide +kernel
theorem dX2_keep_58 : decode cX2_keep 58 = .ok (.iload_n 1, 1) := by decide +kernel
theorem dX2_keep_59 : decode cX2_keep 59 = .ok (.iastore, 1) := by decide +kernel
theorem dX2_keep_60 : decode cX2_keep 60 = .ok (.aload_n 0, 1) := by decide +kernel
theorem dX2_keep_61 : decode cX2_keep 61 = .ok (.getfield 17, 3) := by decide +kernel
theorem dX2_keep_64 : decode cX2_keep 64 = .ok (.iload_n 3, 1) := by decide +kernel
theorem dX2_keep_65 : decode cX2_keep 65 = .ok (.aload_n 2, 1) := by decide +kernel
theorem dX2_keep_66 : decode cX2_keep 66 = .ok (.aastore, 1) := by decide +kernel
theorem dX2_keep_67 : decode cX2_keep 67 = .ok (.aload_n 0, 1) := by decide +kernel
theorem dX2_keep_68 : decode cX2_keep 68 = .ok (.dup, 1) := by decide +kernel
theorem dX2_keep_69 : decode cX2_keep 69 = .ok (.getfield 22, 3) := by decide +kernel
theorem dX2_keep_72 : decode cX2_keep 72 = .ok (.iconst 1, 1) := by decide +kernel
theorem dX2_keep_73 : decode cX2_keep 73 = .ok (.iadd, 1) := by decide +kernel
theorem dX2_keep_74 : decode cX2_keep 74 = .ok (.putfield 22, 3) := by decide +kernel
theorem dX2_keep_77 : decode cX2_keep 77 = .ok (.aload_n 0, 1) := by decide +kernel
theorem dX2_keep_78 : decode cX2_keep 78 = .ok (.iconst 0, 1) := by decide +kernel
theorem dX2_keep_79 : decode cX2_keep 79 = .ok (.putfield 29, 3) := by decide +kernel
theorem dX2_keep_82 : decode cX2_keep 82 = .ok (.aload 4, 2) := by decide +kernel
theorem dX2_keep_84 : decode cX2_keep 84 = .ok (.areturn, 1) := by decide +kernel
theorem dX2_takeBack_0 : decode cX2_takeBack 0 = .ok (.aload_n 0, 1) := by decide +kernel
theorem dX2_takeBack_1 : decode cX2_takeBack 1 = .ok (.getfield 22, 3) := by decide +kernel
theorem dX2_takeBack_4 : decode cX2_takeBack 4 = .ok (.ifCond .ne 6, 3) := by decide +kernel
theorem dX2_takeBack_7 : decode cX2_takeBack 7 = .ok (.bipush (-2), 2) := by decide +kernel
theorem dX2_takeBack_9 : decode cX2_takeBack 9 = .ok (.ireturn, 1) := by decide +kernel
theorem dX2_takeBack_10 : decode cX2_takeBack 10 = .ok (.aload_n 0, 1) := by decide +kernel
theorem dX2_takeBack_11 : decode cX2_takeBack 11 = .ok (.dup, 1) := by decide +kernel
theorem dX2_takeBack_12 : decode cX2_takeBack 12 = .ok (.getfield 22, 3) := by decide +kernel
theorem dX2_takeBack_15 : decode cX2_takeBack 15 = .ok (.iconst 1, 1) := by decide +kernel
theorem dX2_takeBack_16 : decode cX2_takeBack 16 = .ok (.isub, 1) := by decide +kernel
theorem dX2_takeBack_17 : decode cX2_takeBack 17 = .ok (.putfield 22, 3) := by decide +kernel
theorem dX2_takeBack_20 : decode cX2_takeBack 20 = .ok (.aload_n 0, 1) := by decide +kernel
theorem dX2_takeBack_21 : decode cX2_takeBack 21 = .ok (.dup, 1) := by decide +kernel
theorem dX2_takeBack_22 : decode cX2_takeBack 22 = .ok (.getfield 29, 3) := by decide +kernel
theorem dX2_takeBack_25 : decode cX2_takeBack 25 = .ok (.iconst 1, 1) := by decide +kernel
theorem dX2_takeBack_26 : decode cX2_takeBack 26 = .ok (.iadd, 1) := by decide +kernel
theorem dX2_takeBack_27 : decode cX2_takeBack 27 = .ok (.putfield 29, 3) := by decide +kernel
theorem dX2_takeBack_30 : decode cX2_takeBack 30 = .ok (.aload_n 0, 1) := by decide +kernel
theorem dX2_takeBack_31 : decode cX2_takeBack 31 = .ok (.aload_n 1, 1) := by decide +kernel
theorem dX2_takeBack_32 : decode cX2_takeBack 32 = .ok (.aload_n 0, 1) := by decide +kernel
theorem dX2_takeBack_33 : decode cX2_takeBack 33 = .ok (.getfield 26, 3) := by decide +kernel
theorem dX2_takeBack_36 : decode cX2_takeBack 36 = .ok (.aload_n 0, 1) := by decide +kernel
theorem dX2_takeBack_37 : decode cX2_takeBack 37 = .ok (.getfield 22, 3) := by decide +kernel
theorem dX2_takeBack_40 : decode cX2_takeBack 40 = .ok (.iadd, 1) := by decide +kernel
theorem dX2_takeBack_41 : decode cX2_takeBack 41 = .ok (.bipush 12, 2) := by decide +kernel
theorem dX2_takeBack_43 : decode cX2_takeBack 43 = .ok (.irem, 1) := by decide +kernel
theorem dX2_takeBack_44 : decode cX2_takeBack 44 = .ok (.invokevirtual 32, 3) := by decide +kernel
theorem dX2_takeBack_47 : decode cX2_takeBack 47 = .ok (.ireturn, 1) := by decide +kernel
theorem dX2_doAgain_0 : decode cX2_doAgain 0 = .ok (.aload_n 0, 1) := by decide +kernel
theorem dX2_doAgain_1 : decode cX2_doAgain 1 = .ok (.getfield 29, 3) := by decide +kernel
theorem dX2_doAgain_4 : decode cX2_doAgain 4 = .ok (.ifCond .ne 6, 3) := by decide +kernel
theorem dX2_doAgain_7 : decode cX2_doAgain 7 = .ok (.bipush (-2), 2) := by decide +kernel
theorem dX2_doAgain_9 : decode cX2_doAgain 9 = .ok (.ireturn, 1) := by decide +kernel
theorem dX2_doAgain_10 : decode cX2_doAgain 10 = .ok (.aload_n 0, 1) := by decide +kernel
theorem dX2_doAgain_11 : decode cX2_doAgain 11 = .ok (.getfield 26, 3) := by decide +kernel
theorem dX2_doAgain_14 : decode cX2_doAgain 14 = .ok (.aload_n 0, 1) := by decide +kernel
theorem dX2_doAgain_15 : decode cX2_doAgain 15 = .ok (.getfield 22, 3) := by decide +kernel
theorem dX2_doAgain_18 : decode cX2_doAgain 18 = .ok (.iadd, 1) := by decide +kernel
theorem dX2_doAgain_19 : decode cX2_doAgain 19 = .ok (.bipush 12, 2) := by decide +kernel
theorem dX2_doAgain_21 : decode cX2_doAgain 21 = .ok (.irem, 1) := by decide +kernel
theorem dX2_doAgain_22 : decode cX2_doAgain 22 = .ok (.istore_n 2, 1) := by decide +kernel
theorem dX2_doAgain_23 : decode cX2_doAgain 23 = .ok (.aload_n 0, 1) := by decide +kernel
theorem dX2_doAgain_24 : decode cX2_doAgain 24 = .ok (.dup, 1) := by decide +kernel
theorem dX2_doAgain_25 : decode cX2_doAgain 25 = .ok (.getfield 22, 3) := by decide +kernel
theorem dX2_doAgain_28 : decode cX2_doAgain 28 = .ok (.iconst 1, 1) := by decide +kernel
theorem dX2_doAgain_29 : decode cX2_doAgain 29 = .ok (.iadd, 1) := by decide +kernel
theorem dX2_doAgain_30 : decode cX2_doAgain 30 = .ok (.putfield 22, 3) := by decide +kernel
theorem dX2_doAgain_33 : decode cX2_doAgain 33 = .ok (.aload_n 0, 1) := by decide +kernel
theorem dX2_doAgain_34 : decode cX2_doAgain 34 = .ok (.dup, 1) := by decide +kernel
theorem dX2_doAgain_35 : decode cX2_doAgain 35 = .ok (.getfield 29, 3) := by decide +kernel
theorem dX2_doAgain_38 : decode cX2_doAgain 38 = .ok (.iconst 1, 1) := by decide +kernel
theorem dX2_doAgain_39 : decode cX2_doAgain 39 = .ok (.isub, 1) := by decide +kernel
theorem dX2_doAgain_40 : decode cX2_doAgain 40 = .ok (.putfield 29, 3) := by decide +kernel
theorem dX2_doAgain_43 : decode cX2_doAgain 43 = .ok (.aload_n 0, 1) := by decide +kernel
theorem dX2_doAgain_44 : decode cX2_doAgain 44 = .ok (.aload_n 1, 1) := by decide +kernel
theorem dX2_doAgain_45 : decode cX2_doAgain 45 = .ok (.iload_n 2, 1) := by decide +kernel
theorem dX2_doAgain_46 : decode cX2_doAgain 46 = .ok (.invokevirtual 32, 3) := by decide +kernel
theorem dX2_doAgain_49 : decode cX2_doAgain 49 = .ok (.ireturn, 1) := by decide +kernel
theorem dX2_exchange_0 : decode cX2_exchange 0 = .ok (.aload_n 0, 1) := by decide +kernel
theorem dX2_exchange_1 : decode cX2_exchange 1 = .ok (.getfield 9, 3) := by decide +kernel
theorem dX2_exchange_4 : decode cX2_exchange 4 = .ok (.iload_n 2, 1) := by decide +kernel
theorem dX2_exchange_5 : decode cX2_exchange 5 = .ok (.iaload, 1) := by decide +kernel
theorem dX2_exchange_6 : decode cX2_exchange 6 = .ok (.istore_n 3, 1) := by decide +kernel
theorem dX2_exchange_7 : decode cX2_exchange 7 = .ok (.aload_n 0, 1) := by decide +kernel
theorem dX2_exchange_8 : decode cX2_exchange 8 = .ok (.getfield 17, 3) := by decide +kernel
theorem dX2_exchange_11 : decode cX2_exchange 11 = .ok (.iload_n 2, 1) := by decide +kernel
theorem dX2_exchange_12 : decode cX2_exchange 12 = .ok (.aaload, 1) := by decide +kernel
theorem dX2_exchange_13 : decode cX2_exchange 13 = .ok (.astore 4, 2) := by decide +kernel
theorem dX2_exchange_15 : decode cX2_exchange 15 = .ok (.aload_n 0, 1) := by decide +kernel
theorem dX2_exchange_16 : decode cX2_exchange 16 = .ok (.getfield 17, 3) := by decide +kernel
theorem dX2_exchange_19 : decode cX2_exchange 19 = .ok (.iload_n 2, 1) := by decide +kernel
theorem dX2_exchange_20 : decode cX2_exchange 20 = .ok (.aload_n 1, 1) := by decide +kernel
theorem dX2_exchange_21 : decode cX2_exchange 21 = .ok (.iload_n 3, 1) := by decide +kernel
theorem dX2_exchange_22 : decode cX2_exchange 22 = .ok (.aaload, 1) := by decide +kernel
theorem dX2_exchange_23 : decode cX2_exchange 23 = .ok (.aastore, 1) := by decide +kernel
theorem dX2_exchange_24 : decode cX2_exchange 24 = .ok (.aload_n 1, 1) := by decide +kernel
theorem dX2_exchange_25 : decode cX2_exchange 25 = .ok (.iload_n 3, 1) := by decide +kernel
theorem dX2_exchange_26 : decode cX2_exchange 26 = .ok (.aload 4, 2) := by decide +kernel
theorem dX2_exchange_28 : decode cX2_exchange 28 = .ok (.aastore, 1) := by decide +kernel
theorem dX2_exchange_29 : decode cX2_exchange 29 = .ok (.iload_n 3, 1) := by decide +kernel
theorem dX2_exchange_30 : decode cX2_exchange 30 = .ok (.ireturn, 1) := by decide +kernel
theorem dX3_init_0 : decode cX3_init 0 = .ok (.aload_n 0, 1) := by decide +kernel
theorem dX3_init_1 : decode cX3_init 1 = .ok (.invokespecial 3, 3) := by decide +kernel
theorem dX3_init_4 : decode cX3_init 4 = .ok (.aload_n 0, 1) := by decide +kernel
theorem dX3_init_5 : decode cX3_init 5 = .ok (.sipush 144, 3) := by decide +kernel
theorem dX3_init_8 : decode cX3_init 8 = .ok (.newarray .int, 2) := by decide +kernel
theorem dX3_init_10 : decode cX3_init 10 = .ok (.putfield 9, 3) := by decide +kernel
theorem dX3_init_13 : decode cX3_init 13 = .ok (.aload_n 0, 1) := by decide +kernel
theorem dX3_init_14 : decode cX3_init 14 = .ok (.sipush 1728, 3) := by decide +kernel
theorem dX3_init_17 : decode cX3_init 17 = .ok (.newarray .int, 2) := by decide +kernel
theorem dX3_init_19 : decode cX3_init 19 = .ok (.putfield 15, 3) := by decide +kernel
theorem dX3_init_22 : decode cX3_init 22 = .ok (.return_, 1) := by decide +kernel
theorem dX3_countPieces_0 : decode cX3_countPieces 0 = .ok (.iconst 0, 1) := by decide +kernel
theorem dX3_countPieces_1 : decode cX3_countPieces 1 = .ok (.istore_n 2, 1) := by decide +kernel
theorem dX3_countPieces_2 : decode cX3_countPieces 2 = .ok (.iload_n 2, 1) := by decide +kernel
theorem dX3_countPieces_3 : decode cX3_countPieces 3 = .ok (.sipush 144, 3) := by decide +kernel
theorem dX3_countPieces_6 : decode cX3_countPieces 6 = .ok (.if_icmp .ge 21, 3) := by decide +kernel
theorem dX3_countPieces_9 : decode cX3_countPieces 9 = .ok (.aload_n 0, 1) := by decide +kernel
theorem dX3_countPieces_10 : decode cX3_countPieces 10 = .ok (.getfield 9, 3) := by decide +kernel
theorem dX3_countPieces_13 : decode cX3_countPieces 13 = .ok (.iload_n 2, 1) := by decide +kernel
theorem dX3_countPieces_14 : decode cX3_countPieces 14 = .ok (.aload_n 1, 1) := by decide +kernel
theorem dX3_countPieces_15 : decode cX3_countPieces 15 = .ok (.getfield 18, 3) := by decide +kernel
theorem dX3_countPieces_18 : decode cX3_countPieces 18 = .ok (.iload_n 2, 1) := by decide +kernel
theorem dX3_countPieces_19 : decode cX3_countPieces 19 = .ok (.iaload, 1) := by decide +kernel
theorem dX3_countPieces_20 : decode cX3_countPieces 20 = .ok (.iastore, 1) := by decide +kernel
theorem dX3_countPieces_21 : decode cX3_countPieces 21 = .ok (.iinc 2 1, 3) := by decide +kernel
theorem dX3_countPieces_24 : decode cX3_countPieces 24 = .ok (.goto (-22), 3) := by decide +kernel
theorem dX3_countPieces_27 : decode cX3_countPieces 27 = .ok (.aload_n 0, 1) := by decide +kernel
theorem dX3_countPieces_28 : decode cX3_countPieces 28 = .ok (.invokevirtual 23, 3) := by decide +kernel
theorem dX3_countPieces_31 : decode cX3_countPieces 31 = .ok (.ireturn, 1) := by decide +kernel
theorem dX3_countHollows_0 : decode cX3_countHollows 0 = .ok (.iconst 0, 1) := by decide +kernel
theorem dX3_countHollows_1 : decode cX3_countHollows 1 = .ok (.istore_n 2, 1) := by decide +kernel
theorem dX3_countHollows_2 : decode cX3_countHollows 2 = .ok (.iload_n 2, 1) := by decide +kernel
theorem dX3_countHollows_3 : decode cX3_countHollows 3 = .ok (.sipush 144, 3) := by decide +kernel
theorem dX3_countHollows_6 : decode cX3_countHollows 6 = .ok (.if_icmp .ge 27, 3) := by decide +kernel
theorem dX3_countHollows_9 : decode cX3_countHollows 9 = .ok (.aload_n 0, 1) := by decide +kernel
theorem dX3_countHollows_10 : decode cX3_countHollows 10 = .ok (.getfield 9, 3) := by decide +kernel
theorem dX3_countHollows_13 : decode cX3_countHollows 13 = .ok (.iload_n 2, 1) := by decide +kernel
theorem dX3_countHollows_14 : decode cX3_countHollows 14 = .ok (.sipush 4095, 3) := by decide +kernel
theorem dX3_countHollows_17 : decode cX3_countHollows 17 = .ok (.aload_n 1, 1) := by decide +kernel
theorem dX3_countHollows_18 : decode cX3_countHollows 18 = .ok (.getfield 18, 3) := by decide +kernel
theorem dX3_countHollows_21 : decode cX3_countHollows 21 = .ok (.iload_n 2, 1) := by decide +kernel
theorem dX3_countHollows_22 : decode cX3_countHollows 22 = .ok (.iaload, 1) := by decide +kernel
theorem dX3_countHollows_23 : decode cX3_countHollows 23 = .ok (.iconst (-1), 1) := by decide +kernel
theorem dX3_countHollows_24 : decode cX3_countHollows 24 = .ok (.ixor, 1) := by decide +kernel
theorem dX3_countHollows_25 : decode cX3_countHollows 25 = .ok (.iand, 1) := by decide +kernel
theorem dX3_countHollows_26 : decode cX3_countHollows 26 = .ok (.iastore, 1) := by decide +kernel
theorem dX3_countHollows_27 : decode cX3_countHollows 27 = .ok (.iinc 2 1, 3) := by decide +kernel
theorem dX3_countHollows_30 : decode cX3_countHollows 30 = .ok (.goto (-28), 3) := by decide +kernel
theorem dX3_countHollows_33 : decode cX3_countHollows 33 = .ok (.aload_n 0, 1) := by decide +kernel
theorem dX3_countHollows_34 : decode cX3_countHollows 34 = .ok (.invokevirtual 27, 3) := by decide +kernel
theorem dX3_countHollows_37 : decode cX3_countHollows 37 = .ok (.aload_n 0, 1) := by decide +kernel
theorem dX3_countHollows_38 : decode cX3_countHollows 38 = .ok (.invokevirtual 23, 3) := by decide +kernel
theorem dX3_countHollows_41 : decode cX3_countHollows 41 = .ok (.ireturn, 1) := by decide +kernel
theorem dX3_dropFromBorder_0 : decode cX3_dropFromBorder 0 = .ok (.aload_n 0, 1) := by decide +kernel
theorem dX3_dropFromBorder_1 : decode cX3_dropFromBorder 1 = .ok (.iconst 0, 1) := by decide +kernel
theorem dX3_dropFromBorder_2 : decode cX3_dropFromBorder 2 = .ok (.putfield 30, 3) := by decide +kernel
theorem dX3_dropFromBorder_5 : decode cX3_dropFromBorder 5 = .ok (.iconst 0, 1) := by decide +kernel
theorem dX3_dropFromBorder_6 : decode cX3_dropFromBorder 6 = .ok (.istore_n 1, 1) := by decide +kernel
theorem dX3_dropFromBorder_7 : decode cX3_dropFromBorder 7 = .ok (.iload_n 1, 1) := by decide +kernel
theorem dX3_dropFromBorder_8 : decode cX3_dropFromBorder 8 = .ok (.bipush 12, 2) := by decide +kernel
theorem dX3_dropFromBorder_10 : decode cX3_dropFromBorder 10 = .ok (.if_icmp .ge 68, 3) := by decide +kernel
theorem dX3_dropFromBorder_13 : decode cX3_dropFromBorder 13 = .ok (.iconst 0, 1) := by decide +kernel
theorem dX3_dropFromBorder_14 : decode cX3_dropFromBorder 14 = .ok (.istore_n 2, 1) := by decide +kernel
theorem dX3_dropFromBorder_15 : decode cX3_dropFromBorder 15 = .ok (.iload_n 2, 1) := by decide +kernel
theorem dX3_dropFromBorder_16 : decode cX3_dropFromBorder 16 = .ok (.bipush 12, 2) := by decide +kernel
theorem dX3_dropFromBorder_18 : decode cX3_dropFromBorder 18 = .ok (.if_icmp .ge 54, 3) := by decide +kernel
theorem dX3_dropFromBorder_21 : decode cX3_dropFromBorder 21 = .ok (.iload_n 1, 1) := by decide +kernel
theorem dX3_dropFromBorder_22 : decode cX3_dropFromBorder 22 = .ok (.ifCond .eq 19, 3) := by decide +kernel
theorem dX3_dropFromBorder_25 : decode cX3_dropFromBorder 25 = .ok (.iload_n 1, 1) := by decide +kernel
theorem dX3_dropFromBorder_26 : decode cX3_dropFromBorder 26 = .ok (.bipush 11, 2) := by decide +kernel
theorem dX3_dropFromBorder_28 : decode cX3_dropFromBorder 28 = .ok (.if_icmp .eq 13, 3) := by decide +kernel
theorem dX3_dropFromBorder_31 : decode cX3_dropFromBorder 31 = .ok (.iload_n 2, 1) := by decide +kernel
theorem dX3_dropFromBorder_32 : decode cX3_dropFromBorder 32 = .ok (.ifCond .eq 9, 3) := by decide +kernel
theorem dX3_dropFromBorder_35 : decode cX3_dropFromBorder 35 = .ok (.iload_n 2, 1) := by decide +kernel
theorem dX3_dropFromBorder_36 : decode cX3_dropFromBorder 36 = .ok (.bipush 11, 2) := by decide +kernel
theorem dX3_dropFromBorder_38 : decode cX3_dropFromBorder 38 = .ok (.if_icmp .ne 7, 3) := by decide +kernel
theorem dX3_dropFromBorder_41 : decode cX3_dropFromBorder 41 = .ok (.iconst 1, 1) := by decide +kernel
theorem dX3_dropFromBorder_42 : decode cX3_dropFromBorder 42 = .ok (.goto 4, 3) := by decide +kernel
theorem dX3_dropFromBorder_45 : decode cX3_dropFromBorder 45 = .ok (.iconst 0, 1) := by decide +kernel
theorem dX3_dropFromBorder_46 : decode cX3_dropFromBorder 46 = .ok (.istore_n 3, 1) := by decide +kernel
theorem dX3_dropFromBorder_47 : decode cX3_dropFromBorder 47 = .ok (.aload_n 0, 1) := by decide +kernel
theorem dX3_dropFromBorder_48 : decode cX3_dropFromBorder 48 = .ok (.iload_n 1, 1) := by decide +kernel
theorem dX3_dropFromBorder_49 : decode cX3_dropFromBorder 49 = .ok (.iload_n 2, 1) := by decide +kernel
theorem dX3_dropFromBorder_50 : decode cX3_dropFromBorder 50 = .ok (.iload_n 3, 1) := by decide +kernel
theorem dX3_dropFromBorder_51 : decode cX3_dropFromBorder 51 = .ok (.ifCond .eq 9, 3) := by decide +kernel
theorem dX3_dropFromBorder_54 : decode cX3_dropFromBorder 54 = .ok (.sipush 4095, 3) := by decide +kernel
theorem dX3_dropFromBorder_57 : decode cX3_dropFromBorder 57 = .ok (.goto 6, 3) := by decide +kernel
theorem dX3_dropFromBorder_60 : decode cX3_dropFromBorder 60 = .ok (.sipush 2049, 3) := by decide +kernel
theorem dX3_dropFromBorder_63 : decode cX3_dropFromBorder 63 = .ok (.invokevirtual 34, 3) := by decide +kernel
theorem dX3_dropFromBorder_66 : decode cX3_dropFromBorder 66 = .ok (.iinc 2 1, 3) := by decide +kernel
theorem dX3_dropFromBorder_69 : decode cX3_dropFromBorder 69 = .ok (.goto (-54), 3) := by decide +kernel
theorem dX3_dropFromBorder_72 : decode cX3_dropFromBorder 72 = .ok (.iinc 1 1, 3) := by decide +kernel
theorem dX3_dropFromBorder_75 : decode cX3_dropFromBorder 75 = .ok (.goto (-68), 3) := by decide +kernel
theorem dX3_dropFromBorder_78 : decode cX3_dropFromBorder 78 = .ok (.aload_n 0, 1) := by decide +kernel
theorem dX3_dropFromBorder_79 : decode cX3_dropFromBorder 79 = .ok (.invokevirtual 38, 3) := by decide +kernel
theorem dX3_dropFromBorder_82 : decode cX3_dropFromBorder 82 = .ok (.return_, 1) := by decide +kernel
theorem dX3_countLeft_0 : decode cX3_countLeft 0 = .ok (.iconst 0, 1) := by decide +kernel
theorem dX3_countLeft_1 : decode cX3_countLeft 1 = .ok (.istore_n 1, 1) := by decide +kernel
theorem dX3_countLeft_2 : decode cX3_countLeft 2 = .ok (.iconst 0, 1) := by decide +kernel
theorem dX3_countLeft_3 : decode cX3_countLeft 3 = .ok (.istore_n 2, 1) := by decide +kernel
theorem dX3_countLeft_4 : decode cX3_countLeft 4 = .ok (.iload_n 2, 1) := by decide +kernel
theorem dX3_countLeft_5 : decode cX3_countLeft 5 = .ok (.bipush 12, 2) := by decide +kernel
theorem dX3_countLeft_7 : decode cX3_countLeft 7 = .ok (.if_icmp .ge 32, 3) := by decide +kernel
theorem dX3_countLeft_10 : decode cX3_countLeft 10 = .ok (.iconst 0, 1) := by decide +kernel
theorem dX3_countLeft_11 : decode cX3_countLeft 11 = .ok (.istore_n 3, 1) := by decide +kernel
theorem dX3_countLeft_12 : decode cX3_countLeft 12 = .ok (.iload_n 3, 1) := by decide +kernel
theorem dX3_countLeft_13 : decode cX3_countLeft 13 = .ok (.bipush 12, 2) := by decide +kernel
theorem dX3_countLeft_15 : decode cX3_countLeft 15 = .ok (.if_icmp .ge 18, 3) := by decide +kernel
theorem dX3_countLeft_18 : decode cX3_countLeft 18 = .ok (.iload_n 1, 1) := by decide +kernel
theorem dX3_countLeft_19 : decode cX3_countLeft 19 = .ok (.aload_n 0, 1) := by decide +kernel
theorem dX3_countLeft_20 : decode cX3_countLeft 20 = .ok (.iload_n 2, 1) := by decide +kernel
theorem dX3_countLeft_21 : decode cX3_countLeft 21 = .ok (.iload_n 3, 1) := by decide +kernel
theorem dX3_countLeft_22 : decode cX3_countLeft 22 = .ok (.invokevirtual 41, 3) := by decide +kernel
theorem dX3_countLeft_25 : decode cX3_countLeft 25 = .ok (.iadd, 1) := by decide +kernel
theorem dX3_countLeft_26 : decode cX3_countLeft 26 = .ok (.istore_n 1, 1) := by decide +kernel
theorem dX3_countLeft_27 : decode cX3_countLeft 27 = .ok (.iinc 3 1, 3) := by decide +kernel
theorem dX3_countLeft_30 : decode cX3_countLeft 30 = .ok (.goto (-18), 3) := by decide +kernel
theorem dX3_countLeft_33 : decode cX3_countLeft 33 = .ok (.iinc 2 1, 3) := by decide +kernel
theorem dX3_countLeft_36 : decode cX3_countLeft 36 = .ok (.goto (-32), 3) := by decide +kernel
theorem dX3_countLeft_39 : decode cX3_countLeft 39 = .ok (.iload_n 1, 1) := by decide +kernel
theorem dX3_countLeft_40 : decode cX3_countLeft 40 = .ok (.ireturn, 1) := by decide +kernel
theorem dX3_countFrom_0 : decode cX3_countFrom 0 = .ok (.iconst 0, 1) := by decide +kernel
theorem dX3_countFrom_1 : decode cX3_countFrom 1 = .ok (.istore_n 3, 1) := by decide +kernel
theorem dX3_countFrom_2 : decode cX3_countFrom 2 = .ok (.iconst 0, 1) := by decide +kernel
theorem dX3_countFrom_3 : decode cX3_countFrom 3 = .ok (.istore 4, 2) := by decide +kernel
theorem dX3_countFrom_5 : decode cX3_countFrom 5 = .ok (.iload 4, 2) := by decide +kernel
theorem dX3_countFrom_7 : decode cX3_countFrom 7 = .ok (.bipush 12, 2) := by decide +kernel
theorem dX3_countFrom_9 : decode cX3_countFrom 9 = .ok (.if_icmp .ge 38, 3) := by decide +kernel
theorem dX3_countFrom_12 : decode cX3_countFrom 12 = .ok (.aload_n 0, 1) := by decide +kernel
theorem dX3_countFrom_13 : decode cX3_countFrom 13 = .ok (.iconst 0, 1) := by decide +kernel
theorem dX3_countFrom_14 : decode cX3_countFrom 14 = .ok (.putfield 30, 3) := by decide +kernel
theorem dX3_countFrom_17 : decode cX3_countFrom 17 = .ok (.aload_n 0, 1) := by decide +kernel
theorem dX3_countFrom_18 : decode cX3_countFrom 18 = .ok (.iload_n 1, 1) := by decide +kernel
theorem dX3_countFrom_19 : decode cX3_countFrom 19 = .ok (.iload_n 2, 1) := by decide +kernel
theorem dX3_countFrom_20 : decode cX3_countFrom 20 = .ok (.iconst 1, 1) := by decide +kernel
theorem dX3_countFrom_21 : decode cX3_countFrom 21 = .ok (.iload 4, 2) := by decide +kernel
theorem dX3_countFrom_23 : decode cX3_countFrom 23 = .ok (.ishl, 1) := by decide +kernel
theorem dX3_countFrom_24 : decode cX3_countFrom 24 = .ok (.invokevirtual 34, 3) := by decide +kernel
theorem dX3_countFrom_27 : decode cX3_countFrom 27 = .ok (.aload_n 0, 1) := by decide +kernel
theorem dX3_countFrom_28 : decode cX3_countFrom 28 = .ok (.getfield 30, 3) := by decide +kernel
theorem dX3_countFrom_31 : decode cX3_countFrom 31 = .ok (.ifCond .le 10, 3) := by decide +kernel
theorem dX3_countFrom_34 : decode cX3_countFrom 34 = .ok (.iinc 3 1, 3) := by decide +kernel
theorem dX3_countFrom_37 : decode cX3_countFrom 37 = .ok (.aload_n 0, 1) := by decide +kernel
theorem dX3_countFrom_38 : decode cX3_countFrom 38 = .ok (.invokevirtual 38, 3) := by decide +kernel
theorem dX3_countFrom_41 : decode cX3_countFrom 41 = .ok (.iinc 4 1, 3) := by decide +kernel
theorem dX3_countFrom_44 : decode cX3_countFrom 44 = .ok (.goto (-39), 3) := by decide +kernel
theorem dX3_countFrom_47 : decode cX3_countFrom 47 = .ok (.iload_n 3, 1) := by decide +kernel
theorem dX3_countFrom_48 : decode cX3_countFrom 48 = .ok (.ireturn, 1) := by decide +kernel
theorem dX3_spread_0 : decode cX3_spread 0 = .ok (.iconst 0, 1) := by decide +kernel
theorem dX3_spread_1 : decode cX3_spread 1 = .ok (.istore_n 1, 1) := by decide +kernel
theorem dX3_spread_2 : decode cX3_spread 2 = .ok (.iload_n 1, 1) := by decide +kernel
theorem dX3_spread_3 : decode cX3_spread 3 = .ok (.aload_n 0, 1) := by decide +kernel
theorem dX3_spread_4 : decode cX3_spread 4 = .ok (.getfield 15, 3) := by decide +kernel
theorem dX3_spread_7 : decode cX3_spread 7 = .ok (.arraylength, 1) := by decide +kernel
theorem dX3_spread_8 : decode cX3_spread 8 = .ok (.if_icmp .ge 109, 3) := by decide +kernel
theorem dX3_spread_11 : decode cX3_spread 11 = .ok (.iload_n 1, 1) := by decide +kernel
theorem dX3_spread_12 : decode cX3_spread 12 = .ok (.aload_n 0, 1) := by decide +kernel
theorem dX3_spread_13 : decode cX3_spread 13 = .ok (.getfield 30, 3) := by decide +kernel
theorem dX3_spread_16 : decode cX3_spread 16 = .ok (.if_icmp .ge 101, 3) := by decide +kernel
theorem dX3_spread_19 : decode cX3_spread 19 = .ok (.aload_n 0, 1) := by decide +kernel
theorem dX3_spread_20 : decode cX3_spread 20 = .ok (.getfield 15, 3) := by decide +kernel
theorem dX3_spread_23 : decode cX3_spread 23 = .ok (.iload_n 1, 1) := by decide +kernel
theorem dX3_spread_24 : decode cX3_spread 24 = .ok (.iaload, 1) := by decide +kernel
theorem dX3_spread_25 : decode cX3_spread 25 = .ok (.bipush 12, 2) := by decide +kernel
theorem dX3_spread_27 : decode cX3_spread 27 = .ok (.ishr, 1) := by decide +kernel
theorem dX3_spread_28 : decode cX3_spread 28 = .ok (.istore_n 2, 1) := by decide +kernel
theorem dX3_spread_29 : decode cX3_spread 29 = .ok (.aload_n 0, 1) := by decide +kernel
theorem dX3_spread_30 : decode cX3_spread 30 = .ok (.getfield 15, 3) := by decide +kernel
theorem dX3_spread_33 : decode cX3_spread 33 = .ok (.iload_n 1, 1) := by decide +kernel
theorem dX3_spread_34 : decode cX3_spread 34 = .ok (.iaload, 1) := by decide +kernel
theorem dX3_spread_35 : decode cX3_spread 35 = .ok (.sipush 4095, 3) := by decide +kernel
theorem dX3_spread_38 : decode cX3_spread 38 = .ok (.iand, 1) := by decide +kernel
theorem dX3_spread_39 : decode cX3_spread 39 = .ok (.istore_n 3, 1) := by decide +kernel
theorem dX3_spread_40 : decode cX3_spread 40 = .ok (.iload_n 2, 1) := by decide +kernel
theorem dX3_spread_41 : decode cX3_spread 41 = .ok (.bipush 12, 2) := by decide +kernel
theorem dX3_spread_43 : decode cX3_spread 43 = .ok (.idiv, 1) := by decide +kernel
theorem dX3_spread_44 : decode cX3_spread 44 = .ok (.istore 4, 2) := by decide +kernel
theorem dX3_spread_46 : decode cX3_spread 46 = .ok (.iload_n 2, 1) := by decide +kernel
theorem dX3_spread_47 : decode cX3_spread 47 = .ok (.bipush 12, 2) := by decide +kernel
theorem dX3_spread_49 : decode cX3_spread 49 = .ok (.irem, 1) := by decide +kernel
theorem dX3_spread_50 : decode cX3_spread 50 = .ok (.istore 5, 2) := by decide +kernel
theorem dX3_spread_52 : decode cX3_spread 52 = .ok (.aload_n 0, 1) := by decide +kernel
theorem dX3_spread_53 : decode cX3_spread 53 = .ok (.iload 4, 2) := by decide +kernel
theorem dX3_spread_55 : decode cX3_spread 55 = .ok (.iload 5, 2) := by decide +kernel
theorem dX3_spread_57 : decode cX3_spread 57 = .ok (.iload_n 3, 1) := by decide +kernel
theorem dX3_spread_58 : decode cX3_spread 58 = .ok (.iconst 1, 1) := by decide +kernel
theorem dX3_spread_59 : decode cX3_spread 59 = .ok (.ishl, 1) := by decide +kernel
theorem dX3_spread_60 : decode cX3_spread 60 = .ok (.iload_n 3, 1) := by decide +kernel
theorem dX3_spread_61 : decode cX3_spread 61 = .ok (.iconst 1, 1) := by decide +kernel
theorem dX3_spread_62 : decode cX3_spread 62 = .ok (.ishr, 1) := by decide +kernel
theorem dX3_spread_63 : decode cX3_spread 63 = .ok (.ior, 1) := by decide +kernel
theorem dX3_spread_64 : decode cX3_spread 64 = .ok (.invokevirtual 34, 3) := by decide +kernel
theorem dX3_spread_67 : decode cX3_spread 67 = .ok (.aload_n 0, 1) := by decide +kernel
theorem dX3_spread_68 : decode cX3_spread 68 = .ok (.iload 4, 2) := by decide +kernel
theorem dX3_spread_70 : decode cX3_spread 70 = .ok (.iconst 1, 1) := by decide +kernel
theorem dX3_spread_71 : decode cX3_spread 71 = .ok (.isub, 1) := by decide +kernel
theorem dX3_spread_72 : decode cX3_spread 72 = .ok (.iload 5, 2) := by decide +kernel
theorem dX3_spread_74 : decode cX3_spread 74 = .ok (.iload_n 3, 1) := by decide +kernel
theorem dX3_spread_75 : decode cX3_spread 75 = .ok (.invokevirtual 34, 3) := by decide +kernel
theorem dX3_spread_78 : decode cX3_spread 78 = .ok (.aload_n 0, 1) := by decide +kernel
theorem dX3_spread_79 : decode cX3_spread 79 = .ok (.iload 4, 2) := by decide +kernel
theorem dX3_spread_81 : decode cX3_spread 81 = .ok (.iconst 1, 1) := by decide +kernel
theorem dX3_spread_82 : decode cX3_spread 82 = .ok (.iadd, 1) := by decide +kernel
theorem dX3_spread_83 : decode cX3_spread 83 = .ok (.iload 5, 2) := by decide +kernel
theorem dX3_spread_85 : decode cX3_spread 85 = .ok (.iload_n 3, 1) := by decide +kernel
theorem dX3_spread_86 : decode cX3_spread 86 = .ok (.invokevirtual 34, 3) := by decide +kernel
theorem dX3_spread_89 : decode cX3_spread 89 = .ok (.aload_n 0, 1) := by decide +kernel
theorem dX3_spread_90 : decode cX3_spread 90 = .ok (.iload 4, 2) := by decide +kernel
theorem dX3_spread_92 : decode cX3_spread 92 = .ok (.iload 5, 2) := by decide +kernel
theorem dX3_spread_94 : decode cX3_spread 94 = .ok (.iconst 1, 1) := by decide +kernel
theorem dX3_spread_95 : decode cX3_spread 95 = .ok (.isub, 1) := by decide +kernel
theorem dX3_spread_96 : decode cX3_spread 96 = .ok (.iload_n 3, 1) := by decide +kernel
theorem dX3_spread_97 : decode cX3_spread 97 = .ok (.invokevirtual 34, 3) := by decide +kernel
theorem dX3_spread_100 : decode cX3_spread 100 = .ok (.aload_n 0, 1) := by decide +kernel
theorem dX3_spread_101 : decode cX3_spread 101 = .ok (.iload 4, 2) := by decide +kernel
theorem dX3_spread_103 : decode cX3_spread 103 = .ok (.iload 5, 2) := by decide +kernel
theorem dX3_spread_105 : decode cX3_spread 105 = .ok (.iconst 1, 1) := by decide +kernel
theorem dX3_spread_106 : decode cX3_spread 106 = .ok (.iadd, 1) := by decide +kernel
theorem dX3_spread_107 : decode cX3_spread 107 = .ok (.iload_n 3, 1) := by decide +kernel
theorem dX3_spread_108 : decode cX3_spread 108 = .ok (.invokevirtual 34, 3) := by decide +kernel
theorem dX3_spread_111 : decode cX3_spread 111 = .ok (.iinc 1 1, 3) := by decide +kernel
theorem dX3_spread_114 : decode cX3_spread 114 = .ok (.goto (-112), 3) := by decide +kernel
theorem dX3_spread_117 : decode cX3_spread 117 = .ok (.return_, 1) := by decide +kernel
theorem dX3_take_0 : decode cX3_take 0 = .ok (.iload_n 1, 1) := by decide +kernel
theorem dX3_take_1 : decode cX3_take 1 = .ok (.invokestatic 45, 3) := by decide +kernel
theorem dX3_take_4 : decode cX3_take 4 = .ok (.ifCond .eq 10, 3) := by decide +kernel
theorem dX3_take_7 : decode cX3_take 7 = .ok (.iload_n 2, 1) := by decide +kernel
theorem dX3_take_8 : decode cX3_take 8 = .ok (.invokestatic 45, 3) := by decide +kernel
theorem dX3_take_11 : decode cX3_take 11 = .ok (.ifCond .ne 4, 3) := by decide +kernel
theorem dX3_take_14 : decode cX3_take 14 = .ok (.return_, 1) := by decide +kernel
theorem dX3_take_15 : decode cX3_take 15 = .ok (.iload_n 1, 1) := by decide +kernel
theorem dX3_take_16 : decode cX3_take 16 = .ok (.bipush 12, 2) := by decide +kernel
theorem dX3_take_18 : decode cX3_take 18 = .ok (.imul, 1) := by decide +kernel
theorem dX3_take_19 : decode cX3_take 19 = .ok (.iload_n 2, 1) := by decide +kernel
theorem dX3_take_20 : decode cX3_take 20 = .ok (.iadd, 1) := by decide +kernel
theorem dX3_take_21 : decode cX3_take 21 = .ok (.istore 4, 2) := by decide +kernel
theorem dX3_take_23 : decode cX3_take 23 = .ok (.aload_n 0, 1) := by decide +kernel
theorem dX3_take_24 : decode cX3_take 24 = .ok (.getfield 9, 3) := by decide +kernel
theorem dX3_take_27 : decode cX3_take 27 = .ok (.iload 4, 2) := by decide +kernel
theorem dX3_take_29 : decode cX3_take 29 = .ok (.iaload, 1) := by decide +kernel
theorem dX3_take_30 : decode cX3_take 30 = .ok (.iload_n 3, 1) := by decide +kernel
theorem dX3_take_31 : decode cX3_take 31 = .ok (.iand, 1) := by decide +kernel
theorem dX3_take_32 : decode cX3_take 32 = .ok (.istore 5, 2) := by decide +kernel
theorem dX3_take_34 : decode cX3_take 34 = .ok (.iload 5, 2) := by decide +kernel
theorem dX3_take_36 : decode cX3_take 36 = .ok (.ifCond .eq 54, 3) := by decide +kernel
theorem dX3_take_39 : decode cX3_take 39 = .ok (.aload_n 0, 1) := by decide +kernel
theorem dX3_take_40 : decode cX3_take 40 = .ok (.getfield 30, 3) := by decide +kernel
theorem dX3_take_43 : decode cX3_take 43 = .ok (.aload_n 0, 1) := by decide +kernel
theorem dX3_take_44 : decode cX3_take 44 = .ok (.getfield 15, 3) := by decide +kernel
theorem dX3_take_47 : decode cX3_take 47 = .ok (.arraylength, 1) := by decide +kernel
theorem dX3_take_48 : decode cX3_take 48 = .ok (.if_icmp .ge 42, 3) := by decide +kernel
theorem dX3_take_51 : decode cX3_take 51 = .ok (.aload_n 0, 1) := by decide +kernel
theorem dX3_take_52 : decode cX3_take 52 = .ok (.getfield 9, 3) := by decide +kernel
theorem dX3_take_55 : decode cX3_take 55 = .ok (.iload 4, 2) := by decide +kernel
theorem dX3_take_57 : decode cX3_take 57 = .ok (.dup2, 1) := by decide +kernel
theorem dX3_take_58 : decode cX3_take 58 = .ok (.iaload, 1) := by decide +kernel
theorem dX3_take_59 : decode cX3_take 59 = .ok (.iload 5, 2) := by decide +kernel
theorem dX3_take_61 : decode cX3_take 61 = .ok (.ixor, 1) := by decide +kernel
theorem dX3_take_62 : decode cX3_take 62 = .ok (.iastore, 1) := by decide +kernel
theorem dX3_take_63 : decode cX3_take 63 = .ok (.aload_n 0, 1) := by decide +kernel
theorem dX3_take_64 : decode cX3_take 64 = .ok (.getfield 15, 3) := by decide +kernel
theorem dX3_take_67 : decode cX3_take 67 = .ok (.aload_n 0, 1) := by decide +kernel
theorem dX3_take_68 : decode cX3_take 68 = .ok (.getfield 30, 3) := by decide +kernel
theorem dX3_take_71 : decode cX3_take 71 = .ok (.iload 4, 2) := by decide +kernel
theorem dX3_take_73 : decode cX3_take 73 = .ok (.bipush 12, 2) := by decide +kernel
theorem dX3_take_75 : decode cX3_take 75 = .ok (.ishl, 1) := by decide +kernel
theorem dX3_take_76 : decode cX3_take 76 = .ok (.iload 5, 2) := by decide +kernel
theorem dX3_take_78 : decode cX3_take 78 = .ok (.ior, 1) := by decide +kernel
theorem dX3_take_79 : decode cX3_take 79 = .ok (.iastore, 1) := by decide +kernel
theorem dX3_take_80 : decode cX3_take 80 = .ok (.aload_n 0, 1) := by decide +kernel
theorem dX3_take_81 : decode cX3_take 81 = .ok (.dup, 1) := by decide +kernel
theorem dX3_take_82 : decode cX3_take 82 = .ok (.getfield 30, 3) := by decide +kernel
theorem dX3_take_85 : decode cX3_take 85 = .ok (.iconst 1, 1) := by decide +kernel
theorem dX3_take_86 : decode cX3_take 86 = .ok (.iadd, 1) := by decide +kernel
theorem dX3_take_87 : decode cX3_take 87 = .ok (.putfield 30, 3) := by decide +kernel
theorem dX3_take_90 : decode cX3_take 90 = .ok (.return_, 1) := by decide +kernel
theorem dX5_bitCount_0 : decode cX5_bitCount 0 = .ok (.iload_n 0, 1) := by decide +kernel
theorem dX5_bitCount_1 : decode cX5_bitCount 1 = .ok (.iload_n 0, 1) := by decide +kernel
theorem dX5_bitCount_2 : decode cX5_bitCount 2 = .ok (.iconst 1, 1) := by decide +kernel
theorem dX5_bitCount_3 : decode cX5_bitCount 3 = .ok (.iushr, 1) := by decide +kernel
theorem dX5_bitCount_4 : decode cX5_bitCount 4 = .ok (.ldc_w 265, 3) := by decide +kernel
theorem dX5_bitCount_7 : decode cX5_bitCount 7 = .ok (.iand, 1) := by decide +kernel
theorem dX5_bitCount_8 : decode cX5_bitCount 8 = .ok (.isub, 1) := by decide +kernel
theorem dX5_bitCount_9 : decode cX5_bitCount 9 = .ok (.istore_n 0, 1) := by decide +kernel
theorem dX5_bitCount_10 : decode cX5_bitCount 10 = .ok (.iload_n 0, 1) := by decide +kernel
theorem dX5_bitCount_11 : decode cX5_bitCount 11 = .ok (.ldc_w 266, 3) := by decide +kernel
theorem dX5_bitCount_14 : decode cX5_bitCount 14 = .ok (.iand, 1) := by decide +kernel
theorem dX5_bitCount_15 : decode cX5_bitCount 15 = .ok (.iload_n 0, 1) := by decide +kernel
theorem dX5_bitCount_16 : decode cX5_bitCount 16 = .ok (.iconst 2, 1) := by decide +kernel
theorem dX5_bitCount_17 : decode cX5_bitCount 17 = .ok (.iushr, 1) := by decide +kernel
theorem dX5_bitCount_18 : decode cX5_bitCount 18 = .ok (.ldc_w 266, 3) := by decide +kernel
theorem dX5_bitCount_21 : decode cX5_bitCount 21 = .ok (.iand, 1) := by decide +kernel
theorem dX5_bitCount_22 : decode cX5_bitCount 22 = .ok (.iadd, 1) := by decide +kernel
theorem dX5_bitCount_23 : decode cX5_bitCount 23 = .ok (.istore_n 0, 1) := by decide +kernel
theorem dX5_bitCount_24 : decode cX5_bitCount 24 = .ok (.iload_n 0, 1) := by decide +kernel
theorem dX5_bitCount_25 : decode cX5_bitCount 25 = .ok (.iload_n 0, 1) := by decide +kernel
theorem dX5_bitCount_26 : decode cX5_bitCount 26 = .ok (.iconst 4, 1) := by decide +kernel
theorem dX5_bitCount_27 : decode cX5_bitCount 27 = .ok (.iushr, 1) := by decide +kernel
theorem dX5_bitCount_28 : decode cX5_bitCount 28 = .ok (.iadd, 1) := by decide +kernel
theorem dX5_bitCount_29 : decode cX5_bitCount 29 = .ok (.ldc_w 267, 3) := by decide +kernel
theorem dX5_bitCount_32 : decode cX5_bitCount 32 = .ok (.iand, 1) := by decide +kernel
theorem dX5_bitCount_33 : decode cX5_bitCount 33 = .ok (.istore_n 0, 1) := by decide +kernel
theorem dX5_bitCount_34 : decode cX5_bitCount 34 = .ok (.iload_n 0, 1) := by decide +kernel
theorem dX5_bitCount_35 : decode cX5_bitCount 35 = .ok (.iload_n 0, 1) := by decide +kernel
theorem dX5_bitCount_36 : decode cX5_bitCount 36 = .ok (.bipush 8, 2) := by decide +kernel
theorem dX5_bitCount_38 : decode cX5_bitCount 38 = .ok (.iushr, 1) := by decide +kernel
theorem dX5_bitCount_39 : decode cX5_bitCount 39 = .ok (.iadd, 1) := by decide +kernel
theorem dX5_bitCount_40 : decode cX5_bitCount 40 = .ok (.istore_n 0, 1) := by decide +kernel
theorem dX5_bitCount_41 : decode cX5_bitCount 41 = .ok (.iload_n 0, 1) := by decide +kernel
theorem dX5_bitCount_42 : decode cX5_bitCount 42 = .ok (.iload_n 0, 1) := by decide +kernel
theorem dX5_bitCount_43 : decode cX5_bitCount 43 = .ok (.bipush 16, 2) := by decide +kernel
theorem dX5_bitCount_45 : decode cX5_bitCount 45 = .ok (.iushr, 1) := by decide +kernel
theorem dX5_bitCount_46 : decode cX5_bitCount 46 = .ok (.iadd, 1) := by decide +kernel
theorem dX5_bitCount_47 : decode cX5_bitCount 47 = .ok (.istore_n 0, 1) := by decide +kernel
theorem dX5_bitCount_48 : decode cX5_bitCount 48 = .ok (.iload_n 0, 1) := by decide +kernel
theorem dX5_bitCount_49 : decode cX5_bitCount 49 = .ok (.bipush 63, 2) := by decide +kernel
theorem dX5_bitCount_51 : decode cX5_bitCount 51 = .ok (.iand, 1) := by decide +kernel
theorem dX5_bitCount_52 : decode cX5_bitCount 52 = .ok (.ireturn, 1) := by decide +kernel
theorem dX5_numberOfLeadingZeros_0 : decode cX5_numberOfLeadingZeros 0 = .ok (.iload_n 0, 1) := by decide +kernel
theorem dX5_numberOfLeadingZeros_1 : decode cX5_numberOfLeadingZeros 1 = .ok (.ifCond .gt 14, 3) := by decide +kernel
theorem dX5_numberOfLeadingZeros_4 : decode cX5_numberOfLeadingZeros 4 = .ok (.iload_n 0, 1) := by decide +kernel
theorem dX5_numberOfLeadingZeros_5 : decode cX5_numberOfLeadingZeros 5 = .ok (.ifCond .ne 8, 3) := by decide +kernel
theorem dX5_numberOfLeadingZeros_8 : decode cX5_numberOfLeadingZeros 8 = .ok (.bipush 32, 2) := by decide +kernel
theorem dX5_numberOfLeadingZeros_10 : decode cX5_numberOfLeadingZeros 10 = .ok (.goto 4, 3) := by decide +kernel
theorem dX5_numberOfLeadingZeros_13 : decode cX5_numberOfLeadingZeros 13 = .ok (.iconst 0, 1) := by decide +kernel
theorem dX5_numberOfLeadingZeros_14 : decode cX5_numberOfLeadingZeros 14 = .ok (.ireturn, 1) := by decide +kernel
theorem dX5_numberOfLeadingZeros_15 : decode cX5_numberOfLeadingZeros 15 = .ok (.bipush 31, 2) := by decide +kernel
theorem dX5_numberOfLeadingZeros_17 : decode cX5_numberOfLeadingZeros 17 = .ok (.istore_n 1, 1) := by decide +kernel
theorem dX5_numberOfLeadingZeros_18 : decode cX5_numberOfLeadingZeros 18 = .ok (.iload_n 0, 1) := by decide +kernel
theorem dX5_numberOfLeadingZeros_19 : decode cX5_numberOfLeadingZeros 19 = .ok (.ldc_w 264, 3) := by decide +kernel
theorem dX5_numberOfLeadingZeros_22 : decode cX5_numberOfLeadingZeros 22 = .ok (.if_icmp .lt 11, 3) := by decide +kernel
theorem dX5_numberOfLeadingZeros_25 : decode cX5_numberOfLeadingZeros 25 = .ok (.iinc 1 (-16), 3) := by decide +kernel
theorem dX5_numberOfLeadingZeros_28 : decode cX5_numberOfLeadingZeros 28 = .ok (.iload_n 0, 1) := by decide +kernel
theorem dX5_numberOfLeadingZeros_29 : decode cX5_numberOfLeadingZeros 29 = .ok (.bipush 16, 2) := by decide +kernel
theorem dX5_numberOfLeadingZeros_31 : decode cX5_numberOfLeadingZeros 31 = .ok (.iushr, 1) := by decide +kernel
theorem dX5_numberOfLeadingZeros_32 : decode cX5_numberOfLeadingZeros 32 = .ok (.istore_n 0, 1) := by decide +kernel
theorem dX5_numberOfLeadingZeros_33 : decode cX5_numberOfLeadingZeros 33 = .ok (.iload_n 0, 1) := by decide +kernel
theorem dX5_numberOfLeadingZeros_34 : decode cX5_numberOfLeadingZeros 34 = .ok (.sipush 256, 3) := by decide +kernel
theorem dX5_numberOfLeadingZeros_37 : decode cX5_numberOfLeadingZeros 37 = .ok (.if_icmp .lt 11, 3) := by decide +kernel
theorem dX5_numberOfLeadingZeros_40 : decode cX5_numberOfLeadingZeros 40 = .ok (.iinc 1 (-8), 3) := by decide +kernel
theorem dX5_numberOfLeadingZeros_43 : decode cX5_numberOfLeadingZeros 43 = .ok (.iload_n 0, 1) := by decide +kernel
theorem dX5_numberOfLeadingZeros_44 : decode cX5_numberOfLeadingZeros 44 = .ok (.bipush 8, 2) := by decide +kernel
theorem dX5_numberOfLeadingZeros_46 : decode cX5_numberOfLeadingZeros 46 = .ok (.iushr, 1) := by decide +kernel
theorem dX5_numberOfLeadingZeros_47 : decode cX5_numberOfLeadingZeros 47 = .ok (.istore_n 0, 1) := by decide +kernel
theorem dX5_numberOfLeadingZeros_48 : decode cX5_numberOfLeadingZeros 48 = .ok (.iload_n 0, 1) := by decide +kernel
theorem dX5_numberOfLeadingZeros_49 : decode cX5_numberOfLeadingZeros 49 = .ok (.bipush 16, 2) := by decide +kernel
theorem dX5_numberOfLeadingZeros_51 : decode cX5_numberOfLeadingZeros 51 = .ok (.if_icmp .lt 10, 3) := by decide +kernel
theorem dX5_numberOfLeadingZeros_54 : decode cX5_numberOfLeadingZeros 54 = .ok (.iinc 1 (-4), 3) := by decide +kernel
theorem dX5_numberOfLeadingZeros_57 : decode cX5_numberOfLeadingZeros 57 = .ok (.iload_n 0, 1) := by decide +kernel
theorem dX5_numberOfLeadingZeros_58 : decode cX5_numberOfLeadingZeros 58 = .ok (.iconst 4, 1) := by decide +kernel
theorem dX5_numberOfLeadingZeros_59 : decode cX5_numberOfLeadingZeros 59 = .ok (.iushr, 1) := by decide +kernel
theorem dX5_numberOfLeadingZeros_60 : decode cX5_numberOfLeadingZeros 60 = .ok (.istore_n 0, 1) := by decide +kernel
theorem dX5_numberOfLeadingZeros_61 : decode cX5_numberOfLeadingZeros 61 = .ok (.iload_n 0, 1) := by decide +kernel
theorem dX5_numberOfLeadingZeros_62 : decode cX5_numberOfLeadingZeros 62 = .ok (.iconst 4, 1) := by decide +kernel
theorem dX5_numberOfLeadingZeros_63 : decode cX5_numberOfLeadingZeros 63 = .ok (.if_icmp .lt 10, 3) := by decide +kernel
theorem dX5_numberOfLeadingZeros_66 : decode cX5_numberOfLeadingZeros 66 = .ok (.iinc 1 (-2), 3) := by decide +kernel
theorem dX5_numberOfLeadingZeros_69 : decode cX5_numberOfLeadingZeros 69 = .ok (.iload_n 0, 1) := by decide +kernel
theorem dX5_numberOfLeadingZeros_70 : decode cX5_numberOfLeadingZeros 70 = .ok (.iconst 2, 1) := by decide +kernel
theorem dX5_numberOfLeadingZeros_71 : decode cX5_numberOfLeadingZeros 71 = .ok (.iushr, 1) := by decide +kernel
theorem dX5_numberOfLeadingZeros_72 : decode cX5_numberOfLeadingZeros 72 = .ok (.istore_n 0, 1) := by decide +kernel
theorem dX5_numberOfLeadingZeros_73 : decode cX5_numberOfLeadingZeros 73 = .ok (.iload_n 1, 1) := by decide +kernel
theorem dX5_numberOfLeadingZeros_74 : decode cX5_numberOfLeadingZeros 74 = .ok (.iload_n 0, 1) := by decide +kernel
theorem dX5_numberOfLeadingZeros_75 : decode cX5_numberOfLeadingZeros 75 = .ok (.iconst 1, 1) := by decide +kernel
theorem dX5_numberOfLeadingZeros_76 : decode cX5_numberOfLeadingZeros 76 = .ok (.iushr, 1) := by decide +kernel
theorem dX5_numberOfLeadingZeros_77 : decode cX5_numberOfLeadingZeros 77 = .ok (.isub, 1) := by decide +kernel
theorem dX5_numberOfLeadingZeros_78 : decode cX5_numberOfLeadingZeros 78 = .ok (.ireturn, 1) := by decide +kernel
theorem dX5_numberOfTrailingZeros_0 : decode cX5_numberOfTrailingZeros 0 = .ok (.iload_n 0, 1) := by decide +kernel
theorem dX5_numberOfTrailingZeros_1 : decode cX5_numberOfTrailingZeros 1 = .ok (.iconst (-1), 1) := by decide +kernel
theorem dX5_numberOfTrailingZeros_2 : decode cX5_numberOfTrailingZeros 2 = .ok (.ixor, 1) := by decide +kernel
theorem dX5_numberOfTrailingZeros_3 : decode cX5_numberOfTrailingZeros 3 = .ok (.iload_n 0, 1) := by decide +kernel
theorem dX5_numberOfTrailingZeros_4 : decode cX5_numberOfTrailingZeros 4 = .ok (.iconst 1, 1) := by decide +kernel
theorem dX5_numberOfTrailingZeros_5 : decode cX5_numberOfTrailingZeros 5 = .ok (.isub, 1) := by decide +kernel
theorem dX5_numberOfTrailingZeros_6 : decode cX5_numberOfTrailingZeros 6 = .ok (.iand, 1) := by decide +kernel
theorem dX5_numberOfTrailingZeros_7 : decode cX5_numberOfTrailingZeros 7 = .ok (.istore_n 0, 1) := by decide +kernel
theorem dX5_numberOfTrailingZeros_8 : decode cX5_numberOfTrailingZeros 8 = .ok (.iload_n 0, 1) := by decide +kernel
theorem dX5_numberOfTrailingZeros_9 : decode cX5_numberOfTrailingZeros 9 = .ok (.ifCond .gt 8, 3) := by decide +kernel
theorem dX5_numberOfTrailingZeros_12 : decode cX5_numberOfTrailingZeros 12 = .ok (.iload_n 0, 1) := by decide +kernel
theorem dX5_numberOfTrailingZeros_13 : decode cX5_numberOfTrailingZeros 13 = .ok (.bipush 32, 2) := by decide +kernel
theorem dX5_numberOfTrailingZeros_15 : decode cX5_numberOfTrailingZeros 15 = .ok (.iand, 1) := by decide +kernel
theorem dX5_numberOfTrailingZeros_16 : decode cX5_numberOfTrailingZeros 16 = .ok (.ireturn, 1) := by decide +kernel
theorem dX5_numberOfTrailingZeros_17 : decode cX5_numberOfTrailingZeros 17 = .ok (.iconst 1, 1) := by decide +kernel
theorem dX5_numberOfTrailingZeros_18 : decode cX5_numberOfTrailingZeros 18 = .ok (.istore_n 1, 1) := by decide +kernel
theorem dX5_numberOfTrailingZeros_19 : decode cX5_numberOfTrailingZeros 19 = .ok (.iload_n 0, 1) := by decide +kernel
theorem dX5_numberOfTrailingZeros_20 : decode cX5_numberOfTrailingZeros 20 = .ok (.ldc_w 264, 3) := by decide +kernel
theorem dX5_numberOfTrailingZeros_23 : decode cX5_numberOfTrailingZeros 23 = .ok (.if_icmp .le 11, 3) := by decide +kernel
theorem dX5_numberOfTrailingZeros_26 : decode cX5_numberOfTrailingZeros 26 = .ok (.iinc 1 16, 3) := by decide +kernel
theorem dX5_numberOfTrailingZeros_29 : decode cX5_numberOfTrailingZeros 29 = .ok (.iload_n 0, 1) := by decide +kernel
theorem dX5_numberOfTrailingZeros_30 : decode cX5_numberOfTrailingZeros 30 = .ok (.bipush 16, 2) := by decide +kernel
theorem dX5_numberOfTrailingZeros_32 : decode cX5_numberOfTrailingZeros 32 = .ok (.iushr, 1) := by decide +kernel
theorem dX5_numberOfTrailingZeros_33 : decode cX5_numberOfTrailingZeros 33 = .ok (.istore_n 0, 1) := by decide +kernel
theorem dX5_numberOfTrailingZeros_34 : decode cX5_numberOfTrailingZeros 34 = .ok (.iload_n 0, 1) := by decide +kernel
theorem dX5_numberOfTrailingZeros_35 : decode cX5_numberOfTrailingZeros 35 = .ok (.sipush 256, 3) := by decide +kernel
theorem dX5_numberOfTrailingZeros_38 : decode cX5_numberOfTrailingZeros 38 = .ok (.if_icmp .le 11, 3) := by decide +kernel
theorem dX5_numberOfTrailingZeros_41 : decode cX5_numberOfTrailingZeros 41 = .ok (.iinc 1 8, 3) := by decide +kernel
theorem dX5_numberOfTrailingZeros_44 : decode cX5_numberOfTrailingZeros 44 = .ok (.iload_n 0, 1) := by decide +kernel
theorem dX5_numberOfTrailingZeros_45 : decode cX5_numberOfTrailingZeros 45 = .ok (.bipush 8, 2) := by decide +kernel
theorem dX5_numberOfTrailingZeros_47 : decode cX5_numberOfTrailingZeros 47 = .ok (.iushr, 1) := by decide +kernel
theorem dX5_numberOfTrailingZeros_48 : decode cX5_numberOfTrailingZeros 48 = .ok (.istore_n 0, 1) := by decide +kernel
theorem dX5_numberOfTrailingZeros_49 : decode cX5_numberOfTrailingZeros 49 = .ok (.iload_n 0, 1) := by decide +kernel
theorem dX5_numberOfTrailingZeros_50 : decode cX5_numberOfTrailingZeros 50 = .ok (.bipush 16, 2) := by decide +kernel
theorem dX5_numberOfTrailingZeros_52 : decode cX5_numberOfTrailingZeros 52 = .ok (.if_icmp .le 10, 3) := by decide +kernel
theorem dX5_numberOfTrailingZeros_55 : decode cX5_numberOfTrailingZeros 55 = .ok (.iinc 1 4, 3) := by decide +kernel
theorem dX5_numberOfTrailingZeros_58 : decode cX5_numberOfTrailingZeros 58 = .ok (.iload_n 0, 1) := by decide +kernel
theorem dX5_numberOfTrailingZeros_59 : decode cX5_numberOfTrailingZeros 59 = .ok (.iconst 4, 1) := by decide +kernel
theorem dX5_numberOfTrailingZeros_60 : decode cX5_numberOfTrailingZeros 60 = .ok (.iushr, 1) := by decide +kernel
theorem dX5_numberOfTrailingZeros_61 : decode cX5_numberOfTrailingZeros 61 = .ok (.istore_n 0, 1) := by decide +kernel
theorem dX5_numberOfTrailingZeros_62 : decode cX5_numberOfTrailingZeros 62 = .ok (.iload_n 0, 1) := by decide +kernel
theorem dX5_numberOfTrailingZeros_63 : decode cX5_numberOfTrailingZeros 63 = .ok (.iconst 4, 1) := by decide +kernel
theorem dX5_numberOfTrailingZeros_64 : decode cX5_numberOfTrailingZeros 64 = .ok (.if_icmp .le 10, 3) := by decide +kernel
theorem dX5_numberOfTrailingZeros_67 : decode cX5_numberOfTrailingZeros 67 = .ok (.iinc 1 2, 3) := by decide +kernel
theorem dX5_numberOfTrailingZeros_70 : decode cX5_numberOfTrailingZeros 70 = .ok (.iload_n 0, 1) := by decide +kernel
theorem dX5_numberOfTrailingZeros_71 : decode cX5_numberOfTrailingZeros 71 = .ok (.iconst 2, 1) := by decide +kernel
theorem dX5_numberOfTrailingZeros_72 : decode cX5_numberOfTrailingZeros 72 = .ok (.iushr, 1) := by decide +kernel
theorem dX5_numberOfTrailingZeros_73 : decode cX5_numberOfTrailingZeros 73 = .ok (.istore_n 0, 1) := by decide +kernel
theorem dX5_numberOfTrailingZeros_74 : decode cX5_numberOfTrailingZeros 74 = .ok (.iload_n 1, 1) := by decide +kernel
theorem dX5_numberOfTrailingZeros_75 : decode cX5_numberOfTrailingZeros 75 = .ok (.iload_n 0, 1) := by decide +kernel
theorem dX5_numberOfTrailingZeros_76 : decode cX5_numberOfTrailingZeros 76 = .ok (.iconst 1, 1) := by decide +kernel
theorem dX5_numberOfTrailingZeros_77 : decode cX5_numberOfTrailingZeros 77 = .ok (.iushr, 1) := by decide +kernel
theorem dX5_numberOfTrailingZeros_78 : decode cX5_numberOfTrailingZeros 78 = .ok (.iadd, 1) := by decide +kernel
theorem dX5_numberOfTrailingZeros_79 : decode cX5_numberOfTrailingZeros 79 = .ok (.ireturn, 1) := by decide +kernel
theorem dX5_reverse_0 : decode cX5_reverse 0 = .ok (.iload_n 0, 1) := by decide +kernel
theorem dX5_reverse_1 : decode cX5_reverse 1 = .ok (.ldc_w 265, 3) := by decide +kernel
theorem dX5_reverse_4 : decode cX5_reverse 4 = .ok (.iand, 1) := by decide +kernel
theorem dX5_reverse_5 : decode cX5_reverse 5 = .ok (.iconst 1, 1) := by decide +kernel
theorem dX5_reverse_6 : decode cX5_reverse 6 = .ok (.ishl, 1) := by decide +kernel
theorem dX5_reverse_7 : decode cX5_reverse 7 = .ok (.iload_n 0, 1) := by decide +kernel
theorem dX5_reverse_8 : decode cX5_reverse 8 = .ok (.iconst 1, 1) := by decide +kernel
theorem dX5_reverse_9 : decode cX5_reverse 9 = .ok (.iushr, 1) := by decide +kernel
theorem dX5_reverse_10 : decode cX5_reverse 10 = .ok (.ldc_w 265, 3) := by decide +kernel
theorem dX5_reverse_13 : decode cX5_reverse 13 = .ok (.iand, 1) := by decide +kernel
theorem dX5_reverse_14 : decode cX5_reverse 14 = .ok (.ior, 1) := by decide +kernel
theorem dX5_reverse_15 : decode cX5_reverse 15 = .ok (.istore_n 0, 1) := by decide +kernel
theorem dX5_reverse_16 : decode cX5_reverse 16 = .ok (.iload_n 0, 1) := by decide +kernel
theorem dX5_reverse_17 : decode cX5_reverse 17 = .ok (.ldc_w 266, 3) := by decide +kernel
theorem dX5_reverse_20 : decode cX5_reverse 20 = .ok (.iand, 1) := by decide +kernel
theorem dX5_reverse_21 : decode cX5_reverse 21 = .ok (.iconst 2, 1) := by decide +kernel
theorem dX5_reverse_22 : decode cX5_reverse 22 = .ok (.ishl, 1) := by decide +kernel
theorem dX5_reverse_23 : decode cX5_reverse 23 = .ok (.iload_n 0, 1) := by decide +kernel
theorem dX5_reverse_24 : decode cX5_reverse 24 = .ok (.iconst 2, 1) := by decide +kernel
theorem dX5_reverse_25 : decode cX5_reverse 25 = .ok (.iushr, 1) := by decide +kernel
theorem dX5_reverse_26 : decode cX5_reverse 26 = .ok (.ldc_w 266, 3) := by decide +kernel
theorem dX5_reverse_29 : decode cX5_reverse 29 = .ok (.iand, 1) := by decide +kernel
theorem dX5_reverse_30 : decode cX5_reverse 30 = .ok (.ior, 1) := by decide +kernel
theorem dX5_reverse_31 : decode cX5_reverse 31 = .ok (.istore_n 0, 1) := by decide +kernel
theorem dX5_reverse_32 : decode cX5_reverse 32 = .ok (.iload_n 0, 1) := by decide +kernel
theorem dX5_reverse_33 : decode cX5_reverse 33 = .ok (.ldc_w 267, 3) := by decide +kernel
theorem dX5_reverse_36 : decode cX5_reverse 36 = .ok (.iand, 1) := by decide +kernel
theorem dX5_reverse_37 : decode cX5_reverse 37 = .ok (.iconst 4, 1) := by decide +kernel
theorem dX5_reverse_38 : decode cX5_reverse 38 = .ok (.ishl, 1) := by decide +kernel
theorem dX5_reverse_39 : decode cX5_reverse 39 = .ok (.iload_n 0, 1) := by decide +kernel
theorem dX5_reverse_40 : decode cX5_reverse 40 = .ok (.iconst 4, 1) := by decide +kernel
theorem dX5_reverse_41 : decode cX5_reverse 41 = .ok (.iushr, 1) := by decide +kernel
theorem dX5_reverse_42 : decode cX5_reverse 42 = .ok (.ldc_w 267, 3) := by decide +kernel
theorem dX5_reverse_45 : decode cX5_reverse 45 = .ok (.iand, 1) := by decide +kernel
theorem dX5_reverse_46 : decode cX5_reverse 46 = .ok (.ior, 1) := by decide +kernel
theorem dX5_reverse_47 : decode cX5_reverse 47 = .ok (.istore_n 0, 1) := by decide +kernel
theorem dX5_reverse_48 : decode cX5_reverse 48 = .ok (.iload_n 0, 1) := by decide +kernel
theorem dX5_reverse_49 : decode cX5_reverse 49 = .ok (.invokestatic 268, 3) := by decide +kernel
theorem dX5_reverse_52 : decode cX5_reverse 52 = .ok (.ireturn, 1) := by decide +kernel
theorem dX5_reverseBytes_0 : decode cX5_reverseBytes 0 = .ok (.iload_n 0, 1) := by decide +kernel
theorem dX5_reverseBytes_1 : decode cX5_reverseBytes 1 = .ok (.bipush 24, 2) := by decide +kernel
theorem dX5_reverseBytes_3 : decode cX5_reverseBytes 3 = .ok (.ishl, 1) := by decide +kernel
theorem dX5_reverseBytes_4 : decode cX5_reverseBytes 4 = .ok (.iload_n 0, 1) := by decide +kernel
theorem dX5_reverseBytes_5 : decode cX5_reverseBytes 5 = .ok (.ldc_w 274, 3) := by decide +kernel
theorem dX5_reverseBytes_8 : decode cX5_reverseBytes 8 = .ok (.iand, 1) := by decide +kernel
theorem dX5_reverseBytes_9 : decode cX5_reverseBytes 9 = .ok (.bipush 8, 2) := by decide +kernel
theorem dX5_reverseBytes_11 : decode cX5_reverseBytes 11 = .ok (.ishl, 1) := by decide +kernel
theorem dX5_reverseBytes_12 : decode cX5_reverseBytes 12 = .ok (.ior, 1) := by decide +kernel
theorem dX5_reverseBytes_13 : decode cX5_reverseBytes 13 = .ok (.iload_n 0, 1) := by decide +kernel
theorem dX5_reverseBytes_14 : decode cX5_reverseBytes 14 = .ok (.bipush 8, 2) := by decide +kernel
theorem dX5_reverseBytes_16 : decode cX5_reverseBytes 16 = .ok (.iushr, 1) := by decide +kernel
theorem dX5_reverseBytes_17 : decode cX5_reverseBytes 17 = .ok (.ldc_w 274, 3) := by decide +kernel
theorem dX5_reverseBytes_20 : decode cX5_reverseBytes 20 = .ok (.iand, 1) := by decide +kernel
theorem dX5_reverseBytes_21 : decode cX5_reverseBytes 21 = .ok (.ior, 1) := by decide +kernel
theorem dX5_reverseBytes_22 : decode cX5_reverseBytes 22 = .ok (.iload_n 0, 1) := by decide +kernel
theorem dX5_reverseBytes_23 : decode cX5_reverseBytes 23 = .ok (.bipush 24, 2) := by decide +kernel
theorem dX5_reverseBytes_25 : decode cX5_reverseBytes 25 = .ok (.iushr, 1) := by decide +kernel
theorem dX5_reverseBytes_26 : decode cX5_reverseBytes 26 = .ok (.ior, 1) := by decide +kernel
theorem dX5_reverseBytes_27 : decode cX5_reverseBytes 27 = .ok (.ireturn, 1) := by decide +kernel
