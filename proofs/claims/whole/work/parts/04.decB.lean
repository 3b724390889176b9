theorem dX0_init_0 : decode cX0_init 0 = .ok (.aload_n 0, 1) := by decide +kernel
theorem dX0_init_1 : decode cX0_init 1 = .ok (.invokespecial 3, 3) := by decide +kernel
theorem dX0_init_4 : decode cX0_init 4 = .ok (.aload_n 0, 1) := by decide +kernel
theorem dX0_init_5 : decode cX0_init 5 = .ok (.bipush 6, 2) := by decide +kernel
theorem dX0_init_7 : decode cX0_init 7 = .ok (.anewarray 9, 3) := by decide +kernel
theorem dX0_init_10 : decode cX0_init 10 = .ok (.putfield 11, 3) := by decide +kernel
theorem dX0_init_13 : decode cX0_init 13 = .ok (.iconst 0, 1) := by decide +kernel
theorem dX0_init_14 : decode cX0_init 14 = .ok (.istore_n 1, 1) := by decide +kernel
theorem dX0_init_15 : decode cX0_init 15 = .ok (.iload_n 1, 1) := by decide +kernel
theorem dX0_init_16 : decode cX0_init 16 = .ok (.bipush 6, 2) := by decide +kernel
theorem dX0_init_18 : decode cX0_init 18 = .ok (.if_icmp .ge 22, 3) := by decide +kernel
theorem dX0_init_21 : decode cX0_init 21 = .ok (.aload_n 0, 1) := by decide +kernel
theorem dX0_init_22 : decode cX0_init 22 = .ok (.getfield 11, 3) := by decide +kernel
theorem dX0_init_25 : decode cX0_init 25 = .ok (.iload_n 1, 1) := by decide +kernel
theorem dX0_init_26 : decode cX0_init 26 = .ok (.new 9, 3) := by decide +kernel
theorem dX0_init_29 : decode cX0_init 29 = .ok (.dup, 1) := by decide +kernel
theorem dX0_init_30 : decode cX0_init 30 = .ok (.invokespecial 15, 3) := by decide +kernel
theorem dX0_init_33 : decode cX0_init 33 = .ok (.aastore, 1) := by decide +kernel
theorem dX0_init_34 : decode cX0_init 34 = .ok (.iinc 1 1, 3) := by decide +kernel
theorem dX0_init_37 : decode cX0_init 37 = .ok (.goto (-22), 3) := by decide +kernel
theorem dX0_init_40 : decode cX0_init 40 = .ok (.aload_n 0, 1) := by decide +kernel
theorem dX0_init_41 : decode cX0_init 41 = .ok (.new 16, 3) := by decide +kernel
theorem dX0_init_44 : decode cX0_init 44 = .ok (.dup, 1) := by decide +kernel
theorem dX0_init_45 : decode cX0_init 45 = .ok (.invokespecial 18, 3) := by decide +kernel
theorem dX0_init_48 : decode cX0_init 48 = .ok (.putfield 19, 3) := by decide +kernel
theorem dX0_init_51 : decode cX0_init 51 = .ok (.aload_n 0, 1) := by decide +kernel
theorem dX0_init_52 : decode cX0_init 52 = .ok (.new 9, 3) := by decide +kernel
theorem dX0_init_55 : decode cX0_init 55 = .ok (.dup, 1) := by decide +kernel
theorem dX0_init_56 : decode cX0_init 56 = .ok (.invokespecial 15, 3) := by decide +kernel
theorem dX0_init_59 : decode cX0_init 59 = .ok (.putfield 23, 3) := by decide +kernel
theorem dX0_init_62 : decode cX0_init 62 = .ok (.aload_n 0, 1) := by decide +kernel
theorem dX0_init_63 : decode cX0_init 63 = .ok (.new 27, 3) := by decide +kernel
theorem dX0_init_66 : decode cX0_init 66 = .ok (.dup, 1) := by decide +kernel
theorem dX0_init_67 : decode cX0_init 67 = .ok (.invokespecial 29, 3) := by decide +kernel
theorem dX0_init_70 : decode cX0_init 70 = .ok (.putfield 30, 3) := by decide +kernel
theorem dX0_init_73 : decode cX0_init 73 = .ok (.aload_n 0, 1) := by decide +kernel
theorem dX0_init_74 : decode cX0_init 74 = .ok (.new 9, 3) := by decide +kernel
theorem dX0_init_77 : decode cX0_init 77 = .ok (.dup, 1) := by decide +kernel
theorem dX0_init_78 : decode cX0_init 78 = .ok (.invokespecial 15, 3) := by decide +kernel
theorem dX0_init_81 : decode cX0_init 81 = .ok (.putfield 34, 3) := by decide +kernel
theorem dX0_init_84 : decode cX0_init 84 = .ok (.return_, 1) := by decide +kernel
theorem dX0_box_0 : decode cX0_box 0 = .ok (.iload_n 1, 1) := by decide +kernel
theorem dX0_box_1 : decode cX0_box 1 = .ok (.invokestatic 37, 3) := by decide +kernel
theorem dX0_box_4 : decode cX0_box 4 = .ok (.ifCond .ne 5, 3) := by decide +kernel
theorem dX0_box_7 : decode cX0_box 7 = .ok (.iconst (-1), 1) := by decide +kernel
theorem dX0_box_8 : decode cX0_box 8 = .ok (.ireturn, 1) := by decide +kernel
theorem dX0_box_9 : decode cX0_box 9 = .ok (.iload_n 2, 1) := by decide +kernel
theorem dX0_box_10 : decode cX0_box 10 = .ok (.iload 5, 2) := by decide +kernel
theorem dX0_box_12 : decode cX0_box 12 = .ok (.invokestatic 41, 3) := by decide +kernel
theorem dX0_box_15 : decode cX0_box 15 = .ok (.ifCond .eq 22, 3) := by decide +kernel
theorem dX0_box_18 : decode cX0_box 18 = .ok (.iload_n 3, 1) := by decide +kernel
theorem dX0_box_19 : decode cX0_box 19 = .ok (.iload 6, 2) := by decide +kernel
theorem dX0_box_21 : decode cX0_box 21 = .ok (.invokestatic 41, 3) := by decide +kernel
theorem dX0_box_24 : decode cX0_box 24 = .ok (.ifCond .eq 13, 3) := by decide +kernel
theorem dX0_box_27 : decode cX0_box 27 = .ok (.iload 4, 2) := by decide +kernel
theorem dX0_box_29 : decode cX0_box 29 = .ok (.iload 7, 2) := by decide +kernel
theorem dX0_box_31 : decode cX0_box 31 = .ok (.invokestatic 41, 3) := by decide +kernel
theorem dX0_box_34 : decode cX0_box 34 = .ok (.ifCond .ne 6, 3) := by decide +kernel
theorem dX0_box_37 : decode cX0_box 37 = .ok (.bipush (-2), 2) := by decide +kernel
theorem dX0_box_39 : decode cX0_box 39 = .ok (.ireturn, 1) := by decide +kernel
theorem dX0_box_40 : decode cX0_box 40 = .ok (.aload_n 0, 1) := by decide +kernel
theorem dX0_box_41 : decode cX0_box 41 = .ok (.getfield 34, 3) := by decide +kernel
theorem dX0_box_44 : decode cX0_box 44 = .ok (.iload_n 2, 1) := by decide +kernel
theorem dX0_box_45 : decode cX0_box 45 = .ok (.iload_n 3, 1) := by decide +kernel
theorem dX0_box_46 : decode cX0_box 46 = .ok (.iload 4, 2) := by decide +kernel
theorem dX0_box_48 : decode cX0_box 48 = .ok (.iload_n 2, 1) := by decide +kernel
theorem dX0_box_49 : decode cX0_box 49 = .ok (.iload 5, 2) := by decide +kernel
theorem dX0_box_51 : decode cX0_box 51 = .ok (.iadd, 1) := by decide +kernel
theorem dX0_box_52 : decode cX0_box 52 = .ok (.iconst 1, 1) := by decide +kernel
theorem dX0_box_53 : decode cX0_box 53 = .ok (.isub, 1) := by decide +kernel
theorem dX0_box_54 : decode cX0_box 54 = .ok (.iload_n 3, 1) := by decide +kernel
theorem dX0_box_55 : decode cX0_box 55 = .ok (.iload 6, 2) := by decide +kernel
theorem dX0_box_57 : decode cX0_box 57 = .ok (.iadd, 1) := by decide +kernel
theorem dX0_box_58 : decode cX0_box 58 = .ok (.iconst 1, 1) := by decide +kernel
theorem dX0_box_59 : decode cX0_box 59 = .ok (.isub, 1) := by decide +kernel
theorem dX0_box_60 : decode cX0_box 60 = .ok (.iload 4, 2) := by decide +kernel
theorem dX0_box_62 : decode cX0_box 62 = .ok (.iload 7, 2) := by decide +kernel
theorem dX0_box_64 : decode cX0_box 64 = .ok (.iadd, 1) := by decide +kernel
theorem dX0_box_65 : decode cX0_box 65 = .ok (.iconst 1, 1) := by decide +kernel
theorem dX0_box_66 : decode cX0_box 66 = .ok (.isub, 1) := by decide +kernel
theorem dX0_box_67 : decode cX0_box 67 = .ok (.invokevirtual 45, 3) := by decide +kernel
theorem dX0_box_70 : decode cX0_box 70 = .ok (.aload_n 0, 1) := by decide +kernel
theorem dX0_box_71 : decode cX0_box 71 = .ok (.iload_n 1, 1) := by decide +kernel
theorem dX0_box_72 : decode cX0_box 72 = .ok (.invokevirtual 49, 3) := by decide +kernel
theorem dX0_box_75 : decode cX0_box 75 = .ok (.ireturn, 1) := by decide +kernel
theorem dX0_join_0 : decode cX0_join 0 = .ok (.iload_n 1, 1) := by decide +kernel
theorem dX0_join_1 : decode cX0_join 1 = .ok (.invokestatic 37, 3) := by decide +kernel
theorem dX0_join_4 : decode cX0_join 4 = .ok (.ifCond .eq 28, 3) := by decide +kernel
theorem dX0_join_7 : decode cX0_join 7 = .ok (.iload_n 2, 1) := by decide +kernel
theorem dX0_join_8 : decode cX0_join 8 = .ok (.invokestatic 37, 3) := by decide +kernel
theorem dX0_join_11 : decode cX0_join 11 = .ok (.ifCond .eq 21, 3) := by decide +kernel
theorem dX0_join_14 : decode cX0_join 14 = .ok (.iload_n 3, 1) := by decide +kernel
theorem dX0_join_15 : decode cX0_join 15 = .ok (.invokestatic 37, 3) := by decide +kernel
theorem dX0_join_18 : decode cX0_join 18 = .ok (.ifCond .eq 14, 3) := by decide +kernel
theorem dX0_join_21 : decode cX0_join 21 = .ok (.iload 4, 2) := by decide +kernel
theorem dX0_join_23 : decode cX0_join 23 = .ok (.ifCond .lt 9, 3) := by decide +kernel
theorem dX0_join_26 : decode cX0_join 26 = .ok (.iload 4, 2) := by decide +kernel
theorem dX0_join_28 : decode cX0_join 28 = .ok (.iconst 3, 1) := by decide +kernel
theorem dX0_join_29 : decode cX0_join 29 = .ok (.if_icmp .le 5, 3) := by decide +kernel
theorem dX0_join_32 : decode cX0_join 32 = .ok (.iconst (-1), 1) := by decide +kernel
theorem dX0_join_33 : decode cX0_join 33 = .ok (.ireturn, 1) := by decide +kernel
theorem dX0_join_34 : decode cX0_join 34 = .ok (.aload_n 0, 1) := by decide +kernel
theorem dX0_join_35 : decode cX0_join 35 = .ok (.getfield 34, 3) := by decide +kernel
theorem dX0_join_38 : decode cX0_join 38 = .ok (.aload_n 0, 1) := by decide +kernel
theorem dX0_join_39 : decode cX0_join 39 = .ok (.getfield 11, 3) := by decide +kernel
theorem dX0_join_42 : decode cX0_join 42 = .ok (.iload_n 2, 1) := by decide +kernel
theorem dX0_join_43 : decode cX0_join 43 = .ok (.aaload, 1) := by decide +kernel
theorem dX0_join_44 : decode cX0_join 44 = .ok (.aload_n 0, 1) := by decide +kernel
theorem dX0_join_45 : decode cX0_join 45 = .ok (.getfield 11, 3) := by decide +kernel
theorem dX0_join_48 : decode cX0_join 48 = .ok (.iload_n 3, 1) := by decide +kernel
theorem dX0_join_49 : decode cX0_join 49 = .ok (.aaload, 1) := by decide +kernel
theorem dX0_join_50 : decode cX0_join 50 = .ok (.iload 4, 2) := by decide +kernel
theorem dX0_join_52 : decode cX0_join 52 = .ok (.invokevirtual 53, 3) := by decide +kernel
theorem dX0_join_55 : decode cX0_join 55 = .ok (.aload_n 0, 1) := by decide +kernel
theorem dX0_join_56 : decode cX0_join 56 = .ok (.iload_n 1, 1) := by decide +kernel
theorem dX0_join_57 : decode cX0_join 57 = .ok (.invokevirtual 49, 3) := by decide +kernel
theorem dX0_join_60 : decode cX0_join 60 = .ok (.ireturn, 1) := by decide +kernel
theorem dX0_turn_0 : decode cX0_turn 0 = .ok (.iload_n 1, 1) := by decide +kernel
theorem dX0_turn_1 : decode cX0_turn 1 = .ok (.invokestatic 37, 3) := by decide +kernel
theorem dX0_turn_4 : decode cX0_turn 4 = .ok (.ifCond .eq 10, 3) := by decide +kernel
theorem dX0_turn_7 : decode cX0_turn 7 = .ok (.iload_n 2, 1) := by decide +kernel
theorem dX0_turn_8 : decode cX0_turn 8 = .ok (.invokestatic 57, 3) := by decide +kernel
theorem dX0_turn_11 : decode cX0_turn 11 = .ok (.ifCond .ne 5, 3) := by decide +kernel
theorem dX0_turn_14 : decode cX0_turn 14 = .ok (.iconst (-1), 1) := by decide +kernel
theorem dX0_turn_15 : decode cX0_turn 15 = .ok (.ireturn, 1) := by decide +kernel
theorem dX0_turn_16 : decode cX0_turn 16 = .ok (.aload_n 0, 1) := by decide +kernel
theorem dX0_turn_17 : decode cX0_turn 17 = .ok (.getfield 34, 3) := by decide +kernel
theorem dX0_turn_20 : decode cX0_turn 20 = .ok (.aload_n 0, 1) := by decide +kernel
theorem dX0_turn_21 : decode cX0_turn 21 = .ok (.getfield 11, 3) := by decide +kernel
theorem dX0_turn_24 : decode cX0_turn 24 = .ok (.iload_n 1, 1) := by decide +kernel
theorem dX0_turn_25 : decode cX0_turn 25 = .ok (.aaload, 1) := by decide +kernel
theorem dX0_turn_26 : decode cX0_turn 26 = .ok (.iload_n 2, 1) := by decide +kernel
theorem dX0_turn_27 : decode cX0_turn 27 = .ok (.invokevirtual 60, 3) := by decide +kernel
theorem dX0_turn_30 : decode cX0_turn 30 = .ok (.aload_n 0, 1) := by decide +kernel
theorem dX0_turn_31 : decode cX0_turn 31 = .ok (.iload_n 1, 1) := by decide +kernel
theorem dX0_turn_32 : decode cX0_turn 32 = .ok (.invokevirtual 49, 3) := by decide +kernel
theorem dX0_turn_35 : decode cX0_turn 35 = .ok (.ireturn, 1) := by decide +kernel
theorem dX0_mirror_0 : decode cX0_mirror 0 = .ok (.iload_n 1, 1) := by decide +kernel
theorem dX0_mirror_1 : decode cX0_mirror 1 = .ok (.invokestatic 37, 3) := by decide +kernel
theorem dX0_mirror_4 : decode cX0_mirror 4 = .ok (.ifCond .eq 10, 3) := by decide +kernel
theorem dX0_mirror_7 : decode cX0_mirror 7 = .ok (.iload_n 2, 1) := by decide +kernel
theorem dX0_mirror_8 : decode cX0_mirror 8 = .ok (.invokestatic 57, 3) := by decide +kernel
theorem dX0_mirror_11 : decode cX0_mirror 11 = .ok (.ifCond .ne 5, 3) := by decide +kernel
theorem dX0_mirror_14 : decode cX0_mirror 14 = .ok (.iconst (-1), 1) := by decide +kernel
theorem dX0_mirror_15 : decode cX0_mirror 15 = .ok (.ireturn, 1) := by decide +kernel
theorem dX0_mirror_16 : decode cX0_mirror 16 = .ok (.aload_n 0, 1) := by decide +kernel
theorem dX0_mirror_17 : decode cX0_mirror 17 = .ok (.getfield 34, 3) := by decide +kernel
theorem dX0_mirror_20 : decode cX0_mirror 20 = .ok (.aload_n 0, 1) := by decide +kernel
theorem dX0_mirror_21 : decode cX0_mirror 21 = .ok (.getfield 11, 3) := by decide +kernel
theorem dX0_mirror_24 : decode cX0_mirror 24 = .ok (.iload_n 1, 1) := by decide +kernel
theorem dX0_mirror_25 : decode cX0_mirror 25 = .ok (.aaload, 1) := by decide +kernel
theorem dX0_mirror_26 : decode cX0_mirror 26 = .ok (.iload_n 2, 1) := by decide +kernel
theorem dX0_mirror_27 : decode cX0_mirror 27 = .ok (.invokevirtual 64, 3) := by decide +kernel
theorem dX0_mirror_30 : decode cX0_mirror 30 = .ok (.aload_n 0, 1) := by decide +kernel
theorem dX0_mirror_31 : decode cX0_mirror 31 = .ok (.iload_n 1, 1) := by decide +kernel
theorem dX0_mirror_32 : decode cX0_mirror 32 = .ok (.invokevirtual 49, 3) := by decide +kernel
theorem dX0_mirror_35 : decode cX0_mirror 35 = .ok (.ireturn, 1) := by decide +kernel
theorem dX0_shift_0 : decode cX0_shift 0 = .ok (.iload_n 1, 1) := by decide +kernel
theorem dX0_shift_1 : decode cX0_shift 1 = .ok (.invokestatic 37, 3) := by decide +kernel
theorem dX0_shift_4 : decode cX0_shift 4 = .ok (.ifCond .ne 5, 3) := by decide +kernel
theorem dX0_shift_7 : decode cX0_shift 7 = .ok (.iconst (-1), 1) := by decide +kernel
theorem dX0_shift_8 : decode cX0_shift 8 = .ok (.ireturn, 1) := by decide +kernel
theorem dX0_shift_9 : decode cX0_shift 9 = .ok (.aload_n 0, 1) := by decide +kernel
theorem dX0_shift_10 : decode cX0_shift 10 = .ok (.getfield 11, 3) := by decide +kernel
theorem dX0_shift_13 : decode cX0_shift 13 = .ok (.iload_n 1, 1) := by decide +kernel
theorem dX0_shift_14 : decode cX0_shift 14 = .ok (.aaload, 1) := by decide +kernel
theorem dX0_shift_15 : decode cX0_shift 15 = .ok (.astore 5, 2) := by decide +kernel
theorem dX0_shift_17 : decode cX0_shift 17 = .ok (.aload 5, 2) := by decide +kernel
theorem dX0_shift_19 : decode cX0_shift 19 = .ok (.iconst 0, 1) := by decide +kernel
theorem dX0_shift_20 : decode cX0_shift 20 = .ok (.iload_n 2, 1) := by decide +kernel
theorem dX0_shift_21 : decode cX0_shift 21 = .ok (.invokestatic 67, 3) := by decide +kernel
theorem dX0_shift_24 : decode cX0_shift 24 = .ok (.ifCond .ne 24, 3) := by decide +kernel
theorem dX0_shift_27 : decode cX0_shift 27 = .ok (.aload 5, 2) := by decide +kernel
theorem dX0_shift_29 : decode cX0_shift 29 = .ok (.iconst 1, 1) := by decide +kernel
theorem dX0_shift_30 : decode cX0_shift 30 = .ok (.iload_n 3, 1) := by decide +kernel
theorem dX0_shift_31 : decode cX0_shift 31 = .ok (.invokestatic 67, 3) := by decide +kernel
theorem dX0_shift_34 : decode cX0_shift 34 = .ok (.ifCond .ne 14, 3) := by decide +kernel
theorem dX0_shift_37 : decode cX0_shift 37 = .ok (.aload 5, 2) := by decide +kernel
theorem dX0_shift_39 : decode cX0_shift 39 = .ok (.iconst 2, 1) := by decide +kernel
theorem dX0_shift_40 : decode cX0_shift 40 = .ok (.iload 4, 2) := by decide +kernel
theorem dX0_shift_42 : decode cX0_shift 42 = .ok (.invokestatic 67, 3) := by decide +kernel
theorem dX0_shift_45 : decode cX0_shift 45 = .ok (.ifCond .eq 6, 3) := by decide +kernel
theorem dX0_shift_48 : decode cX0_shift 48 = .ok (.bipush (-2), 2) := by decide +kernel
theorem dX0_shift_50 : decode cX0_shift 50 = .ok (.ireturn, 1) := by decide +kernel
theorem dX0_shift_51 : decode cX0_shift 51 = .ok (.aload_n 0, 1) := by decide +kernel
theorem dX0_shift_52 : decode cX0_shift 52 = .ok (.getfield 34, 3) := by decide +kernel
theorem dX0_shift_55 : decode cX0_shift 55 = .ok (.aload 5, 2) := by decide +kernel
theorem dX0_shift_57 : decode cX0_shift 57 = .ok (.iload_n 2, 1) := by decide +kernel
theorem dX0_shift_58 : decode cX0_shift 58 = .ok (.iload_n 3, 1) := by decide +kernel
theorem dX0_shift_59 : decode cX0_shift 59 = .ok (.iload 4, 2) := by decide +kernel
theorem dX0_shift_61 : decode cX0_shift 61 = .ok (.invokevirtual 71, 3) := by decide +kernel
theorem dX0_shift_64 : decode cX0_shift 64 = .ok (.aload_n 0, 1) := by decide +kernel
theorem dX0_shift_65 : decode cX0_shift 65 = .ok (.iload_n 1, 1) := by decide +kernel
theorem dX0_shift_66 : decode cX0_shift 66 = .ok (.invokevirtual 49, 3) := by decide +kernel
theorem dX0_shift_69 : decode cX0_shift 69 = .ok (.ireturn, 1) := by decide +kernel
theorem dX0_sweep_0 : decode cX0_sweep 0 = .ok (.iload_n 1, 1) := by decide +kernel
theorem dX0_sweep_1 : decode cX0_sweep 1 = .ok (.invokestatic 37, 3) := by decide +kernel
theorem dX0_sweep_4 : decode cX0_sweep 4 = .ok (.ifCond .eq 25, 3) := by decide +kernel
theorem dX0_sweep_7 : decode cX0_sweep 7 = .ok (.iload_n 2, 1) := by decide +kernel
theorem dX0_sweep_8 : decode cX0_sweep 8 = .ok (.invokestatic 37, 3) := by decide +kernel
theorem dX0_sweep_11 : decode cX0_sweep 11 = .ok (.ifCond .eq 18, 3) := by decide +kernel
theorem dX0_sweep_14 : decode cX0_sweep 14 = .ok (.iload_n 3, 1) := by decide +kernel
theorem dX0_sweep_15 : decode cX0_sweep 15 = .ok (.invokestatic 57, 3) := by decide +kernel
theorem dX0_sweep_18 : decode cX0_sweep 18 = .ok (.ifCond .eq 11, 3) := by decide +kernel
theorem dX0_sweep_21 : decode cX0_sweep 21 = .ok (.iload 4, 2) := by decide +kernel
theorem dX0_sweep_23 : decode cX0_sweep 23 = .ok (.invokestatic 75, 3) := by decide +kernel
theorem dX0_sweep_26 : decode cX0_sweep 26 = .ok (.ifCond .ne 5, 3) := by decide +kernel
theorem dX0_sweep_29 : decode cX0_sweep 29 = .ok (.iconst (-1), 1) := by decide +kernel
theorem dX0_sweep_30 : decode cX0_sweep 30 = .ok (.ireturn, 1) := by decide +kernel
theorem dX0_sweep_31 : decode cX0_sweep 31 = .ok (.iload 5, 2) := by decide +kernel
theorem dX0_sweep_33 : decode cX0_sweep 33 = .ok (.iload 6, 2) := by decide +kernel
theorem dX0_sweep_35 : decode cX0_sweep 35 = .ok (.if_icmp .gt 19, 3) := by decide +kernel
theorem dX0_sweep_38 : decode cX0_sweep 38 = .ok (.iload 5, 2) := by decide +kernel
theorem dX0_sweep_40 : decode cX0_sweep 40 = .ok (.invokestatic 75, 3) := by decide +kernel
theorem dX0_sweep_43 : decode cX0_sweep 43 = .ok (.ifCond .eq 11, 3) := by decide +kernel
theorem dX0_sweep_46 : decode cX0_sweep 46 = .ok (.iload 6, 2) := by decide +kernel
theorem dX0_sweep_48 : decode cX0_sweep 48 = .ok (.invokestatic 75, 3) := by decide +kernel
theorem dX0_sweep_51 : decode cX0_sweep 51 = .ok (.ifCond .ne 6, 3) := by decide +kernel
theorem dX0_sweep_54 : decode cX0_sweep 54 = .ok (.bipush (-2), 2) := by decide +kernel
theorem dX0_sweep_56 : decode cX0_sweep 56 = .ok (.ireturn, 1) := by decide +kernel
theorem dX0_sweep_57 : decode cX0_sweep 57 = .ok (.aload_n 0, 1) := by decide +kernel
theorem dX0_sweep_58 : decode cX0_sweep 58 = .ok (.getfield 34, 3) := by decide +kernel
theorem dX0_sweep_61 : decode cX0_sweep 61 = .ok (.aload_n 0, 1) := by decide +kernel
theorem dX0_sweep_62 : decode cX0_sweep 62 = .ok (.getfield 11, 3) := by decide +kernel
theorem dX0_sweep_65 : decode cX0_sweep 65 = .ok (.iload_n 2, 1) := by decide +kernel
theorem dX0_sweep_66 : decode cX0_sweep 66 = .ok (.aaload, 1) := by decide +kernel
theorem dX0_sweep_67 : decode cX0_sweep 67 = .ok (.iload_n 3, 1) := by decide +kernel
theorem dX0_sweep_68 : decode cX0_sweep 68 = .ok (.iload 4, 2) := by decide +kernel
theorem dX0_sweep_70 : decode cX0_sweep 70 = .ok (.iload 5, 2) := by decide +kernel
theorem dX0_sweep_72 : decode cX0_sweep 72 = .ok (.iload 6, 2) := by decide +kernel
theorem dX0_sweep_74 : decode cX0_sweep 74 = .ok (.invokevirtual 78, 3) := by decide +kernel
theorem dX0_sweep_77 : decode cX0_sweep 77 = .ok (.aload_n 0, 1) := by decide +kernel
theorem dX0_sweep_78 : decode cX0_sweep 78 = .ok (.iload_n 1, 1) := by decide +kernel
theorem dX0_sweep_79 : decode cX0_sweep 79 = .ok (.invokevirtual 49, 3) := by decide +kernel
theorem dX0_sweep_82 : decode cX0_sweep 82 = .ok (.ireturn, 1) := by decide +kernel
theorem dX0_undo_0 : decode cX0_undo 0 = .ok (.aload_n 0, 1) := by decide +kernel
theorem dX0_undo_1 : decode cX0_undo 1 = .ok (.getfield 19, 3) := by decide +kernel
theorem dX0_undo_4 : decode cX0_undo 4 = .ok (.aload_n 0, 1) := by decide +kernel
theorem dX0_undo_5 : decode cX0_undo 5 = .ok (.getfield 11, 3) := by decide +kernel
theorem dX0_undo_8 : decode cX0_undo 8 = .ok (.invokevirtual 82, 3) := by decide +kernel
theorem dX0_undo_11 : decode cX0_undo 11 = .ok (.ireturn, 1) := by decide +kernel
theorem dX0_redo_0 : decode cX0_redo 0 = .ok (.aload_n 0, 1) := by decide +kernel
theorem dX0_redo_1 : decode cX0_redo 1 = .ok (.getfield 19, 3) := by decide +kernel
theorem dX0_redo_4 : decode cX0_redo 4 = .ok (.aload_n 0, 1) := by decide +kernel
theorem dX0_redo_5 : decode cX0_redo 5 = .ok (.getfield 11, 3) := by decide +kernel
theorem dX0_redo_8 : decode cX0_redo 8 = .ok (.invokevirtual 86, 3) := by decide +kernel
theorem dX0_redo_11 : decode cX0_redo 11 = .ok (.ireturn, 1) := by decide +kernel
theorem dX0_volume_0 : decode cX0_volume 0 = .ok (.iload_n 1, 1) := by decide +kernel
theorem dX0_volume_1 : decode cX0_volume 1 = .ok (.invokestatic 37, 3) := by decide +kernel
theorem dX0_volume_4 : decode cX0_volume 4 = .ok (.ifCond .eq 15, 3) := by decide +kernel
theorem dX0_volume_7 : decode cX0_volume 7 = .ok (.aload_n 0, 1) := by decide +kernel
theorem dX0_volume_8 : decode cX0_volume 8 = .ok (.getfield 11, 3) := by decide +kernel
theorem dX0_volume_11 : decode cX0_volume 11 = .ok (.iload_n 1, 1) := by decide +kernel
theorem dX0_volume_12 : decode cX0_volume 12 = .ok (.aaload, 1) := by decide +kernel
theorem dX0_volume_13 : decode cX0_volume 13 = .ok (.invokevirtual 89, 3) := by decide +kernel
theorem dX0_volume_16 : decode cX0_volume 16 = .ok (.goto 4, 3) := by decide +kernel
theorem dX0_volume_19 : decode cX0_volume 19 = .ok (.iconst (-1), 1) := by decide +kernel
theorem dX0_volume_20 : decode cX0_volume 20 = .ok (.ireturn, 1) := by decide +kernel
theorem dX0_sides_0 : decode cX0_sides 0 = .ok (.iload_n 1, 1) := by decide +kernel
theorem dX0_sides_1 : decode cX0_sides 1 = .ok (.invokestatic 37, 3) := by decide +kernel
theorem dX0_sides_4 : decode cX0_sides 4 = .ok (.ifCond .eq 15, 3) := by decide +kernel
theorem dX0_sides_7 : decode cX0_sides 7 = .ok (.aload_n 0, 1) := by decide +kernel
theorem dX0_sides_8 : decode cX0_sides 8 = .ok (.getfield 11, 3) := by decide +kernel
theorem dX0_sides_11 : decode cX0_sides 11 = .ok (.iload_n 1, 1) := by decide +kernel
theorem dX0_sides_12 : decode cX0_sides 12 = .ok (.aaload, 1) := by decide +kernel
theorem dX0_sides_13 : decode cX0_sides 13 = .ok (.invokevirtual 93, 3) := by decide +kernel
theorem dX0_sides_16 : decode cX0_sides 16 = .ok (.goto 4, 3) := by decide +kernel
theorem dX0_sides_19 : decode cX0_sides 19 = .ok (.iconst (-1), 1) := by decide +kernel
theorem dX0_sides_20 : decode cX0_sides 20 = .ok (.ireturn, 1) := by decide +kernel
theorem dX0_edges_0 : decode cX0_edges 0 = .ok (.iload_n 1, 1) := by decide +kernel
theorem dX0_edges_1 : decode cX0_edges 1 = .ok (.invokestatic 37, 3) := by decide +kernel
theorem dX0_edges_4 : decode cX0_edges 4 = .ok (.ifCond .eq 15, 3) := by decide +kernel
theorem dX0_edges_7 : decode cX0_edges 7 = .ok (.aload_n 0, 1) := by decide +kernel
theorem dX0_edges_8 : decode cX0_edges 8 = .ok (.getfield 11, 3) := by decide +kernel
theorem dX0_edges_11 : decode cX0_edges 11 = .ok (.iload_n 1, 1) := by decide +kernel
theorem dX0_edges_12 : decode cX0_edges 12 = .ok (.aaload, 1) := by decide +kernel
theorem dX0_edges_13 : decode cX0_edges 13 = .ok (.invokevirtual 96, 3) := by decide +kernel
theorem dX0_edges_16 : decode cX0_edges 16 = .ok (.goto 4, 3) := by decide +kernel
theorem dX0_edges_19 : decode cX0_edges 19 = .ok (.iconst (-1), 1) := by decide +kernel
theorem dX0_edges_20 : decode cX0_edges 20 = .ok (.ireturn, 1) := by decide +kernel
theorem dX0_pieces_0 : decode cX0_pieces 0 = .ok (.iload_n 1, 1) := by decide +kernel
theorem dX0_pieces_1 : decode cX0_pieces 1 = .ok (.invokestatic 37, 3) := by decide +kernel
theorem dX0_pieces_4 : decode cX0_pieces 4 = .ok (.ifCond .eq 19, 3) := by decide +kernel
theorem dX0_pieces_7 : decode cX0_pieces 7 = .ok (.aload_n 0, 1) := by decide +kernel
theorem dX0_pieces_8 : decode cX0_pieces 8 = .ok (.getfield 30, 3) := by decide +kernel
theorem dX0_pieces_11 : decode cX0_pieces 11 = .ok (.aload_n 0, 1) := by decide +kernel
theorem dX0_pieces_12 : decode cX0_pieces 12 = .ok (.getfield 11, 3) := by decide +kernel
theorem dX0_pieces_15 : decode cX0_pieces 15 = .ok (.iload_n 1, 1) := by decide +kernel
theorem dX0_pieces_16 : decode cX0_pieces 16 = .ok (.aaload, 1) := by decide +kernel
theorem dX0_pieces_17 : decode cX0_pieces 17 = .ok (.invokevirtual 99, 3) := by decide +kernel
theorem dX0_pieces_20 : decode cX0_pieces 20 = .ok (.goto 4, 3) := by decide +kernel
theorem dX0_pieces_23 : decode cX0_pieces 23 = .ok (.iconst (-1), 1) := by decide +kernel
theorem dX0_pieces_24 : decode cX0_pieces 24 = .ok (.ireturn, 1) := by decide +kernel
theorem dX0_hollows_0 : decode cX0_hollows 0 = .ok (.iload_n 1, 1) := by decide +kernel
theorem dX0_hollows_1 : decode cX0_hollows 1 = .ok (.invokestatic 37, 3) := by decide +kernel
theorem dX0_hollows_4 : decode cX0_hollows 4 = .ok (.ifCond .eq 19, 3) := by decide +kernel
theorem dX0_hollows_7 : decode cX0_hollows 7 = .ok (.aload_n 0, 1) := by decide +kernel
theorem dX0_hollows_8 : decode cX0_hollows 8 = .ok (.getfield 30, 3) := by decide +kernel
theorem dX0_hollows_11 : decode cX0_hollows 11 = .ok (.aload_n 0, 1) := by decide +kernel
theorem dX0_hollows_12 : decode cX0_hollows 12 = .ok (.getfield 11, 3) := by decide +kernel
theorem dX0_hollows_15 : decode cX0_hollows 15 = .ok (.iload_n 1, 1) := by decide +kernel
theorem dX0_hollows_16 : decode cX0_hollows 16 = .ok (.aaload, 1) := by decide +kernel
theorem dX0_hollows_17 : decode cX0_hollows 17 = .ok (.invokevirtual 103, 3) := by decide +kernel
theorem dX0_hollows_20 : decode cX0_hollows 20 = .ok (.goto 4, 3) := by decide +kernel
theorem dX0_hollows_23 : decode cX0_hollows 23 = .ok (.iconst (-1), 1) := by decide +kernel
theorem dX0_hollows_24 : decode cX0_hollows 24 = .ok (.ireturn, 1) := by decide +kernel
theorem dX0_moment_0 : decode cX0_moment 0 = .ok (.iload_n 1, 1) := by decide +kernel
theorem dX0_moment_1 : decode cX0_moment 1 = .ok (.invokestatic 37, 3) := by decide +kernel
theorem dX0_moment_4 : decode cX0_moment 4 = .ok (.ifCond .eq 10, 3) := by decide +kernel
theorem dX0_moment_7 : decode cX0_moment 7 = .ok (.iload_n 2, 1) := by decide +kernel
theorem dX0_moment_8 : decode cX0_moment 8 = .ok (.invokestatic 57, 3) := by decide +kernel
theorem dX0_moment_11 : decode cX0_moment 11 = .ok (.ifCond .ne 5, 3) := by decide +kernel
theorem dX0_moment_14 : decode cX0_moment 14 = .ok (.iconst (-1), 1) := by decide +kernel
theorem dX0_moment_15 : decode cX0_moment 15 = .ok (.ireturn, 1) := by decide +kernel
theorem dX0_moment_16 : decode cX0_moment 16 = .ok (.iconst 0, 1) := by decide +kernel
theorem dX0_moment_17 : decode cX0_moment 17 = .ok (.istore_n 3, 1) := by decide +kernel
theorem dX0_moment_18 : decode cX0_moment 18 = .ok (.iconst 0, 1) := by decide +kernel
theorem dX0_moment_19 : decode cX0_moment 19 = .ok (.istore 4, 2) := by decide +kernel
theorem dX0_moment_21 : decode cX0_moment 21 = .ok (.iload 4, 2) := by decide +kernel
theorem dX0_moment_23 : decode cX0_moment 23 = .ok (.bipush 12, 2) := by decide +kernel
theorem dX0_moment_25 : decode cX0_moment 25 = .ok (.if_icmp .ge 31, 3) := by decide +kernel
theorem dX0_moment_28 : decode cX0_moment 28 = .ok (.iload_n 3, 1) := by decide +kernel
theorem dX0_moment_29 : decode cX0_moment 29 = .ok (.iconst 2, 1) := by decide +kernel
theorem dX0_moment_30 : decode cX0_moment 30 = .ok (.iload 4, 2) := by decide +kernel
theorem dX0_moment_32 : decode cX0_moment 32 = .ok (.imul, 1) := by decide +kernel
theorem dX0_moment_33 : decode cX0_moment 33 = .ok (.iconst 1, 1) := by decide +kernel
theorem dX0_moment_34 : decode cX0_moment 34 = .ok (.iadd, 1) := by decide +kernel
theorem dX0_moment_35 : decode cX0_moment 35 = .ok (.aload_n 0, 1) := by decide +kernel
theorem dX0_moment_36 : decode cX0_moment 36 = .ok (.getfield 11, 3) := by decide +kernel
theorem dX0_moment_39 : decode cX0_moment 39 = .ok (.iload_n 1, 1) := by decide +kernel
theorem dX0_moment_40 : decode cX0_moment 40 = .ok (.aaload, 1) := by decide +kernel
theorem dX0_moment_41 : decode cX0_moment 41 = .ok (.iload_n 2, 1) := by decide +kernel
theorem dX0_moment_42 : decode cX0_moment 42 = .ok (.iload 4, 2) := by decide +kernel
theorem dX0_moment_44 : decode cX0_moment 44 = .ok (.invokevirtual 106, 3) := by decide +kernel
theorem dX0_moment_47 : decode cX0_moment 47 = .ok (.imul, 1) := by decide +kernel
theorem dX0_moment_48 : decode cX0_moment 48 = .ok (.iadd, 1) := by decide +kernel
theorem dX0_moment_49 : decode cX0_moment 49 = .ok (.istore_n 3, 1) := by decide +kernel
theorem dX0_moment_50 : decode cX0_moment 50 = .ok (.iinc 4 1, 3) := by decide +kernel
theorem dX0_moment_53 : decode cX0_moment 53 = .ok (.goto (-32), 3) := by decide +kernel
theorem dX0_moment_56 : decode cX0_moment 56 = .ok (.iload_n 3, 1) := by decide +kernel
theorem dX0_moment_57 : decode cX0_moment 57 = .ok (.ireturn, 1) := by decide +kernel
theorem dX0_extent_0 : decode cX0_extent 0 = .ok (.iload_n 1, 1) := by decide +kernel
theorem dX0_extent_1 : decode cX0_extent 1 = .ok (.invokestatic 37, 3) := by decide +kernel
theorem dX0_extent_4 : decode cX0_extent 4 = .ok (.ifCond .eq 10, 3) := by decide +kernel
theorem dX0_extent_7 : decode cX0_extent 7 = .ok (.iload_n 2, 1) := by decide +kernel
theorem dX0_extent_8 : decode cX0_extent 8 = .ok (.invokestatic 57, 3) := by decide +kernel
theorem dX0_extent_11 : decode cX0_extent 11 = .ok (.ifCond .ne 5, 3) := by decide +kernel
theorem dX0_extent_14 : decode cX0_extent 14 = .ok (.iconst (-1), 1) := by decide +kernel
theorem dX0_extent_15 : decode cX0_extent 15 = .ok (.ireturn, 1) := by decide +kernel
theorem dX0_extent_16 : decode cX0_extent 16 = .ok (.iload_n 3, 1) := by decide +kernel
theorem dX0_extent_17 : decode cX0_extent 17 = .ok (.ifCond .ne 14, 3) := by decide +kernel
theorem dX0_extent_20 : decode cX0_extent 20 = .ok (.aload_n 0, 1) := by decide +kernel
theorem dX0_extent_21 : decode cX0_extent 21 = .ok (.getfield 11, 3) := by decide +kernel
theorem dX0_extent_24 : decode cX0_extent 24 = .ok (.iload_n 1, 1) := by decide +kernel
theorem dX0_extent_25 : decode cX0_extent 25 = .ok (.aaload, 1) := by decide +kernel
theorem dX0_extent_26 : decode cX0_extent 26 = .ok (.iload_n 2, 1) := by decide +kernel
theorem dX0_extent_27 : decode cX0_extent 27 = .ok (.invokevirtual 110, 3) := by decide +kernel
theorem dX0_extent_30 : decode cX0_extent 30 = .ok (.ireturn, 1) := by decide +kernel
theorem dX0_extent_31 : decode cX0_extent 31 = .ok (.iload_n 3, 1) := by decide +kernel
theorem dX0_extent_32 : decode cX0_extent 32 = .ok (.iconst 1, 1) := by decide +kernel
theorem dX0_extent_33 : decode cX0_extent 33 = .ok (.if_icmp .ne 16, 3) := by decide +kernel
theorem dX0_extent_36 : decode cX0_extent 36 = .ok (.aload_n 0, 1) := by decide +kernel
theorem dX0_extent_37 : decode cX0_extent 37 = .ok (.getfield 11, 3) := by decide +kernel
theorem dX0_extent_40 : decode cX0_extent 40 = .ok (.iload_n 1, 1) := by decide +kernel
theorem dX0_extent_41 : decode cX0_extent 41 = .ok (.aaload, 1) := by decide +kernel
theorem dX0_extent_42 : decode cX0_extent 42 = .ok (.iload_n 2, 1) := by decide +kernel
theorem dX0_extent_43 : decode cX0_extent 43 = .ok (.invokevirtual 113, 3) := by decide +kernel
theorem dX0_extent_46 : decode cX0_extent 46 = .ok (.goto 4, 3) := by decide +kernel
theorem dX0_extent_49 : decode cX0_extent 49 = .ok (.iconst (-1), 1) := by decide +kernel
theorem dX0_extent_50 : decode cX0_extent 50 = .ok (.ireturn, 1) := by decide +kernel
theorem dX0_inside_0 : decode cX0_inside 0 = .ok (.iload_n 1, 1) := by decide +kernel
theorem dX0_inside_1 : decode cX0_inside 1 = .ok (.invokestatic 37, 3) := by decide +kernel
theorem dX0_inside_4 : decode cX0_inside 4 = .ok (.ifCond .eq 25, 3) := by decide +kernel
theorem dX0_inside_7 : decode cX0_inside 7 = .ok (.iload_n 2, 1) := by decide +kernel
theorem dX0_inside_8 : decode cX0_inside 8 = .ok (.invokestatic 116, 3) := by decide +kernel
theorem dX0_inside_11 : decode cX0_inside 11 = .ok (.ifCond .eq 18, 3) := by decide +kernel
theorem dX0_inside_14 : decode cX0_inside 14 = .ok (.iload_n 3, 1) := by decide +kernel
theorem dX0_inside_15 : decode cX0_inside 15 = .ok (.invokestatic 116, 3) := by decide +kernel
theorem dX0_inside_18 : decode cX0_inside 18 = .ok (.ifCond .eq 11, 3) := by decide +kernel
theorem dX0_inside_21 : decode cX0_inside 21 = .ok (.iload 4, 2) := by decide +kernel
theorem dX0_inside_23 : decode cX0_inside 23 = .ok (.invokestatic 116, 3) := by decide +kernel
theorem dX0_inside_26 : decode cX0_inside 26 = .ok (.ifCond .ne 6, 3) := by decide +kernel
theorem dX0_inside_29 : decode cX0_inside 29 = .ok (.bipush (-9), 2) := by decide +kernel
theorem dX0_inside_31 : decode cX0_inside 31 = .ok (.ireturn, 1) := by decide +kernel
theorem dX0_inside_32 : decode cX0_inside 32 = .ok (.aload_n 0, 1) := by decide +kernel
theorem dX0_inside_33 : decode cX0_inside 33 = .ok (.getfield 11, 3) := by decide +kernel
theorem dX0_inside_36 : decode cX0_inside 36 = .ok (.iload_n 1, 1) := by decide +kernel
theorem dX0_inside_37 : decode cX0_inside 37 = .ok (.aaload, 1) := by decide +kernel
theorem dX0_inside_38 : decode cX0_inside 38 = .ok (.iload_n 2, 1) := by decide +kernel
theorem dX0_inside_39 : decode cX0_inside 39 = .ok (.iload_n 3, 1) := by decide +kernel
theorem dX0_inside_40 : decode cX0_inside 40 = .ok (.iload 4, 2) := by decide +kernel
theorem dX0_inside_42 : decode cX0_inside 42 = .ok (.invokevirtual 119, 3) := by decide +kernel
theorem dX0_inside_45 : decode cX0_inside 45 = .ok (.istore 5, 2) := by decide +kernel
theorem dX0_inside_47 : decode cX0_inside 47 = .ok (.iload 5, 2) := by decide +kernel
theorem dX0_inside_49 : decode cX0_inside 49 = .ok (.ifCond .ne 5, 3) := by decide +kernel
theorem dX0_inside_52 : decode cX0_inside 52 = .ok (.iconst (-1), 1) := by decide +kernel
theorem dX0_inside_53 : decode cX0_inside 53 = .ok (.ireturn, 1) := by decide +kernel
theorem dX0_inside_54 : decode cX0_inside 54 = .ok (.iload 5, 2) := by decide +kernel
theorem dX0_inside_56 : decode cX0_inside 56 = .ok (.bipush 8, 2) := by decide +kernel
theorem dX0_inside_58 : decode cX0_inside 58 = .ok (.if_icmp .ne 7, 3) := by decide +kernel
theorem dX0_inside_61 : decode cX0_inside 61 = .ok (.iconst 1, 1) := by decide +kernel
theorem dX0_inside_62 : decode cX0_inside 62 = .ok (.goto 4, 3) := by decide +kernel
theorem dX0_inside_65 : decode cX0_inside 65 = .ok (.iconst 0, 1) := by decide +kernel
theorem dX0_inside_66 : decode cX0_inside 66 = .ok (.ireturn, 1) := by decide +kernel
theorem dX0_section_0 : decode cX0_section 0 = .ok (.iload_n 1, 1) := by decide +kernel
theorem dX0_section_1 : decode cX0_section 1 = .ok (.invokestatic 37, 3) := by decide +kernel
theorem dX0_section_4 : decode cX0_section 4 = .ok (.ifCond .eq 17, 3) := by decide +kernel
theorem dX0_section_7 : decode cX0_section 7 = .ok (.iload_n 2, 1) := by decide +kernel
theorem dX0_section_8 : decode cX0_section 8 = .ok (.invokestatic 57, 3) := by decide +kernel
theorem dX0_section_11 : decode cX0_section 11 = .ok (.ifCond .eq 10, 3) := by decide +kernel
theorem dX0_section_14 : decode cX0_section 14 = .ok (.iload_n 3, 1) := by decide +kernel
theorem dX0_section_15 : decode cX0_section 15 = .ok (.invokestatic 75, 3) := by decide +kernel
theorem dX0_section_18 : decode cX0_section 18 = .ok (.ifCond .ne 5, 3) := by decide +kernel
theorem dX0_section_21 : decode cX0_section 21 = .ok (.iconst (-1), 1) := by decide +kernel
theorem dX0_section_22 : decode cX0_section 22 = .ok (.ireturn, 1) := by decide +kernel
theorem dX0_section_23 : decode cX0_section 23 = .ok (.aload_n 0, 1) := by decide +kernel
theorem dX0_section_24 : decode cX0_section 24 = .ok (.getfield 11, 3) := by decide +kernel
theorem dX0_section_27 : decode cX0_section 27 = .ok (.iload_n 1, 1) := by decide +kernel
theorem dX0_section_28 : decode cX0_section 28 = .ok (.aaload, 1) := by decide +kernel
theorem dX0_section_29 : decode cX0_section 29 = .ok (.iload_n 2, 1) := by decide +kernel
theorem dX0_section_30 : decode cX0_section 30 = .ok (.iload_n 3, 1) := by decide +kernel
theorem dX0_section_31 : decode cX0_section 31 = .ok (.invokevirtual 106, 3) := by decide +kernel
theorem dX0_section_34 : decode cX0_section 34 = .ok (.ireturn, 1) := by decide +kernel
theorem dX0_same_0 : decode cX0_same 0 = .ok (.iload_n 1, 1) := by decide +kernel
theorem dX0_same_1 : decode cX0_same 1 = .ok (.invokestatic 37, 3) := by decide +kernel
theorem dX0_same_4 : decode cX0_same 4 = .ok (.ifCond .eq 32, 3) := by decide +kernel
theorem dX0_same_7 : decode cX0_same 7 = .ok (.iload_n 2, 1) := by decide +kernel
theorem dX0_same_8 : decode cX0_same 8 = .ok (.invokestatic 37, 3) := by decide +kernel
theorem dX0_same_11 : decode cX0_same 11 = .ok (.ifCond .eq 25, 3) := by decide +kernel
theorem dX0_same_14 : decode cX0_same 14 = .ok (.aload_n 0, 1) := by decide +kernel
theorem dX0_same_15 : decode cX0_same 15 = .ok (.getfield 11, 3) := by decide +kernel
theorem dX0_same_18 : decode cX0_same 18 = .ok (.iload_n 1, 1) := by decide +kernel
theorem dX0_same_19 : decode cX0_same 19 = .ok (.aaload, 1) := by decide +kernel
theorem dX0_same_20 : decode cX0_same 20 = .ok (.aload_n 0, 1) := by decide +kernel
theorem dX0_same_21 : decode cX0_same 21 = .ok (.getfield 11, 3) := by decide +kernel
theorem dX0_same_24 : decode cX0_same 24 = .ok (.iload_n 2, 1) := by decide +kernel
theorem dX0_same_25 : decode cX0_same 25 = .ok (.aaload, 1) := by decide +kernel
theorem dX0_same_26 : decode cX0_same 26 = .ok (.invokevirtual 123, 3) := by decide +kernel
theorem dX0_same_29 : decode cX0_same 29 = .ok (.ifCond .eq 7, 3) := by decide +kernel
theorem dX0_same_32 : decode cX0_same 32 = .ok (.iconst 1, 1) := by decide +kernel
theorem dX0_same_33 : decode cX0_same 33 = .ok (.goto 4, 3) := by decide +kernel
theorem dX0_same_36 : decode cX0_same 36 = .ok (.iconst 0, 1) := by decide +kernel
theorem dX0_same_37 : decode cX0_same 37 = .ok (.ireturn, 1) := by decide +kernel
theorem dX0_depth_0 : decode cX0_depth 0 = .ok (.iload_n 1, 1) := by decide +kernel
theorem dX0_depth_1 : decode cX0_depth 1 = .ok (.invokestatic 37, 3) := by decide +kernel
theorem dX0_depth_4 : decode cX0_depth 4 = .ok (.ifCond .eq 26, 3) := by decide +kernel
theorem dX0_depth_7 : decode cX0_depth 7 = .ok (.iload_n 2, 1) := by decide +kernel
theorem dX0_depth_8 : decode cX0_depth 8 = .ok (.invokestatic 57, 3) := by decide +kernel
theorem dX0_depth_11 : decode cX0_depth 11 = .ok (.ifCond .eq 19, 3) := by decide +kernel
theorem dX0_depth_14 : decode cX0_depth 14 = .ok (.iload 4, 2) := by decide +kernel
theorem dX0_depth_16 : decode cX0_depth 16 = .ok (.invokestatic 75, 3) := by decide +kernel
theorem dX0_depth_19 : decode cX0_depth 19 = .ok (.ifCond .eq 11, 3) := by decide +kernel
theorem dX0_depth_22 : decode cX0_depth 22 = .ok (.iload 5, 2) := by decide +kernel
theorem dX0_depth_24 : decode cX0_depth 24 = .ok (.invokestatic 75, 3) := by decide +kernel
theorem dX0_depth_27 : decode cX0_depth 27 = .ok (.ifCond .ne 5, 3) := by decide +kernel
theorem dX0_depth_30 : decode cX0_depth 30 = .ok (.iconst (-1), 1) := by decide +kernel
theorem dX0_depth_31 : decode cX0_depth 31 = .ok (.ireturn, 1) := by decide +kernel
theorem dX0_depth_32 : decode cX0_depth 32 = .ok (.aload_n 0, 1) := by decide +kernel
theorem dX0_depth_33 : decode cX0_depth 33 = .ok (.getfield 11, 3) := by decide +kernel
theorem dX0_depth_36 : decode cX0_depth 36 = .ok (.iload_n 1, 1) := by decide +kernel
theorem dX0_depth_37 : decode cX0_depth 37 = .ok (.aaload, 1) := by decide +kernel
theorem dX0_depth_38 : decode cX0_depth 38 = .ok (.iload_n 2, 1) := by decide +kernel
theorem dX0_depth_39 : decode cX0_depth 39 = .ok (.iload 4, 2) := by decide +kernel
theorem dX0_depth_41 : decode cX0_depth 41 = .ok (.iload 5, 2) := by decide +kernel
theorem dX0_depth_43 : decode cX0_depth 43 = .ok (.invokevirtual 127, 3) := by decide +kernel
theorem dX0_depth_46 : decode cX0_depth 46 = .ok (.iload_n 3, 1) := by decide +kernel
theorem dX0_depth_47 : decode cX0_depth 47 = .ok (.invokestatic 130, 3) := by decide +kernel
theorem dX0_depth_50 : decode cX0_depth 50 = .ok (.ireturn, 1) := by decide +kernel
theorem dX0_stroke_0 : decode cX0_stroke 0 = .ok (.iload_n 1, 1) := by decide +kernel
theorem dX0_stroke_1 : decode cX0_stroke 1 = .ok (.invokestatic 37, 3) := by decide +kernel
theorem dX0_stroke_4 : decode cX0_stroke 4 = .ok (.ifCond .eq 22, 3) := by decide +kernel
theorem dX0_stroke_7 : decode cX0_stroke 7 = .ok (.iload_n 2, 1) := by decide +kernel
theorem dX0_stroke_8 : decode cX0_stroke 8 = .ok (.invokestatic 57, 3) := by decide +kernel
theorem dX0_stroke_11 : decode cX0_stroke 11 = .ok (.ifCond .eq 15, 3) := by decide +kernel
theorem dX0_stroke_14 : decode cX0_stroke 14 = .ok (.iload 4, 2) := by decide +kernel
theorem dX0_stroke_16 : decode cX0_stroke 16 = .ok (.iload 5, 2) := by decide +kernel
theorem dX0_stroke_18 : decode cX0_stroke 18 = .ok (.iload 6, 2) := by decide +kernel
theorem dX0_stroke_20 : decode cX0_stroke 20 = .ok (.invokestatic 134, 3) := by decide +kernel
theorem dX0_stroke_23 : decode cX0_stroke 23 = .ok (.ifCond .ne 5, 3) := by decide +kernel
theorem dX0_stroke_26 : decode cX0_stroke 26 = .ok (.iconst (-1), 1) := by decide +kernel
theorem dX0_stroke_27 : decode cX0_stroke 27 = .ok (.ireturn, 1) := by decide +kernel
theorem dX0_stroke_28 : decode cX0_stroke 28 = .ok (.aload_n 0, 1) := by decide +kernel
theorem dX0_stroke_29 : decode cX0_stroke 29 = .ok (.getfield 11, 3) := by decide +kernel
theorem dX0_stroke_32 : decode cX0_stroke 32 = .ok (.iload_n 1, 1) := by decide +kernel
theorem dX0_stroke_33 : decode cX0_stroke 33 = .ok (.aaload, 1) := by decide +kernel
theorem dX0_stroke_34 : decode cX0_stroke 34 = .ok (.iload_n 2, 1) := by decide +kernel
theorem dX0_stroke_35 : decode cX0_stroke 35 = .ok (.iload 4, 2) := by decide +kernel
theorem dX0_stroke_37 : decode cX0_stroke 37 = .ok (.iconst 1, 1) := by decide +kernel
theorem dX0_stroke_38 : decode cX0_stroke 38 = .ok (.isub, 1) := by decide +kernel
theorem dX0_stroke_39 : decode cX0_stroke 39 = .ok (.iload 6, 2) := by decide +kernel
theorem dX0_stroke_41 : decode cX0_stroke 41 = .ok (.iadd, 1) := by decide +kernel
theorem dX0_stroke_42 : decode cX0_stroke 42 = .ok (.iload 5, 2) := by decide +kernel
theorem dX0_stroke_44 : decode cX0_stroke 44 = .ok (.iload 6, 2) := by decide +kernel
theorem dX0_stroke_46 : decode cX0_stroke 46 = .ok (.isub, 1) := by decide +kernel
theorem dX0_stroke_47 : decode cX0_stroke 47 = .ok (.invokevirtual 127, 3) := by decide +kernel
theorem dX0_stroke_50 : decode cX0_stroke 50 = .ok (.istore 7, 2) := by decide +kernel
theorem dX0_stroke_52 : decode cX0_stroke 52 = .ok (.iload 7, 2) := by decide +kernel
theorem dX0_stroke_54 : decode cX0_stroke 54 = .ok (.aload_n 0, 1) := by decide +kernel
theorem dX0_stroke_55 : decode cX0_stroke 55 = .ok (.getfield 11, 3) := by decide +kernel
theorem dX0_stroke_58 : decode cX0_stroke 58 = .ok (.iload_n 1, 1) := by decide +kernel
theorem dX0_stroke_59 : decode cX0_stroke 59 = .ok (.aaload, 1) := by decide +kernel
theorem dX0_stroke_60 : decode cX0_stroke 60 = .ok (.iload_n 2, 1) := by decide +kernel
theorem dX0_stroke_61 : decode cX0_stroke 61 = .ok (.iload 4, 2) := by decide +kernel
theorem dX0_stroke_63 : decode cX0_stroke 63 = .ok (.iload 5, 2) := by decide +kernel
theorem dX0_stroke_65 : decode cX0_stroke 65 = .ok (.invokevirtual 127, 3) := by decide +kernel
theorem dX0_stroke_68 : decode cX0_stroke 68 = .ok (.iload_n 3, 1) := by decide +kernel
theorem dX0_stroke_69 : decode cX0_stroke 69 = .ok (.invokestatic 138, 3) := by decide +kernel
theorem dX0_stroke_72 : decode cX0_stroke 72 = .ok (.ireturn, 1) := by decide +kernel
theorem dX0_strokes_0 : decode cX0_strokes 0 = .ok (.iload_n 1, 1) := by decide +kernel
theorem dX0_strokes_1 : decode cX0_strokes 1 = .ok (.invokestatic 37, 3) := by decide +kernel
theorem dX0_strokes_4 : decode cX0_strokes 4 = .ok (.ifCond .eq 22, 3) := by decide +kernel
theorem dX0_strokes_7 : decode cX0_strokes 7 = .ok (.iload_n 2, 1) := by decide +kernel
theorem dX0_strokes_8 : decode cX0_strokes 8 = .ok (.invokestatic 57, 3) := by decide +kernel
theorem dX0_strokes_11 : decode cX0_strokes 11 = .ok (.ifCond .eq 15, 3) := by decide +kernel
theorem dX0_strokes_14 : decode cX0_strokes 14 = .ok (.iload 4, 2) := by decide +kernel
theorem dX0_strokes_16 : decode cX0_strokes 16 = .ok (.iconst 1, 1) := by decide +kernel
theorem dX0_strokes_17 : decode cX0_strokes 17 = .ok (.if_icmp .eq 11, 3) := by decide +kernel
theorem dX0_strokes_20 : decode cX0_strokes 20 = .ok (.iload 4, 2) := by decide +kernel
theorem dX0_strokes_22 : decode cX0_strokes 22 = .ok (.iconst 2, 1) := by decide +kernel
theorem dX0_strokes_23 : decode cX0_strokes 23 = .ok (.if_icmp .eq 5, 3) := by decide +kernel
theorem dX0_strokes_26 : decode cX0_strokes 26 = .ok (.iconst (-1), 1) := by decide +kernel
theorem dX0_strokes_27 : decode cX0_strokes 27 = .ok (.ireturn, 1) := by decide +kernel
theorem dX0_strokes_28 : decode cX0_strokes 28 = .ok (.aload_n 0, 1) := by decide +kernel
theorem dX0_strokes_29 : decode cX0_strokes 29 = .ok (.getfield 23, 3) := by decide +kernel
theorem dX0_strokes_32 : decode cX0_strokes 32 = .ok (.aload_n 0, 1) := by decide +kernel
theorem dX0_strokes_33 : decode cX0_strokes 33 = .ok (.getfield 11, 3) := by decide +kernel
theorem dX0_strokes_36 : decode cX0_strokes 36 = .ok (.iload_n 1, 1) := by decide +kernel
theorem dX0_strokes_37 : decode cX0_strokes 37 = .ok (.aaload, 1) := by decide +kernel
theorem dX0_strokes_38 : decode cX0_strokes 38 = .ok (.iload_n 2, 1) := by decide +kernel
theorem dX0_strokes_39 : decode cX0_strokes 39 = .ok (.invokevirtual 142, 3) := by decide +kernel
theorem dX0_strokes_42 : decode cX0_strokes 42 = .ok (.iconst 0, 1) := by decide +kernel
theorem dX0_strokes_43 : decode cX0_strokes 43 = .ok (.istore 5, 2) := by decide +kernel
theorem dX0_strokes_45 : decode cX0_strokes 45 = .ok (.iconst 0, 1) := by decide +kernel
theorem dX0_strokes_46 : decode cX0_strokes 46 = .ok (.istore 6, 2) := by decide +kernel
theorem dX0_strokes_48 : decode cX0_strokes 48 = .ok (.iload 6, 2) := by decide +kernel
theorem dX0_strokes_50 : decode cX0_strokes 50 = .ok (.bipush 12, 2) := by decide +kernel
theorem dX0_strokes_52 : decode cX0_strokes 52 = .ok (.if_icmp .gt 92, 3) := by decide +kernel
theorem dX0_strokes_55 : decode cX0_strokes 55 = .ok (.iconst 0, 1) := by decide +kernel
theorem dX0_strokes_56 : decode cX0_strokes 56 = .ok (.istore 7, 2) := by decide +kernel
theorem dX0_strokes_58 : decode cX0_strokes 58 = .ok (.iload 7, 2) := by decide +kernel
theorem dX0_strokes_60 : decode cX0_strokes 60 = .ok (.bipush 12, 2) := by decide +kernel
theorem dX0_strokes_62 : decode cX0_strokes 62 = .ok (.if_icmp .gt 76, 3) := by decide +kernel
theorem dX0_strokes_65 : decode cX0_strokes 65 = .ok (.aload_n 0, 1) := by decide +kernel
theorem dX0_strokes_66 : decode cX0_strokes 66 = .ok (.getfield 23, 3) := by decide +kernel
theorem dX0_strokes_69 : decode cX0_strokes 69 = .ok (.iload 6, 2) := by decide +kernel
theorem dX0_strokes_71 : decode cX0_strokes 71 = .ok (.iload 7, 2) := by decide +kernel
theorem dX0_strokes_73 : decode cX0_strokes 73 = .ok (.invokevirtual 145, 3) := by decide +kernel
theorem dX0_strokes_76 : decode cX0_strokes 76 = .ok (.istore 8, 2) := by decide +kernel
theorem dX0_strokes_78 : decode cX0_strokes 78 = .ok (.aload_n 0, 1) := by decide +kernel
theorem dX0_strokes_79 : decode cX0_strokes 79 = .ok (.getfield 23, 3) := by decide +kernel
theorem dX0_strokes_82 : decode cX0_strokes 82 = .ok (.iload 6, 2) := by decide +kernel
theorem dX0_strokes_84 : decode cX0_strokes 84 = .ok (.iconst 1, 1) := by decide +kernel
theorem dX0_strokes_85 : decode cX0_strokes 85 = .ok (.isub, 1) := by decide +kernel
theorem dX0_strokes_86 : decode cX0_strokes 86 = .ok (.iload 7, 2) := by decide +kernel
theorem dX0_strokes_88 : decode cX0_strokes 88 = .ok (.invokevirtual 145, 3) := by decide +kernel
theorem dX0_strokes_91 : decode cX0_strokes 91 = .ok (.iload 8, 2) := by decide +kernel
theorem dX0_strokes_93 : decode cX0_strokes 93 = .ok (.iload_n 3, 1) := by decide +kernel
theorem dX0_strokes_94 : decode cX0_strokes 94 = .ok (.invokestatic 138, 3) := by decide +kernel
theorem dX0_strokes_97 : decode cX0_strokes 97 = .ok (.iload 4, 2) := by decide +kernel
theorem dX0_strokes_99 : decode cX0_strokes 99 = .ok (.if_icmp .ne 6, 3) := by decide +kernel
theorem dX0_strokes_102 : decode cX0_strokes 102 = .ok (.iinc 5 1, 3) := by decide +kernel
theorem dX0_strokes_105 : decode cX0_strokes 105 = .ok (.aload_n 0, 1) := by decide +kernel
theorem dX0_strokes_106 : decode cX0_strokes 106 = .ok (.getfield 23, 3) := by decide +kernel
theorem dX0_strokes_109 : decode cX0_strokes 109 = .ok (.iload 6, 2) := by decide +kernel
theorem dX0_strokes_111 : decode cX0_strokes 111 = .ok (.iload 7, 2) := by decide +kernel
theorem dX0_strokes_113 : decode cX0_strokes 113 = .ok (.iconst 1, 1) := by decide +kernel
theorem dX0_strokes_114 : decode cX0_strokes 114 = .ok (.isub, 1) := by decide +kernel
theorem dX0_strokes_115 : decode cX0_strokes 115 = .ok (.invokevirtual 145, 3) := by decide +kernel
theorem dX0_strokes_118 : decode cX0_strokes 118 = .ok (.iload 8, 2) := by decide +kernel
theorem dX0_strokes_120 : decode cX0_strokes 120 = .ok (.iload_n 3, 1) := by decide +kernel
theorem dX0_strokes_121 : decode cX0_strokes 121 = .ok (.invokestatic 138, 3) := by decide +kernel
theorem dX0_strokes_124 : decode cX0_strokes 124 = .ok (.iload 4, 2) := by decide +kernel
theorem dX0_strokes_126 : decode cX0_strokes 126 = .ok (.if_icmp .ne 6, 3) := by decide +kernel
theorem dX0_strokes_129 : decode cX0_strokes 129 = .ok (.iinc 5 1, 3) := by decide +kernel
theorem dX0_strokes_132 : decode cX0_strokes 132 = .ok (.iinc 7 1, 3) := by decide +kernel
theorem dX0_strokes_135 : decode cX0_strokes 135 = .ok (.goto (-77), 3) := by decide +kernel
theorem dX0_strokes_138 : decode cX0_strokes 138 = .ok (.iinc 6 1, 3) := by decide +kernel
theorem dX0_strokes_141 : decode cX0_strokes 141 = .ok (.goto (-93), 3) := by decide +kernel
theorem dX0_strokes_144 : decode cX0_strokes 144 = .ok (.iload 5, 2) := by decide +kernel
theorem dX0_strokes_146 : decode cX0_strokes 146 = .ok (.ireturn, 1) := by decide +kernel
theorem dX0_takeStep_0 : decode cX0_takeStep 0 = .ok (.aload_n 0, 1) := by decide +kernel
theorem dX0_takeStep_1 : decode cX0_takeStep 1 = .ok (.getfield 11, 3) := by decide +kernel
theorem dX0_takeStep_4 : decode cX0_takeStep 4 = .ok (.iload_n 1, 1) := by decide +kernel
theorem dX0_takeStep_5 : decode cX0_takeStep 5 = .ok (.aaload, 1) := by decide +kernel
theorem dX0_takeStep_6 : decode cX0_takeStep 6 = .ok (.astore_n 2, 1) := by decide +kernel
theorem dX0_takeStep_7 : decode cX0_takeStep 7 = .ok (.aload_n 0, 1) := by decide +kernel
theorem dX0_takeStep_8 : decode cX0_takeStep 8 = .ok (.getfield 11, 3) := by decide +kernel
theorem dX0_takeStep_11 : decode cX0_takeStep 11 = .ok (.iload_n 1, 1) := by decide +kernel
theorem dX0_takeStep_12 : decode cX0_takeStep 12 = .ok (.aload_n 0, 1) := by decide +kernel
theorem dX0_takeStep_13 : decode cX0_takeStep 13 = .ok (.getfield 34, 3) := by decide +kernel
theorem dX0_takeStep_16 : decode cX0_takeStep 16 = .ok (.aastore, 1) := by decide +kernel
theorem dX0_takeStep_17 : decode cX0_takeStep 17 = .ok (.aload_n 0, 1) := by decide +kernel
theorem dX0_takeStep_18 : decode cX0_takeStep 18 = .ok (.aload_n 0, 1) := by decide +kernel
theorem dX0_takeStep_19 : decode cX0_takeStep 19 = .ok (.getfield 19, 3) := by decide +kernel
theorem dX0_takeStep_22 : decode cX0_takeStep 22 = .ok (.iload_n 1, 1) := by decide +kernel
theorem dX0_takeStep_23 : decode cX0_takeStep 23 = .ok (.aload_n 2, 1) := by decide +kernel
theorem dX0_takeStep_24 : decode cX0_takeStep 24 = .ok (.invokevirtual 148, 3) := by decide +kernel
theorem dX0_takeStep_27 : decode cX0_takeStep 27 = .ok (.putfield 34, 3) := by decide +kernel
theorem dX0_takeStep_30 : decode cX0_takeStep 30 = .ok (.aload_n 0, 1) := by decide +kernel
theorem dX0_takeStep_31 : decode cX0_takeStep 31 = .ok (.getfield 11, 3) := by decide +kernel
theorem dX0_takeStep_34 : decode cX0_takeStep 34 = .ok (.iload_n 1, 1) := by decide +kernel
theorem dX0_takeStep_35 : decode cX0_takeStep 35 = .ok (.aaload, 1) := by decide +kernel
theorem dX0_takeStep_36 : decode cX0_takeStep 36 = .ok (.invokevirtual 89, 3) := by decide +kernel
theorem dX0_takeStep_39 : decode cX0_takeStep 39 = .ok (.ireturn, 1) := by decide +kernel
theorem dX0_isSolid_0 : decode cX0_isSolid 0 = .ok (.iload_n 0, 1) := by decide +kernel
theorem dX0_isSolid_1 : decode cX0_isSolid 1 = .ok (.ifCond .lt 13, 3) := by decide +kernel
theorem dX0_isSolid_4 : decode cX0_isSolid 4 = .ok (.iload_n 0, 1) := by decide +kernel
theorem dX0_isSolid_5 : decode cX0_isSolid 5 = .ok (.bipush 6, 2) := by decide +kernel
theorem dX0_isSolid_7 : decode cX0_isSolid 7 = .ok (.if_icmp .ge 7, 3) := by decide +kernel
theorem dX0_isSolid_10 : decode cX0_isSolid 10 = .ok (.iconst 1, 1) := by decide +kernel
theorem dX0_isSolid_11 : decode cX0_isSolid 11 = .ok (.goto 4, 3) := by decide +kernel
theorem dX0_isSolid_14 : decode cX0_isSolid 14 = .ok (.iconst 0, 1) := by decide +kernel
theorem dX0_isSolid_15 : decode cX0_isSolid 15 = .ok (.ireturn, 1) := by decide +kernel
theorem dX0_isAxis_0 : decode cX0_isAxis 0 = .ok (.iload_n 0, 1) := by decide +kernel
theorem dX0_isAxis_1 : decode cX0_isAxis 1 = .ok (.ifCond .lt 12, 3) := by decide +kernel
theorem dX0_isAxis_4 : decode cX0_isAxis 4 = .ok (.iload_n 0, 1) := by decide +kernel
theorem dX0_isAxis_5 : decode cX0_isAxis 5 = .ok (.iconst 3, 1) := by decide +kernel
theorem dX0_isAxis_6 : decode cX0_isAxis 6 = .ok (.if_icmp .ge 7, 3) := by decide +kernel
theorem dX0_isAxis_9 : decode cX0_isAxis 9 = .ok (.iconst 1, 1) := by decide +kernel
theorem dX0_isAxis_10 : decode cX0_isAxis 10 = .ok (.goto 4, 3) := by decide +kernel
theorem dX0_isAxis_13 : decode cX0_isAxis 13 = .ok (.iconst 0, 1) := by decide +kernel
theorem dX0_isAxis_14 : decode cX0_isAxis 14 = .ok (.ireturn, 1) := by decide +kernel
theorem dX0_isCoordinate_0 : decode cX0_isCoordinate 0 = .ok (.iload_n 0, 1) := by decide +kernel
theorem dX0_isCoordinate_1 : decode cX0_isCoordinate 1 = .ok (.ifCond .lt 13, 3) := by decide +kernel
theorem dX0_isCoordinate_4 : decode cX0_isCoordinate 4 = .ok (.iload_n 0, 1) := by decide +kernel
theorem dX0_isCoordinate_5 : decode cX0_isCoordinate 5 = .ok (.bipush 12, 2) := by decide +kernel
theorem dX0_isCoordinate_7 : decode cX0_isCoordinate 7 = .ok (.if_icmp .ge 7, 3) := by decide +kernel
theorem dX0_isCoordinate_10 : decode cX0_isCoordinate 10 = .ok (.iconst 1, 1) := by decide +kernel
theorem dX0_isCoordinate_11 : decode cX0_isCoordinate 11 = .ok (.goto 4, 3) := by decide +kernel
theorem dX0_isCoordinate_14 : decode cX0_isCoordinate 14 = .ok (.iconst 0, 1) := by decide +kernel
theorem dX0_isCoordinate_15 : decode cX0_isCoordinate 15 = .ok (.ireturn, 1) := by decide +kernel
theorem dX0_isPlane_0 : decode cX0_isPlane 0 = .ok (.iload_n 0, 1) := by decide +kernel
theorem dX0_isPlane_1 : decode cX0_isPlane 1 = .ok (.ifCond .lt 13, 3) := by decide +kernel
theorem dX0_isPlane_4 : decode cX0_isPlane 4 = .ok (.iload_n 0, 1) := by decide +kernel
theorem dX0_isPlane_5 : decode cX0_isPlane 5 = .ok (.bipush 12, 2) := by decide +kernel
theorem dX0_isPlane_7 : decode cX0_isPlane 7 = .ok (.if_icmp .gt 7, 3) := by decide +kernel
theorem dX0_isPlane_10 : decode cX0_isPlane 10 = .ok (.iconst 1, 1) := by decide +kernel
theorem dX0_isPlane_11 : decode cX0_isPlane 11 = .ok (.goto 4, 3) := by decide +kernel
theorem dX0_isPlane_14 : decode cX0_isPlane 14 = .ok (.iconst 0, 1) := by decide +kernel
theorem dX0_isPlane_15 : decode cX0_isPlane 15 = .ok (.ireturn, 1) := by decide +kernel
theorem dX0_isStretch_0 : decode cX0_isStretch 0 = .ok (.iload_n 0, 1) := by decide +kernel
theorem dX0_isStretch_1 : decode cX0_isStretch 1 = .ok (.invokestatic 75, 3) := by decide +kernel
theorem dX0_isStretch_4 : decode cX0_isStretch 4 = .ok (.ifCond .eq 20, 3) := by decide +kernel
theorem dX0_isStretch_7 : decode cX0_isStretch 7 = .ok (.iload_n 1, 1) := by decide +kernel
theorem dX0_isStretch_8 : decode cX0_isStretch 8 = .ok (.iconst 1, 1) := by decide +kernel
theorem dX0_isStretch_9 : decode cX0_isStretch 9 = .ok (.if_icmp .lt 15, 3) := by decide +kernel
theorem dX0_isStretch_12 : decode cX0_isStretch 12 = .ok (.iload_n 1, 1) := by decide +kernel
theorem dX0_isStretch_13 : decode cX0_isStretch 13 = .ok (.bipush 12, 2) := by decide +kernel
theorem dX0_isStretch_15 : decode cX0_isStretch 15 = .ok (.iload_n 0, 1) := by decide +kernel
theorem dX0_isStretch_16 : decode cX0_isStretch 16 = .ok (.isub, 1) := by decide +kernel
theorem dX0_isStretch_17 : decode cX0_isStretch 17 = .ok (.if_icmp .gt 7, 3) := by decide +kernel
theorem dX0_isStretch_20 : decode cX0_isStretch 20 = .ok (.iconst 1, 1) := by decide +kernel
theorem dX0_isStretch_21 : decode cX0_isStretch 21 = .ok (.goto 4, 3) := by decide +kernel
theorem dX0_isStretch_24 : decode cX0_isStretch 24 = .ok (.iconst 0, 1) := by decide +kernel
theorem dX0_isStretch_25 : decode cX0_isStretch 25 = .ok (.ireturn, 1) := by decide +kernel
theorem dX0_isStrokePlace_0 : decode cX0_isStrokePlace 0 = .ok (.iload_n 2, 1) := by decide +kernel
theorem dX0_isStrokePlace_1 : decode cX0_isStrokePlace 1 = .ok (.ifCond .ne 23, 3) := by decide +kernel
theorem dX0_isStrokePlace_4 : decode cX0_isStrokePlace 4 = .ok (.iload_n 0, 1) := by decide +kernel
theorem dX0_isStrokePlace_5 : decode cX0_isStrokePlace 5 = .ok (.invokestatic 116, 3) := by decide +kernel
theorem dX0_isStrokePlace_8 : decode cX0_isStrokePlace 8 = .ok (.ifCond .eq 14, 3) := by decide +kernel
theorem dX0_isStrokePlace_11 : decode cX0_isStrokePlace 11 = .ok (.iload_n 1, 1) := by decide +kernel
theorem dX0_isStrokePlace_12 : decode cX0_isStrokePlace 12 = .ok (.invokestatic 75, 3) := by decide +kernel
theorem dX0_isStrokePlace_15 : decode cX0_isStrokePlace 15 = .ok (.ifCond .eq 7, 3) := by decide +kernel
theorem dX0_isStrokePlace_18 : decode cX0_isStrokePlace 18 = .ok (.iconst 1, 1) := by decide +kernel
theorem dX0_isStrokePlace_19 : decode cX0_isStrokePlace 19 = .ok (.goto 4, 3) := by decide +kernel
theorem dX0_isStrokePlace_22 : decode cX0_isStrokePlace 22 = .ok (.iconst 0, 1) := by decide +kernel
theorem dX0_isStrokePlace_23 : decode cX0_isStrokePlace 23 = .ok (.ireturn, 1) := by decide +kernel
theorem dX0_isStrokePlace_24 : decode cX0_isStrokePlace 24 = .ok (.iload_n 2, 1) := by decide +kernel
theorem dX0_isStrokePlace_25 : decode cX0_isStrokePlace 25 = .ok (.iconst 1, 1) := by decide +kernel
theorem dX0_isStrokePlace_26 : decode cX0_isStrokePlace 26 = .ok (.if_icmp .ne 21, 3) := by decide +kernel
theorem dX0_isStrokePlace_29 : decode cX0_isStrokePlace 29 = .ok (.iload_n 0, 1) := by decide +kernel
theorem dX0_isStrokePlace_30 : decode cX0_isStrokePlace 30 = .ok (.invokestatic 75, 3) := by decide +kernel
theorem dX0_isStrokePlace_33 : decode cX0_isStrokePlace 33 = .ok (.ifCond .eq 14, 3) := by decide +kernel
theorem dX0_isStrokePlace_36 : decode cX0_isStrokePlace 36 = .ok (.iload_n 1, 1) := by decide +kernel
theorem dX0_isStrokePlace_37 : decode cX0_isStrokePlace 37 = .ok (.invokestatic 116, 3) := by decide +kernel
theorem dX0_isStrokePlace_40 : decode cX0_isStrokePlace 40 = .ok (.ifCond .eq 7, 3) := by decide +kernel
theorem dX0_isStrokePlace_43 : decode cX0_isStrokePlace 43 = .ok (.iconst 1, 1) := by decide +kernel
theorem dX0_isStrokePlace_44 : decode cX0_isStrokePlace 44 = .ok (.goto 4, 3) := by decide +kernel
theorem dX0_isStrokePlace_47 : decode cX0_isStrokePlace 47 = .ok (.iconst 0, 1) := by decide +kernel
theorem dX0_isStrokePlace_48 : decode cX0_isStrokePlace 48 = .ok (.ireturn, 1) := by decide +kernel
theorem dX0_wouldLeave_0 : decode cX0_wouldLeave 0 = .ok (.aload_n 0, 1) := by decide +kernel
theorem dX0_wouldLeave_1 : decode cX0_wouldLeave 1 = .ok (.iload_n 1, 1) := by decide +kernel
theorem dX0_wouldLeave_2 : decode cX0_wouldLeave 2 = .ok (.invokevirtual 110, 3) := by decide +kernel
theorem dX0_wouldLeave_5 : decode cX0_wouldLeave 5 = .ok (.istore_n 3, 1) := by decide +kernel
theorem dX0_wouldLeave_6 : decode cX0_wouldLeave 6 = .ok (.iload_n 3, 1) := by decide +kernel
theorem dX0_wouldLeave_7 : decode cX0_wouldLeave 7 = .ok (.bipush 12, 2) := by decide +kernel
theorem dX0_wouldLeave_9 : decode cX0_wouldLeave 9 = .ok (.if_icmp .ne 5, 3) := by decide +kernel
theorem dX0_wouldLeave_12 : decode cX0_wouldLeave 12 = .ok (.iconst 0, 1) := by decide +kernel
theorem dX0_wouldLeave_13 : decode cX0_wouldLeave 13 = .ok (.ireturn, 1) := by decide +kernel
theorem dX0_wouldLeave_14 : decode cX0_wouldLeave 14 = .ok (.iload_n 2, 1) := by decide +kernel
theorem dX0_wouldLeave_15 : decode cX0_wouldLeave 15 = .ok (.iload_n 3, 1) := by decide +kernel
theorem dX0_wouldLeave_16 : decode cX0_wouldLeave 16 = .ok (.ineg, 1) := by decide +kernel
theorem dX0_wouldLeave_17 : decode cX0_wouldLeave 17 = .ok (.if_icmp .lt 15, 3) := by decide +kernel
theorem dX0_wouldLeave_20 : decode cX0_wouldLeave 20 = .ok (.iload_n 2, 1) := by decide +kernel
theorem dX0_wouldLeave_21 : decode cX0_wouldLeave 21 = .ok (.bipush 11, 2) := by decide +kernel
theorem dX0_wouldLeave_23 : decode cX0_wouldLeave 23 = .ok (.aload_n 0, 1) := by decide +kernel
theorem dX0_wouldLeave_24 : decode cX0_wouldLeave 24 = .ok (.iload_n 1, 1) := by decide +kernel
theorem dX0_wouldLeave_25 : decode cX0_wouldLeave 25 = .ok (.invokevirtual 113, 3) := by decide +kernel
theorem dX0_wouldLeave_28 : decode cX0_wouldLeave 28 = .ok (.isub, 1) := by decide +kernel
theorem dX0_wouldLeave_29 : decode cX0_wouldLeave 29 = .ok (.if_icmp .le 7, 3) := by decide +kernel
theorem dX0_wouldLeave_32 : decode cX0_wouldLeave 32 = .ok (.iconst 1, 1) := by decide +kernel
theorem dX0_wouldLeave_33 : decode cX0_wouldLeave 33 = .ok (.goto 4, 3) := by decide +kernel
theorem dX0_wouldLeave_36 : decode cX0_wouldLeave 36 = .ok (.iconst 0, 1) := by decide +kernel
theorem dX0_wouldLeave_37 : decode cX0_wouldLeave 37 = .ok (.ireturn, 1) := by decide +kernel
theorem dX0_depthOf_0 : decode cX0_depthOf 0 = .ok (.iload_n 0, 1) := by decide +kernel
theorem dX0_depthOf_1 : decode cX0_depthOf 1 = .ok (.ifCond .ne 6, 3) := by decide +kernel
theorem dX0_depthOf_4 : decode cX0_depthOf 4 = .ok (.bipush 12, 2) := by decide +kernel
theorem dX0_depthOf_6 : decode cX0_depthOf 6 = .ok (.ireturn, 1) := by decide +kernel
theorem dX0_depthOf_7 : decode cX0_depthOf 7 = .ok (.iload_n 1, 1) := by decide +kernel
theorem dX0_depthOf_8 : decode cX0_depthOf 8 = .ok (.ifCond .eq 11, 3) := by decide +kernel
theorem dX0_depthOf_11 : decode cX0_depthOf 11 = .ok (.iload_n 0, 1) := by decide +kernel
theorem dX0_depthOf_12 : decode cX0_depthOf 12 = .ok (.invokestatic 152, 3) := by decide +kernel
theorem dX0_depthOf_15 : decode cX0_depthOf 15 = .ok (.bipush 20, 2) := by decide +kernel
theorem dX0_depthOf_17 : decode cX0_depthOf 17 = .ok (.isub, 1) := by decide +kernel
theorem dX0_depthOf_18 : decode cX0_depthOf 18 = .ok (.ireturn, 1) := by decide +kernel
theorem dX0_depthOf_19 : decode cX0_depthOf 19 = .ok (.iload_n 0, 1) := by decide +kernel
theorem dX0_depthOf_20 : decode cX0_depthOf 20 = .ok (.invokestatic 157, 3) := by decide +kernel
theorem dX0_depthOf_23 : decode cX0_depthOf 23 = .ok (.ireturn, 1) := by decide +kernel
theorem dX0_strokeBetween_0 : decode cX0_strokeBetween 0 = .ok (.iload_n 0, 1) := by decide +kernel
theorem dX0_strokeBetween_1 : decode cX0_strokeBetween 1 = .ok (.iload_n 2, 1) := by decide +kernel
theorem dX0_strokeBetween_2 : decode cX0_strokeBetween 2 = .ok (.invokestatic 130, 3) := by decide +kernel
theorem dX0_strokeBetween_5 : decode cX0_strokeBetween 5 = .ok (.iload_n 1, 1) := by decide +kernel
theorem dX0_strokeBetween_6 : decode cX0_strokeBetween 6 = .ok (.iload_n 2, 1) := by decide +kernel
theorem dX0_strokeBetween_7 : decode cX0_strokeBetween 7 = .ok (.invokestatic 130, 3) := by decide +kernel
theorem dX0_strokeBetween_10 : decode cX0_strokeBetween 10 = .ok (.if_icmp .eq 5, 3) := by decide +kernel
theorem dX0_strokeBetween_13 : decode cX0_strokeBetween 13 = .ok (.iconst 2, 1) := by decide +kernel
theorem dX0_strokeBetween_14 : decode cX0_strokeBetween 14 = .ok (.ireturn, 1) := by decide +kernel
theorem dX0_strokeBetween_15 : decode cX0_strokeBetween 15 = .ok (.iload_n 0, 1) := by decide +kernel
theorem dX0_strokeBetween_16 : decode cX0_strokeBetween 16 = .ok (.iload_n 1, 1) := by decide +kernel
theorem dX0_strokeBetween_17 : decode cX0_strokeBetween 17 = .ok (.invokestatic 160, 3) := by decide +kernel
theorem dX0_strokeBetween_20 : decode cX0_strokeBetween 20 = .ok (.ifCond .eq 7, 3) := by decide +kernel
theorem dX0_strokeBetween_23 : decode cX0_strokeBetween 23 = .ok (.iconst 1, 1) := by decide +kernel
theorem dX0_strokeBetween_24 : decode cX0_strokeBetween 24 = .ok (.goto 4, 3) := by decide +kernel
theorem dX0_strokeBetween_27 : decode cX0_strokeBetween 27 = .ok (.iconst 0, 1) := by decide +kernel
theorem dX0_strokeBetween_28 : decode cX0_strokeBetween 28 = .ok (.ireturn, 1) := by decide +kernel
theorem dX0_edgesBetween_0 : decode cX0_edgesBetween 0 = .ok (.iload_n 0, 1) := by decide +kernel
theorem dX0_edgesBetween_1 : decode cX0_edgesBetween 1 = .ok (.iload_n 0, 1) := by decide +kernel
theorem dX0_edgesBetween_2 : decode cX0_edgesBetween 2 = .ok (.iconst 1, 1) := by decide +kernel
theorem dX0_edgesBetween_3 : decode cX0_edgesBetween 3 = .ok (.ishl, 1) := by decide +kernel
theorem dX0_edgesBetween_4 : decode cX0_edgesBetween 4 = .ok (.iload_n 1, 1) := by decide +kernel
theorem dX0_edgesBetween_5 : decode cX0_edgesBetween 5 = .ok (.iload_n 1, 1) := by decide +kernel
theorem dX0_edgesBetween_6 : decode cX0_edgesBetween 6 = .ok (.iconst 1, 1) := by decide +kernel
theorem dX0_edgesBetween_7 : decode cX0_edgesBetween 7 = .ok (.ishl, 1) := by decide +kernel
theorem dX0_edgesBetween_8 : decode cX0_edgesBetween 8 = .ok (.invokestatic 163, 3) := by decide +kernel
theorem dX0_edgesBetween_11 : decode cX0_edgesBetween 11 = .ok (.ireturn, 1) := by decide +kernel
theorem dX0_edgesAmong_0 : decode cX0_edgesAmong 0 = .ok (.iload_n 0, 1) := by decide +kernel
theorem dX0_edgesAmong_1 : decode cX0_edgesAmong 1 = .ok (.iload_n 1, 1) := by decide +kernel
theorem dX0_edgesAmong_2 : decode cX0_edgesAmong 2 = .ok (.ixor, 1) := by decide +kernel
theorem dX0_edgesAmong_3 : decode cX0_edgesAmong 3 = .ok (.iload_n 2, 1) := by decide +kernel
theorem dX0_edgesAmong_4 : decode cX0_edgesAmong 4 = .ok (.iload_n 3, 1) := by decide +kernel
theorem dX0_edgesAmong_5 : decode cX0_edgesAmong 5 = .ok (.ixor, 1) := by decide +kernel
theorem dX0_edgesAmong_6 : decode cX0_edgesAmong 6 = .ok (.ior, 1) := by decide +kernel
theorem dX0_edgesAmong_7 : decode cX0_edgesAmong 7 = .ok (.iload_n 0, 1) := by decide +kernel
theorem dX0_edgesAmong_8 : decode cX0_edgesAmong 8 = .ok (.iload_n 2, 1) := by decide +kernel
theorem dX0_edgesAmong_9 : decode cX0_edgesAmong 9 = .ok (.ixor, 1) := by decide +kernel
theorem dX0_edgesAmong_10 : decode cX0_edgesAmong 10 = .ok (.iload_n 1, 1) := by decide +kernel
theorem dX0_edgesAmong_11 : decode cX0_edgesAmong 11 = .ok (.iload_n 3, 1) := by decide +kernel
theorem dX0_edgesAmong_12 : decode cX0_edgesAmong 12 = .ok (.ixor, 1) := by decide +kernel
theorem dX0_edgesAmong_13 : decode cX0_edgesAmong 13 = .ok (.ior, 1) := by decide +kernel
theorem dX0_edgesAmong_14 : decode cX0_edgesAmong 14 = .ok (.iand, 1) := by decide +kernel
theorem dX0_edgesAmong_15 : decode cX0_edgesAmong 15 = .ok (.ireturn, 1) := by decide +kernel
