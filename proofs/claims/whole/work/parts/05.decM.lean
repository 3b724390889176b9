theorem dX4_init_0 : decode cX4_init 0 = .ok (.aload_n 0, 1) := by decide +kernel
theorem dX4_init_1 : decode cX4_init 1 = .ok (.invokespecial 1, 3) := by decide +kernel
theorem dX4_init_4 : decode cX4_init 4 = .ok (.aload_n 0, 1) := by decide +kernel
theorem dX4_init_5 : decode cX4_init 5 = .ok (.sipush 4464, 3) := by decide +kernel
theorem dX4_init_8 : decode cX4_init 8 = .ok (.newarray .int, 2) := by decide +kernel
theorem dX4_init_10 : decode cX4_init 10 = .ok (.putfield 7, 3) := by decide +kernel
theorem dX4_init_13 : decode cX4_init 13 = .ok (.aload_n 0, 1) := by decide +kernel
theorem dX4_init_14 : decode cX4_init 14 = .ok (.bipush 12, 2) := by decide +kernel
theorem dX4_init_16 : decode cX4_init 16 = .ok (.newarray .int, 2) := by decide +kernel
theorem dX4_init_18 : decode cX4_init 18 = .ok (.putfield 13, 3) := by decide +kernel
theorem dX4_init_21 : decode cX4_init 21 = .ok (.aload_n 0, 1) := by decide +kernel
theorem dX4_init_22 : decode cX4_init 22 = .ok (.sipush 144, 3) := by decide +kernel
theorem dX4_init_25 : decode cX4_init 25 = .ok (.newarray .int, 2) := by decide +kernel
theorem dX4_init_27 : decode cX4_init 27 = .ok (.putfield 16, 3) := by decide +kernel
theorem dX4_init_30 : decode cX4_init 30 = .ok (.aload_n 0, 1) := by decide +kernel
theorem dX4_init_31 : decode cX4_init 31 = .ok (.sipush 1728, 3) := by decide +kernel
theorem dX4_init_34 : decode cX4_init 34 = .ok (.newarray .int, 2) := by decide +kernel
theorem dX4_init_36 : decode cX4_init 36 = .ok (.putfield 19, 3) := by decide +kernel
theorem dX4_init_39 : decode cX4_init 39 = .ok (.return_, 1) := by decide +kernel
theorem dX4_isIn_0 : decode cX4_isIn 0 = .ok (.iload_n 0, 1) := by decide +kernel
theorem dX4_isIn_1 : decode cX4_isIn 1 = .ok (.ifCond .lt 12, 3) := by decide +kernel
theorem dX4_isIn_4 : decode cX4_isIn 4 = .ok (.iload_n 0, 1) := by decide +kernel
theorem dX4_isIn_5 : decode cX4_isIn 5 = .ok (.iload_n 1, 1) := by decide +kernel
theorem dX4_isIn_6 : decode cX4_isIn 6 = .ok (.if_icmp .ge 7, 3) := by decide +kernel
theorem dX4_isIn_9 : decode cX4_isIn 9 = .ok (.iconst 1, 1) := by decide +kernel
theorem dX4_isIn_10 : decode cX4_isIn 10 = .ok (.goto 4, 3) := by decide +kernel
theorem dX4_isIn_13 : decode cX4_isIn 13 = .ok (.iconst 0, 1) := by decide +kernel
theorem dX4_isIn_14 : decode cX4_isIn 14 = .ok (.ireturn, 1) := by decide +kernel
theorem dX4_isSolid_0 : decode cX4_isSolid 0 = .ok (.iload_n 0, 1) := by decide +kernel
theorem dX4_isSolid_1 : decode cX4_isSolid 1 = .ok (.ifCond .lt 13, 3) := by decide +kernel
theorem dX4_isSolid_4 : decode cX4_isSolid 4 = .ok (.iload_n 0, 1) := by decide +kernel
theorem dX4_isSolid_5 : decode cX4_isSolid 5 = .ok (.bipush 6, 2) := by decide +kernel
theorem dX4_isSolid_7 : decode cX4_isSolid 7 = .ok (.if_icmp .ge 7, 3) := by decide +kernel
theorem dX4_isSolid_10 : decode cX4_isSolid 10 = .ok (.iconst 1, 1) := by decide +kernel
theorem dX4_isSolid_11 : decode cX4_isSolid 11 = .ok (.goto 4, 3) := by decide +kernel
theorem dX4_isSolid_14 : decode cX4_isSolid 14 = .ok (.iconst 0, 1) := by decide +kernel
theorem dX4_isSolid_15 : decode cX4_isSolid 15 = .ok (.ireturn, 1) := by decide +kernel
theorem dX4_isAxis_0 : decode cX4_isAxis 0 = .ok (.iload_n 0, 1) := by decide +kernel
theorem dX4_isAxis_1 : decode cX4_isAxis 1 = .ok (.ifCond .lt 12, 3) := by decide +kernel
theorem dX4_isAxis_4 : decode cX4_isAxis 4 = .ok (.iload_n 0, 1) := by decide +kernel
theorem dX4_isAxis_5 : decode cX4_isAxis 5 = .ok (.iconst 3, 1) := by decide +kernel
theorem dX4_isAxis_6 : decode cX4_isAxis 6 = .ok (.if_icmp .ge 7, 3) := by decide +kernel
theorem dX4_isAxis_9 : decode cX4_isAxis 9 = .ok (.iconst 1, 1) := by decide +kernel
theorem dX4_isAxis_10 : decode cX4_isAxis 10 = .ok (.goto 4, 3) := by decide +kernel
theorem dX4_isAxis_13 : decode cX4_isAxis 13 = .ok (.iconst 0, 1) := by decide +kernel
theorem dX4_isAxis_14 : decode cX4_isAxis 14 = .ok (.ireturn, 1) := by decide +kernel
theorem dX4_has_0 : decode cX4_has 0 = .ok (.iload_n 2, 1) := by decide +kernel
theorem dX4_has_1 : decode cX4_has 1 = .ok (.bipush 12, 2) := by decide +kernel
theorem dX4_has_3 : decode cX4_has 3 = .ok (.invokestatic 22, 3) := by decide +kernel
theorem dX4_has_6 : decode cX4_has 6 = .ok (.ifCond .eq 52, 3) := by decide +kernel
theorem dX4_has_9 : decode cX4_has 9 = .ok (.iload_n 3, 1) := by decide +kernel
theorem dX4_has_10 : decode cX4_has 10 = .ok (.bipush 12, 2) := by decide +kernel
theorem dX4_has_12 : decode cX4_has 12 = .ok (.invokestatic 22, 3) := by decide +kernel
theorem dX4_has_15 : decode cX4_has 15 = .ok (.ifCond .eq 43, 3) := by decide +kernel
theorem dX4_has_18 : decode cX4_has 18 = .ok (.iload 4, 2) := by decide +kernel
theorem dX4_has_20 : decode cX4_has 20 = .ok (.bipush 12, 2) := by decide +kernel
theorem dX4_has_22 : decode cX4_has 22 = .ok (.invokestatic 22, 3) := by decide +kernel
theorem dX4_has_25 : decode cX4_has 25 = .ok (.ifCond .eq 33, 3) := by decide +kernel
theorem dX4_has_28 : decode cX4_has 28 = .ok (.aload_n 0, 1) := by decide +kernel
theorem dX4_has_29 : decode cX4_has 29 = .ok (.getfield 7, 3) := by decide +kernel
theorem dX4_has_32 : decode cX4_has 32 = .ok (.sipush 144, 3) := by decide +kernel
theorem dX4_has_35 : decode cX4_has 35 = .ok (.iload_n 1, 1) := by decide +kernel
theorem dX4_has_36 : decode cX4_has 36 = .ok (.imul, 1) := by decide +kernel
theorem dX4_has_37 : decode cX4_has 37 = .ok (.bipush 12, 2) := by decide +kernel
theorem dX4_has_39 : decode cX4_has 39 = .ok (.iload_n 2, 1) := by decide +kernel
theorem dX4_has_40 : decode cX4_has 40 = .ok (.imul, 1) := by decide +kernel
theorem dX4_has_41 : decode cX4_has 41 = .ok (.iadd, 1) := by decide +kernel
theorem dX4_has_42 : decode cX4_has 42 = .ok (.iload_n 3, 1) := by decide +kernel
theorem dX4_has_43 : decode cX4_has 43 = .ok (.iadd, 1) := by decide +kernel
theorem dX4_has_44 : decode cX4_has 44 = .ok (.iaload, 1) := by decide +kernel
theorem dX4_has_45 : decode cX4_has 45 = .ok (.iload 4, 2) := by decide +kernel
theorem dX4_has_47 : decode cX4_has 47 = .ok (.ishr, 1) := by decide +kernel
theorem dX4_has_48 : decode cX4_has 48 = .ok (.iconst 1, 1) := by decide +kernel
theorem dX4_has_49 : decode cX4_has 49 = .ok (.iand, 1) := by decide +kernel
theorem dX4_has_50 : decode cX4_has 50 = .ok (.iconst 1, 1) := by decide +kernel
theorem dX4_has_51 : decode cX4_has 51 = .ok (.if_icmp .ne 7, 3) := by decide +kernel
theorem dX4_has_54 : decode cX4_has 54 = .ok (.iconst 1, 1) := by decide +kernel
theorem dX4_has_55 : decode cX4_has 55 = .ok (.goto 4, 3) := by decide +kernel
theorem dX4_has_58 : decode cX4_has 58 = .ok (.iconst 0, 1) := by decide +kernel
theorem dX4_has_59 : decode cX4_has 59 = .ok (.ireturn, 1) := by decide +kernel
theorem dX4_hasBy_0 : decode cX4_hasBy 0 = .ok (.iload_n 2, 1) := by decide +kernel
theorem dX4_hasBy_1 : decode cX4_hasBy 1 = .ok (.ifCond .ne 16, 3) := by decide +kernel
theorem dX4_hasBy_4 : decode cX4_hasBy 4 = .ok (.aload_n 0, 1) := by decide +kernel
theorem dX4_hasBy_5 : decode cX4_hasBy 5 = .ok (.iload_n 1, 1) := by decide +kernel
theorem dX4_hasBy_6 : decode cX4_hasBy 6 = .ok (.iload_n 3, 1) := by decide +kernel
theorem dX4_hasBy_7 : decode cX4_hasBy 7 = .ok (.iload 4, 2) := by decide +kernel
theorem dX4_hasBy_9 : decode cX4_hasBy 9 = .ok (.iload 5, 2) := by decide +kernel
theorem dX4_hasBy_11 : decode cX4_hasBy 11 = .ok (.invokevirtual 26, 3) := by decide +kernel
theorem dX4_hasBy_14 : decode cX4_hasBy 14 = .ok (.goto 31, 3) := by decide +kernel
theorem dX4_hasBy_17 : decode cX4_hasBy 17 = .ok (.iload_n 2, 1) := by decide +kernel
theorem dX4_hasBy_18 : decode cX4_hasBy 18 = .ok (.iconst 1, 1) := by decide +kernel
theorem dX4_hasBy_19 : decode cX4_hasBy 19 = .ok (.if_icmp .ne 16, 3) := by decide +kernel
theorem dX4_hasBy_22 : decode cX4_hasBy 22 = .ok (.aload_n 0, 1) := by decide +kernel
theorem dX4_hasBy_23 : decode cX4_hasBy 23 = .ok (.iload_n 1, 1) := by decide +kernel
theorem dX4_hasBy_24 : decode cX4_hasBy 24 = .ok (.iload 4, 2) := by decide +kernel
theorem dX4_hasBy_26 : decode cX4_hasBy 26 = .ok (.iload_n 3, 1) := by decide +kernel
theorem dX4_hasBy_27 : decode cX4_hasBy 27 = .ok (.iload 5, 2) := by decide +kernel
theorem dX4_hasBy_29 : decode cX4_hasBy 29 = .ok (.invokevirtual 26, 3) := by decide +kernel
theorem dX4_hasBy_32 : decode cX4_hasBy 32 = .ok (.goto 13, 3) := by decide +kernel
theorem dX4_hasBy_35 : decode cX4_hasBy 35 = .ok (.aload_n 0, 1) := by decide +kernel
theorem dX4_hasBy_36 : decode cX4_hasBy 36 = .ok (.iload_n 1, 1) := by decide +kernel
theorem dX4_hasBy_37 : decode cX4_hasBy 37 = .ok (.iload 4, 2) := by decide +kernel
theorem dX4_hasBy_39 : decode cX4_hasBy 39 = .ok (.iload 5, 2) := by decide +kernel
theorem dX4_hasBy_41 : decode cX4_hasBy 41 = .ok (.iload_n 3, 1) := by decide +kernel
theorem dX4_hasBy_42 : decode cX4_hasBy 42 = .ok (.invokevirtual 26, 3) := by decide +kernel
theorem dX4_hasBy_45 : decode cX4_hasBy 45 = .ok (.ireturn, 1) := by decide +kernel
theorem dX4_clearDraft_0 : decode cX4_clearDraft 0 = .ok (.iconst 0, 1) := by decide +kernel
theorem dX4_clearDraft_1 : decode cX4_clearDraft 1 = .ok (.istore_n 1, 1) := by decide +kernel
theorem dX4_clearDraft_2 : decode cX4_clearDraft 2 = .ok (.iload_n 1, 1) := by decide +kernel
theorem dX4_clearDraft_3 : decode cX4_clearDraft 3 = .ok (.sipush 144, 3) := by decide +kernel
theorem dX4_clearDraft_6 : decode cX4_clearDraft 6 = .ok (.if_icmp .ge 20, 3) := by decide +kernel
theorem dX4_clearDraft_9 : decode cX4_clearDraft 9 = .ok (.aload_n 0, 1) := by decide +kernel
theorem dX4_clearDraft_10 : decode cX4_clearDraft 10 = .ok (.getfield 7, 3) := by decide +kernel
theorem dX4_clearDraft_13 : decode cX4_clearDraft 13 = .ok (.sipush 864, 3) := by decide +kernel
theorem dX4_clearDraft_16 : decode cX4_clearDraft 16 = .ok (.iload_n 1, 1) := by decide +kernel
theorem dX4_clearDraft_17 : decode cX4_clearDraft 17 = .ok (.iadd, 1) := by decide +kernel
theorem dX4_clearDraft_18 : decode cX4_clearDraft 18 = .ok (.iconst 0, 1) := by decide +kernel
theorem dX4_clearDraft_19 : decode cX4_clearDraft 19 = .ok (.iastore, 1) := by decide +kernel
theorem dX4_clearDraft_20 : decode cX4_clearDraft 20 = .ok (.iinc 1 1, 3) := by decide +kernel
theorem dX4_clearDraft_23 : decode cX4_clearDraft 23 = .ok (.goto (-21), 3) := by decide +kernel
theorem dX4_clearDraft_26 : decode cX4_clearDraft 26 = .ok (.return_, 1) := by decide +kernel
theorem dX4_put_0 : decode cX4_put 0 = .ok (.aload_n 0, 1) := by decide +kernel
theorem dX4_put_1 : decode cX4_put 1 = .ok (.getfield 7, 3) := by decide +kernel
theorem dX4_put_4 : decode cX4_put 4 = .ok (.sipush 864, 3) := by decide +kernel
theorem dX4_put_7 : decode cX4_put 7 = .ok (.bipush 12, 2) := by decide +kernel
theorem dX4_put_9 : decode cX4_put 9 = .ok (.iload_n 1, 1) := by decide +kernel
theorem dX4_put_10 : decode cX4_put 10 = .ok (.imul, 1) := by decide +kernel
theorem dX4_put_11 : decode cX4_put 11 = .ok (.iadd, 1) := by decide +kernel
theorem dX4_put_12 : decode cX4_put 12 = .ok (.iload_n 2, 1) := by decide +kernel
theorem dX4_put_13 : decode cX4_put 13 = .ok (.iadd, 1) := by decide +kernel
theorem dX4_put_14 : decode cX4_put 14 = .ok (.dup2, 1) := by decide +kernel
theorem dX4_put_15 : decode cX4_put 15 = .ok (.iaload, 1) := by decide +kernel
theorem dX4_put_16 : decode cX4_put 16 = .ok (.iconst 1, 1) := by decide +kernel
theorem dX4_put_17 : decode cX4_put 17 = .ok (.iload_n 3, 1) := by decide +kernel
theorem dX4_put_18 : decode cX4_put 18 = .ok (.ishl, 1) := by decide +kernel
theorem dX4_put_19 : decode cX4_put 19 = .ok (.ior, 1) := by decide +kernel
theorem dX4_put_20 : decode cX4_put 20 = .ok (.iastore, 1) := by decide +kernel
theorem dX4_put_21 : decode cX4_put 21 = .ok (.return_, 1) := by decide +kernel
theorem dX4_copy_0 : decode cX4_copy 0 = .ok (.iconst 0, 1) := by decide +kernel
theorem dX4_copy_1 : decode cX4_copy 1 = .ok (.istore_n 3, 1) := by decide +kernel
theorem dX4_copy_2 : decode cX4_copy 2 = .ok (.iload_n 3, 1) := by decide +kernel
theorem dX4_copy_3 : decode cX4_copy 3 = .ok (.sipush 144, 3) := by decide +kernel
theorem dX4_copy_6 : decode cX4_copy 6 = .ok (.if_icmp .ge 25, 3) := by decide +kernel
theorem dX4_copy_9 : decode cX4_copy 9 = .ok (.aload_n 0, 1) := by decide +kernel
theorem dX4_copy_10 : decode cX4_copy 10 = .ok (.getfield 7, 3) := by decide +kernel
theorem dX4_copy_13 : decode cX4_copy 13 = .ok (.iload_n 2, 1) := by decide +kernel
theorem dX4_copy_14 : decode cX4_copy 14 = .ok (.iload_n 3, 1) := by decide +kernel
theorem dX4_copy_15 : decode cX4_copy 15 = .ok (.iadd, 1) := by decide +kernel
theorem dX4_copy_16 : decode cX4_copy 16 = .ok (.aload_n 0, 1) := by decide +kernel
theorem dX4_copy_17 : decode cX4_copy 17 = .ok (.getfield 7, 3) := by decide +kernel
theorem dX4_copy_20 : decode cX4_copy 20 = .ok (.iload_n 1, 1) := by decide +kernel
theorem dX4_copy_21 : decode cX4_copy 21 = .ok (.iload_n 3, 1) := by decide +kernel
theorem dX4_copy_22 : decode cX4_copy 22 = .ok (.iadd, 1) := by decide +kernel
theorem dX4_copy_23 : decode cX4_copy 23 = .ok (.iaload, 1) := by decide +kernel
theorem dX4_copy_24 : decode cX4_copy 24 = .ok (.iastore, 1) := by decide +kernel
theorem dX4_copy_25 : decode cX4_copy 25 = .ok (.iinc 3 1, 3) := by decide +kernel
theorem dX4_copy_28 : decode cX4_copy 28 = .ok (.goto (-26), 3) := by decide +kernel
theorem dX4_copy_31 : decode cX4_copy 31 = .ok (.return_, 1) := by decide +kernel
theorem dX4_count_0 : decode cX4_count 0 = .ok (.iconst 0, 1) := by decide +kernel
theorem dX4_count_1 : decode cX4_count 1 = .ok (.istore_n 2, 1) := by decide +kernel
theorem dX4_count_2 : decode cX4_count 2 = .ok (.iconst 0, 1) := by decide +kernel
theorem dX4_count_3 : decode cX4_count 3 = .ok (.istore_n 3, 1) := by decide +kernel
theorem dX4_count_4 : decode cX4_count 4 = .ok (.iload_n 3, 1) := by decide +kernel
theorem dX4_count_5 : decode cX4_count 5 = .ok (.sipush 1728, 3) := by decide +kernel
theorem dX4_count_8 : decode cX4_count 8 = .ok (.if_icmp .ge 34, 3) := by decide +kernel
theorem dX4_count_11 : decode cX4_count 11 = .ok (.iload_n 2, 1) := by decide +kernel
theorem dX4_count_12 : decode cX4_count 12 = .ok (.aload_n 0, 1) := by decide +kernel
theorem dX4_count_13 : decode cX4_count 13 = .ok (.getfield 7, 3) := by decide +kernel
theorem dX4_count_16 : decode cX4_count 16 = .ok (.sipush 144, 3) := by decide +kernel
theorem dX4_count_19 : decode cX4_count 19 = .ok (.iload_n 1, 1) := by decide +kernel
theorem dX4_count_20 : decode cX4_count 20 = .ok (.imul, 1) := by decide +kernel
theorem dX4_count_21 : decode cX4_count 21 = .ok (.iload_n 3, 1) := by decide +kernel
theorem dX4_count_22 : decode cX4_count 22 = .ok (.bipush 12, 2) := by decide +kernel
theorem dX4_count_24 : decode cX4_count 24 = .ok (.idiv, 1) := by decide +kernel
theorem dX4_count_25 : decode cX4_count 25 = .ok (.iadd, 1) := by decide +kernel
theorem dX4_count_26 : decode cX4_count 26 = .ok (.iaload, 1) := by decide +kernel
theorem dX4_count_27 : decode cX4_count 27 = .ok (.iload_n 3, 1) := by decide +kernel
theorem dX4_count_28 : decode cX4_count 28 = .ok (.bipush 12, 2) := by decide +kernel
theorem dX4_count_30 : decode cX4_count 30 = .ok (.irem, 1) := by decide +kernel
theorem dX4_count_31 : decode cX4_count 31 = .ok (.ishr, 1) := by decide +kernel
theorem dX4_count_32 : decode cX4_count 32 = .ok (.iconst 1, 1) := by decide +kernel
theorem dX4_count_33 : decode cX4_count 33 = .ok (.iand, 1) := by decide +kernel
theorem dX4_count_34 : decode cX4_count 34 = .ok (.iadd, 1) := by decide +kernel
theorem dX4_count_35 : decode cX4_count 35 = .ok (.istore_n 2, 1) := by decide +kernel
theorem dX4_count_36 : decode cX4_count 36 = .ok (.iinc 3 1, 3) := by decide +kernel
theorem dX4_count_39 : decode cX4_count 39 = .ok (.goto (-35), 3) := by decide +kernel
theorem dX4_count_42 : decode cX4_count 42 = .ok (.iload_n 2, 1) := by decide +kernel
theorem dX4_count_43 : decode cX4_count 43 = .ok (.ireturn, 1) := by decide +kernel
theorem dX4_step_0 : decode cX4_step 0 = .ok (.aload_n 0, 1) := by decide +kernel
theorem dX4_step_1 : decode cX4_step 1 = .ok (.getfield 30, 3) := by decide +kernel
theorem dX4_step_4 : decode cX4_step 4 = .ok (.bipush 12, 2) := by decide +kernel
theorem dX4_step_6 : decode cX4_step 6 = .ok (.if_icmp .ne 89, 3) := by decide +kernel
theorem dX4_step_9 : decode cX4_step 9 = .ok (.iconst 1, 1) := by decide +kernel
theorem dX4_step_10 : decode cX4_step 10 = .ok (.istore_n 2, 1) := by decide +kernel
theorem dX4_step_11 : decode cX4_step 11 = .ok (.iload_n 2, 1) := by decide +kernel
theorem dX4_step_12 : decode cX4_step 12 = .ok (.bipush 12, 2) := by decide +kernel
theorem dX4_step_14 : decode cX4_step 14 = .ok (.if_icmp .ge 71, 3) := by decide +kernel
theorem dX4_step_17 : decode cX4_step 17 = .ok (.aload_n 0, 1) := by decide +kernel
theorem dX4_step_18 : decode cX4_step 18 = .ok (.getfield 13, 3) := by decide +kernel
theorem dX4_step_21 : decode cX4_step 21 = .ok (.iload_n 2, 1) := by decide +kernel
theorem dX4_step_22 : decode cX4_step 22 = .ok (.iconst 1, 1) := by decide +kernel
theorem dX4_step_23 : decode cX4_step 23 = .ok (.isub, 1) := by decide +kernel
theorem dX4_step_24 : decode cX4_step 24 = .ok (.aload_n 0, 1) := by decide +kernel
theorem dX4_step_25 : decode cX4_step 25 = .ok (.getfield 13, 3) := by decide +kernel
theorem dX4_step_28 : decode cX4_step 28 = .ok (.iload_n 2, 1) := by decide +kernel
theorem dX4_step_29 : decode cX4_step 29 = .ok (.iaload, 1) := by decide +kernel
theorem dX4_step_30 : decode cX4_step 30 = .ok (.iastore, 1) := by decide +kernel
theorem dX4_step_31 : decode cX4_step 31 = .ok (.aload_n 0, 1) := by decide +kernel
theorem dX4_step_32 : decode cX4_step 32 = .ok (.sipush 1008, 3) := by decide +kernel
theorem dX4_step_35 : decode cX4_step 35 = .ok (.sipush 144, 3) := by decide +kernel
theorem dX4_step_38 : decode cX4_step 38 = .ok (.iload_n 2, 1) := by decide +kernel
theorem dX4_step_39 : decode cX4_step 39 = .ok (.imul, 1) := by decide +kernel
theorem dX4_step_40 : decode cX4_step 40 = .ok (.iadd, 1) := by decide +kernel
theorem dX4_step_41 : decode cX4_step 41 = .ok (.sipush 1008, 3) := by decide +kernel
theorem dX4_step_44 : decode cX4_step 44 = .ok (.sipush 144, 3) := by decide +kernel
theorem dX4_step_47 : decode cX4_step 47 = .ok (.iload_n 2, 1) := by decide +kernel
theorem dX4_step_48 : decode cX4_step 48 = .ok (.iconst 1, 1) := by decide +kernel
theorem dX4_step_49 : decode cX4_step 49 = .ok (.isub, 1) := by decide +kernel
theorem dX4_step_50 : decode cX4_step 50 = .ok (.imul, 1) := by decide +kernel
theorem dX4_step_51 : decode cX4_step 51 = .ok (.iadd, 1) := by decide +kernel
theorem dX4_step_52 : decode cX4_step 52 = .ok (.invokevirtual 34, 3) := by decide +kernel
theorem dX4_step_55 : decode cX4_step 55 = .ok (.aload_n 0, 1) := by decide +kernel
theorem dX4_step_56 : decode cX4_step 56 = .ok (.sipush 2736, 3) := by decide +kernel
theorem dX4_step_59 : decode cX4_step 59 = .ok (.sipush 144, 3) := by decide +kernel
theorem dX4_step_62 : decode cX4_step 62 = .ok (.iload_n 2, 1) := by decide +kernel
theorem dX4_step_63 : decode cX4_step 63 = .ok (.imul, 1) := by decide +kernel
theorem dX4_step_64 : decode cX4_step 64 = .ok (.iadd, 1) := by decide +kernel
theorem dX4_step_65 : decode cX4_step 65 = .ok (.sipush 2736, 3) := by decide +kernel
theorem dX4_step_68 : decode cX4_step 68 = .ok (.sipush 144, 3) := by decide +kernel
theorem dX4_step_71 : decode cX4_step 71 = .ok (.iload_n 2, 1) := by decide +kernel
theorem dX4_step_72 : decode cX4_step 72 = .ok (.iconst 1, 1) := by decide +kernel
theorem dX4_step_73 : decode cX4_step 73 = .ok (.isub, 1) := by decide +kernel
theorem dX4_step_74 : decode cX4_step 74 = .ok (.imul, 1) := by decide +kernel
theorem dX4_step_75 : decode cX4_step 75 = .ok (.iadd, 1) := by decide +kernel
theorem dX4_step_76 : decode cX4_step 76 = .ok (.invokevirtual 34, 3) := by decide +kernel
theorem dX4_step_79 : decode cX4_step 79 = .ok (.iinc 2 1, 3) := by decide +kernel
theorem dX4_step_82 : decode cX4_step 82 = .ok (.goto (-71), 3) := by decide +kernel
theorem dX4_step_85 : decode cX4_step 85 = .ok (.aload_n 0, 1) := by decide +kernel
theorem dX4_step_86 : decode cX4_step 86 = .ok (.dup, 1) := by decide +kernel
theorem dX4_step_87 : decode cX4_step 87 = .ok (.getfield 30, 3) := by decide +kernel
theorem dX4_step_90 : decode cX4_step 90 = .ok (.iconst 1, 1) := by decide +kernel
theorem dX4_step_91 : decode cX4_step 91 = .ok (.isub, 1) := by decide +kernel
theorem dX4_step_92 : decode cX4_step 92 = .ok (.putfield 30, 3) := by decide +kernel
theorem dX4_step_95 : decode cX4_step 95 = .ok (.aload_n 0, 1) := by decide +kernel
theorem dX4_step_96 : decode cX4_step 96 = .ok (.getfield 13, 3) := by decide +kernel
theorem dX4_step_99 : decode cX4_step 99 = .ok (.aload_n 0, 1) := by decide +kernel
theorem dX4_step_100 : decode cX4_step 100 = .ok (.getfield 30, 3) := by decide +kernel
theorem dX4_step_103 : decode cX4_step 103 = .ok (.iload_n 1, 1) := by decide +kernel
theorem dX4_step_104 : decode cX4_step 104 = .ok (.iastore, 1) := by decide +kernel
theorem dX4_step_105 : decode cX4_step 105 = .ok (.aload_n 0, 1) := by decide +kernel
theorem dX4_step_106 : decode cX4_step 106 = .ok (.sipush 144, 3) := by decide +kernel
theorem dX4_step_109 : decode cX4_step 109 = .ok (.iload_n 1, 1) := by decide +kernel
theorem dX4_step_110 : decode cX4_step 110 = .ok (.imul, 1) := by decide +kernel
theorem dX4_step_111 : decode cX4_step 111 = .ok (.sipush 1008, 3) := by decide +kernel
theorem dX4_step_114 : decode cX4_step 114 = .ok (.sipush 144, 3) := by decide +kernel
theorem dX4_step_117 : decode cX4_step 117 = .ok (.aload_n 0, 1) := by decide +kernel
theorem dX4_step_118 : decode cX4_step 118 = .ok (.getfield 30, 3) := by decide +kernel
theorem dX4_step_121 : decode cX4_step 121 = .ok (.imul, 1) := by decide +kernel
theorem dX4_step_122 : decode cX4_step 122 = .ok (.iadd, 1) := by decide +kernel
theorem dX4_step_123 : decode cX4_step 123 = .ok (.invokevirtual 34, 3) := by decide +kernel
theorem dX4_step_126 : decode cX4_step 126 = .ok (.aload_n 0, 1) := by decide +kernel
theorem dX4_step_127 : decode cX4_step 127 = .ok (.sipush 864, 3) := by decide +kernel
theorem dX4_step_130 : decode cX4_step 130 = .ok (.sipush 2736, 3) := by decide +kernel
theorem dX4_step_133 : decode cX4_step 133 = .ok (.sipush 144, 3) := by decide +kernel
theorem dX4_step_136 : decode cX4_step 136 = .ok (.aload_n 0, 1) := by decide +kernel
theorem dX4_step_137 : decode cX4_step 137 = .ok (.getfield 30, 3) := by decide +kernel
theorem dX4_step_140 : decode cX4_step 140 = .ok (.imul, 1) := by decide +kernel
theorem dX4_step_141 : decode cX4_step 141 = .ok (.iadd, 1) := by decide +kernel
theorem dX4_step_142 : decode cX4_step 142 = .ok (.invokevirtual 34, 3) := by decide +kernel
theorem dX4_step_145 : decode cX4_step 145 = .ok (.aload_n 0, 1) := by decide +kernel
theorem dX4_step_146 : decode cX4_step 146 = .ok (.sipush 864, 3) := by decide +kernel
theorem dX4_step_149 : decode cX4_step 149 = .ok (.sipush 144, 3) := by decide +kernel
theorem dX4_step_152 : decode cX4_step 152 = .ok (.iload_n 1, 1) := by decide +kernel
theorem dX4_step_153 : decode cX4_step 153 = .ok (.imul, 1) := by decide +kernel
theorem dX4_step_154 : decode cX4_step 154 = .ok (.invokevirtual 34, 3) := by decide +kernel
theorem dX4_step_157 : decode cX4_step 157 = .ok (.aload_n 0, 1) := by decide +kernel
theorem dX4_step_158 : decode cX4_step 158 = .ok (.dup, 1) := by decide +kernel
theorem dX4_step_159 : decode cX4_step 159 = .ok (.getfield 30, 3) := by decide +kernel
theorem dX4_step_162 : decode cX4_step 162 = .ok (.iconst 1, 1) := by decide +kernel
theorem dX4_step_163 : decode cX4_step 163 = .ok (.iadd, 1) := by decide +kernel
theorem dX4_step_164 : decode cX4_step 164 = .ok (.putfield 30, 3) := by decide +kernel
theorem dX4_step_167 : decode cX4_step 167 = .ok (.aload_n 0, 1) := by decide +kernel
theorem dX4_step_168 : decode cX4_step 168 = .ok (.aload_n 0, 1) := by decide +kernel
theorem dX4_step_169 : decode cX4_step 169 = .ok (.getfield 30, 3) := by decide +kernel
theorem dX4_step_172 : decode cX4_step 172 = .ok (.putfield 38, 3) := by decide +kernel
theorem dX4_step_175 : decode cX4_step 175 = .ok (.aload_n 0, 1) := by decide +kernel
theorem dX4_step_176 : decode cX4_step 176 = .ok (.iload_n 1, 1) := by decide +kernel
theorem dX4_step_177 : decode cX4_step 177 = .ok (.invokevirtual 41, 3) := by decide +kernel
theorem dX4_step_180 : decode cX4_step 180 = .ok (.ireturn, 1) := by decide +kernel
theorem dX4_undo_0 : decode cX4_undo 0 = .ok (.aload_n 0, 1) := by decide +kernel
theorem dX4_undo_1 : decode cX4_undo 1 = .ok (.getfield 30, 3) := by decide +kernel
theorem dX4_undo_4 : decode cX4_undo 4 = .ok (.ifCond .ne 6, 3) := by decide +kernel
theorem dX4_undo_7 : decode cX4_undo 7 = .ok (.bipush (-2), 2) := by decide +kernel
theorem dX4_undo_9 : decode cX4_undo 9 = .ok (.ireturn, 1) := by decide +kernel
theorem dX4_undo_10 : decode cX4_undo 10 = .ok (.aload_n 0, 1) := by decide +kernel
theorem dX4_undo_11 : decode cX4_undo 11 = .ok (.dup, 1) := by decide +kernel
theorem dX4_undo_12 : decode cX4_undo 12 = .ok (.getfield 30, 3) := by decide +kernel
theorem dX4_undo_15 : decode cX4_undo 15 = .ok (.iconst 1, 1) := by decide +kernel
theorem dX4_undo_16 : decode cX4_undo 16 = .ok (.isub, 1) := by decide +kernel
theorem dX4_undo_17 : decode cX4_undo 17 = .ok (.putfield 30, 3) := by decide +kernel
theorem dX4_undo_20 : decode cX4_undo 20 = .ok (.aload_n 0, 1) := by decide +kernel
theorem dX4_undo_21 : decode cX4_undo 21 = .ok (.sipush 1008, 3) := by decide +kernel
theorem dX4_undo_24 : decode cX4_undo 24 = .ok (.sipush 144, 3) := by decide +kernel
theorem dX4_undo_27 : decode cX4_undo 27 = .ok (.aload_n 0, 1) := by decide +kernel
theorem dX4_undo_28 : decode cX4_undo 28 = .ok (.getfield 30, 3) := by decide +kernel
theorem dX4_undo_31 : decode cX4_undo 31 = .ok (.imul, 1) := by decide +kernel
theorem dX4_undo_32 : decode cX4_undo 32 = .ok (.iadd, 1) := by decide +kernel
theorem dX4_undo_33 : decode cX4_undo 33 = .ok (.sipush 144, 3) := by decide +kernel
theorem dX4_undo_36 : decode cX4_undo 36 = .ok (.aload_n 0, 1) := by decide +kernel
theorem dX4_undo_37 : decode cX4_undo 37 = .ok (.getfield 13, 3) := by decide +kernel
theorem dX4_undo_40 : decode cX4_undo 40 = .ok (.aload_n 0, 1) := by decide +kernel
theorem dX4_undo_41 : decode cX4_undo 41 = .ok (.getfield 30, 3) := by decide +kernel
theorem dX4_undo_44 : decode cX4_undo 44 = .ok (.iaload, 1) := by decide +kernel
theorem dX4_undo_45 : decode cX4_undo 45 = .ok (.imul, 1) := by decide +kernel
theorem dX4_undo_46 : decode cX4_undo 46 = .ok (.invokevirtual 34, 3) := by decide +kernel
theorem dX4_undo_49 : decode cX4_undo 49 = .ok (.aload_n 0, 1) := by decide +kernel
theorem dX4_undo_50 : decode cX4_undo 50 = .ok (.getfield 13, 3) := by decide +kernel
theorem dX4_undo_53 : decode cX4_undo 53 = .ok (.aload_n 0, 1) := by decide +kernel
theorem dX4_undo_54 : decode cX4_undo 54 = .ok (.getfield 30, 3) := by decide +kernel
theorem dX4_undo_57 : decode cX4_undo 57 = .ok (.iaload, 1) := by decide +kernel
theorem dX4_undo_58 : decode cX4_undo 58 = .ok (.ireturn, 1) := by decide +kernel
theorem dX4_redo_0 : decode cX4_redo 0 = .ok (.aload_n 0, 1) := by decide +kernel
theorem dX4_redo_1 : decode cX4_redo 1 = .ok (.getfield 30, 3) := by decide +kernel
theorem dX4_redo_4 : decode cX4_redo 4 = .ok (.aload_n 0, 1) := by decide +kernel
theorem dX4_redo_5 : decode cX4_redo 5 = .ok (.getfield 38, 3) := by decide +kernel
theorem dX4_redo_8 : decode cX4_redo 8 = .ok (.if_icmp .ne 6, 3) := by decide +kernel
theorem dX4_redo_11 : decode cX4_redo 11 = .ok (.bipush (-2), 2) := by decide +kernel
theorem dX4_redo_13 : decode cX4_redo 13 = .ok (.ireturn, 1) := by decide +kernel
theorem dX4_redo_14 : decode cX4_redo 14 = .ok (.aload_n 0, 1) := by decide +kernel
theorem dX4_redo_15 : decode cX4_redo 15 = .ok (.sipush 2736, 3) := by decide +kernel
theorem dX4_redo_18 : decode cX4_redo 18 = .ok (.sipush 144, 3) := by decide +kernel
theorem dX4_redo_21 : decode cX4_redo 21 = .ok (.aload_n 0, 1) := by decide +kernel
theorem dX4_redo_22 : decode cX4_redo 22 = .ok (.getfield 30, 3) := by decide +kernel
theorem dX4_redo_25 : decode cX4_redo 25 = .ok (.imul, 1) := by decide +kernel
theorem dX4_redo_26 : decode cX4_redo 26 = .ok (.iadd, 1) := by decide +kernel
theorem dX4_redo_27 : decode cX4_redo 27 = .ok (.sipush 144, 3) := by decide +kernel
theorem dX4_redo_30 : decode cX4_redo 30 = .ok (.aload_n 0, 1) := by decide +kernel
theorem dX4_redo_31 : decode cX4_redo 31 = .ok (.getfield 13, 3) := by decide +kernel
theorem dX4_redo_34 : decode cX4_redo 34 = .ok (.aload_n 0, 1) := by decide +kernel
theorem dX4_redo_35 : decode cX4_redo 35 = .ok (.getfield 30, 3) := by decide +kernel
theorem dX4_redo_38 : decode cX4_redo 38 = .ok (.iaload, 1) := by decide +kernel
theorem dX4_redo_39 : decode cX4_redo 39 = .ok (.imul, 1) := by decide +kernel
theorem dX4_redo_40 : decode cX4_redo 40 = .ok (.invokevirtual 34, 3) := by decide +kernel
theorem dX4_redo_43 : decode cX4_redo 43 = .ok (.aload_n 0, 1) := by decide +kernel
theorem dX4_redo_44 : decode cX4_redo 44 = .ok (.dup, 1) := by decide +kernel
theorem dX4_redo_45 : decode cX4_redo 45 = .ok (.getfield 30, 3) := by decide +kernel
theorem dX4_redo_48 : decode cX4_redo 48 = .ok (.iconst 1, 1) := by decide +kernel
theorem dX4_redo_49 : decode cX4_redo 49 = .ok (.iadd, 1) := by decide +kernel
theorem dX4_redo_50 : decode cX4_redo 50 = .ok (.putfield 30, 3) := by decide +kernel
theorem dX4_redo_53 : decode cX4_redo 53 = .ok (.aload_n 0, 1) := by decide +kernel
theorem dX4_redo_54 : decode cX4_redo 54 = .ok (.getfield 13, 3) := by decide +kernel
theorem dX4_redo_57 : decode cX4_redo 57 = .ok (.aload_n 0, 1) := by decide +kernel
theorem dX4_redo_58 : decode cX4_redo 58 = .ok (.getfield 30, 3) := by decide +kernel
theorem dX4_redo_61 : decode cX4_redo 61 = .ok (.iconst 1, 1) := by decide +kernel
theorem dX4_redo_62 : decode cX4_redo 62 = .ok (.isub, 1) := by decide +kernel
theorem dX4_redo_63 : decode cX4_redo 63 = .ok (.iaload, 1) := by decide +kernel
theorem dX4_redo_64 : decode cX4_redo 64 = .ok (.ireturn, 1) := by decide +kernel
theorem dX4_box_0 : decode cX4_box 0 = .ok (.iload_n 1, 1) := by decide +kernel
theorem dX4_box_1 : decode cX4_box 1 = .ok (.invokestatic 45, 3) := by decide +kernel
theorem dX4_box_4 : decode cX4_box 4 = .ok (.ifCond .ne 5, 3) := by decide +kernel
theorem dX4_box_7 : decode cX4_box 7 = .ok (.iconst (-1), 1) := by decide +kernel
theorem dX4_box_8 : decode cX4_box 8 = .ok (.ireturn, 1) := by decide +kernel
theorem dX4_box_9 : decode cX4_box 9 = .ok (.iload_n 2, 1) := by decide +kernel
theorem dX4_box_10 : decode cX4_box 10 = .ok (.bipush 12, 2) := by decide +kernel
theorem dX4_box_12 : decode cX4_box 12 = .ok (.invokestatic 22, 3) := by decide +kernel
theorem dX4_box_15 : decode cX4_box 15 = .ok (.ifCond .eq 90, 3) := by decide +kernel
theorem dX4_box_18 : decode cX4_box 18 = .ok (.iload_n 3, 1) := by decide +kernel
theorem dX4_box_19 : decode cX4_box 19 = .ok (.bipush 12, 2) := by decide +kernel
theorem dX4_box_21 : decode cX4_box 21 = .ok (.invokestatic 22, 3) := by decide +kernel
theorem dX4_box_24 : decode cX4_box 24 = .ok (.ifCond .eq 81, 3) := by decide +kernel
theorem dX4_box_27 : decode cX4_box 27 = .ok (.iload 4, 2) := by decide +kernel
theorem dX4_box_29 : decode cX4_box 29 = .ok (.bipush 12, 2) := by decide +kernel
theorem dX4_box_31 : decode cX4_box 31 = .ok (.invokestatic 22, 3) := by decide +kernel
theorem dX4_box_34 : decode cX4_box 34 = .ok (.ifCond .eq 71, 3) := by decide +kernel
theorem dX4_box_37 : decode cX4_box 37 = .ok (.iload 5, 2) := by decide +kernel
theorem dX4_box_39 : decode cX4_box 39 = .ok (.ifCond .le 66, 3) := by decide +kernel
theorem dX4_box_42 : decode cX4_box 42 = .ok (.iload 6, 2) := by decide +kernel
theorem dX4_box_44 : decode cX4_box 44 = .ok (.ifCond .le 61, 3) := by decide +kernel
theorem dX4_box_47 : decode cX4_box 47 = .ok (.iload 7, 2) := by decide +kernel
theorem dX4_box_49 : decode cX4_box 49 = .ok (.ifCond .le 56, 3) := by decide +kernel
theorem dX4_box_52 : decode cX4_box 52 = .ok (.iload 5, 2) := by decide +kernel
theorem dX4_box_54 : decode cX4_box 54 = .ok (.bipush 12, 2) := by decide +kernel
theorem dX4_box_56 : decode cX4_box 56 = .ok (.if_icmp .gt 49, 3) := by decide +kernel
theorem dX4_box_59 : decode cX4_box 59 = .ok (.iload 6, 2) := by decide +kernel
theorem dX4_box_61 : decode cX4_box 61 = .ok (.bipush 12, 2) := by decide +kernel
theorem dX4_box_63 : decode cX4_box 63 = .ok (.if_icmp .gt 42, 3) := by decide +kernel
theorem dX4_box_66 : decode cX4_box 66 = .ok (.iload 7, 2) := by decide +kernel
theorem dX4_box_68 : decode cX4_box 68 = .ok (.bipush 12, 2) := by decide +kernel
theorem dX4_box_70 : decode cX4_box 70 = .ok (.if_icmp .gt 35, 3) := by decide +kernel
theorem dX4_box_73 : decode cX4_box 73 = .ok (.iload_n 2, 1) := by decide +kernel
theorem dX4_box_74 : decode cX4_box 74 = .ok (.iload 5, 2) := by decide +kernel
theorem dX4_box_76 : decode cX4_box 76 = .ok (.iadd, 1) := by decide +kernel
theorem dX4_box_77 : decode cX4_box 77 = .ok (.bipush 12, 2) := by decide +kernel
theorem dX4_box_79 : decode cX4_box 79 = .ok (.if_icmp .gt 26, 3) := by decide +kernel
theorem dX4_box_82 : decode cX4_box 82 = .ok (.iload_n 3, 1) := by decide +kernel
theorem dX4_box_83 : decode cX4_box 83 = .ok (.iload 6, 2) := by decide +kernel
theorem dX4_box_85 : decode cX4_box 85 = .ok (.iadd, 1) := by decide +kernel
theorem dX4_box_86 : decode cX4_box 86 = .ok (.bipush 12, 2) := by decide +kernel
theorem dX4_box_88 : decode cX4_box 88 = .ok (.if_icmp .gt 17, 3) := by decide +kernel
theorem dX4_box_91 : decode cX4_box 91 = .ok (.iload 4, 2) := by decide +kernel
theorem dX4_box_93 : decode cX4_box 93 = .ok (.iload 7, 2) := by decide +kernel
theorem dX4_box_95 : decode cX4_box 95 = .ok (.iadd, 1) := by decide +kernel
theorem dX4_box_96 : decode cX4_box 96 = .ok (.bipush 12, 2) := by decide +kernel
theorem dX4_box_98 : decode cX4_box 98 = .ok (.if_icmp .gt 7, 3) := by decide +kernel
theorem dX4_box_101 : decode cX4_box 101 = .ok (.iconst 1, 1) := by decide +kernel
theorem dX4_box_102 : decode cX4_box 102 = .ok (.goto 4, 3) := by decide +kernel
theorem dX4_box_105 : decode cX4_box 105 = .ok (.iconst 0, 1) := by decide +kernel
theorem dX4_box_106 : decode cX4_box 106 = .ok (.istore 8, 2) := by decide +kernel
theorem dX4_box_108 : decode cX4_box 108 = .ok (.iload 8, 2) := by decide +kernel
theorem dX4_box_110 : decode cX4_box 110 = .ok (.ifCond .ne 6, 3) := by decide +kernel
theorem dX4_box_113 : decode cX4_box 113 = .ok (.bipush (-2), 2) := by decide +kernel
theorem dX4_box_115 : decode cX4_box 115 = .ok (.ireturn, 1) := by decide +kernel
theorem dX4_box_116 : decode cX4_box 116 = .ok (.aload_n 0, 1) := by decide +kernel
theorem dX4_box_117 : decode cX4_box 117 = .ok (.invokevirtual 49, 3) := by decide +kernel
theorem dX4_box_120 : decode cX4_box 120 = .ok (.iconst 0, 1) := by decide +kernel
theorem dX4_box_121 : decode cX4_box 121 = .ok (.istore 9, 2) := by decide +kernel
theorem dX4_box_123 : decode cX4_box 123 = .ok (.iload 9, 2) := by decide +kernel
theorem dX4_box_125 : decode cX4_box 125 = .ok (.iload 5, 2) := by decide +kernel
theorem dX4_box_127 : decode cX4_box 127 = .ok (.iload 6, 2) := by decide +kernel
theorem dX4_box_129 : decode cX4_box 129 = .ok (.imul, 1) := by decide +kernel
theorem dX4_box_130 : decode cX4_box 130 = .ok (.iload 7, 2) := by decide +kernel
theorem dX4_box_132 : decode cX4_box 132 = .ok (.imul, 1) := by decide +kernel
theorem dX4_box_133 : decode cX4_box 133 = .ok (.if_icmp .ge 41, 3) := by decide +kernel
theorem dX4_box_136 : decode cX4_box 136 = .ok (.aload_n 0, 1) := by decide +kernel
theorem dX4_box_137 : decode cX4_box 137 = .ok (.iload_n 2, 1) := by decide +kernel
theorem dX4_box_138 : decode cX4_box 138 = .ok (.iload 9, 2) := by decide +kernel
theorem dX4_box_140 : decode cX4_box 140 = .ok (.iload 5, 2) := by decide +kernel
theorem dX4_box_142 : decode cX4_box 142 = .ok (.irem, 1) := by decide +kernel
theorem dX4_box_143 : decode cX4_box 143 = .ok (.iadd, 1) := by decide +kernel
theorem dX4_box_144 : decode cX4_box 144 = .ok (.iload_n 3, 1) := by decide +kernel
theorem dX4_box_145 : decode cX4_box 145 = .ok (.iload 9, 2) := by decide +kernel
theorem dX4_box_147 : decode cX4_box 147 = .ok (.iload 5, 2) := by decide +kernel
theorem dX4_box_149 : decode cX4_box 149 = .ok (.idiv, 1) := by decide +kernel
theorem dX4_box_150 : decode cX4_box 150 = .ok (.iload 6, 2) := by decide +kernel
theorem dX4_box_152 : decode cX4_box 152 = .ok (.irem, 1) := by decide +kernel
theorem dX4_box_153 : decode cX4_box 153 = .ok (.iadd, 1) := by decide +kernel
theorem dX4_box_154 : decode cX4_box 154 = .ok (.iload 4, 2) := by decide +kernel
theorem dX4_box_156 : decode cX4_box 156 = .ok (.iload 9, 2) := by decide +kernel
theorem dX4_box_158 : decode cX4_box 158 = .ok (.iload 5, 2) := by decide +kernel
theorem dX4_box_160 : decode cX4_box 160 = .ok (.idiv, 1) := by decide +kernel
theorem dX4_box_161 : decode cX4_box 161 = .ok (.iload 6, 2) := by decide +kernel
theorem dX4_box_163 : decode cX4_box 163 = .ok (.idiv, 1) := by decide +kernel
theorem dX4_box_164 : decode cX4_box 164 = .ok (.iadd, 1) := by decide +kernel
theorem dX4_box_165 : decode cX4_box 165 = .ok (.invokevirtual 52, 3) := by decide +kernel
theorem dX4_box_168 : decode cX4_box 168 = .ok (.iinc 9 1, 3) := by decide +kernel
theorem dX4_box_171 : decode cX4_box 171 = .ok (.goto (-48), 3) := by decide +kernel
theorem dX4_box_174 : decode cX4_box 174 = .ok (.aload_n 0, 1) := by decide +kernel
theorem dX4_box_175 : decode cX4_box 175 = .ok (.iload_n 1, 1) := by decide +kernel
theorem dX4_box_176 : decode cX4_box 176 = .ok (.invokevirtual 56, 3) := by decide +kernel
theorem dX4_box_179 : decode cX4_box 179 = .ok (.ireturn, 1) := by decide +kernel
theorem dX4_join_0 : decode cX4_join 0 = .ok (.iload_n 1, 1) := by decide +kernel
theorem dX4_join_1 : decode cX4_join 1 = .ok (.invokestatic 45, 3) := by decide +kernel
theorem dX4_join_4 : decode cX4_join 4 = .ok (.ifCond .eq 28, 3) := by decide +kernel
theorem dX4_join_7 : decode cX4_join 7 = .ok (.iload_n 2, 1) := by decide +kernel
theorem dX4_join_8 : decode cX4_join 8 = .ok (.invokestatic 45, 3) := by decide +kernel
theorem dX4_join_11 : decode cX4_join 11 = .ok (.ifCond .eq 21, 3) := by decide +kernel
theorem dX4_join_14 : decode cX4_join 14 = .ok (.iload_n 3, 1) := by decide +kernel
theorem dX4_join_15 : decode cX4_join 15 = .ok (.invokestatic 45, 3) := by decide +kernel
theorem dX4_join_18 : decode cX4_join 18 = .ok (.ifCond .eq 14, 3) := by decide +kernel
theorem dX4_join_21 : decode cX4_join 21 = .ok (.iload 4, 2) := by decide +kernel
theorem dX4_join_23 : decode cX4_join 23 = .ok (.ifCond .lt 9, 3) := by decide +kernel
theorem dX4_join_26 : decode cX4_join 26 = .ok (.iload 4, 2) := by decide +kernel
theorem dX4_join_28 : decode cX4_join 28 = .ok (.iconst 3, 1) := by decide +kernel
theorem dX4_join_29 : decode cX4_join 29 = .ok (.if_icmp .le 5, 3) := by decide +kernel
theorem dX4_join_32 : decode cX4_join 32 = .ok (.iconst (-1), 1) := by decide +kernel
theorem dX4_join_33 : decode cX4_join 33 = .ok (.ireturn, 1) := by decide +kernel
theorem dX4_join_34 : decode cX4_join 34 = .ok (.aload_n 0, 1) := by decide +kernel
theorem dX4_join_35 : decode cX4_join 35 = .ok (.invokevirtual 49, 3) := by decide +kernel
theorem dX4_join_38 : decode cX4_join 38 = .ok (.iconst 0, 1) := by decide +kernel
theorem dX4_join_39 : decode cX4_join 39 = .ok (.istore 5, 2) := by decide +kernel
theorem dX4_join_41 : decode cX4_join 41 = .ok (.iload 5, 2) := by decide +kernel
theorem dX4_join_43 : decode cX4_join 43 = .ok (.sipush 1728, 3) := by decide +kernel
theorem dX4_join_46 : decode cX4_join 46 = .ok (.if_icmp .ge 174, 3) := by decide +kernel
theorem dX4_join_49 : decode cX4_join 49 = .ok (.aload_n 0, 1) := by decide +kernel
theorem dX4_join_50 : decode cX4_join 50 = .ok (.iload_n 2, 1) := by decide +kernel
theorem dX4_join_51 : decode cX4_join 51 = .ok (.iload 5, 2) := by decide +kernel
theorem dX4_join_53 : decode cX4_join 53 = .ok (.sipush 144, 3) := by decide +kernel
theorem dX4_join_56 : decode cX4_join 56 = .ok (.idiv, 1) := by decide +kernel
theorem dX4_join_57 : decode cX4_join 57 = .ok (.iload 5, 2) := by decide +kernel
theorem dX4_join_59 : decode cX4_join 59 = .ok (.bipush 12, 2) := by decide +kernel
theorem dX4_join_61 : decode cX4_join 61 = .ok (.idiv, 1) := by decide +kernel
theorem dX4_join_62 : decode cX4_join 62 = .ok (.bipush 12, 2) := by decide +kernel
theorem dX4_join_64 : decode cX4_join 64 = .ok (.irem, 1) := by decide +kernel
theorem dX4_join_65 : decode cX4_join 65 = .ok (.iload 5, 2) := by decide +kernel
theorem dX4_join_67 : decode cX4_join 67 = .ok (.bipush 12, 2) := by decide +kernel
theorem dX4_join_69 : decode cX4_join 69 = .ok (.irem, 1) := by decide +kernel
theorem dX4_join_70 : decode cX4_join 70 = .ok (.invokevirtual 26, 3) := by decide +kernel
theorem dX4_join_73 : decode cX4_join 73 = .ok (.istore 6, 2) := by decide +kernel
theorem dX4_join_75 : decode cX4_join 75 = .ok (.aload_n 0, 1) := by decide +kernel
theorem dX4_join_76 : decode cX4_join 76 = .ok (.iload_n 3, 1) := by decide +kernel
theorem dX4_join_77 : decode cX4_join 77 = .ok (.iload 5, 2) := by decide +kernel
theorem dX4_join_79 : decode cX4_join 79 = .ok (.sipush 144, 3) := by decide +kernel
theorem dX4_join_82 : decode cX4_join 82 = .ok (.idiv, 1) := by decide +kernel
theorem dX4_join_83 : decode cX4_join 83 = .ok (.iload 5, 2) := by decide +kernel
theorem dX4_join_85 : decode cX4_join 85 = .ok (.bipush 12, 2) := by decide +kernel
theorem dX4_join_87 : decode cX4_join 87 = .ok (.idiv, 1) := by decide +kernel
theorem dX4_join_88 : decode cX4_join 88 = .ok (.bipush 12, 2) := by decide +kernel
theorem dX4_join_90 : decode cX4_join 90 = .ok (.irem, 1) := by decide +kernel
theorem dX4_join_91 : decode cX4_join 91 = .ok (.iload 5, 2) := by decide +kernel
theorem dX4_join_93 : decode cX4_join 93 = .ok (.bipush 12, 2) := by decide +kernel
theorem dX4_join_95 : decode cX4_join 95 = .ok (.irem, 1) := by decide +kernel
theorem dX4_join_96 : decode cX4_join 96 = .ok (.invokevirtual 26, 3) := by decide +kernel
theorem dX4_join_99 : decode cX4_join 99 = .ok (.istore 7, 2) := by decide +kernel
theorem dX4_join_101 : decode cX4_join 101 = .ok (.iload 4, 2) := by decide +kernel
theorem dX4_join_103 : decode cX4_join 103 = .ok (.ifCond .ne 21, 3) := by decide +kernel
theorem dX4_join_106 : decode cX4_join 106 = .ok (.iload 6, 2) := by decide +kernel
theorem dX4_join_108 : decode cX4_join 108 = .ok (.ifCond .ne 8, 3) := by decide +kernel
theorem dX4_join_111 : decode cX4_join 111 = .ok (.iload 7, 2) := by decide +kernel
theorem dX4_join_113 : decode cX4_join 113 = .ok (.ifCond .eq 7, 3) := by decide +kernel
theorem dX4_join_116 : decode cX4_join 116 = .ok (.iconst 1, 1) := by decide +kernel
theorem dX4_join_117 : decode cX4_join 117 = .ok (.goto 67, 3) := by decide +kernel
theorem dX4_join_120 : decode cX4_join 120 = .ok (.iconst 0, 1) := by decide +kernel
theorem dX4_join_121 : decode cX4_join 121 = .ok (.goto 63, 3) := by decide +kernel
theorem dX4_join_124 : decode cX4_join 124 = .ok (.iload 4, 2) := by decide +kernel
theorem dX4_join_126 : decode cX4_join 126 = .ok (.iconst 1, 1) := by decide +kernel
theorem dX4_join_127 : decode cX4_join 127 = .ok (.if_icmp .ne 21, 3) := by decide +kernel
theorem dX4_join_130 : decode cX4_join 130 = .ok (.iload 6, 2) := by decide +kernel
theorem dX4_join_132 : decode cX4_join 132 = .ok (.ifCond .eq 12, 3) := by decide +kernel
theorem dX4_join_135 : decode cX4_join 135 = .ok (.iload 7, 2) := by decide +kernel
theorem dX4_join_137 : decode cX4_join 137 = .ok (.ifCond .eq 7, 3) := by decide +kernel
theorem dX4_join_140 : decode cX4_join 140 = .ok (.iconst 1, 1) := by decide +kernel
theorem dX4_join_141 : decode cX4_join 141 = .ok (.goto 43, 3) := by decide +kernel
theorem dX4_join_144 : decode cX4_join 144 = .ok (.iconst 0, 1) := by decide +kernel
theorem dX4_join_145 : decode cX4_join 145 = .ok (.goto 39, 3) := by decide +kernel
theorem dX4_join_148 : decode cX4_join 148 = .ok (.iload 4, 2) := by decide +kernel
theorem dX4_join_150 : decode cX4_join 150 = .ok (.iconst 2, 1) := by decide +kernel
theorem dX4_join_151 : decode cX4_join 151 = .ok (.if_icmp .ne 21, 3) := by decide +kernel
theorem dX4_join_154 : decode cX4_join 154 = .ok (.iload 6, 2) := by decide +kernel
theorem dX4_join_156 : decode cX4_join 156 = .ok (.ifCond .eq 12, 3) := by decide +kernel
theorem dX4_join_159 : decode cX4_join 159 = .ok (.iload 7, 2) := by decide +kernel
theorem dX4_join_161 : decode cX4_join 161 = .ok (.ifCond .ne 7, 3) := by decide +kernel
theorem dX4_join_164 : decode cX4_join 164 = .ok (.iconst 1, 1) := by decide +kernel
theorem dX4_join_165 : decode cX4_join 165 = .ok (.goto 19, 3) := by decide +kernel
theorem dX4_join_168 : decode cX4_join 168 = .ok (.iconst 0, 1) := by decide +kernel
theorem dX4_join_169 : decode cX4_join 169 = .ok (.goto 15, 3) := by decide +kernel
theorem dX4_join_172 : decode cX4_join 172 = .ok (.iload 6, 2) := by decide +kernel
theorem dX4_join_174 : decode cX4_join 174 = .ok (.iload 7, 2) := by decide +kernel
theorem dX4_join_176 : decode cX4_join 176 = .ok (.if_icmp .eq 7, 3) := by decide +kernel
theorem dX4_join_179 : decode cX4_join 179 = .ok (.iconst 1, 1) := by decide +kernel
theorem dX4_join_180 : decode cX4_join 180 = .ok (.goto 4, 3) := by decide +kernel
theorem dX4_join_183 : decode cX4_join 183 = .ok (.iconst 0, 1) := by decide +kernel
theorem dX4_join_184 : decode cX4_join 184 = .ok (.istore 8, 2) := by decide +kernel
theorem dX4_join_186 : decode cX4_join 186 = .ok (.iload 8, 2) := by decide +kernel
theorem dX4_join_188 : decode cX4_join 188 = .ok (.ifCond .eq 26, 3) := by decide +kernel
theorem dX4_join_191 : decode cX4_join 191 = .ok (.aload_n 0, 1) := by decide +kernel
theorem dX4_join_192 : decode cX4_join 192 = .ok (.iload 5, 2) := by decide +kernel
theorem dX4_join_194 : decode cX4_join 194 = .ok (.sipush 144, 3) := by decide +kernel
theorem dX4_join_197 : decode cX4_join 197 = .ok (.idiv, 1) := by decide +kernel
theorem dX4_join_198 : decode cX4_join 198 = .ok (.iload 5, 2) := by decide +kernel
theorem dX4_join_200 : decode cX4_join 200 = .ok (.bipush 12, 2) := by decide +kernel
theorem dX4_join_202 : decode cX4_join 202 = .ok (.idiv, 1) := by decide +kernel
theorem dX4_join_203 : decode cX4_join 203 = .ok (.bipush 12, 2) := by decide +kernel
theorem dX4_join_205 : decode cX4_join 205 = .ok (.irem, 1) := by decide +kernel
theorem dX4_join_206 : decode cX4_join 206 = .ok (.iload 5, 2) := by decide +kernel
theorem dX4_join_208 : decode cX4_join 208 = .ok (.bipush 12, 2) := by decide +kernel
theorem dX4_join_210 : decode cX4_join 210 = .ok (.irem, 1) := by decide +kernel
theorem dX4_join_211 : decode cX4_join 211 = .ok (.invokevirtual 52, 3) := by decide +kernel
theorem dX4_join_214 : decode cX4_join 214 = .ok (.iinc 5 1, 3) := by decide +kernel
theorem dX4_join_217 : decode cX4_join 217 = .ok (.goto (-176), 3) := by decide +kernel
theorem dX4_join_220 : decode cX4_join 220 = .ok (.aload_n 0, 1) := by decide +kernel
theorem dX4_join_221 : decode cX4_join 221 = .ok (.iload_n 1, 1) := by decide +kernel
theorem dX4_join_222 : decode cX4_join 222 = .ok (.invokevirtual 56, 3) := by decide +kernel
theorem dX4_join_225 : decode cX4_join 225 = .ok (.ireturn, 1) := by decide +kernel
theorem dX4_turn_0 : decode cX4_turn 0 = .ok (.iload_n 1, 1) := by decide +kernel
theorem dX4_turn_1 : decode cX4_turn 1 = .ok (.invokestatic 45, 3) := by decide +kernel
theorem dX4_turn_4 : decode cX4_turn 4 = .ok (.ifCond .eq 10, 3) := by decide +kernel
theorem dX4_turn_7 : decode cX4_turn 7 = .ok (.iload_n 2, 1) := by decide +kernel
theorem dX4_turn_8 : decode cX4_turn 8 = .ok (.invokestatic 59, 3) := by decide +kernel
theorem dX4_turn_11 : decode cX4_turn 11 = .ok (.ifCond .ne 5, 3) := by decide +kernel
theorem dX4_turn_14 : decode cX4_turn 14 = .ok (.iconst (-1), 1) := by decide +kernel
theorem dX4_turn_15 : decode cX4_turn 15 = .ok (.ireturn, 1) := by decide +kernel
theorem dX4_turn_16 : decode cX4_turn 16 = .ok (.aload_n 0, 1) := by decide +kernel
theorem dX4_turn_17 : decode cX4_turn 17 = .ok (.invokevirtual 49, 3) := by decide +kernel
theorem dX4_turn_20 : decode cX4_turn 20 = .ok (.iconst 0, 1) := by decide +kernel
theorem dX4_turn_21 : decode cX4_turn 21 = .ok (.istore_n 3, 1) := by decide +kernel
theorem dX4_turn_22 : decode cX4_turn 22 = .ok (.iload_n 3, 1) := by decide +kernel
theorem dX4_turn_23 : decode cX4_turn 23 = .ok (.sipush 1728, 3) := by decide +kernel
theorem dX4_turn_26 : decode cX4_turn 26 = .ok (.if_icmp .ge 105, 3) := by decide +kernel
theorem dX4_turn_29 : decode cX4_turn 29 = .ok (.iload_n 3, 1) := by decide +kernel
theorem dX4_turn_30 : decode cX4_turn 30 = .ok (.sipush 144, 3) := by decide +kernel
theorem dX4_turn_33 : decode cX4_turn 33 = .ok (.idiv, 1) := by decide +kernel
theorem dX4_turn_34 : decode cX4_turn 34 = .ok (.istore 4, 2) := by decide +kernel
theorem dX4_turn_36 : decode cX4_turn 36 = .ok (.iload_n 3, 1) := by decide +kernel
theorem dX4_turn_37 : decode cX4_turn 37 = .ok (.bipush 12, 2) := by decide +kernel
theorem dX4_turn_39 : decode cX4_turn 39 = .ok (.idiv, 1) := by decide +kernel
theorem dX4_turn_40 : decode cX4_turn 40 = .ok (.bipush 12, 2) := by decide +kernel
theorem dX4_turn_42 : decode cX4_turn 42 = .ok (.irem, 1) := by decide +kernel
theorem dX4_turn_43 : decode cX4_turn 43 = .ok (.istore 5, 2) := by decide +kernel
theorem dX4_turn_45 : decode cX4_turn 45 = .ok (.iload_n 3, 1) := by decide +kernel
theorem dX4_turn_46 : decode cX4_turn 46 = .ok (.bipush 12, 2) := by decide +kernel
theorem dX4_turn_48 : decode cX4_turn 48 = .ok (.irem, 1) := by decide +kernel
theorem dX4_turn_49 : decode cX4_turn 49 = .ok (.istore 6, 2) := by decide +kernel
theorem dX4_turn_51 : decode cX4_turn 51 = .ok (.iload_n 2, 1) := by decide +kernel
theorem dX4_turn_52 : decode cX4_turn 52 = .ok (.ifCond .ne 20, 3) := by decide +kernel
theorem dX4_turn_55 : decode cX4_turn 55 = .ok (.aload_n 0, 1) := by decide +kernel
theorem dX4_turn_56 : decode cX4_turn 56 = .ok (.iload_n 1, 1) := by decide +kernel
theorem dX4_turn_57 : decode cX4_turn 57 = .ok (.iload 4, 2) := by decide +kernel
theorem dX4_turn_59 : decode cX4_turn 59 = .ok (.iload 6, 2) := by decide +kernel
theorem dX4_turn_61 : decode cX4_turn 61 = .ok (.bipush 11, 2) := by decide +kernel
theorem dX4_turn_63 : decode cX4_turn 63 = .ok (.iload 5, 2) := by decide +kernel
theorem dX4_turn_65 : decode cX4_turn 65 = .ok (.isub, 1) := by decide +kernel
theorem dX4_turn_66 : decode cX4_turn 66 = .ok (.invokevirtual 26, 3) := by decide +kernel
theorem dX4_turn_69 : decode cX4_turn 69 = .ok (.goto 39, 3) := by decide +kernel
theorem dX4_turn_72 : decode cX4_turn 72 = .ok (.iload_n 2, 1) := by decide +kernel
theorem dX4_turn_73 : decode cX4_turn 73 = .ok (.iconst 1, 1) := by decide +kernel
theorem dX4_turn_74 : decode cX4_turn 74 = .ok (.if_icmp .ne 20, 3) := by decide +kernel
theorem dX4_turn_77 : decode cX4_turn 77 = .ok (.aload_n 0, 1) := by decide +kernel
theorem dX4_turn_78 : decode cX4_turn 78 = .ok (.iload_n 1, 1) := by decide +kernel
theorem dX4_turn_79 : decode cX4_turn 79 = .ok (.bipush 11, 2) := by decide +kernel
theorem dX4_turn_81 : decode cX4_turn 81 = .ok (.iload 6, 2) := by decide +kernel
theorem dX4_turn_83 : decode cX4_turn 83 = .ok (.isub, 1) := by decide +kernel
theorem dX4_turn_84 : decode cX4_turn 84 = .ok (.iload 5, 2) := by decide +kernel
theorem dX4_turn_86 : decode cX4_turn 86 = .ok (.iload 4, 2) := by decide +kernel
theorem dX4_turn_88 : decode cX4_turn 88 = .ok (.invokevirtual 26, 3) := by decide +kernel
theorem dX4_turn_91 : decode cX4_turn 91 = .ok (.goto 17, 3) := by decide +kernel
theorem dX4_turn_94 : decode cX4_turn 94 = .ok (.aload_n 0, 1) := by decide +kernel
theorem dX4_turn_95 : decode cX4_turn 95 = .ok (.iload_n 1, 1) := by decide +kernel
theorem dX4_turn_96 : decode cX4_turn 96 = .ok (.iload 5, 2) := by decide +kernel
theorem dX4_turn_98 : decode cX4_turn 98 = .ok (.bipush 11, 2) := by decide +kernel
theorem dX4_turn_100 : decode cX4_turn 100 = .ok (.iload 4, 2) := by decide +kernel
theorem dX4_turn_102 : decode cX4_turn 102 = .ok (.isub, 1) := by decide +kernel
theorem dX4_turn_103 : decode cX4_turn 103 = .ok (.iload 6, 2) := by decide +kernel
theorem dX4_turn_105 : decode cX4_turn 105 = .ok (.invokevirtual 26, 3) := by decide +kernel
theorem dX4_turn_108 : decode cX4_turn 108 = .ok (.istore 7, 2) := by decide +kernel
theorem dX4_turn_110 : decode cX4_turn 110 = .ok (.iload 7, 2) := by decide +kernel
theorem dX4_turn_112 : decode cX4_turn 112 = .ok (.ifCond .eq 13, 3) := by decide +kernel
theorem dX4_turn_115 : decode cX4_turn 115 = .ok (.aload_n 0, 1) := by decide +kernel
theorem dX4_turn_116 : decode cX4_turn 116 = .ok (.iload 4, 2) := by decide +kernel
theorem dX4_turn_118 : decode cX4_turn 118 = .ok (.iload 5, 2) := by decide +kernel
theorem dX4_turn_120 : decode cX4_turn 120 = .ok (.iload 6, 2) := by decide +kernel
theorem dX4_turn_122 : decode cX4_turn 122 = .ok (.invokevirtual 52, 3) := by decide +kernel
theorem dX4_turn_125 : decode cX4_turn 125 = .ok (.iinc 3 1, 3) := by decide +kernel
theorem dX4_turn_128 : decode cX4_turn 128 = .ok (.goto (-106), 3) := by decide +kernel
theorem dX4_turn_131 : decode cX4_turn 131 = .ok (.aload_n 0, 1) := by decide +kernel
theorem dX4_turn_132 : decode cX4_turn 132 = .ok (.iload_n 1, 1) := by decide +kernel
theorem dX4_turn_133 : decode cX4_turn 133 = .ok (.invokevirtual 56, 3) := by decide +kernel
theorem dX4_turn_136 : decode cX4_turn 136 = .ok (.ireturn, 1) := by decide +kernel
theorem dX4_mirror_0 : decode cX4_mirror 0 = .ok (.iload_n 1, 1) := by decide +kernel
theorem dX4_mirror_1 : decode cX4_mirror 1 = .ok (.invokestatic 45, 3) := by decide +kernel
theorem dX4_mirror_4 : decode cX4_mirror 4 = .ok (.ifCond .eq 10, 3) := by decide +kernel
theorem dX4_mirror_7 : decode cX4_mirror 7 = .ok (.iload_n 2, 1) := by decide +kernel
theorem dX4_mirror_8 : decode cX4_mirror 8 = .ok (.invokestatic 59, 3) := by decide +kernel
theorem dX4_mirror_11 : decode cX4_mirror 11 = .ok (.ifCond .ne 5, 3) := by decide +kernel
theorem dX4_mirror_14 : decode cX4_mirror 14 = .ok (.iconst (-1), 1) := by decide +kernel
theorem dX4_mirror_15 : decode cX4_mirror 15 = .ok (.ireturn, 1) := by decide +kernel
theorem dX4_mirror_16 : decode cX4_mirror 16 = .ok (.aload_n 0, 1) := by decide +kernel
theorem dX4_mirror_17 : decode cX4_mirror 17 = .ok (.invokevirtual 49, 3) := by decide +kernel
theorem dX4_mirror_20 : decode cX4_mirror 20 = .ok (.iconst 0, 1) := by decide +kernel
theorem dX4_mirror_21 : decode cX4_mirror 21 = .ok (.istore_n 3, 1) := by decide +kernel
theorem dX4_mirror_22 : decode cX4_mirror 22 = .ok (.iload_n 3, 1) := by decide +kernel
theorem dX4_mirror_23 : decode cX4_mirror 23 = .ok (.sipush 1728, 3) := by decide +kernel
theorem dX4_mirror_26 : decode cX4_mirror 26 = .ok (.if_icmp .ge 93, 3) := by decide +kernel
theorem dX4_mirror_29 : decode cX4_mirror 29 = .ok (.iload_n 3, 1) := by decide +kernel
theorem dX4_mirror_30 : decode cX4_mirror 30 = .ok (.sipush 144, 3) := by decide +kernel
theorem dX4_mirror_33 : decode cX4_mirror 33 = .ok (.idiv, 1) := by decide +kernel
theorem dX4_mirror_34 : decode cX4_mirror 34 = .ok (.istore 4, 2) := by decide +kernel
theorem dX4_mirror_36 : decode cX4_mirror 36 = .ok (.iload_n 3, 1) := by decide +kernel
theorem dX4_mirror_37 : decode cX4_mirror 37 = .ok (.bipush 12, 2) := by decide +kernel
theorem dX4_mirror_39 : decode cX4_mirror 39 = .ok (.idiv, 1) := by decide +kernel
theorem dX4_mirror_40 : decode cX4_mirror 40 = .ok (.bipush 12, 2) := by decide +kernel
theorem dX4_mirror_42 : decode cX4_mirror 42 = .ok (.irem, 1) := by decide +kernel
theorem dX4_mirror_43 : decode cX4_mirror 43 = .ok (.istore 5, 2) := by decide +kernel
theorem dX4_mirror_45 : decode cX4_mirror 45 = .ok (.iload_n 3, 1) := by decide +kernel
theorem dX4_mirror_46 : decode cX4_mirror 46 = .ok (.bipush 12, 2) := by decide +kernel
theorem dX4_mirror_48 : decode cX4_mirror 48 = .ok (.irem, 1) := by decide +kernel
theorem dX4_mirror_49 : decode cX4_mirror 49 = .ok (.istore 6, 2) := by decide +kernel
theorem dX4_mirror_51 : decode cX4_mirror 51 = .ok (.aload_n 0, 1) := by decide +kernel
theorem dX4_mirror_52 : decode cX4_mirror 52 = .ok (.iload_n 1, 1) := by decide +kernel
theorem dX4_mirror_53 : decode cX4_mirror 53 = .ok (.iload_n 2, 1) := by decide +kernel
theorem dX4_mirror_54 : decode cX4_mirror 54 = .ok (.ifCond .ne 11, 3) := by decide +kernel
theorem dX4_mirror_57 : decode cX4_mirror 57 = .ok (.bipush 11, 2) := by decide +kernel
theorem dX4_mirror_59 : decode cX4_mirror 59 = .ok (.iload 4, 2) := by decide +kernel
theorem dX4_mirror_61 : decode cX4_mirror 61 = .ok (.isub, 1) := by decide +kernel
theorem dX4_mirror_62 : decode cX4_mirror 62 = .ok (.goto 5, 3) := by decide +kernel
theorem dX4_mirror_65 : decode cX4_mirror 65 = .ok (.iload 4, 2) := by decide +kernel
theorem dX4_mirror_67 : decode cX4_mirror 67 = .ok (.iload_n 2, 1) := by decide +kernel
theorem dX4_mirror_68 : decode cX4_mirror 68 = .ok (.iconst 1, 1) := by decide +kernel
theorem dX4_mirror_69 : decode cX4_mirror 69 = .ok (.if_icmp .ne 11, 3) := by decide +kernel
theorem dX4_mirror_72 : decode cX4_mirror 72 = .ok (.bipush 11, 2) := by decide +kernel
theorem dX4_mirror_74 : decode cX4_mirror 74 = .ok (.iload 5, 2) := by decide +kernel
theorem dX4_mirror_76 : decode cX4_mirror 76 = .ok (.isub, 1) := by decide +kernel
theorem dX4_mirror_77 : decode cX4_mirror 77 = .ok (.goto 5, 3) := by decide +kernel
theorem dX4_mirror_80 : decode cX4_mirror 80 = .ok (.iload 5, 2) := by decide +kernel
theorem dX4_mirror_82 : decode cX4_mirror 82 = .ok (.iload_n 2, 1) := by decide +kernel
theorem dX4_mirror_83 : decode cX4_mirror 83 = .ok (.iconst 2, 1) := by decide +kernel
theorem dX4_mirror_84 : decode cX4_mirror 84 = .ok (.if_icmp .ne 11, 3) := by decide +kernel
theorem dX4_mirror_87 : decode cX4_mirror 87 = .ok (.bipush 11, 2) := by decide +kernel
theorem dX4_mirror_89 : decode cX4_mirror 89 = .ok (.iload 6, 2) := by decide +kernel
theorem dX4_mirror_91 : decode cX4_mirror 91 = .ok (.isub, 1) := by decide +kernel
theorem dX4_mirror_92 : decode cX4_mirror 92 = .ok (.goto 5, 3) := by decide +kernel
theorem dX4_mirror_95 : decode cX4_mirror 95 = .ok (.iload 6, 2) := by decide +kernel
theorem dX4_mirror_97 : decode cX4_mirror 97 = .ok (.invokevirtual 26, 3) := by decide +kernel
theorem dX4_mirror_100 : decode cX4_mirror 100 = .ok (.ifCond .eq 13, 3) := by decide +kernel
theorem dX4_mirror_103 : decode cX4_mirror 103 = .ok (.aload_n 0, 1) := by decide +kernel
theorem dX4_mirror_104 : decode cX4_mirror 104 = .ok (.iload 4, 2) := by decide +kernel
theorem dX4_mirror_106 : decode cX4_mirror 106 = .ok (.iload 5, 2) := by decide +kernel
theorem dX4_mirror_108 : decode cX4_mirror 108 = .ok (.iload 6, 2) := by decide +kernel
theorem dX4_mirror_110 : decode cX4_mirror 110 = .ok (.invokevirtual 52, 3) := by decide +kernel
theorem dX4_mirror_113 : decode cX4_mirror 113 = .ok (.iinc 3 1, 3) := by decide +kernel
theorem dX4_mirror_116 : decode cX4_mirror 116 = .ok (.goto (-94), 3) := by decide +kernel
theorem dX4_mirror_119 : decode cX4_mirror 119 = .ok (.aload_n 0, 1) := by decide +kernel
theorem dX4_mirror_120 : decode cX4_mirror 120 = .ok (.iload_n 1, 1) := by decide +kernel
theorem dX4_mirror_121 : decode cX4_mirror 121 = .ok (.invokevirtual 56, 3) := by decide +kernel
theorem dX4_mirror_124 : decode cX4_mirror 124 = .ok (.ireturn, 1) := by decide +kernel
theorem dX4_shifted_0 : decode cX4_shifted 0 = .ok (.iload_n 1, 1) := by decide +kernel
theorem dX4_shifted_1 : decode cX4_shifted 1 = .ok (.bipush (-12), 2) := by decide +kernel
theorem dX4_shifted_3 : decode cX4_shifted 3 = .ok (.if_icmp .le 26, 3) := by decide +kernel
theorem dX4_shifted_6 : decode cX4_shifted 6 = .ok (.iload_n 1, 1) := by decide +kernel
theorem dX4_shifted_7 : decode cX4_shifted 7 = .ok (.bipush 12, 2) := by decide +kernel
theorem dX4_shifted_9 : decode cX4_shifted 9 = .ok (.if_icmp .ge 20, 3) := by decide +kernel
theorem dX4_shifted_12 : decode cX4_shifted 12 = .ok (.iload_n 0, 1) := by decide +kernel
theorem dX4_shifted_13 : decode cX4_shifted 13 = .ok (.iload_n 1, 1) := by decide +kernel
theorem dX4_shifted_14 : decode cX4_shifted 14 = .ok (.iadd, 1) := by decide +kernel
theorem dX4_shifted_15 : decode cX4_shifted 15 = .ok (.bipush 12, 2) := by decide +kernel
theorem dX4_shifted_17 : decode cX4_shifted 17 = .ok (.invokestatic 22, 3) := by decide +kernel
theorem dX4_shifted_20 : decode cX4_shifted 20 = .ok (.ifCond .eq 9, 3) := by decide +kernel
theorem dX4_shifted_23 : decode cX4_shifted 23 = .ok (.iload_n 0, 1) := by decide +kernel
theorem dX4_shifted_24 : decode cX4_shifted 24 = .ok (.iload_n 1, 1) := by decide +kernel
theorem dX4_shifted_25 : decode cX4_shifted 25 = .ok (.iadd, 1) := by decide +kernel
theorem dX4_shifted_26 : decode cX4_shifted 26 = .ok (.goto 4, 3) := by decide +kernel
theorem dX4_shifted_29 : decode cX4_shifted 29 = .ok (.iconst (-1), 1) := by decide +kernel
theorem dX4_shifted_30 : decode cX4_shifted 30 = .ok (.ireturn, 1) := by decide +kernel
theorem dX4_shift_0 : decode cX4_shift 0 = .ok (.iload_n 1, 1) := by decide +kernel
theorem dX4_shift_1 : decode cX4_shift 1 = .ok (.invokestatic 45, 3) := by decide +kernel
theorem dX4_shift_4 : decode cX4_shift 4 = .ok (.ifCond .ne 5, 3) := by decide +kernel
theorem dX4_shift_7 : decode cX4_shift 7 = .ok (.iconst (-1), 1) := by decide +kernel
theorem dX4_shift_8 : decode cX4_shift 8 = .ok (.ireturn, 1) := by decide +kernel
theorem dX4_shift_9 : decode cX4_shift 9 = .ok (.aload_n 0, 1) := by decide +kernel
theorem dX4_shift_10 : decode cX4_shift 10 = .ok (.invokevirtual 49, 3) := by decide +kernel
theorem dX4_shift_13 : decode cX4_shift 13 = .ok (.iconst 0, 1) := by decide +kernel
theorem dX4_shift_14 : decode cX4_shift 14 = .ok (.istore 5, 2) := by decide +kernel
theorem dX4_shift_16 : decode cX4_shift 16 = .ok (.iload 5, 2) := by decide +kernel
theorem dX4_shift_18 : decode cX4_shift 18 = .ok (.sipush 1728, 3) := by decide +kernel
theorem dX4_shift_21 : decode cX4_shift 21 = .ok (.if_icmp .ge 102, 3) := by decide +kernel
theorem dX4_shift_24 : decode cX4_shift 24 = .ok (.aload_n 0, 1) := by decide +kernel
theorem dX4_shift_25 : decode cX4_shift 25 = .ok (.iload_n 1, 1) := by decide +kernel
theorem dX4_shift_26 : decode cX4_shift 26 = .ok (.iload 5, 2) := by decide +kernel
theorem dX4_shift_28 : decode cX4_shift 28 = .ok (.sipush 144, 3) := by decide +kernel
theorem dX4_shift_31 : decode cX4_shift 31 = .ok (.idiv, 1) := by decide +kernel
theorem dX4_shift_32 : decode cX4_shift 32 = .ok (.iload 5, 2) := by decide +kernel
theorem dX4_shift_34 : decode cX4_shift 34 = .ok (.bipush 12, 2) := by decide +kernel
theorem dX4_shift_36 : decode cX4_shift 36 = .ok (.idiv, 1) := by decide +kernel
theorem dX4_shift_37 : decode cX4_shift 37 = .ok (.bipush 12, 2) := by decide +kernel
theorem dX4_shift_39 : decode cX4_shift 39 = .ok (.irem, 1) := by decide +kernel
theorem dX4_shift_40 : decode cX4_shift 40 = .ok (.iload 5, 2) := by decide +kernel
theorem dX4_shift_42 : decode cX4_shift 42 = .ok (.bipush 12, 2) := by decide +kernel
theorem dX4_shift_44 : decode cX4_shift 44 = .ok (.irem, 1) := by decide +kernel
theorem dX4_shift_45 : decode cX4_shift 45 = .ok (.invokevirtual 26, 3) := by decide +kernel
theorem dX4_shift_48 : decode cX4_shift 48 = .ok (.ifCond .eq 69, 3) := by decide +kernel
theorem dX4_shift_51 : decode cX4_shift 51 = .ok (.iload 5, 2) := by decide +kernel
theorem dX4_shift_53 : decode cX4_shift 53 = .ok (.sipush 144, 3) := by decide +kernel
theorem dX4_shift_56 : decode cX4_shift 56 = .ok (.idiv, 1) := by decide +kernel
theorem dX4_shift_57 : decode cX4_shift 57 = .ok (.iload_n 2, 1) := by decide +kernel
theorem dX4_shift_58 : decode cX4_shift 58 = .ok (.invokestatic 62, 3) := by decide +kernel
theorem dX4_shift_61 : decode cX4_shift 61 = .ok (.istore 6, 2) := by decide +kernel
theorem dX4_shift_63 : decode cX4_shift 63 = .ok (.iload 5, 2) := by decide +kernel
theorem dX4_shift_65 : decode cX4_shift 65 = .ok (.bipush 12, 2) := by decide +kernel
theorem dX4_shift_67 : decode cX4_shift 67 = .ok (.idiv, 1) := by decide +kernel
theorem dX4_shift_68 : decode cX4_shift 68 = .ok (.bipush 12, 2) := by decide +kernel
theorem dX4_shift_70 : decode cX4_shift 70 = .ok (.irem, 1) := by decide +kernel
theorem dX4_shift_71 : decode cX4_shift 71 = .ok (.iload_n 3, 1) := by decide +kernel
theorem dX4_shift_72 : decode cX4_shift 72 = .ok (.invokestatic 62, 3) := by decide +kernel
theorem dX4_shift_75 : decode cX4_shift 75 = .ok (.istore 7, 2) := by decide +kernel
theorem dX4_shift_77 : decode cX4_shift 77 = .ok (.iload 5, 2) := by decide +kernel
theorem dX4_shift_79 : decode cX4_shift 79 = .ok (.bipush 12, 2) := by decide +kernel
theorem dX4_shift_81 : decode cX4_shift 81 = .ok (.irem, 1) := by decide +kernel
theorem dX4_shift_82 : decode cX4_shift 82 = .ok (.iload 4, 2) := by decide +kernel
theorem dX4_shift_84 : decode cX4_shift 84 = .ok (.invokestatic 62, 3) := by decide +kernel
theorem dX4_shift_87 : decode cX4_shift 87 = .ok (.istore 8, 2) := by decide +kernel
theorem dX4_shift_89 : decode cX4_shift 89 = .ok (.iload 6, 2) := by decide +kernel
theorem dX4_shift_91 : decode cX4_shift 91 = .ok (.ifCond .lt 13, 3) := by decide +kernel
theorem dX4_shift_94 : decode cX4_shift 94 = .ok (.iload 7, 2) := by decide +kernel
theorem dX4_shift_96 : decode cX4_shift 96 = .ok (.ifCond .lt 8, 3) := by decide +kernel
theorem dX4_shift_99 : decode cX4_shift 99 = .ok (.iload 8, 2) := by decide +kernel
theorem dX4_shift_101 : decode cX4_shift 101 = .ok (.ifCond .ge 6, 3) := by decide +kernel
theorem dX4_shift_104 : decode cX4_shift 104 = .ok (.bipush (-2), 2) := by decide +kernel
theorem dX4_shift_106 : decode cX4_shift 106 = .ok (.ireturn, 1) := by decide +kernel
theorem dX4_shift_107 : decode cX4_shift 107 = .ok (.aload_n 0, 1) := by decide +kernel
theorem dX4_shift_108 : decode cX4_shift 108 = .ok (.iload 6, 2) := by decide +kernel
theorem dX4_shift_110 : decode cX4_shift 110 = .ok (.iload 7, 2) := by decide +kernel
theorem dX4_shift_112 : decode cX4_shift 112 = .ok (.iload 8, 2) := by decide +kernel
theorem dX4_shift_114 : decode cX4_shift 114 = .ok (.invokevirtual 52, 3) := by decide +kernel
theorem dX4_shift_117 : decode cX4_shift 117 = .ok (.iinc 5 1, 3) := by decide +kernel
theorem dX4_shift_120 : decode cX4_shift 120 = .ok (.goto (-104), 3) := by decide +kernel
theorem dX4_shift_123 : decode cX4_shift 123 = .ok (.aload_n 0, 1) := by decide +kernel
theorem dX4_shift_124 : decode cX4_shift 124 = .ok (.iload_n 1, 1) := by decide +kernel
theorem dX4_shift_125 : decode cX4_shift 125 = .ok (.invokevirtual 56, 3) := by decide +kernel
theorem dX4_shift_128 : decode cX4_shift 128 = .ok (.ireturn, 1) := by decide +kernel
theorem dX4_sweep_0 : decode cX4_sweep 0 = .ok (.iload_n 1, 1) := by decide +kernel
theorem dX4_sweep_1 : decode cX4_sweep 1 = .ok (.invokestatic 45, 3) := by decide +kernel
theorem dX4_sweep_4 : decode cX4_sweep 4 = .ok (.ifCond .eq 27, 3) := by decide +kernel
theorem dX4_sweep_7 : decode cX4_sweep 7 = .ok (.iload_n 2, 1) := by decide +kernel
theorem dX4_sweep_8 : decode cX4_sweep 8 = .ok (.invokestatic 45, 3) := by decide +kernel
theorem dX4_sweep_11 : decode cX4_sweep 11 = .ok (.ifCond .eq 20, 3) := by decide +kernel
theorem dX4_sweep_14 : decode cX4_sweep 14 = .ok (.iload_n 3, 1) := by decide +kernel
theorem dX4_sweep_15 : decode cX4_sweep 15 = .ok (.invokestatic 59, 3) := by decide +kernel
theorem dX4_sweep_18 : decode cX4_sweep 18 = .ok (.ifCond .eq 13, 3) := by decide +kernel
theorem dX4_sweep_21 : decode cX4_sweep 21 = .ok (.iload 4, 2) := by decide +kernel
theorem dX4_sweep_23 : decode cX4_sweep 23 = .ok (.bipush 12, 2) := by decide +kernel
theorem dX4_sweep_25 : decode cX4_sweep 25 = .ok (.invokestatic 22, 3) := by decide +kernel
theorem dX4_sweep_28 : decode cX4_sweep 28 = .ok (.ifCond .ne 5, 3) := by decide +kernel
theorem dX4_sweep_31 : decode cX4_sweep 31 = .ok (.iconst (-1), 1) := by decide +kernel
theorem dX4_sweep_32 : decode cX4_sweep 32 = .ok (.ireturn, 1) := by decide +kernel
theorem dX4_sweep_33 : decode cX4_sweep 33 = .ok (.iload 5, 2) := by decide +kernel
theorem dX4_sweep_35 : decode cX4_sweep 35 = .ok (.bipush 12, 2) := by decide +kernel
theorem dX4_sweep_37 : decode cX4_sweep 37 = .ok (.invokestatic 22, 3) := by decide +kernel
theorem dX4_sweep_40 : decode cX4_sweep 40 = .ok (.ifCond .eq 20, 3) := by decide +kernel
theorem dX4_sweep_43 : decode cX4_sweep 43 = .ok (.iload 6, 2) := by decide +kernel
theorem dX4_sweep_45 : decode cX4_sweep 45 = .ok (.bipush 12, 2) := by decide +kernel
theorem dX4_sweep_47 : decode cX4_sweep 47 = .ok (.invokestatic 22, 3) := by decide +kernel
theorem dX4_sweep_50 : decode cX4_sweep 50 = .ok (.ifCond .eq 10, 3) := by decide +kernel
theorem dX4_sweep_53 : decode cX4_sweep 53 = .ok (.iload 5, 2) := by decide +kernel
theorem dX4_sweep_55 : decode cX4_sweep 55 = .ok (.iload 6, 2) := by decide +kernel
theorem dX4_sweep_57 : decode cX4_sweep 57 = .ok (.if_icmp .le 6, 3) := by decide +kernel
theorem dX4_sweep_60 : decode cX4_sweep 60 = .ok (.bipush (-2), 2) := by decide +kernel
theorem dX4_sweep_62 : decode cX4_sweep 62 = .ok (.ireturn, 1) := by decide +kernel
theorem dX4_sweep_63 : decode cX4_sweep 63 = .ok (.aload_n 0, 1) := by decide +kernel
theorem dX4_sweep_64 : decode cX4_sweep 64 = .ok (.invokevirtual 49, 3) := by decide +kernel
theorem dX4_sweep_67 : decode cX4_sweep 67 = .ok (.iconst 0, 1) := by decide +kernel
theorem dX4_sweep_68 : decode cX4_sweep 68 = .ok (.istore 7, 2) := by decide +kernel
theorem dX4_sweep_70 : decode cX4_sweep 70 = .ok (.iload 7, 2) := by decide +kernel
theorem dX4_sweep_72 : decode cX4_sweep 72 = .ok (.bipush 12, 2) := by decide +kernel
theorem dX4_sweep_74 : decode cX4_sweep 74 = .ok (.if_icmp .ge 101, 3) := by decide +kernel
theorem dX4_sweep_77 : decode cX4_sweep 77 = .ok (.iconst 0, 1) := by decide +kernel
theorem dX4_sweep_78 : decode cX4_sweep 78 = .ok (.istore 8, 2) := by decide +kernel
theorem dX4_sweep_80 : decode cX4_sweep 80 = .ok (.iload 8, 2) := by decide +kernel
theorem dX4_sweep_82 : decode cX4_sweep 82 = .ok (.bipush 12, 2) := by decide +kernel
theorem dX4_sweep_84 : decode cX4_sweep 84 = .ok (.if_icmp .ge 85, 3) := by decide +kernel
theorem dX4_sweep_87 : decode cX4_sweep 87 = .ok (.iload 5, 2) := by decide +kernel
theorem dX4_sweep_89 : decode cX4_sweep 89 = .ok (.istore 9, 2) := by decide +kernel
theorem dX4_sweep_91 : decode cX4_sweep 91 = .ok (.iload 9, 2) := by decide +kernel
theorem dX4_sweep_93 : decode cX4_sweep 93 = .ok (.iload 6, 2) := by decide +kernel
theorem dX4_sweep_95 : decode cX4_sweep 95 = .ok (.if_icmp .gt 68, 3) := by decide +kernel
theorem dX4_sweep_98 : decode cX4_sweep 98 = .ok (.aload_n 0, 1) := by decide +kernel
theorem dX4_sweep_99 : decode cX4_sweep 99 = .ok (.iload_n 2, 1) := by decide +kernel
theorem dX4_sweep_100 : decode cX4_sweep 100 = .ok (.iload_n 3, 1) := by decide +kernel
theorem dX4_sweep_101 : decode cX4_sweep 101 = .ok (.iload 4, 2) := by decide +kernel
theorem dX4_sweep_103 : decode cX4_sweep 103 = .ok (.iload 7, 2) := by decide +kernel
theorem dX4_sweep_105 : decode cX4_sweep 105 = .ok (.iload 8, 2) := by decide +kernel
theorem dX4_sweep_107 : decode cX4_sweep 107 = .ok (.invokevirtual 66, 3) := by decide +kernel
theorem dX4_sweep_110 : decode cX4_sweep 110 = .ok (.ifCond .eq 53, 3) := by decide +kernel
theorem dX4_sweep_113 : decode cX4_sweep 113 = .ok (.iload_n 3, 1) := by decide +kernel
theorem dX4_sweep_114 : decode cX4_sweep 114 = .ok (.ifCond .ne 13, 3) := by decide +kernel
theorem dX4_sweep_117 : decode cX4_sweep 117 = .ok (.aload_n 0, 1) := by decide +kernel
theorem dX4_sweep_118 : decode cX4_sweep 118 = .ok (.iload 9, 2) := by decide +kernel
theorem dX4_sweep_120 : decode cX4_sweep 120 = .ok (.iload 7, 2) := by decide +kernel
theorem dX4_sweep_122 : decode cX4_sweep 122 = .ok (.iload 8, 2) := by decide +kernel
theorem dX4_sweep_124 : decode cX4_sweep 124 = .ok (.invokevirtual 52, 3) := by decide +kernel
theorem dX4_sweep_127 : decode cX4_sweep 127 = .ok (.iload_n 3, 1) := by decide +kernel
theorem dX4_sweep_128 : decode cX4_sweep 128 = .ok (.iconst 1, 1) := by decide +kernel
theorem dX4_sweep_129 : decode cX4_sweep 129 = .ok (.if_icmp .ne 13, 3) := by decide +kernel
theorem dX4_sweep_132 : decode cX4_sweep 132 = .ok (.aload_n 0, 1) := by decide +kernel
theorem dX4_sweep_133 : decode cX4_sweep 133 = .ok (.iload 7, 2) := by decide +kernel
theorem dX4_sweep_135 : decode cX4_sweep 135 = .ok (.iload 9, 2) := by decide +kernel
theorem dX4_sweep_137 : decode cX4_sweep 137 = .ok (.iload 8, 2) := by decide +kernel
theorem dX4_sweep_139 : decode cX4_sweep 139 = .ok (.invokevirtual 52, 3) := by decide +kernel
theorem dX4_sweep_142 : decode cX4_sweep 142 = .ok (.iload_n 3, 1) := by decide +kernel
theorem dX4_sweep_143 : decode cX4_sweep 143 = .ok (.iconst 2, 1) := by decide +kernel
theorem dX4_sweep_144 : decode cX4_sweep 144 = .ok (.if_icmp .ne 13, 3) := by decide +kernel
theorem dX4_sweep_147 : decode cX4_sweep 147 = .ok (.aload_n 0, 1) := by decide +kernel
theorem dX4_sweep_148 : decode cX4_sweep 148 = .ok (.iload 7, 2) := by decide +kernel
theorem dX4_sweep_150 : decode cX4_sweep 150 = .ok (.iload 8, 2) := by decide +kernel
theorem dX4_sweep_152 : decode cX4_sweep 152 = .ok (.iload 9, 2) := by decide +kernel
theorem dX4_sweep_154 : decode cX4_sweep 154 = .ok (.invokevirtual 52, 3) := by decide +kernel
theorem dX4_sweep_157 : decode cX4_sweep 157 = .ok (.iinc 9 1, 3) := by decide +kernel
theorem dX4_sweep_160 : decode cX4_sweep 160 = .ok (.goto (-69), 3) := by decide +kernel
theorem dX4_sweep_163 : decode cX4_sweep 163 = .ok (.iinc 8 1, 3) := by decide +kernel
theorem dX4_sweep_166 : decode cX4_sweep 166 = .ok (.goto (-86), 3) := by decide +kernel
theorem dX4_sweep_169 : decode cX4_sweep 169 = .ok (.iinc 7 1, 3) := by decide +kernel
theorem dX4_sweep_172 : decode cX4_sweep 172 = .ok (.goto (-102), 3) := by decide +kernel
theorem dX4_sweep_175 : decode cX4_sweep 175 = .ok (.aload_n 0, 1) := by decide +kernel
theorem dX4_sweep_176 : decode cX4_sweep 176 = .ok (.iload_n 1, 1) := by decide +kernel
theorem dX4_sweep_177 : decode cX4_sweep 177 = .ok (.invokevirtual 56, 3) := by decide +kernel
theorem dX4_sweep_180 : decode cX4_sweep 180 = .ok (.ireturn, 1) := by decide +kernel
theorem dX4_volume_0 : decode cX4_volume 0 = .ok (.iload_n 1, 1) := by decide +kernel
theorem dX4_volume_1 : decode cX4_volume 1 = .ok (.invokestatic 45, 3) := by decide +kernel
theorem dX4_volume_4 : decode cX4_volume 4 = .ok (.ifCond .eq 11, 3) := by decide +kernel
theorem dX4_volume_7 : decode cX4_volume 7 = .ok (.aload_n 0, 1) := by decide +kernel
theorem dX4_volume_8 : decode cX4_volume 8 = .ok (.iload_n 1, 1) := by decide +kernel
theorem dX4_volume_9 : decode cX4_volume 9 = .ok (.invokevirtual 41, 3) := by decide +kernel
theorem dX4_volume_12 : decode cX4_volume 12 = .ok (.goto 4, 3) := by decide +kernel
theorem dX4_volume_15 : decode cX4_volume 15 = .ok (.iconst (-1), 1) := by decide +kernel
theorem dX4_volume_16 : decode cX4_volume 16 = .ok (.ireturn, 1) := by decide +kernel
theorem dX4_sides_0 : decode cX4_sides 0 = .ok (.iload_n 1, 1) := by decide +kernel
theorem dX4_sides_1 : decode cX4_sides 1 = .ok (.invokestatic 45, 3) := by decide +kernel
theorem dX4_sides_4 : decode cX4_sides 4 = .ok (.ifCond .ne 5, 3) := by decide +kernel
theorem dX4_sides_7 : decode cX4_sides 7 = .ok (.iconst (-1), 1) := by decide +kernel
theorem dX4_sides_8 : decode cX4_sides 8 = .ok (.ireturn, 1) := by decide +kernel
theorem dX4_sides_9 : decode cX4_sides 9 = .ok (.iconst 0, 1) := by decide +kernel
theorem dX4_sides_10 : decode cX4_sides 10 = .ok (.istore_n 2, 1) := by decide +kernel
theorem dX4_sides_11 : decode cX4_sides 11 = .ok (.iconst 0, 1) := by decide +kernel
theorem dX4_sides_12 : decode cX4_sides 12 = .ok (.istore_n 3, 1) := by decide +kernel
theorem dX4_sides_13 : decode cX4_sides 13 = .ok (.iload_n 3, 1) := by decide +kernel
theorem dX4_sides_14 : decode cX4_sides 14 = .ok (.sipush 1728, 3) := by decide +kernel
theorem dX4_sides_17 : decode cX4_sides 17 = .ok (.if_icmp .ge 181, 3) := by decide +kernel
theorem dX4_sides_20 : decode cX4_sides 20 = .ok (.iload_n 3, 1) := by decide +kernel
theorem dX4_sides_21 : decode cX4_sides 21 = .ok (.sipush 144, 3) := by decide +kernel
theorem dX4_sides_24 : decode cX4_sides 24 = .ok (.idiv, 1) := by decide +kernel
theorem dX4_sides_25 : decode cX4_sides 25 = .ok (.istore 4, 2) := by decide +kernel
theorem dX4_sides_27 : decode cX4_sides 27 = .ok (.iload_n 3, 1) := by decide +kernel
theorem dX4_sides_28 : decode cX4_sides 28 = .ok (.bipush 12, 2) := by decide +kernel
theorem dX4_sides_30 : decode cX4_sides 30 = .ok (.idiv, 1) := by decide +kernel
theorem dX4_sides_31 : decode cX4_sides 31 = .ok (.bipush 12, 2) := by decide +kernel
theorem dX4_sides_33 : decode cX4_sides 33 = .ok (.irem, 1) := by decide +kernel
theorem dX4_sides_34 : decode cX4_sides 34 = .ok (.istore 5, 2) := by decide +kernel
theorem dX4_sides_36 : decode cX4_sides 36 = .ok (.iload_n 3, 1) := by decide +kernel
theorem dX4_sides_37 : decode cX4_sides 37 = .ok (.bipush 12, 2) := by decide +kernel
theorem dX4_sides_39 : decode cX4_sides 39 = .ok (.irem, 1) := by decide +kernel
theorem dX4_sides_40 : decode cX4_sides 40 = .ok (.istore 6, 2) := by decide +kernel
theorem dX4_sides_42 : decode cX4_sides 42 = .ok (.aload_n 0, 1) := by decide +kernel
theorem dX4_sides_43 : decode cX4_sides 43 = .ok (.iload_n 1, 1) := by decide +kernel
theorem dX4_sides_44 : decode cX4_sides 44 = .ok (.iload 4, 2) := by decide +kernel
theorem dX4_sides_46 : decode cX4_sides 46 = .ok (.iload 5, 2) := by decide +kernel
theorem dX4_sides_48 : decode cX4_sides 48 = .ok (.iload 6, 2) := by decide +kernel
theorem dX4_sides_50 : decode cX4_sides 50 = .ok (.invokevirtual 26, 3) := by decide +kernel
theorem dX4_sides_53 : decode cX4_sides 53 = .ok (.ifCond .eq 139, 3) := by decide +kernel
theorem dX4_sides_56 : decode cX4_sides 56 = .ok (.iload_n 2, 1) := by decide +kernel
theorem dX4_sides_57 : decode cX4_sides 57 = .ok (.aload_n 0, 1) := by decide +kernel
theorem dX4_sides_58 : decode cX4_sides 58 = .ok (.iload_n 1, 1) := by decide +kernel
theorem dX4_sides_59 : decode cX4_sides 59 = .ok (.iload 4, 2) := by decide +kernel
theorem dX4_sides_61 : decode cX4_sides 61 = .ok (.iconst 1, 1) := by decide +kernel
theorem dX4_sides_62 : decode cX4_sides 62 = .ok (.isub, 1) := by decide +kernel
theorem dX4_sides_63 : decode cX4_sides 63 = .ok (.iload 5, 2) := by decide +kernel
theorem dX4_sides_65 : decode cX4_sides 65 = .ok (.iload 6, 2) := by decide +kernel
theorem dX4_sides_67 : decode cX4_sides 67 = .ok (.invokevirtual 26, 3) := by decide +kernel
theorem dX4_sides_70 : decode cX4_sides 70 = .ok (.ifCond .eq 7, 3) := by decide +kernel
theorem dX4_sides_73 : decode cX4_sides 73 = .ok (.iconst 0, 1) := by decide +kernel
theorem dX4_sides_74 : decode cX4_sides 74 = .ok (.goto 4, 3) := by decide +kernel
theorem dX4_sides_77 : decode cX4_sides 77 = .ok (.iconst 1, 1) := by decide +kernel
theorem dX4_sides_78 : decode cX4_sides 78 = .ok (.aload_n 0, 1) := by decide +kernel
theorem dX4_sides_79 : decode cX4_sides 79 = .ok (.iload_n 1, 1) := by decide +kernel
theorem dX4_sides_80 : decode cX4_sides 80 = .ok (.iload 4, 2) := by decide +kernel
theorem dX4_sides_82 : decode cX4_sides 82 = .ok (.iconst 1, 1) := by decide +kernel
theorem dX4_sides_83 : decode cX4_sides 83 = .ok (.iadd, 1) := by decide +kernel
theorem dX4_sides_84 : decode cX4_sides 84 = .ok (.iload 5, 2) := by decide +kernel
theorem dX4_sides_86 : decode cX4_sides 86 = .ok (.iload 6, 2) := by decide +kernel
theorem dX4_sides_88 : decode cX4_sides 88 = .ok (.invokevirtual 26, 3) := by decide +kernel
theorem dX4_sides_91 : decode cX4_sides 91 = .ok (.ifCond .eq 7, 3) := by decide +kernel
theorem dX4_sides_94 : decode cX4_sides 94 = .ok (.iconst 0, 1) := by decide +kernel
theorem dX4_sides_95 : decode cX4_sides 95 = .ok (.goto 4, 3) := by decide +kernel
theorem dX4_sides_98 : decode cX4_sides 98 = .ok (.iconst 1, 1) := by decide +kernel
theorem dX4_sides_99 : decode cX4_sides 99 = .ok (.iadd, 1) := by decide +kernel
theorem dX4_sides_100 : decode cX4_sides 100 = .ok (.aload_n 0, 1) := by decide +kernel
theorem dX4_sides_101 : decode cX4_sides 101 = .ok (.iload_n 1, 1) := by decide +kernel
theorem dX4_sides_102 : decode cX4_sides 102 = .ok (.iload 4, 2) := by decide +kernel
theorem dX4_sides_104 : decode cX4_sides 104 = .ok (.iload 5, 2) := by decide +kernel
theorem dX4_sides_106 : decode cX4_sides 106 = .ok (.iconst 1, 1) := by decide +kernel
theorem dX4_sides_107 : decode cX4_sides 107 = .ok (.isub, 1) := by decide +kernel
theorem dX4_sides_108 : decode cX4_sides 108 = .ok (.iload 6, 2) := by decide +kernel
theorem dX4_sides_110 : decode cX4_sides 110 = .ok (.invokevirtual 26, 3) := by decide +kernel
theorem dX4_sides_113 : decode cX4_sides 113 = .ok (.ifCond .eq 7, 3) := by decide +kernel
theorem dX4_sides_116 : decode cX4_sides 116 = .ok (.iconst 0, 1) := by decide +kernel
theorem dX4_sides_117 : decode cX4_sides 117 = .ok (.goto 4, 3) := by decide +kernel
theorem dX4_sides_120 : decode cX4_sides 120 = .ok (.iconst 1, 1) := by decide +kernel
theorem dX4_sides_121 : decode cX4_sides 121 = .ok (.iadd, 1) := by decide +kernel
theorem dX4_sides_122 : decode cX4_sides 122 = .ok (.iadd, 1) := by decide +kernel
theorem dX4_sides_123 : decode cX4_sides 123 = .ok (.istore_n 2, 1) := by decide +kernel
theorem dX4_sides_124 : decode cX4_sides 124 = .ok (.iload_n 2, 1) := by decide +kernel
theorem dX4_sides_125 : decode cX4_sides 125 = .ok (.aload_n 0, 1) := by decide +kernel
theorem dX4_sides_126 : decode cX4_sides 126 = .ok (.iload_n 1, 1) := by decide +kernel
theorem dX4_sides_127 : decode cX4_sides 127 = .ok (.iload 4, 2) := by decide +kernel
theorem dX4_sides_129 : decode cX4_sides 129 = .ok (.iload 5, 2) := by decide +kernel
theorem dX4_sides_131 : decode cX4_sides 131 = .ok (.iconst 1, 1) := by decide +kernel
theorem dX4_sides_132 : decode cX4_sides 132 = .ok (.iadd, 1) := by decide +kernel
theorem dX4_sides_133 : decode cX4_sides 133 = .ok (.iload 6, 2) := by decide +kernel
theorem dX4_sides_135 : decode cX4_sides 135 = .ok (.invokevirtual 26, 3) := by decide +kernel
theorem dX4_sides_138 : decode cX4_sides 138 = .ok (.ifCond .eq 7, 3) := by decide +kernel
theorem dX4_sides_141 : decode cX4_sides 141 = .ok (.iconst 0, 1) := by decide +kernel
theorem dX4_sides_142 : decode cX4_sides 142 = .ok (.goto 4, 3) := by decide +kernel
theorem dX4_sides_145 : decode cX4_sides 145 = .ok (.iconst 1, 1) := by decide +kernel
theorem dX4_sides_146 : decode cX4_sides 146 = .ok (.aload_n 0, 1) := by decide +kernel
theorem dX4_sides_147 : decode cX4_sides 147 = .ok (.iload_n 1, 1) := by decide +kernel
theorem dX4_sides_148 : decode cX4_sides 148 = .ok (.iload 4, 2) := by decide +kernel
theorem dX4_sides_150 : decode cX4_sides 150 = .ok (.iload 5, 2) := by decide +kernel
theorem dX4_sides_152 : decode cX4_sides 152 = .ok (.iload 6, 2) := by decide +kernel
theorem dX4_sides_154 : decode cX4_sides 154 = .ok (.iconst 1, 1) := by decide +kernel
theorem dX4_sides_155 : decode cX4_sides 155 = .ok (.isub, 1) := by decide +kernel
theorem dX4_sides_156 : decode cX4_sides 156 = .ok (.invokevirtual 26, 3) := by decide +kernel
theorem dX4_sides_159 : decode cX4_sides 159 = .ok (.ifCond .eq 7, 3) := by decide +kernel
theorem dX4_sides_162 : decode cX4_sides 162 = .ok (.iconst 0, 1) := by decide +kernel
theorem dX4_sides_163 : decode cX4_sides 163 = .ok (.goto 4, 3) := by decide +kernel
theorem dX4_sides_166 : decode cX4_sides 166 = .ok (.iconst 1, 1) := by decide +kernel
theorem dX4_sides_167 : decode cX4_sides 167 = .ok (.iadd, 1) := by decide +kernel
theorem dX4_sides_168 : decode cX4_sides 168 = .ok (.aload_n 0, 1) := by decide +kernel
theorem dX4_sides_169 : decode cX4_sides 169 = .ok (.iload_n 1, 1) := by decide +kernel
theorem dX4_sides_170 : decode cX4_sides 170 = .ok (.iload 4, 2) := by decide +kernel
theorem dX4_sides_172 : decode cX4_sides 172 = .ok (.iload 5, 2) := by decide +kernel
theorem dX4_sides_174 : decode cX4_sides 174 = .ok (.iload 6, 2) := by decide +kernel
theorem dX4_sides_176 : decode cX4_sides 176 = .ok (.iconst 1, 1) := by decide +kernel
theorem dX4_sides_177 : decode cX4_sides 177 = .ok (.iadd, 1) := by decide +kernel
theorem dX4_sides_178 : decode cX4_sides 178 = .ok (.invokevirtual 26, 3) := by decide +kernel
theorem dX4_sides_181 : decode cX4_sides 181 = .ok (.ifCond .eq 7, 3) := by decide +kernel
theorem dX4_sides_184 : decode cX4_sides 184 = .ok (.iconst 0, 1) := by decide +kernel
theorem dX4_sides_185 : decode cX4_sides 185 = .ok (.goto 4, 3) := by decide +kernel
theorem dX4_sides_188 : decode cX4_sides 188 = .ok (.iconst 1, 1) := by decide +kernel
theorem dX4_sides_189 : decode cX4_sides 189 = .ok (.iadd, 1) := by decide +kernel
theorem dX4_sides_190 : decode cX4_sides 190 = .ok (.iadd, 1) := by decide +kernel
theorem dX4_sides_191 : decode cX4_sides 191 = .ok (.istore_n 2, 1) := by decide +kernel
theorem dX4_sides_192 : decode cX4_sides 192 = .ok (.iinc 3 1, 3) := by decide +kernel
theorem dX4_sides_195 : decode cX4_sides 195 = .ok (.goto (-182), 3) := by decide +kernel
theorem dX4_sides_198 : decode cX4_sides 198 = .ok (.iload_n 2, 1) := by decide +kernel
theorem dX4_sides_199 : decode cX4_sides 199 = .ok (.ireturn, 1) := by decide +kernel
theorem dX4_isEdge_0 : decode cX4_isEdge 0 = .ok (.aload_n 0, 1) := by decide +kernel
theorem dX4_isEdge_1 : decode cX4_isEdge 1 = .ok (.iload_n 1, 1) := by decide +kernel
theorem dX4_isEdge_2 : decode cX4_isEdge 2 = .ok (.iload_n 2, 1) := by decide +kernel
theorem dX4_isEdge_3 : decode cX4_isEdge 3 = .ok (.iload_n 3, 1) := by decide +kernel
theorem dX4_isEdge_4 : decode cX4_isEdge 4 = .ok (.iload 4, 2) := by decide +kernel
theorem dX4_isEdge_6 : decode cX4_isEdge 6 = .ok (.iconst 1, 1) := by decide +kernel
theorem dX4_isEdge_7 : decode cX4_isEdge 7 = .ok (.isub, 1) := by decide +kernel
theorem dX4_isEdge_8 : decode cX4_isEdge 8 = .ok (.iload 5, 2) := by decide +kernel
theorem dX4_isEdge_10 : decode cX4_isEdge 10 = .ok (.iconst 1, 1) := by decide +kernel
theorem dX4_isEdge_11 : decode cX4_isEdge 11 = .ok (.isub, 1) := by decide +kernel
theorem dX4_isEdge_12 : decode cX4_isEdge 12 = .ok (.invokevirtual 66, 3) := by decide +kernel
theorem dX4_isEdge_15 : decode cX4_isEdge 15 = .ok (.istore 6, 2) := by decide +kernel
theorem dX4_isEdge_17 : decode cX4_isEdge 17 = .ok (.aload_n 0, 1) := by decide +kernel
theorem dX4_isEdge_18 : decode cX4_isEdge 18 = .ok (.iload_n 1, 1) := by decide +kernel
theorem dX4_isEdge_19 : decode cX4_isEdge 19 = .ok (.iload_n 2, 1) := by decide +kernel
theorem dX4_isEdge_20 : decode cX4_isEdge 20 = .ok (.iload_n 3, 1) := by decide +kernel
theorem dX4_isEdge_21 : decode cX4_isEdge 21 = .ok (.iload 4, 2) := by decide +kernel
theorem dX4_isEdge_23 : decode cX4_isEdge 23 = .ok (.iload 5, 2) := by decide +kernel
theorem dX4_isEdge_25 : decode cX4_isEdge 25 = .ok (.iconst 1, 1) := by decide +kernel
theorem dX4_isEdge_26 : decode cX4_isEdge 26 = .ok (.isub, 1) := by decide +kernel
theorem dX4_isEdge_27 : decode cX4_isEdge 27 = .ok (.invokevirtual 66, 3) := by decide +kernel
theorem dX4_isEdge_30 : decode cX4_isEdge 30 = .ok (.istore 7, 2) := by decide +kernel
theorem dX4_isEdge_32 : decode cX4_isEdge 32 = .ok (.aload_n 0, 1) := by decide +kernel
theorem dX4_isEdge_33 : decode cX4_isEdge 33 = .ok (.iload_n 1, 1) := by decide +kernel
theorem dX4_isEdge_34 : decode cX4_isEdge 34 = .ok (.iload_n 2, 1) := by decide +kernel
theorem dX4_isEdge_35 : decode cX4_isEdge 35 = .ok (.iload_n 3, 1) := by decide +kernel
theorem dX4_isEdge_36 : decode cX4_isEdge 36 = .ok (.iload 4, 2) := by decide +kernel
theorem dX4_isEdge_38 : decode cX4_isEdge 38 = .ok (.iconst 1, 1) := by decide +kernel
theorem dX4_isEdge_39 : decode cX4_isEdge 39 = .ok (.isub, 1) := by decide +kernel
theorem dX4_isEdge_40 : decode cX4_isEdge 40 = .ok (.iload 5, 2) := by decide +kernel
theorem dX4_isEdge_42 : decode cX4_isEdge 42 = .ok (.invokevirtual 66, 3) := by decide +kernel
theorem dX4_isEdge_45 : decode cX4_isEdge 45 = .ok (.istore 8, 2) := by decide +kernel
theorem dX4_isEdge_47 : decode cX4_isEdge 47 = .ok (.aload_n 0, 1) := by decide +kernel
theorem dX4_isEdge_48 : decode cX4_isEdge 48 = .ok (.iload_n 1, 1) := by decide +kernel
theorem dX4_isEdge_49 : decode cX4_isEdge 49 = .ok (.iload_n 2, 1) := by decide +kernel
theorem dX4_isEdge_50 : decode cX4_isEdge 50 = .ok (.iload_n 3, 1) := by decide +kernel
theorem dX4_isEdge_51 : decode cX4_isEdge 51 = .ok (.iload 4, 2) := by decide +kernel
theorem dX4_isEdge_53 : decode cX4_isEdge 53 = .ok (.iload 5, 2) := by decide +kernel
theorem dX4_isEdge_55 : decode cX4_isEdge 55 = .ok (.invokevirtual 66, 3) := by decide +kernel
theorem dX4_isEdge_58 : decode cX4_isEdge 58 = .ok (.istore 9, 2) := by decide +kernel
theorem dX4_isEdge_60 : decode cX4_isEdge 60 = .ok (.iload 6, 2) := by decide +kernel
theorem dX4_isEdge_62 : decode cX4_isEdge 62 = .ok (.ifCond .eq 7, 3) := by decide +kernel
theorem dX4_isEdge_65 : decode cX4_isEdge 65 = .ok (.iconst 1, 1) := by decide +kernel
theorem dX4_isEdge_66 : decode cX4_isEdge 66 = .ok (.goto 4, 3) := by decide +kernel
theorem dX4_isEdge_69 : decode cX4_isEdge 69 = .ok (.iconst 0, 1) := by decide +kernel
theorem dX4_isEdge_70 : decode cX4_isEdge 70 = .ok (.iload 7, 2) := by decide +kernel
theorem dX4_isEdge_72 : decode cX4_isEdge 72 = .ok (.ifCond .eq 7, 3) := by decide +kernel
theorem dX4_isEdge_75 : decode cX4_isEdge 75 = .ok (.iconst 1, 1) := by decide +kernel
theorem dX4_isEdge_76 : decode cX4_isEdge 76 = .ok (.goto 4, 3) := by decide +kernel
theorem dX4_isEdge_79 : decode cX4_isEdge 79 = .ok (.iconst 0, 1) := by decide +kernel
theorem dX4_isEdge_80 : decode cX4_isEdge 80 = .ok (.iadd, 1) := by decide +kernel
theorem dX4_isEdge_81 : decode cX4_isEdge 81 = .ok (.iload 8, 2) := by decide +kernel
theorem dX4_isEdge_83 : decode cX4_isEdge 83 = .ok (.ifCond .eq 7, 3) := by decide +kernel
theorem dX4_isEdge_86 : decode cX4_isEdge 86 = .ok (.iconst 1, 1) := by decide +kernel
theorem dX4_isEdge_87 : decode cX4_isEdge 87 = .ok (.goto 4, 3) := by decide +kernel
theorem dX4_isEdge_90 : decode cX4_isEdge 90 = .ok (.iconst 0, 1) := by decide +kernel
theorem dX4_isEdge_91 : decode cX4_isEdge 91 = .ok (.iadd, 1) := by decide +kernel
theorem dX4_isEdge_92 : decode cX4_isEdge 92 = .ok (.iload 9, 2) := by decide +kernel
theorem dX4_isEdge_94 : decode cX4_isEdge 94 = .ok (.ifCond .eq 7, 3) := by decide +kernel
theorem dX4_isEdge_97 : decode cX4_isEdge 97 = .ok (.iconst 1, 1) := by decide +kernel
theorem dX4_isEdge_98 : decode cX4_isEdge 98 = .ok (.goto 4, 3) := by decide +kernel
theorem dX4_isEdge_101 : decode cX4_isEdge 101 = .ok (.iconst 0, 1) := by decide +kernel
theorem dX4_isEdge_102 : decode cX4_isEdge 102 = .ok (.iadd, 1) := by decide +kernel
theorem dX4_isEdge_103 : decode cX4_isEdge 103 = .ok (.istore 10, 2) := by decide +kernel
theorem dX4_isEdge_105 : decode cX4_isEdge 105 = .ok (.iload 10, 2) := by decide +kernel
theorem dX4_isEdge_107 : decode cX4_isEdge 107 = .ok (.iconst 1, 1) := by decide +kernel
theorem dX4_isEdge_108 : decode cX4_isEdge 108 = .ok (.if_icmp .eq 22, 3) := by decide +kernel
theorem dX4_isEdge_111 : decode cX4_isEdge 111 = .ok (.iload 10, 2) := by decide +kernel
theorem dX4_isEdge_113 : decode cX4_isEdge 113 = .ok (.iconst 3, 1) := by decide +kernel
theorem dX4_isEdge_114 : decode cX4_isEdge 114 = .ok (.if_icmp .eq 16, 3) := by decide +kernel
theorem dX4_isEdge_117 : decode cX4_isEdge 117 = .ok (.iload 10, 2) := by decide +kernel
theorem dX4_isEdge_119 : decode cX4_isEdge 119 = .ok (.iconst 2, 1) := by decide +kernel
theorem dX4_isEdge_120 : decode cX4_isEdge 120 = .ok (.if_icmp .ne 14, 3) := by decide +kernel
theorem dX4_isEdge_123 : decode cX4_isEdge 123 = .ok (.iload 6, 2) := by decide +kernel
theorem dX4_isEdge_125 : decode cX4_isEdge 125 = .ok (.iload 9, 2) := by decide +kernel
theorem dX4_isEdge_127 : decode cX4_isEdge 127 = .ok (.if_icmp .ne 7, 3) := by decide +kernel
theorem dX4_isEdge_130 : decode cX4_isEdge 130 = .ok (.iconst 1, 1) := by decide +kernel
theorem dX4_isEdge_131 : decode cX4_isEdge 131 = .ok (.goto 4, 3) := by decide +kernel
theorem dX4_isEdge_134 : decode cX4_isEdge 134 = .ok (.iconst 0, 1) := by decide +kernel
theorem dX4_isEdge_135 : decode cX4_isEdge 135 = .ok (.ireturn, 1) := by decide +kernel
theorem dX4_edges_0 : decode cX4_edges 0 = .ok (.iload_n 1, 1) := by decide +kernel
theorem dX4_edges_1 : decode cX4_edges 1 = .ok (.invokestatic 45, 3) := by decide +kernel
theorem dX4_edges_4 : decode cX4_edges 4 = .ok (.ifCond .ne 5, 3) := by decide +kernel
theorem dX4_edges_7 : decode cX4_edges 7 = .ok (.iconst (-1), 1) := by decide +kernel
theorem dX4_edges_8 : decode cX4_edges 8 = .ok (.ireturn, 1) := by decide +kernel
theorem dX4_edges_9 : decode cX4_edges 9 = .ok (.iconst 0, 1) := by decide +kernel
theorem dX4_edges_10 : decode cX4_edges 10 = .ok (.istore_n 2, 1) := by decide +kernel
theorem dX4_edges_11 : decode cX4_edges 11 = .ok (.iconst 0, 1) := by decide +kernel
theorem dX4_edges_12 : decode cX4_edges 12 = .ok (.istore_n 3, 1) := by decide +kernel
theorem dX4_edges_13 : decode cX4_edges 13 = .ok (.iload_n 3, 1) := by decide +kernel
theorem dX4_edges_14 : decode cX4_edges 14 = .ok (.iconst 3, 1) := by decide +kernel
theorem dX4_edges_15 : decode cX4_edges 15 = .ok (.if_icmp .ge 80, 3) := by decide +kernel
theorem dX4_edges_18 : decode cX4_edges 18 = .ok (.iconst 0, 1) := by decide +kernel
theorem dX4_edges_19 : decode cX4_edges 19 = .ok (.istore 4, 2) := by decide +kernel
theorem dX4_edges_21 : decode cX4_edges 21 = .ok (.iload 4, 2) := by decide +kernel
theorem dX4_edges_23 : decode cX4_edges 23 = .ok (.bipush 12, 2) := by decide +kernel
theorem dX4_edges_25 : decode cX4_edges 25 = .ok (.if_icmp .ge 64, 3) := by decide +kernel
theorem dX4_edges_28 : decode cX4_edges 28 = .ok (.iconst 0, 1) := by decide +kernel
theorem dX4_edges_29 : decode cX4_edges 29 = .ok (.istore 5, 2) := by decide +kernel
theorem dX4_edges_31 : decode cX4_edges 31 = .ok (.iload 5, 2) := by decide +kernel
theorem dX4_edges_33 : decode cX4_edges 33 = .ok (.bipush 13, 2) := by decide +kernel
theorem dX4_edges_35 : decode cX4_edges 35 = .ok (.if_icmp .ge 48, 3) := by decide +kernel
theorem dX4_edges_38 : decode cX4_edges 38 = .ok (.iconst 0, 1) := by decide +kernel
theorem dX4_edges_39 : decode cX4_edges 39 = .ok (.istore 6, 2) := by decide +kernel
theorem dX4_edges_41 : decode cX4_edges 41 = .ok (.iload 6, 2) := by decide +kernel
theorem dX4_edges_43 : decode cX4_edges 43 = .ok (.bipush 13, 2) := by decide +kernel
theorem dX4_edges_45 : decode cX4_edges 45 = .ok (.if_icmp .ge 32, 3) := by decide +kernel
theorem dX4_edges_48 : decode cX4_edges 48 = .ok (.iload_n 2, 1) := by decide +kernel
theorem dX4_edges_49 : decode cX4_edges 49 = .ok (.aload_n 0, 1) := by decide +kernel
theorem dX4_edges_50 : decode cX4_edges 50 = .ok (.iload_n 1, 1) := by decide +kernel
theorem dX4_edges_51 : decode cX4_edges 51 = .ok (.iload_n 3, 1) := by decide +kernel
theorem dX4_edges_52 : decode cX4_edges 52 = .ok (.iload 4, 2) := by decide +kernel
theorem dX4_edges_54 : decode cX4_edges 54 = .ok (.iload 5, 2) := by decide +kernel
theorem dX4_edges_56 : decode cX4_edges 56 = .ok (.iload 6, 2) := by decide +kernel
theorem dX4_edges_58 : decode cX4_edges 58 = .ok (.invokevirtual 70, 3) := by decide +kernel
theorem dX4_edges_61 : decode cX4_edges 61 = .ok (.ifCond .eq 7, 3) := by decide +kernel
theorem dX4_edges_64 : decode cX4_edges 64 = .ok (.iconst 1, 1) := by decide +kernel
theorem dX4_edges_65 : decode cX4_edges 65 = .ok (.goto 4, 3) := by decide +kernel
theorem dX4_edges_68 : decode cX4_edges 68 = .ok (.iconst 0, 1) := by decide +kernel
theorem dX4_edges_69 : decode cX4_edges 69 = .ok (.iadd, 1) := by decide +kernel
theorem dX4_edges_70 : decode cX4_edges 70 = .ok (.istore_n 2, 1) := by decide +kernel
theorem dX4_edges_71 : decode cX4_edges 71 = .ok (.iinc 6 1, 3) := by decide +kernel
theorem dX4_edges_74 : decode cX4_edges 74 = .ok (.goto (-33), 3) := by decide +kernel
theorem dX4_edges_77 : decode cX4_edges 77 = .ok (.iinc 5 1, 3) := by decide +kernel
theorem dX4_edges_80 : decode cX4_edges 80 = .ok (.goto (-49), 3) := by decide +kernel
theorem dX4_edges_83 : decode cX4_edges 83 = .ok (.iinc 4 1, 3) := by decide +kernel
theorem dX4_edges_86 : decode cX4_edges 86 = .ok (.goto (-65), 3) := by decide +kernel
theorem dX4_edges_89 : decode cX4_edges 89 = .ok (.iinc 3 1, 3) := by decide +kernel
theorem dX4_edges_92 : decode cX4_edges 92 = .ok (.goto (-79), 3) := by decide +kernel
theorem dX4_edges_95 : decode cX4_edges 95 = .ok (.iload_n 2, 1) := by decide +kernel
theorem dX4_edges_96 : decode cX4_edges 96 = .ok (.ireturn, 1) := by decide +kernel
theorem dX4_see_0 : decode cX4_see 0 = .ok (.iload_n 3, 1) := by decide +kernel
theorem dX4_see_1 : decode cX4_see 1 = .ok (.bipush 12, 2) := by decide +kernel
theorem dX4_see_3 : decode cX4_see 3 = .ok (.invokestatic 22, 3) := by decide +kernel
theorem dX4_see_6 : decode cX4_see 6 = .ok (.ifCond .eq 58, 3) := by decide +kernel
theorem dX4_see_9 : decode cX4_see 9 = .ok (.iload 4, 2) := by decide +kernel
theorem dX4_see_11 : decode cX4_see 11 = .ok (.bipush 12, 2) := by decide +kernel
theorem dX4_see_13 : decode cX4_see 13 = .ok (.invokestatic 22, 3) := by decide +kernel
theorem dX4_see_16 : decode cX4_see 16 = .ok (.ifCond .eq 48, 3) := by decide +kernel
theorem dX4_see_19 : decode cX4_see 19 = .ok (.iload 5, 2) := by decide +kernel
theorem dX4_see_21 : decode cX4_see 21 = .ok (.bipush 12, 2) := by decide +kernel
theorem dX4_see_23 : decode cX4_see 23 = .ok (.invokestatic 22, 3) := by decide +kernel
theorem dX4_see_26 : decode cX4_see 26 = .ok (.ifCond .eq 38, 3) := by decide +kernel
theorem dX4_see_29 : decode cX4_see 29 = .ok (.aload_n 0, 1) := by decide +kernel
theorem dX4_see_30 : decode cX4_see 30 = .ok (.iload_n 1, 1) := by decide +kernel
theorem dX4_see_31 : decode cX4_see 31 = .ok (.iload_n 3, 1) := by decide +kernel
theorem dX4_see_32 : decode cX4_see 32 = .ok (.iload 4, 2) := by decide +kernel
theorem dX4_see_34 : decode cX4_see 34 = .ok (.iload 5, 2) := by decide +kernel
theorem dX4_see_36 : decode cX4_see 36 = .ok (.invokevirtual 26, 3) := by decide +kernel
theorem dX4_see_39 : decode cX4_see 39 = .ok (.iload_n 2, 1) := by decide +kernel
theorem dX4_see_40 : decode cX4_see 40 = .ok (.if_icmp .ne 24, 3) := by decide +kernel
theorem dX4_see_43 : decode cX4_see 43 = .ok (.aload_n 0, 1) := by decide +kernel
theorem dX4_see_44 : decode cX4_see 44 = .ok (.getfield 16, 3) := by decide +kernel
theorem dX4_see_47 : decode cX4_see 47 = .ok (.bipush 12, 2) := by decide +kernel
theorem dX4_see_49 : decode cX4_see 49 = .ok (.iload_n 3, 1) := by decide +kernel
theorem dX4_see_50 : decode cX4_see 50 = .ok (.imul, 1) := by decide +kernel
theorem dX4_see_51 : decode cX4_see 51 = .ok (.iload 4, 2) := by decide +kernel
theorem dX4_see_53 : decode cX4_see 53 = .ok (.iadd, 1) := by decide +kernel
theorem dX4_see_54 : decode cX4_see 54 = .ok (.iaload, 1) := by decide +kernel
theorem dX4_see_55 : decode cX4_see 55 = .ok (.iload 5, 2) := by decide +kernel
theorem dX4_see_57 : decode cX4_see 57 = .ok (.ishr, 1) := by decide +kernel
theorem dX4_see_58 : decode cX4_see 58 = .ok (.iconst 1, 1) := by decide +kernel
theorem dX4_see_59 : decode cX4_see 59 = .ok (.iand, 1) := by decide +kernel
theorem dX4_see_60 : decode cX4_see 60 = .ok (.iconst 1, 1) := by decide +kernel
theorem dX4_see_61 : decode cX4_see 61 = .ok (.if_icmp .ne 4, 3) := by decide +kernel
theorem dX4_see_64 : decode cX4_see 64 = .ok (.return_, 1) := by decide +kernel
theorem dX4_see_65 : decode cX4_see 65 = .ok (.aload_n 0, 1) := by decide +kernel
theorem dX4_see_66 : decode cX4_see 66 = .ok (.getfield 16, 3) := by decide +kernel
theorem dX4_see_69 : decode cX4_see 69 = .ok (.bipush 12, 2) := by decide +kernel
theorem dX4_see_71 : decode cX4_see 71 = .ok (.iload_n 3, 1) := by decide +kernel
theorem dX4_see_72 : decode cX4_see 72 = .ok (.imul, 1) := by decide +kernel
theorem dX4_see_73 : decode cX4_see 73 = .ok (.iload 4, 2) := by decide +kernel
theorem dX4_see_75 : decode cX4_see 75 = .ok (.iadd, 1) := by decide +kernel
theorem dX4_see_76 : decode cX4_see 76 = .ok (.dup2, 1) := by decide +kernel
theorem dX4_see_77 : decode cX4_see 77 = .ok (.iaload, 1) := by decide +kernel
theorem dX4_see_78 : decode cX4_see 78 = .ok (.iconst 1, 1) := by decide +kernel
theorem dX4_see_79 : decode cX4_see 79 = .ok (.iload 5, 2) := by decide +kernel
theorem dX4_see_81 : decode cX4_see 81 = .ok (.ishl, 1) := by decide +kernel
theorem dX4_see_82 : decode cX4_see 82 = .ok (.ior, 1) := by decide +kernel
theorem dX4_see_83 : decode cX4_see 83 = .ok (.iastore, 1) := by decide +kernel
theorem dX4_see_84 : decode cX4_see 84 = .ok (.aload_n 0, 1) := by decide +kernel
theorem dX4_see_85 : decode cX4_see 85 = .ok (.getfield 19, 3) := by decide +kernel
theorem dX4_see_88 : decode cX4_see 88 = .ok (.aload_n 0, 1) := by decide +kernel
theorem dX4_see_89 : decode cX4_see 89 = .ok (.getfield 73, 3) := by decide +kernel
theorem dX4_see_92 : decode cX4_see 92 = .ok (.sipush 144, 3) := by decide +kernel
theorem dX4_see_95 : decode cX4_see 95 = .ok (.iload_n 3, 1) := by decide +kernel
theorem dX4_see_96 : decode cX4_see 96 = .ok (.imul, 1) := by decide +kernel
theorem dX4_see_97 : decode cX4_see 97 = .ok (.bipush 12, 2) := by decide +kernel
theorem dX4_see_99 : decode cX4_see 99 = .ok (.iload 4, 2) := by decide +kernel
theorem dX4_see_101 : decode cX4_see 101 = .ok (.imul, 1) := by decide +kernel
theorem dX4_see_102 : decode cX4_see 102 = .ok (.iadd, 1) := by decide +kernel
theorem dX4_see_103 : decode cX4_see 103 = .ok (.iload 5, 2) := by decide +kernel
theorem dX4_see_105 : decode cX4_see 105 = .ok (.iadd, 1) := by decide +kernel
theorem dX4_see_106 : decode cX4_see 106 = .ok (.iastore, 1) := by decide +kernel
theorem dX4_see_107 : decode cX4_see 107 = .ok (.aload_n 0, 1) := by decide +kernel
theorem dX4_see_108 : decode cX4_see 108 = .ok (.dup, 1) := by decide +kernel
theorem dX4_see_109 : decode cX4_see 109 = .ok (.getfield 73, 3) := by decide +kernel
theorem dX4_see_112 : decode cX4_see 112 = .ok (.iconst 1, 1) := by decide +kernel
theorem dX4_see_113 : decode cX4_see 113 = .ok (.iadd, 1) := by decide +kernel
theorem dX4_see_114 : decode cX4_see 114 = .ok (.putfield 73, 3) := by decide +kernel
theorem dX4_see_117 : decode cX4_see 117 = .ok (.return_, 1) := by decide +kernel
theorem dX4_isBorder_0 : decode cX4_isBorder 0 = .ok (.iload_n 0, 1) := by decide +kernel
theorem dX4_isBorder_1 : decode cX4_isBorder 1 = .ok (.ifCond .eq 9, 3) := by decide +kernel
theorem dX4_isBorder_4 : decode cX4_isBorder 4 = .ok (.iload_n 0, 1) := by decide +kernel
theorem dX4_isBorder_5 : decode cX4_isBorder 5 = .ok (.bipush 11, 2) := by decide +kernel
theorem dX4_isBorder_7 : decode cX4_isBorder 7 = .ok (.if_icmp .ne 7, 3) := by decide +kernel
theorem dX4_isBorder_10 : decode cX4_isBorder 10 = .ok (.iconst 1, 1) := by decide +kernel
theorem dX4_isBorder_11 : decode cX4_isBorder 11 = .ok (.goto 4, 3) := by decide +kernel
theorem dX4_isBorder_14 : decode cX4_isBorder 14 = .ok (.iconst 0, 1) := by decide +kernel
theorem dX4_isBorder_15 : decode cX4_isBorder 15 = .ok (.ireturn, 1) := by decide +kernel
theorem dX4_spread_0 : decode cX4_spread 0 = .ok (.aload_n 0, 1) := by decide +kernel
theorem dX4_spread_1 : decode cX4_spread 1 = .ok (.iconst 0, 1) := by decide +kernel
theorem dX4_spread_2 : decode cX4_spread 2 = .ok (.putfield 76, 3) := by decide +kernel
theorem dX4_spread_5 : decode cX4_spread 5 = .ok (.aload_n 0, 1) := by decide +kernel
theorem dX4_spread_6 : decode cX4_spread 6 = .ok (.getfield 73, 3) := by decide +kernel
theorem dX4_spread_9 : decode cX4_spread 9 = .ok (.ifCond .le 178, 3) := by decide +kernel
theorem dX4_spread_12 : decode cX4_spread 12 = .ok (.aload_n 0, 1) := by decide +kernel
theorem dX4_spread_13 : decode cX4_spread 13 = .ok (.dup, 1) := by decide +kernel
theorem dX4_spread_14 : decode cX4_spread 14 = .ok (.getfield 73, 3) := by decide +kernel
theorem dX4_spread_17 : decode cX4_spread 17 = .ok (.iconst 1, 1) := by decide +kernel
theorem dX4_spread_18 : decode cX4_spread 18 = .ok (.isub, 1) := by decide +kernel
theorem dX4_spread_19 : decode cX4_spread 19 = .ok (.putfield 73, 3) := by decide +kernel
theorem dX4_spread_22 : decode cX4_spread 22 = .ok (.aload_n 0, 1) := by decide +kernel
theorem dX4_spread_23 : decode cX4_spread 23 = .ok (.getfield 19, 3) := by decide +kernel
theorem dX4_spread_26 : decode cX4_spread 26 = .ok (.aload_n 0, 1) := by decide +kernel
theorem dX4_spread_27 : decode cX4_spread 27 = .ok (.getfield 73, 3) := by decide +kernel
theorem dX4_spread_30 : decode cX4_spread 30 = .ok (.iaload, 1) := by decide +kernel
theorem dX4_spread_31 : decode cX4_spread 31 = .ok (.sipush 144, 3) := by decide +kernel
theorem dX4_spread_34 : decode cX4_spread 34 = .ok (.idiv, 1) := by decide +kernel
theorem dX4_spread_35 : decode cX4_spread 35 = .ok (.istore_n 3, 1) := by decide +kernel
theorem dX4_spread_36 : decode cX4_spread 36 = .ok (.aload_n 0, 1) := by decide +kernel
theorem dX4_spread_37 : decode cX4_spread 37 = .ok (.getfield 19, 3) := by decide +kernel
theorem dX4_spread_40 : decode cX4_spread 40 = .ok (.aload_n 0, 1) := by decide +kernel
theorem dX4_spread_41 : decode cX4_spread 41 = .ok (.getfield 73, 3) := by decide +kernel
theorem dX4_spread_44 : decode cX4_spread 44 = .ok (.iaload, 1) := by decide +kernel
theorem dX4_spread_45 : decode cX4_spread 45 = .ok (.bipush 12, 2) := by decide +kernel
theorem dX4_spread_47 : decode cX4_spread 47 = .ok (.idiv, 1) := by decide +kernel
theorem dX4_spread_48 : decode cX4_spread 48 = .ok (.bipush 12, 2) := by decide +kernel
theorem dX4_spread_50 : decode cX4_spread 50 = .ok (.irem, 1) := by decide +kernel
theorem dX4_spread_51 : decode cX4_spread 51 = .ok (.istore 4, 2) := by decide +kernel
theorem dX4_spread_53 : decode cX4_spread 53 = .ok (.aload_n 0, 1) := by decide +kernel
theorem dX4_spread_54 : decode cX4_spread 54 = .ok (.getfield 19, 3) := by decide +kernel
theorem dX4_spread_57 : decode cX4_spread 57 = .ok (.aload_n 0, 1) := by decide +kernel
theorem dX4_spread_58 : decode cX4_spread 58 = .ok (.getfield 73, 3) := by decide +kernel
theorem dX4_spread_61 : decode cX4_spread 61 = .ok (.iaload, 1) := by decide +kernel
theorem dX4_spread_62 : decode cX4_spread 62 = .ok (.bipush 12, 2) := by decide +kernel
theorem dX4_spread_64 : decode cX4_spread 64 = .ok (.irem, 1) := by decide +kernel
theorem dX4_spread_65 : decode cX4_spread 65 = .ok (.istore 5, 2) := by decide +kernel
theorem dX4_spread_67 : decode cX4_spread 67 = .ok (.aload_n 0, 1) := by decide +kernel
theorem dX4_spread_68 : decode cX4_spread 68 = .ok (.aload_n 0, 1) := by decide +kernel
theorem dX4_spread_69 : decode cX4_spread 69 = .ok (.getfield 76, 3) := by decide +kernel
theorem dX4_spread_72 : decode cX4_spread 72 = .ok (.ifCond .ne 26, 3) := by decide +kernel
theorem dX4_spread_75 : decode cX4_spread 75 = .ok (.iload_n 3, 1) := by decide +kernel
theorem dX4_spread_76 : decode cX4_spread 76 = .ok (.invokestatic 80, 3) := by decide +kernel
theorem dX4_spread_79 : decode cX4_spread 79 = .ok (.ifCond .ne 19, 3) := by decide +kernel
theorem dX4_spread_82 : decode cX4_spread 82 = .ok (.iload 4, 2) := by decide +kernel
theorem dX4_spread_84 : decode cX4_spread 84 = .ok (.invokestatic 80, 3) := by decide +kernel
theorem dX4_spread_87 : decode cX4_spread 87 = .ok (.ifCond .ne 11, 3) := by decide +kernel
theorem dX4_spread_90 : decode cX4_spread 90 = .ok (.iload 5, 2) := by decide +kernel
theorem dX4_spread_92 : decode cX4_spread 92 = .ok (.invokestatic 80, 3) := by decide +kernel
theorem dX4_spread_95 : decode cX4_spread 95 = .ok (.ifCond .eq 7, 3) := by decide +kernel
theorem dX4_spread_98 : decode cX4_spread 98 = .ok (.iconst 1, 1) := by decide +kernel
theorem dX4_spread_99 : decode cX4_spread 99 = .ok (.goto 4, 3) := by decide +kernel
theorem dX4_spread_102 : decode cX4_spread 102 = .ok (.iconst 0, 1) := by decide +kernel
theorem dX4_spread_103 : decode cX4_spread 103 = .ok (.putfield 76, 3) := by decide +kernel
theorem dX4_spread_106 : decode cX4_spread 106 = .ok (.aload_n 0, 1) := by decide +kernel
theorem dX4_spread_107 : decode cX4_spread 107 = .ok (.iload_n 1, 1) := by decide +kernel
theorem dX4_spread_108 : decode cX4_spread 108 = .ok (.iload_n 2, 1) := by decide +kernel
theorem dX4_spread_109 : decode cX4_spread 109 = .ok (.iload_n 3, 1) := by decide +kernel
theorem dX4_spread_110 : decode cX4_spread 110 = .ok (.iconst 1, 1) := by decide +kernel
theorem dX4_spread_111 : decode cX4_spread 111 = .ok (.isub, 1) := by decide +kernel
theorem dX4_spread_112 : decode cX4_spread 112 = .ok (.iload 4, 2) := by decide +kernel
theorem dX4_spread_114 : decode cX4_spread 114 = .ok (.iload 5, 2) := by decide +kernel
theorem dX4_spread_116 : decode cX4_spread 116 = .ok (.invokevirtual 83, 3) := by decide +kernel
theorem dX4_spread_119 : decode cX4_spread 119 = .ok (.aload_n 0, 1) := by decide +kernel
theorem dX4_spread_120 : decode cX4_spread 120 = .ok (.iload_n 1, 1) := by decide +kernel
theorem dX4_spread_121 : decode cX4_spread 121 = .ok (.iload_n 2, 1) := by decide +kernel
theorem dX4_spread_122 : decode cX4_spread 122 = .ok (.iload_n 3, 1) := by decide +kernel
theorem dX4_spread_123 : decode cX4_spread 123 = .ok (.iconst 1, 1) := by decide +kernel
theorem dX4_spread_124 : decode cX4_spread 124 = .ok (.iadd, 1) := by decide +kernel
theorem dX4_spread_125 : decode cX4_spread 125 = .ok (.iload 4, 2) := by decide +kernel
theorem dX4_spread_127 : decode cX4_spread 127 = .ok (.iload 5, 2) := by decide +kernel
theorem dX4_spread_129 : decode cX4_spread 129 = .ok (.invokevirtual 83, 3) := by decide +kernel
theorem dX4_spread_132 : decode cX4_spread 132 = .ok (.aload_n 0, 1) := by decide +kernel
theorem dX4_spread_133 : decode cX4_spread 133 = .ok (.iload_n 1, 1) := by decide +kernel
theorem dX4_spread_134 : decode cX4_spread 134 = .ok (.iload_n 2, 1) := by decide +kernel
theorem dX4_spread_135 : decode cX4_spread 135 = .ok (.iload_n 3, 1) := by decide +kernel
theorem dX4_spread_136 : decode cX4_spread 136 = .ok (.iload 4, 2) := by decide +kernel
theorem dX4_spread_138 : decode cX4_spread 138 = .ok (.iconst 1, 1) := by decide +kernel
theorem dX4_spread_139 : decode cX4_spread 139 = .ok (.isub, 1) := by decide +kernel
theorem dX4_spread_140 : decode cX4_spread 140 = .ok (.iload 5, 2) := by decide +kernel
theorem dX4_spread_142 : decode cX4_spread 142 = .ok (.invokevirtual 83, 3) := by decide +kernel
theorem dX4_spread_145 : decode cX4_spread 145 = .ok (.aload_n 0, 1) := by decide +kernel
theorem dX4_spread_146 : decode cX4_spread 146 = .ok (.iload_n 1, 1) := by decide +kernel
theorem dX4_spread_147 : decode cX4_spread 147 = .ok (.iload_n 2, 1) := by decide +kernel
theorem dX4_spread_148 : decode cX4_spread 148 = .ok (.iload_n 3, 1) := by decide +kernel
theorem dX4_spread_149 : decode cX4_spread 149 = .ok (.iload 4, 2) := by decide +kernel
theorem dX4_spread_151 : decode cX4_spread 151 = .ok (.iconst 1, 1) := by decide +kernel
theorem dX4_spread_152 : decode cX4_spread 152 = .ok (.iadd, 1) := by decide +kernel
theorem dX4_spread_153 : decode cX4_spread 153 = .ok (.iload 5, 2) := by decide +kernel
theorem dX4_spread_155 : decode cX4_spread 155 = .ok (.invokevirtual 83, 3) := by decide +kernel
theorem dX4_spread_158 : decode cX4_spread 158 = .ok (.aload_n 0, 1) := by decide +kernel
theorem dX4_spread_159 : decode cX4_spread 159 = .ok (.iload_n 1, 1) := by decide +kernel
theorem dX4_spread_160 : decode cX4_spread 160 = .ok (.iload_n 2, 1) := by decide +kernel
theorem dX4_spread_161 : decode cX4_spread 161 = .ok (.iload_n 3, 1) := by decide +kernel
theorem dX4_spread_162 : decode cX4_spread 162 = .ok (.iload 4, 2) := by decide +kernel
theorem dX4_spread_164 : decode cX4_spread 164 = .ok (.iload 5, 2) := by decide +kernel
theorem dX4_spread_166 : decode cX4_spread 166 = .ok (.iconst 1, 1) := by decide +kernel
theorem dX4_spread_167 : decode cX4_spread 167 = .ok (.isub, 1) := by decide +kernel
theorem dX4_spread_168 : decode cX4_spread 168 = .ok (.invokevirtual 83, 3) := by decide +kernel
theorem dX4_spread_171 : decode cX4_spread 171 = .ok (.aload_n 0, 1) := by decide +kernel
theorem dX4_spread_172 : decode cX4_spread 172 = .ok (.iload_n 1, 1) := by decide +kernel
theorem dX4_spread_173 : decode cX4_spread 173 = .ok (.iload_n 2, 1) := by decide +kernel
theorem dX4_spread_174 : decode cX4_spread 174 = .ok (.iload_n 3, 1) := by decide +kernel
theorem dX4_spread_175 : decode cX4_spread 175 = .ok (.iload 4, 2) := by decide +kernel
theorem dX4_spread_177 : decode cX4_spread 177 = .ok (.iload 5, 2) := by decide +kernel
theorem dX4_spread_179 : decode cX4_spread 179 = .ok (.iconst 1, 1) := by decide +kernel
theorem dX4_spread_180 : decode cX4_spread 180 = .ok (.iadd, 1) := by decide +kernel
theorem dX4_spread_181 : decode cX4_spread 181 = .ok (.invokevirtual 83, 3) := by decide +kernel
theorem dX4_spread_184 : decode cX4_spread 184 = .ok (.goto (-179), 3) := by decide +kernel
theorem dX4_spread_187 : decode cX4_spread 187 = .ok (.return_, 1) := by decide +kernel
theorem dX4_sets_0 : decode cX4_sets 0 = .ok (.iconst 0, 1) := by decide +kernel
theorem dX4_sets_1 : decode cX4_sets 1 = .ok (.istore_n 3, 1) := by decide +kernel
theorem dX4_sets_2 : decode cX4_sets 2 = .ok (.iload_n 3, 1) := by decide +kernel
theorem dX4_sets_3 : decode cX4_sets 3 = .ok (.sipush 144, 3) := by decide +kernel
theorem dX4_sets_6 : decode cX4_sets 6 = .ok (.if_icmp .ge 16, 3) := by decide +kernel
theorem dX4_sets_9 : decode cX4_sets 9 = .ok (.aload_n 0, 1) := by decide +kernel
theorem dX4_sets_10 : decode cX4_sets 10 = .ok (.getfield 16, 3) := by decide +kernel
theorem dX4_sets_13 : decode cX4_sets 13 = .ok (.iload_n 3, 1) := by decide +kernel
theorem dX4_sets_14 : decode cX4_sets 14 = .ok (.iconst 0, 1) := by decide +kernel
theorem dX4_sets_15 : decode cX4_sets 15 = .ok (.iastore, 1) := by decide +kernel
theorem dX4_sets_16 : decode cX4_sets 16 = .ok (.iinc 3 1, 3) := by decide +kernel
theorem dX4_sets_19 : decode cX4_sets 19 = .ok (.goto (-17), 3) := by decide +kernel
theorem dX4_sets_22 : decode cX4_sets 22 = .ok (.iconst 0, 1) := by decide +kernel
theorem dX4_sets_23 : decode cX4_sets 23 = .ok (.istore_n 3, 1) := by decide +kernel
theorem dX4_sets_24 : decode cX4_sets 24 = .ok (.iconst 0, 1) := by decide +kernel
theorem dX4_sets_25 : decode cX4_sets 25 = .ok (.istore 4, 2) := by decide +kernel
theorem dX4_sets_27 : decode cX4_sets 27 = .ok (.iload 4, 2) := by decide +kernel
theorem dX4_sets_29 : decode cX4_sets 29 = .ok (.sipush 1728, 3) := by decide +kernel
theorem dX4_sets_32 : decode cX4_sets 32 = .ok (.if_icmp .ge 71, 3) := by decide +kernel
theorem dX4_sets_35 : decode cX4_sets 35 = .ok (.aload_n 0, 1) := by decide +kernel
theorem dX4_sets_36 : decode cX4_sets 36 = .ok (.iconst 0, 1) := by decide +kernel
theorem dX4_sets_37 : decode cX4_sets 37 = .ok (.putfield 73, 3) := by decide +kernel
theorem dX4_sets_40 : decode cX4_sets 40 = .ok (.aload_n 0, 1) := by decide +kernel
theorem dX4_sets_41 : decode cX4_sets 41 = .ok (.iload_n 1, 1) := by decide +kernel
theorem dX4_sets_42 : decode cX4_sets 42 = .ok (.iload_n 2, 1) := by decide +kernel
theorem dX4_sets_43 : decode cX4_sets 43 = .ok (.iload 4, 2) := by decide +kernel
theorem dX4_sets_45 : decode cX4_sets 45 = .ok (.sipush 144, 3) := by decide +kernel
theorem dX4_sets_48 : decode cX4_sets 48 = .ok (.idiv, 1) := by decide +kernel
theorem dX4_sets_49 : decode cX4_sets 49 = .ok (.iload 4, 2) := by decide +kernel
theorem dX4_sets_51 : decode cX4_sets 51 = .ok (.bipush 12, 2) := by decide +kernel
theorem dX4_sets_53 : decode cX4_sets 53 = .ok (.idiv, 1) := by decide +kernel
theorem dX4_sets_54 : decode cX4_sets 54 = .ok (.bipush 12, 2) := by decide +kernel
theorem dX4_sets_56 : decode cX4_sets 56 = .ok (.irem, 1) := by decide +kernel
theorem dX4_sets_57 : decode cX4_sets 57 = .ok (.iload 4, 2) := by decide +kernel
theorem dX4_sets_59 : decode cX4_sets 59 = .ok (.bipush 12, 2) := by decide +kernel
theorem dX4_sets_61 : decode cX4_sets 61 = .ok (.irem, 1) := by decide +kernel
theorem dX4_sets_62 : decode cX4_sets 62 = .ok (.invokevirtual 83, 3) := by decide +kernel
theorem dX4_sets_65 : decode cX4_sets 65 = .ok (.aload_n 0, 1) := by decide +kernel
theorem dX4_sets_66 : decode cX4_sets 66 = .ok (.getfield 73, 3) := by decide +kernel
theorem dX4_sets_69 : decode cX4_sets 69 = .ok (.ifCond .le 28, 3) := by decide +kernel
theorem dX4_sets_72 : decode cX4_sets 72 = .ok (.aload_n 0, 1) := by decide +kernel
theorem dX4_sets_73 : decode cX4_sets 73 = .ok (.iload_n 1, 1) := by decide +kernel
theorem dX4_sets_74 : decode cX4_sets 74 = .ok (.iload_n 2, 1) := by decide +kernel
theorem dX4_sets_75 : decode cX4_sets 75 = .ok (.invokevirtual 87, 3) := by decide +kernel
theorem dX4_sets_78 : decode cX4_sets 78 = .ok (.iload_n 3, 1) := by decide +kernel
theorem dX4_sets_79 : decode cX4_sets 79 = .ok (.iload_n 2, 1) := by decide +kernel
theorem dX4_sets_80 : decode cX4_sets 80 = .ok (.ifCond .ne 10, 3) := by decide +kernel
theorem dX4_sets_83 : decode cX4_sets 83 = .ok (.aload_n 0, 1) := by decide +kernel
theorem dX4_sets_84 : decode cX4_sets 84 = .ok (.getfield 76, 3) := by decide +kernel
theorem dX4_sets_87 : decode cX4_sets 87 = .ok (.ifCond .ne 7, 3) := by decide +kernel
theorem dX4_sets_90 : decode cX4_sets 90 = .ok (.iconst 1, 1) := by decide +kernel
theorem dX4_sets_91 : decode cX4_sets 91 = .ok (.goto 4, 3) := by decide +kernel
theorem dX4_sets_94 : decode cX4_sets 94 = .ok (.iconst 0, 1) := by decide +kernel
theorem dX4_sets_95 : decode cX4_sets 95 = .ok (.iadd, 1) := by decide +kernel
theorem dX4_sets_96 : decode cX4_sets 96 = .ok (.istore_n 3, 1) := by decide +kernel
theorem dX4_sets_97 : decode cX4_sets 97 = .ok (.iinc 4 1, 3) := by decide +kernel
theorem dX4_sets_100 : decode cX4_sets 100 = .ok (.goto (-73), 3) := by decide +kernel
theorem dX4_sets_103 : decode cX4_sets 103 = .ok (.iload_n 3, 1) := by decide +kernel
theorem dX4_sets_104 : decode cX4_sets 104 = .ok (.ireturn, 1) := by decide +kernel
theorem dX4_pieces_0 : decode cX4_pieces 0 = .ok (.iload_n 1, 1) := by decide +kernel
theorem dX4_pieces_1 : decode cX4_pieces 1 = .ok (.invokestatic 45, 3) := by decide +kernel
theorem dX4_pieces_4 : decode cX4_pieces 4 = .ok (.ifCond .eq 12, 3) := by decide +kernel
theorem dX4_pieces_7 : decode cX4_pieces 7 = .ok (.aload_n 0, 1) := by decide +kernel
theorem dX4_pieces_8 : decode cX4_pieces 8 = .ok (.iload_n 1, 1) := by decide +kernel
theorem dX4_pieces_9 : decode cX4_pieces 9 = .ok (.iconst 1, 1) := by decide +kernel
theorem dX4_pieces_10 : decode cX4_pieces 10 = .ok (.invokevirtual 91, 3) := by decide +kernel
theorem dX4_pieces_13 : decode cX4_pieces 13 = .ok (.goto 4, 3) := by decide +kernel
theorem dX4_pieces_16 : decode cX4_pieces 16 = .ok (.iconst (-1), 1) := by decide +kernel
theorem dX4_pieces_17 : decode cX4_pieces 17 = .ok (.ireturn, 1) := by decide +kernel
theorem dX4_hollows_0 : decode cX4_hollows 0 = .ok (.iload_n 1, 1) := by decide +kernel
theorem dX4_hollows_1 : decode cX4_hollows 1 = .ok (.invokestatic 45, 3) := by decide +kernel
theorem dX4_hollows_4 : decode cX4_hollows 4 = .ok (.ifCond .eq 12, 3) := by decide +kernel
theorem dX4_hollows_7 : decode cX4_hollows 7 = .ok (.aload_n 0, 1) := by decide +kernel
theorem dX4_hollows_8 : decode cX4_hollows 8 = .ok (.iload_n 1, 1) := by decide +kernel
theorem dX4_hollows_9 : decode cX4_hollows 9 = .ok (.iconst 0, 1) := by decide +kernel
theorem dX4_hollows_10 : decode cX4_hollows 10 = .ok (.invokevirtual 91, 3) := by decide +kernel
theorem dX4_hollows_13 : decode cX4_hollows 13 = .ok (.goto 4, 3) := by decide +kernel
theorem dX4_hollows_16 : decode cX4_hollows 16 = .ok (.iconst (-1), 1) := by decide +kernel
theorem dX4_hollows_17 : decode cX4_hollows 17 = .ok (.ireturn, 1) := by decide +kernel
theorem dX4_countAt_0 : decode cX4_countAt 0 = .ok (.iconst 0, 1) := by decide +kernel
theorem dX4_countAt_1 : decode cX4_countAt 1 = .ok (.istore 4, 2) := by decide +kernel
theorem dX4_countAt_3 : decode cX4_countAt 3 = .ok (.iconst 0, 1) := by decide +kernel
theorem dX4_countAt_4 : decode cX4_countAt 4 = .ok (.istore 5, 2) := by decide +kernel
theorem dX4_countAt_6 : decode cX4_countAt 6 = .ok (.iload 5, 2) := by decide +kernel
theorem dX4_countAt_8 : decode cX4_countAt 8 = .ok (.sipush 144, 3) := by decide +kernel
theorem dX4_countAt_11 : decode cX4_countAt 11 = .ok (.if_icmp .ge 39, 3) := by decide +kernel
theorem dX4_countAt_14 : decode cX4_countAt 14 = .ok (.iload 4, 2) := by decide +kernel
theorem dX4_countAt_16 : decode cX4_countAt 16 = .ok (.aload_n 0, 1) := by decide +kernel
theorem dX4_countAt_17 : decode cX4_countAt 17 = .ok (.iload_n 1, 1) := by decide +kernel
theorem dX4_countAt_18 : decode cX4_countAt 18 = .ok (.iload_n 2, 1) := by decide +kernel
theorem dX4_countAt_19 : decode cX4_countAt 19 = .ok (.iload_n 3, 1) := by decide +kernel
theorem dX4_countAt_20 : decode cX4_countAt 20 = .ok (.iload 5, 2) := by decide +kernel
theorem dX4_countAt_22 : decode cX4_countAt 22 = .ok (.bipush 12, 2) := by decide +kernel
theorem dX4_countAt_24 : decode cX4_countAt 24 = .ok (.idiv, 1) := by decide +kernel
theorem dX4_countAt_25 : decode cX4_countAt 25 = .ok (.iload 5, 2) := by decide +kernel
theorem dX4_countAt_27 : decode cX4_countAt 27 = .ok (.bipush 12, 2) := by decide +kernel
theorem dX4_countAt_29 : decode cX4_countAt 29 = .ok (.irem, 1) := by decide +kernel
theorem dX4_countAt_30 : decode cX4_countAt 30 = .ok (.invokevirtual 66, 3) := by decide +kernel
theorem dX4_countAt_33 : decode cX4_countAt 33 = .ok (.ifCond .eq 7, 3) := by decide +kernel
theorem dX4_countAt_36 : decode cX4_countAt 36 = .ok (.iconst 1, 1) := by decide +kernel
theorem dX4_countAt_37 : decode cX4_countAt 37 = .ok (.goto 4, 3) := by decide +kernel
theorem dX4_countAt_40 : decode cX4_countAt 40 = .ok (.iconst 0, 1) := by decide +kernel
theorem dX4_countAt_41 : decode cX4_countAt 41 = .ok (.iadd, 1) := by decide +kernel
theorem dX4_countAt_42 : decode cX4_countAt 42 = .ok (.istore 4, 2) := by decide +kernel
theorem dX4_countAt_44 : decode cX4_countAt 44 = .ok (.iinc 5 1, 3) := by decide +kernel
theorem dX4_countAt_47 : decode cX4_countAt 47 = .ok (.goto (-41), 3) := by decide +kernel
theorem dX4_countAt_50 : decode cX4_countAt 50 = .ok (.iload 4, 2) := by decide +kernel
theorem dX4_countAt_52 : decode cX4_countAt 52 = .ok (.ireturn, 1) := by decide +kernel
theorem dX4_moment_0 : decode cX4_moment 0 = .ok (.iload_n 1, 1) := by decide +kernel
theorem dX4_moment_1 : decode cX4_moment 1 = .ok (.invokestatic 45, 3) := by decide +kernel
theorem dX4_moment_4 : decode cX4_moment 4 = .ok (.ifCond .eq 10, 3) := by decide +kernel
theorem dX4_moment_7 : decode cX4_moment 7 = .ok (.iload_n 2, 1) := by decide +kernel
theorem dX4_moment_8 : decode cX4_moment 8 = .ok (.invokestatic 59, 3) := by decide +kernel
theorem dX4_moment_11 : decode cX4_moment 11 = .ok (.ifCond .ne 5, 3) := by decide +kernel
theorem dX4_moment_14 : decode cX4_moment 14 = .ok (.iconst (-1), 1) := by decide +kernel
theorem dX4_moment_15 : decode cX4_moment 15 = .ok (.ireturn, 1) := by decide +kernel
theorem dX4_moment_16 : decode cX4_moment 16 = .ok (.iconst 0, 1) := by decide +kernel
theorem dX4_moment_17 : decode cX4_moment 17 = .ok (.istore_n 3, 1) := by decide +kernel
theorem dX4_moment_18 : decode cX4_moment 18 = .ok (.iconst 0, 1) := by decide +kernel
theorem dX4_moment_19 : decode cX4_moment 19 = .ok (.istore 4, 2) := by decide +kernel
theorem dX4_moment_21 : decode cX4_moment 21 = .ok (.iload 4, 2) := by decide +kernel
theorem dX4_moment_23 : decode cX4_moment 23 = .ok (.bipush 12, 2) := by decide +kernel
theorem dX4_moment_25 : decode cX4_moment 25 = .ok (.if_icmp .ge 27, 3) := by decide +kernel
theorem dX4_moment_28 : decode cX4_moment 28 = .ok (.iload_n 3, 1) := by decide +kernel
theorem dX4_moment_29 : decode cX4_moment 29 = .ok (.iconst 2, 1) := by decide +kernel
theorem dX4_moment_30 : decode cX4_moment 30 = .ok (.iload 4, 2) := by decide +kernel
theorem dX4_moment_32 : decode cX4_moment 32 = .ok (.imul, 1) := by decide +kernel
theorem dX4_moment_33 : decode cX4_moment 33 = .ok (.iconst 1, 1) := by decide +kernel
theorem dX4_moment_34 : decode cX4_moment 34 = .ok (.iadd, 1) := by decide +kernel
theorem dX4_moment_35 : decode cX4_moment 35 = .ok (.aload_n 0, 1) := by decide +kernel
theorem dX4_moment_36 : decode cX4_moment 36 = .ok (.iload_n 1, 1) := by decide +kernel
theorem dX4_moment_37 : decode cX4_moment 37 = .ok (.iload_n 2, 1) := by decide +kernel
theorem dX4_moment_38 : decode cX4_moment 38 = .ok (.iload 4, 2) := by decide +kernel
theorem dX4_moment_40 : decode cX4_moment 40 = .ok (.invokevirtual 95, 3) := by decide +kernel
theorem dX4_moment_43 : decode cX4_moment 43 = .ok (.imul, 1) := by decide +kernel
theorem dX4_moment_44 : decode cX4_moment 44 = .ok (.iadd, 1) := by decide +kernel
theorem dX4_moment_45 : decode cX4_moment 45 = .ok (.istore_n 3, 1) := by decide +kernel
theorem dX4_moment_46 : decode cX4_moment 46 = .ok (.iinc 4 1, 3) := by decide +kernel
theorem dX4_moment_49 : decode cX4_moment 49 = .ok (.goto (-28), 3) := by decide +kernel
theorem dX4_moment_52 : decode cX4_moment 52 = .ok (.iload_n 3, 1) := by decide +kernel
theorem dX4_moment_53 : decode cX4_moment 53 = .ok (.ireturn, 1) := by decide +kernel
theorem dX4_extent_0 : decode cX4_extent 0 = .ok (.iload_n 1, 1) := by decide +kernel
theorem dX4_extent_1 : decode cX4_extent 1 = .ok (.invokestatic 45, 3) := by decide +kernel
theorem dX4_extent_4 : decode cX4_extent 4 = .ok (.ifCond .eq 19, 3) := by decide +kernel
theorem dX4_extent_7 : decode cX4_extent 7 = .ok (.iload_n 2, 1) := by decide +kernel
theorem dX4_extent_8 : decode cX4_extent 8 = .ok (.invokestatic 59, 3) := by decide +kernel
theorem dX4_extent_11 : decode cX4_extent 11 = .ok (.ifCond .eq 12, 3) := by decide +kernel
theorem dX4_extent_14 : decode cX4_extent 14 = .ok (.iload_n 3, 1) := by decide +kernel
theorem dX4_extent_15 : decode cX4_extent 15 = .ok (.ifCond .lt 8, 3) := by decide +kernel
theorem dX4_extent_18 : decode cX4_extent 18 = .ok (.iload_n 3, 1) := by decide +kernel
theorem dX4_extent_19 : decode cX4_extent 19 = .ok (.iconst 1, 1) := by decide +kernel
theorem dX4_extent_20 : decode cX4_extent 20 = .ok (.if_icmp .le 5, 3) := by decide +kernel
theorem dX4_extent_23 : decode cX4_extent 23 = .ok (.iconst (-1), 1) := by decide +kernel
theorem dX4_extent_24 : decode cX4_extent 24 = .ok (.ireturn, 1) := by decide +kernel
theorem dX4_extent_25 : decode cX4_extent 25 = .ok (.bipush 12, 2) := by decide +kernel
theorem dX4_extent_27 : decode cX4_extent 27 = .ok (.istore 4, 2) := by decide +kernel
theorem dX4_extent_29 : decode cX4_extent 29 = .ok (.bipush 12, 2) := by decide +kernel
theorem dX4_extent_31 : decode cX4_extent 31 = .ok (.istore 5, 2) := by decide +kernel
theorem dX4_extent_33 : decode cX4_extent 33 = .ok (.iconst 0, 1) := by decide +kernel
theorem dX4_extent_34 : decode cX4_extent 34 = .ok (.istore 6, 2) := by decide +kernel
theorem dX4_extent_36 : decode cX4_extent 36 = .ok (.iload 6, 2) := by decide +kernel
theorem dX4_extent_38 : decode cX4_extent 38 = .ok (.bipush 12, 2) := by decide +kernel
theorem dX4_extent_40 : decode cX4_extent 40 = .ok (.if_icmp .ge 40, 3) := by decide +kernel
theorem dX4_extent_43 : decode cX4_extent 43 = .ok (.aload_n 0, 1) := by decide +kernel
theorem dX4_extent_44 : decode cX4_extent 44 = .ok (.iload_n 1, 1) := by decide +kernel
theorem dX4_extent_45 : decode cX4_extent 45 = .ok (.iload_n 2, 1) := by decide +kernel
theorem dX4_extent_46 : decode cX4_extent 46 = .ok (.iload 6, 2) := by decide +kernel
theorem dX4_extent_48 : decode cX4_extent 48 = .ok (.invokevirtual 95, 3) := by decide +kernel
theorem dX4_extent_51 : decode cX4_extent 51 = .ok (.ifCond .le 23, 3) := by decide +kernel
theorem dX4_extent_54 : decode cX4_extent 54 = .ok (.iload 4, 2) := by decide +kernel
theorem dX4_extent_56 : decode cX4_extent 56 = .ok (.bipush 12, 2) := by decide +kernel
theorem dX4_extent_58 : decode cX4_extent 58 = .ok (.if_icmp .ne 8, 3) := by decide +kernel
theorem dX4_extent_61 : decode cX4_extent 61 = .ok (.iload 6, 2) := by decide +kernel
theorem dX4_extent_63 : decode cX4_extent 63 = .ok (.goto 5, 3) := by decide +kernel
theorem dX4_extent_66 : decode cX4_extent 66 = .ok (.iload 4, 2) := by decide +kernel
theorem dX4_extent_68 : decode cX4_extent 68 = .ok (.istore 4, 2) := by decide +kernel
theorem dX4_extent_70 : decode cX4_extent 70 = .ok (.iload 6, 2) := by decide +kernel
theorem dX4_extent_72 : decode cX4_extent 72 = .ok (.istore 5, 2) := by decide +kernel
theorem dX4_extent_74 : decode cX4_extent 74 = .ok (.iinc 6 1, 3) := by decide +kernel
theorem dX4_extent_77 : decode cX4_extent 77 = .ok (.goto (-41), 3) := by decide +kernel
theorem dX4_extent_80 : decode cX4_extent 80 = .ok (.iload_n 3, 1) := by decide +kernel
theorem dX4_extent_81 : decode cX4_extent 81 = .ok (.ifCond .ne 8, 3) := by decide +kernel
theorem dX4_extent_84 : decode cX4_extent 84 = .ok (.iload 4, 2) := by decide +kernel
theorem dX4_extent_86 : decode cX4_extent 86 = .ok (.goto 5, 3) := by decide +kernel
theorem dX4_extent_89 : decode cX4_extent 89 = .ok (.iload 5, 2) := by decide +kernel
theorem dX4_extent_91 : decode cX4_extent 91 = .ok (.ireturn, 1) := by decide +kernel
theorem dX4_inside_0 : decode cX4_inside 0 = .ok (.iload_n 1, 1) := by decide +kernel
theorem dX4_inside_1 : decode cX4_inside 1 = .ok (.invokestatic 45, 3) := by decide +kernel
theorem dX4_inside_4 : decode cX4_inside 4 = .ok (.ifCond .eq 31, 3) := by decide +kernel
theorem dX4_inside_7 : decode cX4_inside 7 = .ok (.iload_n 2, 1) := by decide +kernel
theorem dX4_inside_8 : decode cX4_inside 8 = .ok (.bipush 13, 2) := by decide +kernel
theorem dX4_inside_10 : decode cX4_inside 10 = .ok (.invokestatic 22, 3) := by decide +kernel
theorem dX4_inside_13 : decode cX4_inside 13 = .ok (.ifCond .eq 22, 3) := by decide +kernel
theorem dX4_inside_16 : decode cX4_inside 16 = .ok (.iload_n 3, 1) := by decide +kernel
theorem dX4_inside_17 : decode cX4_inside 17 = .ok (.bipush 13, 2) := by decide +kernel
theorem dX4_inside_19 : decode cX4_inside 19 = .ok (.invokestatic 22, 3) := by decide +kernel
theorem dX4_inside_22 : decode cX4_inside 22 = .ok (.ifCond .eq 13, 3) := by decide +kernel
theorem dX4_inside_25 : decode cX4_inside 25 = .ok (.iload 4, 2) := by decide +kernel
theorem dX4_inside_27 : decode cX4_inside 27 = .ok (.bipush 13, 2) := by decide +kernel
theorem dX4_inside_29 : decode cX4_inside 29 = .ok (.invokestatic 22, 3) := by decide +kernel
theorem dX4_inside_32 : decode cX4_inside 32 = .ok (.ifCond .ne 6, 3) := by decide +kernel
theorem dX4_inside_35 : decode cX4_inside 35 = .ok (.bipush (-9), 2) := by decide +kernel
theorem dX4_inside_37 : decode cX4_inside 37 = .ok (.ireturn, 1) := by decide +kernel
theorem dX4_inside_38 : decode cX4_inside 38 = .ok (.iconst 0, 1) := by decide +kernel
theorem dX4_inside_39 : decode cX4_inside 39 = .ok (.istore 5, 2) := by decide +kernel
theorem dX4_inside_41 : decode cX4_inside 41 = .ok (.iload_n 2, 1) := by decide +kernel
theorem dX4_inside_42 : decode cX4_inside 42 = .ok (.iconst 1, 1) := by decide +kernel
theorem dX4_inside_43 : decode cX4_inside 43 = .ok (.isub, 1) := by decide +kernel
theorem dX4_inside_44 : decode cX4_inside 44 = .ok (.istore 6, 2) := by decide +kernel
theorem dX4_inside_46 : decode cX4_inside 46 = .ok (.iload 6, 2) := by decide +kernel
theorem dX4_inside_48 : decode cX4_inside 48 = .ok (.iload_n 2, 1) := by decide +kernel
theorem dX4_inside_49 : decode cX4_inside 49 = .ok (.if_icmp .gt 69, 3) := by decide +kernel
theorem dX4_inside_52 : decode cX4_inside 52 = .ok (.iload_n 3, 1) := by decide +kernel
theorem dX4_inside_53 : decode cX4_inside 53 = .ok (.iconst 1, 1) := by decide +kernel
theorem dX4_inside_54 : decode cX4_inside 54 = .ok (.isub, 1) := by decide +kernel
theorem dX4_inside_55 : decode cX4_inside 55 = .ok (.istore 7, 2) := by decide +kernel
theorem dX4_inside_57 : decode cX4_inside 57 = .ok (.iload 7, 2) := by decide +kernel
theorem dX4_inside_59 : decode cX4_inside 59 = .ok (.iload_n 3, 1) := by decide +kernel
theorem dX4_inside_60 : decode cX4_inside 60 = .ok (.if_icmp .gt 52, 3) := by decide +kernel
theorem dX4_inside_63 : decode cX4_inside 63 = .ok (.iload 4, 2) := by decide +kernel
theorem dX4_inside_65 : decode cX4_inside 65 = .ok (.iconst 1, 1) := by decide +kernel
theorem dX4_inside_66 : decode cX4_inside 66 = .ok (.isub, 1) := by decide +kernel
theorem dX4_inside_67 : decode cX4_inside 67 = .ok (.istore 8, 2) := by decide +kernel
theorem dX4_inside_69 : decode cX4_inside 69 = .ok (.iload 8, 2) := by decide +kernel
theorem dX4_inside_71 : decode cX4_inside 71 = .ok (.iload 4, 2) := by decide +kernel
theorem dX4_inside_73 : decode cX4_inside 73 = .ok (.if_icmp .gt 33, 3) := by decide +kernel
theorem dX4_inside_76 : decode cX4_inside 76 = .ok (.iload 5, 2) := by decide +kernel
theorem dX4_inside_78 : decode cX4_inside 78 = .ok (.aload_n 0, 1) := by decide +kernel
theorem dX4_inside_79 : decode cX4_inside 79 = .ok (.iload_n 1, 1) := by decide +kernel
theorem dX4_inside_80 : decode cX4_inside 80 = .ok (.iload 6, 2) := by decide +kernel
theorem dX4_inside_82 : decode cX4_inside 82 = .ok (.iload 7, 2) := by decide +kernel
theorem dX4_inside_84 : decode cX4_inside 84 = .ok (.iload 8, 2) := by decide +kernel
theorem dX4_inside_86 : decode cX4_inside 86 = .ok (.invokevirtual 26, 3) := by decide +kernel
theorem dX4_inside_89 : decode cX4_inside 89 = .ok (.ifCond .eq 7, 3) := by decide +kernel
theorem dX4_inside_92 : decode cX4_inside 92 = .ok (.iconst 1, 1) := by decide +kernel
theorem dX4_inside_93 : decode cX4_inside 93 = .ok (.goto 4, 3) := by decide +kernel
theorem dX4_inside_96 : decode cX4_inside 96 = .ok (.iconst 0, 1) := by decide +kernel
theorem dX4_inside_97 : decode cX4_inside 97 = .ok (.iadd, 1) := by decide +kernel
theorem dX4_inside_98 : decode cX4_inside 98 = .ok (.istore 5, 2) := by decide +kernel
theorem dX4_inside_100 : decode cX4_inside 100 = .ok (.iinc 8 1, 3) := by decide +kernel
theorem dX4_inside_103 : decode cX4_inside 103 = .ok (.goto (-34), 3) := by decide +kernel
theorem dX4_inside_106 : decode cX4_inside 106 = .ok (.iinc 7 1, 3) := by decide +kernel
theorem dX4_inside_109 : decode cX4_inside 109 = .ok (.goto (-52), 3) := by decide +kernel
theorem dX4_inside_112 : decode cX4_inside 112 = .ok (.iinc 6 1, 3) := by decide +kernel
theorem dX4_inside_115 : decode cX4_inside 115 = .ok (.goto (-69), 3) := by decide +kernel
theorem dX4_inside_118 : decode cX4_inside 118 = .ok (.iload 5, 2) := by decide +kernel
theorem dX4_inside_120 : decode cX4_inside 120 = .ok (.bipush 8, 2) := by decide +kernel
theorem dX4_inside_122 : decode cX4_inside 122 = .ok (.if_icmp .ne 7, 3) := by decide +kernel
theorem dX4_inside_125 : decode cX4_inside 125 = .ok (.iconst 1, 1) := by decide +kernel
theorem dX4_inside_126 : decode cX4_inside 126 = .ok (.goto 13, 3) := by decide +kernel
theorem dX4_inside_129 : decode cX4_inside 129 = .ok (.iload 5, 2) := by decide +kernel
theorem dX4_inside_131 : decode cX4_inside 131 = .ok (.ifCond .le 7, 3) := by decide +kernel
theorem dX4_inside_134 : decode cX4_inside 134 = .ok (.iconst 0, 1) := by decide +kernel
theorem dX4_inside_135 : decode cX4_inside 135 = .ok (.goto 4, 3) := by decide +kernel
theorem dX4_inside_138 : decode cX4_inside 138 = .ok (.iconst (-1), 1) := by decide +kernel
theorem dX4_inside_139 : decode cX4_inside 139 = .ok (.ireturn, 1) := by decide +kernel
theorem dX4_section_0 : decode cX4_section 0 = .ok (.iload_n 1, 1) := by decide +kernel
theorem dX4_section_1 : decode cX4_section 1 = .ok (.invokestatic 45, 3) := by decide +kernel
theorem dX4_section_4 : decode cX4_section 4 = .ok (.ifCond .eq 29, 3) := by decide +kernel
theorem dX4_section_7 : decode cX4_section 7 = .ok (.iload_n 2, 1) := by decide +kernel
theorem dX4_section_8 : decode cX4_section 8 = .ok (.invokestatic 59, 3) := by decide +kernel
theorem dX4_section_11 : decode cX4_section 11 = .ok (.ifCond .eq 22, 3) := by decide +kernel
theorem dX4_section_14 : decode cX4_section 14 = .ok (.iload_n 3, 1) := by decide +kernel
theorem dX4_section_15 : decode cX4_section 15 = .ok (.bipush 12, 2) := by decide +kernel
theorem dX4_section_17 : decode cX4_section 17 = .ok (.invokestatic 22, 3) := by decide +kernel
theorem dX4_section_20 : decode cX4_section 20 = .ok (.ifCond .eq 13, 3) := by decide +kernel
theorem dX4_section_23 : decode cX4_section 23 = .ok (.aload_n 0, 1) := by decide +kernel
theorem dX4_section_24 : decode cX4_section 24 = .ok (.iload_n 1, 1) := by decide +kernel
theorem dX4_section_25 : decode cX4_section 25 = .ok (.iload_n 2, 1) := by decide +kernel
theorem dX4_section_26 : decode cX4_section 26 = .ok (.iload_n 3, 1) := by decide +kernel
theorem dX4_section_27 : decode cX4_section 27 = .ok (.invokevirtual 95, 3) := by decide +kernel
theorem dX4_section_30 : decode cX4_section 30 = .ok (.goto 4, 3) := by decide +kernel
theorem dX4_section_33 : decode cX4_section 33 = .ok (.iconst (-1), 1) := by decide +kernel
theorem dX4_section_34 : decode cX4_section 34 = .ok (.ireturn, 1) := by decide +kernel
theorem dX4_same_0 : decode cX4_same 0 = .ok (.iload_n 1, 1) := by decide +kernel
theorem dX4_same_1 : decode cX4_same 1 = .ok (.invokestatic 45, 3) := by decide +kernel
theorem dX4_same_4 : decode cX4_same 4 = .ok (.ifCond .eq 10, 3) := by decide +kernel
theorem dX4_same_7 : decode cX4_same 7 = .ok (.iload_n 2, 1) := by decide +kernel
theorem dX4_same_8 : decode cX4_same 8 = .ok (.invokestatic 45, 3) := by decide +kernel
theorem dX4_same_11 : decode cX4_same 11 = .ok (.ifCond .ne 5, 3) := by decide +kernel
theorem dX4_same_14 : decode cX4_same 14 = .ok (.iconst 0, 1) := by decide +kernel
theorem dX4_same_15 : decode cX4_same 15 = .ok (.ireturn, 1) := by decide +kernel
theorem dX4_same_16 : decode cX4_same 16 = .ok (.iconst 1, 1) := by decide +kernel
theorem dX4_same_17 : decode cX4_same 17 = .ok (.istore_n 3, 1) := by decide +kernel
theorem dX4_same_18 : decode cX4_same 18 = .ok (.iconst 0, 1) := by decide +kernel
theorem dX4_same_19 : decode cX4_same 19 = .ok (.istore 4, 2) := by decide +kernel
theorem dX4_same_21 : decode cX4_same 21 = .ok (.iload 4, 2) := by decide +kernel
theorem dX4_same_23 : decode cX4_same 23 = .ok (.sipush 144, 3) := by decide +kernel
theorem dX4_same_26 : decode cX4_same 26 = .ok (.if_icmp .ge 48, 3) := by decide +kernel
theorem dX4_same_29 : decode cX4_same 29 = .ok (.iload_n 3, 1) := by decide +kernel
theorem dX4_same_30 : decode cX4_same 30 = .ok (.ifCond .eq 36, 3) := by decide +kernel
theorem dX4_same_33 : decode cX4_same 33 = .ok (.aload_n 0, 1) := by decide +kernel
theorem dX4_same_34 : decode cX4_same 34 = .ok (.getfield 7, 3) := by decide +kernel
theorem dX4_same_37 : decode cX4_same 37 = .ok (.sipush 144, 3) := by decide +kernel
theorem dX4_same_40 : decode cX4_same 40 = .ok (.iload_n 1, 1) := by decide +kernel
theorem dX4_same_41 : decode cX4_same 41 = .ok (.imul, 1) := by decide +kernel
theorem dX4_same_42 : decode cX4_same 42 = .ok (.iload 4, 2) := by decide +kernel
theorem dX4_same_44 : decode cX4_same 44 = .ok (.iadd, 1) := by decide +kernel
theorem dX4_same_45 : decode cX4_same 45 = .ok (.iaload, 1) := by decide +kernel
theorem dX4_same_46 : decode cX4_same 46 = .ok (.aload_n 0, 1) := by decide +kernel
theorem dX4_same_47 : decode cX4_same 47 = .ok (.getfield 7, 3) := by decide +kernel
theorem dX4_same_50 : decode cX4_same 50 = .ok (.sipush 144, 3) := by decide +kernel
theorem dX4_same_53 : decode cX4_same 53 = .ok (.iload_n 2, 1) := by decide +kernel
theorem dX4_same_54 : decode cX4_same 54 = .ok (.imul, 1) := by decide +kernel
theorem dX4_same_55 : decode cX4_same 55 = .ok (.iload 4, 2) := by decide +kernel
theorem dX4_same_57 : decode cX4_same 57 = .ok (.iadd, 1) := by decide +kernel
theorem dX4_same_58 : decode cX4_same 58 = .ok (.iaload, 1) := by decide +kernel
theorem dX4_same_59 : decode cX4_same 59 = .ok (.if_icmp .ne 7, 3) := by decide +kernel
theorem dX4_same_62 : decode cX4_same 62 = .ok (.iconst 1, 1) := by decide +kernel
theorem dX4_same_63 : decode cX4_same 63 = .ok (.goto 4, 3) := by decide +kernel
theorem dX4_same_66 : decode cX4_same 66 = .ok (.iconst 0, 1) := by decide +kernel
theorem dX4_same_67 : decode cX4_same 67 = .ok (.istore_n 3, 1) := by decide +kernel
theorem dX4_same_68 : decode cX4_same 68 = .ok (.iinc 4 1, 3) := by decide +kernel
theorem dX4_same_71 : decode cX4_same 71 = .ok (.goto (-50), 3) := by decide +kernel
theorem dX4_same_74 : decode cX4_same 74 = .ok (.iload_n 3, 1) := by decide +kernel
theorem dX4_same_75 : decode cX4_same 75 = .ok (.ireturn, 1) := by decide +kernel
theorem dX4_depthOf_0 : decode cX4_depthOf 0 = .ok (.iconst 0, 1) := by decide +kernel
theorem dX4_depthOf_1 : decode cX4_depthOf 1 = .ok (.istore 6, 2) := by decide +kernel
theorem dX4_depthOf_3 : decode cX4_depthOf 3 = .ok (.iload 6, 2) := by decide +kernel
theorem dX4_depthOf_5 : decode cX4_depthOf 5 = .ok (.bipush 12, 2) := by decide +kernel
theorem dX4_depthOf_7 : decode cX4_depthOf 7 = .ok (.if_icmp .ge 36, 3) := by decide +kernel
theorem dX4_depthOf_10 : decode cX4_depthOf 10 = .ok (.aload_n 0, 1) := by decide +kernel
theorem dX4_depthOf_11 : decode cX4_depthOf 11 = .ok (.iload_n 1, 1) := by decide +kernel
theorem dX4_depthOf_12 : decode cX4_depthOf 12 = .ok (.iload_n 2, 1) := by decide +kernel
theorem dX4_depthOf_13 : decode cX4_depthOf 13 = .ok (.iload_n 3, 1) := by decide +kernel
theorem dX4_depthOf_14 : decode cX4_depthOf 14 = .ok (.ifCond .eq 11, 3) := by decide +kernel
theorem dX4_depthOf_17 : decode cX4_depthOf 17 = .ok (.bipush 11, 2) := by decide +kernel
theorem dX4_depthOf_19 : decode cX4_depthOf 19 = .ok (.iload 6, 2) := by decide +kernel
theorem dX4_depthOf_21 : decode cX4_depthOf 21 = .ok (.isub, 1) := by decide +kernel
theorem dX4_depthOf_22 : decode cX4_depthOf 22 = .ok (.goto 5, 3) := by decide +kernel
theorem dX4_depthOf_25 : decode cX4_depthOf 25 = .ok (.iload 6, 2) := by decide +kernel
theorem dX4_depthOf_27 : decode cX4_depthOf 27 = .ok (.iload 4, 2) := by decide +kernel
theorem dX4_depthOf_29 : decode cX4_depthOf 29 = .ok (.iload 5, 2) := by decide +kernel
theorem dX4_depthOf_31 : decode cX4_depthOf 31 = .ok (.invokevirtual 66, 3) := by decide +kernel
theorem dX4_depthOf_34 : decode cX4_depthOf 34 = .ok (.ifCond .ne 9, 3) := by decide +kernel
theorem dX4_depthOf_37 : decode cX4_depthOf 37 = .ok (.iinc 6 1, 3) := by decide +kernel
theorem dX4_depthOf_40 : decode cX4_depthOf 40 = .ok (.goto (-37), 3) := by decide +kernel
theorem dX4_depthOf_43 : decode cX4_depthOf 43 = .ok (.iload 6, 2) := by decide +kernel
theorem dX4_depthOf_45 : decode cX4_depthOf 45 = .ok (.ireturn, 1) := by decide +kernel
theorem dX4_depth_0 : decode cX4_depth 0 = .ok (.iload_n 1, 1) := by decide +kernel
theorem dX4_depth_1 : decode cX4_depth 1 = .ok (.invokestatic 45, 3) := by decide +kernel
theorem dX4_depth_4 : decode cX4_depth 4 = .ok (.ifCond .eq 44, 3) := by decide +kernel
theorem dX4_depth_7 : decode cX4_depth 7 = .ok (.iload_n 2, 1) := by decide +kernel
theorem dX4_depth_8 : decode cX4_depth 8 = .ok (.invokestatic 59, 3) := by decide +kernel
theorem dX4_depth_11 : decode cX4_depth 11 = .ok (.ifCond .eq 37, 3) := by decide +kernel
theorem dX4_depth_14 : decode cX4_depth 14 = .ok (.iload 4, 2) := by decide +kernel
theorem dX4_depth_16 : decode cX4_depth 16 = .ok (.bipush 12, 2) := by decide +kernel
theorem dX4_depth_18 : decode cX4_depth 18 = .ok (.invokestatic 22, 3) := by decide +kernel
theorem dX4_depth_21 : decode cX4_depth 21 = .ok (.ifCond .eq 27, 3) := by decide +kernel
theorem dX4_depth_24 : decode cX4_depth 24 = .ok (.iload 5, 2) := by decide +kernel
theorem dX4_depth_26 : decode cX4_depth 26 = .ok (.bipush 12, 2) := by decide +kernel
theorem dX4_depth_28 : decode cX4_depth 28 = .ok (.invokestatic 22, 3) := by decide +kernel
theorem dX4_depth_31 : decode cX4_depth 31 = .ok (.ifCond .eq 17, 3) := by decide +kernel
theorem dX4_depth_34 : decode cX4_depth 34 = .ok (.aload_n 0, 1) := by decide +kernel
theorem dX4_depth_35 : decode cX4_depth 35 = .ok (.iload_n 1, 1) := by decide +kernel
theorem dX4_depth_36 : decode cX4_depth 36 = .ok (.iload_n 2, 1) := by decide +kernel
theorem dX4_depth_37 : decode cX4_depth 37 = .ok (.iload_n 3, 1) := by decide +kernel
theorem dX4_depth_38 : decode cX4_depth 38 = .ok (.iload 4, 2) := by decide +kernel
theorem dX4_depth_40 : decode cX4_depth 40 = .ok (.iload 5, 2) := by decide +kernel
theorem dX4_depth_42 : decode cX4_depth 42 = .ok (.invokevirtual 99, 3) := by decide +kernel
theorem dX4_depth_45 : decode cX4_depth 45 = .ok (.goto 4, 3) := by decide +kernel
theorem dX4_depth_48 : decode cX4_depth 48 = .ok (.iconst (-1), 1) := by decide +kernel
theorem dX4_depth_49 : decode cX4_depth 49 = .ok (.ireturn, 1) := by decide +kernel
theorem dX4_isEdgeAt_0 : decode cX4_isEdgeAt 0 = .ok (.iload_n 2, 1) := by decide +kernel
theorem dX4_isEdgeAt_1 : decode cX4_isEdgeAt 1 = .ok (.ifCond .ne 34, 3) := by decide +kernel
theorem dX4_isEdgeAt_4 : decode cX4_isEdgeAt 4 = .ok (.iload 5, 2) := by decide +kernel
theorem dX4_isEdgeAt_6 : decode cX4_isEdgeAt 6 = .ok (.ifCond .ne 17, 3) := by decide +kernel
theorem dX4_isEdgeAt_9 : decode cX4_isEdgeAt 9 = .ok (.aload_n 0, 1) := by decide +kernel
theorem dX4_isEdgeAt_10 : decode cX4_isEdgeAt 10 = .ok (.iload_n 1, 1) := by decide +kernel
theorem dX4_isEdgeAt_11 : decode cX4_isEdgeAt 11 = .ok (.iconst 2, 1) := by decide +kernel
theorem dX4_isEdgeAt_12 : decode cX4_isEdgeAt 12 = .ok (.iload 4, 2) := by decide +kernel
theorem dX4_isEdgeAt_14 : decode cX4_isEdgeAt 14 = .ok (.iload 6, 2) := by decide +kernel
theorem dX4_isEdgeAt_16 : decode cX4_isEdgeAt 16 = .ok (.iload_n 3, 1) := by decide +kernel
theorem dX4_isEdgeAt_17 : decode cX4_isEdgeAt 17 = .ok (.invokevirtual 70, 3) := by decide +kernel
theorem dX4_isEdgeAt_20 : decode cX4_isEdgeAt 20 = .ok (.goto 14, 3) := by decide +kernel
theorem dX4_isEdgeAt_23 : decode cX4_isEdgeAt 23 = .ok (.aload_n 0, 1) := by decide +kernel
theorem dX4_isEdgeAt_24 : decode cX4_isEdgeAt 24 = .ok (.iload_n 1, 1) := by decide +kernel
theorem dX4_isEdgeAt_25 : decode cX4_isEdgeAt 25 = .ok (.iconst 1, 1) := by decide +kernel
theorem dX4_isEdgeAt_26 : decode cX4_isEdgeAt 26 = .ok (.iload_n 3, 1) := by decide +kernel
theorem dX4_isEdgeAt_27 : decode cX4_isEdgeAt 27 = .ok (.iload 6, 2) := by decide +kernel
theorem dX4_isEdgeAt_29 : decode cX4_isEdgeAt 29 = .ok (.iload 4, 2) := by decide +kernel
theorem dX4_isEdgeAt_31 : decode cX4_isEdgeAt 31 = .ok (.invokevirtual 70, 3) := by decide +kernel
theorem dX4_isEdgeAt_34 : decode cX4_isEdgeAt 34 = .ok (.ireturn, 1) := by decide +kernel
theorem dX4_isEdgeAt_35 : decode cX4_isEdgeAt 35 = .ok (.iload_n 2, 1) := by decide +kernel
theorem dX4_isEdgeAt_36 : decode cX4_isEdgeAt 36 = .ok (.iconst 1, 1) := by decide +kernel
theorem dX4_isEdgeAt_37 : decode cX4_isEdgeAt 37 = .ok (.if_icmp .ne 34, 3) := by decide +kernel
theorem dX4_isEdgeAt_40 : decode cX4_isEdgeAt 40 = .ok (.iload 5, 2) := by decide +kernel
theorem dX4_isEdgeAt_42 : decode cX4_isEdgeAt 42 = .ok (.ifCond .ne 17, 3) := by decide +kernel
theorem dX4_isEdgeAt_45 : decode cX4_isEdgeAt 45 = .ok (.aload_n 0, 1) := by decide +kernel
theorem dX4_isEdgeAt_46 : decode cX4_isEdgeAt 46 = .ok (.iload_n 1, 1) := by decide +kernel
theorem dX4_isEdgeAt_47 : decode cX4_isEdgeAt 47 = .ok (.iconst 2, 1) := by decide +kernel
theorem dX4_isEdgeAt_48 : decode cX4_isEdgeAt 48 = .ok (.iload 4, 2) := by decide +kernel
theorem dX4_isEdgeAt_50 : decode cX4_isEdgeAt 50 = .ok (.iload_n 3, 1) := by decide +kernel
theorem dX4_isEdgeAt_51 : decode cX4_isEdgeAt 51 = .ok (.iload 6, 2) := by decide +kernel
theorem dX4_isEdgeAt_53 : decode cX4_isEdgeAt 53 = .ok (.invokevirtual 70, 3) := by decide +kernel
theorem dX4_isEdgeAt_56 : decode cX4_isEdgeAt 56 = .ok (.goto 14, 3) := by decide +kernel
theorem dX4_isEdgeAt_59 : decode cX4_isEdgeAt 59 = .ok (.aload_n 0, 1) := by decide +kernel
theorem dX4_isEdgeAt_60 : decode cX4_isEdgeAt 60 = .ok (.iload_n 1, 1) := by decide +kernel
theorem dX4_isEdgeAt_61 : decode cX4_isEdgeAt 61 = .ok (.iconst 0, 1) := by decide +kernel
theorem dX4_isEdgeAt_62 : decode cX4_isEdgeAt 62 = .ok (.iload_n 3, 1) := by decide +kernel
theorem dX4_isEdgeAt_63 : decode cX4_isEdgeAt 63 = .ok (.iload 6, 2) := by decide +kernel
theorem dX4_isEdgeAt_65 : decode cX4_isEdgeAt 65 = .ok (.iload 4, 2) := by decide +kernel
theorem dX4_isEdgeAt_67 : decode cX4_isEdgeAt 67 = .ok (.invokevirtual 70, 3) := by decide +kernel
theorem dX4_isEdgeAt_70 : decode cX4_isEdgeAt 70 = .ok (.ireturn, 1) := by decide +kernel
theorem dX4_isEdgeAt_71 : decode cX4_isEdgeAt 71 = .ok (.iload 5, 2) := by decide +kernel
theorem dX4_isEdgeAt_73 : decode cX4_isEdgeAt 73 = .ok (.ifCond .ne 17, 3) := by decide +kernel
theorem dX4_isEdgeAt_76 : decode cX4_isEdgeAt 76 = .ok (.aload_n 0, 1) := by decide +kernel
theorem dX4_isEdgeAt_77 : decode cX4_isEdgeAt 77 = .ok (.iload_n 1, 1) := by decide +kernel
theorem dX4_isEdgeAt_78 : decode cX4_isEdgeAt 78 = .ok (.iconst 1, 1) := by decide +kernel
theorem dX4_isEdgeAt_79 : decode cX4_isEdgeAt 79 = .ok (.iload 4, 2) := by decide +kernel
theorem dX4_isEdgeAt_81 : decode cX4_isEdgeAt 81 = .ok (.iload_n 3, 1) := by decide +kernel
theorem dX4_isEdgeAt_82 : decode cX4_isEdgeAt 82 = .ok (.iload 6, 2) := by decide +kernel
theorem dX4_isEdgeAt_84 : decode cX4_isEdgeAt 84 = .ok (.invokevirtual 70, 3) := by decide +kernel
theorem dX4_isEdgeAt_87 : decode cX4_isEdgeAt 87 = .ok (.goto 14, 3) := by decide +kernel
theorem dX4_isEdgeAt_90 : decode cX4_isEdgeAt 90 = .ok (.aload_n 0, 1) := by decide +kernel
theorem dX4_isEdgeAt_91 : decode cX4_isEdgeAt 91 = .ok (.iload_n 1, 1) := by decide +kernel
theorem dX4_isEdgeAt_92 : decode cX4_isEdgeAt 92 = .ok (.iconst 0, 1) := by decide +kernel
theorem dX4_isEdgeAt_93 : decode cX4_isEdgeAt 93 = .ok (.iload_n 3, 1) := by decide +kernel
theorem dX4_isEdgeAt_94 : decode cX4_isEdgeAt 94 = .ok (.iload 4, 2) := by decide +kernel
theorem dX4_isEdgeAt_96 : decode cX4_isEdgeAt 96 = .ok (.iload 6, 2) := by decide +kernel
theorem dX4_isEdgeAt_98 : decode cX4_isEdgeAt 98 = .ok (.invokevirtual 70, 3) := by decide +kernel
theorem dX4_isEdgeAt_101 : decode cX4_isEdgeAt 101 = .ok (.ireturn, 1) := by decide +kernel
theorem dX4_strokeOf_0 : decode cX4_strokeOf 0 = .ok (.iload 6, 2) := by decide +kernel
theorem dX4_strokeOf_2 : decode cX4_strokeOf 2 = .ok (.ifCond .ne 19, 3) := by decide +kernel
theorem dX4_strokeOf_5 : decode cX4_strokeOf 5 = .ok (.aload_n 0, 1) := by decide +kernel
theorem dX4_strokeOf_6 : decode cX4_strokeOf 6 = .ok (.iload_n 1, 1) := by decide +kernel
theorem dX4_strokeOf_7 : decode cX4_strokeOf 7 = .ok (.iload_n 2, 1) := by decide +kernel
theorem dX4_strokeOf_8 : decode cX4_strokeOf 8 = .ok (.iload_n 3, 1) := by decide +kernel
theorem dX4_strokeOf_9 : decode cX4_strokeOf 9 = .ok (.iload 4, 2) := by decide +kernel
theorem dX4_strokeOf_11 : decode cX4_strokeOf 11 = .ok (.iconst 1, 1) := by decide +kernel
theorem dX4_strokeOf_12 : decode cX4_strokeOf 12 = .ok (.isub, 1) := by decide +kernel
theorem dX4_strokeOf_13 : decode cX4_strokeOf 13 = .ok (.iload 5, 2) := by decide +kernel
theorem dX4_strokeOf_15 : decode cX4_strokeOf 15 = .ok (.invokevirtual 99, 3) := by decide +kernel
theorem dX4_strokeOf_18 : decode cX4_strokeOf 18 = .ok (.goto 16, 3) := by decide +kernel
theorem dX4_strokeOf_21 : decode cX4_strokeOf 21 = .ok (.aload_n 0, 1) := by decide +kernel
theorem dX4_strokeOf_22 : decode cX4_strokeOf 22 = .ok (.iload_n 1, 1) := by decide +kernel
theorem dX4_strokeOf_23 : decode cX4_strokeOf 23 = .ok (.iload_n 2, 1) := by decide +kernel
theorem dX4_strokeOf_24 : decode cX4_strokeOf 24 = .ok (.iload_n 3, 1) := by decide +kernel
theorem dX4_strokeOf_25 : decode cX4_strokeOf 25 = .ok (.iload 4, 2) := by decide +kernel
theorem dX4_strokeOf_27 : decode cX4_strokeOf 27 = .ok (.iload 5, 2) := by decide +kernel
theorem dX4_strokeOf_29 : decode cX4_strokeOf 29 = .ok (.iconst 1, 1) := by decide +kernel
theorem dX4_strokeOf_30 : decode cX4_strokeOf 30 = .ok (.isub, 1) := by decide +kernel
theorem dX4_strokeOf_31 : decode cX4_strokeOf 31 = .ok (.invokevirtual 99, 3) := by decide +kernel
theorem dX4_strokeOf_34 : decode cX4_strokeOf 34 = .ok (.istore 7, 2) := by decide +kernel
theorem dX4_strokeOf_36 : decode cX4_strokeOf 36 = .ok (.iload 7, 2) := by decide +kernel
theorem dX4_strokeOf_38 : decode cX4_strokeOf 38 = .ok (.aload_n 0, 1) := by decide +kernel
theorem dX4_strokeOf_39 : decode cX4_strokeOf 39 = .ok (.iload_n 1, 1) := by decide +kernel
theorem dX4_strokeOf_40 : decode cX4_strokeOf 40 = .ok (.iload_n 2, 1) := by decide +kernel
theorem dX4_strokeOf_41 : decode cX4_strokeOf 41 = .ok (.iload_n 3, 1) := by decide +kernel
theorem dX4_strokeOf_42 : decode cX4_strokeOf 42 = .ok (.iload 4, 2) := by decide +kernel
theorem dX4_strokeOf_44 : decode cX4_strokeOf 44 = .ok (.iload 5, 2) := by decide +kernel
theorem dX4_strokeOf_46 : decode cX4_strokeOf 46 = .ok (.invokevirtual 99, 3) := by decide +kernel
theorem dX4_strokeOf_49 : decode cX4_strokeOf 49 = .ok (.if_icmp .eq 5, 3) := by decide +kernel
theorem dX4_strokeOf_52 : decode cX4_strokeOf 52 = .ok (.iconst 2, 1) := by decide +kernel
theorem dX4_strokeOf_53 : decode cX4_strokeOf 53 = .ok (.ireturn, 1) := by decide +kernel
theorem dX4_strokeOf_54 : decode cX4_strokeOf 54 = .ok (.iconst 0, 1) := by decide +kernel
theorem dX4_strokeOf_55 : decode cX4_strokeOf 55 = .ok (.istore 8, 2) := by decide +kernel
theorem dX4_strokeOf_57 : decode cX4_strokeOf 57 = .ok (.iconst 0, 1) := by decide +kernel
theorem dX4_strokeOf_58 : decode cX4_strokeOf 58 = .ok (.istore 9, 2) := by decide +kernel
theorem dX4_strokeOf_60 : decode cX4_strokeOf 60 = .ok (.iload 9, 2) := by decide +kernel
theorem dX4_strokeOf_62 : decode cX4_strokeOf 62 = .ok (.bipush 12, 2) := by decide +kernel
theorem dX4_strokeOf_64 : decode cX4_strokeOf 64 = .ok (.if_icmp .gt 34, 3) := by decide +kernel
theorem dX4_strokeOf_67 : decode cX4_strokeOf 67 = .ok (.aload_n 0, 1) := by decide +kernel
theorem dX4_strokeOf_68 : decode cX4_strokeOf 68 = .ok (.iload_n 1, 1) := by decide +kernel
theorem dX4_strokeOf_69 : decode cX4_strokeOf 69 = .ok (.iload_n 2, 1) := by decide +kernel
theorem dX4_strokeOf_70 : decode cX4_strokeOf 70 = .ok (.iload 4, 2) := by decide +kernel
theorem dX4_strokeOf_72 : decode cX4_strokeOf 72 = .ok (.iload 5, 2) := by decide +kernel
theorem dX4_strokeOf_74 : decode cX4_strokeOf 74 = .ok (.iload 6, 2) := by decide +kernel
theorem dX4_strokeOf_76 : decode cX4_strokeOf 76 = .ok (.iload 9, 2) := by decide +kernel
theorem dX4_strokeOf_78 : decode cX4_strokeOf 78 = .ok (.invokevirtual 103, 3) := by decide +kernel
theorem dX4_strokeOf_81 : decode cX4_strokeOf 81 = .ok (.ifCond .eq 7, 3) := by decide +kernel
theorem dX4_strokeOf_84 : decode cX4_strokeOf 84 = .ok (.iconst 1, 1) := by decide +kernel
theorem dX4_strokeOf_85 : decode cX4_strokeOf 85 = .ok (.goto 5, 3) := by decide +kernel
theorem dX4_strokeOf_88 : decode cX4_strokeOf 88 = .ok (.iload 8, 2) := by decide +kernel
theorem dX4_strokeOf_90 : decode cX4_strokeOf 90 = .ok (.istore 8, 2) := by decide +kernel
theorem dX4_strokeOf_92 : decode cX4_strokeOf 92 = .ok (.iinc 9 1, 3) := by decide +kernel
theorem dX4_strokeOf_95 : decode cX4_strokeOf 95 = .ok (.goto (-35), 3) := by decide +kernel
theorem dX4_strokeOf_98 : decode cX4_strokeOf 98 = .ok (.iload 8, 2) := by decide +kernel
theorem dX4_strokeOf_100 : decode cX4_strokeOf 100 = .ok (.ireturn, 1) := by decide +kernel
theorem dX4_stroke_0 : decode cX4_stroke 0 = .ok (.iload_n 1, 1) := by decide +kernel
theorem dX4_stroke_1 : decode cX4_stroke 1 = .ok (.invokestatic 45, 3) := by decide +kernel
theorem dX4_stroke_4 : decode cX4_stroke 4 = .ok (.ifCond .eq 68, 3) := by decide +kernel
theorem dX4_stroke_7 : decode cX4_stroke 7 = .ok (.iload_n 2, 1) := by decide +kernel
theorem dX4_stroke_8 : decode cX4_stroke 8 = .ok (.invokestatic 59, 3) := by decide +kernel
theorem dX4_stroke_11 : decode cX4_stroke 11 = .ok (.ifCond .eq 61, 3) := by decide +kernel
theorem dX4_stroke_14 : decode cX4_stroke 14 = .ok (.iload 6, 2) := by decide +kernel
theorem dX4_stroke_16 : decode cX4_stroke 16 = .ok (.ifCond .ne 26, 3) := by decide +kernel
theorem dX4_stroke_19 : decode cX4_stroke 19 = .ok (.iload 4, 2) := by decide +kernel
theorem dX4_stroke_21 : decode cX4_stroke 21 = .ok (.bipush 13, 2) := by decide +kernel
theorem dX4_stroke_23 : decode cX4_stroke 23 = .ok (.invokestatic 22, 3) := by decide +kernel
theorem dX4_stroke_26 : decode cX4_stroke 26 = .ok (.ifCond .eq 46, 3) := by decide +kernel
theorem dX4_stroke_29 : decode cX4_stroke 29 = .ok (.iload 5, 2) := by decide +kernel
theorem dX4_stroke_31 : decode cX4_stroke 31 = .ok (.bipush 12, 2) := by decide +kernel
theorem dX4_stroke_33 : decode cX4_stroke 33 = .ok (.invokestatic 22, 3) := by decide +kernel
theorem dX4_stroke_36 : decode cX4_stroke 36 = .ok (.ifCond .eq 36, 3) := by decide +kernel
theorem dX4_stroke_39 : decode cX4_stroke 39 = .ok (.goto 29, 3) := by decide +kernel
theorem dX4_stroke_42 : decode cX4_stroke 42 = .ok (.iload 6, 2) := by decide +kernel
theorem dX4_stroke_44 : decode cX4_stroke 44 = .ok (.iconst 1, 1) := by decide +kernel
theorem dX4_stroke_45 : decode cX4_stroke 45 = .ok (.if_icmp .ne 27, 3) := by decide +kernel
theorem dX4_stroke_48 : decode cX4_stroke 48 = .ok (.iload 4, 2) := by decide +kernel
theorem dX4_stroke_50 : decode cX4_stroke 50 = .ok (.bipush 12, 2) := by decide +kernel
theorem dX4_stroke_52 : decode cX4_stroke 52 = .ok (.invokestatic 22, 3) := by decide +kernel
theorem dX4_stroke_55 : decode cX4_stroke 55 = .ok (.ifCond .eq 17, 3) := by decide +kernel
theorem dX4_stroke_58 : decode cX4_stroke 58 = .ok (.iload 5, 2) := by decide +kernel
theorem dX4_stroke_60 : decode cX4_stroke 60 = .ok (.bipush 13, 2) := by decide +kernel
theorem dX4_stroke_62 : decode cX4_stroke 62 = .ok (.invokestatic 22, 3) := by decide +kernel
theorem dX4_stroke_65 : decode cX4_stroke 65 = .ok (.ifCond .eq 7, 3) := by decide +kernel
theorem dX4_stroke_68 : decode cX4_stroke 68 = .ok (.iconst 1, 1) := by decide +kernel
theorem dX4_stroke_69 : decode cX4_stroke 69 = .ok (.goto 4, 3) := by decide +kernel
theorem dX4_stroke_72 : decode cX4_stroke 72 = .ok (.iconst 0, 1) := by decide +kernel
theorem dX4_stroke_73 : decode cX4_stroke 73 = .ok (.istore 7, 2) := by decide +kernel
theorem dX4_stroke_75 : decode cX4_stroke 75 = .ok (.iload 7, 2) := by decide +kernel
theorem dX4_stroke_77 : decode cX4_stroke 77 = .ok (.ifCond .eq 19, 3) := by decide +kernel
theorem dX4_stroke_80 : decode cX4_stroke 80 = .ok (.aload_n 0, 1) := by decide +kernel
theorem dX4_stroke_81 : decode cX4_stroke 81 = .ok (.iload_n 1, 1) := by decide +kernel
theorem dX4_stroke_82 : decode cX4_stroke 82 = .ok (.iload_n 2, 1) := by decide +kernel
theorem dX4_stroke_83 : decode cX4_stroke 83 = .ok (.iload_n 3, 1) := by decide +kernel
theorem dX4_stroke_84 : decode cX4_stroke 84 = .ok (.iload 4, 2) := by decide +kernel
theorem dX4_stroke_86 : decode cX4_stroke 86 = .ok (.iload 5, 2) := by decide +kernel
theorem dX4_stroke_88 : decode cX4_stroke 88 = .ok (.iload 6, 2) := by decide +kernel
theorem dX4_stroke_90 : decode cX4_stroke 90 = .ok (.invokevirtual 107, 3) := by decide +kernel
theorem dX4_stroke_93 : decode cX4_stroke 93 = .ok (.goto 4, 3) := by decide +kernel
theorem dX4_stroke_96 : decode cX4_stroke 96 = .ok (.iconst (-1), 1) := by decide +kernel
theorem dX4_stroke_97 : decode cX4_stroke 97 = .ok (.ireturn, 1) := by decide +kernel
theorem dX4_strokes_0 : decode cX4_strokes 0 = .ok (.iload_n 1, 1) := by decide +kernel
theorem dX4_strokes_1 : decode cX4_strokes 1 = .ok (.invokestatic 45, 3) := by decide +kernel
theorem dX4_strokes_4 : decode cX4_strokes 4 = .ok (.ifCond .eq 22, 3) := by decide +kernel
theorem dX4_strokes_7 : decode cX4_strokes 7 = .ok (.iload_n 2, 1) := by decide +kernel
theorem dX4_strokes_8 : decode cX4_strokes 8 = .ok (.invokestatic 59, 3) := by decide +kernel
theorem dX4_strokes_11 : decode cX4_strokes 11 = .ok (.ifCond .eq 15, 3) := by decide +kernel
theorem dX4_strokes_14 : decode cX4_strokes 14 = .ok (.iload 4, 2) := by decide +kernel
theorem dX4_strokes_16 : decode cX4_strokes 16 = .ok (.iconst 1, 1) := by decide +kernel
theorem dX4_strokes_17 : decode cX4_strokes 17 = .ok (.if_icmp .lt 9, 3) := by decide +kernel
theorem dX4_strokes_20 : decode cX4_strokes 20 = .ok (.iload 4, 2) := by decide +kernel
theorem dX4_strokes_22 : decode cX4_strokes 22 = .ok (.iconst 2, 1) := by decide +kernel
theorem dX4_strokes_23 : decode cX4_strokes 23 = .ok (.if_icmp .le 5, 3) := by decide +kernel
theorem dX4_strokes_26 : decode cX4_strokes 26 = .ok (.iconst (-1), 1) := by decide +kernel
theorem dX4_strokes_27 : decode cX4_strokes 27 = .ok (.ireturn, 1) := by decide +kernel
theorem dX4_strokes_28 : decode cX4_strokes 28 = .ok (.iconst 0, 1) := by decide +kernel
theorem dX4_strokes_29 : decode cX4_strokes 29 = .ok (.istore 5, 2) := by decide +kernel
theorem dX4_strokes_31 : decode cX4_strokes 31 = .ok (.iconst 0, 1) := by decide +kernel
theorem dX4_strokes_32 : decode cX4_strokes 32 = .ok (.istore 6, 2) := by decide +kernel
theorem dX4_strokes_34 : decode cX4_strokes 34 = .ok (.iload 6, 2) := by decide +kernel
theorem dX4_strokes_36 : decode cX4_strokes 36 = .ok (.bipush 13, 2) := by decide +kernel
theorem dX4_strokes_38 : decode cX4_strokes 38 = .ok (.if_icmp .ge 79, 3) := by decide +kernel
theorem dX4_strokes_41 : decode cX4_strokes 41 = .ok (.iconst 0, 1) := by decide +kernel
theorem dX4_strokes_42 : decode cX4_strokes 42 = .ok (.istore 7, 2) := by decide +kernel
theorem dX4_strokes_44 : decode cX4_strokes 44 = .ok (.iload 7, 2) := by decide +kernel
theorem dX4_strokes_46 : decode cX4_strokes 46 = .ok (.bipush 12, 2) := by decide +kernel
theorem dX4_strokes_48 : decode cX4_strokes 48 = .ok (.if_icmp .ge 63, 3) := by decide +kernel
theorem dX4_strokes_51 : decode cX4_strokes 51 = .ok (.iload 5, 2) := by decide +kernel
theorem dX4_strokes_53 : decode cX4_strokes 53 = .ok (.aload_n 0, 1) := by decide +kernel
theorem dX4_strokes_54 : decode cX4_strokes 54 = .ok (.iload_n 1, 1) := by decide +kernel
theorem dX4_strokes_55 : decode cX4_strokes 55 = .ok (.iload_n 2, 1) := by decide +kernel
theorem dX4_strokes_56 : decode cX4_strokes 56 = .ok (.iload_n 3, 1) := by decide +kernel
theorem dX4_strokes_57 : decode cX4_strokes 57 = .ok (.iload 6, 2) := by decide +kernel
theorem dX4_strokes_59 : decode cX4_strokes 59 = .ok (.iload 7, 2) := by decide +kernel
theorem dX4_strokes_61 : decode cX4_strokes 61 = .ok (.iconst 0, 1) := by decide +kernel
theorem dX4_strokes_62 : decode cX4_strokes 62 = .ok (.invokevirtual 107, 3) := by decide +kernel
theorem dX4_strokes_65 : decode cX4_strokes 65 = .ok (.iload 4, 2) := by decide +kernel
theorem dX4_strokes_67 : decode cX4_strokes 67 = .ok (.if_icmp .ne 7, 3) := by decide +kernel
theorem dX4_strokes_70 : decode cX4_strokes 70 = .ok (.iconst 1, 1) := by decide +kernel
theorem dX4_strokes_71 : decode cX4_strokes 71 = .ok (.goto 4, 3) := by decide +kernel
theorem dX4_strokes_74 : decode cX4_strokes 74 = .ok (.iconst 0, 1) := by decide +kernel
theorem dX4_strokes_75 : decode cX4_strokes 75 = .ok (.iadd, 1) := by decide +kernel
theorem dX4_strokes_76 : decode cX4_strokes 76 = .ok (.istore 5, 2) := by decide +kernel
theorem dX4_strokes_78 : decode cX4_strokes 78 = .ok (.iload 5, 2) := by decide +kernel
theorem dX4_strokes_80 : decode cX4_strokes 80 = .ok (.aload_n 0, 1) := by decide +kernel
theorem dX4_strokes_81 : decode cX4_strokes 81 = .ok (.iload_n 1, 1) := by decide +kernel
theorem dX4_strokes_82 : decode cX4_strokes 82 = .ok (.iload_n 2, 1) := by decide +kernel
theorem dX4_strokes_83 : decode cX4_strokes 83 = .ok (.iload_n 3, 1) := by decide +kernel
theorem dX4_strokes_84 : decode cX4_strokes 84 = .ok (.iload 7, 2) := by decide +kernel
theorem dX4_strokes_86 : decode cX4_strokes 86 = .ok (.iload 6, 2) := by decide +kernel
theorem dX4_strokes_88 : decode cX4_strokes 88 = .ok (.iconst 1, 1) := by decide +kernel
theorem dX4_strokes_89 : decode cX4_strokes 89 = .ok (.invokevirtual 107, 3) := by decide +kernel
theorem dX4_strokes_92 : decode cX4_strokes 92 = .ok (.iload 4, 2) := by decide +kernel
theorem dX4_strokes_94 : decode cX4_strokes 94 = .ok (.if_icmp .ne 7, 3) := by decide +kernel
theorem dX4_strokes_97 : decode cX4_strokes 97 = .ok (.iconst 1, 1) := by decide +kernel
theorem dX4_strokes_98 : decode cX4_strokes 98 = .ok (.goto 4, 3) := by decide +kernel
theorem dX4_strokes_101 : decode cX4_strokes 101 = .ok (.iconst 0, 1) := by decide +kernel
theorem dX4_strokes_102 : decode cX4_strokes 102 = .ok (.iadd, 1) := by decide +kernel
theorem dX4_strokes_103 : decode cX4_strokes 103 = .ok (.istore 5, 2) := by decide +kernel
theorem dX4_strokes_105 : decode cX4_strokes 105 = .ok (.iinc 7 1, 3) := by decide +kernel
theorem dX4_strokes_108 : decode cX4_strokes 108 = .ok (.goto (-64), 3) := by decide +kernel
theorem dX4_strokes_111 : decode cX4_strokes 111 = .ok (.iinc 6 1, 3) := by decide +kernel
theorem dX4_strokes_114 : decode cX4_strokes 114 = .ok (.goto (-80), 3) := by decide +kernel
theorem dX4_strokes_117 : decode cX4_strokes 117 = .ok (.iload 5, 2) := by decide +kernel
theorem dX4_strokes_119 : decode cX4_strokes 119 = .ok (.ireturn, 1) := by decide +kernel
