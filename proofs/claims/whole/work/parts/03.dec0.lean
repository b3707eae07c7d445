theorem dX0_init_0 : decode cX0_init 0 = .ok (.aload_n 0, 1) := by decide +kernel
theorem dX0_init_1 : decode cX0_init 1 = .ok (.invokespecial 3, 3) := by decide +kernel
theorem dX0_init_4 : decode cX0_init 4 = .ok (.aload_n 0, 1) := by decide +kernel
theorem dX0_init_5 : decode cX0_init 5 = .ok (.iload_n 1, 1) := by decide +kernel
theorem dX0_init_6 : decode cX0_init 6 = .ok (.putfield 9, 3) := by decide +kernel
theorem dX0_init_9 : decode cX0_init 9 = .ok (.aload_n 0, 1) := by decide +kernel
theorem dX0_init_10 : decode cX0_init 10 = .ok (.iload_n 2, 1) := by decide +kernel
theorem dX0_init_11 : decode cX0_init 11 = .ok (.putfield 15, 3) := by decide +kernel
theorem dX0_init_14 : decode cX0_init 14 = .ok (.aload_n 0, 1) := by decide +kernel
theorem dX0_init_15 : decode cX0_init 15 = .ok (.iload_n 3, 1) := by decide +kernel
theorem dX0_init_16 : decode cX0_init 16 = .ok (.putfield 18, 3) := by decide +kernel
theorem dX0_init_19 : decode cX0_init 19 = .ok (.aload_n 0, 1) := by decide +kernel
theorem dX0_init_20 : decode cX0_init 20 = .ok (.iload 4, 2) := by decide +kernel
theorem dX0_init_22 : decode cX0_init 22 = .ok (.putfield 21, 3) := by decide +kernel
theorem dX0_init_25 : decode cX0_init 25 = .ok (.aload_n 0, 1) := by decide +kernel
theorem dX0_init_26 : decode cX0_init 26 = .ok (.iload 5, 2) := by decide +kernel
theorem dX0_init_28 : decode cX0_init 28 = .ok (.putfield 24, 3) := by decide +kernel
theorem dX0_init_31 : decode cX0_init 31 = .ok (.aload_n 0, 1) := by decide +kernel
theorem dX0_init_32 : decode cX0_init 32 = .ok (.iload 6, 2) := by decide +kernel
theorem dX0_init_34 : decode cX0_init 34 = .ok (.putfield 27, 3) := by decide +kernel
theorem dX0_init_37 : decode cX0_init 37 = .ok (.aload_n 0, 1) := by decide +kernel
theorem dX0_init_38 : decode cX0_init 38 = .ok (.aload 7, 2) := by decide +kernel
theorem dX0_init_40 : decode cX0_init 40 = .ok (.putfield 30, 3) := by decide +kernel
theorem dX0_init_43 : decode cX0_init 43 = .ok (.return_, 1) := by decide +kernel
theorem dX0_kind_0 : decode cX0_kind 0 = .ok (.aload_n 0, 1) := by decide +kernel
theorem dX0_kind_1 : decode cX0_kind 1 = .ok (.getfield 9, 3) := by decide +kernel
theorem dX0_kind_4 : decode cX0_kind 4 = .ok (.tableswitch 56 2 9 #[48, 48, 50, 52, 48, 56, 54, 54], 48) := by decide +kernel
theorem dX0_kind_52 : decode cX0_kind 52 = .ok (.iconst 0, 1) := by decide +kernel
theorem dX0_kind_53 : decode cX0_kind 53 = .ok (.ireturn, 1) := by decide +kernel
theorem dX0_kind_54 : decode cX0_kind 54 = .ok (.iconst 1, 1) := by decide +kernel
theorem dX0_kind_55 : decode cX0_kind 55 = .ok (.ireturn, 1) := by decide +kernel
theorem dX0_kind_56 : decode cX0_kind 56 = .ok (.iconst 2, 1) := by decide +kernel
theorem dX0_kind_57 : decode cX0_kind 57 = .ok (.ireturn, 1) := by decide +kernel
theorem dX0_kind_58 : decode cX0_kind 58 = .ok (.iconst 3, 1) := by decide +kernel
theorem dX0_kind_59 : decode cX0_kind 59 = .ok (.ireturn, 1) := by decide +kernel
theorem dX0_kind_60 : decode cX0_kind 60 = .ok (.bipush (-2), 2) := by decide +kernel
theorem dX0_kind_62 : decode cX0_kind 62 = .ok (.ireturn, 1) := by decide +kernel
theorem dX0_operands_0 : decode cX0_operands 0 = .ok (.aload_n 0, 1) := by decide +kernel
theorem dX0_operands_1 : decode cX0_operands 1 = .ok (.getfield 21, 3) := by decide +kernel
theorem dX0_operands_4 : decode cX0_operands 4 = .ok (.bipush (-2), 2) := by decide +kernel
theorem dX0_operands_6 : decode cX0_operands 6 = .ok (.if_icmp .ne 7, 3) := by decide +kernel
theorem dX0_operands_9 : decode cX0_operands 9 = .ok (.iconst 0, 1) := by decide +kernel
theorem dX0_operands_10 : decode cX0_operands 10 = .ok (.goto 4, 3) := by decide +kernel
theorem dX0_operands_13 : decode cX0_operands 13 = .ok (.iconst 1, 1) := by decide +kernel
theorem dX0_operands_14 : decode cX0_operands 14 = .ok (.aload_n 0, 1) := by decide +kernel
theorem dX0_operands_15 : decode cX0_operands 15 = .ok (.getfield 24, 3) := by decide +kernel
theorem dX0_operands_18 : decode cX0_operands 18 = .ok (.bipush (-2), 2) := by decide +kernel
theorem dX0_operands_20 : decode cX0_operands 20 = .ok (.if_icmp .ne 7, 3) := by decide +kernel
theorem dX0_operands_23 : decode cX0_operands 23 = .ok (.iconst 0, 1) := by decide +kernel
theorem dX0_operands_24 : decode cX0_operands 24 = .ok (.goto 4, 3) := by decide +kernel
theorem dX0_operands_27 : decode cX0_operands 27 = .ok (.iconst 1, 1) := by decide +kernel
theorem dX0_operands_28 : decode cX0_operands 28 = .ok (.iadd, 1) := by decide +kernel
theorem dX0_operands_29 : decode cX0_operands 29 = .ok (.aload_n 0, 1) := by decide +kernel
theorem dX0_operands_30 : decode cX0_operands 30 = .ok (.getfield 27, 3) := by decide +kernel
theorem dX0_operands_33 : decode cX0_operands 33 = .ok (.bipush (-2), 2) := by decide +kernel
theorem dX0_operands_35 : decode cX0_operands 35 = .ok (.if_icmp .ne 7, 3) := by decide +kernel
theorem dX0_operands_38 : decode cX0_operands 38 = .ok (.iconst 0, 1) := by decide +kernel
theorem dX0_operands_39 : decode cX0_operands 39 = .ok (.goto 4, 3) := by decide +kernel
theorem dX0_operands_42 : decode cX0_operands 42 = .ok (.iconst 1, 1) := by decide +kernel
theorem dX0_operands_43 : decode cX0_operands 43 = .ok (.iadd, 1) := by decide +kernel
theorem dX0_operands_44 : decode cX0_operands 44 = .ok (.ireturn, 1) := by decide +kernel
theorem dX0_takes_0 : decode cX0_takes 0 = .ok (.aload_n 0, 1) := by decide +kernel
theorem dX0_takes_1 : decode cX0_takes 1 = .ok (.getfield 21, 3) := by decide +kernel
theorem dX0_takes_4 : decode cX0_takes 4 = .ok (.iload_n 1, 1) := by decide +kernel
theorem dX0_takes_5 : decode cX0_takes 5 = .ok (.if_icmp .eq 19, 3) := by decide +kernel
theorem dX0_takes_8 : decode cX0_takes 8 = .ok (.aload_n 0, 1) := by decide +kernel
theorem dX0_takes_9 : decode cX0_takes 9 = .ok (.getfield 24, 3) := by decide +kernel
theorem dX0_takes_12 : decode cX0_takes 12 = .ok (.iload_n 1, 1) := by decide +kernel
theorem dX0_takes_13 : decode cX0_takes 13 = .ok (.if_icmp .eq 11, 3) := by decide +kernel
theorem dX0_takes_16 : decode cX0_takes 16 = .ok (.aload_n 0, 1) := by decide +kernel
theorem dX0_takes_17 : decode cX0_takes 17 = .ok (.getfield 27, 3) := by decide +kernel
theorem dX0_takes_20 : decode cX0_takes 20 = .ok (.iload_n 1, 1) := by decide +kernel
theorem dX0_takes_21 : decode cX0_takes 21 = .ok (.if_icmp .ne 7, 3) := by decide +kernel
theorem dX0_takes_24 : decode cX0_takes 24 = .ok (.iconst 1, 1) := by decide +kernel
theorem dX0_takes_25 : decode cX0_takes 25 = .ok (.goto 4, 3) := by decide +kernel
theorem dX0_takes_28 : decode cX0_takes 28 = .ok (.iconst 0, 1) := by decide +kernel
theorem dX0_takes_29 : decode cX0_takes 29 = .ok (.ireturn, 1) := by decide +kernel
theorem dX0_canFail_0 : decode cX0_canFail 0 = .ok (.aload_n 0, 1) := by decide +kernel
theorem dX0_canFail_1 : decode cX0_canFail 1 = .ok (.invokevirtual 34, 3) := by decide +kernel
theorem dX0_canFail_4 : decode cX0_canFail 4 = .ok (.ifCond .eq 7, 3) := by decide +kernel
theorem dX0_canFail_7 : decode cX0_canFail 7 = .ok (.iconst 1, 1) := by decide +kernel
theorem dX0_canFail_8 : decode cX0_canFail 8 = .ok (.goto 4, 3) := by decide +kernel
theorem dX0_canFail_11 : decode cX0_canFail 11 = .ok (.iconst 0, 1) := by decide +kernel
theorem dX0_canFail_12 : decode cX0_canFail 12 = .ok (.ireturn, 1) := by decide +kernel
theorem dX0_changesOutside_0 : decode cX0_changesOutside 0 = .ok (.aload_n 0, 1) := by decide +kernel
theorem dX0_changesOutside_1 : decode cX0_changesOutside 1 = .ok (.getfield 9, 3) := by decide +kernel
theorem dX0_changesOutside_4 : decode cX0_changesOutside 4 = .ok (.iconst 1, 1) := by decide +kernel
theorem dX0_changesOutside_5 : decode cX0_changesOutside 5 = .ok (.if_icmp .eq 21, 3) := by decide +kernel
theorem dX0_changesOutside_8 : decode cX0_changesOutside 8 = .ok (.aload_n 0, 1) := by decide +kernel
theorem dX0_changesOutside_9 : decode cX0_changesOutside 9 = .ok (.getfield 9, 3) := by decide +kernel
theorem dX0_changesOutside_12 : decode cX0_changesOutside 12 = .ok (.bipush 9, 2) := by decide +kernel
theorem dX0_changesOutside_14 : decode cX0_changesOutside 14 = .ok (.if_icmp .eq 12, 3) := by decide +kernel
theorem dX0_changesOutside_17 : decode cX0_changesOutside 17 = .ok (.aload_n 0, 1) := by decide +kernel
theorem dX0_changesOutside_18 : decode cX0_changesOutside 18 = .ok (.getfield 9, 3) := by decide +kernel
theorem dX0_changesOutside_21 : decode cX0_changesOutside 21 = .ok (.bipush 10, 2) := by decide +kernel
theorem dX0_changesOutside_23 : decode cX0_changesOutside 23 = .ok (.if_icmp .ne 7, 3) := by decide +kernel
theorem dX0_changesOutside_26 : decode cX0_changesOutside 26 = .ok (.iconst 1, 1) := by decide +kernel
theorem dX0_changesOutside_27 : decode cX0_changesOutside 27 = .ok (.goto 4, 3) := by decide +kernel
theorem dX0_changesOutside_30 : decode cX0_changesOutside 30 = .ok (.iconst 0, 1) := by decide +kernel
theorem dX0_changesOutside_31 : decode cX0_changesOutside 31 = .ok (.ireturn, 1) := by decide +kernel
theorem dX0_failure_0 : decode cX0_failure 0 = .ok (.aload_n 0, 1) := by decide +kernel
theorem dX0_failure_1 : decode cX0_failure 1 = .ok (.getfield 9, 3) := by decide +kernel
theorem dX0_failure_4 : decode cX0_failure 4 = .ok (.tableswitch 58 1 9 #[56, 58, 58, 58, 52, 58, 58, 54, 54], 52) := by decide +kernel
theorem dX0_failure_56 : decode cX0_failure 56 = .ok (.iconst 1, 1) := by decide +kernel
theorem dX0_failure_57 : decode cX0_failure 57 = .ok (.ireturn, 1) := by decide +kernel
theorem dX0_failure_58 : decode cX0_failure 58 = .ok (.iconst 2, 1) := by decide +kernel
theorem dX0_failure_59 : decode cX0_failure 59 = .ok (.ireturn, 1) := by decide +kernel
theorem dX0_failure_60 : decode cX0_failure 60 = .ok (.iconst 3, 1) := by decide +kernel
theorem dX0_failure_61 : decode cX0_failure 61 = .ok (.ireturn, 1) := by decide +kernel
theorem dX0_failure_62 : decode cX0_failure 62 = .ok (.iconst 0, 1) := by decide +kernel
theorem dX0_failure_63 : decode cX0_failure 63 = .ok (.ireturn, 1) := by decide +kernel
theorem dX0_fail_0 : decode cX0_fail 0 = .ok (.aload_n 0, 1) := by decide +kernel
theorem dX0_fail_1 : decode cX0_fail 1 = .ok (.invokevirtual 34, 3) := by decide +kernel
theorem dX0_fail_4 : decode cX0_fail 4 = .ok (.tableswitch 58 1 3 #[28, 38, 48], 28) := by decide +kernel
theorem dX0_fail_32 : decode cX0_fail 32 = .ok (.new 38, 3) := by decide +kernel
theorem dX0_fail_35 : decode cX0_fail 35 = .ok (.dup, 1) := by decide +kernel
theorem dX0_fail_36 : decode cX0_fail 36 = .ok (.ldc 40, 2) := by decide +kernel
theorem dX0_fail_38 : decode cX0_fail 38 = .ok (.invokespecial 42, 3) := by decide +kernel
theorem dX0_fail_41 : decode cX0_fail 41 = .ok (.athrow, 1) := by decide +kernel
theorem dX0_fail_42 : decode cX0_fail 42 = .ok (.new 45, 3) := by decide +kernel
theorem dX0_fail_45 : decode cX0_fail 45 = .ok (.dup, 1) := by decide +kernel
theorem dX0_fail_46 : decode cX0_fail 46 = .ok (.ldc 47, 2) := by decide +kernel
theorem dX0_fail_48 : decode cX0_fail 48 = .ok (.invokespecial 49, 3) := by decide +kernel
theorem dX0_fail_51 : decode cX0_fail 51 = .ok (.athrow, 1) := by decide +kernel
theorem dX0_fail_52 : decode cX0_fail 52 = .ok (.new 50, 3) := by decide +kernel
theorem dX0_fail_55 : decode cX0_fail 55 = .ok (.dup, 1) := by decide +kernel
theorem dX0_fail_56 : decode cX0_fail 56 = .ok (.ldc 52, 2) := by decide +kernel
theorem dX0_fail_58 : decode cX0_fail 58 = .ok (.invokespecial 54, 3) := by decide +kernel
theorem dX0_fail_61 : decode cX0_fail 61 = .ok (.athrow, 1) := by decide +kernel
theorem dX0_fail_62 : decode cX0_fail 62 = .ok (.return_, 1) := by decide +kernel
theorem dX0_heft_0 : decode cX0_heft 0 = .ok (.aload_n 0, 1) := by decide +kernel
theorem dX0_heft_1 : decode cX0_heft 1 = .ok (.getfield 15, 3) := by decide +kernel
theorem dX0_heft_4 : decode cX0_heft 4 = .ok (.bipush 10, 2) := by decide +kernel
theorem dX0_heft_6 : decode cX0_heft 6 = .ok (.aload_n 0, 1) := by decide +kernel
theorem dX0_heft_7 : decode cX0_heft 7 = .ok (.invokevirtual 55, 3) := by decide +kernel
theorem dX0_heft_10 : decode cX0_heft 10 = .ok (.imul, 1) := by decide +kernel
theorem dX0_heft_11 : decode cX0_heft 11 = .ok (.iadd, 1) := by decide +kernel
theorem dX0_heft_12 : decode cX0_heft 12 = .ok (.istore_n 1, 1) := by decide +kernel
theorem dX0_heft_13 : decode cX0_heft 13 = .ok (.aload_n 0, 1) := by decide +kernel
theorem dX0_heft_14 : decode cX0_heft 14 = .ok (.getfield 9, 3) := by decide +kernel
theorem dX0_heft_17 : decode cX0_heft 17 = .ok (.tableswitch 81 1 10 #[72, 81, 81, 55, 60, 81, 81, 67, 67, 72], 55) := by decide +kernel
theorem dX0_heft_72 : decode cX0_heft 72 = .ok (.iload_n 1, 1) := by decide +kernel
theorem dX0_heft_73 : decode cX0_heft 73 = .ok (.bipush 100, 2) := by decide +kernel
theorem dX0_heft_75 : decode cX0_heft 75 = .ok (.iadd, 1) := by decide +kernel
theorem dX0_heft_76 : decode cX0_heft 76 = .ok (.ireturn, 1) := by decide +kernel
theorem dX0_heft_77 : decode cX0_heft 77 = .ok (.iconst 2, 1) := by decide +kernel
theorem dX0_heft_78 : decode cX0_heft 78 = .ok (.iload_n 1, 1) := by decide +kernel
theorem dX0_heft_79 : decode cX0_heft 79 = .ok (.bipush 100, 2) := by decide +kernel
theorem dX0_heft_81 : decode cX0_heft 81 = .ok (.iadd, 1) := by decide +kernel
theorem dX0_heft_82 : decode cX0_heft 82 = .ok (.imul, 1) := by decide +kernel
theorem dX0_heft_83 : decode cX0_heft 83 = .ok (.ireturn, 1) := by decide +kernel
theorem dX0_heft_84 : decode cX0_heft 84 = .ok (.iload_n 1, 1) := by decide +kernel
theorem dX0_heft_85 : decode cX0_heft 85 = .ok (.bipush 7, 2) := by decide +kernel
theorem dX0_heft_87 : decode cX0_heft 87 = .ok (.iadd, 1) := by decide +kernel
theorem dX0_heft_88 : decode cX0_heft 88 = .ok (.ireturn, 1) := by decide +kernel
theorem dX0_heft_89 : decode cX0_heft 89 = .ok (.iload_n 1, 1) := by decide +kernel
theorem dX0_heft_90 : decode cX0_heft 90 = .ok (.bipush 7, 2) := by decide +kernel
theorem dX0_heft_92 : decode cX0_heft 92 = .ok (.iadd, 1) := by decide +kernel
theorem dX0_heft_93 : decode cX0_heft 93 = .ok (.sipush 1000, 3) := by decide +kernel
theorem dX0_heft_96 : decode cX0_heft 96 = .ok (.iadd, 1) := by decide +kernel
theorem dX0_heft_97 : decode cX0_heft 97 = .ok (.ireturn, 1) := by decide +kernel
theorem dX0_heft_98 : decode cX0_heft 98 = .ok (.iload_n 1, 1) := by decide +kernel
theorem dX0_heft_99 : decode cX0_heft 99 = .ok (.ireturn, 1) := by decide +kernel
theorem dX1_init_0 : decode cX1_init 0 = .ok (.aload_n 0, 1) := by decide +kernel
theorem dX1_init_1 : decode cX1_init 1 = .ok (.invokespecial 3, 3) := by decide +kernel
theorem dX1_init_4 : decode cX1_init 4 = .ok (.aload_n 0, 1) := by decide +kernel
theorem dX1_init_5 : decode cX1_init 5 = .ok (.bipush 16, 2) := by decide +kernel
theorem dX1_init_7 : decode cX1_init 7 = .ok (.anewarray 9, 3) := by decide +kernel
theorem dX1_init_10 : decode cX1_init 10 = .ok (.putfield 11, 3) := by decide +kernel
theorem dX1_init_13 : decode cX1_init 13 = .ok (.aload_n 0, 1) := by decide +kernel
theorem dX1_init_14 : decode cX1_init 14 = .ok (.iconst 0, 1) := by decide +kernel
theorem dX1_init_15 : decode cX1_init 15 = .ok (.putfield 17, 3) := by decide +kernel
theorem dX1_init_18 : decode cX1_init 18 = .ok (.return_, 1) := by decide +kernel
theorem dX1_size_0 : decode cX1_size 0 = .ok (.aload_n 0, 1) := by decide +kernel
theorem dX1_size_1 : decode cX1_size 1 = .ok (.getfield 17, 3) := by decide +kernel
theorem dX1_size_4 : decode cX1_size 4 = .ok (.ireturn, 1) := by decide +kernel
theorem dX1_isFull_0 : decode cX1_isFull 0 = .ok (.aload_n 0, 1) := by decide +kernel
theorem dX1_isFull_1 : decode cX1_isFull 1 = .ok (.getfield 17, 3) := by decide +kernel
theorem dX1_isFull_4 : decode cX1_isFull 4 = .ok (.bipush 16, 2) := by decide +kernel
theorem dX1_isFull_6 : decode cX1_isFull 6 = .ok (.if_icmp .ne 7, 3) := by decide +kernel
theorem dX1_isFull_9 : decode cX1_isFull 9 = .ok (.iconst 1, 1) := by decide +kernel
theorem dX1_isFull_10 : decode cX1_isFull 10 = .ok (.goto 4, 3) := by decide +kernel
theorem dX1_isFull_13 : decode cX1_isFull 13 = .ok (.iconst 0, 1) := by decide +kernel
theorem dX1_isFull_14 : decode cX1_isFull 14 = .ok (.ireturn, 1) := by decide +kernel
theorem dX1_has_0 : decode cX1_has 0 = .ok (.iload_n 1, 1) := by decide +kernel
theorem dX1_has_1 : decode cX1_has 1 = .ok (.ifCond .lt 15, 3) := by decide +kernel
theorem dX1_has_4 : decode cX1_has 4 = .ok (.iload_n 1, 1) := by decide +kernel
theorem dX1_has_5 : decode cX1_has 5 = .ok (.aload_n 0, 1) := by decide +kernel
theorem dX1_has_6 : decode cX1_has 6 = .ok (.getfield 17, 3) := by decide +kernel
theorem dX1_has_9 : decode cX1_has 9 = .ok (.if_icmp .ge 7, 3) := by decide +kernel
theorem dX1_has_12 : decode cX1_has 12 = .ok (.iconst 1, 1) := by decide +kernel
theorem dX1_has_13 : decode cX1_has 13 = .ok (.goto 4, 3) := by decide +kernel
theorem dX1_has_16 : decode cX1_has 16 = .ok (.iconst 0, 1) := by decide +kernel
theorem dX1_has_17 : decode cX1_has 17 = .ok (.ireturn, 1) := by decide +kernel
theorem dX1_get_0 : decode cX1_get 0 = .ok (.aload_n 0, 1) := by decide +kernel
theorem dX1_get_1 : decode cX1_get 1 = .ok (.getfield 11, 3) := by decide +kernel
theorem dX1_get_4 : decode cX1_get 4 = .ok (.iload_n 1, 1) := by decide +kernel
theorem dX1_get_5 : decode cX1_get 5 = .ok (.aaload, 1) := by decide +kernel
theorem dX1_get_6 : decode cX1_get 6 = .ok (.areturn, 1) := by decide +kernel
theorem dX1_add_0 : decode cX1_add 0 = .ok (.aload_n 0, 1) := by decide +kernel
theorem dX1_add_1 : decode cX1_add 1 = .ok (.getfield 11, 3) := by decide +kernel
theorem dX1_add_4 : decode cX1_add 4 = .ok (.aload_n 0, 1) := by decide +kernel
theorem dX1_add_5 : decode cX1_add 5 = .ok (.getfield 17, 3) := by decide +kernel
theorem dX1_add_8 : decode cX1_add 8 = .ok (.aload_n 1, 1) := by decide +kernel
theorem dX1_add_9 : decode cX1_add 9 = .ok (.aastore, 1) := by decide +kernel
theorem dX1_add_10 : decode cX1_add 10 = .ok (.aload_n 0, 1) := by decide +kernel
theorem dX1_add_11 : decode cX1_add 11 = .ok (.dup, 1) := by decide +kernel
theorem dX1_add_12 : decode cX1_add 12 = .ok (.getfield 17, 3) := by decide +kernel
theorem dX1_add_15 : decode cX1_add 15 = .ok (.iconst 1, 1) := by decide +kernel
theorem dX1_add_16 : decode cX1_add 16 = .ok (.iadd, 1) := by decide +kernel
theorem dX1_add_17 : decode cX1_add 17 = .ok (.putfield 17, 3) := by decide +kernel
theorem dX1_add_20 : decode cX1_add 20 = .ok (.return_, 1) := by decide +kernel
theorem dX1_removeLast_0 : decode cX1_removeLast 0 = .ok (.aload_n 0, 1) := by decide +kernel
theorem dX1_removeLast_1 : decode cX1_removeLast 1 = .ok (.dup, 1) := by decide +kernel
theorem dX1_removeLast_2 : decode cX1_removeLast 2 = .ok (.getfield 17, 3) := by decide +kernel
theorem dX1_removeLast_5 : decode cX1_removeLast 5 = .ok (.iconst 1, 1) := by decide +kernel
theorem dX1_removeLast_6 : decode cX1_removeLast 6 = .ok (.isub, 1) := by decide +kernel
theorem dX1_removeLast_7 : decode cX1_removeLast 7 = .ok (.putfield 17, 3) := by decide +kernel
theorem dX1_removeLast_10 : decode cX1_removeLast 10 = .ok (.return_, 1) := by decide +kernel
theorem dX1_operands_0 : decode cX1_operands 0 = .ok (.iconst 0, 1) := by decide +kernel
theorem dX1_operands_1 : decode cX1_operands 1 = .ok (.istore_n 1, 1) := by decide +kernel
theorem dX1_operands_2 : decode cX1_operands 2 = .ok (.iconst 0, 1) := by decide +kernel
theorem dX1_operands_3 : decode cX1_operands 3 = .ok (.istore_n 2, 1) := by decide +kernel
theorem dX1_operands_4 : decode cX1_operands 4 = .ok (.iload_n 2, 1) := by decide +kernel
theorem dX1_operands_5 : decode cX1_operands 5 = .ok (.aload_n 0, 1) := by decide +kernel
theorem dX1_operands_6 : decode cX1_operands 6 = .ok (.getfield 17, 3) := by decide +kernel
theorem dX1_operands_9 : decode cX1_operands 9 = .ok (.if_icmp .ge 21, 3) := by decide +kernel
theorem dX1_operands_12 : decode cX1_operands 12 = .ok (.iload_n 1, 1) := by decide +kernel
theorem dX1_operands_13 : decode cX1_operands 13 = .ok (.aload_n 0, 1) := by decide +kernel
theorem dX1_operands_14 : decode cX1_operands 14 = .ok (.getfield 11, 3) := by decide +kernel
theorem dX1_operands_17 : decode cX1_operands 17 = .ok (.iload_n 2, 1) := by decide +kernel
theorem dX1_operands_18 : decode cX1_operands 18 = .ok (.aaload, 1) := by decide +kernel
theorem dX1_operands_19 : decode cX1_operands 19 = .ok (.invokevirtual 21, 3) := by decide +kernel
theorem dX1_operands_22 : decode cX1_operands 22 = .ok (.iadd, 1) := by decide +kernel
theorem dX1_operands_23 : decode cX1_operands 23 = .ok (.istore_n 1, 1) := by decide +kernel
theorem dX1_operands_24 : decode cX1_operands 24 = .ok (.iinc 2 1, 3) := by decide +kernel
theorem dX1_operands_27 : decode cX1_operands 27 = .ok (.goto (-23), 3) := by decide +kernel
theorem dX1_operands_30 : decode cX1_operands 30 = .ok (.iload_n 1, 1) := by decide +kernel
theorem dX1_operands_31 : decode cX1_operands 31 = .ok (.ireturn, 1) := by decide +kernel
theorem dX2_init_0 : decode cX2_init 0 = .ok (.aload_n 0, 1) := by decide +kernel
theorem dX2_init_1 : decode cX2_init 1 = .ok (.invokespecial 1, 3) := by decide +kernel
theorem dX2_init_4 : decode cX2_init 4 = .ok (.return_, 1) := by decide +kernel
theorem dX3_init_0 : decode cX3_init 0 = .ok (.aload_n 0, 1) := by decide +kernel
theorem dX3_init_1 : decode cX3_init 1 = .ok (.invokespecial 3, 3) := by decide +kernel
theorem dX3_init_4 : decode cX3_init 4 = .ok (.aload_n 0, 1) := by decide +kernel
theorem dX3_init_5 : decode cX3_init 5 = .ok (.iconst 4, 1) := by decide +kernel
theorem dX3_init_6 : decode cX3_init 6 = .ok (.anewarray 9, 3) := by decide +kernel
theorem dX3_init_9 : decode cX3_init 9 = .ok (.putfield 11, 3) := by decide +kernel
theorem dX3_init_12 : decode cX3_init 12 = .ok (.aload_n 0, 1) := by decide +kernel
theorem dX3_init_13 : decode cX3_init 13 = .ok (.iconst 4, 1) := by decide +kernel
theorem dX3_init_14 : decode cX3_init 14 = .ok (.anewarray 9, 3) := by decide +kernel
theorem dX3_init_17 : decode cX3_init 17 = .ok (.putfield 17, 3) := by decide +kernel
theorem dX3_init_20 : decode cX3_init 20 = .ok (.aload_n 0, 1) := by decide +kernel
theorem dX3_init_21 : decode cX3_init 21 = .ok (.bipush 16, 2) := by decide +kernel
theorem dX3_init_23 : decode cX3_init 23 = .ok (.newarray .long, 2) := by decide +kernel
theorem dX3_init_25 : decode cX3_init 25 = .ok (.putfield 20, 3) := by decide +kernel
theorem dX3_init_28 : decode cX3_init 28 = .ok (.aload_n 0, 1) := by decide +kernel
theorem dX3_init_29 : decode cX3_init 29 = .ok (.bipush 16, 2) := by decide +kernel
theorem dX3_init_31 : decode cX3_init 31 = .ok (.newarray .long, 2) := by decide +kernel
theorem dX3_init_33 : decode cX3_init 33 = .ok (.putfield 24, 3) := by decide +kernel
theorem dX3_init_36 : decode cX3_init 36 = .ok (.aload_n 0, 1) := by decide +kernel
theorem dX3_init_37 : decode cX3_init 37 = .ok (.iconst 4, 1) := by decide +kernel
theorem dX3_init_38 : decode cX3_init 38 = .ok (.newarray .int, 2) := by decide +kernel
theorem dX3_init_40 : decode cX3_init 40 = .ok (.putfield 27, 3) := by decide +kernel
theorem dX3_init_43 : decode cX3_init 43 = .ok (.aload_n 0, 1) := by decide +kernel
theorem dX3_init_44 : decode cX3_init 44 = .ok (.bipush 16, 2) := by decide +kernel
theorem dX3_init_46 : decode cX3_init 46 = .ok (.newarray .int, 2) := by decide +kernel
theorem dX3_init_48 : decode cX3_init 48 = .ok (.putfield 31, 3) := by decide +kernel
theorem dX3_init_51 : decode cX3_init 51 = .ok (.aload_n 0, 1) := by decide +kernel
theorem dX3_init_52 : decode cX3_init 52 = .ok (.bipush 16, 2) := by decide +kernel
theorem dX3_init_54 : decode cX3_init 54 = .ok (.newarray .long, 2) := by decide +kernel
theorem dX3_init_56 : decode cX3_init 56 = .ok (.putfield 34, 3) := by decide +kernel
theorem dX3_init_59 : decode cX3_init 59 = .ok (.aload_n 0, 1) := by decide +kernel
theorem dX3_init_60 : decode cX3_init 60 = .ok (.iconst 0, 1) := by decide +kernel
theorem dX3_init_61 : decode cX3_init 61 = .ok (.putfield 37, 3) := by decide +kernel
theorem dX3_init_64 : decode cX3_init 64 = .ok (.aload_n 0, 1) := by decide +kernel
theorem dX3_init_65 : decode cX3_init 65 = .ok (.bipush (-2), 2) := by decide +kernel
theorem dX3_init_67 : decode cX3_init 67 = .ok (.putfield 41, 3) := by decide +kernel
theorem dX3_init_70 : decode cX3_init 70 = .ok (.aload_n 0, 1) := by decide +kernel
theorem dX3_init_71 : decode cX3_init 71 = .ok (.iconst 0, 1) := by decide +kernel
theorem dX3_init_72 : decode cX3_init 72 = .ok (.putfield 44, 3) := by decide +kernel
theorem dX3_init_75 : decode cX3_init 75 = .ok (.aload_n 0, 1) := by decide +kernel
theorem dX3_init_76 : decode cX3_init 76 = .ok (.iconst 0, 1) := by decide +kernel
theorem dX3_init_77 : decode cX3_init 77 = .ok (.putfield 47, 3) := by decide +kernel
theorem dX3_init_80 : decode cX3_init 80 = .ok (.aload_n 0, 1) := by decide +kernel
theorem dX3_init_81 : decode cX3_init 81 = .ok (.aload_n 1, 1) := by decide +kernel
theorem dX3_init_82 : decode cX3_init 82 = .ok (.putfield 50, 3) := by decide +kernel
theorem dX3_init_85 : decode cX3_init 85 = .ok (.iconst 0, 1) := by decide +kernel
theorem dX3_init_86 : decode cX3_init 86 = .ok (.istore_n 2, 1) := by decide +kernel
theorem dX3_init_87 : decode cX3_init 87 = .ok (.iload_n 2, 1) := by decide +kernel
theorem dX3_init_88 : decode cX3_init 88 = .ok (.iconst 4, 1) := by decide +kernel
theorem dX3_init_89 : decode cX3_init 89 = .ok (.if_icmp .ge 39, 3) := by decide +kernel
theorem dX3_init_92 : decode cX3_init 92 = .ok (.aload_n 0, 1) := by decide +kernel
theorem dX3_init_93 : decode cX3_init 93 = .ok (.getfield 11, 3) := by decide +kernel
theorem dX3_init_96 : decode cX3_init 96 = .ok (.iload_n 2, 1) := by decide +kernel
theorem dX3_init_97 : decode cX3_init 97 = .ok (.new 9, 3) := by decide +kernel
theorem dX3_init_100 : decode cX3_init 100 = .ok (.dup, 1) := by decide +kernel
theorem dX3_init_101 : decode cX3_init 101 = .ok (.bipush 20, 2) := by decide +kernel
theorem dX3_init_103 : decode cX3_init 103 = .ok (.invokespecial 54, 3) := by decide +kernel
theorem dX3_init_106 : decode cX3_init 106 = .ok (.aastore, 1) := by decide +kernel
theorem dX3_init_107 : decode cX3_init 107 = .ok (.aload_n 0, 1) := by decide +kernel
theorem dX3_init_108 : decode cX3_init 108 = .ok (.getfield 17, 3) := by decide +kernel
theorem dX3_init_111 : decode cX3_init 111 = .ok (.iload_n 2, 1) := by decide +kernel
theorem dX3_init_112 : decode cX3_init 112 = .ok (.new 9, 3) := by decide +kernel
theorem dX3_init_115 : decode cX3_init 115 = .ok (.dup, 1) := by decide +kernel
theorem dX3_init_116 : decode cX3_init 116 = .ok (.bipush 16, 2) := by decide +kernel
theorem dX3_init_118 : decode cX3_init 118 = .ok (.invokespecial 54, 3) := by decide +kernel
theorem dX3_init_121 : decode cX3_init 121 = .ok (.aastore, 1) := by decide +kernel
theorem dX3_init_122 : decode cX3_init 122 = .ok (.iinc 2 1, 3) := by decide +kernel
theorem dX3_init_125 : decode cX3_init 125 = .ok (.goto (-38), 3) := by decide +kernel
theorem dX3_init_128 : decode cX3_init 128 = .ok (.iconst 0, 1) := by decide +kernel
theorem dX3_init_129 : decode cX3_init 129 = .ok (.istore_n 2, 1) := by decide +kernel
theorem dX3_init_130 : decode cX3_init 130 = .ok (.iload_n 2, 1) := by decide +kernel
theorem dX3_init_131 : decode cX3_init 131 = .ok (.bipush 16, 2) := by decide +kernel
theorem dX3_init_133 : decode cX3_init 133 = .ok (.if_icmp .ge 16, 3) := by decide +kernel
theorem dX3_init_136 : decode cX3_init 136 = .ok (.aload_n 0, 1) := by decide +kernel
theorem dX3_init_137 : decode cX3_init 137 = .ok (.getfield 31, 3) := by decide +kernel
theorem dX3_init_140 : decode cX3_init 140 = .ok (.iload_n 2, 1) := by decide +kernel
theorem dX3_init_141 : decode cX3_init 141 = .ok (.iload_n 2, 1) := by decide +kernel
theorem dX3_init_142 : decode cX3_init 142 = .ok (.iastore, 1) := by decide +kernel
theorem dX3_init_143 : decode cX3_init 143 = .ok (.iinc 2 1, 3) := by decide +kernel
theorem dX3_init_146 : decode cX3_init 146 = .ok (.goto (-16), 3) := by decide +kernel
theorem dX3_init_149 : decode cX3_init 149 = .ok (.return_, 1) := by decide +kernel
theorem dX3_runPlain_0 : decode cX3_runPlain 0 = .ok (.aload_n 0, 1) := by decide +kernel
theorem dX3_runPlain_1 : decode cX3_runPlain 1 = .ok (.aload_n 0, 1) := by decide +kernel
theorem dX3_runPlain_2 : decode cX3_runPlain 2 = .ok (.getfield 31, 3) := by decide +kernel
theorem dX3_runPlain_5 : decode cX3_runPlain 5 = .ok (.invokevirtual 57, 3) := by decide +kernel
theorem dX3_runPlain_8 : decode cX3_runPlain 8 = .ok (.aload_n 0, 1) := by decide +kernel
theorem dX3_runPlain_9 : decode cX3_runPlain 9 = .ok (.iconst 0, 1) := by decide +kernel
theorem dX3_runPlain_10 : decode cX3_runPlain 10 = .ok (.putfield 47, 3) := by decide +kernel
theorem dX3_runPlain_13 : decode cX3_runPlain 13 = .ok (.return_, 1) := by decide +kernel
theorem dX3_runLaid_0 : decode cX3_runLaid 0 = .ok (.aload_n 0, 1) := by decide +kernel
theorem dX3_runLaid_1 : decode cX3_runLaid 1 = .ok (.aload_n 1, 1) := by decide +kernel
theorem dX3_runLaid_2 : decode cX3_runLaid 2 = .ok (.getfield 61, 3) := by decide +kernel
theorem dX3_runLaid_5 : decode cX3_runLaid 5 = .ok (.invokevirtual 57, 3) := by decide +kernel
theorem dX3_runLaid_8 : decode cX3_runLaid 8 = .ok (.aload_n 0, 1) := by decide +kernel
theorem dX3_runLaid_9 : decode cX3_runLaid 9 = .ok (.aload_n 0, 1) := by decide +kernel
theorem dX3_runLaid_10 : decode cX3_runLaid 10 = .ok (.getfield 41, 3) := by decide +kernel
theorem dX3_runLaid_13 : decode cX3_runLaid 13 = .ok (.bipush (-2), 2) := by decide +kernel
theorem dX3_runLaid_15 : decode cX3_runLaid 15 = .ok (.if_icmp .ne 10, 3) := by decide +kernel
theorem dX3_runLaid_18 : decode cX3_runLaid 18 = .ok (.aload_n 1, 1) := by decide +kernel
theorem dX3_runLaid_19 : decode cX3_runLaid 19 = .ok (.getfield 66, 3) := by decide +kernel
theorem dX3_runLaid_22 : decode cX3_runLaid 22 = .ok (.goto 12, 3) := by decide +kernel
theorem dX3_runLaid_25 : decode cX3_runLaid 25 = .ok (.aload_n 1, 1) := by decide +kernel
theorem dX3_runLaid_26 : decode cX3_runLaid 26 = .ok (.getfield 69, 3) := by decide +kernel
theorem dX3_runLaid_29 : decode cX3_runLaid 29 = .ok (.aload_n 0, 1) := by decide +kernel
theorem dX3_runLaid_30 : decode cX3_runLaid 30 = .ok (.getfield 41, 3) := by decide +kernel
theorem dX3_runLaid_33 : decode cX3_runLaid 33 = .ok (.iaload, 1) := by decide +kernel
theorem dX3_runLaid_34 : decode cX3_runLaid 34 = .ok (.putfield 47, 3) := by decide +kernel
theorem dX3_runLaid_37 : decode cX3_runLaid 37 = .ok (.return_, 1) := by decide +kernel
theorem dX3_runInOrder_0 : decode cX3_runInOrder 0 = .ok (.aload_n 0, 1) := by decide +kernel
theorem dX3_runInOrder_1 : decode cX3_runInOrder 1 = .ok (.invokevirtual 72, 3) := by decide +kernel
theorem dX3_runInOrder_4 : decode cX3_runInOrder 4 = .ok (.iconst 0, 1) := by decide +kernel
theorem dX3_runInOrder_5 : decode cX3_runInOrder 5 = .ok (.istore_n 2, 1) := by decide +kernel
theorem dX3_runInOrder_6 : decode cX3_runInOrder 6 = .ok (.iload_n 2, 1) := by decide +kernel
theorem dX3_runInOrder_7 : decode cX3_runInOrder 7 = .ok (.aload_n 0, 1) := by decide +kernel
theorem dX3_runInOrder_8 : decode cX3_runInOrder 8 = .ok (.getfield 50, 3) := by decide +kernel
theorem dX3_runInOrder_11 : decode cX3_runInOrder 11 = .ok (.invokevirtual 75, 3) := by decide +kernel
theorem dX3_runInOrder_14 : decode cX3_runInOrder 14 = .ok (.if_icmp .ge 35, 3) := by decide +kernel
theorem dX3_runInOrder_17 : decode cX3_runInOrder 17 = .ok (.aload_n 1, 1) := by decide +kernel
theorem dX3_runInOrder_18 : decode cX3_runInOrder 18 = .ok (.iload_n 2, 1) := by decide +kernel
theorem dX3_runInOrder_19 : decode cX3_runInOrder 19 = .ok (.iaload, 1) := by decide +kernel
theorem dX3_runInOrder_20 : decode cX3_runInOrder 20 = .ok (.istore_n 3, 1) := by decide +kernel
theorem dX3_runInOrder_21 : decode cX3_runInOrder 21 = .ok (.aload_n 0, 1) := by decide +kernel
theorem dX3_runInOrder_22 : decode cX3_runInOrder 22 = .ok (.getfield 41, 3) := by decide +kernel
theorem dX3_runInOrder_25 : decode cX3_runInOrder 25 = .ok (.bipush (-2), 2) := by decide +kernel
theorem dX3_runInOrder_27 : decode cX3_runInOrder 27 = .ok (.if_icmp .eq 11, 3) := by decide +kernel
theorem dX3_runInOrder_30 : decode cX3_runInOrder 30 = .ok (.iload_n 3, 1) := by decide +kernel
theorem dX3_runInOrder_31 : decode cX3_runInOrder 31 = .ok (.aload_n 0, 1) := by decide +kernel
theorem dX3_runInOrder_32 : decode cX3_runInOrder 32 = .ok (.getfield 41, 3) := by decide +kernel
theorem dX3_runInOrder_35 : decode cX3_runInOrder 35 = .ok (.if_icmp .ge 8, 3) := by decide +kernel
theorem dX3_runInOrder_38 : decode cX3_runInOrder 38 = .ok (.aload_n 0, 1) := by decide +kernel
theorem dX3_runInOrder_39 : decode cX3_runInOrder 39 = .ok (.iload_n 3, 1) := by decide +kernel
theorem dX3_runInOrder_40 : decode cX3_runInOrder 40 = .ok (.invokevirtual 81, 3) := by decide +kernel
theorem dX3_runInOrder_43 : decode cX3_runInOrder 43 = .ok (.iinc 2 1, 3) := by decide +kernel
theorem dX3_runInOrder_46 : decode cX3_runInOrder 46 = .ok (.goto (-40), 3) := by decide +kernel
theorem dX3_runInOrder_49 : decode cX3_runInOrder 49 = .ok (.return_, 1) := by decide +kernel
theorem dX3_reset_0 : decode cX3_reset 0 = .ok (.aload_n 0, 1) := by decide +kernel
theorem dX3_reset_1 : decode cX3_reset 1 = .ok (.getfield 20, 3) := by decide +kernel
theorem dX3_reset_4 : decode cX3_reset 4 = .ok (.iconst 0, 1) := by decide +kernel
theorem dX3_reset_5 : decode cX3_reset 5 = .ok (.aload_n 0, 1) := by decide +kernel
theorem dX3_reset_6 : decode cX3_reset 6 = .ok (.getfield 24, 3) := by decide +kernel
theorem dX3_reset_9 : decode cX3_reset 9 = .ok (.iconst 0, 1) := by decide +kernel
theorem dX3_reset_10 : decode cX3_reset 10 = .ok (.bipush 16, 2) := by decide +kernel
theorem dX3_reset_12 : decode cX3_reset 12 = .ok (.invokestatic 84, 3) := by decide +kernel
theorem dX3_reset_15 : decode cX3_reset 15 = .ok (.iconst 0, 1) := by decide +kernel
theorem dX3_reset_16 : decode cX3_reset 16 = .ok (.istore_n 1, 1) := by decide +kernel
theorem dX3_reset_17 : decode cX3_reset 17 = .ok (.iload_n 1, 1) := by decide +kernel
theorem dX3_reset_18 : decode cX3_reset 18 = .ok (.iconst 4, 1) := by decide +kernel
theorem dX3_reset_19 : decode cX3_reset 19 = .ok (.if_icmp .ge 25, 3) := by decide +kernel
theorem dX3_reset_22 : decode cX3_reset 22 = .ok (.aload_n 0, 1) := by decide +kernel
theorem dX3_reset_23 : decode cX3_reset 23 = .ok (.getfield 27, 3) := by decide +kernel
theorem dX3_reset_26 : decode cX3_reset 26 = .ok (.iload_n 1, 1) := by decide +kernel
theorem dX3_reset_27 : decode cX3_reset 27 = .ok (.iconst 0, 1) := by decide +kernel
theorem dX3_reset_28 : decode cX3_reset 28 = .ok (.iastore, 1) := by decide +kernel
theorem dX3_reset_29 : decode cX3_reset 29 = .ok (.aload_n 0, 1) := by decide +kernel
theorem dX3_reset_30 : decode cX3_reset 30 = .ok (.getfield 17, 3) := by decide +kernel
theorem dX3_reset_33 : decode cX3_reset 33 = .ok (.iload_n 1, 1) := by decide +kernel
theorem dX3_reset_34 : decode cX3_reset 34 = .ok (.aaload, 1) := by decide +kernel
theorem dX3_reset_35 : decode cX3_reset 35 = .ok (.invokevirtual 90, 3) := by decide +kernel
theorem dX3_reset_38 : decode cX3_reset 38 = .ok (.iinc 1 1, 3) := by decide +kernel
theorem dX3_reset_41 : decode cX3_reset 41 = .ok (.goto (-24), 3) := by decide +kernel
theorem dX3_reset_44 : decode cX3_reset 44 = .ok (.aload_n 0, 1) := by decide +kernel
theorem dX3_reset_45 : decode cX3_reset 45 = .ok (.iconst 0, 1) := by decide +kernel
theorem dX3_reset_46 : decode cX3_reset 46 = .ok (.putfield 37, 3) := by decide +kernel
theorem dX3_reset_49 : decode cX3_reset 49 = .ok (.aload_n 0, 1) := by decide +kernel
theorem dX3_reset_50 : decode cX3_reset 50 = .ok (.bipush (-2), 2) := by decide +kernel
theorem dX3_reset_52 : decode cX3_reset 52 = .ok (.putfield 41, 3) := by decide +kernel
theorem dX3_reset_55 : decode cX3_reset 55 = .ok (.aload_n 0, 1) := by decide +kernel
theorem dX3_reset_56 : decode cX3_reset 56 = .ok (.iconst 0, 1) := by decide +kernel
theorem dX3_reset_57 : decode cX3_reset 57 = .ok (.putfield 44, 3) := by decide +kernel
theorem dX3_reset_60 : decode cX3_reset 60 = .ok (.return_, 1) := by decide +kernel
theorem dX3_begin_0 : decode cX3_begin 0 = .ok (.aload_n 0, 1) := by decide +kernel
theorem dX3_begin_1 : decode cX3_begin 1 = .ok (.getfield 50, 3) := by decide +kernel
theorem dX3_begin_4 : decode cX3_begin 4 = .ok (.iload_n 1, 1) := by decide +kernel
theorem dX3_begin_5 : decode cX3_begin 5 = .ok (.invokevirtual 93, 3) := by decide +kernel
theorem dX3_begin_8 : decode cX3_begin 8 = .ok (.astore_n 2, 1) := by decide +kernel
theorem dX3_begin_9 : decode cX3_begin 9 = .ok (.aload_n 0, 1) := by decide +kernel
theorem dX3_begin_10 : decode cX3_begin 10 = .ok (.dup, 1) := by decide +kernel
theorem dX3_begin_11 : decode cX3_begin 11 = .ok (.getfield 44, 3) := by decide +kernel
theorem dX3_begin_14 : decode cX3_begin 14 = .ok (.iconst 1, 1) := by decide +kernel
theorem dX3_begin_15 : decode cX3_begin 15 = .ok (.iadd, 1) := by decide +kernel
theorem dX3_begin_16 : decode cX3_begin 16 = .ok (.putfield 44, 3) := by decide +kernel
theorem dX3_begin_19 : decode cX3_begin 19 = .ok (.aload_n 0, 1) := by decide +kernel
theorem dX3_begin_20 : decode cX3_begin 20 = .ok (.aload_n 2, 1) := by decide +kernel
theorem dX3_begin_21 : decode cX3_begin 21 = .ok (.invokevirtual 97, 3) := by decide +kernel
theorem dX3_begin_24 : decode cX3_begin 24 = .ok (.ifCond .eq 17, 3) := by decide +kernel
theorem dX3_begin_27 : decode cX3_begin 27 = .ok (.aload_n 0, 1) := by decide +kernel
theorem dX3_begin_28 : decode cX3_begin 28 = .ok (.aload_n 2, 1) := by decide +kernel
theorem dX3_begin_29 : decode cX3_begin 29 = .ok (.invokevirtual 101, 3) := by decide +kernel
theorem dX3_begin_32 : decode cX3_begin 32 = .ok (.putfield 37, 3) := by decide +kernel
theorem dX3_begin_35 : decode cX3_begin 35 = .ok (.aload_n 0, 1) := by decide +kernel
theorem dX3_begin_36 : decode cX3_begin 36 = .ok (.iload_n 1, 1) := by decide +kernel
theorem dX3_begin_37 : decode cX3_begin 37 = .ok (.putfield 41, 3) := by decide +kernel
theorem dX3_begin_40 : decode cX3_begin 40 = .ok (.return_, 1) := by decide +kernel
theorem dX3_begin_41 : decode cX3_begin 41 = .ok (.aload_n 0, 1) := by decide +kernel
theorem dX3_begin_42 : decode cX3_begin 42 = .ok (.getfield 34, 3) := by decide +kernel
theorem dX3_begin_45 : decode cX3_begin 45 = .ok (.iload_n 1, 1) := by decide +kernel
theorem dX3_begin_46 : decode cX3_begin 46 = .ok (.aload_n 0, 1) := by decide +kernel
theorem dX3_begin_47 : decode cX3_begin 47 = .ok (.aload_n 2, 1) := by decide +kernel
theorem dX3_begin_48 : decode cX3_begin 48 = .ok (.invokevirtual 105, 3) := by decide +kernel
theorem dX3_begin_51 : decode cX3_begin 51 = .ok (.aload_n 2, 1) := by decide +kernel
theorem dX3_begin_52 : decode cX3_begin 52 = .ok (.getfield 109, 3) := by decide +kernel
theorem dX3_begin_55 : decode cX3_begin 55 = .ok (.invokestatic 112, 3) := by decide +kernel
theorem dX3_begin_58 : decode cX3_begin 58 = .ok (.lastore, 1) := by decide +kernel
theorem dX3_begin_59 : decode cX3_begin 59 = .ok (.aload_n 0, 1) := by decide +kernel
theorem dX3_begin_60 : decode cX3_begin 60 = .ok (.aload_n 2, 1) := by decide +kernel
theorem dX3_begin_61 : decode cX3_begin 61 = .ok (.aload_n 0, 1) := by decide +kernel
theorem dX3_begin_62 : decode cX3_begin 62 = .ok (.getfield 34, 3) := by decide +kernel
theorem dX3_begin_65 : decode cX3_begin 65 = .ok (.iload_n 1, 1) := by decide +kernel
theorem dX3_begin_66 : decode cX3_begin 66 = .ok (.laload, 1) := by decide +kernel
theorem dX3_begin_67 : decode cX3_begin 67 = .ok (.invokevirtual 116, 3) := by decide +kernel
theorem dX3_begin_70 : decode cX3_begin 70 = .ok (.return_, 1) := by decide +kernel
theorem dX3_failsNow_0 : decode cX3_failsNow 0 = .ok (.aload_n 1, 1) := by decide +kernel
theorem dX3_failsNow_1 : decode cX3_failsNow 1 = .ok (.getfield 120, 3) := by decide +kernel
theorem dX3_failsNow_4 : decode cX3_failsNow 4 = .ok (.tableswitch 123 1 9 #[52, 123, 123, 123, 82, 123, 123, 102, 102], 52) := by decide +kernel
theorem dX3_failsNow_56 : decode cX3_failsNow 56 = .ok (.aload_n 0, 1) := by decide +kernel
theorem dX3_failsNow_57 : decode cX3_failsNow 57 = .ok (.getfield 27, 3) := by decide +kernel
theorem dX3_failsNow_60 : decode cX3_failsNow 60 = .ok (.aload_n 1, 1) := by decide +kernel
theorem dX3_failsNow_61 : decode cX3_failsNow 61 = .ok (.getfield 123, 3) := by decide +kernel
theorem dX3_failsNow_64 : decode cX3_failsNow 64 = .ok (.iaload, 1) := by decide +kernel
theorem dX3_failsNow_65 : decode cX3_failsNow 65 = .ok (.aload_n 0, 1) := by decide +kernel
theorem dX3_failsNow_66 : decode cX3_failsNow 66 = .ok (.getfield 11, 3) := by decide +kernel
theorem dX3_failsNow_69 : decode cX3_failsNow 69 = .ok (.aload_n 1, 1) := by decide +kernel
theorem dX3_failsNow_70 : decode cX3_failsNow 70 = .ok (.getfield 123, 3) := by decide +kernel
theorem dX3_failsNow_73 : decode cX3_failsNow 73 = .ok (.aaload, 1) := by decide +kernel
theorem dX3_failsNow_74 : decode cX3_failsNow 74 = .ok (.invokevirtual 126, 3) := by decide +kernel
theorem dX3_failsNow_77 : decode cX3_failsNow 77 = .ok (.if_icmp .lt 7, 3) := by decide +kernel
theorem dX3_failsNow_80 : decode cX3_failsNow 80 = .ok (.iconst 1, 1) := by decide +kernel
theorem dX3_failsNow_81 : decode cX3_failsNow 81 = .ok (.goto 4, 3) := by decide +kernel
theorem dX3_failsNow_84 : decode cX3_failsNow 84 = .ok (.iconst 0, 1) := by decide +kernel
theorem dX3_failsNow_85 : decode cX3_failsNow 85 = .ok (.ireturn, 1) := by decide +kernel
theorem dX3_failsNow_86 : decode cX3_failsNow 86 = .ok (.aload_n 0, 1) := by decide +kernel
theorem dX3_failsNow_87 : decode cX3_failsNow 87 = .ok (.getfield 34, 3) := by decide +kernel
theorem dX3_failsNow_90 : decode cX3_failsNow 90 = .ok (.aload_n 1, 1) := by decide +kernel
theorem dX3_failsNow_91 : decode cX3_failsNow 91 = .ok (.getfield 127, 3) := by decide +kernel
theorem dX3_failsNow_94 : decode cX3_failsNow 94 = .ok (.laload, 1) := by decide +kernel
theorem dX3_failsNow_95 : decode cX3_failsNow 95 = .ok (.lconst 0, 1) := by decide +kernel
theorem dX3_failsNow_96 : decode cX3_failsNow 96 = .ok (.lcmp, 1) := by decide +kernel
theorem dX3_failsNow_97 : decode cX3_failsNow 97 = .ok (.ifCond .ne 7, 3) := by decide +kernel
theorem dX3_failsNow_100 : decode cX3_failsNow 100 = .ok (.iconst 1, 1) := by decide +kernel
theorem dX3_failsNow_101 : decode cX3_failsNow 101 = .ok (.goto 4, 3) := by decide +kernel
theorem dX3_failsNow_104 : decode cX3_failsNow 104 = .ok (.iconst 0, 1) := by decide +kernel
theorem dX3_failsNow_105 : decode cX3_failsNow 105 = .ok (.ireturn, 1) := by decide +kernel
theorem dX3_failsNow_106 : decode cX3_failsNow 106 = .ok (.aload_n 0, 1) := by decide +kernel
theorem dX3_failsNow_107 : decode cX3_failsNow 107 = .ok (.getfield 34, 3) := by decide +kernel
theorem dX3_failsNow_110 : decode cX3_failsNow 110 = .ok (.aload_n 1, 1) := by decide +kernel
theorem dX3_failsNow_111 : decode cX3_failsNow 111 = .ok (.getfield 130, 3) := by decide +kernel
theorem dX3_failsNow_114 : decode cX3_failsNow 114 = .ok (.laload, 1) := by decide +kernel
theorem dX3_failsNow_115 : decode cX3_failsNow 115 = .ok (.invokestatic 133, 3) := by decide +kernel
theorem dX3_failsNow_118 : decode cX3_failsNow 118 = .ok (.ifCond .ne 7, 3) := by decide +kernel
theorem dX3_failsNow_121 : decode cX3_failsNow 121 = .ok (.iconst 1, 1) := by decide +kernel
theorem dX3_failsNow_122 : decode cX3_failsNow 122 = .ok (.goto 4, 3) := by decide +kernel
theorem dX3_failsNow_125 : decode cX3_failsNow 125 = .ok (.iconst 0, 1) := by decide +kernel
theorem dX3_failsNow_126 : decode cX3_failsNow 126 = .ok (.ireturn, 1) := by decide +kernel
theorem dX3_failsNow_127 : decode cX3_failsNow 127 = .ok (.iconst 0, 1) := by decide +kernel
theorem dX3_failsNow_128 : decode cX3_failsNow 128 = .ok (.ireturn, 1) := by decide +kernel
theorem dX3_result_0 : decode cX3_result 0 = .ok (.aload_n 1, 1) := by decide +kernel
theorem dX3_result_1 : decode cX3_result 1 = .ok (.getfield 130, 3) := by decide +kernel
theorem dX3_result_4 : decode cX3_result 4 = .ok (.bipush (-2), 2) := by decide +kernel
theorem dX3_result_6 : decode cX3_result 6 = .ok (.if_icmp .ne 7, 3) := by decide +kernel
theorem dX3_result_9 : decode cX3_result 9 = .ok (.lconst 0, 1) := by decide +kernel
theorem dX3_result_10 : decode cX3_result 10 = .ok (.goto 12, 3) := by decide +kernel
theorem dX3_result_13 : decode cX3_result 13 = .ok (.aload_n 0, 1) := by decide +kernel
theorem dX3_result_14 : decode cX3_result 14 = .ok (.getfield 34, 3) := by decide +kernel
theorem dX3_result_17 : decode cX3_result 17 = .ok (.aload_n 1, 1) := by decide +kernel
theorem dX3_result_18 : decode cX3_result 18 = .ok (.getfield 130, 3) := by decide +kernel
theorem dX3_result_21 : decode cX3_result 21 = .ok (.laload, 1) := by decide +kernel
theorem dX3_result_22 : decode cX3_result 22 = .ok (.lstore_n 2, 1) := by decide +kernel
theorem dX3_result_23 : decode cX3_result 23 = .ok (.aload_n 1, 1) := by decide +kernel
theorem dX3_result_24 : decode cX3_result 24 = .ok (.getfield 127, 3) := by decide +kernel
theorem dX3_result_27 : decode cX3_result 27 = .ok (.bipush (-2), 2) := by decide +kernel
theorem dX3_result_29 : decode cX3_result 29 = .ok (.if_icmp .ne 7, 3) := by decide +kernel
theorem dX3_result_32 : decode cX3_result 32 = .ok (.lconst 0, 1) := by decide +kernel
theorem dX3_result_33 : decode cX3_result 33 = .ok (.goto 12, 3) := by decide +kernel
theorem dX3_result_36 : decode cX3_result 36 = .ok (.aload_n 0, 1) := by decide +kernel
theorem dX3_result_37 : decode cX3_result 37 = .ok (.getfield 34, 3) := by decide +kernel
theorem dX3_result_40 : decode cX3_result 40 = .ok (.aload_n 1, 1) := by decide +kernel
theorem dX3_result_41 : decode cX3_result 41 = .ok (.getfield 127, 3) := by decide +kernel
theorem dX3_result_44 : decode cX3_result 44 = .ok (.laload, 1) := by decide +kernel
theorem dX3_result_45 : decode cX3_result 45 = .ok (.lstore 4, 2) := by decide +kernel
theorem dX3_result_47 : decode cX3_result 47 = .ok (.aload_n 1, 1) := by decide +kernel
theorem dX3_result_48 : decode cX3_result 48 = .ok (.getfield 120, 3) := by decide +kernel
theorem dX3_result_51 : decode cX3_result 51 = .ok (.tableswitch 170 0 9 #[53, 61, 83, 88, 93, 98, 114, 127, 148, 167], 53) := by decide +kernel
theorem dX3_result_104 : decode cX3_result 104 = .ok (.aload_n 1, 1) := by decide +kernel
theorem dX3_result_105 : decode cX3_result 105 = .ok (.getfield 137, 3) := by decide +kernel
theorem dX3_result_108 : decode cX3_result 108 = .ok (.getfield 141, 3) := by decide +kernel
theorem dX3_result_111 : decode cX3_result 111 = .ok (.lreturn, 1) := by decide +kernel
theorem dX3_result_112 : decode cX3_result 112 = .ok (.aload_n 0, 1) := by decide +kernel
theorem dX3_result_113 : decode cX3_result 113 = .ok (.getfield 11, 3) := by decide +kernel
theorem dX3_result_116 : decode cX3_result 116 = .ok (.aload_n 1, 1) := by decide +kernel
theorem dX3_result_117 : decode cX3_result 117 = .ok (.getfield 123, 3) := by decide +kernel
theorem dX3_result_120 : decode cX3_result 120 = .ok (.aaload, 1) := by decide +kernel
theorem dX3_result_121 : decode cX3_result 121 = .ok (.aload_n 0, 1) := by decide +kernel
theorem dX3_result_122 : decode cX3_result 122 = .ok (.getfield 27, 3) := by decide +kernel
theorem dX3_result_125 : decode cX3_result 125 = .ok (.aload_n 1, 1) := by decide +kernel
theorem dX3_result_126 : decode cX3_result 126 = .ok (.getfield 123, 3) := by decide +kernel
theorem dX3_result_129 : decode cX3_result 129 = .ok (.iaload, 1) := by decide +kernel
theorem dX3_result_130 : decode cX3_result 130 = .ok (.invokevirtual 147, 3) := by decide +kernel
theorem dX3_result_133 : decode cX3_result 133 = .ok (.lreturn, 1) := by decide +kernel
theorem dX3_result_134 : decode cX3_result 134 = .ok (.lload_n 2, 1) := by decide +kernel
theorem dX3_result_135 : decode cX3_result 135 = .ok (.lload 4, 2) := by decide +kernel
theorem dX3_result_137 : decode cX3_result 137 = .ok (.ladd, 1) := by decide +kernel
theorem dX3_result_138 : decode cX3_result 138 = .ok (.lreturn, 1) := by decide +kernel
theorem dX3_result_139 : decode cX3_result 139 = .ok (.lload_n 2, 1) := by decide +kernel
theorem dX3_result_140 : decode cX3_result 140 = .ok (.lload 4, 2) := by decide +kernel
theorem dX3_result_142 : decode cX3_result 142 = .ok (.lsub, 1) := by decide +kernel
theorem dX3_result_143 : decode cX3_result 143 = .ok (.lreturn, 1) := by decide +kernel
theorem dX3_result_144 : decode cX3_result 144 = .ok (.lload_n 2, 1) := by decide +kernel
theorem dX3_result_145 : decode cX3_result 145 = .ok (.lload 4, 2) := by decide +kernel
theorem dX3_result_147 : decode cX3_result 147 = .ok (.lmul, 1) := by decide +kernel
theorem dX3_result_148 : decode cX3_result 148 = .ok (.lreturn, 1) := by decide +kernel
theorem dX3_result_149 : decode cX3_result 149 = .ok (.lload 4, 2) := by decide +kernel
theorem dX3_result_151 : decode cX3_result 151 = .ok (.lconst 0, 1) := by decide +kernel
theorem dX3_result_152 : decode cX3_result 152 = .ok (.lcmp, 1) := by decide +kernel
theorem dX3_result_153 : decode cX3_result 153 = .ok (.ifCond .ne 7, 3) := by decide +kernel
theorem dX3_result_156 : decode cX3_result 156 = .ok (.lconst 0, 1) := by decide +kernel
theorem dX3_result_157 : decode cX3_result 157 = .ok (.goto 7, 3) := by decide +kernel
theorem dX3_result_160 : decode cX3_result 160 = .ok (.lload_n 2, 1) := by decide +kernel
theorem dX3_result_161 : decode cX3_result 161 = .ok (.lload 4, 2) := by decide +kernel
theorem dX3_result_163 : decode cX3_result 163 = .ok (.ldiv, 1) := by decide +kernel
theorem dX3_result_164 : decode cX3_result 164 = .ok (.lreturn, 1) := by decide +kernel
theorem dX3_result_165 : decode cX3_result 165 = .ok (.lload_n 2, 1) := by decide +kernel
theorem dX3_result_166 : decode cX3_result 166 = .ok (.lload 4, 2) := by decide +kernel
theorem dX3_result_168 : decode cX3_result 168 = .ok (.lcmp, 1) := by decide +kernel
theorem dX3_result_169 : decode cX3_result 169 = .ok (.ifCond .ge 7, 3) := by decide +kernel
theorem dX3_result_172 : decode cX3_result 172 = .ok (.lconst 1, 1) := by decide +kernel
theorem dX3_result_173 : decode cX3_result 173 = .ok (.goto 4, 3) := by decide +kernel
theorem dX3_result_176 : decode cX3_result 176 = .ok (.lconst 0, 1) := by decide +kernel
theorem dX3_result_177 : decode cX3_result 177 = .ok (.lreturn, 1) := by decide +kernel
theorem dX3_result_178 : decode cX3_result 178 = .ok (.lload_n 2, 1) := by decide +kernel
theorem dX3_result_179 : decode cX3_result 179 = .ok (.lconst 0, 1) := by decide +kernel
theorem dX3_result_180 : decode cX3_result 180 = .ok (.lcmp, 1) := by decide +kernel
theorem dX3_result_181 : decode cX3_result 181 = .ok (.ifCond .eq 8, 3) := by decide +kernel
theorem dX3_result_184 : decode cX3_result 184 = .ok (.lload 4, 2) := by decide +kernel
theorem dX3_result_186 : decode cX3_result 186 = .ok (.goto 12, 3) := by decide +kernel
theorem dX3_result_189 : decode cX3_result 189 = .ok (.aload_n 0, 1) := by decide +kernel
theorem dX3_result_190 : decode cX3_result 190 = .ok (.getfield 34, 3) := by decide +kernel
theorem dX3_result_193 : decode cX3_result 193 = .ok (.aload_n 1, 1) := by decide +kernel
theorem dX3_result_194 : decode cX3_result 194 = .ok (.getfield 150, 3) := by decide +kernel
theorem dX3_result_197 : decode cX3_result 197 = .ok (.laload, 1) := by decide +kernel
theorem dX3_result_198 : decode cX3_result 198 = .ok (.lreturn, 1) := by decide +kernel
theorem dX3_result_199 : decode cX3_result 199 = .ok (.lload_n 2, 1) := by decide +kernel
theorem dX3_result_200 : decode cX3_result 200 = .ok (.invokestatic 133, 3) := by decide +kernel
theorem dX3_result_203 : decode cX3_result 203 = .ok (.ifCond .eq 13, 3) := by decide +kernel
theorem dX3_result_206 : decode cX3_result 206 = .ok (.aload_n 0, 1) := by decide +kernel
theorem dX3_result_207 : decode cX3_result 207 = .ok (.getfield 24, 3) := by decide +kernel
theorem dX3_result_210 : decode cX3_result 210 = .ok (.lload_n 2, 1) := by decide +kernel
theorem dX3_result_211 : decode cX3_result 211 = .ok (.l2i, 1) := by decide +kernel
theorem dX3_result_212 : decode cX3_result 212 = .ok (.laload, 1) := by decide +kernel
theorem dX3_result_213 : decode cX3_result 213 = .ok (.goto 4, 3) := by decide +kernel
theorem dX3_result_216 : decode cX3_result 216 = .ok (.lconst 0, 1) := by decide +kernel
theorem dX3_result_217 : decode cX3_result 217 = .ok (.lreturn, 1) := by decide +kernel
theorem dX3_result_218 : decode cX3_result 218 = .ok (.lload 4, 2) := by decide +kernel
theorem dX3_result_220 : decode cX3_result 220 = .ok (.lreturn, 1) := by decide +kernel
theorem dX3_result_221 : decode cX3_result 221 = .ok (.lload_n 2, 1) := by decide +kernel
theorem dX3_result_222 : decode cX3_result 222 = .ok (.lreturn, 1) := by decide +kernel
theorem dX3_passOutside_0 : decode cX3_passOutside 0 = .ok (.aload_n 1, 1) := by decide +kernel
theorem dX3_passOutside_1 : decode cX3_passOutside 1 = .ok (.getfield 120, 3) := by decide +kernel
theorem dX3_passOutside_4 : decode cX3_passOutside 4 = .ok (.lookupswitch 85 #[(1, 36), (9, 52), (10, 69)], 36) := by decide +kernel
theorem dX3_passOutside_40 : decode cX3_passOutside 40 = .ok (.aload_n 0, 1) := by decide +kernel
theorem dX3_passOutside_41 : decode cX3_passOutside 41 = .ok (.getfield 27, 3) := by decide +kernel
theorem dX3_passOutside_44 : decode cX3_passOutside 44 = .ok (.aload_n 1, 1) := by decide +kernel
theorem dX3_passOutside_45 : decode cX3_passOutside 45 = .ok (.getfield 123, 3) := by decide +kernel
theorem dX3_passOutside_48 : decode cX3_passOutside 48 = .ok (.dup2, 1) := by decide +kernel
theorem dX3_passOutside_49 : decode cX3_passOutside 49 = .ok (.iaload, 1) := by decide +kernel
theorem dX3_passOutside_50 : decode cX3_passOutside 50 = .ok (.iconst 1, 1) := by decide +kernel
theorem dX3_passOutside_51 : decode cX3_passOutside 51 = .ok (.iadd, 1) := by decide +kernel
theorem dX3_passOutside_52 : decode cX3_passOutside 52 = .ok (.iastore, 1) := by decide +kernel
theorem dX3_passOutside_53 : decode cX3_passOutside 53 = .ok (.goto 36, 3) := by decide +kernel
theorem dX3_passOutside_56 : decode cX3_passOutside 56 = .ok (.aload_n 0, 1) := by decide +kernel
theorem dX3_passOutside_57 : decode cX3_passOutside 57 = .ok (.aload_n 0, 1) := by decide +kernel
theorem dX3_passOutside_58 : decode cX3_passOutside 58 = .ok (.getfield 34, 3) := by decide +kernel
theorem dX3_passOutside_61 : decode cX3_passOutside 61 = .ok (.aload_n 1, 1) := by decide +kernel
theorem dX3_passOutside_62 : decode cX3_passOutside 62 = .ok (.getfield 130, 3) := by decide +kernel
theorem dX3_passOutside_65 : decode cX3_passOutside 65 = .ok (.laload, 1) := by decide +kernel
theorem dX3_passOutside_66 : decode cX3_passOutside 66 = .ok (.lload_n 2, 1) := by decide +kernel
theorem dX3_passOutside_67 : decode cX3_passOutside 67 = .ok (.invokevirtual 153, 3) := by decide +kernel
theorem dX3_passOutside_70 : decode cX3_passOutside 70 = .ok (.goto 19, 3) := by decide +kernel
theorem dX3_passOutside_73 : decode cX3_passOutside 73 = .ok (.aload_n 0, 1) := by decide +kernel
theorem dX3_passOutside_74 : decode cX3_passOutside 74 = .ok (.getfield 17, 3) := by decide +kernel
theorem dX3_passOutside_77 : decode cX3_passOutside 77 = .ok (.aload_n 1, 1) := by decide +kernel
theorem dX3_passOutside_78 : decode cX3_passOutside 78 = .ok (.getfield 123, 3) := by decide +kernel
theorem dX3_passOutside_81 : decode cX3_passOutside 81 = .ok (.aaload, 1) := by decide +kernel
theorem dX3_passOutside_82 : decode cX3_passOutside 82 = .ok (.lload_n 2, 1) := by decide +kernel
theorem dX3_passOutside_83 : decode cX3_passOutside 83 = .ok (.invokevirtual 157, 3) := by decide +kernel
theorem dX3_passOutside_86 : decode cX3_passOutside 86 = .ok (.goto 3, 3) := by decide +kernel
theorem dX3_passOutside_89 : decode cX3_passOutside 89 = .ok (.return_, 1) := by decide +kernel
theorem dX3_store_0 : decode cX3_store 0 = .ok (.lload_n 1, 1) := by decide +kernel
theorem dX3_store_1 : decode cX3_store 1 = .ok (.invokestatic 133, 3) := by decide +kernel
theorem dX3_store_4 : decode cX3_store 4 = .ok (.ifCond .eq 11, 3) := by decide +kernel
theorem dX3_store_7 : decode cX3_store 7 = .ok (.aload_n 0, 1) := by decide +kernel
theorem dX3_store_8 : decode cX3_store 8 = .ok (.getfield 24, 3) := by decide +kernel
theorem dX3_store_11 : decode cX3_store 11 = .ok (.lload_n 1, 1) := by decide +kernel
theorem dX3_store_12 : decode cX3_store 12 = .ok (.l2i, 1) := by decide +kernel
theorem dX3_store_13 : decode cX3_store 13 = .ok (.lload_n 3, 1) := by decide +kernel
theorem dX3_store_14 : decode cX3_store 14 = .ok (.lastore, 1) := by decide +kernel
theorem dX3_store_15 : decode cX3_store 15 = .ok (.return_, 1) := by decide +kernel
theorem dX4_init_0 : decode cX4_init 0 = .ok (.aload_n 0, 1) := by decide +kernel
theorem dX4_init_1 : decode cX4_init 1 = .ok (.invokespecial 3, 3) := by decide +kernel
theorem dX4_init_4 : decode cX4_init 4 = .ok (.aload_n 0, 1) := by decide +kernel
theorem dX4_init_5 : decode cX4_init 5 = .ok (.bipush 16, 2) := by decide +kernel
theorem dX4_init_7 : decode cX4_init 7 = .ok (.newarray .int, 2) := by decide +kernel
theorem dX4_init_9 : decode cX4_init 9 = .ok (.putfield 9, 3) := by decide +kernel
theorem dX4_init_12 : decode cX4_init 12 = .ok (.aload_n 0, 1) := by decide +kernel
theorem dX4_init_13 : decode cX4_init 13 = .ok (.aload_n 1, 1) := by decide +kernel
theorem dX4_init_14 : decode cX4_init 14 = .ok (.putfield 15, 3) := by decide +kernel
theorem dX4_init_17 : decode cX4_init 17 = .ok (.aload_n 0, 1) := by decide +kernel
theorem dX4_init_18 : decode cX4_init 18 = .ok (.aload_n 2, 1) := by decide +kernel
theorem dX4_init_19 : decode cX4_init 19 = .ok (.putfield 19, 3) := by decide +kernel
theorem dX4_init_22 : decode cX4_init 22 = .ok (.return_, 1) := by decide +kernel
theorem dX4_between_0 : decode cX4_between 0 = .ok (.aload_n 0, 1) := by decide +kernel
theorem dX4_between_1 : decode cX4_between 1 = .ok (.getfield 15, 3) := by decide +kernel
theorem dX4_between_4 : decode cX4_between 4 = .ok (.iload_n 1, 1) := by decide +kernel
theorem dX4_between_5 : decode cX4_between 5 = .ok (.invokevirtual 23, 3) := by decide +kernel
theorem dX4_between_8 : decode cX4_between 8 = .ok (.astore_n 3, 1) := by decide +kernel
theorem dX4_between_9 : decode cX4_between 9 = .ok (.aload_n 0, 1) := by decide +kernel
theorem dX4_between_10 : decode cX4_between 10 = .ok (.getfield 15, 3) := by decide +kernel
theorem dX4_between_13 : decode cX4_between 13 = .ok (.iload_n 2, 1) := by decide +kernel
theorem dX4_between_14 : decode cX4_between 14 = .ok (.invokevirtual 23, 3) := by decide +kernel
theorem dX4_between_17 : decode cX4_between 17 = .ok (.astore 4, 2) := by decide +kernel
theorem dX4_between_19 : decode cX4_between 19 = .ok (.iconst 0, 1) := by decide +kernel
theorem dX4_between_20 : decode cX4_between 20 = .ok (.istore 5, 2) := by decide +kernel
theorem dX4_between_22 : decode cX4_between 22 = .ok (.aload 4, 2) := by decide +kernel
theorem dX4_between_24 : decode cX4_between 24 = .ok (.iload_n 1, 1) := by decide +kernel
theorem dX4_between_25 : decode cX4_between 25 = .ok (.invokevirtual 29, 3) := by decide +kernel
theorem dX4_between_28 : decode cX4_between 28 = .ok (.ifCond .ne 18, 3) := by decide +kernel
theorem dX4_between_31 : decode cX4_between 31 = .ok (.aload_n 3, 1) := by decide +kernel
theorem dX4_between_32 : decode cX4_between 32 = .ok (.invokevirtual 35, 3) := by decide +kernel
theorem dX4_between_35 : decode cX4_between 35 = .ok (.ifCond .eq 21, 3) := by decide +kernel
theorem dX4_between_38 : decode cX4_between 38 = .ok (.aload 4, 2) := by decide +kernel
theorem dX4_between_40 : decode cX4_between 40 = .ok (.invokevirtual 39, 3) := by decide +kernel
theorem dX4_between_43 : decode cX4_between 43 = .ok (.ifCond .eq 13, 3) := by decide +kernel
theorem dX4_between_46 : decode cX4_between 46 = .ok (.aload_n 0, 1) := by decide +kernel
theorem dX4_between_47 : decode cX4_between 47 = .ok (.getfield 19, 3) := by decide +kernel
theorem dX4_between_50 : decode cX4_between 50 = .ok (.aload_n 3, 1) := by decide +kernel
theorem dX4_between_51 : decode cX4_between 51 = .ok (.invokevirtual 42, 3) := by decide +kernel
theorem dX4_between_54 : decode cX4_between 54 = .ok (.istore 5, 2) := by decide +kernel
theorem dX4_between_56 : decode cX4_between 56 = .ok (.aload_n 0, 1) := by decide +kernel
theorem dX4_between_57 : decode cX4_between 57 = .ok (.aload_n 3, 1) := by decide +kernel
theorem dX4_between_58 : decode cX4_between 58 = .ok (.aload 4, 2) := by decide +kernel
theorem dX4_between_60 : decode cX4_between 60 = .ok (.invokevirtual 48, 3) := by decide +kernel
theorem dX4_between_63 : decode cX4_between 63 = .ok (.ifCond .ne 12, 3) := by decide +kernel
theorem dX4_between_66 : decode cX4_between 66 = .ok (.aload_n 3, 1) := by decide +kernel
theorem dX4_between_67 : decode cX4_between 67 = .ok (.aload 4, 2) := by decide +kernel
theorem dX4_between_69 : decode cX4_between 69 = .ok (.invokestatic 52, 3) := by decide +kernel
theorem dX4_between_72 : decode cX4_between 72 = .ok (.ifCond .eq 11, 3) := by decide +kernel
theorem dX4_between_75 : decode cX4_between 75 = .ok (.iload 5, 2) := by decide +kernel
theorem dX4_between_77 : decode cX4_between 77 = .ok (.iconst 1, 1) := by decide +kernel
theorem dX4_between_78 : decode cX4_between 78 = .ok (.invokestatic 55, 3) := by decide +kernel
theorem dX4_between_81 : decode cX4_between 81 = .ok (.istore 5, 2) := by decide +kernel
theorem dX4_between_83 : decode cX4_between 83 = .ok (.iload 5, 2) := by decide +kernel
theorem dX4_between_85 : decode cX4_between 85 = .ok (.ireturn, 1) := by decide +kernel
theorem dX4_meetInRow_0 : decode cX4_meetInRow 0 = .ok (.aload_n 1, 1) := by decide +kernel
theorem dX4_meetInRow_1 : decode cX4_meetInRow 1 = .ok (.invokevirtual 61, 3) := by decide +kernel
theorem dX4_meetInRow_4 : decode cX4_meetInRow 4 = .ok (.iconst 3, 1) := by decide +kernel
theorem dX4_meetInRow_5 : decode cX4_meetInRow 5 = .ok (.if_icmp .ne 67, 3) := by decide +kernel
theorem dX4_meetInRow_8 : decode cX4_meetInRow 8 = .ok (.aload_n 2, 1) := by decide +kernel
theorem dX4_meetInRow_9 : decode cX4_meetInRow 9 = .ok (.invokevirtual 61, 3) := by decide +kernel
theorem dX4_meetInRow_12 : decode cX4_meetInRow 12 = .ok (.iconst 3, 1) := by decide +kernel
theorem dX4_meetInRow_13 : decode cX4_meetInRow 13 = .ok (.if_icmp .ne 59, 3) := by decide +kernel
theorem dX4_meetInRow_16 : decode cX4_meetInRow 16 = .ok (.aload_n 1, 1) := by decide +kernel
theorem dX4_meetInRow_17 : decode cX4_meetInRow 17 = .ok (.getfield 65, 3) := by decide +kernel
theorem dX4_meetInRow_20 : decode cX4_meetInRow 20 = .ok (.bipush 9, 2) := by decide +kernel
theorem dX4_meetInRow_22 : decode cX4_meetInRow 22 = .ok (.if_icmp .eq 12, 3) := by decide +kernel
theorem dX4_meetInRow_25 : decode cX4_meetInRow 25 = .ok (.aload_n 2, 1) := by decide +kernel
theorem dX4_meetInRow_26 : decode cX4_meetInRow 26 = .ok (.getfield 65, 3) := by decide +kernel
theorem dX4_meetInRow_29 : decode cX4_meetInRow 29 = .ok (.bipush 9, 2) := by decide +kernel
theorem dX4_meetInRow_31 : decode cX4_meetInRow 31 = .ok (.if_icmp .ne 41, 3) := by decide +kernel
theorem dX4_meetInRow_34 : decode cX4_meetInRow 34 = .ok (.aload_n 0, 1) := by decide +kernel
theorem dX4_meetInRow_35 : decode cX4_meetInRow 35 = .ok (.getfield 15, 3) := by decide +kernel
theorem dX4_meetInRow_38 : decode cX4_meetInRow 38 = .ok (.aload_n 1, 1) := by decide +kernel
theorem dX4_meetInRow_39 : decode cX4_meetInRow 39 = .ok (.getfield 69, 3) := by decide +kernel
theorem dX4_meetInRow_42 : decode cX4_meetInRow 42 = .ok (.invokevirtual 23, 3) := by decide +kernel
theorem dX4_meetInRow_45 : decode cX4_meetInRow 45 = .ok (.getfield 72, 3) := by decide +kernel
theorem dX4_meetInRow_48 : decode cX4_meetInRow 48 = .ok (.aload_n 0, 1) := by decide +kernel
theorem dX4_meetInRow_49 : decode cX4_meetInRow 49 = .ok (.getfield 15, 3) := by decide +kernel
theorem dX4_meetInRow_52 : decode cX4_meetInRow 52 = .ok (.aload_n 2, 1) := by decide +kernel
theorem dX4_meetInRow_53 : decode cX4_meetInRow 53 = .ok (.getfield 69, 3) := by decide +kernel
theorem dX4_meetInRow_56 : decode cX4_meetInRow 56 = .ok (.invokevirtual 23, 3) := by decide +kernel
theorem dX4_meetInRow_59 : decode cX4_meetInRow 59 = .ok (.getfield 72, 3) := by decide +kernel
theorem dX4_meetInRow_62 : decode cX4_meetInRow 62 = .ok (.invokevirtual 76, 3) := by decide +kernel
theorem dX4_meetInRow_65 : decode cX4_meetInRow 65 = .ok (.ifCond .eq 7, 3) := by decide +kernel
theorem dX4_meetInRow_68 : decode cX4_meetInRow 68 = .ok (.iconst 1, 1) := by decide +kernel
theorem dX4_meetInRow_69 : decode cX4_meetInRow 69 = .ok (.goto 4, 3) := by decide +kernel
theorem dX4_meetInRow_72 : decode cX4_meetInRow 72 = .ok (.iconst 0, 1) := by decide +kernel
theorem dX4_meetInRow_73 : decode cX4_meetInRow 73 = .ok (.ireturn, 1) := by decide +kernel
theorem dX4_meetAtPort_0 : decode cX4_meetAtPort 0 = .ok (.aload_n 0, 1) := by decide +kernel
theorem dX4_meetAtPort_1 : decode cX4_meetAtPort 1 = .ok (.getfield 82, 3) := by decide +kernel
theorem dX4_meetAtPort_4 : decode cX4_meetAtPort 4 = .ok (.bipush (-2), 2) := by decide +kernel
theorem dX4_meetAtPort_6 : decode cX4_meetAtPort 6 = .ok (.if_icmp .eq 29, 3) := by decide +kernel
theorem dX4_meetAtPort_9 : decode cX4_meetAtPort 9 = .ok (.aload_n 0, 1) := by decide +kernel
theorem dX4_meetAtPort_10 : decode cX4_meetAtPort 10 = .ok (.getfield 82, 3) := by decide +kernel
theorem dX4_meetAtPort_13 : decode cX4_meetAtPort 13 = .ok (.aload_n 1, 1) := by decide +kernel
theorem dX4_meetAtPort_14 : decode cX4_meetAtPort 14 = .ok (.getfield 82, 3) := by decide +kernel
theorem dX4_meetAtPort_17 : decode cX4_meetAtPort 17 = .ok (.if_icmp .ne 18, 3) := by decide +kernel
theorem dX4_meetAtPort_20 : decode cX4_meetAtPort 20 = .ok (.aload_n 0, 1) := by decide +kernel
theorem dX4_meetAtPort_21 : decode cX4_meetAtPort 21 = .ok (.getfield 65, 3) := by decide +kernel
theorem dX4_meetAtPort_24 : decode cX4_meetAtPort 24 = .ok (.aload_n 1, 1) := by decide +kernel
theorem dX4_meetAtPort_25 : decode cX4_meetAtPort 25 = .ok (.getfield 65, 3) := by decide +kernel
theorem dX4_meetAtPort_28 : decode cX4_meetAtPort 28 = .ok (.if_icmp .ne 7, 3) := by decide +kernel
theorem dX4_meetAtPort_31 : decode cX4_meetAtPort 31 = .ok (.iconst 1, 1) := by decide +kernel
theorem dX4_meetAtPort_32 : decode cX4_meetAtPort 32 = .ok (.goto 4, 3) := by decide +kernel
theorem dX4_meetAtPort_35 : decode cX4_meetAtPort 35 = .ok (.iconst 0, 1) := by decide +kernel
theorem dX4_meetAtPort_36 : decode cX4_meetAtPort 36 = .ok (.ireturn, 1) := by decide +kernel
theorem dX4_readyTick_0 : decode cX4_readyTick 0 = .ok (.iconst 0, 1) := by decide +kernel
theorem dX4_readyTick_1 : decode cX4_readyTick 1 = .ok (.istore_n 3, 1) := by decide +kernel
theorem dX4_readyTick_2 : decode cX4_readyTick 2 = .ok (.iconst 0, 1) := by decide +kernel
theorem dX4_readyTick_3 : decode cX4_readyTick 3 = .ok (.istore 4, 2) := by decide +kernel
theorem dX4_readyTick_5 : decode cX4_readyTick 5 = .ok (.iload 4, 2) := by decide +kernel
theorem dX4_readyTick_7 : decode cX4_readyTick 7 = .ok (.iload_n 1, 1) := by decide +kernel
theorem dX4_readyTick_8 : decode cX4_readyTick 8 = .ok (.if_icmp .ge 35, 3) := by decide +kernel
theorem dX4_readyTick_11 : decode cX4_readyTick 11 = .ok (.aload_n 0, 1) := by decide +kernel
theorem dX4_readyTick_12 : decode cX4_readyTick 12 = .ok (.iload 4, 2) := by decide +kernel
theorem dX4_readyTick_14 : decode cX4_readyTick 14 = .ok (.iload_n 1, 1) := by decide +kernel
theorem dX4_readyTick_15 : decode cX4_readyTick 15 = .ok (.invokevirtual 85, 3) := by decide +kernel
theorem dX4_readyTick_18 : decode cX4_readyTick 18 = .ok (.istore 5, 2) := by decide +kernel
theorem dX4_readyTick_20 : decode cX4_readyTick 20 = .ok (.iload 5, 2) := by decide +kernel
theorem dX4_readyTick_22 : decode cX4_readyTick 22 = .ok (.ifCond .le 15, 3) := by decide +kernel
theorem dX4_readyTick_25 : decode cX4_readyTick 25 = .ok (.iload_n 3, 1) := by decide +kernel
theorem dX4_readyTick_26 : decode cX4_readyTick 26 = .ok (.aload_n 2, 1) := by decide +kernel
theorem dX4_readyTick_27 : decode cX4_readyTick 27 = .ok (.iload 4, 2) := by decide +kernel
theorem dX4_readyTick_29 : decode cX4_readyTick 29 = .ok (.iaload, 1) := by decide +kernel
theorem dX4_readyTick_30 : decode cX4_readyTick 30 = .ok (.iload 5, 2) := by decide +kernel
theorem dX4_readyTick_32 : decode cX4_readyTick 32 = .ok (.iadd, 1) := by decide +kernel
theorem dX4_readyTick_33 : decode cX4_readyTick 33 = .ok (.invokestatic 55, 3) := by decide +kernel
theorem dX4_readyTick_36 : decode cX4_readyTick 36 = .ok (.istore_n 3, 1) := by decide +kernel
theorem dX4_readyTick_37 : decode cX4_readyTick 37 = .ok (.iinc 4 1, 3) := by decide +kernel
theorem dX4_readyTick_40 : decode cX4_readyTick 40 = .ok (.goto (-35), 3) := by decide +kernel
theorem dX4_readyTick_43 : decode cX4_readyTick 43 = .ok (.iload_n 3, 1) := by decide +kernel
theorem dX4_readyTick_44 : decode cX4_readyTick 44 = .ok (.ireturn, 1) := by decide +kernel
theorem dX4_tightest_0 : decode cX4_tightest 0 = .ok (.iconst 0, 1) := by decide +kernel
theorem dX4_tightest_1 : decode cX4_tightest 1 = .ok (.istore_n 3, 1) := by decide +kernel
theorem dX4_tightest_2 : decode cX4_tightest 2 = .ok (.iload_n 3, 1) := by decide +kernel
theorem dX4_tightest_3 : decode cX4_tightest 3 = .ok (.iload_n 1, 1) := by decide +kernel
theorem dX4_tightest_4 : decode cX4_tightest 4 = .ok (.if_icmp .ge 36, 3) := by decide +kernel
theorem dX4_tightest_7 : decode cX4_tightest 7 = .ok (.aload_n 0, 1) := by decide +kernel
theorem dX4_tightest_8 : decode cX4_tightest 8 = .ok (.iload_n 3, 1) := by decide +kernel
theorem dX4_tightest_9 : decode cX4_tightest 9 = .ok (.iload_n 1, 1) := by decide +kernel
theorem dX4_tightest_10 : decode cX4_tightest 10 = .ok (.invokevirtual 85, 3) := by decide +kernel
theorem dX4_tightest_13 : decode cX4_tightest 13 = .ok (.istore 4, 2) := by decide +kernel
theorem dX4_tightest_15 : decode cX4_tightest 15 = .ok (.iload 4, 2) := by decide +kernel
theorem dX4_tightest_17 : decode cX4_tightest 17 = .ok (.ifCond .le 17, 3) := by decide +kernel
theorem dX4_tightest_20 : decode cX4_tightest 20 = .ok (.aload_n 2, 1) := by decide +kernel
theorem dX4_tightest_21 : decode cX4_tightest 21 = .ok (.iload_n 3, 1) := by decide +kernel
theorem dX4_tightest_22 : decode cX4_tightest 22 = .ok (.iaload, 1) := by decide +kernel
theorem dX4_tightest_23 : decode cX4_tightest 23 = .ok (.iload 4, 2) := by decide +kernel
theorem dX4_tightest_25 : decode cX4_tightest 25 = .ok (.iadd, 1) := by decide +kernel
theorem dX4_tightest_26 : decode cX4_tightest 26 = .ok (.aload_n 2, 1) := by decide +kernel
theorem dX4_tightest_27 : decode cX4_tightest 27 = .ok (.iload_n 1, 1) := by decide +kernel
theorem dX4_tightest_28 : decode cX4_tightest 28 = .ok (.iaload, 1) := by decide +kernel
theorem dX4_tightest_29 : decode cX4_tightest 29 = .ok (.if_icmp .ne 5, 3) := by decide +kernel
theorem dX4_tightest_32 : decode cX4_tightest 32 = .ok (.iload_n 3, 1) := by decide +kernel
theorem dX4_tightest_33 : decode cX4_tightest 33 = .ok (.ireturn, 1) := by decide +kernel
theorem dX4_tightest_34 : decode cX4_tightest 34 = .ok (.iinc 3 1, 3) := by decide +kernel
theorem dX4_tightest_37 : decode cX4_tightest 37 = .ok (.goto (-35), 3) := by decide +kernel
theorem dX4_tightest_40 : decode cX4_tightest 40 = .ok (.bipush (-2), 2) := by decide +kernel
theorem dX4_tightest_42 : decode cX4_tightest 42 = .ok (.ireturn, 1) := by decide +kernel
theorem dX4_ticksWithAllParts_0 : decode cX4_ticksWithAllParts 0 = .ok (.iconst 0, 1) := by decide +kernel
theorem dX4_ticksWithAllParts_1 : decode cX4_ticksWithAllParts 1 = .ok (.istore_n 1, 1) := by decide +kernel
theorem dX4_ticksWithAllParts_2 : decode cX4_ticksWithAllParts 2 = .ok (.iconst 0, 1) := by decide +kernel
theorem dX4_ticksWithAllParts_3 : decode cX4_ticksWithAllParts 3 = .ok (.istore_n 2, 1) := by decide +kernel
theorem dX4_ticksWithAllParts_4 : decode cX4_ticksWithAllParts 4 = .ok (.iload_n 2, 1) := by decide +kernel
theorem dX4_ticksWithAllParts_5 : decode cX4_ticksWithAllParts 5 = .ok (.aload_n 0, 1) := by decide +kernel
theorem dX4_ticksWithAllParts_6 : decode cX4_ticksWithAllParts 6 = .ok (.getfield 15, 3) := by decide +kernel
theorem dX4_ticksWithAllParts_9 : decode cX4_ticksWithAllParts 9 = .ok (.invokevirtual 88, 3) := by decide +kernel
theorem dX4_ticksWithAllParts_12 : decode cX4_ticksWithAllParts 12 = .ok (.if_icmp .ge 51, 3) := by decide +kernel
theorem dX4_ticksWithAllParts_15 : decode cX4_ticksWithAllParts 15 = .ok (.aload_n 0, 1) := by decide +kernel
theorem dX4_ticksWithAllParts_16 : decode cX4_ticksWithAllParts 16 = .ok (.getfield 9, 3) := by decide +kernel
theorem dX4_ticksWithAllParts_19 : decode cX4_ticksWithAllParts 19 = .ok (.iload_n 2, 1) := by decide +kernel
theorem dX4_ticksWithAllParts_20 : decode cX4_ticksWithAllParts 20 = .ok (.aload_n 0, 1) := by decide +kernel
theorem dX4_ticksWithAllParts_21 : decode cX4_ticksWithAllParts 21 = .ok (.iload_n 2, 1) := by decide +kernel
theorem dX4_ticksWithAllParts_22 : decode cX4_ticksWithAllParts 22 = .ok (.aload_n 0, 1) := by decide +kernel
theorem dX4_ticksWithAllParts_23 : decode cX4_ticksWithAllParts 23 = .ok (.getfield 9, 3) := by decide +kernel
theorem dX4_ticksWithAllParts_26 : decode cX4_ticksWithAllParts 26 = .ok (.invokevirtual 91, 3) := by decide +kernel
theorem dX4_ticksWithAllParts_29 : decode cX4_ticksWithAllParts 29 = .ok (.iastore, 1) := by decide +kernel
theorem dX4_ticksWithAllParts_30 : decode cX4_ticksWithAllParts 30 = .ok (.iload_n 1, 1) := by decide +kernel
theorem dX4_ticksWithAllParts_31 : decode cX4_ticksWithAllParts 31 = .ok (.aload_n 0, 1) := by decide +kernel
theorem dX4_ticksWithAllParts_32 : decode cX4_ticksWithAllParts 32 = .ok (.getfield 9, 3) := by decide +kernel
theorem dX4_ticksWithAllParts_35 : decode cX4_ticksWithAllParts 35 = .ok (.iload_n 2, 1) := by decide +kernel
theorem dX4_ticksWithAllParts_36 : decode cX4_ticksWithAllParts 36 = .ok (.iaload, 1) := by decide +kernel
theorem dX4_ticksWithAllParts_37 : decode cX4_ticksWithAllParts 37 = .ok (.aload_n 0, 1) := by decide +kernel
theorem dX4_ticksWithAllParts_38 : decode cX4_ticksWithAllParts 38 = .ok (.getfield 19, 3) := by decide +kernel
theorem dX4_ticksWithAllParts_41 : decode cX4_ticksWithAllParts 41 = .ok (.aload_n 0, 1) := by decide +kernel
theorem dX4_ticksWithAllParts_42 : decode cX4_ticksWithAllParts 42 = .ok (.getfield 15, 3) := by decide +kernel
theorem dX4_ticksWithAllParts_45 : decode cX4_ticksWithAllParts 45 = .ok (.iload_n 2, 1) := by decide +kernel
theorem dX4_ticksWithAllParts_46 : decode cX4_ticksWithAllParts 46 = .ok (.invokevirtual 23, 3) := by decide +kernel
theorem dX4_ticksWithAllParts_49 : decode cX4_ticksWithAllParts 49 = .ok (.invokevirtual 42, 3) := by decide +kernel
theorem dX4_ticksWithAllParts_52 : decode cX4_ticksWithAllParts 52 = .ok (.iadd, 1) := by decide +kernel
theorem dX4_ticksWithAllParts_53 : decode cX4_ticksWithAllParts 53 = .ok (.invokestatic 55, 3) := by decide +kernel
theorem dX4_ticksWithAllParts_56 : decode cX4_ticksWithAllParts 56 = .ok (.istore_n 1, 1) := by decide +kernel
theorem dX4_ticksWithAllParts_57 : decode cX4_ticksWithAllParts 57 = .ok (.iinc 2 1, 3) := by decide +kernel
theorem dX4_ticksWithAllParts_60 : decode cX4_ticksWithAllParts 60 = .ok (.goto (-56), 3) := by decide +kernel
theorem dX4_ticksWithAllParts_63 : decode cX4_ticksWithAllParts 63 = .ok (.iload_n 1, 1) := by decide +kernel
theorem dX4_ticksWithAllParts_64 : decode cX4_ticksWithAllParts 64 = .ok (.ireturn, 1) := by decide +kernel
theorem dX5_init_0 : decode cX5_init 0 = .ok (.aload_n 0, 1) := by decide +kernel
theorem dX5_init_1 : decode cX5_init 1 = .ok (.invokespecial 3, 3) := by decide +kernel
theorem dX5_init_4 : decode cX5_init 4 = .ok (.aload_n 0, 1) := by decide +kernel
theorem dX5_init_5 : decode cX5_init 5 = .ok (.bipush 16, 2) := by decide +kernel
theorem dX5_init_7 : decode cX5_init 7 = .ok (.newarray .int, 2) := by decide +kernel
theorem dX5_init_9 : decode cX5_init 9 = .ok (.putfield 9, 3) := by decide +kernel
theorem dX5_init_12 : decode cX5_init 12 = .ok (.aload_n 0, 1) := by decide +kernel
theorem dX5_init_13 : decode cX5_init 13 = .ok (.bipush 16, 2) := by decide +kernel
theorem dX5_init_15 : decode cX5_init 15 = .ok (.newarray .int, 2) := by decide +kernel
theorem dX5_init_17 : decode cX5_init 17 = .ok (.putfield 15, 3) := by decide +kernel
theorem dX5_init_20 : decode cX5_init 20 = .ok (.aload_n 0, 1) := by decide +kernel
theorem dX5_init_21 : decode cX5_init 21 = .ok (.bipush 16, 2) := by decide +kernel
theorem dX5_init_23 : decode cX5_init 23 = .ok (.newarray .int, 2) := by decide +kernel
theorem dX5_init_25 : decode cX5_init 25 = .ok (.putfield 18, 3) := by decide +kernel
theorem dX5_init_28 : decode cX5_init 28 = .ok (.aload_n 0, 1) := by decide +kernel
theorem dX5_init_29 : decode cX5_init 29 = .ok (.iconst 0, 1) := by decide +kernel
theorem dX5_init_30 : decode cX5_init 30 = .ok (.putfield 21, 3) := by decide +kernel
theorem dX5_init_33 : decode cX5_init 33 = .ok (.aload_n 0, 1) := by decide +kernel
theorem dX5_init_34 : decode cX5_init 34 = .ok (.aload_n 1, 1) := by decide +kernel
theorem dX5_init_35 : decode cX5_init 35 = .ok (.putfield 25, 3) := by decide +kernel
theorem dX5_init_38 : decode cX5_init 38 = .ok (.aload_n 0, 1) := by decide +kernel
theorem dX5_init_39 : decode cX5_init 39 = .ok (.aload_n 2, 1) := by decide +kernel
theorem dX5_init_40 : decode cX5_init 40 = .ok (.putfield 29, 3) := by decide +kernel
theorem dX5_init_43 : decode cX5_init 43 = .ok (.aload_n 0, 1) := by decide +kernel
theorem dX5_init_44 : decode cX5_init 44 = .ok (.aload_n 3, 1) := by decide +kernel
theorem dX5_init_45 : decode cX5_init 45 = .ok (.putfield 33, 3) := by decide +kernel
theorem dX5_init_48 : decode cX5_init 48 = .ok (.return_, 1) := by decide +kernel
theorem dX5_layActs_0 : decode cX5_layActs 0 = .ok (.aload_n 0, 1) := by decide +kernel
theorem dX5_layActs_1 : decode cX5_layActs 1 = .ok (.iconst 0, 1) := by decide +kernel
theorem dX5_layActs_2 : decode cX5_layActs 2 = .ok (.putfield 21, 3) := by decide +kernel
theorem dX5_layActs_5 : decode cX5_layActs 5 = .ok (.iconst 0, 1) := by decide +kernel
theorem dX5_layActs_6 : decode cX5_layActs 6 = .ok (.istore_n 1, 1) := by decide +kernel
theorem dX5_layActs_7 : decode cX5_layActs 7 = .ok (.iload_n 1, 1) := by decide +kernel
theorem dX5_layActs_8 : decode cX5_layActs 8 = .ok (.aload_n 0, 1) := by decide +kernel
theorem dX5_layActs_9 : decode cX5_layActs 9 = .ok (.getfield 25, 3) := by decide +kernel
theorem dX5_layActs_12 : decode cX5_layActs 12 = .ok (.invokevirtual 37, 3) := by decide +kernel
theorem dX5_layActs_15 : decode cX5_layActs 15 = .ok (.if_icmp .ge 64, 3) := by decide +kernel
theorem dX5_layActs_18 : decode cX5_layActs 18 = .ok (.aload_n 0, 1) := by decide +kernel
theorem dX5_layActs_19 : decode cX5_layActs 19 = .ok (.iload_n 1, 1) := by decide +kernel
theorem dX5_layActs_20 : decode cX5_layActs 20 = .ok (.aload_n 0, 1) := by decide +kernel
theorem dX5_layActs_21 : decode cX5_layActs 21 = .ok (.getfield 33, 3) := by decide +kernel
theorem dX5_layActs_24 : decode cX5_layActs 24 = .ok (.iload_n 1, 1) := by decide +kernel
theorem dX5_layActs_25 : decode cX5_layActs 25 = .ok (.aload_n 0, 1) := by decide +kernel
theorem dX5_layActs_26 : decode cX5_layActs 26 = .ok (.getfield 9, 3) := by decide +kernel
theorem dX5_layActs_29 : decode cX5_layActs 29 = .ok (.invokevirtual 43, 3) := by decide +kernel
theorem dX5_layActs_32 : decode cX5_layActs 32 = .ok (.invokevirtual 49, 3) := by decide +kernel
theorem dX5_layActs_35 : decode cX5_layActs 35 = .ok (.aload_n 0, 1) := by decide +kernel
theorem dX5_layActs_36 : decode cX5_layActs 36 = .ok (.aload_n 0, 1) := by decide +kernel
theorem dX5_layActs_37 : decode cX5_layActs 37 = .ok (.getfield 21, 3) := by decide +kernel
theorem dX5_layActs_40 : decode cX5_layActs 40 = .ok (.aload_n 0, 1) := by decide +kernel
theorem dX5_layActs_41 : decode cX5_layActs 41 = .ok (.getfield 9, 3) := by decide +kernel
theorem dX5_layActs_44 : decode cX5_layActs 44 = .ok (.iload_n 1, 1) := by decide +kernel
theorem dX5_layActs_45 : decode cX5_layActs 45 = .ok (.iaload, 1) := by decide +kernel
theorem dX5_layActs_46 : decode cX5_layActs 46 = .ok (.aload_n 0, 1) := by decide +kernel
theorem dX5_layActs_47 : decode cX5_layActs 47 = .ok (.getfield 29, 3) := by decide +kernel
theorem dX5_layActs_50 : decode cX5_layActs 50 = .ok (.aload_n 0, 1) := by decide +kernel
theorem dX5_layActs_51 : decode cX5_layActs 51 = .ok (.getfield 25, 3) := by decide +kernel
theorem dX5_layActs_54 : decode cX5_layActs 54 = .ok (.iload_n 1, 1) := by decide +kernel
theorem dX5_layActs_55 : decode cX5_layActs 55 = .ok (.invokevirtual 53, 3) := by decide +kernel
theorem dX5_layActs_58 : decode cX5_layActs 58 = .ok (.invokevirtual 57, 3) := by decide +kernel
theorem dX5_layActs_61 : decode cX5_layActs 61 = .ok (.iadd, 1) := by decide +kernel
theorem dX5_layActs_62 : decode cX5_layActs 62 = .ok (.invokestatic 63, 3) := by decide +kernel
theorem dX5_layActs_65 : decode cX5_layActs 65 = .ok (.putfield 21, 3) := by decide +kernel
theorem dX5_layActs_68 : decode cX5_layActs 68 = .ok (.aload_n 0, 1) := by decide +kernel
theorem dX5_layActs_69 : decode cX5_layActs 69 = .ok (.iload_n 1, 1) := by decide +kernel
theorem dX5_layActs_70 : decode cX5_layActs 70 = .ok (.invokevirtual 69, 3) := by decide +kernel
theorem dX5_layActs_73 : decode cX5_layActs 73 = .ok (.iinc 1 1, 3) := by decide +kernel
theorem dX5_layActs_76 : decode cX5_layActs 76 = .ok (.goto (-69), 3) := by decide +kernel
theorem dX5_layActs_79 : decode cX5_layActs 79 = .ok (.return_, 1) := by decide +kernel
theorem dX5_seat_0 : decode cX5_seat 0 = .ok (.aload_n 0, 1) := by decide +kernel
theorem dX5_seat_1 : decode cX5_seat 1 = .ok (.getfield 25, 3) := by decide +kernel
theorem dX5_seat_4 : decode cX5_seat 4 = .ok (.iload_n 1, 1) := by decide +kernel
theorem dX5_seat_5 : decode cX5_seat 5 = .ok (.invokevirtual 53, 3) := by decide +kernel
theorem dX5_seat_8 : decode cX5_seat 8 = .ok (.invokevirtual 73, 3) := by decide +kernel
theorem dX5_seat_11 : decode cX5_seat 11 = .ok (.istore_n 3, 1) := by decide +kernel
theorem dX5_seat_12 : decode cX5_seat 12 = .ok (.aload_n 0, 1) := by decide +kernel
theorem dX5_seat_13 : decode cX5_seat 13 = .ok (.getfield 9, 3) := by decide +kernel
theorem dX5_seat_16 : decode cX5_seat 16 = .ok (.iload_n 1, 1) := by decide +kernel
theorem dX5_seat_17 : decode cX5_seat 17 = .ok (.iload_n 2, 1) := by decide +kernel
theorem dX5_seat_18 : decode cX5_seat 18 = .ok (.iastore, 1) := by decide +kernel
theorem dX5_seat_19 : decode cX5_seat 19 = .ok (.aload_n 0, 1) := by decide +kernel
theorem dX5_seat_20 : decode cX5_seat 20 = .ok (.getfield 15, 3) := by decide +kernel
theorem dX5_seat_23 : decode cX5_seat 23 = .ok (.iload_n 1, 1) := by decide +kernel
theorem dX5_seat_24 : decode cX5_seat 24 = .ok (.bipush (-2), 2) := by decide +kernel
theorem dX5_seat_26 : decode cX5_seat 26 = .ok (.iastore, 1) := by decide +kernel
theorem dX5_seat_27 : decode cX5_seat 27 = .ok (.iload_n 3, 1) := by decide +kernel
theorem dX5_seat_28 : decode cX5_seat 28 = .ok (.bipush (-2), 2) := by decide +kernel
theorem dX5_seat_30 : decode cX5_seat 30 = .ok (.if_icmp .ne 4, 3) := by decide +kernel
theorem dX5_seat_33 : decode cX5_seat 33 = .ok (.return_, 1) := by decide +kernel
theorem dX5_seat_34 : decode cX5_seat 34 = .ok (.iload_n 2, 1) := by decide +kernel
theorem dX5_seat_35 : decode cX5_seat 35 = .ok (.aload_n 0, 1) := by decide +kernel
theorem dX5_seat_36 : decode cX5_seat 36 = .ok (.getfield 21, 3) := by decide +kernel
theorem dX5_seat_39 : decode cX5_seat 39 = .ok (.invokestatic 63, 3) := by decide +kernel
theorem dX5_seat_42 : decode cX5_seat 42 = .ok (.istore 4, 2) := by decide +kernel
theorem dX5_seat_44 : decode cX5_seat 44 = .ok (.iload_n 2, 1) := by decide +kernel
theorem dX5_seat_45 : decode cX5_seat 45 = .ok (.istore 5, 2) := by decide +kernel
theorem dX5_seat_47 : decode cX5_seat 47 = .ok (.iload 5, 2) := by decide +kernel
theorem dX5_seat_49 : decode cX5_seat 49 = .ok (.iload 4, 2) := by decide +kernel
theorem dX5_seat_51 : decode cX5_seat 51 = .ok (.if_icmp .gt 42, 3) := by decide +kernel
theorem dX5_seat_54 : decode cX5_seat 54 = .ok (.aload_n 0, 1) := by decide +kernel
theorem dX5_seat_55 : decode cX5_seat 55 = .ok (.getfield 15, 3) := by decide +kernel
theorem dX5_seat_58 : decode cX5_seat 58 = .ok (.iload_n 1, 1) := by decide +kernel
theorem dX5_seat_59 : decode cX5_seat 59 = .ok (.iaload, 1) := by decide +kernel
theorem dX5_seat_60 : decode cX5_seat 60 = .ok (.bipush (-2), 2) := by decide +kernel
theorem dX5_seat_62 : decode cX5_seat 62 = .ok (.if_icmp .ne 31, 3) := by decide +kernel
theorem dX5_seat_65 : decode cX5_seat 65 = .ok (.aload_n 0, 1) := by decide +kernel
theorem dX5_seat_66 : decode cX5_seat 66 = .ok (.getfield 9, 3) := by decide +kernel
theorem dX5_seat_69 : decode cX5_seat 69 = .ok (.iload_n 1, 1) := by decide +kernel
theorem dX5_seat_70 : decode cX5_seat 70 = .ok (.iload 5, 2) := by decide +kernel
theorem dX5_seat_72 : decode cX5_seat 72 = .ok (.iastore, 1) := by decide +kernel
theorem dX5_seat_73 : decode cX5_seat 73 = .ok (.aload_n 0, 1) := by decide +kernel
theorem dX5_seat_74 : decode cX5_seat 74 = .ok (.getfield 15, 3) := by decide +kernel
theorem dX5_seat_77 : decode cX5_seat 77 = .ok (.iload_n 1, 1) := by decide +kernel
theorem dX5_seat_78 : decode cX5_seat 78 = .ok (.aload_n 0, 1) := by decide +kernel
theorem dX5_seat_79 : decode cX5_seat 79 = .ok (.iload_n 1, 1) := by decide +kernel
theorem dX5_seat_80 : decode cX5_seat 80 = .ok (.iload_n 3, 1) := by decide +kernel
theorem dX5_seat_81 : decode cX5_seat 81 = .ok (.iload 5, 2) := by decide +kernel
theorem dX5_seat_83 : decode cX5_seat 83 = .ok (.invokevirtual 78, 3) := by decide +kernel
theorem dX5_seat_86 : decode cX5_seat 86 = .ok (.iastore, 1) := by decide +kernel
theorem dX5_seat_87 : decode cX5_seat 87 = .ok (.iinc 5 1, 3) := by decide +kernel
theorem dX5_seat_90 : decode cX5_seat 90 = .ok (.goto (-43), 3) := by decide +kernel
theorem dX5_seat_93 : decode cX5_seat 93 = .ok (.return_, 1) := by decide +kernel
theorem dX5_freePart_0 : decode cX5_freePart 0 = .ok (.iconst 0, 1) := by decide +kernel
theorem dX5_freePart_1 : decode cX5_freePart 1 = .ok (.istore 4, 2) := by decide +kernel
theorem dX5_freePart_3 : decode cX5_freePart 3 = .ok (.iload 4, 2) := by decide +kernel
theorem dX5_freePart_5 : decode cX5_freePart 5 = .ok (.aload_n 0, 1) := by decide +kernel
theorem dX5_freePart_6 : decode cX5_freePart 6 = .ok (.getfield 29, 3) := by decide +kernel
theorem dX5_freePart_9 : decode cX5_freePart 9 = .ok (.getfield 82, 3) := by decide +kernel
theorem dX5_freePart_12 : decode cX5_freePart 12 = .ok (.iload_n 2, 1) := by decide +kernel
theorem dX5_freePart_13 : decode cX5_freePart 13 = .ok (.iaload, 1) := by decide +kernel
theorem dX5_freePart_14 : decode cX5_freePart 14 = .ok (.if_icmp .ge 24, 3) := by decide +kernel
theorem dX5_freePart_17 : decode cX5_freePart 17 = .ok (.aload_n 0, 1) := by decide +kernel
theorem dX5_freePart_18 : decode cX5_freePart 18 = .ok (.iload_n 1, 1) := by decide +kernel
theorem dX5_freePart_19 : decode cX5_freePart 19 = .ok (.iload_n 2, 1) := by decide +kernel
theorem dX5_freePart_20 : decode cX5_freePart 20 = .ok (.iload 4, 2) := by decide +kernel
theorem dX5_freePart_22 : decode cX5_freePart 22 = .ok (.iload_n 3, 1) := by decide +kernel
theorem dX5_freePart_23 : decode cX5_freePart 23 = .ok (.invokevirtual 85, 3) := by decide +kernel
theorem dX5_freePart_26 : decode cX5_freePart 26 = .ok (.ifCond .eq 6, 3) := by decide +kernel
theorem dX5_freePart_29 : decode cX5_freePart 29 = .ok (.iload 4, 2) := by decide +kernel
theorem dX5_freePart_31 : decode cX5_freePart 31 = .ok (.ireturn, 1) := by decide +kernel
theorem dX5_freePart_32 : decode cX5_freePart 32 = .ok (.iinc 4 1, 3) := by decide +kernel
theorem dX5_freePart_35 : decode cX5_freePart 35 = .ok (.goto (-32), 3) := by decide +kernel
theorem dX5_freePart_38 : decode cX5_freePart 38 = .ok (.bipush (-2), 2) := by decide +kernel
theorem dX5_freePart_40 : decode cX5_freePart 40 = .ok (.ireturn, 1) := by decide +kernel
theorem dX5_isFree_0 : decode cX5_isFree 0 = .ok (.aload_n 0, 1) := by decide +kernel
theorem dX5_isFree_1 : decode cX5_isFree 1 = .ok (.getfield 29, 3) := by decide +kernel
theorem dX5_isFree_4 : decode cX5_isFree 4 = .ok (.iload_n 2, 1) := by decide +kernel
theorem dX5_isFree_5 : decode cX5_isFree 5 = .ok (.invokevirtual 89, 3) := by decide +kernel
theorem dX5_isFree_8 : decode cX5_isFree 8 = .ok (.istore 5, 2) := by decide +kernel
theorem dX5_isFree_10 : decode cX5_isFree 10 = .ok (.iconst 0, 1) := by decide +kernel
theorem dX5_isFree_11 : decode cX5_isFree 11 = .ok (.istore 6, 2) := by decide +kernel
theorem dX5_isFree_13 : decode cX5_isFree 13 = .ok (.iload 6, 2) := by decide +kernel
theorem dX5_isFree_15 : decode cX5_isFree 15 = .ok (.iload_n 1, 1) := by decide +kernel
theorem dX5_isFree_16 : decode cX5_isFree 16 = .ok (.if_icmp .ge 80, 3) := by decide +kernel
theorem dX5_isFree_19 : decode cX5_isFree 19 = .ok (.aload_n 0, 1) := by decide +kernel
theorem dX5_isFree_20 : decode cX5_isFree 20 = .ok (.getfield 15, 3) := by decide +kernel
theorem dX5_isFree_23 : decode cX5_isFree 23 = .ok (.iload 6, 2) := by decide +kernel
theorem dX5_isFree_25 : decode cX5_isFree 25 = .ok (.iaload, 1) := by decide +kernel
theorem dX5_isFree_26 : decode cX5_isFree 26 = .ok (.iload_n 3, 1) := by decide +kernel
theorem dX5_isFree_27 : decode cX5_isFree 27 = .ok (.if_icmp .ne 23, 3) := by decide +kernel
theorem dX5_isFree_30 : decode cX5_isFree 30 = .ok (.aload_n 0, 1) := by decide +kernel
theorem dX5_isFree_31 : decode cX5_isFree 31 = .ok (.getfield 25, 3) := by decide +kernel
theorem dX5_isFree_34 : decode cX5_isFree 34 = .ok (.iload 6, 2) := by decide +kernel
theorem dX5_isFree_36 : decode cX5_isFree 36 = .ok (.invokevirtual 53, 3) := by decide +kernel
theorem dX5_isFree_39 : decode cX5_isFree 39 = .ok (.invokevirtual 73, 3) := by decide +kernel
theorem dX5_isFree_42 : decode cX5_isFree 42 = .ok (.iload_n 2, 1) := by decide +kernel
theorem dX5_isFree_43 : decode cX5_isFree 43 = .ok (.if_icmp .ne 7, 3) := by decide +kernel
theorem dX5_isFree_46 : decode cX5_isFree 46 = .ok (.iconst 1, 1) := by decide +kernel
theorem dX5_isFree_47 : decode cX5_isFree 47 = .ok (.goto 4, 3) := by decide +kernel
theorem dX5_isFree_50 : decode cX5_isFree 50 = .ok (.iconst 0, 1) := by decide +kernel
theorem dX5_isFree_51 : decode cX5_isFree 51 = .ok (.istore 7, 2) := by decide +kernel
theorem dX5_isFree_53 : decode cX5_isFree 53 = .ok (.iload 7, 2) := by decide +kernel
theorem dX5_isFree_55 : decode cX5_isFree 55 = .ok (.ifCond .eq 35, 3) := by decide +kernel
theorem dX5_isFree_58 : decode cX5_isFree 58 = .ok (.aload_n 0, 1) := by decide +kernel
theorem dX5_isFree_59 : decode cX5_isFree 59 = .ok (.getfield 9, 3) := by decide +kernel
theorem dX5_isFree_62 : decode cX5_isFree 62 = .ok (.iload 6, 2) := by decide +kernel
theorem dX5_isFree_64 : decode cX5_isFree 64 = .ok (.iaload, 1) := by decide +kernel
theorem dX5_isFree_65 : decode cX5_isFree 65 = .ok (.iload 4, 2) := by decide +kernel
theorem dX5_isFree_67 : decode cX5_isFree 67 = .ok (.iload 5, 2) := by decide +kernel
theorem dX5_isFree_69 : decode cX5_isFree 69 = .ok (.iadd, 1) := by decide +kernel
theorem dX5_isFree_70 : decode cX5_isFree 70 = .ok (.if_icmp .ge 20, 3) := by decide +kernel
theorem dX5_isFree_73 : decode cX5_isFree 73 = .ok (.iload 4, 2) := by decide +kernel
theorem dX5_isFree_75 : decode cX5_isFree 75 = .ok (.aload_n 0, 1) := by decide +kernel
theorem dX5_isFree_76 : decode cX5_isFree 76 = .ok (.getfield 9, 3) := by decide +kernel
theorem dX5_isFree_79 : decode cX5_isFree 79 = .ok (.iload 6, 2) := by decide +kernel
theorem dX5_isFree_81 : decode cX5_isFree 81 = .ok (.iaload, 1) := by decide +kernel
theorem dX5_isFree_82 : decode cX5_isFree 82 = .ok (.iload 5, 2) := by decide +kernel
theorem dX5_isFree_84 : decode cX5_isFree 84 = .ok (.iadd, 1) := by decide +kernel
theorem dX5_isFree_85 : decode cX5_isFree 85 = .ok (.if_icmp .ge 5, 3) := by decide +kernel
theorem dX5_isFree_88 : decode cX5_isFree 88 = .ok (.iconst 0, 1) := by decide +kernel
theorem dX5_isFree_89 : decode cX5_isFree 89 = .ok (.ireturn, 1) := by decide +kernel
theorem dX5_isFree_90 : decode cX5_isFree 90 = .ok (.iinc 6 1, 3) := by decide +kernel
theorem dX5_isFree_93 : decode cX5_isFree 93 = .ok (.goto (-80), 3) := by decide +kernel
theorem dX5_isFree_96 : decode cX5_isFree 96 = .ok (.iconst 1, 1) := by decide +kernel
theorem dX5_isFree_97 : decode cX5_isFree 97 = .ok (.ireturn, 1) := by decide +kernel
theorem dX5_putInOrder_0 : decode cX5_putInOrder 0 = .ok (.iload_n 1, 1) := by decide +kernel
theorem dX5_putInOrder_1 : decode cX5_putInOrder 1 = .ok (.istore_n 2, 1) := by decide +kernel
theorem dX5_putInOrder_2 : decode cX5_putInOrder 2 = .ok (.iload_n 2, 1) := by decide +kernel
theorem dX5_putInOrder_3 : decode cX5_putInOrder 3 = .ok (.ifCond .le 45, 3) := by decide +kernel
theorem dX5_putInOrder_6 : decode cX5_putInOrder 6 = .ok (.aload_n 0, 1) := by decide +kernel
theorem dX5_putInOrder_7 : decode cX5_putInOrder 7 = .ok (.getfield 9, 3) := by decide +kernel
theorem dX5_putInOrder_10 : decode cX5_putInOrder 10 = .ok (.aload_n 0, 1) := by decide +kernel
theorem dX5_putInOrder_11 : decode cX5_putInOrder 11 = .ok (.getfield 18, 3) := by decide +kernel
theorem dX5_putInOrder_14 : decode cX5_putInOrder 14 = .ok (.iload_n 2, 1) := by decide +kernel
theorem dX5_putInOrder_15 : decode cX5_putInOrder 15 = .ok (.iconst 1, 1) := by decide +kernel
theorem dX5_putInOrder_16 : decode cX5_putInOrder 16 = .ok (.isub, 1) := by decide +kernel
theorem dX5_putInOrder_17 : decode cX5_putInOrder 17 = .ok (.iaload, 1) := by decide +kernel
theorem dX5_putInOrder_18 : decode cX5_putInOrder 18 = .ok (.iaload, 1) := by decide +kernel
theorem dX5_putInOrder_19 : decode cX5_putInOrder 19 = .ok (.aload_n 0, 1) := by decide +kernel
theorem dX5_putInOrder_20 : decode cX5_putInOrder 20 = .ok (.getfield 9, 3) := by decide +kernel
theorem dX5_putInOrder_23 : decode cX5_putInOrder 23 = .ok (.iload_n 1, 1) := by decide +kernel
theorem dX5_putInOrder_24 : decode cX5_putInOrder 24 = .ok (.iaload, 1) := by decide +kernel
theorem dX5_putInOrder_25 : decode cX5_putInOrder 25 = .ok (.if_icmp .le 23, 3) := by decide +kernel
theorem dX5_putInOrder_28 : decode cX5_putInOrder 28 = .ok (.aload_n 0, 1) := by decide +kernel
theorem dX5_putInOrder_29 : decode cX5_putInOrder 29 = .ok (.getfield 18, 3) := by decide +kernel
theorem dX5_putInOrder_32 : decode cX5_putInOrder 32 = .ok (.iload_n 2, 1) := by decide +kernel
theorem dX5_putInOrder_33 : decode cX5_putInOrder 33 = .ok (.aload_n 0, 1) := by decide +kernel
theorem dX5_putInOrder_34 : decode cX5_putInOrder 34 = .ok (.getfield 18, 3) := by decide +kernel
theorem dX5_putInOrder_37 : decode cX5_putInOrder 37 = .ok (.iload_n 2, 1) := by decide +kernel
theorem dX5_putInOrder_38 : decode cX5_putInOrder 38 = .ok (.iconst 1, 1) := by decide +kernel
theorem dX5_putInOrder_39 : decode cX5_putInOrder 39 = .ok (.isub, 1) := by decide +kernel
theorem dX5_putInOrder_40 : decode cX5_putInOrder 40 = .ok (.iaload, 1) := by decide +kernel
theorem dX5_putInOrder_41 : decode cX5_putInOrder 41 = .ok (.iastore, 1) := by decide +kernel
theorem dX5_putInOrder_42 : decode cX5_putInOrder 42 = .ok (.iinc 2 (-1), 3) := by decide +kernel
theorem dX5_putInOrder_45 : decode cX5_putInOrder 45 = .ok (.goto (-43), 3) := by decide +kernel
theorem dX5_putInOrder_48 : decode cX5_putInOrder 48 = .ok (.aload_n 0, 1) := by decide +kernel
theorem dX5_putInOrder_49 : decode cX5_putInOrder 49 = .ok (.getfield 18, 3) := by decide +kernel
theorem dX5_putInOrder_52 : decode cX5_putInOrder 52 = .ok (.iload_n 2, 1) := by decide +kernel
theorem dX5_putInOrder_53 : decode cX5_putInOrder 53 = .ok (.iload_n 1, 1) := by decide +kernel
theorem dX5_putInOrder_54 : decode cX5_putInOrder 54 = .ok (.iastore, 1) := by decide +kernel
theorem dX5_putInOrder_55 : decode cX5_putInOrder 55 = .ok (.return_, 1) := by decide +kernel
theorem dX5_beginner_0 : decode cX5_beginner 0 = .ok (.iconst 0, 1) := by decide +kernel
theorem dX5_beginner_1 : decode cX5_beginner 1 = .ok (.istore_n 3, 1) := by decide +kernel
theorem dX5_beginner_2 : decode cX5_beginner 2 = .ok (.iconst 0, 1) := by decide +kernel
theorem dX5_beginner_3 : decode cX5_beginner 3 = .ok (.istore 4, 2) := by decide +kernel
theorem dX5_beginner_5 : decode cX5_beginner 5 = .ok (.iload 4, 2) := by decide +kernel
theorem dX5_beginner_7 : decode cX5_beginner 7 = .ok (.aload_n 0, 1) := by decide +kernel
theorem dX5_beginner_8 : decode cX5_beginner 8 = .ok (.getfield 25, 3) := by decide +kernel
theorem dX5_beginner_11 : decode cX5_beginner 11 = .ok (.invokevirtual 37, 3) := by decide +kernel
theorem dX5_beginner_14 : decode cX5_beginner 14 = .ok (.if_icmp .ge 31, 3) := by decide +kernel
theorem dX5_beginner_17 : decode cX5_beginner 17 = .ok (.aload_n 0, 1) := by decide +kernel
theorem dX5_beginner_18 : decode cX5_beginner 18 = .ok (.getfield 9, 3) := by decide +kernel
theorem dX5_beginner_21 : decode cX5_beginner 21 = .ok (.iload 4, 2) := by decide +kernel
theorem dX5_beginner_23 : decode cX5_beginner 23 = .ok (.iaload, 1) := by decide +kernel
theorem dX5_beginner_24 : decode cX5_beginner 24 = .ok (.iload_n 1, 1) := by decide +kernel
theorem dX5_beginner_25 : decode cX5_beginner 25 = .ok (.if_icmp .ne 14, 3) := by decide +kernel
theorem dX5_beginner_28 : decode cX5_beginner 28 = .ok (.iload_n 3, 1) := by decide +kernel
theorem dX5_beginner_29 : decode cX5_beginner 29 = .ok (.iload_n 2, 1) := by decide +kernel
theorem dX5_beginner_30 : decode cX5_beginner 30 = .ok (.if_icmp .ne 6, 3) := by decide +kernel
theorem dX5_beginner_33 : decode cX5_beginner 33 = .ok (.iload 4, 2) := by decide +kernel
theorem dX5_beginner_35 : decode cX5_beginner 35 = .ok (.ireturn, 1) := by decide +kernel
theorem dX5_beginner_36 : decode cX5_beginner 36 = .ok (.iinc 3 1, 3) := by decide +kernel
theorem dX5_beginner_39 : decode cX5_beginner 39 = .ok (.iinc 4 1, 3) := by decide +kernel
theorem dX5_beginner_42 : decode cX5_beginner 42 = .ok (.goto (-37), 3) := by decide +kernel
theorem dX5_beginner_45 : decode cX5_beginner 45 = .ok (.bipush (-2), 2) := by decide +kernel
theorem dX5_beginner_47 : decode cX5_beginner 47 = .ok (.ireturn, 1) := by decide +kernel
theorem dX6_init_0 : decode cX6_init 0 = .ok (.aload_n 0, 1) := by decide +kernel
theorem dX6_init_1 : decode cX6_init 1 = .ok (.invokespecial 3, 3) := by decide +kernel
theorem dX6_init_4 : decode cX6_init 4 = .ok (.aload_n 0, 1) := by decide +kernel
theorem dX6_init_5 : decode cX6_init 5 = .ok (.bipush 16, 2) := by decide +kernel
theorem dX6_init_7 : decode cX6_init 7 = .ok (.newarray .int, 2) := by decide +kernel
theorem dX6_init_9 : decode cX6_init 9 = .ok (.putfield 9, 3) := by decide +kernel
theorem dX6_init_12 : decode cX6_init 12 = .ok (.aload_n 0, 1) := by decide +kernel
theorem dX6_init_13 : decode cX6_init 13 = .ok (.bipush 16, 2) := by decide +kernel
theorem dX6_init_15 : decode cX6_init 15 = .ok (.newarray .int, 2) := by decide +kernel
theorem dX6_init_17 : decode cX6_init 17 = .ok (.putfield 15, 3) := by decide +kernel
theorem dX6_init_20 : decode cX6_init 20 = .ok (.aload_n 0, 1) := by decide +kernel
theorem dX6_init_21 : decode cX6_init 21 = .ok (.bipush 16, 2) := by decide +kernel
theorem dX6_init_23 : decode cX6_init 23 = .ok (.newarray .int, 2) := by decide +kernel
theorem dX6_init_25 : decode cX6_init 25 = .ok (.putfield 18, 3) := by decide +kernel
theorem dX6_init_28 : decode cX6_init 28 = .ok (.aload_n 0, 1) := by decide +kernel
theorem dX6_init_29 : decode cX6_init 29 = .ok (.iconst 0, 1) := by decide +kernel
theorem dX6_init_30 : decode cX6_init 30 = .ok (.putfield 21, 3) := by decide +kernel
theorem dX6_init_33 : decode cX6_init 33 = .ok (.aload_n 0, 1) := by decide +kernel
theorem dX6_init_34 : decode cX6_init 34 = .ok (.aload_n 1, 1) := by decide +kernel
theorem dX6_init_35 : decode cX6_init 35 = .ok (.putfield 25, 3) := by decide +kernel
theorem dX6_init_38 : decode cX6_init 38 = .ok (.aload_n 0, 1) := by decide +kernel
theorem dX6_init_39 : decode cX6_init 39 = .ok (.aload_n 2, 1) := by decide +kernel
theorem dX6_init_40 : decode cX6_init 40 = .ok (.putfield 29, 3) := by decide +kernel
theorem dX6_init_43 : decode cX6_init 43 = .ok (.aload_n 0, 1) := by decide +kernel
theorem dX6_init_44 : decode cX6_init 44 = .ok (.aload_n 3, 1) := by decide +kernel
theorem dX6_init_45 : decode cX6_init 45 = .ok (.putfield 33, 3) := by decide +kernel
theorem dX6_init_48 : decode cX6_init 48 = .ok (.return_, 1) := by decide +kernel
theorem dX6_assign_0 : decode cX6_assign 0 = .ok (.aload_n 0, 1) := by decide +kernel
theorem dX6_assign_1 : decode cX6_assign 1 = .ok (.iconst 0, 1) := by decide +kernel
theorem dX6_assign_2 : decode cX6_assign 2 = .ok (.putfield 21, 3) := by decide +kernel
theorem dX6_assign_5 : decode cX6_assign 5 = .ok (.iconst 0, 1) := by decide +kernel
theorem dX6_assign_6 : decode cX6_assign 6 = .ok (.istore_n 1, 1) := by decide +kernel
theorem dX6_assign_7 : decode cX6_assign 7 = .ok (.iload_n 1, 1) := by decide +kernel
theorem dX6_assign_8 : decode cX6_assign 8 = .ok (.aload_n 0, 1) := by decide +kernel
theorem dX6_assign_9 : decode cX6_assign 9 = .ok (.getfield 25, 3) := by decide +kernel
theorem dX6_assign_12 : decode cX6_assign 12 = .ok (.invokevirtual 37, 3) := by decide +kernel
theorem dX6_assign_15 : decode cX6_assign 15 = .ok (.if_icmp .ge 22, 3) := by decide +kernel
theorem dX6_assign_18 : decode cX6_assign 18 = .ok (.aload_n 0, 1) := by decide +kernel
theorem dX6_assign_19 : decode cX6_assign 19 = .ok (.iload_n 1, 1) := by decide +kernel
theorem dX6_assign_20 : decode cX6_assign 20 = .ok (.invokevirtual 43, 3) := by decide +kernel
theorem dX6_assign_23 : decode cX6_assign 23 = .ok (.aload_n 0, 1) := by decide +kernel
theorem dX6_assign_24 : decode cX6_assign 24 = .ok (.getfield 18, 3) := by decide +kernel
theorem dX6_assign_27 : decode cX6_assign 27 = .ok (.iload_n 1, 1) := by decide +kernel
theorem dX6_assign_28 : decode cX6_assign 28 = .ok (.bipush (-2), 2) := by decide +kernel
theorem dX6_assign_30 : decode cX6_assign 30 = .ok (.iastore, 1) := by decide +kernel
theorem dX6_assign_31 : decode cX6_assign 31 = .ok (.iinc 1 1, 3) := by decide +kernel
theorem dX6_assign_34 : decode cX6_assign 34 = .ok (.goto (-27), 3) := by decide +kernel
theorem dX6_assign_37 : decode cX6_assign 37 = .ok (.iconst 0, 1) := by decide +kernel
theorem dX6_assign_38 : decode cX6_assign 38 = .ok (.istore_n 1, 1) := by decide +kernel
theorem dX6_assign_39 : decode cX6_assign 39 = .ok (.iload_n 1, 1) := by decide +kernel
theorem dX6_assign_40 : decode cX6_assign 40 = .ok (.aload_n 0, 1) := by decide +kernel
theorem dX6_assign_41 : decode cX6_assign 41 = .ok (.getfield 25, 3) := by decide +kernel
theorem dX6_assign_44 : decode cX6_assign 44 = .ok (.invokevirtual 37, 3) := by decide +kernel
theorem dX6_assign_47 : decode cX6_assign 47 = .ok (.if_icmp .ge 50, 3) := by decide +kernel
theorem dX6_assign_50 : decode cX6_assign 50 = .ok (.aload_n 0, 1) := by decide +kernel
theorem dX6_assign_51 : decode cX6_assign 51 = .ok (.invokevirtual 47, 3) := by decide +kernel
theorem dX6_assign_54 : decode cX6_assign 54 = .ok (.istore_n 2, 1) := by decide +kernel
theorem dX6_assign_55 : decode cX6_assign 55 = .ok (.iload_n 2, 1) := by decide +kernel
theorem dX6_assign_56 : decode cX6_assign 56 = .ok (.bipush (-2), 2) := by decide +kernel
theorem dX6_assign_58 : decode cX6_assign 58 = .ok (.if_icmp .eq 33, 3) := by decide +kernel
theorem dX6_assign_61 : decode cX6_assign 61 = .ok (.aload_n 0, 1) := by decide +kernel
theorem dX6_assign_62 : decode cX6_assign 62 = .ok (.getfield 18, 3) := by decide +kernel
theorem dX6_assign_65 : decode cX6_assign 65 = .ok (.iload_n 2, 1) := by decide +kernel
theorem dX6_assign_66 : decode cX6_assign 66 = .ok (.aload_n 0, 1) := by decide +kernel
theorem dX6_assign_67 : decode cX6_assign 67 = .ok (.iload_n 2, 1) := by decide +kernel
theorem dX6_assign_68 : decode cX6_assign 68 = .ok (.invokevirtual 50, 3) := by decide +kernel
theorem dX6_assign_71 : decode cX6_assign 71 = .ok (.iastore, 1) := by decide +kernel
theorem dX6_assign_72 : decode cX6_assign 72 = .ok (.aload_n 0, 1) := by decide +kernel
theorem dX6_assign_73 : decode cX6_assign 73 = .ok (.aload_n 0, 1) := by decide +kernel
theorem dX6_assign_74 : decode cX6_assign 74 = .ok (.getfield 21, 3) := by decide +kernel
theorem dX6_assign_77 : decode cX6_assign 77 = .ok (.aload_n 0, 1) := by decide +kernel
theorem dX6_assign_78 : decode cX6_assign 78 = .ok (.getfield 18, 3) := by decide +kernel
theorem dX6_assign_81 : decode cX6_assign 81 = .ok (.iload_n 2, 1) := by decide +kernel
theorem dX6_assign_82 : decode cX6_assign 82 = .ok (.iaload, 1) := by decide +kernel
theorem dX6_assign_83 : decode cX6_assign 83 = .ok (.iconst 1, 1) := by decide +kernel
theorem dX6_assign_84 : decode cX6_assign 84 = .ok (.iadd, 1) := by decide +kernel
theorem dX6_assign_85 : decode cX6_assign 85 = .ok (.invokestatic 54, 3) := by decide +kernel
theorem dX6_assign_88 : decode cX6_assign 88 = .ok (.putfield 21, 3) := by decide +kernel
theorem dX6_assign_91 : decode cX6_assign 91 = .ok (.iinc 1 1, 3) := by decide +kernel
theorem dX6_assign_94 : decode cX6_assign 94 = .ok (.goto (-55), 3) := by decide +kernel
theorem dX6_assign_97 : decode cX6_assign 97 = .ok (.return_, 1) := by decide +kernel
theorem dX6_findLife_0 : decode cX6_findLife 0 = .ok (.aload_n 0, 1) := by decide +kernel
theorem dX6_findLife_1 : decode cX6_findLife 1 = .ok (.getfield 9, 3) := by decide +kernel
theorem dX6_findLife_4 : decode cX6_findLife 4 = .ok (.iload_n 1, 1) := by decide +kernel
theorem dX6_findLife_5 : decode cX6_findLife 5 = .ok (.bipush (-2), 2) := by decide +kernel
theorem dX6_findLife_7 : decode cX6_findLife 7 = .ok (.iastore, 1) := by decide +kernel
theorem dX6_findLife_8 : decode cX6_findLife 8 = .ok (.aload_n 0, 1) := by decide +kernel
theorem dX6_findLife_9 : decode cX6_findLife 9 = .ok (.getfield 15, 3) := by decide +kernel
theorem dX6_findLife_12 : decode cX6_findLife 12 = .ok (.iload_n 1, 1) := by decide +kernel
theorem dX6_findLife_13 : decode cX6_findLife 13 = .ok (.bipush (-2), 2) := by decide +kernel
theorem dX6_findLife_15 : decode cX6_findLife 15 = .ok (.iastore, 1) := by decide +kernel
theorem dX6_findLife_16 : decode cX6_findLife 16 = .ok (.aload_n 0, 1) := by decide +kernel
theorem dX6_findLife_17 : decode cX6_findLife 17 = .ok (.getfield 25, 3) := by decide +kernel
theorem dX6_findLife_20 : decode cX6_findLife 20 = .ok (.iload_n 1, 1) := by decide +kernel
theorem dX6_findLife_21 : decode cX6_findLife 21 = .ok (.invokevirtual 60, 3) := by decide +kernel
theorem dX6_findLife_24 : decode cX6_findLife 24 = .ok (.astore_n 2, 1) := by decide +kernel
theorem dX6_findLife_25 : decode cX6_findLife 25 = .ok (.aload_n 2, 1) := by decide +kernel
theorem dX6_findLife_26 : decode cX6_findLife 26 = .ok (.getfield 64, 3) := by decide +kernel
theorem dX6_findLife_29 : decode cX6_findLife 29 = .ok (.ifCond .ne 4, 3) := by decide +kernel
theorem dX6_findLife_32 : decode cX6_findLife 32 = .ok (.return_, 1) := by decide +kernel
theorem dX6_findLife_33 : decode cX6_findLife 33 = .ok (.iload_n 1, 1) := by decide +kernel
theorem dX6_findLife_34 : decode cX6_findLife 34 = .ok (.iconst 1, 1) := by decide +kernel
theorem dX6_findLife_35 : decode cX6_findLife 35 = .ok (.iadd, 1) := by decide +kernel
theorem dX6_findLife_36 : decode cX6_findLife 36 = .ok (.istore_n 3, 1) := by decide +kernel
theorem dX6_findLife_37 : decode cX6_findLife 37 = .ok (.iload_n 3, 1) := by decide +kernel
theorem dX6_findLife_38 : decode cX6_findLife 38 = .ok (.aload_n 0, 1) := by decide +kernel
theorem dX6_findLife_39 : decode cX6_findLife 39 = .ok (.getfield 25, 3) := by decide +kernel
theorem dX6_findLife_42 : decode cX6_findLife 42 = .ok (.invokevirtual 37, 3) := by decide +kernel
theorem dX6_findLife_45 : decode cX6_findLife 45 = .ok (.if_icmp .ge 72, 3) := by decide +kernel
theorem dX6_findLife_48 : decode cX6_findLife 48 = .ok (.aload_n 0, 1) := by decide +kernel
theorem dX6_findLife_49 : decode cX6_findLife 49 = .ok (.getfield 25, 3) := by decide +kernel
theorem dX6_findLife_52 : decode cX6_findLife 52 = .ok (.iload_n 3, 1) := by decide +kernel
theorem dX6_findLife_53 : decode cX6_findLife 53 = .ok (.invokevirtual 60, 3) := by decide +kernel
theorem dX6_findLife_56 : decode cX6_findLife 56 = .ok (.iload_n 1, 1) := by decide +kernel
theorem dX6_findLife_57 : decode cX6_findLife 57 = .ok (.invokevirtual 69, 3) := by decide +kernel
theorem dX6_findLife_60 : decode cX6_findLife 60 = .ok (.ifCond .eq 51, 3) := by decide +kernel
theorem dX6_findLife_63 : decode cX6_findLife 63 = .ok (.aload_n 0, 1) := by decide +kernel
theorem dX6_findLife_64 : decode cX6_findLife 64 = .ok (.getfield 9, 3) := by decide +kernel
theorem dX6_findLife_67 : decode cX6_findLife 67 = .ok (.iload_n 1, 1) := by decide +kernel
theorem dX6_findLife_68 : decode cX6_findLife 68 = .ok (.aload_n 0, 1) := by decide +kernel
theorem dX6_findLife_69 : decode cX6_findLife 69 = .ok (.getfield 33, 3) := by decide +kernel
theorem dX6_findLife_72 : decode cX6_findLife 72 = .ok (.getfield 73, 3) := by decide +kernel
theorem dX6_findLife_75 : decode cX6_findLife 75 = .ok (.iload_n 1, 1) := by decide +kernel
theorem dX6_findLife_76 : decode cX6_findLife 76 = .ok (.iaload, 1) := by decide +kernel
theorem dX6_findLife_77 : decode cX6_findLife 77 = .ok (.aload_n 0, 1) := by decide +kernel
theorem dX6_findLife_78 : decode cX6_findLife 78 = .ok (.getfield 29, 3) := by decide +kernel
theorem dX6_findLife_81 : decode cX6_findLife 81 = .ok (.aload_n 2, 1) := by decide +kernel
theorem dX6_findLife_82 : decode cX6_findLife 82 = .ok (.invokevirtual 78, 3) := by decide +kernel
theorem dX6_findLife_85 : decode cX6_findLife 85 = .ok (.iadd, 1) := by decide +kernel
theorem dX6_findLife_86 : decode cX6_findLife 86 = .ok (.iastore, 1) := by decide +kernel
theorem dX6_findLife_87 : decode cX6_findLife 87 = .ok (.aload_n 0, 1) := by decide +kernel
theorem dX6_findLife_88 : decode cX6_findLife 88 = .ok (.getfield 15, 3) := by decide +kernel
theorem dX6_findLife_91 : decode cX6_findLife 91 = .ok (.iload_n 1, 1) := by decide +kernel
theorem dX6_findLife_92 : decode cX6_findLife 92 = .ok (.aload_n 0, 1) := by decide +kernel
theorem dX6_findLife_93 : decode cX6_findLife 93 = .ok (.getfield 15, 3) := by decide +kernel
theorem dX6_findLife_96 : decode cX6_findLife 96 = .ok (.iload_n 1, 1) := by decide +kernel
theorem dX6_findLife_97 : decode cX6_findLife 97 = .ok (.iaload, 1) := by decide +kernel
theorem dX6_findLife_98 : decode cX6_findLife 98 = .ok (.aload_n 0, 1) := by decide +kernel
theorem dX6_findLife_99 : decode cX6_findLife 99 = .ok (.getfield 33, 3) := by decide +kernel
theorem dX6_findLife_102 : decode cX6_findLife 102 = .ok (.getfield 73, 3) := by decide +kernel
theorem dX6_findLife_105 : decode cX6_findLife 105 = .ok (.iload_n 3, 1) := by decide +kernel
theorem dX6_findLife_106 : decode cX6_findLife 106 = .ok (.iaload, 1) := by decide +kernel
theorem dX6_findLife_107 : decode cX6_findLife 107 = .ok (.invokestatic 54, 3) := by decide +kernel
theorem dX6_findLife_110 : decode cX6_findLife 110 = .ok (.iastore, 1) := by decide +kernel
theorem dX6_findLife_111 : decode cX6_findLife 111 = .ok (.iinc 3 1, 3) := by decide +kernel
theorem dX6_findLife_114 : decode cX6_findLife 114 = .ok (.goto (-77), 3) := by decide +kernel
theorem dX6_findLife_117 : decode cX6_findLife 117 = .ok (.return_, 1) := by decide +kernel
theorem dX6_nextWithout_0 : decode cX6_nextWithout 0 = .ok (.bipush (-2), 2) := by decide +kernel
theorem dX6_nextWithout_2 : decode cX6_nextWithout 2 = .ok (.istore_n 1, 1) := by decide +kernel
theorem dX6_nextWithout_3 : decode cX6_nextWithout 3 = .ok (.iconst 0, 1) := by decide +kernel
theorem dX6_nextWithout_4 : decode cX6_nextWithout 4 = .ok (.istore_n 2, 1) := by decide +kernel
theorem dX6_nextWithout_5 : decode cX6_nextWithout 5 = .ok (.iload_n 2, 1) := by decide +kernel
theorem dX6_nextWithout_6 : decode cX6_nextWithout 6 = .ok (.aload_n 0, 1) := by decide +kernel
theorem dX6_nextWithout_7 : decode cX6_nextWithout 7 = .ok (.getfield 25, 3) := by decide +kernel
theorem dX6_nextWithout_10 : decode cX6_nextWithout 10 = .ok (.invokevirtual 37, 3) := by decide +kernel
theorem dX6_nextWithout_13 : decode cX6_nextWithout 13 = .ok (.if_icmp .ge 64, 3) := by decide +kernel
theorem dX6_nextWithout_16 : decode cX6_nextWithout 16 = .ok (.aload_n 0, 1) := by decide +kernel
theorem dX6_nextWithout_17 : decode cX6_nextWithout 17 = .ok (.getfield 9, 3) := by decide +kernel
theorem dX6_nextWithout_20 : decode cX6_nextWithout 20 = .ok (.iload_n 2, 1) := by decide +kernel
theorem dX6_nextWithout_21 : decode cX6_nextWithout 21 = .ok (.iaload, 1) := by decide +kernel
theorem dX6_nextWithout_22 : decode cX6_nextWithout 22 = .ok (.bipush (-2), 2) := by decide +kernel
theorem dX6_nextWithout_24 : decode cX6_nextWithout 24 = .ok (.if_icmp .eq 18, 3) := by decide +kernel
theorem dX6_nextWithout_27 : decode cX6_nextWithout 27 = .ok (.aload_n 0, 1) := by decide +kernel
theorem dX6_nextWithout_28 : decode cX6_nextWithout 28 = .ok (.getfield 18, 3) := by decide +kernel
theorem dX6_nextWithout_31 : decode cX6_nextWithout 31 = .ok (.iload_n 2, 1) := by decide +kernel
theorem dX6_nextWithout_32 : decode cX6_nextWithout 32 = .ok (.iaload, 1) := by decide +kernel
theorem dX6_nextWithout_33 : decode cX6_nextWithout 33 = .ok (.bipush (-2), 2) := by decide +kernel
theorem dX6_nextWithout_35 : decode cX6_nextWithout 35 = .ok (.if_icmp .ne 7, 3) := by decide +kernel
theorem dX6_nextWithout_38 : decode cX6_nextWithout 38 = .ok (.iconst 1, 1) := by decide +kernel
theorem dX6_nextWithout_39 : decode cX6_nextWithout 39 = .ok (.goto 4, 3) := by decide +kernel
theorem dX6_nextWithout_42 : decode cX6_nextWithout 42 = .ok (.iconst 0, 1) := by decide +kernel
theorem dX6_nextWithout_43 : decode cX6_nextWithout 43 = .ok (.istore_n 3, 1) := by decide +kernel
theorem dX6_nextWithout_44 : decode cX6_nextWithout 44 = .ok (.iload_n 3, 1) := by decide +kernel
theorem dX6_nextWithout_45 : decode cX6_nextWithout 45 = .ok (.ifCond .eq 26, 3) := by decide +kernel
theorem dX6_nextWithout_48 : decode cX6_nextWithout 48 = .ok (.iload_n 1, 1) := by decide +kernel
theorem dX6_nextWithout_49 : decode cX6_nextWithout 49 = .ok (.bipush (-2), 2) := by decide +kernel
theorem dX6_nextWithout_51 : decode cX6_nextWithout 51 = .ok (.if_icmp .eq 18, 3) := by decide +kernel
theorem dX6_nextWithout_54 : decode cX6_nextWithout 54 = .ok (.aload_n 0, 1) := by decide +kernel
theorem dX6_nextWithout_55 : decode cX6_nextWithout 55 = .ok (.getfield 9, 3) := by decide +kernel
theorem dX6_nextWithout_58 : decode cX6_nextWithout 58 = .ok (.iload_n 2, 1) := by decide +kernel
theorem dX6_nextWithout_59 : decode cX6_nextWithout 59 = .ok (.iaload, 1) := by decide +kernel
theorem dX6_nextWithout_60 : decode cX6_nextWithout 60 = .ok (.aload_n 0, 1) := by decide +kernel
theorem dX6_nextWithout_61 : decode cX6_nextWithout 61 = .ok (.getfield 9, 3) := by decide +kernel
theorem dX6_nextWithout_64 : decode cX6_nextWithout 64 = .ok (.iload_n 1, 1) := by decide +kernel
theorem dX6_nextWithout_65 : decode cX6_nextWithout 65 = .ok (.iaload, 1) := by decide +kernel
theorem dX6_nextWithout_66 : decode cX6_nextWithout 66 = .ok (.if_icmp .ge 5, 3) := by decide +kernel
theorem dX6_nextWithout_69 : decode cX6_nextWithout 69 = .ok (.iload_n 2, 1) := by decide +kernel
theorem dX6_nextWithout_70 : decode cX6_nextWithout 70 = .ok (.istore_n 1, 1) := by decide +kernel
theorem dX6_nextWithout_71 : decode cX6_nextWithout 71 = .ok (.iinc 2 1, 3) := by decide +kernel
theorem dX6_nextWithout_74 : decode cX6_nextWithout 74 = .ok (.goto (-69), 3) := by decide +kernel
theorem dX6_nextWithout_77 : decode cX6_nextWithout 77 = .ok (.iload_n 1, 1) := by decide +kernel
theorem dX6_nextWithout_78 : decode cX6_nextWithout 78 = .ok (.ireturn, 1) := by decide +kernel
theorem dX6_leastFree_0 : decode cX6_leastFree 0 = .ok (.iconst 0, 1) := by decide +kernel
theorem dX6_leastFree_1 : decode cX6_leastFree 1 = .ok (.istore_n 2, 1) := by decide +kernel
theorem dX6_leastFree_2 : decode cX6_leastFree 2 = .ok (.iload_n 2, 1) := by decide +kernel
theorem dX6_leastFree_3 : decode cX6_leastFree 3 = .ok (.bipush 16, 2) := by decide +kernel
theorem dX6_leastFree_5 : decode cX6_leastFree 5 = .ok (.if_icmp .ge 18, 3) := by decide +kernel
theorem dX6_leastFree_8 : decode cX6_leastFree 8 = .ok (.aload_n 0, 1) := by decide +kernel
theorem dX6_leastFree_9 : decode cX6_leastFree 9 = .ok (.iload_n 2, 1) := by decide +kernel
theorem dX6_leastFree_10 : decode cX6_leastFree 10 = .ok (.iload_n 1, 1) := by decide +kernel
theorem dX6_leastFree_11 : decode cX6_leastFree 11 = .ok (.invokevirtual 84, 3) := by decide +kernel
theorem dX6_leastFree_14 : decode cX6_leastFree 14 = .ok (.ifCond .eq 9, 3) := by decide +kernel
theorem dX6_leastFree_17 : decode cX6_leastFree 17 = .ok (.iinc 2 1, 3) := by decide +kernel
theorem dX6_leastFree_20 : decode cX6_leastFree 20 = .ok (.goto (-18), 3) := by decide +kernel
theorem dX6_leastFree_23 : decode cX6_leastFree 23 = .ok (.iload_n 2, 1) := by decide +kernel
theorem dX6_leastFree_24 : decode cX6_leastFree 24 = .ok (.ireturn, 1) := by decide +kernel
theorem dX6_isTaken_0 : decode cX6_isTaken 0 = .ok (.iconst 0, 1) := by decide +kernel
theorem dX6_isTaken_1 : decode cX6_isTaken 1 = .ok (.istore_n 3, 1) := by decide +kernel
theorem dX6_isTaken_2 : decode cX6_isTaken 2 = .ok (.iload_n 3, 1) := by decide +kernel
theorem dX6_isTaken_3 : decode cX6_isTaken 3 = .ok (.aload_n 0, 1) := by decide +kernel
theorem dX6_isTaken_4 : decode cX6_isTaken 4 = .ok (.getfield 25, 3) := by decide +kernel
theorem dX6_isTaken_7 : decode cX6_isTaken 7 = .ok (.invokevirtual 37, 3) := by decide +kernel
theorem dX6_isTaken_10 : decode cX6_isTaken 10 = .ok (.if_icmp .ge 51, 3) := by decide +kernel
theorem dX6_isTaken_13 : decode cX6_isTaken 13 = .ok (.aload_n 0, 1) := by decide +kernel
theorem dX6_isTaken_14 : decode cX6_isTaken 14 = .ok (.getfield 18, 3) := by decide +kernel
theorem dX6_isTaken_17 : decode cX6_isTaken 17 = .ok (.iload_n 3, 1) := by decide +kernel
theorem dX6_isTaken_18 : decode cX6_isTaken 18 = .ok (.iaload, 1) := by decide +kernel
theorem dX6_isTaken_19 : decode cX6_isTaken 19 = .ok (.iload_n 1, 1) := by decide +kernel
theorem dX6_isTaken_20 : decode cX6_isTaken 20 = .ok (.if_icmp .ne 35, 3) := by decide +kernel
theorem dX6_isTaken_23 : decode cX6_isTaken 23 = .ok (.aload_n 0, 1) := by decide +kernel
theorem dX6_isTaken_24 : decode cX6_isTaken 24 = .ok (.getfield 9, 3) := by decide +kernel
theorem dX6_isTaken_27 : decode cX6_isTaken 27 = .ok (.iload_n 3, 1) := by decide +kernel
theorem dX6_isTaken_28 : decode cX6_isTaken 28 = .ok (.iaload, 1) := by decide +kernel
theorem dX6_isTaken_29 : decode cX6_isTaken 29 = .ok (.aload_n 0, 1) := by decide +kernel
theorem dX6_isTaken_30 : decode cX6_isTaken 30 = .ok (.getfield 15, 3) := by decide +kernel
theorem dX6_isTaken_33 : decode cX6_isTaken 33 = .ok (.iload_n 2, 1) := by decide +kernel
theorem dX6_isTaken_34 : decode cX6_isTaken 34 = .ok (.iaload, 1) := by decide +kernel
theorem dX6_isTaken_35 : decode cX6_isTaken 35 = .ok (.if_icmp .gt 20, 3) := by decide +kernel
theorem dX6_isTaken_38 : decode cX6_isTaken 38 = .ok (.aload_n 0, 1) := by decide +kernel
theorem dX6_isTaken_39 : decode cX6_isTaken 39 = .ok (.getfield 9, 3) := by decide +kernel
theorem dX6_isTaken_42 : decode cX6_isTaken 42 = .ok (.iload_n 2, 1) := by decide +kernel
theorem dX6_isTaken_43 : decode cX6_isTaken 43 = .ok (.iaload, 1) := by decide +kernel
theorem dX6_isTaken_44 : decode cX6_isTaken 44 = .ok (.aload_n 0, 1) := by decide +kernel
theorem dX6_isTaken_45 : decode cX6_isTaken 45 = .ok (.getfield 15, 3) := by decide +kernel
theorem dX6_isTaken_48 : decode cX6_isTaken 48 = .ok (.iload_n 3, 1) := by decide +kernel
theorem dX6_isTaken_49 : decode cX6_isTaken 49 = .ok (.iaload, 1) := by decide +kernel
theorem dX6_isTaken_50 : decode cX6_isTaken 50 = .ok (.if_icmp .gt 5, 3) := by decide +kernel
theorem dX6_isTaken_53 : decode cX6_isTaken 53 = .ok (.iconst 1, 1) := by decide +kernel
theorem dX6_isTaken_54 : decode cX6_isTaken 54 = .ok (.ireturn, 1) := by decide +kernel
theorem dX6_isTaken_55 : decode cX6_isTaken 55 = .ok (.iinc 3 1, 3) := by decide +kernel
theorem dX6_isTaken_58 : decode cX6_isTaken 58 = .ok (.goto (-56), 3) := by decide +kernel
theorem dX6_isTaken_61 : decode cX6_isTaken 61 = .ok (.iconst 0, 1) := by decide +kernel
theorem dX6_isTaken_62 : decode cX6_isTaken 62 = .ok (.ireturn, 1) := by decide +kernel
theorem dX6_sourcesOf_0 : decode cX6_sourcesOf 0 = .ok (.iconst 0, 1) := by decide +kernel
theorem dX6_sourcesOf_1 : decode cX6_sourcesOf 1 = .ok (.istore 4, 2) := by decide +kernel
theorem dX6_sourcesOf_3 : decode cX6_sourcesOf 3 = .ok (.iconst 0, 1) := by decide +kernel
theorem dX6_sourcesOf_4 : decode cX6_sourcesOf 4 = .ok (.istore 5, 2) := by decide +kernel
theorem dX6_sourcesOf_6 : decode cX6_sourcesOf 6 = .ok (.iload 5, 2) := by decide +kernel
theorem dX6_sourcesOf_8 : decode cX6_sourcesOf 8 = .ok (.aload_n 0, 1) := by decide +kernel
theorem dX6_sourcesOf_9 : decode cX6_sourcesOf 9 = .ok (.getfield 25, 3) := by decide +kernel
theorem dX6_sourcesOf_12 : decode cX6_sourcesOf 12 = .ok (.invokevirtual 37, 3) := by decide +kernel
theorem dX6_sourcesOf_15 : decode cX6_sourcesOf 15 = .ok (.if_icmp .ge 82, 3) := by decide +kernel
theorem dX6_sourcesOf_18 : decode cX6_sourcesOf 18 = .ok (.aload_n 0, 1) := by decide +kernel
theorem dX6_sourcesOf_19 : decode cX6_sourcesOf 19 = .ok (.getfield 25, 3) := by decide +kernel
theorem dX6_sourcesOf_22 : decode cX6_sourcesOf 22 = .ok (.iload 5, 2) := by decide +kernel
theorem dX6_sourcesOf_24 : decode cX6_sourcesOf 24 = .ok (.invokevirtual 60, 3) := by decide +kernel
theorem dX6_sourcesOf_27 : decode cX6_sourcesOf 27 = .ok (.astore 6, 2) := by decide +kernel
theorem dX6_sourcesOf_29 : decode cX6_sourcesOf 29 = .ok (.iload_n 3, 1) := by decide +kernel
theorem dX6_sourcesOf_30 : decode cX6_sourcesOf 30 = .ok (.ifCond .eq 11, 3) := by decide +kernel
theorem dX6_sourcesOf_33 : decode cX6_sourcesOf 33 = .ok (.aload 6, 2) := by decide +kernel
theorem dX6_sourcesOf_35 : decode cX6_sourcesOf 35 = .ok (.getfield 88, 3) := by decide +kernel
theorem dX6_sourcesOf_38 : decode cX6_sourcesOf 38 = .ok (.goto 8, 3) := by decide +kernel
theorem dX6_sourcesOf_41 : decode cX6_sourcesOf 41 = .ok (.aload 6, 2) := by decide +kernel
theorem dX6_sourcesOf_43 : decode cX6_sourcesOf 43 = .ok (.getfield 91, 3) := by decide +kernel
theorem dX6_sourcesOf_46 : decode cX6_sourcesOf 46 = .ok (.istore 7, 2) := by decide +kernel
theorem dX6_sourcesOf_48 : decode cX6_sourcesOf 48 = .ok (.aload 6, 2) := by decide +kernel
theorem dX6_sourcesOf_50 : decode cX6_sourcesOf 50 = .ok (.invokevirtual 94, 3) := by decide +kernel
theorem dX6_sourcesOf_53 : decode cX6_sourcesOf 53 = .ok (.iload_n 1, 1) := by decide +kernel
theorem dX6_sourcesOf_54 : decode cX6_sourcesOf 54 = .ok (.if_icmp .ne 37, 3) := by decide +kernel
theorem dX6_sourcesOf_57 : decode cX6_sourcesOf 57 = .ok (.aload_n 0, 1) := by decide +kernel
theorem dX6_sourcesOf_58 : decode cX6_sourcesOf 58 = .ok (.getfield 33, 3) := by decide +kernel
theorem dX6_sourcesOf_61 : decode cX6_sourcesOf 61 = .ok (.getfield 97, 3) := by decide +kernel
theorem dX6_sourcesOf_64 : decode cX6_sourcesOf 64 = .ok (.iload 5, 2) := by decide +kernel
theorem dX6_sourcesOf_66 : decode cX6_sourcesOf 66 = .ok (.iaload, 1) := by decide +kernel
theorem dX6_sourcesOf_67 : decode cX6_sourcesOf 67 = .ok (.iload_n 2, 1) := by decide +kernel
theorem dX6_sourcesOf_68 : decode cX6_sourcesOf 68 = .ok (.if_icmp .ne 23, 3) := by decide +kernel
theorem dX6_sourcesOf_71 : decode cX6_sourcesOf 71 = .ok (.iload 7, 2) := by decide +kernel
theorem dX6_sourcesOf_73 : decode cX6_sourcesOf 73 = .ok (.bipush (-2), 2) := by decide +kernel
theorem dX6_sourcesOf_75 : decode cX6_sourcesOf 75 = .ok (.if_icmp .eq 16, 3) := by decide +kernel
theorem dX6_sourcesOf_78 : decode cX6_sourcesOf 78 = .ok (.iload 4, 2) := by decide +kernel
theorem dX6_sourcesOf_80 : decode cX6_sourcesOf 80 = .ok (.iconst 1, 1) := by decide +kernel
theorem dX6_sourcesOf_81 : decode cX6_sourcesOf 81 = .ok (.aload_n 0, 1) := by decide +kernel
theorem dX6_sourcesOf_82 : decode cX6_sourcesOf 82 = .ok (.iload 7, 2) := by decide +kernel
theorem dX6_sourcesOf_84 : decode cX6_sourcesOf 84 = .ok (.invokevirtual 100, 3) := by decide +kernel
theorem dX6_sourcesOf_87 : decode cX6_sourcesOf 87 = .ok (.ishl, 1) := by decide +kernel
theorem dX6_sourcesOf_88 : decode cX6_sourcesOf 88 = .ok (.ior, 1) := by decide +kernel
theorem dX6_sourcesOf_89 : decode cX6_sourcesOf 89 = .ok (.istore 4, 2) := by decide +kernel
theorem dX6_sourcesOf_91 : decode cX6_sourcesOf 91 = .ok (.iinc 5 1, 3) := by decide +kernel
theorem dX6_sourcesOf_94 : decode cX6_sourcesOf 94 = .ok (.goto (-88), 3) := by decide +kernel
theorem dX6_sourcesOf_97 : decode cX6_sourcesOf 97 = .ok (.iload 4, 2) := by decide +kernel
theorem dX6_sourcesOf_99 : decode cX6_sourcesOf 99 = .ok (.invokestatic 103, 3) := by decide +kernel
theorem dX6_sourcesOf_102 : decode cX6_sourcesOf 102 = .ok (.ireturn, 1) := by decide +kernel
theorem dX6_sourceOf_0 : decode cX6_sourceOf 0 = .ok (.aload_n 0, 1) := by decide +kernel
theorem dX6_sourceOf_1 : decode cX6_sourceOf 1 = .ok (.getfield 25, 3) := by decide +kernel
theorem dX6_sourceOf_4 : decode cX6_sourceOf 4 = .ok (.iload_n 1, 1) := by decide +kernel
theorem dX6_sourceOf_5 : decode cX6_sourceOf 5 = .ok (.invokevirtual 60, 3) := by decide +kernel
theorem dX6_sourceOf_8 : decode cX6_sourceOf 8 = .ok (.getfield 64, 3) := by decide +kernel
theorem dX6_sourceOf_11 : decode cX6_sourceOf 11 = .ok (.ifCond .ne 7, 3) := by decide +kernel
theorem dX6_sourceOf_14 : decode cX6_sourceOf 14 = .ok (.iconst 1, 1) := by decide +kernel
theorem dX6_sourceOf_15 : decode cX6_sourceOf 15 = .ok (.goto 4, 3) := by decide +kernel
theorem dX6_sourceOf_18 : decode cX6_sourceOf 18 = .ok (.iconst 0, 1) := by decide +kernel
theorem dX6_sourceOf_19 : decode cX6_sourceOf 19 = .ok (.istore_n 2, 1) := by decide +kernel
theorem dX6_sourceOf_20 : decode cX6_sourceOf 20 = .ok (.iload_n 2, 1) := by decide +kernel
theorem dX6_sourceOf_21 : decode cX6_sourceOf 21 = .ok (.ifCond .eq 10, 3) := by decide +kernel
theorem dX6_sourceOf_24 : decode cX6_sourceOf 24 = .ok (.bipush 16, 2) := by decide +kernel
theorem dX6_sourceOf_26 : decode cX6_sourceOf 26 = .ok (.iload_n 1, 1) := by decide +kernel
theorem dX6_sourceOf_27 : decode cX6_sourceOf 27 = .ok (.iadd, 1) := by decide +kernel
theorem dX6_sourceOf_28 : decode cX6_sourceOf 28 = .ok (.goto 9, 3) := by decide +kernel
theorem dX6_sourceOf_31 : decode cX6_sourceOf 31 = .ok (.aload_n 0, 1) := by decide +kernel
theorem dX6_sourceOf_32 : decode cX6_sourceOf 32 = .ok (.getfield 18, 3) := by decide +kernel
theorem dX6_sourceOf_35 : decode cX6_sourceOf 35 = .ok (.iload_n 1, 1) := by decide +kernel
theorem dX6_sourceOf_36 : decode cX6_sourceOf 36 = .ok (.iaload, 1) := by decide +kernel
theorem dX6_sourceOf_37 : decode cX6_sourceOf 37 = .ok (.ireturn, 1) := by decide +kernel
theorem dX7_init_0 : decode cX7_init 0 = .ok (.aload_n 0, 1) := by decide +kernel
theorem dX7_init_1 : decode cX7_init 1 = .ok (.invokespecial 1, 3) := by decide +kernel
theorem dX7_init_4 : decode cX7_init 4 = .ok (.aload_n 0, 1) := by decide +kernel
theorem dX7_init_5 : decode cX7_init 5 = .ok (.iload_n 1, 1) := by decide +kernel
theorem dX7_init_6 : decode cX7_init 6 = .ok (.putfield 7, 3) := by decide +kernel
theorem dX7_init_9 : decode cX7_init 9 = .ok (.aload_n 0, 1) := by decide +kernel
theorem dX7_init_10 : decode cX7_init 10 = .ok (.aload_n 2, 1) := by decide +kernel
theorem dX7_init_11 : decode cX7_init 11 = .ok (.putfield 13, 3) := by decide +kernel
theorem dX7_init_14 : decode cX7_init 14 = .ok (.return_, 1) := by decide +kernel
theorem dX7_reaches_0 : decode cX7_reaches 0 = .ok (.iload_n 1, 1) := by decide +kernel
theorem dX7_reaches_1 : decode cX7_reaches 1 = .ok (.ifCond .lt 26, 3) := by decide +kernel
theorem dX7_reaches_4 : decode cX7_reaches 4 = .ok (.iload_n 2, 1) := by decide +kernel
theorem dX7_reaches_5 : decode cX7_reaches 5 = .ok (.ifCond .lt 22, 3) := by decide +kernel
theorem dX7_reaches_8 : decode cX7_reaches 8 = .ok (.iload_n 1, 1) := by decide +kernel
theorem dX7_reaches_9 : decode cX7_reaches 9 = .ok (.i2l, 1) := by decide +kernel
theorem dX7_reaches_10 : decode cX7_reaches 10 = .ok (.iload_n 2, 1) := by decide +kernel
theorem dX7_reaches_11 : decode cX7_reaches 11 = .ok (.i2l, 1) := by decide +kernel
theorem dX7_reaches_12 : decode cX7_reaches 12 = .ok (.ladd, 1) := by decide +kernel
theorem dX7_reaches_13 : decode cX7_reaches 13 = .ok (.aload_n 0, 1) := by decide +kernel
theorem dX7_reaches_14 : decode cX7_reaches 14 = .ok (.getfield 13, 3) := by decide +kernel
theorem dX7_reaches_17 : decode cX7_reaches 17 = .ok (.arraylength, 1) := by decide +kernel
theorem dX7_reaches_18 : decode cX7_reaches 18 = .ok (.i2l, 1) := by decide +kernel
theorem dX7_reaches_19 : decode cX7_reaches 19 = .ok (.lcmp, 1) := by decide +kernel
theorem dX7_reaches_20 : decode cX7_reaches 20 = .ok (.ifCond .gt 7, 3) := by decide +kernel
theorem dX7_reaches_23 : decode cX7_reaches 23 = .ok (.iconst 1, 1) := by decide +kernel
theorem dX7_reaches_24 : decode cX7_reaches 24 = .ok (.goto 4, 3) := by decide +kernel
theorem dX7_reaches_27 : decode cX7_reaches 27 = .ok (.iconst 0, 1) := by decide +kernel
theorem dX7_reaches_28 : decode cX7_reaches 28 = .ok (.ireturn, 1) := by decide +kernel
theorem dX8_init_0 : decode cX8_init 0 = .ok (.aload_n 0, 1) := by decide +kernel
theorem dX8_init_1 : decode cX8_init 1 = .ok (.invokespecial 3, 3) := by decide +kernel
theorem dX8_init_4 : decode cX8_init 4 = .ok (.aload_n 0, 1) := by decide +kernel
theorem dX8_init_5 : decode cX8_init 5 = .ok (.lload_n 1, 1) := by decide +kernel
theorem dX8_init_6 : decode cX8_init 6 = .ok (.putfield 9, 3) := by decide +kernel
theorem dX8_init_9 : decode cX8_init 9 = .ok (.aload_n 0, 1) := by decide +kernel
theorem dX8_init_10 : decode cX8_init 10 = .ok (.lload_n 3, 1) := by decide +kernel
theorem dX8_init_11 : decode cX8_init 11 = .ok (.putfield 15, 3) := by decide +kernel
theorem dX8_init_14 : decode cX8_init 14 = .ok (.return_, 1) := by decide +kernel
theorem dX8_wide_0 : decode cX8_wide 0 = .ok (.lconst 1, 1) := by decide +kernel
theorem dX8_wide_1 : decode cX8_wide 1 = .ok (.iload_n 0, 1) := by decide +kernel
theorem dX8_wide_2 : decode cX8_wide 2 = .ok (.iconst 1, 1) := by decide +kernel
theorem dX8_wide_3 : decode cX8_wide 3 = .ok (.isub, 1) := by decide +kernel
theorem dX8_wide_4 : decode cX8_wide 4 = .ok (.lshl, 1) := by decide +kernel
theorem dX8_wide_5 : decode cX8_wide 5 = .ok (.lstore_n 1, 1) := by decide +kernel
theorem dX8_wide_6 : decode cX8_wide 6 = .ok (.new 10, 3) := by decide +kernel
theorem dX8_wide_9 : decode cX8_wide 9 = .ok (.dup, 1) := by decide +kernel
theorem dX8_wide_10 : decode cX8_wide 10 = .ok (.lload_n 1, 1) := by decide +kernel
theorem dX8_wide_11 : decode cX8_wide 11 = .ok (.lneg, 1) := by decide +kernel
theorem dX8_wide_12 : decode cX8_wide 12 = .ok (.lload_n 1, 1) := by decide +kernel
theorem dX8_wide_13 : decode cX8_wide 13 = .ok (.lconst 1, 1) := by decide +kernel
theorem dX8_wide_14 : decode cX8_wide 14 = .ok (.lsub, 1) := by decide +kernel
theorem dX8_wide_15 : decode cX8_wide 15 = .ok (.invokespecial 18, 3) := by decide +kernel
theorem dX8_wide_18 : decode cX8_wide 18 = .ok (.areturn, 1) := by decide +kernel
theorem dX8_fits_0 : decode cX8_fits 0 = .ok (.lconst 1, 1) := by decide +kernel
theorem dX8_fits_1 : decode cX8_fits 1 = .ok (.iload_n 1, 1) := by decide +kernel
theorem dX8_fits_2 : decode cX8_fits 2 = .ok (.iconst 1, 1) := by decide +kernel
theorem dX8_fits_3 : decode cX8_fits 3 = .ok (.isub, 1) := by decide +kernel
theorem dX8_fits_4 : decode cX8_fits 4 = .ok (.lshl, 1) := by decide +kernel
theorem dX8_fits_5 : decode cX8_fits 5 = .ok (.lstore_n 2, 1) := by decide +kernel
theorem dX8_fits_6 : decode cX8_fits 6 = .ok (.aload_n 0, 1) := by decide +kernel
theorem dX8_fits_7 : decode cX8_fits 7 = .ok (.getfield 9, 3) := by decide +kernel
theorem dX8_fits_10 : decode cX8_fits 10 = .ok (.lload_n 2, 1) := by decide +kernel
theorem dX8_fits_11 : decode cX8_fits 11 = .ok (.lneg, 1) := by decide +kernel
theorem dX8_fits_12 : decode cX8_fits 12 = .ok (.lcmp, 1) := by decide +kernel
theorem dX8_fits_13 : decode cX8_fits 13 = .ok (.ifCond .lt 16, 3) := by decide +kernel
theorem dX8_fits_16 : decode cX8_fits 16 = .ok (.aload_n 0, 1) := by decide +kernel
theorem dX8_fits_17 : decode cX8_fits 17 = .ok (.getfield 15, 3) := by decide +kernel
theorem dX8_fits_20 : decode cX8_fits 20 = .ok (.lload_n 2, 1) := by decide +kernel
theorem dX8_fits_21 : decode cX8_fits 21 = .ok (.lcmp, 1) := by decide +kernel
theorem dX8_fits_22 : decode cX8_fits 22 = .ok (.ifCond .ge 7, 3) := by decide +kernel
theorem dX8_fits_25 : decode cX8_fits 25 = .ok (.iconst 1, 1) := by decide +kernel
theorem dX8_fits_26 : decode cX8_fits 26 = .ok (.goto 4, 3) := by decide +kernel
theorem dX8_fits_29 : decode cX8_fits 29 = .ok (.iconst 0, 1) := by decide +kernel
theorem dX8_fits_30 : decode cX8_fits 30 = .ok (.ireturn, 1) := by decide +kernel
theorem dX8_fitted_0 : decode cX8_fitted 0 = .ok (.aload_n 0, 1) := by decide +kernel
theorem dX8_fitted_1 : decode cX8_fitted 1 = .ok (.iload_n 1, 1) := by decide +kernel
theorem dX8_fitted_2 : decode cX8_fitted 2 = .ok (.invokevirtual 21, 3) := by decide +kernel
theorem dX8_fitted_5 : decode cX8_fitted 5 = .ok (.ifCond .eq 7, 3) := by decide +kernel
theorem dX8_fitted_8 : decode cX8_fitted 8 = .ok (.aload_n 0, 1) := by decide +kernel
theorem dX8_fitted_9 : decode cX8_fitted 9 = .ok (.goto 7, 3) := by decide +kernel
theorem dX8_fitted_12 : decode cX8_fitted 12 = .ok (.iload_n 1, 1) := by decide +kernel
theorem dX8_fitted_13 : decode cX8_fitted 13 = .ok (.invokestatic 25, 3) := by decide +kernel
theorem dX8_fitted_16 : decode cX8_fitted 16 = .ok (.areturn, 1) := by decide +kernel
theorem dX8_bits_0 : decode cX8_bits 0 = .ok (.iconst 1, 1) := by decide +kernel
theorem dX8_bits_1 : decode cX8_bits 1 = .ok (.istore_n 1, 1) := by decide +kernel
theorem dX8_bits_2 : decode cX8_bits 2 = .ok (.iload_n 1, 1) := by decide +kernel
theorem dX8_bits_3 : decode cX8_bits 3 = .ok (.bipush 32, 2) := by decide +kernel
theorem dX8_bits_5 : decode cX8_bits 5 = .ok (.if_icmp .ge 17, 3) := by decide +kernel
theorem dX8_bits_8 : decode cX8_bits 8 = .ok (.aload_n 0, 1) := by decide +kernel
theorem dX8_bits_9 : decode cX8_bits 9 = .ok (.iload_n 1, 1) := by decide +kernel
theorem dX8_bits_10 : decode cX8_bits 10 = .ok (.invokevirtual 21, 3) := by decide +kernel
theorem dX8_bits_13 : decode cX8_bits 13 = .ok (.ifCond .ne 9, 3) := by decide +kernel
theorem dX8_bits_16 : decode cX8_bits 16 = .ok (.iinc 1 1, 3) := by decide +kernel
theorem dX8_bits_19 : decode cX8_bits 19 = .ok (.goto (-17), 3) := by decide +kernel
theorem dX8_bits_22 : decode cX8_bits 22 = .ok (.iload_n 1, 1) := by decide +kernel
theorem dX8_bits_23 : decode cX8_bits 23 = .ok (.ireturn, 1) := by decide +kernel
theorem dX8_meets_0 : decode cX8_meets 0 = .ok (.aload_n 0, 1) := by decide +kernel
theorem dX8_meets_1 : decode cX8_meets 1 = .ok (.getfield 9, 3) := by decide +kernel
theorem dX8_meets_4 : decode cX8_meets 4 = .ok (.aload_n 1, 1) := by decide +kernel
theorem dX8_meets_5 : decode cX8_meets 5 = .ok (.getfield 15, 3) := by decide +kernel
theorem dX8_meets_8 : decode cX8_meets 8 = .ok (.lcmp, 1) := by decide +kernel
theorem dX8_meets_9 : decode cX8_meets 9 = .ok (.ifCond .gt 19, 3) := by decide +kernel
theorem dX8_meets_12 : decode cX8_meets 12 = .ok (.aload_n 1, 1) := by decide +kernel
theorem dX8_meets_13 : decode cX8_meets 13 = .ok (.getfield 9, 3) := by decide +kernel
theorem dX8_meets_16 : decode cX8_meets 16 = .ok (.aload_n 0, 1) := by decide +kernel
theorem dX8_meets_17 : decode cX8_meets 17 = .ok (.getfield 15, 3) := by decide +kernel
theorem dX8_meets_20 : decode cX8_meets 20 = .ok (.lcmp, 1) := by decide +kernel
theorem dX8_meets_21 : decode cX8_meets 21 = .ok (.ifCond .gt 7, 3) := by decide +kernel
theorem dX8_meets_24 : decode cX8_meets 24 = .ok (.iconst 1, 1) := by decide +kernel
theorem dX8_meets_25 : decode cX8_meets 25 = .ok (.goto 4, 3) := by decide +kernel
theorem dX8_meets_28 : decode cX8_meets 28 = .ok (.iconst 0, 1) := by decide +kernel
theorem dX8_meets_29 : decode cX8_meets 29 = .ok (.ireturn, 1) := by decide +kernel
theorem dX8_reckoned_0 : decode cX8_reckoned 0 = .ok (.iload_n 1, 1) := by decide +kernel
theorem dX8_reckoned_1 : decode cX8_reckoned 1 = .ok (.tableswitch 94 2 5 #[31, 57, 83, 89], 31) := by decide +kernel
theorem dX8_reckoned_32 : decode cX8_reckoned 32 = .ok (.new 10, 3) := by decide +kernel
theorem dX8_reckoned_35 : decode cX8_reckoned 35 = .ok (.dup, 1) := by decide +kernel
theorem dX8_reckoned_36 : decode cX8_reckoned 36 = .ok (.aload_n 0, 1) := by decide +kernel
theorem dX8_reckoned_37 : decode cX8_reckoned 37 = .ok (.getfield 9, 3) := by decide +kernel
theorem dX8_reckoned_40 : decode cX8_reckoned 40 = .ok (.aload_n 2, 1) := by decide +kernel
theorem dX8_reckoned_41 : decode cX8_reckoned 41 = .ok (.getfield 9, 3) := by decide +kernel
theorem dX8_reckoned_44 : decode cX8_reckoned 44 = .ok (.ladd, 1) := by decide +kernel
theorem dX8_reckoned_45 : decode cX8_reckoned 45 = .ok (.aload_n 0, 1) := by decide +kernel
theorem dX8_reckoned_46 : decode cX8_reckoned 46 = .ok (.getfield 15, 3) := by decide +kernel
theorem dX8_reckoned_49 : decode cX8_reckoned 49 = .ok (.aload_n 2, 1) := by decide +kernel
theorem dX8_reckoned_50 : decode cX8_reckoned 50 = .ok (.getfield 15, 3) := by decide +kernel
theorem dX8_reckoned_53 : decode cX8_reckoned 53 = .ok (.ladd, 1) := by decide +kernel
theorem dX8_reckoned_54 : decode cX8_reckoned 54 = .ok (.invokespecial 18, 3) := by decide +kernel
theorem dX8_reckoned_57 : decode cX8_reckoned 57 = .ok (.areturn, 1) := by decide +kernel
theorem dX8_reckoned_58 : decode cX8_reckoned 58 = .ok (.new 10, 3) := by decide +kernel
theorem dX8_reckoned_61 : decode cX8_reckoned 61 = .ok (.dup, 1) := by decide +kernel
theorem dX8_reckoned_62 : decode cX8_reckoned 62 = .ok (.aload_n 0, 1) := by decide +kernel
theorem dX8_reckoned_63 : decode cX8_reckoned 63 = .ok (.getfield 9, 3) := by decide +kernel
theorem dX8_reckoned_66 : decode cX8_reckoned 66 = .ok (.aload_n 2, 1) := by decide +kernel
theorem dX8_reckoned_67 : decode cX8_reckoned 67 = .ok (.getfield 15, 3) := by decide +kernel
theorem dX8_reckoned_70 : decode cX8_reckoned 70 = .ok (.lsub, 1) := by decide +kernel
theorem dX8_reckoned_71 : decode cX8_reckoned 71 = .ok (.aload_n 0, 1) := by decide +kernel
theorem dX8_reckoned_72 : decode cX8_reckoned 72 = .ok (.getfield 15, 3) := by decide +kernel
theorem dX8_reckoned_75 : decode cX8_reckoned 75 = .ok (.aload_n 2, 1) := by decide +kernel
theorem dX8_reckoned_76 : decode cX8_reckoned 76 = .ok (.getfield 9, 3) := by decide +kernel
theorem dX8_reckoned_79 : decode cX8_reckoned 79 = .ok (.lsub, 1) := by decide +kernel
theorem dX8_reckoned_80 : decode cX8_reckoned 80 = .ok (.invokespecial 18, 3) := by decide +kernel
theorem dX8_reckoned_83 : decode cX8_reckoned 83 = .ok (.areturn, 1) := by decide +kernel
theorem dX8_reckoned_84 : decode cX8_reckoned 84 = .ok (.aload_n 0, 1) := by decide +kernel
theorem dX8_reckoned_85 : decode cX8_reckoned 85 = .ok (.aload_n 2, 1) := by decide +kernel
theorem dX8_reckoned_86 : decode cX8_reckoned 86 = .ok (.invokevirtual 29, 3) := by decide +kernel
theorem dX8_reckoned_89 : decode cX8_reckoned 89 = .ok (.areturn, 1) := by decide +kernel
theorem dX8_reckoned_90 : decode cX8_reckoned 90 = .ok (.aload_n 0, 1) := by decide +kernel
theorem dX8_reckoned_91 : decode cX8_reckoned 91 = .ok (.invokevirtual 33, 3) := by decide +kernel
theorem dX8_reckoned_94 : decode cX8_reckoned 94 = .ok (.areturn, 1) := by decide +kernel
theorem dX8_reckoned_95 : decode cX8_reckoned 95 = .ok (.aload_n 0, 1) := by decide +kernel
theorem dX8_reckoned_96 : decode cX8_reckoned 96 = .ok (.aload_n 2, 1) := by decide +kernel
theorem dX8_reckoned_97 : decode cX8_reckoned 97 = .ok (.invokevirtual 37, 3) := by decide +kernel
theorem dX8_reckoned_100 : decode cX8_reckoned 100 = .ok (.areturn, 1) := by decide +kernel
theorem dX8_picked_0 : decode cX8_picked 0 = .ok (.aload_n 0, 1) := by decide +kernel
theorem dX8_picked_1 : decode cX8_picked 1 = .ok (.getfield 9, 3) := by decide +kernel
theorem dX8_picked_4 : decode cX8_picked 4 = .ok (.lconst 0, 1) := by decide +kernel
theorem dX8_picked_5 : decode cX8_picked 5 = .ok (.lcmp, 1) := by decide +kernel
theorem dX8_picked_6 : decode cX8_picked 6 = .ok (.ifCond .ne 14, 3) := by decide +kernel
theorem dX8_picked_9 : decode cX8_picked 9 = .ok (.aload_n 0, 1) := by decide +kernel
theorem dX8_picked_10 : decode cX8_picked 10 = .ok (.getfield 15, 3) := by decide +kernel
theorem dX8_picked_13 : decode cX8_picked 13 = .ok (.lconst 0, 1) := by decide +kernel
theorem dX8_picked_14 : decode cX8_picked 14 = .ok (.lcmp, 1) := by decide +kernel
theorem dX8_picked_15 : decode cX8_picked 15 = .ok (.ifCond .ne 5, 3) := by decide +kernel
theorem dX8_picked_18 : decode cX8_picked 18 = .ok (.aload_n 2, 1) := by decide +kernel
theorem dX8_picked_19 : decode cX8_picked 19 = .ok (.areturn, 1) := by decide +kernel
theorem dX8_picked_20 : decode cX8_picked 20 = .ok (.aload_n 0, 1) := by decide +kernel
theorem dX8_picked_21 : decode cX8_picked 21 = .ok (.getfield 9, 3) := by decide +kernel
theorem dX8_picked_24 : decode cX8_picked 24 = .ok (.lconst 0, 1) := by decide +kernel
theorem dX8_picked_25 : decode cX8_picked 25 = .ok (.lcmp, 1) := by decide +kernel
theorem dX8_picked_26 : decode cX8_picked 26 = .ok (.ifCond .gt 12, 3) := by decide +kernel
theorem dX8_picked_29 : decode cX8_picked 29 = .ok (.aload_n 0, 1) := by decide +kernel
theorem dX8_picked_30 : decode cX8_picked 30 = .ok (.getfield 15, 3) := by decide +kernel
theorem dX8_picked_33 : decode cX8_picked 33 = .ok (.lconst 0, 1) := by decide +kernel
theorem dX8_picked_34 : decode cX8_picked 34 = .ok (.lcmp, 1) := by decide +kernel
theorem dX8_picked_35 : decode cX8_picked 35 = .ok (.ifCond .ge 5, 3) := by decide +kernel
theorem dX8_picked_38 : decode cX8_picked 38 = .ok (.aload_n 1, 1) := by decide +kernel
theorem dX8_picked_39 : decode cX8_picked 39 = .ok (.areturn, 1) := by decide +kernel
theorem dX8_picked_40 : decode cX8_picked 40 = .ok (.new 10, 3) := by decide +kernel
theorem dX8_picked_43 : decode cX8_picked 43 = .ok (.dup, 1) := by decide +kernel
theorem dX8_picked_44 : decode cX8_picked 44 = .ok (.aload_n 1, 1) := by decide +kernel
theorem dX8_picked_45 : decode cX8_picked 45 = .ok (.getfield 9, 3) := by decide +kernel
theorem dX8_picked_48 : decode cX8_picked 48 = .ok (.aload_n 2, 1) := by decide +kernel
theorem dX8_picked_49 : decode cX8_picked 49 = .ok (.getfield 9, 3) := by decide +kernel
theorem dX8_picked_52 : decode cX8_picked 52 = .ok (.invokestatic 40, 3) := by decide +kernel
theorem dX8_picked_55 : decode cX8_picked 55 = .ok (.aload_n 1, 1) := by decide +kernel
theorem dX8_picked_56 : decode cX8_picked 56 = .ok (.getfield 15, 3) := by decide +kernel
theorem dX8_picked_59 : decode cX8_picked 59 = .ok (.aload_n 2, 1) := by decide +kernel
theorem dX8_picked_60 : decode cX8_picked 60 = .ok (.getfield 15, 3) := by decide +kernel
theorem dX8_picked_63 : decode cX8_picked 63 = .ok (.invokestatic 46, 3) := by decide +kernel
theorem dX8_picked_66 : decode cX8_picked 66 = .ok (.invokespecial 18, 3) := by decide +kernel
theorem dX8_picked_69 : decode cX8_picked 69 = .ok (.areturn, 1) := by decide +kernel
theorem dX8_product_0 : decode cX8_product 0 = .ok (.aload_n 0, 1) := by decide +kernel
theorem dX8_product_1 : decode cX8_product 1 = .ok (.getfield 9, 3) := by decide +kernel
theorem dX8_product_4 : decode cX8_product 4 = .ok (.aload_n 1, 1) := by decide +kernel
theorem dX8_product_5 : decode cX8_product 5 = .ok (.getfield 9, 3) := by decide +kernel
theorem dX8_product_8 : decode cX8_product 8 = .ok (.lmul, 1) := by decide +kernel
theorem dX8_product_9 : decode cX8_product 9 = .ok (.lstore_n 2, 1) := by decide +kernel
theorem dX8_product_10 : decode cX8_product 10 = .ok (.aload_n 0, 1) := by decide +kernel
theorem dX8_product_11 : decode cX8_product 11 = .ok (.getfield 9, 3) := by decide +kernel
theorem dX8_product_14 : decode cX8_product 14 = .ok (.aload_n 1, 1) := by decide +kernel
theorem dX8_product_15 : decode cX8_product 15 = .ok (.getfield 15, 3) := by decide +kernel
theorem dX8_product_18 : decode cX8_product 18 = .ok (.lmul, 1) := by decide +kernel
theorem dX8_product_19 : decode cX8_product 19 = .ok (.lstore 4, 2) := by decide +kernel
theorem dX8_product_21 : decode cX8_product 21 = .ok (.aload_n 0, 1) := by decide +kernel
theorem dX8_product_22 : decode cX8_product 22 = .ok (.getfield 15, 3) := by decide +kernel
theorem dX8_product_25 : decode cX8_product 25 = .ok (.aload_n 1, 1) := by decide +kernel
theorem dX8_product_26 : decode cX8_product 26 = .ok (.getfield 9, 3) := by decide +kernel
theorem dX8_product_29 : decode cX8_product 29 = .ok (.lmul, 1) := by decide +kernel
theorem dX8_product_30 : decode cX8_product 30 = .ok (.lstore 6, 2) := by decide +kernel
theorem dX8_product_32 : decode cX8_product 32 = .ok (.aload_n 0, 1) := by decide +kernel
theorem dX8_product_33 : decode cX8_product 33 = .ok (.getfield 15, 3) := by decide +kernel
theorem dX8_product_36 : decode cX8_product 36 = .ok (.aload_n 1, 1) := by decide +kernel
theorem dX8_product_37 : decode cX8_product 37 = .ok (.getfield 15, 3) := by decide +kernel
theorem dX8_product_40 : decode cX8_product 40 = .ok (.lmul, 1) := by decide +kernel
theorem dX8_product_41 : decode cX8_product 41 = .ok (.lstore 8, 2) := by decide +kernel
theorem dX8_product_43 : decode cX8_product 43 = .ok (.new 10, 3) := by decide +kernel
theorem dX8_product_46 : decode cX8_product 46 = .ok (.dup, 1) := by decide +kernel
theorem dX8_product_47 : decode cX8_product 47 = .ok (.lload_n 2, 1) := by decide +kernel
theorem dX8_product_48 : decode cX8_product 48 = .ok (.lload 4, 2) := by decide +kernel
theorem dX8_product_50 : decode cX8_product 50 = .ok (.invokestatic 40, 3) := by decide +kernel
theorem dX8_product_53 : decode cX8_product 53 = .ok (.lload 6, 2) := by decide +kernel
theorem dX8_product_55 : decode cX8_product 55 = .ok (.lload 8, 2) := by decide +kernel
theorem dX8_product_57 : decode cX8_product 57 = .ok (.invokestatic 40, 3) := by decide +kernel
theorem dX8_product_60 : decode cX8_product 60 = .ok (.invokestatic 40, 3) := by decide +kernel
theorem dX8_product_63 : decode cX8_product 63 = .ok (.lload_n 2, 1) := by decide +kernel
theorem dX8_product_64 : decode cX8_product 64 = .ok (.lload 4, 2) := by decide +kernel
theorem dX8_product_66 : decode cX8_product 66 = .ok (.invokestatic 46, 3) := by decide +kernel
theorem dX8_product_69 : decode cX8_product 69 = .ok (.lload 6, 2) := by decide +kernel
theorem dX8_product_71 : decode cX8_product 71 = .ok (.lload 8, 2) := by decide +kernel
theorem dX8_product_73 : decode cX8_product 73 = .ok (.invokestatic 46, 3) := by decide +kernel
theorem dX8_product_76 : decode cX8_product 76 = .ok (.invokestatic 46, 3) := by decide +kernel
theorem dX8_product_79 : decode cX8_product 79 = .ok (.invokespecial 18, 3) := by decide +kernel
theorem dX8_product_82 : decode cX8_product 82 = .ok (.areturn, 1) := by decide +kernel
theorem dX8_quotient_0 : decode cX8_quotient 0 = .ok (.aload_n 0, 1) := by decide +kernel
theorem dX8_quotient_1 : decode cX8_quotient 1 = .ok (.getfield 9, 3) := by decide +kernel
theorem dX8_quotient_4 : decode cX8_quotient 4 = .ok (.invokestatic 49, 3) := by decide +kernel
theorem dX8_quotient_7 : decode cX8_quotient 7 = .ok (.aload_n 0, 1) := by decide +kernel
theorem dX8_quotient_8 : decode cX8_quotient 8 = .ok (.getfield 15, 3) := by decide +kernel
theorem dX8_quotient_11 : decode cX8_quotient 11 = .ok (.invokestatic 49, 3) := by decide +kernel
theorem dX8_quotient_14 : decode cX8_quotient 14 = .ok (.invokestatic 46, 3) := by decide +kernel
theorem dX8_quotient_17 : decode cX8_quotient 17 = .ok (.lstore_n 1, 1) := by decide +kernel
theorem dX8_quotient_18 : decode cX8_quotient 18 = .ok (.new 10, 3) := by decide +kernel
theorem dX8_quotient_21 : decode cX8_quotient 21 = .ok (.dup, 1) := by decide +kernel
theorem dX8_quotient_22 : decode cX8_quotient 22 = .ok (.lload_n 1, 1) := by decide +kernel
theorem dX8_quotient_23 : decode cX8_quotient 23 = .ok (.lneg, 1) := by decide +kernel
theorem dX8_quotient_24 : decode cX8_quotient 24 = .ok (.lload_n 1, 1) := by decide +kernel
theorem dX8_quotient_25 : decode cX8_quotient 25 = .ok (.invokespecial 18, 3) := by decide +kernel
theorem dX8_quotient_28 : decode cX8_quotient 28 = .ok (.areturn, 1) := by decide +kernel
theorem dX8_comparison_0 : decode cX8_comparison 0 = .ok (.aload_n 0, 1) := by decide +kernel
theorem dX8_comparison_1 : decode cX8_comparison 1 = .ok (.getfield 15, 3) := by decide +kernel
theorem dX8_comparison_4 : decode cX8_comparison 4 = .ok (.aload_n 1, 1) := by decide +kernel
theorem dX8_comparison_5 : decode cX8_comparison 5 = .ok (.getfield 9, 3) := by decide +kernel
theorem dX8_comparison_8 : decode cX8_comparison 8 = .ok (.lcmp, 1) := by decide +kernel
theorem dX8_comparison_9 : decode cX8_comparison 9 = .ok (.ifCond .ge 7, 3) := by decide +kernel
theorem dX8_comparison_12 : decode cX8_comparison 12 = .ok (.iconst 1, 1) := by decide +kernel
theorem dX8_comparison_13 : decode cX8_comparison 13 = .ok (.goto 4, 3) := by decide +kernel
theorem dX8_comparison_16 : decode cX8_comparison 16 = .ok (.iconst 0, 1) := by decide +kernel
theorem dX8_comparison_17 : decode cX8_comparison 17 = .ok (.istore_n 2, 1) := by decide +kernel
theorem dX8_comparison_18 : decode cX8_comparison 18 = .ok (.aload_n 0, 1) := by decide +kernel
theorem dX8_comparison_19 : decode cX8_comparison 19 = .ok (.getfield 9, 3) := by decide +kernel
theorem dX8_comparison_22 : decode cX8_comparison 22 = .ok (.aload_n 1, 1) := by decide +kernel
theorem dX8_comparison_23 : decode cX8_comparison 23 = .ok (.getfield 15, 3) := by decide +kernel
theorem dX8_comparison_26 : decode cX8_comparison 26 = .ok (.lcmp, 1) := by decide +kernel
theorem dX8_comparison_27 : decode cX8_comparison 27 = .ok (.ifCond .ge 7, 3) := by decide +kernel
theorem dX8_comparison_30 : decode cX8_comparison 30 = .ok (.iconst 1, 1) := by decide +kernel
theorem dX8_comparison_31 : decode cX8_comparison 31 = .ok (.goto 4, 3) := by decide +kernel
theorem dX8_comparison_34 : decode cX8_comparison 34 = .ok (.iconst 0, 1) := by decide +kernel
theorem dX8_comparison_35 : decode cX8_comparison 35 = .ok (.istore_n 3, 1) := by decide +kernel
theorem dX8_comparison_36 : decode cX8_comparison 36 = .ok (.new 10, 3) := by decide +kernel
theorem dX8_comparison_39 : decode cX8_comparison 39 = .ok (.dup, 1) := by decide +kernel
theorem dX8_comparison_40 : decode cX8_comparison 40 = .ok (.iload_n 2, 1) := by decide +kernel
theorem dX8_comparison_41 : decode cX8_comparison 41 = .ok (.ifCond .eq 7, 3) := by decide +kernel
theorem dX8_comparison_44 : decode cX8_comparison 44 = .ok (.lconst 1, 1) := by decide +kernel
theorem dX8_comparison_45 : decode cX8_comparison 45 = .ok (.goto 4, 3) := by decide +kernel
theorem dX8_comparison_48 : decode cX8_comparison 48 = .ok (.lconst 0, 1) := by decide +kernel
theorem dX8_comparison_49 : decode cX8_comparison 49 = .ok (.iload_n 3, 1) := by decide +kernel
theorem dX8_comparison_50 : decode cX8_comparison 50 = .ok (.ifCond .eq 7, 3) := by decide +kernel
theorem dX8_comparison_53 : decode cX8_comparison 53 = .ok (.lconst 1, 1) := by decide +kernel
theorem dX8_comparison_54 : decode cX8_comparison 54 = .ok (.goto 4, 3) := by decide +kernel
theorem dX8_comparison_57 : decode cX8_comparison 57 = .ok (.lconst 0, 1) := by decide +kernel
theorem dX8_comparison_58 : decode cX8_comparison 58 = .ok (.invokespecial 18, 3) := by decide +kernel
theorem dX8_comparison_61 : decode cX8_comparison 61 = .ok (.areturn, 1) := by decide +kernel
theorem dX9_init_0 : decode cX9_init 0 = .ok (.aload_n 0, 1) := by decide +kernel
theorem dX9_init_1 : decode cX9_init 1 = .ok (.invokespecial 3, 3) := by decide +kernel
theorem dX9_init_4 : decode cX9_init 4 = .ok (.aload_n 0, 1) := by decide +kernel
theorem dX9_init_5 : decode cX9_init 5 = .ok (.iconst 4, 1) := by decide +kernel
theorem dX9_init_6 : decode cX9_init 6 = .ok (.newarray .int, 2) := by decide +kernel
theorem dX9_init_8 : decode cX9_init 8 = .ok (.dup, 1) := by decide +kernel
theorem dX9_init_9 : decode cX9_init 9 = .ok (.iconst 0, 1) := by decide +kernel
theorem dX9_init_10 : decode cX9_init 10 = .ok (.iconst 1, 1) := by decide +kernel
theorem dX9_init_11 : decode cX9_init 11 = .ok (.iastore, 1) := by decide +kernel
theorem dX9_init_12 : decode cX9_init 12 = .ok (.dup, 1) := by decide +kernel
theorem dX9_init_13 : decode cX9_init 13 = .ok (.iconst 1, 1) := by decide +kernel
theorem dX9_init_14 : decode cX9_init 14 = .ok (.iconst 1, 1) := by decide +kernel
theorem dX9_init_15 : decode cX9_init 15 = .ok (.iastore, 1) := by decide +kernel
theorem dX9_init_16 : decode cX9_init 16 = .ok (.dup, 1) := by decide +kernel
theorem dX9_init_17 : decode cX9_init 17 = .ok (.iconst 2, 1) := by decide +kernel
theorem dX9_init_18 : decode cX9_init 18 = .ok (.iconst 1, 1) := by decide +kernel
theorem dX9_init_19 : decode cX9_init 19 = .ok (.iastore, 1) := by decide +kernel
theorem dX9_init_20 : decode cX9_init 20 = .ok (.dup, 1) := by decide +kernel
theorem dX9_init_21 : decode cX9_init 21 = .ok (.iconst 3, 1) := by decide +kernel
theorem dX9_init_22 : decode cX9_init 22 = .ok (.iconst 1, 1) := by decide +kernel
theorem dX9_init_23 : decode cX9_init 23 = .ok (.iastore, 1) := by decide +kernel
theorem dX9_init_24 : decode cX9_init 24 = .ok (.putfield 9, 3) := by decide +kernel
theorem dX9_init_27 : decode cX9_init 27 = .ok (.aload_n 0, 1) := by decide +kernel
theorem dX9_init_28 : decode cX9_init 28 = .ok (.iconst 4, 1) := by decide +kernel
theorem dX9_init_29 : decode cX9_init 29 = .ok (.newarray .int, 2) := by decide +kernel
theorem dX9_init_31 : decode cX9_init 31 = .ok (.dup, 1) := by decide +kernel
theorem dX9_init_32 : decode cX9_init 32 = .ok (.iconst 0, 1) := by decide +kernel
theorem dX9_init_33 : decode cX9_init 33 = .ok (.iconst 1, 1) := by decide +kernel
theorem dX9_init_34 : decode cX9_init 34 = .ok (.iastore, 1) := by decide +kernel
theorem dX9_init_35 : decode cX9_init 35 = .ok (.dup, 1) := by decide +kernel
theorem dX9_init_36 : decode cX9_init 36 = .ok (.iconst 1, 1) := by decide +kernel
theorem dX9_init_37 : decode cX9_init 37 = .ok (.iconst 2, 1) := by decide +kernel
theorem dX9_init_38 : decode cX9_init 38 = .ok (.iastore, 1) := by decide +kernel
theorem dX9_init_39 : decode cX9_init 39 = .ok (.dup, 1) := by decide +kernel
theorem dX9_init_40 : decode cX9_init 40 = .ok (.iconst 2, 1) := by decide +kernel
theorem dX9_init_41 : decode cX9_init 41 = .ok (.iconst 4, 1) := by decide +kernel
theorem dX9_init_42 : decode cX9_init 42 = .ok (.iastore, 1) := by decide +kernel
theorem dX9_init_43 : decode cX9_init 43 = .ok (.dup, 1) := by decide +kernel
theorem dX9_init_44 : decode cX9_init 44 = .ok (.iconst 3, 1) := by decide +kernel
theorem dX9_init_45 : decode cX9_init 45 = .ok (.iconst 1, 1) := by decide +kernel
theorem dX9_init_46 : decode cX9_init 46 = .ok (.iastore, 1) := by decide +kernel
theorem dX9_init_47 : decode cX9_init 47 = .ok (.putfield 15, 3) := by decide +kernel
theorem dX9_init_50 : decode cX9_init 50 = .ok (.aload_n 0, 1) := by decide +kernel
theorem dX9_init_51 : decode cX9_init 51 = .ok (.iconst 4, 1) := by decide +kernel
theorem dX9_init_52 : decode cX9_init 52 = .ok (.newarray .boolean, 2) := by decide +kernel
theorem dX9_init_54 : decode cX9_init 54 = .ok (.putfield 18, 3) := by decide +kernel
theorem dX9_init_57 : decode cX9_init 57 = .ok (.return_, 1) := by decide +kernel
theorem dX9_lengthOf_0 : decode cX9_lengthOf 0 = .ok (.aload_n 1, 1) := by decide +kernel
theorem dX9_lengthOf_1 : decode cX9_lengthOf 1 = .ok (.getfield 22, 3) := by decide +kernel
theorem dX9_lengthOf_4 : decode cX9_lengthOf 4 = .ok (.ifCond .ne 5, 3) := by decide +kernel
theorem dX9_lengthOf_7 : decode cX9_lengthOf 7 = .ok (.iconst 0, 1) := by decide +kernel
theorem dX9_lengthOf_8 : decode cX9_lengthOf 8 = .ok (.ireturn, 1) := by decide +kernel
theorem dX9_lengthOf_9 : decode cX9_lengthOf 9 = .ok (.aload_n 1, 1) := by decide +kernel
theorem dX9_lengthOf_10 : decode cX9_lengthOf 10 = .ok (.invokevirtual 28, 3) := by decide +kernel
theorem dX9_lengthOf_13 : decode cX9_lengthOf 13 = .ok (.istore_n 2, 1) := by decide +kernel
theorem dX9_lengthOf_14 : decode cX9_lengthOf 14 = .ok (.iload_n 2, 1) := by decide +kernel
theorem dX9_lengthOf_15 : decode cX9_lengthOf 15 = .ok (.bipush (-2), 2) := by decide +kernel
theorem dX9_lengthOf_17 : decode cX9_lengthOf 17 = .ok (.if_icmp .ne 7, 3) := by decide +kernel
theorem dX9_lengthOf_20 : decode cX9_lengthOf 20 = .ok (.iconst 1, 1) := by decide +kernel
theorem dX9_lengthOf_21 : decode cX9_lengthOf 21 = .ok (.goto 9, 3) := by decide +kernel
theorem dX9_lengthOf_24 : decode cX9_lengthOf 24 = .ok (.aload_n 0, 1) := by decide +kernel
theorem dX9_lengthOf_25 : decode cX9_lengthOf 25 = .ok (.getfield 15, 3) := by decide +kernel
theorem dX9_lengthOf_28 : decode cX9_lengthOf 28 = .ok (.iload_n 2, 1) := by decide +kernel
theorem dX9_lengthOf_29 : decode cX9_lengthOf 29 = .ok (.iaload, 1) := by decide +kernel
theorem dX9_lengthOf_30 : decode cX9_lengthOf 30 = .ok (.ireturn, 1) := by decide +kernel
theorem dX9_filledTicks_0 : decode cX9_filledTicks 0 = .ok (.aload_n 0, 1) := by decide +kernel
theorem dX9_filledTicks_1 : decode cX9_filledTicks 1 = .ok (.getfield 18, 3) := by decide +kernel
theorem dX9_filledTicks_4 : decode cX9_filledTicks 4 = .ok (.iload_n 1, 1) := by decide +kernel
theorem dX9_filledTicks_5 : decode cX9_filledTicks 5 = .ok (.baload, 1) := by decide +kernel
theorem dX9_filledTicks_6 : decode cX9_filledTicks 6 = .ok (.ifCond .eq 7, 3) := by decide +kernel
theorem dX9_filledTicks_9 : decode cX9_filledTicks 9 = .ok (.iconst 1, 1) := by decide +kernel
theorem dX9_filledTicks_10 : decode cX9_filledTicks 10 = .ok (.goto 9, 3) := by decide +kernel
theorem dX9_filledTicks_13 : decode cX9_filledTicks 13 = .ok (.aload_n 0, 1) := by decide +kernel
theorem dX9_filledTicks_14 : decode cX9_filledTicks 14 = .ok (.getfield 15, 3) := by decide +kernel
theorem dX9_filledTicks_17 : decode cX9_filledTicks 17 = .ok (.iload_n 1, 1) := by decide +kernel
theorem dX9_filledTicks_18 : decode cX9_filledTicks 18 = .ok (.iaload, 1) := by decide +kernel
theorem dX9_filledTicks_19 : decode cX9_filledTicks 19 = .ok (.ireturn, 1) := by decide +kernel
theorem dX9_leastTicks_0 : decode cX9_leastTicks 0 = .ok (.iconst 0, 1) := by decide +kernel
theorem dX9_leastTicks_1 : decode cX9_leastTicks 1 = .ok (.istore_n 3, 1) := by decide +kernel
theorem dX9_leastTicks_2 : decode cX9_leastTicks 2 = .ok (.iconst 0, 1) := by decide +kernel
theorem dX9_leastTicks_3 : decode cX9_leastTicks 3 = .ok (.istore 4, 2) := by decide +kernel
theorem dX9_leastTicks_5 : decode cX9_leastTicks 5 = .ok (.iload 4, 2) := by decide +kernel
theorem dX9_leastTicks_7 : decode cX9_leastTicks 7 = .ok (.aload_n 2, 1) := by decide +kernel
theorem dX9_leastTicks_8 : decode cX9_leastTicks 8 = .ok (.invokevirtual 32, 3) := by decide +kernel
theorem dX9_leastTicks_11 : decode cX9_leastTicks 11 = .ok (.if_icmp .ge 30, 3) := by decide +kernel
theorem dX9_leastTicks_14 : decode cX9_leastTicks 14 = .ok (.aload_n 2, 1) := by decide +kernel
theorem dX9_leastTicks_15 : decode cX9_leastTicks 15 = .ok (.iload 4, 2) := by decide +kernel
theorem dX9_leastTicks_17 : decode cX9_leastTicks 17 = .ok (.invokevirtual 37, 3) := by decide +kernel
theorem dX9_leastTicks_20 : decode cX9_leastTicks 20 = .ok (.invokevirtual 28, 3) := by decide +kernel
theorem dX9_leastTicks_23 : decode cX9_leastTicks 23 = .ok (.iload_n 1, 1) := by decide +kernel
theorem dX9_leastTicks_24 : decode cX9_leastTicks 24 = .ok (.if_icmp .ne 11, 3) := by decide +kernel
theorem dX9_leastTicks_27 : decode cX9_leastTicks 27 = .ok (.iload_n 3, 1) := by decide +kernel
theorem dX9_leastTicks_28 : decode cX9_leastTicks 28 = .ok (.aload_n 0, 1) := by decide +kernel
theorem dX9_leastTicks_29 : decode cX9_leastTicks 29 = .ok (.iload_n 1, 1) := by decide +kernel
theorem dX9_leastTicks_30 : decode cX9_leastTicks 30 = .ok (.invokevirtual 41, 3) := by decide +kernel
theorem dX9_leastTicks_33 : decode cX9_leastTicks 33 = .ok (.iadd, 1) := by decide +kernel
theorem dX9_leastTicks_34 : decode cX9_leastTicks 34 = .ok (.istore_n 3, 1) := by decide +kernel
theorem dX9_leastTicks_35 : decode cX9_leastTicks 35 = .ok (.iinc 4 1, 3) := by decide +kernel
theorem dX9_leastTicks_38 : decode cX9_leastTicks 38 = .ok (.goto (-33), 3) := by decide +kernel
theorem dX9_leastTicks_41 : decode cX9_leastTicks 41 = .ok (.iconst 1, 1) := by decide +kernel
theorem dX9_leastTicks_42 : decode cX9_leastTicks 42 = .ok (.aload_n 0, 1) := by decide +kernel
theorem dX9_leastTicks_43 : decode cX9_leastTicks 43 = .ok (.getfield 9, 3) := by decide +kernel
theorem dX9_leastTicks_46 : decode cX9_leastTicks 46 = .ok (.iload_n 1, 1) := by decide +kernel
theorem dX9_leastTicks_47 : decode cX9_leastTicks 47 = .ok (.iaload, 1) := by decide +kernel
theorem dX9_leastTicks_48 : decode cX9_leastTicks 48 = .ok (.invokestatic 45, 3) := by decide +kernel
theorem dX9_leastTicks_51 : decode cX9_leastTicks 51 = .ok (.istore 4, 2) := by decide +kernel
theorem dX9_leastTicks_53 : decode cX9_leastTicks 53 = .ok (.iload_n 3, 1) := by decide +kernel
theorem dX9_leastTicks_54 : decode cX9_leastTicks 54 = .ok (.iload 4, 2) := by decide +kernel
theorem dX9_leastTicks_56 : decode cX9_leastTicks 56 = .ok (.iadd, 1) := by decide +kernel
theorem dX9_leastTicks_57 : decode cX9_leastTicks 57 = .ok (.iconst 1, 1) := by decide +kernel
theorem dX9_leastTicks_58 : decode cX9_leastTicks 58 = .ok (.isub, 1) := by decide +kernel
theorem dX9_leastTicks_59 : decode cX9_leastTicks 59 = .ok (.iload 4, 2) := by decide +kernel
theorem dX9_leastTicks_61 : decode cX9_leastTicks 61 = .ok (.idiv, 1) := by decide +kernel
theorem dX9_leastTicks_62 : decode cX9_leastTicks 62 = .ok (.ireturn, 1) := by decide +kernel
theorem dX10_init_0 : decode cX10_init 0 = .ok (.aload_n 0, 1) := by decide +kernel
theorem dX10_init_1 : decode cX10_init 1 = .ok (.invokespecial 1, 3) := by decide +kernel
theorem dX10_init_4 : decode cX10_init 4 = .ok (.aload_n 0, 1) := by decide +kernel
theorem dX10_init_5 : decode cX10_init 5 = .ok (.iconst 0, 1) := by decide +kernel
theorem dX10_init_6 : decode cX10_init 6 = .ok (.putfield 7, 3) := by decide +kernel
theorem dX10_init_9 : decode cX10_init 9 = .ok (.aload_n 0, 1) := by decide +kernel
theorem dX10_init_10 : decode cX10_init 10 = .ok (.iload_n 1, 1) := by decide +kernel
theorem dX10_init_11 : decode cX10_init 11 = .ok (.newarray .long, 2) := by decide +kernel
theorem dX10_init_13 : decode cX10_init 13 = .ok (.putfield 13, 3) := by decide +kernel
theorem dX10_init_16 : decode cX10_init 16 = .ok (.return_, 1) := by decide +kernel
theorem dX10_size_0 : decode cX10_size 0 = .ok (.aload_n 0, 1) := by decide +kernel
theorem dX10_size_1 : decode cX10_size 1 = .ok (.getfield 7, 3) := by decide +kernel
theorem dX10_size_4 : decode cX10_size 4 = .ok (.ireturn, 1) := by decide +kernel
theorem dX10_isFull_0 : decode cX10_isFull 0 = .ok (.aload_n 0, 1) := by decide +kernel
theorem dX10_isFull_1 : decode cX10_isFull 1 = .ok (.getfield 7, 3) := by decide +kernel
theorem dX10_isFull_4 : decode cX10_isFull 4 = .ok (.aload_n 0, 1) := by decide +kernel
theorem dX10_isFull_5 : decode cX10_isFull 5 = .ok (.getfield 13, 3) := by decide +kernel
theorem dX10_isFull_8 : decode cX10_isFull 8 = .ok (.arraylength, 1) := by decide +kernel
theorem dX10_isFull_9 : decode cX10_isFull 9 = .ok (.if_icmp .ne 7, 3) := by decide +kernel
theorem dX10_isFull_12 : decode cX10_isFull 12 = .ok (.iconst 1, 1) := by decide +kernel
theorem dX10_isFull_13 : decode cX10_isFull 13 = .ok (.goto 4, 3) := by decide +kernel
theorem dX10_isFull_16 : decode cX10_isFull 16 = .ok (.iconst 0, 1) := by decide +kernel
theorem dX10_isFull_17 : decode cX10_isFull 17 = .ok (.ireturn, 1) := by decide +kernel
theorem dX10_get_0 : decode cX10_get 0 = .ok (.aload_n 0, 1) := by decide +kernel
theorem dX10_get_1 : decode cX10_get 1 = .ok (.getfield 13, 3) := by decide +kernel
theorem dX10_get_4 : decode cX10_get 4 = .ok (.iload_n 1, 1) := by decide +kernel
theorem dX10_get_5 : decode cX10_get 5 = .ok (.laload, 1) := by decide +kernel
theorem dX10_get_6 : decode cX10_get 6 = .ok (.lreturn, 1) := by decide +kernel
theorem dX10_append_0 : decode cX10_append 0 = .ok (.aload_n 0, 1) := by decide +kernel
theorem dX10_append_1 : decode cX10_append 1 = .ok (.getfield 7, 3) := by decide +kernel
theorem dX10_append_4 : decode cX10_append 4 = .ok (.aload_n 0, 1) := by decide +kernel
theorem dX10_append_5 : decode cX10_append 5 = .ok (.getfield 13, 3) := by decide +kernel
theorem dX10_append_8 : decode cX10_append 8 = .ok (.arraylength, 1) := by decide +kernel
theorem dX10_append_9 : decode cX10_append 9 = .ok (.if_icmp .ge 23, 3) := by decide +kernel
theorem dX10_append_12 : decode cX10_append 12 = .ok (.aload_n 0, 1) := by decide +kernel
theorem dX10_append_13 : decode cX10_append 13 = .ok (.getfield 13, 3) := by decide +kernel
theorem dX10_append_16 : decode cX10_append 16 = .ok (.aload_n 0, 1) := by decide +kernel
theorem dX10_append_17 : decode cX10_append 17 = .ok (.getfield 7, 3) := by decide +kernel
theorem dX10_append_20 : decode cX10_append 20 = .ok (.lload_n 1, 1) := by decide +kernel
theorem dX10_append_21 : decode cX10_append 21 = .ok (.lastore, 1) := by decide +kernel
theorem dX10_append_22 : decode cX10_append 22 = .ok (.aload_n 0, 1) := by decide +kernel
theorem dX10_append_23 : decode cX10_append 23 = .ok (.dup, 1) := by decide +kernel
theorem dX10_append_24 : decode cX10_append 24 = .ok (.getfield 7, 3) := by decide +kernel
theorem dX10_append_27 : decode cX10_append 27 = .ok (.iconst 1, 1) := by decide +kernel
theorem dX10_append_28 : decode cX10_append 28 = .ok (.iadd, 1) := by decide +kernel
theorem dX10_append_29 : decode cX10_append 29 = .ok (.putfield 7, 3) := by decide +kernel
theorem dX10_append_32 : decode cX10_append 32 = .ok (.return_, 1) := by decide +kernel
theorem dX10_clear_0 : decode cX10_clear 0 = .ok (.aload_n 0, 1) := by decide +kernel
theorem dX10_clear_1 : decode cX10_clear 1 = .ok (.iconst 0, 1) := by decide +kernel
theorem dX10_clear_2 : decode cX10_clear 2 = .ok (.putfield 7, 3) := by decide +kernel
theorem dX10_clear_5 : decode cX10_clear 5 = .ok (.return_, 1) := by decide +kernel
theorem dX11_init_0 : decode cX11_init 0 = .ok (.aload_n 0, 1) := by decide +kernel
theorem dX11_init_1 : decode cX11_init 1 = .ok (.invokespecial 1, 3) := by decide +kernel
theorem dX11_init_4 : decode cX11_init 4 = .ok (.aload_n 0, 1) := by decide +kernel
theorem dX11_init_5 : decode cX11_init 5 = .ok (.new 7, 3) := by decide +kernel
theorem dX11_init_8 : decode cX11_init 8 = .ok (.dup, 1) := by decide +kernel
theorem dX11_init_9 : decode cX11_init 9 = .ok (.invokespecial 9, 3) := by decide +kernel
theorem dX11_init_12 : decode cX11_init 12 = .ok (.putfield 10, 3) := by decide +kernel
theorem dX11_init_15 : decode cX11_init 15 = .ok (.aload_n 0, 1) := by decide +kernel
theorem dX11_init_16 : decode cX11_init 16 = .ok (.new 16, 3) := by decide +kernel
theorem dX11_init_19 : decode cX11_init 19 = .ok (.dup, 1) := by decide +kernel
theorem dX11_init_20 : decode cX11_init 20 = .ok (.invokespecial 18, 3) := by decide +kernel
theorem dX11_init_23 : decode cX11_init 23 = .ok (.putfield 19, 3) := by decide +kernel
theorem dX11_init_26 : decode cX11_init 26 = .ok (.aload_n 0, 1) := by decide +kernel
theorem dX11_init_27 : decode cX11_init 27 = .ok (.new 23, 3) := by decide +kernel
theorem dX11_init_30 : decode cX11_init 30 = .ok (.dup, 1) := by decide +kernel
theorem dX11_init_31 : decode cX11_init 31 = .ok (.aload_n 0, 1) := by decide +kernel
theorem dX11_init_32 : decode cX11_init 32 = .ok (.getfield 10, 3) := by decide +kernel
theorem dX11_init_35 : decode cX11_init 35 = .ok (.aload_n 0, 1) := by decide +kernel
theorem dX11_init_36 : decode cX11_init 36 = .ok (.getfield 19, 3) := by decide +kernel
theorem dX11_init_39 : decode cX11_init 39 = .ok (.invokespecial 25, 3) := by decide +kernel
theorem dX11_init_42 : decode cX11_init 42 = .ok (.putfield 28, 3) := by decide +kernel
theorem dX11_init_45 : decode cX11_init 45 = .ok (.aload_n 0, 1) := by decide +kernel
theorem dX11_init_46 : decode cX11_init 46 = .ok (.new 32, 3) := by decide +kernel
theorem dX11_init_49 : decode cX11_init 49 = .ok (.dup, 1) := by decide +kernel
theorem dX11_init_50 : decode cX11_init 50 = .ok (.aload_n 0, 1) := by decide +kernel
theorem dX11_init_51 : decode cX11_init 51 = .ok (.getfield 10, 3) := by decide +kernel
theorem dX11_init_54 : decode cX11_init 54 = .ok (.aload_n 0, 1) := by decide +kernel
theorem dX11_init_55 : decode cX11_init 55 = .ok (.getfield 19, 3) := by decide +kernel
theorem dX11_init_58 : decode cX11_init 58 = .ok (.aload_n 0, 1) := by decide +kernel
theorem dX11_init_59 : decode cX11_init 59 = .ok (.getfield 28, 3) := by decide +kernel
theorem dX11_init_62 : decode cX11_init 62 = .ok (.invokespecial 34, 3) := by decide +kernel
theorem dX11_init_65 : decode cX11_init 65 = .ok (.putfield 37, 3) := by decide +kernel
theorem dX11_init_68 : decode cX11_init 68 = .ok (.aload_n 0, 1) := by decide +kernel
theorem dX11_init_69 : decode cX11_init 69 = .ok (.new 41, 3) := by decide +kernel
theorem dX11_init_72 : decode cX11_init 72 = .ok (.dup, 1) := by decide +kernel
theorem dX11_init_73 : decode cX11_init 73 = .ok (.aload_n 0, 1) := by decide +kernel
theorem dX11_init_74 : decode cX11_init 74 = .ok (.getfield 10, 3) := by decide +kernel
theorem dX11_init_77 : decode cX11_init 77 = .ok (.aload_n 0, 1) := by decide +kernel
theorem dX11_init_78 : decode cX11_init 78 = .ok (.getfield 19, 3) := by decide +kernel
theorem dX11_init_81 : decode cX11_init 81 = .ok (.aload_n 0, 1) := by decide +kernel
theorem dX11_init_82 : decode cX11_init 82 = .ok (.getfield 37, 3) := by decide +kernel
theorem dX11_init_85 : decode cX11_init 85 = .ok (.invokespecial 43, 3) := by decide +kernel
theorem dX11_init_88 : decode cX11_init 88 = .ok (.putfield 46, 3) := by decide +kernel
theorem dX11_init_91 : decode cX11_init 91 = .ok (.aload_n 0, 1) := by decide +kernel
theorem dX11_init_92 : decode cX11_init 92 = .ok (.new 50, 3) := by decide +kernel
theorem dX11_init_95 : decode cX11_init 95 = .ok (.dup, 1) := by decide +kernel
theorem dX11_init_96 : decode cX11_init 96 = .ok (.aload_n 0, 1) := by decide +kernel
theorem dX11_init_97 : decode cX11_init 97 = .ok (.getfield 10, 3) := by decide +kernel
theorem dX11_init_100 : decode cX11_init 100 = .ok (.invokespecial 52, 3) := by decide +kernel
theorem dX11_init_103 : decode cX11_init 103 = .ok (.putfield 55, 3) := by decide +kernel
theorem dX11_init_106 : decode cX11_init 106 = .ok (.aload_n 0, 1) := by decide +kernel
theorem dX11_init_107 : decode cX11_init 107 = .ok (.bipush 8, 2) := by decide +kernel
theorem dX11_init_109 : decode cX11_init 109 = .ok (.anewarray 59, 3) := by decide +kernel
theorem dX11_init_112 : decode cX11_init 112 = .ok (.putfield 61, 3) := by decide +kernel
theorem dX11_init_115 : decode cX11_init 115 = .ok (.aload_n 0, 1) := by decide +kernel
theorem dX11_init_116 : decode cX11_init 116 = .ok (.iconst 0, 1) := by decide +kernel
theorem dX11_init_117 : decode cX11_init 117 = .ok (.putfield 65, 3) := by decide +kernel
theorem dX11_init_120 : decode cX11_init 120 = .ok (.aload_n 0, 1) := by decide +kernel
theorem dX11_init_121 : decode cX11_init 121 = .ok (.iconst 0, 1) := by decide +kernel
theorem dX11_init_122 : decode cX11_init 122 = .ok (.putfield 69, 3) := by decide +kernel
theorem dX11_init_125 : decode cX11_init 125 = .ok (.return_, 1) := by decide +kernel
theorem dX11_constant_0 : decode cX11_constant 0 = .ok (.iload_n 3, 1) := by decide +kernel
theorem dX11_constant_1 : decode cX11_constant 1 = .ok (.invokestatic 72, 3) := by decide +kernel
theorem dX11_constant_4 : decode cX11_constant 4 = .ok (.ifCond .ne 5, 3) := by decide +kernel
theorem dX11_constant_7 : decode cX11_constant 7 = .ok (.iconst (-1), 1) := by decide +kernel
theorem dX11_constant_8 : decode cX11_constant 8 = .ok (.ireturn, 1) := by decide +kernel
theorem dX11_constant_9 : decode cX11_constant 9 = .ok (.lload_n 1, 1) := by decide +kernel
theorem dX11_constant_10 : decode cX11_constant 10 = .ok (.iload_n 3, 1) := by decide +kernel
theorem dX11_constant_11 : decode cX11_constant 11 = .ok (.invokestatic 76, 3) := by decide +kernel
theorem dX11_constant_14 : decode cX11_constant 14 = .ok (.lstore 4, 2) := by decide +kernel
theorem dX11_constant_16 : decode cX11_constant 16 = .ok (.aload_n 0, 1) := by decide +kernel
theorem dX11_constant_17 : decode cX11_constant 17 = .ok (.new 80, 3) := by decide +kernel
theorem dX11_constant_20 : decode cX11_constant 20 = .ok (.dup, 1) := by decide +kernel
theorem dX11_constant_21 : decode cX11_constant 21 = .ok (.iconst 0, 1) := by decide +kernel
theorem dX11_constant_22 : decode cX11_constant 22 = .ok (.iload_n 3, 1) := by decide +kernel
theorem dX11_constant_23 : decode cX11_constant 23 = .ok (.bipush (-2), 2) := by decide +kernel
theorem dX11_constant_25 : decode cX11_constant 25 = .ok (.bipush (-2), 2) := by decide +kernel
theorem dX11_constant_27 : decode cX11_constant 27 = .ok (.bipush (-2), 2) := by decide +kernel
theorem dX11_constant_29 : decode cX11_constant 29 = .ok (.bipush (-2), 2) := by decide +kernel
theorem dX11_constant_31 : decode cX11_constant 31 = .ok (.new 82, 3) := by decide +kernel
theorem dX11_constant_34 : decode cX11_constant 34 = .ok (.dup, 1) := by decide +kernel
theorem dX11_constant_35 : decode cX11_constant 35 = .ok (.lload 4, 2) := by decide +kernel
theorem dX11_constant_37 : decode cX11_constant 37 = .ok (.lload 4, 2) := by decide +kernel
theorem dX11_constant_39 : decode cX11_constant 39 = .ok (.invokespecial 84, 3) := by decide +kernel
theorem dX11_constant_42 : decode cX11_constant 42 = .ok (.invokespecial 87, 3) := by decide +kernel
theorem dX11_constant_45 : decode cX11_constant 45 = .ok (.invokevirtual 90, 3) := by decide +kernel
theorem dX11_constant_48 : decode cX11_constant 48 = .ok (.ireturn, 1) := by decide +kernel
theorem dX11_port_0 : decode cX11_port 0 = .ok (.iload_n 2, 1) := by decide +kernel
theorem dX11_port_1 : decode cX11_port 1 = .ok (.iconst (-1), 1) := by decide +kernel
theorem dX11_port_2 : decode cX11_port 2 = .ok (.if_icmp .ne 7, 3) := by decide +kernel
theorem dX11_port_5 : decode cX11_port 5 = .ok (.iconst 1, 1) := by decide +kernel
theorem dX11_port_6 : decode cX11_port 6 = .ok (.goto 4, 3) := by decide +kernel
theorem dX11_port_9 : decode cX11_port 9 = .ok (.iconst 0, 1) := by decide +kernel
theorem dX11_port_10 : decode cX11_port 10 = .ok (.istore 4, 2) := by decide +kernel
theorem dX11_port_12 : decode cX11_port 12 = .ok (.iload_n 1, 1) := by decide +kernel
theorem dX11_port_13 : decode cX11_port 13 = .ok (.invokestatic 94, 3) := by decide +kernel
theorem dX11_port_16 : decode cX11_port 16 = .ok (.ifCond .eq 26, 3) := by decide +kernel
theorem dX11_port_19 : decode cX11_port 19 = .ok (.iload 4, 2) := by decide +kernel
theorem dX11_port_21 : decode cX11_port 21 = .ok (.ifCond .ne 14, 3) := by decide +kernel
theorem dX11_port_24 : decode cX11_port 24 = .ok (.aload_n 0, 1) := by decide +kernel
theorem dX11_port_25 : decode cX11_port 25 = .ok (.getfield 10, 3) := by decide +kernel
theorem dX11_port_28 : decode cX11_port 28 = .ok (.iload_n 2, 1) := by decide +kernel
theorem dX11_port_29 : decode cX11_port 29 = .ok (.invokevirtual 97, 3) := by decide +kernel
theorem dX11_port_32 : decode cX11_port 32 = .ok (.ifCond .eq 10, 3) := by decide +kernel
theorem dX11_port_35 : decode cX11_port 35 = .ok (.iload_n 3, 1) := by decide +kernel
theorem dX11_port_36 : decode cX11_port 36 = .ok (.invokestatic 72, 3) := by decide +kernel
theorem dX11_port_39 : decode cX11_port 39 = .ok (.ifCond .ne 5, 3) := by decide +kernel
theorem dX11_port_42 : decode cX11_port 42 = .ok (.iconst (-1), 1) := by decide +kernel
theorem dX11_port_43 : decode cX11_port 43 = .ok (.ireturn, 1) := by decide +kernel
theorem dX11_port_44 : decode cX11_port 44 = .ok (.iload 4, 2) := by decide +kernel
theorem dX11_port_46 : decode cX11_port 46 = .ok (.ifCond .eq 28, 3) := by decide +kernel
theorem dX11_port_49 : decode cX11_port 49 = .ok (.aload_n 0, 1) := by decide +kernel
theorem dX11_port_50 : decode cX11_port 50 = .ok (.new 80, 3) := by decide +kernel
theorem dX11_port_53 : decode cX11_port 53 = .ok (.dup, 1) := by decide +kernel
theorem dX11_port_54 : decode cX11_port 54 = .ok (.iconst 1, 1) := by decide +kernel
theorem dX11_port_55 : decode cX11_port 55 = .ok (.iload_n 3, 1) := by decide +kernel
theorem dX11_port_56 : decode cX11_port 56 = .ok (.iload_n 1, 1) := by decide +kernel
theorem dX11_port_57 : decode cX11_port 57 = .ok (.bipush (-2), 2) := by decide +kernel
theorem dX11_port_59 : decode cX11_port 59 = .ok (.bipush (-2), 2) := by decide +kernel
theorem dX11_port_61 : decode cX11_port 61 = .ok (.bipush (-2), 2) := by decide +kernel
theorem dX11_port_63 : decode cX11_port 63 = .ok (.iload_n 3, 1) := by decide +kernel
theorem dX11_port_64 : decode cX11_port 64 = .ok (.invokestatic 100, 3) := by decide +kernel
theorem dX11_port_67 : decode cX11_port 67 = .ok (.invokespecial 87, 3) := by decide +kernel
theorem dX11_port_70 : decode cX11_port 70 = .ok (.invokevirtual 90, 3) := by decide +kernel
theorem dX11_port_73 : decode cX11_port 73 = .ok (.ireturn, 1) := by decide +kernel
theorem dX11_port_74 : decode cX11_port 74 = .ok (.aload_n 0, 1) := by decide +kernel
theorem dX11_port_75 : decode cX11_port 75 = .ok (.getfield 10, 3) := by decide +kernel
theorem dX11_port_78 : decode cX11_port 78 = .ok (.iload_n 2, 1) := by decide +kernel
theorem dX11_port_79 : decode cX11_port 79 = .ok (.invokevirtual 104, 3) := by decide +kernel
theorem dX11_port_82 : decode cX11_port 82 = .ok (.getfield 108, 3) := by decide +kernel
theorem dX11_port_85 : decode cX11_port 85 = .ok (.iload_n 3, 1) := by decide +kernel
theorem dX11_port_86 : decode cX11_port 86 = .ok (.invokevirtual 112, 3) := by decide +kernel
theorem dX11_port_89 : decode cX11_port 89 = .ok (.astore 5, 2) := by decide +kernel
theorem dX11_port_91 : decode cX11_port 91 = .ok (.aload_n 0, 1) := by decide +kernel
theorem dX11_port_92 : decode cX11_port 92 = .ok (.new 80, 3) := by decide +kernel
theorem dX11_port_95 : decode cX11_port 95 = .ok (.dup, 1) := by decide +kernel
theorem dX11_port_96 : decode cX11_port 96 = .ok (.bipush 10, 2) := by decide +kernel
theorem dX11_port_98 : decode cX11_port 98 = .ok (.iload_n 3, 1) := by decide +kernel
theorem dX11_port_99 : decode cX11_port 99 = .ok (.iload_n 1, 1) := by decide +kernel
theorem dX11_port_100 : decode cX11_port 100 = .ok (.iload_n 2, 1) := by decide +kernel
theorem dX11_port_101 : decode cX11_port 101 = .ok (.bipush (-2), 2) := by decide +kernel
theorem dX11_port_103 : decode cX11_port 103 = .ok (.bipush (-2), 2) := by decide +kernel
theorem dX11_port_105 : decode cX11_port 105 = .ok (.aload 5, 2) := by decide +kernel
theorem dX11_port_107 : decode cX11_port 107 = .ok (.invokespecial 87, 3) := by decide +kernel
theorem dX11_port_110 : decode cX11_port 110 = .ok (.invokevirtual 90, 3) := by decide +kernel
theorem dX11_port_113 : decode cX11_port 113 = .ok (.ireturn, 1) := by decide +kernel
theorem dX11_reckon_0 : decode cX11_reckon 0 = .ok (.iload_n 1, 1) := by decide +kernel
theorem dX11_reckon_1 : decode cX11_reckon 1 = .ok (.iconst 2, 1) := by decide +kernel
theorem dX11_reckon_2 : decode cX11_reckon 2 = .ok (.bipush 6, 2) := by decide +kernel
theorem dX11_reckon_4 : decode cX11_reckon 4 = .ok (.invokestatic 115, 3) := by decide +kernel
