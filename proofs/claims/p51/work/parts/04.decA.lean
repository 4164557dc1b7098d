theorem dX0_init_0 : decode cX0_init 0 = .ok (.aload_n 0, 1) := by decide +kernel
theorem dX0_init_1 : decode cX0_init 1 = .ok (.invokespecial 3, 3) := by decide +kernel
theorem dX0_init_4 : decode cX0_init 4 = .ok (.aload_n 0, 1) := by decide +kernel
theorem dX0_init_5 : decode cX0_init 5 = .ok (.bipush 8, 2) := by decide +kernel
theorem dX0_init_7 : decode cX0_init 7 = .ok (.newarray .int, 2) := by decide +kernel
theorem dX0_init_9 : decode cX0_init 9 = .ok (.putfield 9, 3) := by decide +kernel
theorem dX0_init_12 : decode cX0_init 12 = .ok (.aload_n 0, 1) := by decide +kernel
theorem dX0_init_13 : decode cX0_init 13 = .ok (.bipush 8, 2) := by decide +kernel
theorem dX0_init_15 : decode cX0_init 15 = .ok (.newarray .int, 2) := by decide +kernel
theorem dX0_init_17 : decode cX0_init 17 = .ok (.putfield 15, 3) := by decide +kernel
theorem dX0_init_20 : decode cX0_init 20 = .ok (.aload_n 0, 1) := by decide +kernel
theorem dX0_init_21 : decode cX0_init 21 = .ok (.bipush 8, 2) := by decide +kernel
theorem dX0_init_23 : decode cX0_init 23 = .ok (.newarray .int, 2) := by decide +kernel
theorem dX0_init_25 : decode cX0_init 25 = .ok (.putfield 18, 3) := by decide +kernel
theorem dX0_init_28 : decode cX0_init 28 = .ok (.aload_n 0, 1) := by decide +kernel
theorem dX0_init_29 : decode cX0_init 29 = .ok (.bipush 8, 2) := by decide +kernel
theorem dX0_init_31 : decode cX0_init 31 = .ok (.newarray .boolean, 2) := by decide +kernel
theorem dX0_init_33 : decode cX0_init 33 = .ok (.putfield 21, 3) := by decide +kernel
theorem dX0_init_36 : decode cX0_init 36 = .ok (.return_, 1) := by decide +kernel
theorem dX0_copyFrom_0 : decode cX0_copyFrom 0 = .ok (.aload_n 0, 1) := by decide +kernel
theorem dX0_copyFrom_1 : decode cX0_copyFrom 1 = .ok (.aload_n 1, 1) := by decide +kernel
theorem dX0_copyFrom_2 : decode cX0_copyFrom 2 = .ok (.getfield 25, 3) := by decide +kernel
theorem dX0_copyFrom_5 : decode cX0_copyFrom 5 = .ok (.putfield 25, 3) := by decide +kernel
theorem dX0_copyFrom_8 : decode cX0_copyFrom 8 = .ok (.iconst 0, 1) := by decide +kernel
theorem dX0_copyFrom_9 : decode cX0_copyFrom 9 = .ok (.istore_n 2, 1) := by decide +kernel
theorem dX0_copyFrom_10 : decode cX0_copyFrom 10 = .ok (.iload_n 2, 1) := by decide +kernel
theorem dX0_copyFrom_11 : decode cX0_copyFrom 11 = .ok (.aload_n 0, 1) := by decide +kernel
theorem dX0_copyFrom_12 : decode cX0_copyFrom 12 = .ok (.getfield 25, 3) := by decide +kernel
theorem dX0_copyFrom_15 : decode cX0_copyFrom 15 = .ok (.if_icmp .ge 57, 3) := by decide +kernel
theorem dX0_copyFrom_18 : decode cX0_copyFrom 18 = .ok (.aload_n 0, 1) := by decide +kernel
theorem dX0_copyFrom_19 : decode cX0_copyFrom 19 = .ok (.getfield 9, 3) := by decide +kernel
theorem dX0_copyFrom_22 : decode cX0_copyFrom 22 = .ok (.iload_n 2, 1) := by decide +kernel
theorem dX0_copyFrom_23 : decode cX0_copyFrom 23 = .ok (.aload_n 1, 1) := by decide +kernel
theorem dX0_copyFrom_24 : decode cX0_copyFrom 24 = .ok (.getfield 9, 3) := by decide +kernel
theorem dX0_copyFrom_27 : decode cX0_copyFrom 27 = .ok (.iload_n 2, 1) := by decide +kernel
theorem dX0_copyFrom_28 : decode cX0_copyFrom 28 = .ok (.iaload, 1) := by decide +kernel
theorem dX0_copyFrom_29 : decode cX0_copyFrom 29 = .ok (.iastore, 1) := by decide +kernel
theorem dX0_copyFrom_30 : decode cX0_copyFrom 30 = .ok (.aload_n 0, 1) := by decide +kernel
theorem dX0_copyFrom_31 : decode cX0_copyFrom 31 = .ok (.getfield 15, 3) := by decide +kernel
theorem dX0_copyFrom_34 : decode cX0_copyFrom 34 = .ok (.iload_n 2, 1) := by decide +kernel
theorem dX0_copyFrom_35 : decode cX0_copyFrom 35 = .ok (.aload_n 1, 1) := by decide +kernel
theorem dX0_copyFrom_36 : decode cX0_copyFrom 36 = .ok (.getfield 15, 3) := by decide +kernel
theorem dX0_copyFrom_39 : decode cX0_copyFrom 39 = .ok (.iload_n 2, 1) := by decide +kernel
theorem dX0_copyFrom_40 : decode cX0_copyFrom 40 = .ok (.iaload, 1) := by decide +kernel
theorem dX0_copyFrom_41 : decode cX0_copyFrom 41 = .ok (.iastore, 1) := by decide +kernel
theorem dX0_copyFrom_42 : decode cX0_copyFrom 42 = .ok (.aload_n 0, 1) := by decide +kernel
theorem dX0_copyFrom_43 : decode cX0_copyFrom 43 = .ok (.getfield 18, 3) := by decide +kernel
theorem dX0_copyFrom_46 : decode cX0_copyFrom 46 = .ok (.iload_n 2, 1) := by decide +kernel
theorem dX0_copyFrom_47 : decode cX0_copyFrom 47 = .ok (.aload_n 1, 1) := by decide +kernel
theorem dX0_copyFrom_48 : decode cX0_copyFrom 48 = .ok (.getfield 18, 3) := by decide +kernel
theorem dX0_copyFrom_51 : decode cX0_copyFrom 51 = .ok (.iload_n 2, 1) := by decide +kernel
theorem dX0_copyFrom_52 : decode cX0_copyFrom 52 = .ok (.iaload, 1) := by decide +kernel
theorem dX0_copyFrom_53 : decode cX0_copyFrom 53 = .ok (.iastore, 1) := by decide +kernel
theorem dX0_copyFrom_54 : decode cX0_copyFrom 54 = .ok (.aload_n 0, 1) := by decide +kernel
theorem dX0_copyFrom_55 : decode cX0_copyFrom 55 = .ok (.getfield 21, 3) := by decide +kernel
theorem dX0_copyFrom_58 : decode cX0_copyFrom 58 = .ok (.iload_n 2, 1) := by decide +kernel
theorem dX0_copyFrom_59 : decode cX0_copyFrom 59 = .ok (.aload_n 1, 1) := by decide +kernel
theorem dX0_copyFrom_60 : decode cX0_copyFrom 60 = .ok (.getfield 21, 3) := by decide +kernel
theorem dX0_copyFrom_63 : decode cX0_copyFrom 63 = .ok (.iload_n 2, 1) := by decide +kernel
theorem dX0_copyFrom_64 : decode cX0_copyFrom 64 = .ok (.baload, 1) := by decide +kernel
theorem dX0_copyFrom_65 : decode cX0_copyFrom 65 = .ok (.bastore, 1) := by decide +kernel
theorem dX0_copyFrom_66 : decode cX0_copyFrom 66 = .ok (.iinc 2 1, 3) := by decide +kernel
theorem dX0_copyFrom_69 : decode cX0_copyFrom 69 = .ok (.goto (-59), 3) := by decide +kernel
theorem dX0_copyFrom_72 : decode cX0_copyFrom 72 = .ok (.return_, 1) := by decide +kernel
theorem dX0_has_0 : decode cX0_has 0 = .ok (.iload_n 1, 1) := by decide +kernel
theorem dX0_has_1 : decode cX0_has 1 = .ok (.ifCond .lt 15, 3) := by decide +kernel
theorem dX0_has_4 : decode cX0_has 4 = .ok (.iload_n 1, 1) := by decide +kernel
theorem dX0_has_5 : decode cX0_has 5 = .ok (.aload_n 0, 1) := by decide +kernel
theorem dX0_has_6 : decode cX0_has 6 = .ok (.getfield 25, 3) := by decide +kernel
theorem dX0_has_9 : decode cX0_has 9 = .ok (.if_icmp .ge 7, 3) := by decide +kernel
theorem dX0_has_12 : decode cX0_has 12 = .ok (.iconst 1, 1) := by decide +kernel
theorem dX0_has_13 : decode cX0_has 13 = .ok (.goto 4, 3) := by decide +kernel
theorem dX0_has_16 : decode cX0_has 16 = .ok (.iconst 0, 1) := by decide +kernel
theorem dX0_has_17 : decode cX0_has 17 = .ok (.ireturn, 1) := by decide +kernel
theorem dX0_add_0 : decode cX0_add 0 = .ok (.aload_n 0, 1) := by decide +kernel
theorem dX0_add_1 : decode cX0_add 1 = .ok (.getfield 25, 3) := by decide +kernel
theorem dX0_add_4 : decode cX0_add 4 = .ok (.istore_n 2, 1) := by decide +kernel
theorem dX0_add_5 : decode cX0_add 5 = .ok (.aload_n 0, 1) := by decide +kernel
theorem dX0_add_6 : decode cX0_add 6 = .ok (.getfield 9, 3) := by decide +kernel
theorem dX0_add_9 : decode cX0_add 9 = .ok (.iload_n 2, 1) := by decide +kernel
theorem dX0_add_10 : decode cX0_add 10 = .ok (.iload_n 1, 1) := by decide +kernel
theorem dX0_add_11 : decode cX0_add 11 = .ok (.iastore, 1) := by decide +kernel
theorem dX0_add_12 : decode cX0_add 12 = .ok (.aload_n 0, 1) := by decide +kernel
theorem dX0_add_13 : decode cX0_add 13 = .ok (.getfield 15, 3) := by decide +kernel
theorem dX0_add_16 : decode cX0_add 16 = .ok (.iload_n 2, 1) := by decide +kernel
theorem dX0_add_17 : decode cX0_add 17 = .ok (.iconst 0, 1) := by decide +kernel
theorem dX0_add_18 : decode cX0_add 18 = .ok (.iastore, 1) := by decide +kernel
theorem dX0_add_19 : decode cX0_add 19 = .ok (.aload_n 0, 1) := by decide +kernel
theorem dX0_add_20 : decode cX0_add 20 = .ok (.getfield 18, 3) := by decide +kernel
theorem dX0_add_23 : decode cX0_add 23 = .ok (.iload_n 2, 1) := by decide +kernel
theorem dX0_add_24 : decode cX0_add 24 = .ok (.iconst 0, 1) := by decide +kernel
theorem dX0_add_25 : decode cX0_add 25 = .ok (.iastore, 1) := by decide +kernel
theorem dX0_add_26 : decode cX0_add 26 = .ok (.aload_n 0, 1) := by decide +kernel
theorem dX0_add_27 : decode cX0_add 27 = .ok (.getfield 21, 3) := by decide +kernel
theorem dX0_add_30 : decode cX0_add 30 = .ok (.iload_n 2, 1) := by decide +kernel
theorem dX0_add_31 : decode cX0_add 31 = .ok (.iconst 0, 1) := by decide +kernel
theorem dX0_add_32 : decode cX0_add 32 = .ok (.bastore, 1) := by decide +kernel
theorem dX0_add_33 : decode cX0_add 33 = .ok (.aload_n 0, 1) := by decide +kernel
theorem dX0_add_34 : decode cX0_add 34 = .ok (.dup, 1) := by decide +kernel
theorem dX0_add_35 : decode cX0_add 35 = .ok (.getfield 25, 3) := by decide +kernel
theorem dX0_add_38 : decode cX0_add 38 = .ok (.iconst 1, 1) := by decide +kernel
theorem dX0_add_39 : decode cX0_add 39 = .ok (.iadd, 1) := by decide +kernel
theorem dX0_add_40 : decode cX0_add 40 = .ok (.putfield 25, 3) := by decide +kernel
theorem dX0_add_43 : decode cX0_add 43 = .ok (.iload_n 2, 1) := by decide +kernel
theorem dX0_add_44 : decode cX0_add 44 = .ok (.ireturn, 1) := by decide +kernel
theorem dX0_changeLimit_0 : decode cX0_changeLimit 0 = .ok (.aload_n 0, 1) := by decide +kernel
theorem dX0_changeLimit_1 : decode cX0_changeLimit 1 = .ok (.getfield 18, 3) := by decide +kernel
theorem dX0_changeLimit_4 : decode cX0_changeLimit 4 = .ok (.iload_n 1, 1) := by decide +kernel
theorem dX0_changeLimit_5 : decode cX0_changeLimit 5 = .ok (.iaload, 1) := by decide +kernel
theorem dX0_changeLimit_6 : decode cX0_changeLimit 6 = .ok (.istore_n 3, 1) := by decide +kernel
theorem dX0_changeLimit_7 : decode cX0_changeLimit 7 = .ok (.aload_n 0, 1) := by decide +kernel
theorem dX0_changeLimit_8 : decode cX0_changeLimit 8 = .ok (.getfield 18, 3) := by decide +kernel
theorem dX0_changeLimit_11 : decode cX0_changeLimit 11 = .ok (.iload_n 1, 1) := by decide +kernel
theorem dX0_changeLimit_12 : decode cX0_changeLimit 12 = .ok (.iload_n 2, 1) := by decide +kernel
theorem dX0_changeLimit_13 : decode cX0_changeLimit 13 = .ok (.iastore, 1) := by decide +kernel
theorem dX0_changeLimit_14 : decode cX0_changeLimit 14 = .ok (.iload_n 3, 1) := by decide +kernel
theorem dX0_changeLimit_15 : decode cX0_changeLimit 15 = .ok (.ireturn, 1) := by decide +kernel
theorem dX0_available_0 : decode cX0_available 0 = .ok (.aload_n 0, 1) := by decide +kernel
theorem dX0_available_1 : decode cX0_available 1 = .ok (.getfield 15, 3) := by decide +kernel
theorem dX0_available_4 : decode cX0_available 4 = .ok (.iload_n 1, 1) := by decide +kernel
theorem dX0_available_5 : decode cX0_available 5 = .ok (.iaload, 1) := by decide +kernel
theorem dX0_available_6 : decode cX0_available 6 = .ok (.aload_n 0, 1) := by decide +kernel
theorem dX0_available_7 : decode cX0_available 7 = .ok (.getfield 18, 3) := by decide +kernel
theorem dX0_available_10 : decode cX0_available 10 = .ok (.iload_n 1, 1) := by decide +kernel
theorem dX0_available_11 : decode cX0_available 11 = .ok (.iaload, 1) := by decide +kernel
theorem dX0_available_12 : decode cX0_available 12 = .ok (.iadd, 1) := by decide +kernel
theorem dX0_available_13 : decode cX0_available 13 = .ok (.ireturn, 1) := by decide +kernel
theorem dX0_forgetTouches_0 : decode cX0_forgetTouches 0 = .ok (.iconst 0, 1) := by decide +kernel
theorem dX0_forgetTouches_1 : decode cX0_forgetTouches 1 = .ok (.istore_n 1, 1) := by decide +kernel
theorem dX0_forgetTouches_2 : decode cX0_forgetTouches 2 = .ok (.iload_n 1, 1) := by decide +kernel
theorem dX0_forgetTouches_3 : decode cX0_forgetTouches 3 = .ok (.aload_n 0, 1) := by decide +kernel
theorem dX0_forgetTouches_4 : decode cX0_forgetTouches 4 = .ok (.getfield 25, 3) := by decide +kernel
theorem dX0_forgetTouches_7 : decode cX0_forgetTouches 7 = .ok (.if_icmp .ge 16, 3) := by decide +kernel
theorem dX0_forgetTouches_10 : decode cX0_forgetTouches 10 = .ok (.aload_n 0, 1) := by decide +kernel
theorem dX0_forgetTouches_11 : decode cX0_forgetTouches 11 = .ok (.getfield 21, 3) := by decide +kernel
theorem dX0_forgetTouches_14 : decode cX0_forgetTouches 14 = .ok (.iload_n 1, 1) := by decide +kernel
theorem dX0_forgetTouches_15 : decode cX0_forgetTouches 15 = .ok (.iconst 0, 1) := by decide +kernel
theorem dX0_forgetTouches_16 : decode cX0_forgetTouches 16 = .ok (.bastore, 1) := by decide +kernel
theorem dX0_forgetTouches_17 : decode cX0_forgetTouches 17 = .ok (.iinc 1 1, 3) := by decide +kernel
theorem dX0_forgetTouches_20 : decode cX0_forgetTouches 20 = .ok (.goto (-18), 3) := by decide +kernel
theorem dX0_forgetTouches_23 : decode cX0_forgetTouches 23 = .ok (.return_, 1) := by decide +kernel
theorem dX0_sum_0 : decode cX0_sum 0 = .ok (.lconst 0, 1) := by decide +kernel
theorem dX0_sum_1 : decode cX0_sum 1 = .ok (.lstore_n 1, 1) := by decide +kernel
theorem dX0_sum_2 : decode cX0_sum 2 = .ok (.iconst 0, 1) := by decide +kernel
theorem dX0_sum_3 : decode cX0_sum 3 = .ok (.istore_n 3, 1) := by decide +kernel
theorem dX0_sum_4 : decode cX0_sum 4 = .ok (.iload_n 3, 1) := by decide +kernel
theorem dX0_sum_5 : decode cX0_sum 5 = .ok (.aload_n 0, 1) := by decide +kernel
theorem dX0_sum_6 : decode cX0_sum 6 = .ok (.getfield 25, 3) := by decide +kernel
theorem dX0_sum_9 : decode cX0_sum 9 = .ok (.if_icmp .ge 19, 3) := by decide +kernel
theorem dX0_sum_12 : decode cX0_sum 12 = .ok (.lload_n 1, 1) := by decide +kernel
theorem dX0_sum_13 : decode cX0_sum 13 = .ok (.aload_n 0, 1) := by decide +kernel
theorem dX0_sum_14 : decode cX0_sum 14 = .ok (.getfield 15, 3) := by decide +kernel
theorem dX0_sum_17 : decode cX0_sum 17 = .ok (.iload_n 3, 1) := by decide +kernel
theorem dX0_sum_18 : decode cX0_sum 18 = .ok (.iaload, 1) := by decide +kernel
theorem dX0_sum_19 : decode cX0_sum 19 = .ok (.i2l, 1) := by decide +kernel
theorem dX0_sum_20 : decode cX0_sum 20 = .ok (.ladd, 1) := by decide +kernel
theorem dX0_sum_21 : decode cX0_sum 21 = .ok (.lstore_n 1, 1) := by decide +kernel
theorem dX0_sum_22 : decode cX0_sum 22 = .ok (.iinc 3 1, 3) := by decide +kernel
theorem dX0_sum_25 : decode cX0_sum 25 = .ok (.goto (-21), 3) := by decide +kernel
theorem dX0_sum_28 : decode cX0_sum 28 = .ok (.lload_n 1, 1) := by decide +kernel
theorem dX0_sum_29 : decode cX0_sum 29 = .ok (.lreturn, 1) := by decide +kernel
theorem dX0_interest_0 : decode cX0_interest 0 = .ok (.aload_n 0, 1) := by decide +kernel
theorem dX0_interest_1 : decode cX0_interest 1 = .ok (.getfield 15, 3) := by decide +kernel
theorem dX0_interest_4 : decode cX0_interest 4 = .ok (.iload_n 1, 1) := by decide +kernel
theorem dX0_interest_5 : decode cX0_interest 5 = .ok (.iaload, 1) := by decide +kernel
theorem dX0_interest_6 : decode cX0_interest 6 = .ok (.istore_n 2, 1) := by decide +kernel
theorem dX0_interest_7 : decode cX0_interest 7 = .ok (.iload_n 2, 1) := by decide +kernel
theorem dX0_interest_8 : decode cX0_interest 8 = .ok (.ifCond .ge 18, 3) := by decide +kernel
theorem dX0_interest_11 : decode cX0_interest 11 = .ok (.aload_n 0, 1) := by decide +kernel
theorem dX0_interest_12 : decode cX0_interest 12 = .ok (.iload_n 1, 1) := by decide +kernel
theorem dX0_interest_13 : decode cX0_interest 13 = .ok (.invokevirtual 29, 3) := by decide +kernel
theorem dX0_interest_16 : decode cX0_interest 16 = .ok (.aload_n 0, 1) := by decide +kernel
theorem dX0_interest_17 : decode cX0_interest 17 = .ok (.iload_n 1, 1) := by decide +kernel
theorem dX0_interest_18 : decode cX0_interest 18 = .ok (.invokevirtual 33, 3) := by decide +kernel
theorem dX0_interest_21 : decode cX0_interest 21 = .ok (.invokestatic 36, 3) := by decide +kernel
theorem dX0_interest_24 : decode cX0_interest 24 = .ok (.ineg, 1) := by decide +kernel
theorem dX0_interest_25 : decode cX0_interest 25 = .ok (.ireturn, 1) := by decide +kernel
theorem dX0_interest_26 : decode cX0_interest 26 = .ok (.iload_n 2, 1) := by decide +kernel
theorem dX0_interest_27 : decode cX0_interest 27 = .ok (.sipush 9999, 3) := by decide +kernel
theorem dX0_interest_30 : decode cX0_interest 30 = .ok (.invokestatic 36, 3) := by decide +kernel
theorem dX0_interest_33 : decode cX0_interest 33 = .ok (.bipush 100, 2) := by decide +kernel
theorem dX0_interest_35 : decode cX0_interest 35 = .ok (.idiv, 1) := by decide +kernel
theorem dX0_interest_36 : decode cX0_interest 36 = .ok (.istore_n 3, 1) := by decide +kernel
theorem dX0_interest_37 : decode cX0_interest 37 = .ok (.aload_n 0, 1) := by decide +kernel
theorem dX0_interest_38 : decode cX0_interest 38 = .ok (.getfield 9, 3) := by decide +kernel
theorem dX0_interest_41 : decode cX0_interest 41 = .ok (.iload_n 1, 1) := by decide +kernel
theorem dX0_interest_42 : decode cX0_interest 42 = .ok (.iaload, 1) := by decide +kernel
theorem dX0_interest_43 : decode cX0_interest 43 = .ok (.tableswitch 57 0 3 #[29, 31, 57, 40], 29) := by decide +kernel
theorem dX0_interest_72 : decode cX0_interest 72 = .ok (.iload_n 3, 1) := by decide +kernel
theorem dX0_interest_73 : decode cX0_interest 73 = .ok (.ireturn, 1) := by decide +kernel
theorem dX0_interest_74 : decode cX0_interest 74 = .ok (.iconst 3, 1) := by decide +kernel
theorem dX0_interest_75 : decode cX0_interest 75 = .ok (.iload_n 3, 1) := by decide +kernel
theorem dX0_interest_76 : decode cX0_interest 76 = .ok (.imul, 1) := by decide +kernel
theorem dX0_interest_77 : decode cX0_interest 77 = .ok (.bipush 30, 2) := by decide +kernel
theorem dX0_interest_79 : decode cX0_interest 79 = .ok (.invokestatic 36, 3) := by decide +kernel
theorem dX0_interest_82 : decode cX0_interest 82 = .ok (.ireturn, 1) := by decide +kernel
theorem dX0_interest_83 : decode cX0_interest 83 = .ok (.aload_n 0, 1) := by decide +kernel
theorem dX0_interest_84 : decode cX0_interest 84 = .ok (.getfield 21, 3) := by decide +kernel
theorem dX0_interest_87 : decode cX0_interest 87 = .ok (.iload_n 1, 1) := by decide +kernel
theorem dX0_interest_88 : decode cX0_interest 88 = .ok (.baload, 1) := by decide +kernel
theorem dX0_interest_89 : decode cX0_interest 89 = .ok (.ifCond .eq 7, 3) := by decide +kernel
theorem dX0_interest_92 : decode cX0_interest 92 = .ok (.iconst 0, 1) := by decide +kernel
theorem dX0_interest_93 : decode cX0_interest 93 = .ok (.goto 6, 3) := by decide +kernel
theorem dX0_interest_96 : decode cX0_interest 96 = .ok (.iconst 5, 1) := by decide +kernel
theorem dX0_interest_97 : decode cX0_interest 97 = .ok (.iload_n 3, 1) := by decide +kernel
theorem dX0_interest_98 : decode cX0_interest 98 = .ok (.imul, 1) := by decide +kernel
theorem dX0_interest_99 : decode cX0_interest 99 = .ok (.ireturn, 1) := by decide +kernel
theorem dX0_interest_100 : decode cX0_interest 100 = .ok (.iconst 0, 1) := by decide +kernel
theorem dX0_interest_101 : decode cX0_interest 101 = .ok (.ireturn, 1) := by decide +kernel
theorem dX0_fullCharge_0 : decode cX0_fullCharge 0 = .ok (.aload_n 0, 1) := by decide +kernel
theorem dX0_fullCharge_1 : decode cX0_fullCharge 1 = .ok (.getfield 9, 3) := by decide +kernel
theorem dX0_fullCharge_4 : decode cX0_fullCharge 4 = .ok (.iload_n 1, 1) := by decide +kernel
theorem dX0_fullCharge_5 : decode cX0_fullCharge 5 = .ok (.iaload, 1) := by decide +kernel
theorem dX0_fullCharge_6 : decode cX0_fullCharge 6 = .ok (.iconst 2, 1) := by decide +kernel
theorem dX0_fullCharge_7 : decode cX0_fullCharge 7 = .ok (.if_icmp .ne 5, 3) := by decide +kernel
theorem dX0_fullCharge_10 : decode cX0_fullCharge 10 = .ok (.iconst 5, 1) := by decide +kernel
theorem dX0_fullCharge_11 : decode cX0_fullCharge 11 = .ok (.ireturn, 1) := by decide +kernel
theorem dX0_fullCharge_12 : decode cX0_fullCharge 12 = .ok (.iconst 1, 1) := by decide +kernel
theorem dX0_fullCharge_13 : decode cX0_fullCharge 13 = .ok (.aload_n 0, 1) := by decide +kernel
theorem dX0_fullCharge_14 : decode cX0_fullCharge 14 = .ok (.getfield 15, 3) := by decide +kernel
theorem dX0_fullCharge_17 : decode cX0_fullCharge 17 = .ok (.iload_n 1, 1) := by decide +kernel
theorem dX0_fullCharge_18 : decode cX0_fullCharge 18 = .ok (.iaload, 1) := by decide +kernel
theorem dX0_fullCharge_19 : decode cX0_fullCharge 19 = .ok (.ineg, 1) := by decide +kernel
theorem dX0_fullCharge_20 : decode cX0_fullCharge 20 = .ok (.bipush 50, 2) := by decide +kernel
theorem dX0_fullCharge_22 : decode cX0_fullCharge 22 = .ok (.idiv, 1) := by decide +kernel
theorem dX0_fullCharge_23 : decode cX0_fullCharge 23 = .ok (.iconst 2, 1) := by decide +kernel
theorem dX0_fullCharge_24 : decode cX0_fullCharge 24 = .ok (.imul, 1) := by decide +kernel
theorem dX0_fullCharge_25 : decode cX0_fullCharge 25 = .ok (.invokestatic 42, 3) := by decide +kernel
theorem dX0_fullCharge_28 : decode cX0_fullCharge 28 = .ok (.ireturn, 1) := by decide +kernel
theorem dX0_atRank_0 : decode cX0_atRank 0 = .ok (.iconst 0, 1) := by decide +kernel
theorem dX0_atRank_1 : decode cX0_atRank 1 = .ok (.istore_n 2, 1) := by decide +kernel
theorem dX0_atRank_2 : decode cX0_atRank 2 = .ok (.iconst 0, 1) := by decide +kernel
theorem dX0_atRank_3 : decode cX0_atRank 3 = .ok (.istore_n 3, 1) := by decide +kernel
theorem dX0_atRank_4 : decode cX0_atRank 4 = .ok (.iload_n 3, 1) := by decide +kernel
theorem dX0_atRank_5 : decode cX0_atRank 5 = .ok (.aload_n 0, 1) := by decide +kernel
theorem dX0_atRank_6 : decode cX0_atRank 6 = .ok (.getfield 25, 3) := by decide +kernel
theorem dX0_atRank_9 : decode cX0_atRank 9 = .ok (.if_icmp .ge 20, 3) := by decide +kernel
theorem dX0_atRank_12 : decode cX0_atRank 12 = .ok (.aload_n 0, 1) := by decide +kernel
theorem dX0_atRank_13 : decode cX0_atRank 13 = .ok (.iload_n 3, 1) := by decide +kernel
theorem dX0_atRank_14 : decode cX0_atRank 14 = .ok (.invokevirtual 45, 3) := by decide +kernel
theorem dX0_atRank_17 : decode cX0_atRank 17 = .ok (.iload_n 1, 1) := by decide +kernel
theorem dX0_atRank_18 : decode cX0_atRank 18 = .ok (.if_icmp .ne 5, 3) := by decide +kernel
theorem dX0_atRank_21 : decode cX0_atRank 21 = .ok (.iload_n 3, 1) := by decide +kernel
theorem dX0_atRank_22 : decode cX0_atRank 22 = .ok (.istore_n 2, 1) := by decide +kernel
theorem dX0_atRank_23 : decode cX0_atRank 23 = .ok (.iinc 3 1, 3) := by decide +kernel
theorem dX0_atRank_26 : decode cX0_atRank 26 = .ok (.goto (-22), 3) := by decide +kernel
theorem dX0_atRank_29 : decode cX0_atRank 29 = .ok (.iload_n 2, 1) := by decide +kernel
theorem dX0_atRank_30 : decode cX0_atRank 30 = .ok (.ireturn, 1) := by decide +kernel
theorem dX0_rankOf_0 : decode cX0_rankOf 0 = .ok (.iconst 0, 1) := by decide +kernel
theorem dX0_rankOf_1 : decode cX0_rankOf 1 = .ok (.istore_n 2, 1) := by decide +kernel
theorem dX0_rankOf_2 : decode cX0_rankOf 2 = .ok (.iconst 0, 1) := by decide +kernel
theorem dX0_rankOf_3 : decode cX0_rankOf 3 = .ok (.istore_n 3, 1) := by decide +kernel
theorem dX0_rankOf_4 : decode cX0_rankOf 4 = .ok (.iload_n 3, 1) := by decide +kernel
theorem dX0_rankOf_5 : decode cX0_rankOf 5 = .ok (.aload_n 0, 1) := by decide +kernel
theorem dX0_rankOf_6 : decode cX0_rankOf 6 = .ok (.getfield 25, 3) := by decide +kernel
theorem dX0_rankOf_9 : decode cX0_rankOf 9 = .ok (.if_icmp .ge 71, 3) := by decide +kernel
theorem dX0_rankOf_12 : decode cX0_rankOf 12 = .ok (.aload_n 0, 1) := by decide +kernel
theorem dX0_rankOf_13 : decode cX0_rankOf 13 = .ok (.getfield 15, 3) := by decide +kernel
theorem dX0_rankOf_16 : decode cX0_rankOf 16 = .ok (.iload_n 3, 1) := by decide +kernel
theorem dX0_rankOf_17 : decode cX0_rankOf 17 = .ok (.iaload, 1) := by decide +kernel
theorem dX0_rankOf_18 : decode cX0_rankOf 18 = .ok (.aload_n 0, 1) := by decide +kernel
theorem dX0_rankOf_19 : decode cX0_rankOf 19 = .ok (.getfield 15, 3) := by decide +kernel
theorem dX0_rankOf_22 : decode cX0_rankOf 22 = .ok (.iload_n 1, 1) := by decide +kernel
theorem dX0_rankOf_23 : decode cX0_rankOf 23 = .ok (.iaload, 1) := by decide +kernel
theorem dX0_rankOf_24 : decode cX0_rankOf 24 = .ok (.if_icmp .le 7, 3) := by decide +kernel
theorem dX0_rankOf_27 : decode cX0_rankOf 27 = .ok (.iconst 1, 1) := by decide +kernel
theorem dX0_rankOf_28 : decode cX0_rankOf 28 = .ok (.goto 4, 3) := by decide +kernel
theorem dX0_rankOf_31 : decode cX0_rankOf 31 = .ok (.iconst 0, 1) := by decide +kernel
theorem dX0_rankOf_32 : decode cX0_rankOf 32 = .ok (.istore 4, 2) := by decide +kernel
theorem dX0_rankOf_34 : decode cX0_rankOf 34 = .ok (.aload_n 0, 1) := by decide +kernel
theorem dX0_rankOf_35 : decode cX0_rankOf 35 = .ok (.getfield 15, 3) := by decide +kernel
theorem dX0_rankOf_38 : decode cX0_rankOf 38 = .ok (.iload_n 3, 1) := by decide +kernel
theorem dX0_rankOf_39 : decode cX0_rankOf 39 = .ok (.iaload, 1) := by decide +kernel
theorem dX0_rankOf_40 : decode cX0_rankOf 40 = .ok (.aload_n 0, 1) := by decide +kernel
theorem dX0_rankOf_41 : decode cX0_rankOf 41 = .ok (.getfield 15, 3) := by decide +kernel
theorem dX0_rankOf_44 : decode cX0_rankOf 44 = .ok (.iload_n 1, 1) := by decide +kernel
theorem dX0_rankOf_45 : decode cX0_rankOf 45 = .ok (.iaload, 1) := by decide +kernel
theorem dX0_rankOf_46 : decode cX0_rankOf 46 = .ok (.if_icmp .ne 12, 3) := by decide +kernel
theorem dX0_rankOf_49 : decode cX0_rankOf 49 = .ok (.iload_n 3, 1) := by decide +kernel
theorem dX0_rankOf_50 : decode cX0_rankOf 50 = .ok (.iload_n 1, 1) := by decide +kernel
theorem dX0_rankOf_51 : decode cX0_rankOf 51 = .ok (.if_icmp .ge 7, 3) := by decide +kernel
theorem dX0_rankOf_54 : decode cX0_rankOf 54 = .ok (.iconst 1, 1) := by decide +kernel
theorem dX0_rankOf_55 : decode cX0_rankOf 55 = .ok (.goto 4, 3) := by decide +kernel
theorem dX0_rankOf_58 : decode cX0_rankOf 58 = .ok (.iconst 0, 1) := by decide +kernel
theorem dX0_rankOf_59 : decode cX0_rankOf 59 = .ok (.istore 5, 2) := by decide +kernel
theorem dX0_rankOf_61 : decode cX0_rankOf 61 = .ok (.iload 4, 2) := by decide +kernel
theorem dX0_rankOf_63 : decode cX0_rankOf 63 = .ok (.ifCond .ne 8, 3) := by decide +kernel
theorem dX0_rankOf_66 : decode cX0_rankOf 66 = .ok (.iload 5, 2) := by decide +kernel
theorem dX0_rankOf_68 : decode cX0_rankOf 68 = .ok (.ifCond .eq 6, 3) := by decide +kernel
theorem dX0_rankOf_71 : decode cX0_rankOf 71 = .ok (.iinc 2 1, 3) := by decide +kernel
theorem dX0_rankOf_74 : decode cX0_rankOf 74 = .ok (.iinc 3 1, 3) := by decide +kernel
theorem dX0_rankOf_77 : decode cX0_rankOf 77 = .ok (.goto (-73), 3) := by decide +kernel
theorem dX0_rankOf_80 : decode cX0_rankOf 80 = .ok (.iload_n 2, 1) := by decide +kernel
theorem dX0_rankOf_81 : decode cX0_rankOf 81 = .ok (.ireturn, 1) := by decide +kernel
theorem dX1_init_0 : decode cX1_init 0 = .ok (.aload_n 0, 1) := by decide +kernel
theorem dX1_init_1 : decode cX1_init 1 = .ok (.invokespecial 3, 3) := by decide +kernel
theorem dX1_init_4 : decode cX1_init 4 = .ok (.aload_n 0, 1) := by decide +kernel
theorem dX1_init_5 : decode cX1_init 5 = .ok (.bipush 8, 2) := by decide +kernel
theorem dX1_init_7 : decode cX1_init 7 = .ok (.anewarray 9, 3) := by decide +kernel
theorem dX1_init_10 : decode cX1_init 10 = .ok (.putfield 11, 3) := by decide +kernel
theorem dX1_init_13 : decode cX1_init 13 = .ok (.iconst 0, 1) := by decide +kernel
theorem dX1_init_14 : decode cX1_init 14 = .ok (.istore_n 1, 1) := by decide +kernel
theorem dX1_init_15 : decode cX1_init 15 = .ok (.iload_n 1, 1) := by decide +kernel
theorem dX1_init_16 : decode cX1_init 16 = .ok (.bipush 8, 2) := by decide +kernel
theorem dX1_init_18 : decode cX1_init 18 = .ok (.if_icmp .ge 22, 3) := by decide +kernel
theorem dX1_init_21 : decode cX1_init 21 = .ok (.aload_n 0, 1) := by decide +kernel
theorem dX1_init_22 : decode cX1_init 22 = .ok (.getfield 11, 3) := by decide +kernel
theorem dX1_init_25 : decode cX1_init 25 = .ok (.iload_n 1, 1) := by decide +kernel
theorem dX1_init_26 : decode cX1_init 26 = .ok (.new 9, 3) := by decide +kernel
theorem dX1_init_29 : decode cX1_init 29 = .ok (.dup, 1) := by decide +kernel
theorem dX1_init_30 : decode cX1_init 30 = .ok (.invokespecial 17, 3) := by decide +kernel
theorem dX1_init_33 : decode cX1_init 33 = .ok (.aastore, 1) := by decide +kernel
theorem dX1_init_34 : decode cX1_init 34 = .ok (.iinc 1 1, 3) := by decide +kernel
theorem dX1_init_37 : decode cX1_init 37 = .ok (.goto (-22), 3) := by decide +kernel
theorem dX1_init_40 : decode cX1_init 40 = .ok (.return_, 1) := by decide +kernel
theorem dX1_remember_0 : decode cX1_remember 0 = .ok (.aload_n 0, 1) := by decide +kernel
theorem dX1_remember_1 : decode cX1_remember 1 = .ok (.aload_n 0, 1) := by decide +kernel
theorem dX1_remember_2 : decode cX1_remember 2 = .ok (.getfield 18, 3) := by decide +kernel
theorem dX1_remember_5 : decode cX1_remember 5 = .ok (.iconst 1, 1) := by decide +kernel
theorem dX1_remember_6 : decode cX1_remember 6 = .ok (.iadd, 1) := by decide +kernel
theorem dX1_remember_7 : decode cX1_remember 7 = .ok (.bipush 8, 2) := by decide +kernel
theorem dX1_remember_9 : decode cX1_remember 9 = .ok (.invokestatic 22, 3) := by decide +kernel
theorem dX1_remember_12 : decode cX1_remember 12 = .ok (.putfield 18, 3) := by decide +kernel
theorem dX1_remember_15 : decode cX1_remember 15 = .ok (.aload_n 0, 1) := by decide +kernel
theorem dX1_remember_16 : decode cX1_remember 16 = .ok (.getfield 11, 3) := by decide +kernel
theorem dX1_remember_19 : decode cX1_remember 19 = .ok (.aload_n 0, 1) := by decide +kernel
theorem dX1_remember_20 : decode cX1_remember 20 = .ok (.getfield 18, 3) := by decide +kernel
theorem dX1_remember_23 : decode cX1_remember 23 = .ok (.aaload, 1) := by decide +kernel
theorem dX1_remember_24 : decode cX1_remember 24 = .ok (.aload_n 1, 1) := by decide +kernel
theorem dX1_remember_25 : decode cX1_remember 25 = .ok (.invokevirtual 28, 3) := by decide +kernel
theorem dX1_remember_28 : decode cX1_remember 28 = .ok (.aload_n 0, 1) := by decide +kernel
theorem dX1_remember_29 : decode cX1_remember 29 = .ok (.aload_n 0, 1) := by decide +kernel
theorem dX1_remember_30 : decode cX1_remember 30 = .ok (.getfield 32, 3) := by decide +kernel
theorem dX1_remember_33 : decode cX1_remember 33 = .ok (.iconst 1, 1) := by decide +kernel
theorem dX1_remember_34 : decode cX1_remember 34 = .ok (.iadd, 1) := by decide +kernel
theorem dX1_remember_35 : decode cX1_remember 35 = .ok (.bipush 8, 2) := by decide +kernel
theorem dX1_remember_37 : decode cX1_remember 37 = .ok (.invokestatic 35, 3) := by decide +kernel
theorem dX1_remember_40 : decode cX1_remember 40 = .ok (.putfield 32, 3) := by decide +kernel
theorem dX1_remember_43 : decode cX1_remember 43 = .ok (.return_, 1) := by decide +kernel
theorem dX2_init_0 : decode cX2_init 0 = .ok (.aload_n 0, 1) := by decide +kernel
theorem dX2_init_1 : decode cX2_init 1 = .ok (.invokespecial 3, 3) := by decide +kernel
theorem dX2_init_4 : decode cX2_init 4 = .ok (.aload_n 0, 1) := by decide +kernel
theorem dX2_init_5 : decode cX2_init 5 = .ok (.bipush 10, 2) := by decide +kernel
theorem dX2_init_7 : decode cX2_init 7 = .ok (.newarray .char, 2) := by decide +kernel
theorem dX2_init_9 : decode cX2_init 9 = .ok (.putfield 9, 3) := by decide +kernel
theorem dX2_init_12 : decode cX2_init 12 = .ok (.aload_n 0, 1) := by decide +kernel
theorem dX2_init_13 : decode cX2_init 13 = .ok (.bipush 10, 2) := by decide +kernel
theorem dX2_init_15 : decode cX2_init 15 = .ok (.newarray .int, 2) := by decide +kernel
theorem dX2_init_17 : decode cX2_init 17 = .ok (.putfield 15, 3) := by decide +kernel
theorem dX2_init_20 : decode cX2_init 20 = .ok (.aload_n 0, 1) := by decide +kernel
theorem dX2_init_21 : decode cX2_init 21 = .ok (.bipush 10, 2) := by decide +kernel
theorem dX2_init_23 : decode cX2_init 23 = .ok (.newarray .int, 2) := by decide +kernel
theorem dX2_init_25 : decode cX2_init 25 = .ok (.putfield 19, 3) := by decide +kernel
theorem dX2_init_28 : decode cX2_init 28 = .ok (.return_, 1) := by decide +kernel
theorem dX2_copyFrom_0 : decode cX2_copyFrom 0 = .ok (.aload_n 0, 1) := by decide +kernel
theorem dX2_copyFrom_1 : decode cX2_copyFrom 1 = .ok (.aload_n 1, 1) := by decide +kernel
theorem dX2_copyFrom_2 : decode cX2_copyFrom 2 = .ok (.getfield 22, 3) := by decide +kernel
theorem dX2_copyFrom_5 : decode cX2_copyFrom 5 = .ok (.putfield 22, 3) := by decide +kernel
theorem dX2_copyFrom_8 : decode cX2_copyFrom 8 = .ok (.aload_n 0, 1) := by decide +kernel
theorem dX2_copyFrom_9 : decode cX2_copyFrom 9 = .ok (.aload_n 1, 1) := by decide +kernel
theorem dX2_copyFrom_10 : decode cX2_copyFrom 10 = .ok (.getfield 26, 3) := by decide +kernel
theorem dX2_copyFrom_13 : decode cX2_copyFrom 13 = .ok (.putfield 26, 3) := by decide +kernel
theorem dX2_copyFrom_16 : decode cX2_copyFrom 16 = .ok (.iconst 0, 1) := by decide +kernel
theorem dX2_copyFrom_17 : decode cX2_copyFrom 17 = .ok (.istore_n 2, 1) := by decide +kernel
theorem dX2_copyFrom_18 : decode cX2_copyFrom 18 = .ok (.iload_n 2, 1) := by decide +kernel
theorem dX2_copyFrom_19 : decode cX2_copyFrom 19 = .ok (.bipush 10, 2) := by decide +kernel
theorem dX2_copyFrom_21 : decode cX2_copyFrom 21 = .ok (.if_icmp .ge 45, 3) := by decide +kernel
theorem dX2_copyFrom_24 : decode cX2_copyFrom 24 = .ok (.aload_n 0, 1) := by decide +kernel
theorem dX2_copyFrom_25 : decode cX2_copyFrom 25 = .ok (.getfield 9, 3) := by decide +kernel
theorem dX2_copyFrom_28 : decode cX2_copyFrom 28 = .ok (.iload_n 2, 1) := by decide +kernel
theorem dX2_copyFrom_29 : decode cX2_copyFrom 29 = .ok (.aload_n 1, 1) := by decide +kernel
theorem dX2_copyFrom_30 : decode cX2_copyFrom 30 = .ok (.getfield 9, 3) := by decide +kernel
theorem dX2_copyFrom_33 : decode cX2_copyFrom 33 = .ok (.iload_n 2, 1) := by decide +kernel
theorem dX2_copyFrom_34 : decode cX2_copyFrom 34 = .ok (.caload, 1) := by decide +kernel
theorem dX2_copyFrom_35 : decode cX2_copyFrom 35 = .ok (.castore, 1) := by decide +kernel
theorem dX2_copyFrom_36 : decode cX2_copyFrom 36 = .ok (.aload_n 0, 1) := by decide +kernel
theorem dX2_copyFrom_37 : decode cX2_copyFrom 37 = .ok (.getfield 15, 3) := by decide +kernel
theorem dX2_copyFrom_40 : decode cX2_copyFrom 40 = .ok (.iload_n 2, 1) := by decide +kernel
theorem dX2_copyFrom_41 : decode cX2_copyFrom 41 = .ok (.aload_n 1, 1) := by decide +kernel
theorem dX2_copyFrom_42 : decode cX2_copyFrom 42 = .ok (.getfield 15, 3) := by decide +kernel
theorem dX2_copyFrom_45 : decode cX2_copyFrom 45 = .ok (.iload_n 2, 1) := by decide +kernel
theorem dX2_copyFrom_46 : decode cX2_copyFrom 46 = .ok (.iaload, 1) := by decide +kernel
theorem dX2_copyFrom_47 : decode cX2_copyFrom 47 = .ok (.iastore, 1) := by decide +kernel
theorem dX2_copyFrom_48 : decode cX2_copyFrom 48 = .ok (.aload_n 0, 1) := by decide +kernel
theorem dX2_copyFrom_49 : decode cX2_copyFrom 49 = .ok (.getfield 19, 3) := by decide +kernel
theorem dX2_copyFrom_52 : decode cX2_copyFrom 52 = .ok (.iload_n 2, 1) := by decide +kernel
theorem dX2_copyFrom_53 : decode cX2_copyFrom 53 = .ok (.aload_n 1, 1) := by decide +kernel
theorem dX2_copyFrom_54 : decode cX2_copyFrom 54 = .ok (.getfield 19, 3) := by decide +kernel
theorem dX2_copyFrom_57 : decode cX2_copyFrom 57 = .ok (.iload_n 2, 1) := by decide +kernel
theorem dX2_copyFrom_58 : decode cX2_copyFrom 58 = .ok (.iaload, 1) := by decide +kernel
theorem dX2_copyFrom_59 : decode cX2_copyFrom 59 = .ok (.iastore, 1) := by decide +kernel
theorem dX2_copyFrom_60 : decode cX2_copyFrom 60 = .ok (.iinc 2 1, 3) := by decide +kernel
theorem dX2_copyFrom_63 : decode cX2_copyFrom 63 = .ok (.goto (-45), 3) := by decide +kernel
theorem dX2_copyFrom_66 : decode cX2_copyFrom 66 = .ok (.return_, 1) := by decide +kernel
theorem dX2_slot_0 : decode cX2_slot 0 = .ok (.aload_n 0, 1) := by decide +kernel
theorem dX2_slot_1 : decode cX2_slot 1 = .ok (.getfield 26, 3) := by decide +kernel
theorem dX2_slot_4 : decode cX2_slot 4 = .ok (.iload_n 1, 1) := by decide +kernel
theorem dX2_slot_5 : decode cX2_slot 5 = .ok (.isub, 1) := by decide +kernel
theorem dX2_slot_6 : decode cX2_slot 6 = .ok (.bipush 10, 2) := by decide +kernel
theorem dX2_slot_8 : decode cX2_slot 8 = .ok (.invokestatic 29, 3) := by decide +kernel
theorem dX2_slot_11 : decode cX2_slot 11 = .ok (.ireturn, 1) := by decide +kernel
theorem dX2_add_0 : decode cX2_add 0 = .ok (.iload_n 2, 1) := by decide +kernel
theorem dX2_add_1 : decode cX2_add 1 = .ok (.iconst 1, 1) := by decide +kernel
theorem dX2_add_2 : decode cX2_add 2 = .ok (.if_icmp .ge 4, 3) := by decide +kernel
theorem dX2_add_5 : decode cX2_add 5 = .ok (.return_, 1) := by decide +kernel
theorem dX2_add_6 : decode cX2_add 6 = .ok (.aload_n 0, 1) := by decide +kernel
theorem dX2_add_7 : decode cX2_add 7 = .ok (.aload_n 0, 1) := by decide +kernel
theorem dX2_add_8 : decode cX2_add 8 = .ok (.getfield 26, 3) := by decide +kernel
theorem dX2_add_11 : decode cX2_add 11 = .ok (.iconst 1, 1) := by decide +kernel
theorem dX2_add_12 : decode cX2_add 12 = .ok (.iadd, 1) := by decide +kernel
theorem dX2_add_13 : decode cX2_add 13 = .ok (.bipush 10, 2) := by decide +kernel
theorem dX2_add_15 : decode cX2_add 15 = .ok (.invokestatic 29, 3) := by decide +kernel
theorem dX2_add_18 : decode cX2_add 18 = .ok (.putfield 26, 3) := by decide +kernel
theorem dX2_add_21 : decode cX2_add 21 = .ok (.aload_n 0, 1) := by decide +kernel
theorem dX2_add_22 : decode cX2_add 22 = .ok (.getfield 9, 3) := by decide +kernel
theorem dX2_add_25 : decode cX2_add 25 = .ok (.aload_n 0, 1) := by decide +kernel
theorem dX2_add_26 : decode cX2_add 26 = .ok (.getfield 26, 3) := by decide +kernel
theorem dX2_add_29 : decode cX2_add 29 = .ok (.iload_n 1, 1) := by decide +kernel
theorem dX2_add_30 : decode cX2_add 30 = .ok (.castore, 1) := by decide +kernel
theorem dX2_add_31 : decode cX2_add 31 = .ok (.aload_n 0, 1) := by decide +kernel
theorem dX2_add_32 : decode cX2_add 32 = .ok (.getfield 15, 3) := by decide +kernel
theorem dX2_add_35 : decode cX2_add 35 = .ok (.aload_n 0, 1) := by decide +kernel
theorem dX2_add_36 : decode cX2_add 36 = .ok (.getfield 26, 3) := by decide +kernel
theorem dX2_add_39 : decode cX2_add 39 = .ok (.iload_n 2, 1) := by decide +kernel
theorem dX2_add_40 : decode cX2_add 40 = .ok (.iastore, 1) := by decide +kernel
theorem dX2_add_41 : decode cX2_add 41 = .ok (.aload_n 0, 1) := by decide +kernel
theorem dX2_add_42 : decode cX2_add 42 = .ok (.getfield 19, 3) := by decide +kernel
theorem dX2_add_45 : decode cX2_add 45 = .ok (.aload_n 0, 1) := by decide +kernel
theorem dX2_add_46 : decode cX2_add 46 = .ok (.getfield 26, 3) := by decide +kernel
theorem dX2_add_49 : decode cX2_add 49 = .ok (.iload_n 3, 1) := by decide +kernel
theorem dX2_add_50 : decode cX2_add 50 = .ok (.iastore, 1) := by decide +kernel
theorem dX2_add_51 : decode cX2_add 51 = .ok (.aload_n 0, 1) := by decide +kernel
theorem dX2_add_52 : decode cX2_add 52 = .ok (.aload_n 0, 1) := by decide +kernel
theorem dX2_add_53 : decode cX2_add 53 = .ok (.getfield 22, 3) := by decide +kernel
theorem dX2_add_56 : decode cX2_add 56 = .ok (.iconst 1, 1) := by decide +kernel
theorem dX2_add_57 : decode cX2_add 57 = .ok (.iadd, 1) := by decide +kernel
theorem dX2_add_58 : decode cX2_add 58 = .ok (.bipush 10, 2) := by decide +kernel
theorem dX2_add_60 : decode cX2_add 60 = .ok (.invokestatic 35, 3) := by decide +kernel
theorem dX2_add_63 : decode cX2_add 63 = .ok (.putfield 22, 3) := by decide +kernel
theorem dX2_add_66 : decode cX2_add 66 = .ok (.return_, 1) := by decide +kernel
theorem dX3_init_0 : decode cX3_init 0 = .ok (.aload_n 0, 1) := by decide +kernel
theorem dX3_init_1 : decode cX3_init 1 = .ok (.invokespecial 3, 3) := by decide +kernel
theorem dX3_init_4 : decode cX3_init 4 = .ok (.aload_n 0, 1) := by decide +kernel
theorem dX3_init_5 : decode cX3_init 5 = .ok (.new 9, 3) := by decide +kernel
theorem dX3_init_8 : decode cX3_init 8 = .ok (.dup, 1) := by decide +kernel
theorem dX3_init_9 : decode cX3_init 9 = .ok (.invokespecial 11, 3) := by decide +kernel
theorem dX3_init_12 : decode cX3_init 12 = .ok (.putfield 12, 3) := by decide +kernel
theorem dX3_init_15 : decode cX3_init 15 = .ok (.aload_n 0, 1) := by decide +kernel
theorem dX3_init_16 : decode cX3_init 16 = .ok (.new 18, 3) := by decide +kernel
theorem dX3_init_19 : decode cX3_init 19 = .ok (.dup, 1) := by decide +kernel
theorem dX3_init_20 : decode cX3_init 20 = .ok (.invokespecial 20, 3) := by decide +kernel
theorem dX3_init_23 : decode cX3_init 23 = .ok (.putfield 21, 3) := by decide +kernel
theorem dX3_init_26 : decode cX3_init 26 = .ok (.aload_n 0, 1) := by decide +kernel
theorem dX3_init_27 : decode cX3_init 27 = .ok (.new 25, 3) := by decide +kernel
theorem dX3_init_30 : decode cX3_init 30 = .ok (.dup, 1) := by decide +kernel
theorem dX3_init_31 : decode cX3_init 31 = .ok (.invokespecial 27, 3) := by decide +kernel
theorem dX3_init_34 : decode cX3_init 34 = .ok (.putfield 28, 3) := by decide +kernel
theorem dX3_init_37 : decode cX3_init 37 = .ok (.return_, 1) := by decide +kernel
theorem dX3_copyFrom_0 : decode cX3_copyFrom 0 = .ok (.aload_n 0, 1) := by decide +kernel
theorem dX3_copyFrom_1 : decode cX3_copyFrom 1 = .ok (.getfield 12, 3) := by decide +kernel
theorem dX3_copyFrom_4 : decode cX3_copyFrom 4 = .ok (.aload_n 1, 1) := by decide +kernel
theorem dX3_copyFrom_5 : decode cX3_copyFrom 5 = .ok (.getfield 12, 3) := by decide +kernel
theorem dX3_copyFrom_8 : decode cX3_copyFrom 8 = .ok (.invokevirtual 32, 3) := by decide +kernel
theorem dX3_copyFrom_11 : decode cX3_copyFrom 11 = .ok (.aload_n 0, 1) := by decide +kernel
theorem dX3_copyFrom_12 : decode cX3_copyFrom 12 = .ok (.getfield 21, 3) := by decide +kernel
theorem dX3_copyFrom_15 : decode cX3_copyFrom 15 = .ok (.aload_n 1, 1) := by decide +kernel
theorem dX3_copyFrom_16 : decode cX3_copyFrom 16 = .ok (.getfield 21, 3) := by decide +kernel
theorem dX3_copyFrom_19 : decode cX3_copyFrom 19 = .ok (.invokevirtual 36, 3) := by decide +kernel
theorem dX3_copyFrom_22 : decode cX3_copyFrom 22 = .ok (.aload_n 0, 1) := by decide +kernel
theorem dX3_copyFrom_23 : decode cX3_copyFrom 23 = .ok (.getfield 28, 3) := by decide +kernel
theorem dX3_copyFrom_26 : decode cX3_copyFrom 26 = .ok (.aload_n 1, 1) := by decide +kernel
theorem dX3_copyFrom_27 : decode cX3_copyFrom 27 = .ok (.getfield 28, 3) := by decide +kernel
theorem dX3_copyFrom_30 : decode cX3_copyFrom 30 = .ok (.invokevirtual 39, 3) := by decide +kernel
theorem dX3_copyFrom_33 : decode cX3_copyFrom 33 = .ok (.aload_n 0, 1) := by decide +kernel
theorem dX3_copyFrom_34 : decode cX3_copyFrom 34 = .ok (.aload_n 1, 1) := by decide +kernel
theorem dX3_copyFrom_35 : decode cX3_copyFrom 35 = .ok (.getfield 42, 3) := by decide +kernel
theorem dX3_copyFrom_38 : decode cX3_copyFrom 38 = .ok (.putfield 42, 3) := by decide +kernel
theorem dX3_copyFrom_41 : decode cX3_copyFrom 41 = .ok (.aload_n 0, 1) := by decide +kernel
theorem dX3_copyFrom_42 : decode cX3_copyFrom 42 = .ok (.aload_n 1, 1) := by decide +kernel
theorem dX3_copyFrom_43 : decode cX3_copyFrom 43 = .ok (.getfield 46, 3) := by decide +kernel
theorem dX3_copyFrom_46 : decode cX3_copyFrom 46 = .ok (.putfield 46, 3) := by decide +kernel
theorem dX3_copyFrom_49 : decode cX3_copyFrom 49 = .ok (.aload_n 0, 1) := by decide +kernel
theorem dX3_copyFrom_50 : decode cX3_copyFrom 50 = .ok (.aload_n 1, 1) := by decide +kernel
theorem dX3_copyFrom_51 : decode cX3_copyFrom 51 = .ok (.getfield 49, 3) := by decide +kernel
theorem dX3_copyFrom_54 : decode cX3_copyFrom 54 = .ok (.putfield 49, 3) := by decide +kernel
theorem dX3_copyFrom_57 : decode cX3_copyFrom 57 = .ok (.aload_n 0, 1) := by decide +kernel
theorem dX3_copyFrom_58 : decode cX3_copyFrom 58 = .ok (.aload_n 1, 1) := by decide +kernel
theorem dX3_copyFrom_59 : decode cX3_copyFrom 59 = .ok (.getfield 52, 3) := by decide +kernel
theorem dX3_copyFrom_62 : decode cX3_copyFrom 62 = .ok (.putfield 52, 3) := by decide +kernel
theorem dX3_copyFrom_65 : decode cX3_copyFrom 65 = .ok (.aload_n 0, 1) := by decide +kernel
theorem dX3_copyFrom_66 : decode cX3_copyFrom 66 = .ok (.aload_n 1, 1) := by decide +kernel
theorem dX3_copyFrom_67 : decode cX3_copyFrom 67 = .ok (.getfield 56, 3) := by decide +kernel
theorem dX3_copyFrom_70 : decode cX3_copyFrom 70 = .ok (.putfield 56, 3) := by decide +kernel
theorem dX3_copyFrom_73 : decode cX3_copyFrom 73 = .ok (.aload_n 0, 1) := by decide +kernel
theorem dX3_copyFrom_74 : decode cX3_copyFrom 74 = .ok (.aload_n 1, 1) := by decide +kernel
theorem dX3_copyFrom_75 : decode cX3_copyFrom 75 = .ok (.getfield 59, 3) := by decide +kernel
theorem dX3_copyFrom_78 : decode cX3_copyFrom 78 = .ok (.putfield 59, 3) := by decide +kernel
theorem dX3_copyFrom_81 : decode cX3_copyFrom 81 = .ok (.aload_n 0, 1) := by decide +kernel
theorem dX3_copyFrom_82 : decode cX3_copyFrom 82 = .ok (.aload_n 1, 1) := by decide +kernel
theorem dX3_copyFrom_83 : decode cX3_copyFrom 83 = .ok (.getfield 62, 3) := by decide +kernel
theorem dX3_copyFrom_86 : decode cX3_copyFrom 86 = .ok (.putfield 62, 3) := by decide +kernel
theorem dX3_copyFrom_89 : decode cX3_copyFrom 89 = .ok (.aload_n 0, 1) := by decide +kernel
theorem dX3_copyFrom_90 : decode cX3_copyFrom 90 = .ok (.aload_n 1, 1) := by decide +kernel
theorem dX3_copyFrom_91 : decode cX3_copyFrom 91 = .ok (.getfield 65, 3) := by decide +kernel
theorem dX3_copyFrom_94 : decode cX3_copyFrom 94 = .ok (.putfield 65, 3) := by decide +kernel
theorem dX3_copyFrom_97 : decode cX3_copyFrom 97 = .ok (.return_, 1) := by decide +kernel
theorem dX3_openFault_0 : decode cX3_openFault 0 = .ok (.iload_n 1, 1) := by decide +kernel
theorem dX3_openFault_1 : decode cX3_openFault 1 = .ok (.iconst 0, 1) := by decide +kernel
theorem dX3_openFault_2 : decode cX3_openFault 2 = .ok (.iconst 3, 1) := by decide +kernel
theorem dX3_openFault_3 : decode cX3_openFault 3 = .ok (.invokestatic 68, 3) := by decide +kernel
theorem dX3_openFault_6 : decode cX3_openFault 6 = .ok (.ifCond .ne 5, 3) := by decide +kernel
theorem dX3_openFault_9 : decode cX3_openFault 9 = .ok (.iconst 2, 1) := by decide +kernel
theorem dX3_openFault_10 : decode cX3_openFault 10 = .ok (.ireturn, 1) := by decide +kernel
theorem dX3_openFault_11 : decode cX3_openFault 11 = .ok (.aload_n 0, 1) := by decide +kernel
theorem dX3_openFault_12 : decode cX3_openFault 12 = .ok (.getfield 12, 3) := by decide +kernel
theorem dX3_openFault_15 : decode cX3_openFault 15 = .ok (.getfield 72, 3) := by decide +kernel
theorem dX3_openFault_18 : decode cX3_openFault 18 = .ok (.bipush 8, 2) := by decide +kernel
theorem dX3_openFault_20 : decode cX3_openFault 20 = .ok (.if_icmp .lt 7, 3) := by decide +kernel
theorem dX3_openFault_23 : decode cX3_openFault 23 = .ok (.iconst 4, 1) := by decide +kernel
theorem dX3_openFault_24 : decode cX3_openFault 24 = .ok (.goto 4, 3) := by decide +kernel
theorem dX3_openFault_27 : decode cX3_openFault 27 = .ok (.iconst 0, 1) := by decide +kernel
theorem dX3_openFault_28 : decode cX3_openFault 28 = .ok (.ireturn, 1) := by decide +kernel
theorem dX3_payInFault_0 : decode cX3_payInFault 0 = .ok (.aload_n 0, 1) := by decide +kernel
theorem dX3_payInFault_1 : decode cX3_payInFault 1 = .ok (.iload_n 1, 1) := by decide +kernel
theorem dX3_payInFault_2 : decode cX3_payInFault 2 = .ok (.iload_n 2, 1) := by decide +kernel
theorem dX3_payInFault_3 : decode cX3_payInFault 3 = .ok (.iconst 1, 1) := by decide +kernel
theorem dX3_payInFault_4 : decode cX3_payInFault 4 = .ok (.sipush 999, 3) := by decide +kernel
theorem dX3_payInFault_7 : decode cX3_payInFault 7 = .ok (.invokevirtual 75, 3) := by decide +kernel
theorem dX3_payInFault_10 : decode cX3_payInFault 10 = .ok (.istore_n 3, 1) := by decide +kernel
theorem dX3_payInFault_11 : decode cX3_payInFault 11 = .ok (.iload_n 3, 1) := by decide +kernel
theorem dX3_payInFault_12 : decode cX3_payInFault 12 = .ok (.ifCond .ne 22, 3) := by decide +kernel
theorem dX3_payInFault_15 : decode cX3_payInFault 15 = .ok (.aload_n 0, 1) := by decide +kernel
theorem dX3_payInFault_16 : decode cX3_payInFault 16 = .ok (.getfield 12, 3) := by decide +kernel
theorem dX3_payInFault_19 : decode cX3_payInFault 19 = .ok (.getfield 79, 3) := by decide +kernel
theorem dX3_payInFault_22 : decode cX3_payInFault 22 = .ok (.iload_n 1, 1) := by decide +kernel
theorem dX3_payInFault_23 : decode cX3_payInFault 23 = .ok (.iaload, 1) := by decide +kernel
theorem dX3_payInFault_24 : decode cX3_payInFault 24 = .ok (.iload_n 2, 1) := by decide +kernel
theorem dX3_payInFault_25 : decode cX3_payInFault 25 = .ok (.iadd, 1) := by decide +kernel
theorem dX3_payInFault_26 : decode cX3_payInFault 26 = .ok (.sipush 9999, 3) := by decide +kernel
theorem dX3_payInFault_29 : decode cX3_payInFault 29 = .ok (.if_icmp .le 5, 3) := by decide +kernel
theorem dX3_payInFault_32 : decode cX3_payInFault 32 = .ok (.iconst 4, 1) := by decide +kernel
theorem dX3_payInFault_33 : decode cX3_payInFault 33 = .ok (.ireturn, 1) := by decide +kernel
theorem dX3_payInFault_34 : decode cX3_payInFault 34 = .ok (.iload_n 3, 1) := by decide +kernel
theorem dX3_payInFault_35 : decode cX3_payInFault 35 = .ok (.ireturn, 1) := by decide +kernel
theorem dX3_argumentFault_0 : decode cX3_argumentFault 0 = .ok (.aload_n 0, 1) := by decide +kernel
theorem dX3_argumentFault_1 : decode cX3_argumentFault 1 = .ok (.getfield 12, 3) := by decide +kernel
theorem dX3_argumentFault_4 : decode cX3_argumentFault 4 = .ok (.iload_n 1, 1) := by decide +kernel
theorem dX3_argumentFault_5 : decode cX3_argumentFault 5 = .ok (.invokevirtual 83, 3) := by decide +kernel
theorem dX3_argumentFault_8 : decode cX3_argumentFault 8 = .ok (.ifCond .ne 5, 3) := by decide +kernel
theorem dX3_argumentFault_11 : decode cX3_argumentFault 11 = .ok (.iconst 1, 1) := by decide +kernel
theorem dX3_argumentFault_12 : decode cX3_argumentFault 12 = .ok (.ireturn, 1) := by decide +kernel
theorem dX3_argumentFault_13 : decode cX3_argumentFault 13 = .ok (.iload_n 2, 1) := by decide +kernel
theorem dX3_argumentFault_14 : decode cX3_argumentFault 14 = .ok (.iload_n 3, 1) := by decide +kernel
theorem dX3_argumentFault_15 : decode cX3_argumentFault 15 = .ok (.iload 4, 2) := by decide +kernel
theorem dX3_argumentFault_17 : decode cX3_argumentFault 17 = .ok (.invokestatic 68, 3) := by decide +kernel
theorem dX3_argumentFault_20 : decode cX3_argumentFault 20 = .ok (.ifCond .eq 7, 3) := by decide +kernel
theorem dX3_argumentFault_23 : decode cX3_argumentFault 23 = .ok (.iconst 0, 1) := by decide +kernel
theorem dX3_argumentFault_24 : decode cX3_argumentFault 24 = .ok (.goto 4, 3) := by decide +kernel
theorem dX3_argumentFault_27 : decode cX3_argumentFault 27 = .ok (.iconst 2, 1) := by decide +kernel
theorem dX3_argumentFault_28 : decode cX3_argumentFault 28 = .ok (.ireturn, 1) := by decide +kernel
theorem dX3_payIn_0 : decode cX3_payIn 0 = .ok (.aload_n 0, 1) := by decide +kernel
theorem dX3_payIn_1 : decode cX3_payIn 1 = .ok (.getfield 12, 3) := by decide +kernel
theorem dX3_payIn_4 : decode cX3_payIn 4 = .ok (.getfield 79, 3) := by decide +kernel
theorem dX3_payIn_7 : decode cX3_payIn 7 = .ok (.iload_n 1, 1) := by decide +kernel
theorem dX3_payIn_8 : decode cX3_payIn 8 = .ok (.dup2, 1) := by decide +kernel
theorem dX3_payIn_9 : decode cX3_payIn 9 = .ok (.iaload, 1) := by decide +kernel
theorem dX3_payIn_10 : decode cX3_payIn 10 = .ok (.iload_n 2, 1) := by decide +kernel
theorem dX3_payIn_11 : decode cX3_payIn 11 = .ok (.iadd, 1) := by decide +kernel
theorem dX3_payIn_12 : decode cX3_payIn 12 = .ok (.iastore, 1) := by decide +kernel
theorem dX3_payIn_13 : decode cX3_payIn 13 = .ok (.aload_n 0, 1) := by decide +kernel
theorem dX3_payIn_14 : decode cX3_payIn 14 = .ok (.dup, 1) := by decide +kernel
theorem dX3_payIn_15 : decode cX3_payIn 15 = .ok (.getfield 52, 3) := by decide +kernel
theorem dX3_payIn_18 : decode cX3_payIn 18 = .ok (.iload_n 2, 1) := by decide +kernel
theorem dX3_payIn_19 : decode cX3_payIn 19 = .ok (.i2l, 1) := by decide +kernel
theorem dX3_payIn_20 : decode cX3_payIn 20 = .ok (.ladd, 1) := by decide +kernel
theorem dX3_payIn_21 : decode cX3_payIn 21 = .ok (.putfield 52, 3) := by decide +kernel
theorem dX3_payIn_24 : decode cX3_payIn 24 = .ok (.aload_n 0, 1) := by decide +kernel
theorem dX3_payIn_25 : decode cX3_payIn 25 = .ok (.getfield 28, 3) := by decide +kernel
theorem dX3_payIn_28 : decode cX3_payIn 28 = .ok (.bipush 100, 2) := by decide +kernel
theorem dX3_payIn_30 : decode cX3_payIn 30 = .ok (.iload_n 2, 1) := by decide +kernel
theorem dX3_payIn_31 : decode cX3_payIn 31 = .ok (.iload_n 1, 1) := by decide +kernel
theorem dX3_payIn_32 : decode cX3_payIn 32 = .ok (.invokevirtual 87, 3) := by decide +kernel
theorem dX3_payIn_35 : decode cX3_payIn 35 = .ok (.aload_n 0, 1) := by decide +kernel
theorem dX3_payIn_36 : decode cX3_payIn 36 = .ok (.getfield 12, 3) := by decide +kernel
theorem dX3_payIn_39 : decode cX3_payIn 39 = .ok (.getfield 79, 3) := by decide +kernel
theorem dX3_payIn_42 : decode cX3_payIn 42 = .ok (.iload_n 1, 1) := by decide +kernel
theorem dX3_payIn_43 : decode cX3_payIn 43 = .ok (.iaload, 1) := by decide +kernel
theorem dX3_payIn_44 : decode cX3_payIn 44 = .ok (.ireturn, 1) := by decide +kernel
theorem dX3_payOutFault_0 : decode cX3_payOutFault 0 = .ok (.aload_n 0, 1) := by decide +kernel
theorem dX3_payOutFault_1 : decode cX3_payOutFault 1 = .ok (.iload_n 1, 1) := by decide +kernel
theorem dX3_payOutFault_2 : decode cX3_payOutFault 2 = .ok (.iload_n 2, 1) := by decide +kernel
theorem dX3_payOutFault_3 : decode cX3_payOutFault 3 = .ok (.iconst 1, 1) := by decide +kernel
theorem dX3_payOutFault_4 : decode cX3_payOutFault 4 = .ok (.sipush 999, 3) := by decide +kernel
theorem dX3_payOutFault_7 : decode cX3_payOutFault 7 = .ok (.invokevirtual 75, 3) := by decide +kernel
theorem dX3_payOutFault_10 : decode cX3_payOutFault 10 = .ok (.istore_n 3, 1) := by decide +kernel
theorem dX3_payOutFault_11 : decode cX3_payOutFault 11 = .ok (.iload_n 3, 1) := by decide +kernel
theorem dX3_payOutFault_12 : decode cX3_payOutFault 12 = .ok (.ifCond .ne 17, 3) := by decide +kernel
theorem dX3_payOutFault_15 : decode cX3_payOutFault 15 = .ok (.aload_n 0, 1) := by decide +kernel
theorem dX3_payOutFault_16 : decode cX3_payOutFault 16 = .ok (.getfield 12, 3) := by decide +kernel
theorem dX3_payOutFault_19 : decode cX3_payOutFault 19 = .ok (.iload_n 1, 1) := by decide +kernel
theorem dX3_payOutFault_20 : decode cX3_payOutFault 20 = .ok (.invokevirtual 91, 3) := by decide +kernel
theorem dX3_payOutFault_23 : decode cX3_payOutFault 23 = .ok (.iload_n 2, 1) := by decide +kernel
theorem dX3_payOutFault_24 : decode cX3_payOutFault 24 = .ok (.if_icmp .ge 5, 3) := by decide +kernel
theorem dX3_payOutFault_27 : decode cX3_payOutFault 27 = .ok (.iconst 4, 1) := by decide +kernel
theorem dX3_payOutFault_28 : decode cX3_payOutFault 28 = .ok (.ireturn, 1) := by decide +kernel
theorem dX3_payOutFault_29 : decode cX3_payOutFault 29 = .ok (.iload_n 3, 1) := by decide +kernel
theorem dX3_payOutFault_30 : decode cX3_payOutFault 30 = .ok (.ireturn, 1) := by decide +kernel
theorem dX3_payOut_0 : decode cX3_payOut 0 = .ok (.aload_n 0, 1) := by decide +kernel
theorem dX3_payOut_1 : decode cX3_payOut 1 = .ok (.getfield 12, 3) := by decide +kernel
theorem dX3_payOut_4 : decode cX3_payOut 4 = .ok (.getfield 79, 3) := by decide +kernel
theorem dX3_payOut_7 : decode cX3_payOut 7 = .ok (.iload_n 1, 1) := by decide +kernel
theorem dX3_payOut_8 : decode cX3_payOut 8 = .ok (.dup2, 1) := by decide +kernel
theorem dX3_payOut_9 : decode cX3_payOut 9 = .ok (.iaload, 1) := by decide +kernel
theorem dX3_payOut_10 : decode cX3_payOut 10 = .ok (.iload_n 2, 1) := by decide +kernel
theorem dX3_payOut_11 : decode cX3_payOut 11 = .ok (.isub, 1) := by decide +kernel
theorem dX3_payOut_12 : decode cX3_payOut 12 = .ok (.iastore, 1) := by decide +kernel
theorem dX3_payOut_13 : decode cX3_payOut 13 = .ok (.aload_n 0, 1) := by decide +kernel
theorem dX3_payOut_14 : decode cX3_payOut 14 = .ok (.getfield 12, 3) := by decide +kernel
theorem dX3_payOut_17 : decode cX3_payOut 17 = .ok (.getfield 95, 3) := by decide +kernel
theorem dX3_payOut_20 : decode cX3_payOut 20 = .ok (.iload_n 1, 1) := by decide +kernel
theorem dX3_payOut_21 : decode cX3_payOut 21 = .ok (.iconst 1, 1) := by decide +kernel
theorem dX3_payOut_22 : decode cX3_payOut 22 = .ok (.bastore, 1) := by decide +kernel
theorem dX3_payOut_23 : decode cX3_payOut 23 = .ok (.aload_n 0, 1) := by decide +kernel
theorem dX3_payOut_24 : decode cX3_payOut 24 = .ok (.dup, 1) := by decide +kernel
theorem dX3_payOut_25 : decode cX3_payOut 25 = .ok (.getfield 56, 3) := by decide +kernel
theorem dX3_payOut_28 : decode cX3_payOut 28 = .ok (.iload_n 2, 1) := by decide +kernel
theorem dX3_payOut_29 : decode cX3_payOut 29 = .ok (.i2l, 1) := by decide +kernel
theorem dX3_payOut_30 : decode cX3_payOut 30 = .ok (.ladd, 1) := by decide +kernel
theorem dX3_payOut_31 : decode cX3_payOut 31 = .ok (.putfield 56, 3) := by decide +kernel
theorem dX3_payOut_34 : decode cX3_payOut 34 = .ok (.aload_n 0, 1) := by decide +kernel
theorem dX3_payOut_35 : decode cX3_payOut 35 = .ok (.getfield 28, 3) := by decide +kernel
theorem dX3_payOut_38 : decode cX3_payOut 38 = .ok (.bipush 119, 2) := by decide +kernel
theorem dX3_payOut_40 : decode cX3_payOut 40 = .ok (.iload_n 2, 1) := by decide +kernel
theorem dX3_payOut_41 : decode cX3_payOut 41 = .ok (.iload_n 1, 1) := by decide +kernel
theorem dX3_payOut_42 : decode cX3_payOut 42 = .ok (.invokevirtual 87, 3) := by decide +kernel
theorem dX3_payOut_45 : decode cX3_payOut 45 = .ok (.aload_n 0, 1) := by decide +kernel
theorem dX3_payOut_46 : decode cX3_payOut 46 = .ok (.getfield 12, 3) := by decide +kernel
theorem dX3_payOut_49 : decode cX3_payOut 49 = .ok (.getfield 79, 3) := by decide +kernel
theorem dX3_payOut_52 : decode cX3_payOut 52 = .ok (.iload_n 1, 1) := by decide +kernel
theorem dX3_payOut_53 : decode cX3_payOut 53 = .ok (.iaload, 1) := by decide +kernel
theorem dX3_payOut_54 : decode cX3_payOut 54 = .ok (.ireturn, 1) := by decide +kernel
theorem dX3_limitFault_0 : decode cX3_limitFault 0 = .ok (.aload_n 0, 1) := by decide +kernel
theorem dX3_limitFault_1 : decode cX3_limitFault 1 = .ok (.iload_n 1, 1) := by decide +kernel
theorem dX3_limitFault_2 : decode cX3_limitFault 2 = .ok (.iload_n 2, 1) := by decide +kernel
theorem dX3_limitFault_3 : decode cX3_limitFault 3 = .ok (.iconst 0, 1) := by decide +kernel
theorem dX3_limitFault_4 : decode cX3_limitFault 4 = .ok (.sipush 500, 3) := by decide +kernel
theorem dX3_limitFault_7 : decode cX3_limitFault 7 = .ok (.invokevirtual 75, 3) := by decide +kernel
theorem dX3_limitFault_10 : decode cX3_limitFault 10 = .ok (.istore_n 3, 1) := by decide +kernel
theorem dX3_limitFault_11 : decode cX3_limitFault 11 = .ok (.iload_n 3, 1) := by decide +kernel
theorem dX3_limitFault_12 : decode cX3_limitFault 12 = .ok (.ifCond .eq 5, 3) := by decide +kernel
theorem dX3_limitFault_15 : decode cX3_limitFault 15 = .ok (.iload_n 3, 1) := by decide +kernel
theorem dX3_limitFault_16 : decode cX3_limitFault 16 = .ok (.ireturn, 1) := by decide +kernel
theorem dX3_limitFault_17 : decode cX3_limitFault 17 = .ok (.aload_n 0, 1) := by decide +kernel
theorem dX3_limitFault_18 : decode cX3_limitFault 18 = .ok (.getfield 12, 3) := by decide +kernel
theorem dX3_limitFault_21 : decode cX3_limitFault 21 = .ok (.getfield 99, 3) := by decide +kernel
theorem dX3_limitFault_24 : decode cX3_limitFault 24 = .ok (.iload_n 1, 1) := by decide +kernel
theorem dX3_limitFault_25 : decode cX3_limitFault 25 = .ok (.iaload, 1) := by decide +kernel
theorem dX3_limitFault_26 : decode cX3_limitFault 26 = .ok (.istore 4, 2) := by decide +kernel
theorem dX3_limitFault_28 : decode cX3_limitFault 28 = .ok (.iload 4, 2) := by decide +kernel
theorem dX3_limitFault_30 : decode cX3_limitFault 30 = .ok (.iconst 1, 1) := by decide +kernel
theorem dX3_limitFault_31 : decode cX3_limitFault 31 = .ok (.if_icmp .eq 9, 3) := by decide +kernel
theorem dX3_limitFault_34 : decode cX3_limitFault 34 = .ok (.iload 4, 2) := by decide +kernel
theorem dX3_limitFault_36 : decode cX3_limitFault 36 = .ok (.iconst 3, 1) := by decide +kernel
theorem dX3_limitFault_37 : decode cX3_limitFault 37 = .ok (.if_icmp .ne 5, 3) := by decide +kernel
theorem dX3_limitFault_40 : decode cX3_limitFault 40 = .ok (.iconst 3, 1) := by decide +kernel
theorem dX3_limitFault_41 : decode cX3_limitFault 41 = .ok (.ireturn, 1) := by decide +kernel
theorem dX3_limitFault_42 : decode cX3_limitFault 42 = .ok (.aload_n 0, 1) := by decide +kernel
theorem dX3_limitFault_43 : decode cX3_limitFault 43 = .ok (.getfield 12, 3) := by decide +kernel
theorem dX3_limitFault_46 : decode cX3_limitFault 46 = .ok (.getfield 79, 3) := by decide +kernel
theorem dX3_limitFault_49 : decode cX3_limitFault 49 = .ok (.iload_n 1, 1) := by decide +kernel
theorem dX3_limitFault_50 : decode cX3_limitFault 50 = .ok (.iaload, 1) := by decide +kernel
theorem dX3_limitFault_51 : decode cX3_limitFault 51 = .ok (.iload_n 2, 1) := by decide +kernel
theorem dX3_limitFault_52 : decode cX3_limitFault 52 = .ok (.ineg, 1) := by decide +kernel
theorem dX3_limitFault_53 : decode cX3_limitFault 53 = .ok (.if_icmp .ge 7, 3) := by decide +kernel
theorem dX3_limitFault_56 : decode cX3_limitFault 56 = .ok (.iconst 4, 1) := by decide +kernel
theorem dX3_limitFault_57 : decode cX3_limitFault 57 = .ok (.goto 4, 3) := by decide +kernel
theorem dX3_limitFault_60 : decode cX3_limitFault 60 = .ok (.iconst 0, 1) := by decide +kernel
theorem dX3_limitFault_61 : decode cX3_limitFault 61 = .ok (.ireturn, 1) := by decide +kernel
theorem dX3_sealFault_0 : decode cX3_sealFault 0 = .ok (.aload_n 0, 1) := by decide +kernel
theorem dX3_sealFault_1 : decode cX3_sealFault 1 = .ok (.getfield 12, 3) := by decide +kernel
theorem dX3_sealFault_4 : decode cX3_sealFault 4 = .ok (.iload_n 1, 1) := by decide +kernel
theorem dX3_sealFault_5 : decode cX3_sealFault 5 = .ok (.invokevirtual 83, 3) := by decide +kernel
theorem dX3_sealFault_8 : decode cX3_sealFault 8 = .ok (.ifCond .eq 14, 3) := by decide +kernel
theorem dX3_sealFault_11 : decode cX3_sealFault 11 = .ok (.aload_n 0, 1) := by decide +kernel
theorem dX3_sealFault_12 : decode cX3_sealFault 12 = .ok (.getfield 12, 3) := by decide +kernel
theorem dX3_sealFault_15 : decode cX3_sealFault 15 = .ok (.iload_n 2, 1) := by decide +kernel
theorem dX3_sealFault_16 : decode cX3_sealFault 16 = .ok (.invokevirtual 83, 3) := by decide +kernel
theorem dX3_sealFault_19 : decode cX3_sealFault 19 = .ok (.ifCond .ne 5, 3) := by decide +kernel
theorem dX3_sealFault_22 : decode cX3_sealFault 22 = .ok (.iconst 1, 1) := by decide +kernel
theorem dX3_sealFault_23 : decode cX3_sealFault 23 = .ok (.ireturn, 1) := by decide +kernel
theorem dX3_sealFault_24 : decode cX3_sealFault 24 = .ok (.iload_n 1, 1) := by decide +kernel
theorem dX3_sealFault_25 : decode cX3_sealFault 25 = .ok (.iload_n 2, 1) := by decide +kernel
theorem dX3_sealFault_26 : decode cX3_sealFault 26 = .ok (.if_icmp .eq 25, 3) := by decide +kernel
theorem dX3_sealFault_29 : decode cX3_sealFault 29 = .ok (.iload_n 3, 1) := by decide +kernel
theorem dX3_sealFault_30 : decode cX3_sealFault 30 = .ok (.iconst 1, 1) := by decide +kernel
theorem dX3_sealFault_31 : decode cX3_sealFault 31 = .ok (.sipush 999, 3) := by decide +kernel
theorem dX3_sealFault_34 : decode cX3_sealFault 34 = .ok (.invokestatic 68, 3) := by decide +kernel
theorem dX3_sealFault_37 : decode cX3_sealFault 37 = .ok (.ifCond .eq 14, 3) := by decide +kernel
theorem dX3_sealFault_40 : decode cX3_sealFault 40 = .ok (.iload 4, 2) := by decide +kernel
theorem dX3_sealFault_42 : decode cX3_sealFault 42 = .ok (.iconst 0, 1) := by decide +kernel
theorem dX3_sealFault_43 : decode cX3_sealFault 43 = .ok (.bipush 60, 2) := by decide +kernel
theorem dX3_sealFault_45 : decode cX3_sealFault 45 = .ok (.invokestatic 68, 3) := by decide +kernel
theorem dX3_sealFault_48 : decode cX3_sealFault 48 = .ok (.ifCond .ne 5, 3) := by decide +kernel
theorem dX3_sealFault_51 : decode cX3_sealFault 51 = .ok (.iconst 2, 1) := by decide +kernel
theorem dX3_sealFault_52 : decode cX3_sealFault 52 = .ok (.ireturn, 1) := by decide +kernel
theorem dX3_sealFault_53 : decode cX3_sealFault 53 = .ok (.aload_n 0, 1) := by decide +kernel
theorem dX3_sealFault_54 : decode cX3_sealFault 54 = .ok (.getfield 21, 3) := by decide +kernel
theorem dX3_sealFault_57 : decode cX3_sealFault 57 = .ok (.getfield 102, 3) := by decide +kernel
theorem dX3_sealFault_60 : decode cX3_sealFault 60 = .ok (.bipush 10, 2) := by decide +kernel
theorem dX3_sealFault_62 : decode cX3_sealFault 62 = .ok (.if_icmp .lt 7, 3) := by decide +kernel
theorem dX3_sealFault_65 : decode cX3_sealFault 65 = .ok (.iconst 4, 1) := by decide +kernel
theorem dX3_sealFault_66 : decode cX3_sealFault 66 = .ok (.goto 4, 3) := by decide +kernel
theorem dX3_sealFault_69 : decode cX3_sealFault 69 = .ok (.iconst 0, 1) := by decide +kernel
theorem dX3_sealFault_70 : decode cX3_sealFault 70 = .ok (.ireturn, 1) := by decide +kernel
theorem dX3_cancelFault_0 : decode cX3_cancelFault 0 = .ok (.aload_n 0, 1) := by decide +kernel
theorem dX3_cancelFault_1 : decode cX3_cancelFault 1 = .ok (.getfield 21, 3) := by decide +kernel
theorem dX3_cancelFault_4 : decode cX3_cancelFault 4 = .ok (.iload_n 1, 1) := by decide +kernel
theorem dX3_cancelFault_5 : decode cX3_cancelFault 5 = .ok (.invokevirtual 103, 3) := by decide +kernel
theorem dX3_cancelFault_8 : decode cX3_cancelFault 8 = .ok (.ifCond .ge 7, 3) := by decide +kernel
theorem dX3_cancelFault_11 : decode cX3_cancelFault 11 = .ok (.iconst 5, 1) := by decide +kernel
theorem dX3_cancelFault_12 : decode cX3_cancelFault 12 = .ok (.goto 4, 3) := by decide +kernel
theorem dX3_cancelFault_15 : decode cX3_cancelFault 15 = .ok (.iconst 0, 1) := by decide +kernel
theorem dX3_cancelFault_16 : decode cX3_cancelFault 16 = .ok (.ireturn, 1) := by decide +kernel
theorem dX3_endDaysFault_0 : decode cX3_endDaysFault 0 = .ok (.iload_n 1, 1) := by decide +kernel
theorem dX3_endDaysFault_1 : decode cX3_endDaysFault 1 = .ok (.iconst 1, 1) := by decide +kernel
theorem dX3_endDaysFault_2 : decode cX3_endDaysFault 2 = .ok (.bipush 60, 2) := by decide +kernel
theorem dX3_endDaysFault_4 : decode cX3_endDaysFault 4 = .ok (.invokestatic 68, 3) := by decide +kernel
theorem dX3_endDaysFault_7 : decode cX3_endDaysFault 7 = .ok (.ifCond .eq 7, 3) := by decide +kernel
theorem dX3_endDaysFault_10 : decode cX3_endDaysFault 10 = .ok (.iconst 0, 1) := by decide +kernel
theorem dX3_endDaysFault_11 : decode cX3_endDaysFault 11 = .ok (.goto 4, 3) := by decide +kernel
theorem dX3_endDaysFault_14 : decode cX3_endDaysFault 14 = .ok (.iconst 2, 1) := by decide +kernel
theorem dX3_endDaysFault_15 : decode cX3_endDaysFault 15 = .ok (.ireturn, 1) := by decide +kernel
theorem dX3_balanceAfterFault_0 : decode cX3_balanceAfterFault 0 = .ok (.aload_n 0, 1) := by decide +kernel
theorem dX3_balanceAfterFault_1 : decode cX3_balanceAfterFault 1 = .ok (.iload_n 1, 1) := by decide +kernel
theorem dX3_balanceAfterFault_2 : decode cX3_balanceAfterFault 2 = .ok (.iload_n 2, 1) := by decide +kernel
theorem dX3_balanceAfterFault_3 : decode cX3_balanceAfterFault 3 = .ok (.iconst 0, 1) := by decide +kernel
theorem dX3_balanceAfterFault_4 : decode cX3_balanceAfterFault 4 = .ok (.bipush 60, 2) := by decide +kernel
theorem dX3_balanceAfterFault_6 : decode cX3_balanceAfterFault 6 = .ok (.invokevirtual 75, 3) := by decide +kernel
theorem dX3_balanceAfterFault_9 : decode cX3_balanceAfterFault 9 = .ok (.ireturn, 1) := by decide +kernel
theorem dX3_passDays_0 : decode cX3_passDays 0 = .ok (.iconst 0, 1) := by decide +kernel
theorem dX3_passDays_1 : decode cX3_passDays 1 = .ok (.istore_n 2, 1) := by decide +kernel
theorem dX3_passDays_2 : decode cX3_passDays 2 = .ok (.iconst 0, 1) := by decide +kernel
theorem dX3_passDays_3 : decode cX3_passDays 3 = .ok (.istore_n 3, 1) := by decide +kernel
theorem dX3_passDays_4 : decode cX3_passDays 4 = .ok (.iload_n 3, 1) := by decide +kernel
theorem dX3_passDays_5 : decode cX3_passDays 5 = .ok (.iload_n 1, 1) := by decide +kernel
theorem dX3_passDays_6 : decode cX3_passDays 6 = .ok (.if_icmp .ge 37, 3) := by decide +kernel
theorem dX3_passDays_9 : decode cX3_passDays 9 = .ok (.iload_n 2, 1) := by decide +kernel
theorem dX3_passDays_10 : decode cX3_passDays 10 = .ok (.aload_n 0, 1) := by decide +kernel
theorem dX3_passDays_11 : decode cX3_passDays 11 = .ok (.invokevirtual 106, 3) := by decide +kernel
theorem dX3_passDays_14 : decode cX3_passDays 14 = .ok (.iadd, 1) := by decide +kernel
theorem dX3_passDays_15 : decode cX3_passDays 15 = .ok (.istore_n 2, 1) := by decide +kernel
theorem dX3_passDays_16 : decode cX3_passDays 16 = .ok (.aload_n 0, 1) := by decide +kernel
theorem dX3_passDays_17 : decode cX3_passDays 17 = .ok (.invokevirtual 110, 3) := by decide +kernel
theorem dX3_passDays_20 : decode cX3_passDays 20 = .ok (.aload_n 0, 1) := by decide +kernel
theorem dX3_passDays_21 : decode cX3_passDays 21 = .ok (.getfield 12, 3) := by decide +kernel
theorem dX3_passDays_24 : decode cX3_passDays 24 = .ok (.invokevirtual 113, 3) := by decide +kernel
theorem dX3_passDays_27 : decode cX3_passDays 27 = .ok (.aload_n 0, 1) := by decide +kernel
theorem dX3_passDays_28 : decode cX3_passDays 28 = .ok (.dup, 1) := by decide +kernel
theorem dX3_passDays_29 : decode cX3_passDays 29 = .ok (.getfield 42, 3) := by decide +kernel
theorem dX3_passDays_32 : decode cX3_passDays 32 = .ok (.iconst 1, 1) := by decide +kernel
theorem dX3_passDays_33 : decode cX3_passDays 33 = .ok (.iadd, 1) := by decide +kernel
theorem dX3_passDays_34 : decode cX3_passDays 34 = .ok (.putfield 42, 3) := by decide +kernel
theorem dX3_passDays_37 : decode cX3_passDays 37 = .ok (.iinc 3 1, 3) := by decide +kernel
theorem dX3_passDays_40 : decode cX3_passDays 40 = .ok (.goto (-36), 3) := by decide +kernel
theorem dX3_passDays_43 : decode cX3_passDays 43 = .ok (.iload_n 2, 1) := by decide +kernel
theorem dX3_passDays_44 : decode cX3_passDays 44 = .ok (.ireturn, 1) := by decide +kernel
theorem dX3_settleDue_0 : decode cX3_settleDue 0 = .ok (.iconst 0, 1) := by decide +kernel
theorem dX3_settleDue_1 : decode cX3_settleDue 1 = .ok (.istore_n 1, 1) := by decide +kernel
theorem dX3_settleDue_2 : decode cX3_settleDue 2 = .ok (.iconst 0, 1) := by decide +kernel
theorem dX3_settleDue_3 : decode cX3_settleDue 3 = .ok (.istore_n 2, 1) := by decide +kernel
theorem dX3_settleDue_4 : decode cX3_settleDue 4 = .ok (.iconst 0, 1) := by decide +kernel
theorem dX3_settleDue_5 : decode cX3_settleDue 5 = .ok (.istore_n 3, 1) := by decide +kernel
theorem dX3_settleDue_6 : decode cX3_settleDue 6 = .ok (.iload_n 3, 1) := by decide +kernel
theorem dX3_settleDue_7 : decode cX3_settleDue 7 = .ok (.aload_n 0, 1) := by decide +kernel
theorem dX3_settleDue_8 : decode cX3_settleDue 8 = .ok (.getfield 21, 3) := by decide +kernel
theorem dX3_settleDue_11 : decode cX3_settleDue 11 = .ok (.getfield 102, 3) := by decide +kernel
theorem dX3_settleDue_14 : decode cX3_settleDue 14 = .ok (.if_icmp .ge 55, 3) := by decide +kernel
theorem dX3_settleDue_17 : decode cX3_settleDue 17 = .ok (.aload_n 0, 1) := by decide +kernel
theorem dX3_settleDue_18 : decode cX3_settleDue 18 = .ok (.getfield 21, 3) := by decide +kernel
theorem dX3_settleDue_21 : decode cX3_settleDue 21 = .ok (.getfield 116, 3) := by decide +kernel
theorem dX3_settleDue_24 : decode cX3_settleDue 24 = .ok (.iload_n 3, 1) := by decide +kernel
theorem dX3_settleDue_25 : decode cX3_settleDue 25 = .ok (.iaload, 1) := by decide +kernel
theorem dX3_settleDue_26 : decode cX3_settleDue 26 = .ok (.aload_n 0, 1) := by decide +kernel
theorem dX3_settleDue_27 : decode cX3_settleDue 27 = .ok (.getfield 42, 3) := by decide +kernel
theorem dX3_settleDue_30 : decode cX3_settleDue 30 = .ok (.if_icmp .eq 22, 3) := by decide +kernel
theorem dX3_settleDue_33 : decode cX3_settleDue 33 = .ok (.aload_n 0, 1) := by decide +kernel
theorem dX3_settleDue_34 : decode cX3_settleDue 34 = .ok (.getfield 21, 3) := by decide +kernel
theorem dX3_settleDue_37 : decode cX3_settleDue 37 = .ok (.aload_n 0, 1) := by decide +kernel
theorem dX3_settleDue_38 : decode cX3_settleDue 38 = .ok (.getfield 21, 3) := by decide +kernel
theorem dX3_settleDue_41 : decode cX3_settleDue 41 = .ok (.iload_n 3, 1) := by decide +kernel
theorem dX3_settleDue_42 : decode cX3_settleDue 42 = .ok (.iload_n 2, 1) := by decide +kernel
theorem dX3_settleDue_43 : decode cX3_settleDue 43 = .ok (.invokevirtual 119, 3) := by decide +kernel
theorem dX3_settleDue_46 : decode cX3_settleDue 46 = .ok (.iinc 2 1, 3) := by decide +kernel
theorem dX3_settleDue_49 : decode cX3_settleDue 49 = .ok (.goto 14, 3) := by decide +kernel
theorem dX3_settleDue_52 : decode cX3_settleDue 52 = .ok (.aload_n 0, 1) := by decide +kernel
theorem dX3_settleDue_53 : decode cX3_settleDue 53 = .ok (.iload_n 3, 1) := by decide +kernel
theorem dX3_settleDue_54 : decode cX3_settleDue 54 = .ok (.invokevirtual 123, 3) := by decide +kernel
theorem dX3_settleDue_57 : decode cX3_settleDue 57 = .ok (.ifCond .eq 6, 3) := by decide +kernel
theorem dX3_settleDue_60 : decode cX3_settleDue 60 = .ok (.iinc 1 1, 3) := by decide +kernel
theorem dX3_settleDue_63 : decode cX3_settleDue 63 = .ok (.iinc 3 1, 3) := by decide +kernel
theorem dX3_settleDue_66 : decode cX3_settleDue 66 = .ok (.goto (-60), 3) := by decide +kernel
theorem dX3_settleDue_69 : decode cX3_settleDue 69 = .ok (.aload_n 0, 1) := by decide +kernel
theorem dX3_settleDue_70 : decode cX3_settleDue 70 = .ok (.getfield 21, 3) := by decide +kernel
theorem dX3_settleDue_73 : decode cX3_settleDue 73 = .ok (.iload_n 2, 1) := by decide +kernel
theorem dX3_settleDue_74 : decode cX3_settleDue 74 = .ok (.putfield 102, 3) := by decide +kernel
theorem dX3_settleDue_77 : decode cX3_settleDue 77 = .ok (.iload_n 1, 1) := by decide +kernel
theorem dX3_settleDue_78 : decode cX3_settleDue 78 = .ok (.ireturn, 1) := by decide +kernel
theorem dX3_settleDueBefore_0 : decode cX3_settleDueBefore 0 = .ok (.iconst 0, 1) := by decide +kernel
theorem dX3_settleDueBefore_1 : decode cX3_settleDueBefore 1 = .ok (.istore_n 2, 1) := by decide +kernel
theorem dX3_settleDueBefore_2 : decode cX3_settleDueBefore 2 = .ok (.iload_n 2, 1) := by decide +kernel
theorem dX3_settleDueBefore_3 : decode cX3_settleDueBefore 3 = .ok (.aload_n 0, 1) := by decide +kernel
theorem dX3_settleDueBefore_4 : decode cX3_settleDueBefore 4 = .ok (.getfield 21, 3) := by decide +kernel
theorem dX3_settleDueBefore_7 : decode cX3_settleDueBefore 7 = .ok (.getfield 102, 3) := by decide +kernel
theorem dX3_settleDueBefore_10 : decode cX3_settleDueBefore 10 = .ok (.if_icmp .ge 44, 3) := by decide +kernel
theorem dX3_settleDueBefore_13 : decode cX3_settleDueBefore 13 = .ok (.aload_n 0, 1) := by decide +kernel
theorem dX3_settleDueBefore_14 : decode cX3_settleDueBefore 14 = .ok (.getfield 21, 3) := by decide +kernel
theorem dX3_settleDueBefore_17 : decode cX3_settleDueBefore 17 = .ok (.getfield 126, 3) := by decide +kernel
theorem dX3_settleDueBefore_20 : decode cX3_settleDueBefore 20 = .ok (.iload_n 2, 1) := by decide +kernel
theorem dX3_settleDueBefore_21 : decode cX3_settleDueBefore 21 = .ok (.iaload, 1) := by decide +kernel
theorem dX3_settleDueBefore_22 : decode cX3_settleDueBefore 22 = .ok (.iload_n 1, 1) := by decide +kernel
theorem dX3_settleDueBefore_23 : decode cX3_settleDueBefore 23 = .ok (.if_icmp .ge 31, 3) := by decide +kernel
theorem dX3_settleDueBefore_26 : decode cX3_settleDueBefore 26 = .ok (.aload_n 0, 1) := by decide +kernel
theorem dX3_settleDueBefore_27 : decode cX3_settleDueBefore 27 = .ok (.getfield 21, 3) := by decide +kernel
theorem dX3_settleDueBefore_30 : decode cX3_settleDueBefore 30 = .ok (.getfield 116, 3) := by decide +kernel
theorem dX3_settleDueBefore_33 : decode cX3_settleDueBefore 33 = .ok (.iload_n 2, 1) := by decide +kernel
theorem dX3_settleDueBefore_34 : decode cX3_settleDueBefore 34 = .ok (.iaload, 1) := by decide +kernel
theorem dX3_settleDueBefore_35 : decode cX3_settleDueBefore 35 = .ok (.aload_n 0, 1) := by decide +kernel
theorem dX3_settleDueBefore_36 : decode cX3_settleDueBefore 36 = .ok (.getfield 42, 3) := by decide +kernel
theorem dX3_settleDueBefore_39 : decode cX3_settleDueBefore 39 = .ok (.if_icmp .ne 9, 3) := by decide +kernel
theorem dX3_settleDueBefore_42 : decode cX3_settleDueBefore 42 = .ok (.aload_n 0, 1) := by decide +kernel
theorem dX3_settleDueBefore_43 : decode cX3_settleDueBefore 43 = .ok (.iload_n 2, 1) := by decide +kernel
theorem dX3_settleDueBefore_44 : decode cX3_settleDueBefore 44 = .ok (.invokevirtual 123, 3) := by decide +kernel
theorem dX3_settleDueBefore_47 : decode cX3_settleDueBefore 47 = .ok (.pop, 1) := by decide +kernel
theorem dX3_settleDueBefore_48 : decode cX3_settleDueBefore 48 = .ok (.iinc 2 1, 3) := by decide +kernel
theorem dX3_settleDueBefore_51 : decode cX3_settleDueBefore 51 = .ok (.goto (-49), 3) := by decide +kernel
theorem dX3_settleDueBefore_54 : decode cX3_settleDueBefore 54 = .ok (.return_, 1) := by decide +kernel
theorem dX3_covers_0 : decode cX3_covers 0 = .ok (.iload_n 1, 1) := by decide +kernel
theorem dX3_covers_1 : decode cX3_covers 1 = .ok (.ifCond .lt 35, 3) := by decide +kernel
theorem dX3_covers_4 : decode cX3_covers 4 = .ok (.aload_n 0, 1) := by decide +kernel
theorem dX3_covers_5 : decode cX3_covers 5 = .ok (.getfield 12, 3) := by decide +kernel
theorem dX3_covers_8 : decode cX3_covers 8 = .ok (.aload_n 0, 1) := by decide +kernel
theorem dX3_covers_9 : decode cX3_covers 9 = .ok (.getfield 21, 3) := by decide +kernel
theorem dX3_covers_12 : decode cX3_covers 12 = .ok (.getfield 129, 3) := by decide +kernel
theorem dX3_covers_15 : decode cX3_covers 15 = .ok (.iload_n 1, 1) := by decide +kernel
theorem dX3_covers_16 : decode cX3_covers 16 = .ok (.iaload, 1) := by decide +kernel
theorem dX3_covers_17 : decode cX3_covers 17 = .ok (.invokevirtual 91, 3) := by decide +kernel
theorem dX3_covers_20 : decode cX3_covers 20 = .ok (.aload_n 0, 1) := by decide +kernel
theorem dX3_covers_21 : decode cX3_covers 21 = .ok (.getfield 21, 3) := by decide +kernel
theorem dX3_covers_24 : decode cX3_covers 24 = .ok (.getfield 132, 3) := by decide +kernel
theorem dX3_covers_27 : decode cX3_covers 27 = .ok (.iload_n 1, 1) := by decide +kernel
theorem dX3_covers_28 : decode cX3_covers 28 = .ok (.iaload, 1) := by decide +kernel
theorem dX3_covers_29 : decode cX3_covers 29 = .ok (.if_icmp .lt 7, 3) := by decide +kernel
theorem dX3_covers_32 : decode cX3_covers 32 = .ok (.iconst 1, 1) := by decide +kernel
theorem dX3_covers_33 : decode cX3_covers 33 = .ok (.goto 4, 3) := by decide +kernel
theorem dX3_covers_36 : decode cX3_covers 36 = .ok (.iconst 0, 1) := by decide +kernel
theorem dX3_covers_37 : decode cX3_covers 37 = .ok (.ireturn, 1) := by decide +kernel
theorem dX3_settle_0 : decode cX3_settle 0 = .ok (.aload_n 0, 1) := by decide +kernel
theorem dX3_settle_1 : decode cX3_settle 1 = .ok (.getfield 21, 3) := by decide +kernel
theorem dX3_settle_4 : decode cX3_settle 4 = .ok (.getfield 129, 3) := by decide +kernel
theorem dX3_settle_7 : decode cX3_settle 7 = .ok (.iload_n 1, 1) := by decide +kernel
theorem dX3_settle_8 : decode cX3_settle 8 = .ok (.iaload, 1) := by decide +kernel
theorem dX3_settle_9 : decode cX3_settle 9 = .ok (.istore_n 2, 1) := by decide +kernel
theorem dX3_settle_10 : decode cX3_settle 10 = .ok (.aload_n 0, 1) := by decide +kernel
theorem dX3_settle_11 : decode cX3_settle 11 = .ok (.iload_n 1, 1) := by decide +kernel
theorem dX3_settle_12 : decode cX3_settle 12 = .ok (.invokevirtual 135, 3) := by decide +kernel
theorem dX3_settle_15 : decode cX3_settle 15 = .ok (.ifCond .ne 23, 3) := by decide +kernel
theorem dX3_settle_18 : decode cX3_settle 18 = .ok (.aload_n 0, 1) := by decide +kernel
theorem dX3_settle_19 : decode cX3_settle 19 = .ok (.dup, 1) := by decide +kernel
theorem dX3_settle_20 : decode cX3_settle 20 = .ok (.getfield 49, 3) := by decide +kernel
theorem dX3_settle_23 : decode cX3_settle 23 = .ok (.iconst 1, 1) := by decide +kernel
theorem dX3_settle_24 : decode cX3_settle 24 = .ok (.iadd, 1) := by decide +kernel
theorem dX3_settle_25 : decode cX3_settle 25 = .ok (.putfield 49, 3) := by decide +kernel
theorem dX3_settle_28 : decode cX3_settle 28 = .ok (.aload_n 0, 1) := by decide +kernel
theorem dX3_settle_29 : decode cX3_settle 29 = .ok (.bipush 102, 2) := by decide +kernel
theorem dX3_settle_31 : decode cX3_settle 31 = .ok (.iconst 3, 1) := by decide +kernel
theorem dX3_settle_32 : decode cX3_settle 32 = .ok (.iload_n 2, 1) := by decide +kernel
theorem dX3_settle_33 : decode cX3_settle 33 = .ok (.invokevirtual 138, 3) := by decide +kernel
theorem dX3_settle_36 : decode cX3_settle 36 = .ok (.iconst 0, 1) := by decide +kernel
theorem dX3_settle_37 : decode cX3_settle 37 = .ok (.ireturn, 1) := by decide +kernel
theorem dX3_settle_38 : decode cX3_settle 38 = .ok (.aload_n 0, 1) := by decide +kernel
theorem dX3_settle_39 : decode cX3_settle 39 = .ok (.getfield 21, 3) := by decide +kernel
theorem dX3_settle_42 : decode cX3_settle 42 = .ok (.getfield 132, 3) := by decide +kernel
theorem dX3_settle_45 : decode cX3_settle 45 = .ok (.iload_n 1, 1) := by decide +kernel
theorem dX3_settle_46 : decode cX3_settle 46 = .ok (.iaload, 1) := by decide +kernel
theorem dX3_settle_47 : decode cX3_settle 47 = .ok (.istore_n 3, 1) := by decide +kernel
theorem dX3_settle_48 : decode cX3_settle 48 = .ok (.aload_n 0, 1) := by decide +kernel
theorem dX3_settle_49 : decode cX3_settle 49 = .ok (.getfield 12, 3) := by decide +kernel
theorem dX3_settle_52 : decode cX3_settle 52 = .ok (.getfield 79, 3) := by decide +kernel
theorem dX3_settle_55 : decode cX3_settle 55 = .ok (.iload_n 2, 1) := by decide +kernel
theorem dX3_settle_56 : decode cX3_settle 56 = .ok (.dup2, 1) := by decide +kernel
theorem dX3_settle_57 : decode cX3_settle 57 = .ok (.iaload, 1) := by decide +kernel
theorem dX3_settle_58 : decode cX3_settle 58 = .ok (.iload_n 3, 1) := by decide +kernel
theorem dX3_settle_59 : decode cX3_settle 59 = .ok (.isub, 1) := by decide +kernel
theorem dX3_settle_60 : decode cX3_settle 60 = .ok (.iastore, 1) := by decide +kernel
theorem dX3_settle_61 : decode cX3_settle 61 = .ok (.aload_n 0, 1) := by decide +kernel
theorem dX3_settle_62 : decode cX3_settle 62 = .ok (.getfield 12, 3) := by decide +kernel
theorem dX3_settle_65 : decode cX3_settle 65 = .ok (.getfield 79, 3) := by decide +kernel
theorem dX3_settle_68 : decode cX3_settle 68 = .ok (.aload_n 0, 1) := by decide +kernel
theorem dX3_settle_69 : decode cX3_settle 69 = .ok (.getfield 21, 3) := by decide +kernel
theorem dX3_settle_72 : decode cX3_settle 72 = .ok (.getfield 141, 3) := by decide +kernel
theorem dX3_settle_75 : decode cX3_settle 75 = .ok (.iload_n 1, 1) := by decide +kernel
theorem dX3_settle_76 : decode cX3_settle 76 = .ok (.iaload, 1) := by decide +kernel
theorem dX3_settle_77 : decode cX3_settle 77 = .ok (.dup2, 1) := by decide +kernel
theorem dX3_settle_78 : decode cX3_settle 78 = .ok (.iaload, 1) := by decide +kernel
theorem dX3_settle_79 : decode cX3_settle 79 = .ok (.iload_n 3, 1) := by decide +kernel
theorem dX3_settle_80 : decode cX3_settle 80 = .ok (.iadd, 1) := by decide +kernel
theorem dX3_settle_81 : decode cX3_settle 81 = .ok (.iastore, 1) := by decide +kernel
theorem dX3_settle_82 : decode cX3_settle 82 = .ok (.aload_n 0, 1) := by decide +kernel
theorem dX3_settle_83 : decode cX3_settle 83 = .ok (.getfield 12, 3) := by decide +kernel
theorem dX3_settle_86 : decode cX3_settle 86 = .ok (.getfield 95, 3) := by decide +kernel
theorem dX3_settle_89 : decode cX3_settle 89 = .ok (.iload_n 2, 1) := by decide +kernel
theorem dX3_settle_90 : decode cX3_settle 90 = .ok (.iconst 1, 1) := by decide +kernel
theorem dX3_settle_91 : decode cX3_settle 91 = .ok (.bastore, 1) := by decide +kernel
theorem dX3_settle_92 : decode cX3_settle 92 = .ok (.aload_n 0, 1) := by decide +kernel
theorem dX3_settle_93 : decode cX3_settle 93 = .ok (.dup, 1) := by decide +kernel
theorem dX3_settle_94 : decode cX3_settle 94 = .ok (.getfield 59, 3) := by decide +kernel
theorem dX3_settle_97 : decode cX3_settle 97 = .ok (.iload_n 3, 1) := by decide +kernel
theorem dX3_settle_98 : decode cX3_settle 98 = .ok (.i2l, 1) := by decide +kernel
theorem dX3_settle_99 : decode cX3_settle 99 = .ok (.ladd, 1) := by decide +kernel
theorem dX3_settle_100 : decode cX3_settle 100 = .ok (.putfield 59, 3) := by decide +kernel
theorem dX3_settle_103 : decode cX3_settle 103 = .ok (.aload_n 0, 1) := by decide +kernel
theorem dX3_settle_104 : decode cX3_settle 104 = .ok (.getfield 28, 3) := by decide +kernel
theorem dX3_settle_107 : decode cX3_settle 107 = .ok (.bipush 116, 2) := by decide +kernel
theorem dX3_settle_109 : decode cX3_settle 109 = .ok (.iload_n 3, 1) := by decide +kernel
theorem dX3_settle_110 : decode cX3_settle 110 = .ok (.iload_n 2, 1) := by decide +kernel
theorem dX3_settle_111 : decode cX3_settle 111 = .ok (.invokevirtual 87, 3) := by decide +kernel
theorem dX3_settle_114 : decode cX3_settle 114 = .ok (.iconst 1, 1) := by decide +kernel
theorem dX3_settle_115 : decode cX3_settle 115 = .ok (.ireturn, 1) := by decide +kernel
theorem dX3_collect_0 : decode cX3_collect 0 = .ok (.iload_n 2, 1) := by decide +kernel
theorem dX3_collect_1 : decode cX3_collect 1 = .ok (.aload_n 0, 1) := by decide +kernel
theorem dX3_collect_2 : decode cX3_collect 2 = .ok (.getfield 12, 3) := by decide +kernel
theorem dX3_collect_5 : decode cX3_collect 5 = .ok (.iload_n 3, 1) := by decide +kernel
theorem dX3_collect_6 : decode cX3_collect 6 = .ok (.invokevirtual 91, 3) := by decide +kernel
theorem dX3_collect_9 : decode cX3_collect 9 = .ok (.invokestatic 144, 3) := by decide +kernel
theorem dX3_collect_12 : decode cX3_collect 12 = .ok (.istore 4, 2) := by decide +kernel
theorem dX3_collect_14 : decode cX3_collect 14 = .ok (.aload_n 0, 1) := by decide +kernel
theorem dX3_collect_15 : decode cX3_collect 15 = .ok (.getfield 12, 3) := by decide +kernel
theorem dX3_collect_18 : decode cX3_collect 18 = .ok (.getfield 79, 3) := by decide +kernel
theorem dX3_collect_21 : decode cX3_collect 21 = .ok (.iload_n 3, 1) := by decide +kernel
theorem dX3_collect_22 : decode cX3_collect 22 = .ok (.dup2, 1) := by decide +kernel
theorem dX3_collect_23 : decode cX3_collect 23 = .ok (.iaload, 1) := by decide +kernel
theorem dX3_collect_24 : decode cX3_collect 24 = .ok (.iload 4, 2) := by decide +kernel
theorem dX3_collect_26 : decode cX3_collect 26 = .ok (.isub, 1) := by decide +kernel
theorem dX3_collect_27 : decode cX3_collect 27 = .ok (.iastore, 1) := by decide +kernel
theorem dX3_collect_28 : decode cX3_collect 28 = .ok (.aload_n 0, 1) := by decide +kernel
theorem dX3_collect_29 : decode cX3_collect 29 = .ok (.dup, 1) := by decide +kernel
theorem dX3_collect_30 : decode cX3_collect 30 = .ok (.getfield 46, 3) := by decide +kernel
theorem dX3_collect_33 : decode cX3_collect 33 = .ok (.iload 4, 2) := by decide +kernel
theorem dX3_collect_35 : decode cX3_collect 35 = .ok (.iadd, 1) := by decide +kernel
theorem dX3_collect_36 : decode cX3_collect 36 = .ok (.putfield 46, 3) := by decide +kernel
theorem dX3_collect_39 : decode cX3_collect 39 = .ok (.aload_n 0, 1) := by decide +kernel
theorem dX3_collect_40 : decode cX3_collect 40 = .ok (.dup, 1) := by decide +kernel
theorem dX3_collect_41 : decode cX3_collect 41 = .ok (.getfield 65, 3) := by decide +kernel
theorem dX3_collect_44 : decode cX3_collect 44 = .ok (.iload 4, 2) := by decide +kernel
theorem dX3_collect_46 : decode cX3_collect 46 = .ok (.i2l, 1) := by decide +kernel
theorem dX3_collect_47 : decode cX3_collect 47 = .ok (.ladd, 1) := by decide +kernel
theorem dX3_collect_48 : decode cX3_collect 48 = .ok (.putfield 65, 3) := by decide +kernel
theorem dX3_collect_51 : decode cX3_collect 51 = .ok (.aload_n 0, 1) := by decide +kernel
theorem dX3_collect_52 : decode cX3_collect 52 = .ok (.getfield 28, 3) := by decide +kernel
theorem dX3_collect_55 : decode cX3_collect 55 = .ok (.iload_n 1, 1) := by decide +kernel
theorem dX3_collect_56 : decode cX3_collect 56 = .ok (.iload 4, 2) := by decide +kernel
theorem dX3_collect_58 : decode cX3_collect 58 = .ok (.iload_n 3, 1) := by decide +kernel
theorem dX3_collect_59 : decode cX3_collect 59 = .ok (.invokevirtual 87, 3) := by decide +kernel
theorem dX3_collect_62 : decode cX3_collect 62 = .ok (.return_, 1) := by decide +kernel
theorem dX3_payInterest_0 : decode cX3_payInterest 0 = .ok (.iconst 0, 1) := by decide +kernel
theorem dX3_payInterest_1 : decode cX3_payInterest 1 = .ok (.istore_n 1, 1) := by decide +kernel
theorem dX3_payInterest_2 : decode cX3_payInterest 2 = .ok (.iload_n 1, 1) := by decide +kernel
theorem dX3_payInterest_3 : decode cX3_payInterest 3 = .ok (.aload_n 0, 1) := by decide +kernel
theorem dX3_payInterest_4 : decode cX3_payInterest 4 = .ok (.getfield 12, 3) := by decide +kernel
theorem dX3_payInterest_7 : decode cX3_payInterest 7 = .ok (.getfield 72, 3) := by decide +kernel
theorem dX3_payInterest_10 : decode cX3_payInterest 10 = .ok (.if_icmp .ge 79, 3) := by decide +kernel
theorem dX3_payInterest_13 : decode cX3_payInterest 13 = .ok (.aload_n 0, 1) := by decide +kernel
theorem dX3_payInterest_14 : decode cX3_payInterest 14 = .ok (.getfield 12, 3) := by decide +kernel
theorem dX3_payInterest_17 : decode cX3_payInterest 17 = .ok (.iload_n 1, 1) := by decide +kernel
theorem dX3_payInterest_18 : decode cX3_payInterest 18 = .ok (.invokevirtual 150, 3) := by decide +kernel
theorem dX3_payInterest_21 : decode cX3_payInterest 21 = .ok (.istore_n 2, 1) := by decide +kernel
theorem dX3_payInterest_22 : decode cX3_payInterest 22 = .ok (.iload_n 2, 1) := by decide +kernel
theorem dX3_payInterest_23 : decode cX3_payInterest 23 = .ok (.ifCond .ge 15, 3) := by decide +kernel
theorem dX3_payInterest_26 : decode cX3_payInterest 26 = .ok (.aload_n 0, 1) := by decide +kernel
theorem dX3_payInterest_27 : decode cX3_payInterest 27 = .ok (.bipush 99, 2) := by decide +kernel
theorem dX3_payInterest_29 : decode cX3_payInterest 29 = .ok (.iload_n 2, 1) := by decide +kernel
theorem dX3_payInterest_30 : decode cX3_payInterest 30 = .ok (.ineg, 1) := by decide +kernel
theorem dX3_payInterest_31 : decode cX3_payInterest 31 = .ok (.iload_n 1, 1) := by decide +kernel
theorem dX3_payInterest_32 : decode cX3_payInterest 32 = .ok (.invokevirtual 138, 3) := by decide +kernel
theorem dX3_payInterest_35 : decode cX3_payInterest 35 = .ok (.goto 48, 3) := by decide +kernel
theorem dX3_payInterest_38 : decode cX3_payInterest 38 = .ok (.aload_n 0, 1) := by decide +kernel
theorem dX3_payInterest_39 : decode cX3_payInterest 39 = .ok (.getfield 12, 3) := by decide +kernel
theorem dX3_payInterest_42 : decode cX3_payInterest 42 = .ok (.getfield 79, 3) := by decide +kernel
theorem dX3_payInterest_45 : decode cX3_payInterest 45 = .ok (.iload_n 1, 1) := by decide +kernel
theorem dX3_payInterest_46 : decode cX3_payInterest 46 = .ok (.dup2, 1) := by decide +kernel
theorem dX3_payInterest_47 : decode cX3_payInterest 47 = .ok (.iaload, 1) := by decide +kernel
theorem dX3_payInterest_48 : decode cX3_payInterest 48 = .ok (.iload_n 2, 1) := by decide +kernel
theorem dX3_payInterest_49 : decode cX3_payInterest 49 = .ok (.iadd, 1) := by decide +kernel
theorem dX3_payInterest_50 : decode cX3_payInterest 50 = .ok (.iastore, 1) := by decide +kernel
theorem dX3_payInterest_51 : decode cX3_payInterest 51 = .ok (.aload_n 0, 1) := by decide +kernel
theorem dX3_payInterest_52 : decode cX3_payInterest 52 = .ok (.dup, 1) := by decide +kernel
theorem dX3_payInterest_53 : decode cX3_payInterest 53 = .ok (.getfield 46, 3) := by decide +kernel
theorem dX3_payInterest_56 : decode cX3_payInterest 56 = .ok (.iload_n 2, 1) := by decide +kernel
theorem dX3_payInterest_57 : decode cX3_payInterest 57 = .ok (.isub, 1) := by decide +kernel
theorem dX3_payInterest_58 : decode cX3_payInterest 58 = .ok (.putfield 46, 3) := by decide +kernel
theorem dX3_payInterest_61 : decode cX3_payInterest 61 = .ok (.aload_n 0, 1) := by decide +kernel
theorem dX3_payInterest_62 : decode cX3_payInterest 62 = .ok (.dup, 1) := by decide +kernel
theorem dX3_payInterest_63 : decode cX3_payInterest 63 = .ok (.getfield 62, 3) := by decide +kernel
theorem dX3_payInterest_66 : decode cX3_payInterest 66 = .ok (.iload_n 2, 1) := by decide +kernel
theorem dX3_payInterest_67 : decode cX3_payInterest 67 = .ok (.i2l, 1) := by decide +kernel
theorem dX3_payInterest_68 : decode cX3_payInterest 68 = .ok (.ladd, 1) := by decide +kernel
theorem dX3_payInterest_69 : decode cX3_payInterest 69 = .ok (.putfield 62, 3) := by decide +kernel
theorem dX3_payInterest_72 : decode cX3_payInterest 72 = .ok (.aload_n 0, 1) := by decide +kernel
theorem dX3_payInterest_73 : decode cX3_payInterest 73 = .ok (.getfield 28, 3) := by decide +kernel
theorem dX3_payInterest_76 : decode cX3_payInterest 76 = .ok (.bipush 105, 2) := by decide +kernel
theorem dX3_payInterest_78 : decode cX3_payInterest 78 = .ok (.iload_n 2, 1) := by decide +kernel
theorem dX3_payInterest_79 : decode cX3_payInterest 79 = .ok (.iload_n 1, 1) := by decide +kernel
theorem dX3_payInterest_80 : decode cX3_payInterest 80 = .ok (.invokevirtual 87, 3) := by decide +kernel
theorem dX3_payInterest_83 : decode cX3_payInterest 83 = .ok (.iinc 1 1, 3) := by decide +kernel
theorem dX3_payInterest_86 : decode cX3_payInterest 86 = .ok (.goto (-84), 3) := by decide +kernel
theorem dX3_payInterest_89 : decode cX3_payInterest 89 = .ok (.return_, 1) := by decide +kernel
theorem dX3_obey_0 : decode cX3_obey 0 = .ok (.aload_n 0, 1) := by decide +kernel
theorem dX3_obey_1 : decode cX3_obey 1 = .ok (.iload_n 1, 1) := by decide +kernel
theorem dX3_obey_2 : decode cX3_obey 2 = .ok (.aload_n 2, 1) := by decide +kernel
theorem dX3_obey_3 : decode cX3_obey 3 = .ok (.invokevirtual 152, 3) := by decide +kernel
theorem dX3_obey_6 : decode cX3_obey 6 = .ok (.istore_n 3, 1) := by decide +kernel
theorem dX3_obey_7 : decode cX3_obey 7 = .ok (.iload_n 3, 1) := by decide +kernel
theorem dX3_obey_8 : decode cX3_obey 8 = .ok (.ifCond .eq 5, 3) := by decide +kernel
theorem dX3_obey_11 : decode cX3_obey 11 = .ok (.iload_n 3, 1) := by decide +kernel
theorem dX3_obey_12 : decode cX3_obey 12 = .ok (.ireturn, 1) := by decide +kernel
theorem dX3_obey_13 : decode cX3_obey 13 = .ok (.iload_n 1, 1) := by decide +kernel
theorem dX3_obey_14 : decode cX3_obey 14 = .ok (.tableswitch 121 0 4 #[34, 48, 62, 79, 107], 34) := by decide +kernel
theorem dX3_obey_48 : decode cX3_obey 48 = .ok (.aload_n 0, 1) := by decide +kernel
theorem dX3_obey_49 : decode cX3_obey 49 = .ok (.aload_n 2, 1) := by decide +kernel
theorem dX3_obey_50 : decode cX3_obey 50 = .ok (.iconst 0, 1) := by decide +kernel
theorem dX3_obey_51 : decode cX3_obey 51 = .ok (.iaload, 1) := by decide +kernel
theorem dX3_obey_52 : decode cX3_obey 52 = .ok (.aload_n 2, 1) := by decide +kernel
theorem dX3_obey_53 : decode cX3_obey 53 = .ok (.iconst 1, 1) := by decide +kernel
theorem dX3_obey_54 : decode cX3_obey 54 = .ok (.iaload, 1) := by decide +kernel
theorem dX3_obey_55 : decode cX3_obey 55 = .ok (.invokevirtual 156, 3) := by decide +kernel
theorem dX3_obey_58 : decode cX3_obey 58 = .ok (.pop, 1) := by decide +kernel
theorem dX3_obey_59 : decode cX3_obey 59 = .ok (.goto 84, 3) := by decide +kernel
theorem dX3_obey_62 : decode cX3_obey 62 = .ok (.aload_n 0, 1) := by decide +kernel
theorem dX3_obey_63 : decode cX3_obey 63 = .ok (.aload_n 2, 1) := by decide +kernel
theorem dX3_obey_64 : decode cX3_obey 64 = .ok (.iconst 0, 1) := by decide +kernel
theorem dX3_obey_65 : decode cX3_obey 65 = .ok (.iaload, 1) := by decide +kernel
theorem dX3_obey_66 : decode cX3_obey 66 = .ok (.aload_n 2, 1) := by decide +kernel
theorem dX3_obey_67 : decode cX3_obey 67 = .ok (.iconst 1, 1) := by decide +kernel
theorem dX3_obey_68 : decode cX3_obey 68 = .ok (.iaload, 1) := by decide +kernel
theorem dX3_obey_69 : decode cX3_obey 69 = .ok (.invokevirtual 159, 3) := by decide +kernel
theorem dX3_obey_72 : decode cX3_obey 72 = .ok (.pop, 1) := by decide +kernel
theorem dX3_obey_73 : decode cX3_obey 73 = .ok (.goto 70, 3) := by decide +kernel
theorem dX3_obey_76 : decode cX3_obey 76 = .ok (.aload_n 0, 1) := by decide +kernel
theorem dX3_obey_77 : decode cX3_obey 77 = .ok (.getfield 12, 3) := by decide +kernel
theorem dX3_obey_80 : decode cX3_obey 80 = .ok (.aload_n 2, 1) := by decide +kernel
theorem dX3_obey_81 : decode cX3_obey 81 = .ok (.iconst 0, 1) := by decide +kernel
theorem dX3_obey_82 : decode cX3_obey 82 = .ok (.iaload, 1) := by decide +kernel
theorem dX3_obey_83 : decode cX3_obey 83 = .ok (.aload_n 2, 1) := by decide +kernel
theorem dX3_obey_84 : decode cX3_obey 84 = .ok (.iconst 1, 1) := by decide +kernel
theorem dX3_obey_85 : decode cX3_obey 85 = .ok (.iaload, 1) := by decide +kernel
theorem dX3_obey_86 : decode cX3_obey 86 = .ok (.invokevirtual 162, 3) := by decide +kernel
theorem dX3_obey_89 : decode cX3_obey 89 = .ok (.pop, 1) := by decide +kernel
theorem dX3_obey_90 : decode cX3_obey 90 = .ok (.goto 53, 3) := by decide +kernel
theorem dX3_obey_93 : decode cX3_obey 93 = .ok (.aload_n 0, 1) := by decide +kernel
theorem dX3_obey_94 : decode cX3_obey 94 = .ok (.getfield 21, 3) := by decide +kernel
theorem dX3_obey_97 : decode cX3_obey 97 = .ok (.aload_n 2, 1) := by decide +kernel
theorem dX3_obey_98 : decode cX3_obey 98 = .ok (.iconst 0, 1) := by decide +kernel
theorem dX3_obey_99 : decode cX3_obey 99 = .ok (.iaload, 1) := by decide +kernel
theorem dX3_obey_100 : decode cX3_obey 100 = .ok (.aload_n 2, 1) := by decide +kernel
theorem dX3_obey_101 : decode cX3_obey 101 = .ok (.iconst 1, 1) := by decide +kernel
theorem dX3_obey_102 : decode cX3_obey 102 = .ok (.iaload, 1) := by decide +kernel
theorem dX3_obey_103 : decode cX3_obey 103 = .ok (.aload_n 2, 1) := by decide +kernel
theorem dX3_obey_104 : decode cX3_obey 104 = .ok (.iconst 2, 1) := by decide +kernel
theorem dX3_obey_105 : decode cX3_obey 105 = .ok (.iaload, 1) := by decide +kernel
theorem dX3_obey_106 : decode cX3_obey 106 = .ok (.aload_n 0, 1) := by decide +kernel
theorem dX3_obey_107 : decode cX3_obey 107 = .ok (.getfield 42, 3) := by decide +kernel
theorem dX3_obey_110 : decode cX3_obey 110 = .ok (.aload_n 2, 1) := by decide +kernel
theorem dX3_obey_111 : decode cX3_obey 111 = .ok (.iconst 3, 1) := by decide +kernel
theorem dX3_obey_112 : decode cX3_obey 112 = .ok (.iaload, 1) := by decide +kernel
theorem dX3_obey_113 : decode cX3_obey 113 = .ok (.iadd, 1) := by decide +kernel
theorem dX3_obey_114 : decode cX3_obey 114 = .ok (.invokevirtual 165, 3) := by decide +kernel
theorem dX3_obey_117 : decode cX3_obey 117 = .ok (.pop, 1) := by decide +kernel
theorem dX3_obey_118 : decode cX3_obey 118 = .ok (.goto 25, 3) := by decide +kernel
theorem dX3_obey_121 : decode cX3_obey 121 = .ok (.aload_n 0, 1) := by decide +kernel
theorem dX3_obey_122 : decode cX3_obey 122 = .ok (.getfield 21, 3) := by decide +kernel
theorem dX3_obey_125 : decode cX3_obey 125 = .ok (.aload_n 2, 1) := by decide +kernel
theorem dX3_obey_126 : decode cX3_obey 126 = .ok (.iconst 0, 1) := by decide +kernel
theorem dX3_obey_127 : decode cX3_obey 127 = .ok (.iaload, 1) := by decide +kernel
theorem dX3_obey_128 : decode cX3_obey 128 = .ok (.invokevirtual 167, 3) := by decide +kernel
theorem dX3_obey_131 : decode cX3_obey 131 = .ok (.pop, 1) := by decide +kernel
theorem dX3_obey_132 : decode cX3_obey 132 = .ok (.goto 11, 3) := by decide +kernel
theorem dX3_obey_135 : decode cX3_obey 135 = .ok (.aload_n 0, 1) := by decide +kernel
theorem dX3_obey_136 : decode cX3_obey 136 = .ok (.aload_n 2, 1) := by decide +kernel
theorem dX3_obey_137 : decode cX3_obey 137 = .ok (.iconst 0, 1) := by decide +kernel
theorem dX3_obey_138 : decode cX3_obey 138 = .ok (.iaload, 1) := by decide +kernel
theorem dX3_obey_139 : decode cX3_obey 139 = .ok (.invokevirtual 170, 3) := by decide +kernel
theorem dX3_obey_142 : decode cX3_obey 142 = .ok (.pop, 1) := by decide +kernel
theorem dX3_obey_143 : decode cX3_obey 143 = .ok (.iconst 0, 1) := by decide +kernel
theorem dX3_obey_144 : decode cX3_obey 144 = .ok (.ireturn, 1) := by decide +kernel
theorem dX3_faultOf_0 : decode cX3_faultOf 0 = .ok (.iload_n 1, 1) := by decide +kernel
theorem dX3_faultOf_1 : decode cX3_faultOf 1 = .ok (.tableswitch 93 0 4 #[35, 46, 57, 68, 85], 35) := by decide +kernel
theorem dX3_faultOf_36 : decode cX3_faultOf 36 = .ok (.aload_n 0, 1) := by decide +kernel
theorem dX3_faultOf_37 : decode cX3_faultOf 37 = .ok (.aload_n 2, 1) := by decide +kernel
theorem dX3_faultOf_38 : decode cX3_faultOf 38 = .ok (.iconst 0, 1) := by decide +kernel
theorem dX3_faultOf_39 : decode cX3_faultOf 39 = .ok (.iaload, 1) := by decide +kernel
theorem dX3_faultOf_40 : decode cX3_faultOf 40 = .ok (.aload_n 2, 1) := by decide +kernel
theorem dX3_faultOf_41 : decode cX3_faultOf 41 = .ok (.iconst 1, 1) := by decide +kernel
theorem dX3_faultOf_42 : decode cX3_faultOf 42 = .ok (.iaload, 1) := by decide +kernel
theorem dX3_faultOf_43 : decode cX3_faultOf 43 = .ok (.invokevirtual 173, 3) := by decide +kernel
theorem dX3_faultOf_46 : decode cX3_faultOf 46 = .ok (.ireturn, 1) := by decide +kernel
theorem dX3_faultOf_47 : decode cX3_faultOf 47 = .ok (.aload_n 0, 1) := by decide +kernel
theorem dX3_faultOf_48 : decode cX3_faultOf 48 = .ok (.aload_n 2, 1) := by decide +kernel
theorem dX3_faultOf_49 : decode cX3_faultOf 49 = .ok (.iconst 0, 1) := by decide +kernel
theorem dX3_faultOf_50 : decode cX3_faultOf 50 = .ok (.iaload, 1) := by decide +kernel
theorem dX3_faultOf_51 : decode cX3_faultOf 51 = .ok (.aload_n 2, 1) := by decide +kernel
theorem dX3_faultOf_52 : decode cX3_faultOf 52 = .ok (.iconst 1, 1) := by decide +kernel
theorem dX3_faultOf_53 : decode cX3_faultOf 53 = .ok (.iaload, 1) := by decide +kernel
theorem dX3_faultOf_54 : decode cX3_faultOf 54 = .ok (.invokevirtual 176, 3) := by decide +kernel
theorem dX3_faultOf_57 : decode cX3_faultOf 57 = .ok (.ireturn, 1) := by decide +kernel
theorem dX3_faultOf_58 : decode cX3_faultOf 58 = .ok (.aload_n 0, 1) := by decide +kernel
theorem dX3_faultOf_59 : decode cX3_faultOf 59 = .ok (.aload_n 2, 1) := by decide +kernel
theorem dX3_faultOf_60 : decode cX3_faultOf 60 = .ok (.iconst 0, 1) := by decide +kernel
theorem dX3_faultOf_61 : decode cX3_faultOf 61 = .ok (.iaload, 1) := by decide +kernel
theorem dX3_faultOf_62 : decode cX3_faultOf 62 = .ok (.aload_n 2, 1) := by decide +kernel
theorem dX3_faultOf_63 : decode cX3_faultOf 63 = .ok (.iconst 1, 1) := by decide +kernel
theorem dX3_faultOf_64 : decode cX3_faultOf 64 = .ok (.iaload, 1) := by decide +kernel
theorem dX3_faultOf_65 : decode cX3_faultOf 65 = .ok (.invokevirtual 179, 3) := by decide +kernel
theorem dX3_faultOf_68 : decode cX3_faultOf 68 = .ok (.ireturn, 1) := by decide +kernel
theorem dX3_faultOf_69 : decode cX3_faultOf 69 = .ok (.aload_n 0, 1) := by decide +kernel
theorem dX3_faultOf_70 : decode cX3_faultOf 70 = .ok (.aload_n 2, 1) := by decide +kernel
theorem dX3_faultOf_71 : decode cX3_faultOf 71 = .ok (.iconst 0, 1) := by decide +kernel
theorem dX3_faultOf_72 : decode cX3_faultOf 72 = .ok (.iaload, 1) := by decide +kernel
theorem dX3_faultOf_73 : decode cX3_faultOf 73 = .ok (.aload_n 2, 1) := by decide +kernel
theorem dX3_faultOf_74 : decode cX3_faultOf 74 = .ok (.iconst 1, 1) := by decide +kernel
theorem dX3_faultOf_75 : decode cX3_faultOf 75 = .ok (.iaload, 1) := by decide +kernel
theorem dX3_faultOf_76 : decode cX3_faultOf 76 = .ok (.aload_n 2, 1) := by decide +kernel
theorem dX3_faultOf_77 : decode cX3_faultOf 77 = .ok (.iconst 2, 1) := by decide +kernel
theorem dX3_faultOf_78 : decode cX3_faultOf 78 = .ok (.iaload, 1) := by decide +kernel
theorem dX3_faultOf_79 : decode cX3_faultOf 79 = .ok (.aload_n 2, 1) := by decide +kernel
theorem dX3_faultOf_80 : decode cX3_faultOf 80 = .ok (.iconst 3, 1) := by decide +kernel
theorem dX3_faultOf_81 : decode cX3_faultOf 81 = .ok (.iaload, 1) := by decide +kernel
theorem dX3_faultOf_82 : decode cX3_faultOf 82 = .ok (.invokevirtual 182, 3) := by decide +kernel
theorem dX3_faultOf_85 : decode cX3_faultOf 85 = .ok (.ireturn, 1) := by decide +kernel
theorem dX3_faultOf_86 : decode cX3_faultOf 86 = .ok (.aload_n 0, 1) := by decide +kernel
theorem dX3_faultOf_87 : decode cX3_faultOf 87 = .ok (.aload_n 2, 1) := by decide +kernel
theorem dX3_faultOf_88 : decode cX3_faultOf 88 = .ok (.iconst 0, 1) := by decide +kernel
theorem dX3_faultOf_89 : decode cX3_faultOf 89 = .ok (.iaload, 1) := by decide +kernel
theorem dX3_faultOf_90 : decode cX3_faultOf 90 = .ok (.invokevirtual 185, 3) := by decide +kernel
theorem dX3_faultOf_93 : decode cX3_faultOf 93 = .ok (.ireturn, 1) := by decide +kernel
theorem dX3_faultOf_94 : decode cX3_faultOf 94 = .ok (.aload_n 0, 1) := by decide +kernel
theorem dX3_faultOf_95 : decode cX3_faultOf 95 = .ok (.aload_n 2, 1) := by decide +kernel
theorem dX3_faultOf_96 : decode cX3_faultOf 96 = .ok (.iconst 0, 1) := by decide +kernel
theorem dX3_faultOf_97 : decode cX3_faultOf 97 = .ok (.iaload, 1) := by decide +kernel
theorem dX3_faultOf_98 : decode cX3_faultOf 98 = .ok (.invokevirtual 188, 3) := by decide +kernel
theorem dX3_faultOf_101 : decode cX3_faultOf 101 = .ok (.ireturn, 1) := by decide +kernel
theorem dX4_init_0 : decode cX4_init 0 = .ok (.aload_n 0, 1) := by decide +kernel
theorem dX4_init_1 : decode cX4_init 1 = .ok (.invokespecial 3, 3) := by decide +kernel
theorem dX4_init_4 : decode cX4_init 4 = .ok (.aload_n 0, 1) := by decide +kernel
theorem dX4_init_5 : decode cX4_init 5 = .ok (.bipush 60, 2) := by decide +kernel
theorem dX4_init_7 : decode cX4_init 7 = .ok (.newarray .char, 2) := by decide +kernel
theorem dX4_init_9 : decode cX4_init 9 = .ok (.putfield 9, 3) := by decide +kernel
theorem dX4_init_12 : decode cX4_init 12 = .ok (.aload_n 0, 1) := by decide +kernel
theorem dX4_init_13 : decode cX4_init 13 = .ok (.iconst 4, 1) := by decide +kernel
theorem dX4_init_14 : decode cX4_init 14 = .ok (.newarray .int, 2) := by decide +kernel
theorem dX4_init_16 : decode cX4_init 16 = .ok (.putfield 15, 3) := by decide +kernel
theorem dX4_init_19 : decode cX4_init 19 = .ok (.return_, 1) := by decide +kernel
theorem dX4_countCommands_0 : decode cX4_countCommands 0 = .ok (.aload_n 0, 1) := by decide +kernel
theorem dX4_countCommands_1 : decode cX4_countCommands 1 = .ok (.iconst 0, 1) := by decide +kernel
theorem dX4_countCommands_2 : decode cX4_countCommands 2 = .ok (.putfield 23, 3) := by decide +kernel
theorem dX4_countCommands_5 : decode cX4_countCommands 5 = .ok (.iconst 0, 1) := by decide +kernel
theorem dX4_countCommands_6 : decode cX4_countCommands 6 = .ok (.istore_n 1, 1) := by decide +kernel
theorem dX4_countCommands_7 : decode cX4_countCommands 7 = .ok (.iload_n 1, 1) := by decide +kernel
theorem dX4_countCommands_8 : decode cX4_countCommands 8 = .ok (.bipush 60, 2) := by decide +kernel
theorem dX4_countCommands_10 : decode cX4_countCommands 10 = .ok (.if_icmp .gt 39, 3) := by decide +kernel
theorem dX4_countCommands_13 : decode cX4_countCommands 13 = .ok (.aload_n 0, 1) := by decide +kernel
theorem dX4_countCommands_14 : decode cX4_countCommands 14 = .ok (.invokevirtual 26, 3) := by decide +kernel
theorem dX4_countCommands_17 : decode cX4_countCommands 17 = .ok (.ifCond .ne 5, 3) := by decide +kernel
theorem dX4_countCommands_20 : decode cX4_countCommands 20 = .ok (.iconst (-1), 1) := by decide +kernel
theorem dX4_countCommands_21 : decode cX4_countCommands 21 = .ok (.ireturn, 1) := by decide +kernel
theorem dX4_countCommands_22 : decode cX4_countCommands 22 = .ok (.iinc 1 1, 3) := by decide +kernel
theorem dX4_countCommands_25 : decode cX4_countCommands 25 = .ok (.aload_n 0, 1) := by decide +kernel
theorem dX4_countCommands_26 : decode cX4_countCommands 26 = .ok (.getfield 23, 3) := by decide +kernel
theorem dX4_countCommands_29 : decode cX4_countCommands 29 = .ok (.aload_n 0, 1) := by decide +kernel
theorem dX4_countCommands_30 : decode cX4_countCommands 30 = .ok (.getfield 19, 3) := by decide +kernel
theorem dX4_countCommands_33 : decode cX4_countCommands 33 = .ok (.if_icmp .lt 5, 3) := by decide +kernel
theorem dX4_countCommands_36 : decode cX4_countCommands 36 = .ok (.iload_n 1, 1) := by decide +kernel
theorem dX4_countCommands_37 : decode cX4_countCommands 37 = .ok (.ireturn, 1) := by decide +kernel
theorem dX4_countCommands_38 : decode cX4_countCommands 38 = .ok (.aload_n 0, 1) := by decide +kernel
theorem dX4_countCommands_39 : decode cX4_countCommands 39 = .ok (.bipush 59, 2) := by decide +kernel
theorem dX4_countCommands_41 : decode cX4_countCommands 41 = .ok (.invokevirtual 30, 3) := by decide +kernel
theorem dX4_countCommands_44 : decode cX4_countCommands 44 = .ok (.ifCond .ne (-37), 3) := by decide +kernel
theorem dX4_countCommands_47 : decode cX4_countCommands 47 = .ok (.iconst (-1), 1) := by decide +kernel
theorem dX4_countCommands_48 : decode cX4_countCommands 48 = .ok (.ireturn, 1) := by decide +kernel
theorem dX4_countCommands_49 : decode cX4_countCommands 49 = .ok (.iconst (-1), 1) := by decide +kernel
theorem dX4_countCommands_50 : decode cX4_countCommands 50 = .ok (.ireturn, 1) := by decide +kernel
theorem dX4_readCommand_0 : decode cX4_readCommand 0 = .ok (.aload_n 0, 1) := by decide +kernel
theorem dX4_readCommand_1 : decode cX4_readCommand 1 = .ok (.aload_n 0, 1) := by decide +kernel
theorem dX4_readCommand_2 : decode cX4_readCommand 2 = .ok (.getfield 23, 3) := by decide +kernel
theorem dX4_readCommand_5 : decode cX4_readCommand 5 = .ok (.aload_n 0, 1) := by decide +kernel
theorem dX4_readCommand_6 : decode cX4_readCommand 6 = .ok (.getfield 19, 3) := by decide +kernel
theorem dX4_readCommand_9 : decode cX4_readCommand 9 = .ok (.if_icmp .ge 20, 3) := by decide +kernel
theorem dX4_readCommand_12 : decode cX4_readCommand 12 = .ok (.ldc 34, 2) := by decide +kernel
theorem dX4_readCommand_14 : decode cX4_readCommand 14 = .ok (.aload_n 0, 1) := by decide +kernel
theorem dX4_readCommand_15 : decode cX4_readCommand 15 = .ok (.getfield 9, 3) := by decide +kernel
theorem dX4_readCommand_18 : decode cX4_readCommand 18 = .ok (.aload_n 0, 1) := by decide +kernel
theorem dX4_readCommand_19 : decode cX4_readCommand 19 = .ok (.getfield 23, 3) := by decide +kernel
theorem dX4_readCommand_22 : decode cX4_readCommand 22 = .ok (.caload, 1) := by decide +kernel
theorem dX4_readCommand_23 : decode cX4_readCommand 23 = .ok (.invokevirtual 36, 3) := by decide +kernel
theorem dX4_readCommand_26 : decode cX4_readCommand 26 = .ok (.goto 4, 3) := by decide +kernel
theorem dX4_readCommand_29 : decode cX4_readCommand 29 = .ok (.iconst (-1), 1) := by decide +kernel
theorem dX4_readCommand_30 : decode cX4_readCommand 30 = .ok (.putfield 42, 3) := by decide +kernel
theorem dX4_readCommand_33 : decode cX4_readCommand 33 = .ok (.aload_n 0, 1) := by decide +kernel
theorem dX4_readCommand_34 : decode cX4_readCommand 34 = .ok (.getfield 42, 3) := by decide +kernel
theorem dX4_readCommand_37 : decode cX4_readCommand 37 = .ok (.invokestatic 45, 3) := by decide +kernel
theorem dX4_readCommand_40 : decode cX4_readCommand 40 = .ok (.astore_n 1, 1) := by decide +kernel
theorem dX4_readCommand_41 : decode cX4_readCommand 41 = .ok (.iconst 0, 1) := by decide +kernel
theorem dX4_readCommand_42 : decode cX4_readCommand 42 = .ok (.istore_n 2, 1) := by decide +kernel
theorem dX4_readCommand_43 : decode cX4_readCommand 43 = .ok (.iconst 0, 1) := by decide +kernel
theorem dX4_readCommand_44 : decode cX4_readCommand 44 = .ok (.istore_n 3, 1) := by decide +kernel
theorem dX4_readCommand_45 : decode cX4_readCommand 45 = .ok (.iload_n 3, 1) := by decide +kernel
theorem dX4_readCommand_46 : decode cX4_readCommand 46 = .ok (.aload_n 1, 1) := by decide +kernel
theorem dX4_readCommand_47 : decode cX4_readCommand 47 = .ok (.invokevirtual 49, 3) := by decide +kernel
theorem dX4_readCommand_50 : decode cX4_readCommand 50 = .ok (.if_icmp .ge 82, 3) := by decide +kernel
theorem dX4_readCommand_53 : decode cX4_readCommand 53 = .ok (.aload_n 1, 1) := by decide +kernel
theorem dX4_readCommand_54 : decode cX4_readCommand 54 = .ok (.iload_n 3, 1) := by decide +kernel
theorem dX4_readCommand_55 : decode cX4_readCommand 55 = .ok (.invokevirtual 52, 3) := by decide +kernel
theorem dX4_readCommand_58 : decode cX4_readCommand 58 = .ok (.istore 4, 2) := by decide +kernel
theorem dX4_readCommand_60 : decode cX4_readCommand 60 = .ok (.iload 4, 2) := by decide +kernel
theorem dX4_readCommand_62 : decode cX4_readCommand 62 = .ok (.bipush 68, 2) := by decide +kernel
theorem dX4_readCommand_64 : decode cX4_readCommand 64 = .ok (.if_icmp .eq 21, 3) := by decide +kernel
theorem dX4_readCommand_67 : decode cX4_readCommand 67 = .ok (.iload 4, 2) := by decide +kernel
theorem dX4_readCommand_69 : decode cX4_readCommand 69 = .ok (.bipush 78, 2) := by decide +kernel
theorem dX4_readCommand_71 : decode cX4_readCommand 71 = .ok (.if_icmp .eq 14, 3) := by decide +kernel
theorem dX4_readCommand_74 : decode cX4_readCommand 74 = .ok (.aload_n 0, 1) := by decide +kernel
theorem dX4_readCommand_75 : decode cX4_readCommand 75 = .ok (.iload 4, 2) := by decide +kernel
theorem dX4_readCommand_77 : decode cX4_readCommand 77 = .ok (.invokevirtual 30, 3) := by decide +kernel
theorem dX4_readCommand_80 : decode cX4_readCommand 80 = .ok (.ifCond .ne 46, 3) := by decide +kernel
theorem dX4_readCommand_83 : decode cX4_readCommand 83 = .ok (.iconst 0, 1) := by decide +kernel
theorem dX4_readCommand_84 : decode cX4_readCommand 84 = .ok (.ireturn, 1) := by decide +kernel
theorem dX4_readCommand_85 : decode cX4_readCommand 85 = .ok (.aload_n 0, 1) := by decide +kernel
theorem dX4_readCommand_86 : decode cX4_readCommand 86 = .ok (.iload 4, 2) := by decide +kernel
theorem dX4_readCommand_88 : decode cX4_readCommand 88 = .ok (.bipush 68, 2) := by decide +kernel
theorem dX4_readCommand_90 : decode cX4_readCommand 90 = .ok (.if_icmp .ne 7, 3) := by decide +kernel
theorem dX4_readCommand_93 : decode cX4_readCommand 93 = .ok (.iconst 1, 1) := by decide +kernel
theorem dX4_readCommand_94 : decode cX4_readCommand 94 = .ok (.goto 4, 3) := by decide +kernel
theorem dX4_readCommand_97 : decode cX4_readCommand 97 = .ok (.iconst 3, 1) := by decide +kernel
theorem dX4_readCommand_98 : decode cX4_readCommand 98 = .ok (.invokevirtual 56, 3) := by decide +kernel
theorem dX4_readCommand_101 : decode cX4_readCommand 101 = .ok (.istore 5, 2) := by decide +kernel
theorem dX4_readCommand_103 : decode cX4_readCommand 103 = .ok (.iload 5, 2) := by decide +kernel
theorem dX4_readCommand_105 : decode cX4_readCommand 105 = .ok (.ifCond .lt 8, 3) := by decide +kernel
theorem dX4_readCommand_108 : decode cX4_readCommand 108 = .ok (.iload_n 2, 1) := by decide +kernel
theorem dX4_readCommand_109 : decode cX4_readCommand 109 = .ok (.iconst 4, 1) := by decide +kernel
theorem dX4_readCommand_110 : decode cX4_readCommand 110 = .ok (.if_icmp .lt 5, 3) := by decide +kernel
theorem dX4_readCommand_113 : decode cX4_readCommand 113 = .ok (.iconst 0, 1) := by decide +kernel
theorem dX4_readCommand_114 : decode cX4_readCommand 114 = .ok (.ireturn, 1) := by decide +kernel
theorem dX4_readCommand_115 : decode cX4_readCommand 115 = .ok (.aload_n 0, 1) := by decide +kernel
theorem dX4_readCommand_116 : decode cX4_readCommand 116 = .ok (.getfield 15, 3) := by decide +kernel
theorem dX4_readCommand_119 : decode cX4_readCommand 119 = .ok (.iload_n 2, 1) := by decide +kernel
theorem dX4_readCommand_120 : decode cX4_readCommand 120 = .ok (.iload 5, 2) := by decide +kernel
theorem dX4_readCommand_122 : decode cX4_readCommand 122 = .ok (.iastore, 1) := by decide +kernel
theorem dX4_readCommand_123 : decode cX4_readCommand 123 = .ok (.iinc 2 1, 3) := by decide +kernel
theorem dX4_readCommand_126 : decode cX4_readCommand 126 = .ok (.iinc 3 1, 3) := by decide +kernel
theorem dX4_readCommand_129 : decode cX4_readCommand 129 = .ok (.goto (-84), 3) := by decide +kernel
theorem dX4_readCommand_132 : decode cX4_readCommand 132 = .ok (.aload_n 1, 1) := by decide +kernel
theorem dX4_readCommand_133 : decode cX4_readCommand 133 = .ok (.invokevirtual 59, 3) := by decide +kernel
theorem dX4_readCommand_136 : decode cX4_readCommand 136 = .ok (.ifCond .ne 7, 3) := by decide +kernel
theorem dX4_readCommand_139 : decode cX4_readCommand 139 = .ok (.iconst 1, 1) := by decide +kernel
theorem dX4_readCommand_140 : decode cX4_readCommand 140 = .ok (.goto 4, 3) := by decide +kernel
theorem dX4_readCommand_143 : decode cX4_readCommand 143 = .ok (.iconst 0, 1) := by decide +kernel
theorem dX4_readCommand_144 : decode cX4_readCommand 144 = .ok (.ireturn, 1) := by decide +kernel
theorem dX4_formOf_0 : decode cX4_formOf 0 = .ok (.iload_n 0, 1) := by decide +kernel
theorem dX4_formOf_1 : decode cX4_formOf 1 = .ok (.tableswitch 57 0 5 #[39, 42, 45, 48, 51, 54], 39) := by decide +kernel
theorem dX4_formOf_40 : decode cX4_formOf 40 = .ok (.ldc 62, 2) := by decide +kernel
theorem dX4_formOf_42 : decode cX4_formOf 42 = .ok (.areturn, 1) := by decide +kernel
theorem dX4_formOf_43 : decode cX4_formOf 43 = .ok (.ldc 64, 2) := by decide +kernel
theorem dX4_formOf_45 : decode cX4_formOf 45 = .ok (.areturn, 1) := by decide +kernel
theorem dX4_formOf_46 : decode cX4_formOf 46 = .ok (.ldc 66, 2) := by decide +kernel
theorem dX4_formOf_48 : decode cX4_formOf 48 = .ok (.areturn, 1) := by decide +kernel
theorem dX4_formOf_49 : decode cX4_formOf 49 = .ok (.ldc 68, 2) := by decide +kernel
theorem dX4_formOf_51 : decode cX4_formOf 51 = .ok (.areturn, 1) := by decide +kernel
theorem dX4_formOf_52 : decode cX4_formOf 52 = .ok (.ldc 70, 2) := by decide +kernel
theorem dX4_formOf_54 : decode cX4_formOf 54 = .ok (.areturn, 1) := by decide +kernel
theorem dX4_formOf_55 : decode cX4_formOf 55 = .ok (.ldc 72, 2) := by decide +kernel
theorem dX4_formOf_57 : decode cX4_formOf 57 = .ok (.areturn, 1) := by decide +kernel
theorem dX4_formOf_58 : decode cX4_formOf 58 = .ok (.ldc 74, 2) := by decide +kernel
theorem dX4_formOf_60 : decode cX4_formOf 60 = .ok (.areturn, 1) := by decide +kernel
theorem dX4_readSign_0 : decode cX4_readSign 0 = .ok (.aload_n 0, 1) := by decide +kernel
theorem dX4_readSign_1 : decode cX4_readSign 1 = .ok (.getfield 23, 3) := by decide +kernel
theorem dX4_readSign_4 : decode cX4_readSign 4 = .ok (.aload_n 0, 1) := by decide +kernel
theorem dX4_readSign_5 : decode cX4_readSign 5 = .ok (.getfield 19, 3) := by decide +kernel
theorem dX4_readSign_8 : decode cX4_readSign 8 = .ok (.if_icmp .ge 16, 3) := by decide +kernel
theorem dX4_readSign_11 : decode cX4_readSign 11 = .ok (.aload_n 0, 1) := by decide +kernel
theorem dX4_readSign_12 : decode cX4_readSign 12 = .ok (.getfield 9, 3) := by decide +kernel
theorem dX4_readSign_15 : decode cX4_readSign 15 = .ok (.aload_n 0, 1) := by decide +kernel
theorem dX4_readSign_16 : decode cX4_readSign 16 = .ok (.getfield 23, 3) := by decide +kernel
theorem dX4_readSign_19 : decode cX4_readSign 19 = .ok (.caload, 1) := by decide +kernel
theorem dX4_readSign_20 : decode cX4_readSign 20 = .ok (.iload_n 1, 1) := by decide +kernel
theorem dX4_readSign_21 : decode cX4_readSign 21 = .ok (.if_icmp .eq 5, 3) := by decide +kernel
theorem dX4_readSign_24 : decode cX4_readSign 24 = .ok (.iconst 0, 1) := by decide +kernel
theorem dX4_readSign_25 : decode cX4_readSign 25 = .ok (.ireturn, 1) := by decide +kernel
theorem dX4_readSign_26 : decode cX4_readSign 26 = .ok (.aload_n 0, 1) := by decide +kernel
theorem dX4_readSign_27 : decode cX4_readSign 27 = .ok (.dup, 1) := by decide +kernel
theorem dX4_readSign_28 : decode cX4_readSign 28 = .ok (.getfield 23, 3) := by decide +kernel
theorem dX4_readSign_31 : decode cX4_readSign 31 = .ok (.iconst 1, 1) := by decide +kernel
theorem dX4_readSign_32 : decode cX4_readSign 32 = .ok (.iadd, 1) := by decide +kernel
theorem dX4_readSign_33 : decode cX4_readSign 33 = .ok (.putfield 23, 3) := by decide +kernel
theorem dX4_readSign_36 : decode cX4_readSign 36 = .ok (.iconst 1, 1) := by decide +kernel
theorem dX4_readSign_37 : decode cX4_readSign 37 = .ok (.ireturn, 1) := by decide +kernel
theorem dX4_readNumber_0 : decode cX4_readNumber 0 = .ok (.iconst (-1), 1) := by decide +kernel
theorem dX4_readNumber_1 : decode cX4_readNumber 1 = .ok (.istore_n 2, 1) := by decide +kernel
theorem dX4_readNumber_2 : decode cX4_readNumber 2 = .ok (.iconst 0, 1) := by decide +kernel
theorem dX4_readNumber_3 : decode cX4_readNumber 3 = .ok (.istore_n 3, 1) := by decide +kernel
theorem dX4_readNumber_4 : decode cX4_readNumber 4 = .ok (.iload_n 3, 1) := by decide +kernel
theorem dX4_readNumber_5 : decode cX4_readNumber 5 = .ok (.iload_n 1, 1) := by decide +kernel
theorem dX4_readNumber_6 : decode cX4_readNumber 6 = .ok (.if_icmp .ge 48, 3) := by decide +kernel
theorem dX4_readNumber_9 : decode cX4_readNumber 9 = .ok (.aload_n 0, 1) := by decide +kernel
theorem dX4_readNumber_10 : decode cX4_readNumber 10 = .ok (.invokevirtual 76, 3) := by decide +kernel
theorem dX4_readNumber_13 : decode cX4_readNumber 13 = .ok (.ifCond .eq 41, 3) := by decide +kernel
theorem dX4_readNumber_16 : decode cX4_readNumber 16 = .ok (.iload_n 2, 1) := by decide +kernel
theorem dX4_readNumber_17 : decode cX4_readNumber 17 = .ok (.iconst 0, 1) := by decide +kernel
theorem dX4_readNumber_18 : decode cX4_readNumber 18 = .ok (.invokestatic 79, 3) := by decide +kernel
theorem dX4_readNumber_21 : decode cX4_readNumber 21 = .ok (.bipush 10, 2) := by decide +kernel
theorem dX4_readNumber_23 : decode cX4_readNumber 23 = .ok (.imul, 1) := by decide +kernel
theorem dX4_readNumber_24 : decode cX4_readNumber 24 = .ok (.aload_n 0, 1) := by decide +kernel
theorem dX4_readNumber_25 : decode cX4_readNumber 25 = .ok (.getfield 9, 3) := by decide +kernel
theorem dX4_readNumber_28 : decode cX4_readNumber 28 = .ok (.aload_n 0, 1) := by decide +kernel
theorem dX4_readNumber_29 : decode cX4_readNumber 29 = .ok (.getfield 23, 3) := by decide +kernel
theorem dX4_readNumber_32 : decode cX4_readNumber 32 = .ok (.caload, 1) := by decide +kernel
theorem dX4_readNumber_33 : decode cX4_readNumber 33 = .ok (.bipush 48, 2) := by decide +kernel
theorem dX4_readNumber_35 : decode cX4_readNumber 35 = .ok (.isub, 1) := by decide +kernel
theorem dX4_readNumber_36 : decode cX4_readNumber 36 = .ok (.iadd, 1) := by decide +kernel
theorem dX4_readNumber_37 : decode cX4_readNumber 37 = .ok (.istore_n 2, 1) := by decide +kernel
theorem dX4_readNumber_38 : decode cX4_readNumber 38 = .ok (.aload_n 0, 1) := by decide +kernel
theorem dX4_readNumber_39 : decode cX4_readNumber 39 = .ok (.dup, 1) := by decide +kernel
theorem dX4_readNumber_40 : decode cX4_readNumber 40 = .ok (.getfield 23, 3) := by decide +kernel
theorem dX4_readNumber_43 : decode cX4_readNumber 43 = .ok (.iconst 1, 1) := by decide +kernel
theorem dX4_readNumber_44 : decode cX4_readNumber 44 = .ok (.iadd, 1) := by decide +kernel
theorem dX4_readNumber_45 : decode cX4_readNumber 45 = .ok (.putfield 23, 3) := by decide +kernel
theorem dX4_readNumber_48 : decode cX4_readNumber 48 = .ok (.iinc 3 1, 3) := by decide +kernel
theorem dX4_readNumber_51 : decode cX4_readNumber 51 = .ok (.goto (-47), 3) := by decide +kernel
theorem dX4_readNumber_54 : decode cX4_readNumber 54 = .ok (.iload_n 2, 1) := by decide +kernel
theorem dX4_readNumber_55 : decode cX4_readNumber 55 = .ok (.ireturn, 1) := by decide +kernel
theorem dX4_isDigitHere_0 : decode cX4_isDigitHere 0 = .ok (.aload_n 0, 1) := by decide +kernel
theorem dX4_isDigitHere_1 : decode cX4_isDigitHere 1 = .ok (.getfield 23, 3) := by decide +kernel
theorem dX4_isDigitHere_4 : decode cX4_isDigitHere 4 = .ok (.aload_n 0, 1) := by decide +kernel
theorem dX4_isDigitHere_5 : decode cX4_isDigitHere 5 = .ok (.getfield 19, 3) := by decide +kernel
theorem dX4_isDigitHere_8 : decode cX4_isDigitHere 8 = .ok (.if_icmp .ge 35, 3) := by decide +kernel
theorem dX4_isDigitHere_11 : decode cX4_isDigitHere 11 = .ok (.aload_n 0, 1) := by decide +kernel
theorem dX4_isDigitHere_12 : decode cX4_isDigitHere 12 = .ok (.getfield 9, 3) := by decide +kernel
theorem dX4_isDigitHere_15 : decode cX4_isDigitHere 15 = .ok (.aload_n 0, 1) := by decide +kernel
theorem dX4_isDigitHere_16 : decode cX4_isDigitHere 16 = .ok (.getfield 23, 3) := by decide +kernel
theorem dX4_isDigitHere_19 : decode cX4_isDigitHere 19 = .ok (.caload, 1) := by decide +kernel
theorem dX4_isDigitHere_20 : decode cX4_isDigitHere 20 = .ok (.bipush 48, 2) := by decide +kernel
theorem dX4_isDigitHere_22 : decode cX4_isDigitHere 22 = .ok (.if_icmp .lt 21, 3) := by decide +kernel
theorem dX4_isDigitHere_25 : decode cX4_isDigitHere 25 = .ok (.aload_n 0, 1) := by decide +kernel
theorem dX4_isDigitHere_26 : decode cX4_isDigitHere 26 = .ok (.getfield 9, 3) := by decide +kernel
theorem dX4_isDigitHere_29 : decode cX4_isDigitHere 29 = .ok (.aload_n 0, 1) := by decide +kernel
theorem dX4_isDigitHere_30 : decode cX4_isDigitHere 30 = .ok (.getfield 23, 3) := by decide +kernel
theorem dX4_isDigitHere_33 : decode cX4_isDigitHere 33 = .ok (.caload, 1) := by decide +kernel
theorem dX4_isDigitHere_34 : decode cX4_isDigitHere 34 = .ok (.bipush 57, 2) := by decide +kernel
theorem dX4_isDigitHere_36 : decode cX4_isDigitHere 36 = .ok (.if_icmp .gt 7, 3) := by decide +kernel
theorem dX4_isDigitHere_39 : decode cX4_isDigitHere 39 = .ok (.iconst 1, 1) := by decide +kernel
theorem dX4_isDigitHere_40 : decode cX4_isDigitHere 40 = .ok (.goto 4, 3) := by decide +kernel
theorem dX4_isDigitHere_43 : decode cX4_isDigitHere 43 = .ok (.iconst 0, 1) := by decide +kernel
theorem dX4_isDigitHere_44 : decode cX4_isDigitHere 44 = .ok (.ireturn, 1) := by decide +kernel
theorem dX5_init_0 : decode cX5_init 0 = .ok (.aload_n 0, 1) := by decide +kernel
theorem dX5_init_1 : decode cX5_init 1 = .ok (.invokespecial 3, 3) := by decide +kernel
theorem dX5_init_4 : decode cX5_init 4 = .ok (.aload_n 0, 1) := by decide +kernel
theorem dX5_init_5 : decode cX5_init 5 = .ok (.bipush 10, 2) := by decide +kernel
theorem dX5_init_7 : decode cX5_init 7 = .ok (.newarray .int, 2) := by decide +kernel
theorem dX5_init_9 : decode cX5_init 9 = .ok (.putfield 9, 3) := by decide +kernel
theorem dX5_init_12 : decode cX5_init 12 = .ok (.aload_n 0, 1) := by decide +kernel
theorem dX5_init_13 : decode cX5_init 13 = .ok (.bipush 10, 2) := by decide +kernel
theorem dX5_init_15 : decode cX5_init 15 = .ok (.newarray .int, 2) := by decide +kernel
theorem dX5_init_17 : decode cX5_init 17 = .ok (.putfield 15, 3) := by decide +kernel
theorem dX5_init_20 : decode cX5_init 20 = .ok (.aload_n 0, 1) := by decide +kernel
theorem dX5_init_21 : decode cX5_init 21 = .ok (.bipush 10, 2) := by decide +kernel
theorem dX5_init_23 : decode cX5_init 23 = .ok (.newarray .int, 2) := by decide +kernel
theorem dX5_init_25 : decode cX5_init 25 = .ok (.putfield 18, 3) := by decide +kernel
theorem dX5_init_28 : decode cX5_init 28 = .ok (.aload_n 0, 1) := by decide +kernel
theorem dX5_init_29 : decode cX5_init 29 = .ok (.bipush 10, 2) := by decide +kernel
theorem dX5_init_31 : decode cX5_init 31 = .ok (.newarray .int, 2) := by decide +kernel
theorem dX5_init_33 : decode cX5_init 33 = .ok (.putfield 21, 3) := by decide +kernel
theorem dX5_init_36 : decode cX5_init 36 = .ok (.aload_n 0, 1) := by decide +kernel
theorem dX5_init_37 : decode cX5_init 37 = .ok (.bipush 10, 2) := by decide +kernel
theorem dX5_init_39 : decode cX5_init 39 = .ok (.newarray .int, 2) := by decide +kernel
theorem dX5_init_41 : decode cX5_init 41 = .ok (.putfield 24, 3) := by decide +kernel
theorem dX5_init_44 : decode cX5_init 44 = .ok (.return_, 1) := by decide +kernel
theorem dX5_copyFrom_0 : decode cX5_copyFrom 0 = .ok (.aload_n 0, 1) := by decide +kernel
theorem dX5_copyFrom_1 : decode cX5_copyFrom 1 = .ok (.aload_n 1, 1) := by decide +kernel
theorem dX5_copyFrom_2 : decode cX5_copyFrom 2 = .ok (.getfield 27, 3) := by decide +kernel
theorem dX5_copyFrom_5 : decode cX5_copyFrom 5 = .ok (.putfield 27, 3) := by decide +kernel
theorem dX5_copyFrom_8 : decode cX5_copyFrom 8 = .ok (.aload_n 0, 1) := by decide +kernel
theorem dX5_copyFrom_9 : decode cX5_copyFrom 9 = .ok (.aload_n 1, 1) := by decide +kernel
theorem dX5_copyFrom_10 : decode cX5_copyFrom 10 = .ok (.getfield 31, 3) := by decide +kernel
theorem dX5_copyFrom_13 : decode cX5_copyFrom 13 = .ok (.putfield 31, 3) := by decide +kernel
theorem dX5_copyFrom_16 : decode cX5_copyFrom 16 = .ok (.iconst 0, 1) := by decide +kernel
theorem dX5_copyFrom_17 : decode cX5_copyFrom 17 = .ok (.istore_n 2, 1) := by decide +kernel
theorem dX5_copyFrom_18 : decode cX5_copyFrom 18 = .ok (.iload_n 2, 1) := by decide +kernel
theorem dX5_copyFrom_19 : decode cX5_copyFrom 19 = .ok (.aload_n 0, 1) := by decide +kernel
theorem dX5_copyFrom_20 : decode cX5_copyFrom 20 = .ok (.getfield 27, 3) := by decide +kernel
theorem dX5_copyFrom_23 : decode cX5_copyFrom 23 = .ok (.if_icmp .ge 16, 3) := by decide +kernel
theorem dX5_copyFrom_26 : decode cX5_copyFrom 26 = .ok (.aload_n 0, 1) := by decide +kernel
theorem dX5_copyFrom_27 : decode cX5_copyFrom 27 = .ok (.aload_n 1, 1) := by decide +kernel
theorem dX5_copyFrom_28 : decode cX5_copyFrom 28 = .ok (.iload_n 2, 1) := by decide +kernel
theorem dX5_copyFrom_29 : decode cX5_copyFrom 29 = .ok (.iload_n 2, 1) := by decide +kernel
theorem dX5_copyFrom_30 : decode cX5_copyFrom 30 = .ok (.invokevirtual 34, 3) := by decide +kernel
theorem dX5_copyFrom_33 : decode cX5_copyFrom 33 = .ok (.iinc 2 1, 3) := by decide +kernel
theorem dX5_copyFrom_36 : decode cX5_copyFrom 36 = .ok (.goto (-18), 3) := by decide +kernel
theorem dX5_copyFrom_39 : decode cX5_copyFrom 39 = .ok (.return_, 1) := by decide +kernel
theorem dX5_copySlot_0 : decode cX5_copySlot 0 = .ok (.aload_n 0, 1) := by decide +kernel
theorem dX5_copySlot_1 : decode cX5_copySlot 1 = .ok (.getfield 9, 3) := by decide +kernel
theorem dX5_copySlot_4 : decode cX5_copySlot 4 = .ok (.iload_n 3, 1) := by decide +kernel
theorem dX5_copySlot_5 : decode cX5_copySlot 5 = .ok (.aload_n 1, 1) := by decide +kernel
theorem dX5_copySlot_6 : decode cX5_copySlot 6 = .ok (.getfield 9, 3) := by decide +kernel
theorem dX5_copySlot_9 : decode cX5_copySlot 9 = .ok (.iload_n 2, 1) := by decide +kernel
theorem dX5_copySlot_10 : decode cX5_copySlot 10 = .ok (.iaload, 1) := by decide +kernel
theorem dX5_copySlot_11 : decode cX5_copySlot 11 = .ok (.iastore, 1) := by decide +kernel
theorem dX5_copySlot_12 : decode cX5_copySlot 12 = .ok (.aload_n 0, 1) := by decide +kernel
theorem dX5_copySlot_13 : decode cX5_copySlot 13 = .ok (.getfield 15, 3) := by decide +kernel
theorem dX5_copySlot_16 : decode cX5_copySlot 16 = .ok (.iload_n 3, 1) := by decide +kernel
theorem dX5_copySlot_17 : decode cX5_copySlot 17 = .ok (.aload_n 1, 1) := by decide +kernel
theorem dX5_copySlot_18 : decode cX5_copySlot 18 = .ok (.getfield 15, 3) := by decide +kernel
theorem dX5_copySlot_21 : decode cX5_copySlot 21 = .ok (.iload_n 2, 1) := by decide +kernel
theorem dX5_copySlot_22 : decode cX5_copySlot 22 = .ok (.iaload, 1) := by decide +kernel
theorem dX5_copySlot_23 : decode cX5_copySlot 23 = .ok (.iastore, 1) := by decide +kernel
theorem dX5_copySlot_24 : decode cX5_copySlot 24 = .ok (.aload_n 0, 1) := by decide +kernel
theorem dX5_copySlot_25 : decode cX5_copySlot 25 = .ok (.getfield 18, 3) := by decide +kernel
theorem dX5_copySlot_28 : decode cX5_copySlot 28 = .ok (.iload_n 3, 1) := by decide +kernel
theorem dX5_copySlot_29 : decode cX5_copySlot 29 = .ok (.aload_n 1, 1) := by decide +kernel
theorem dX5_copySlot_30 : decode cX5_copySlot 30 = .ok (.getfield 18, 3) := by decide +kernel
theorem dX5_copySlot_33 : decode cX5_copySlot 33 = .ok (.iload_n 2, 1) := by decide +kernel
theorem dX5_copySlot_34 : decode cX5_copySlot 34 = .ok (.iaload, 1) := by decide +kernel
theorem dX5_copySlot_35 : decode cX5_copySlot 35 = .ok (.iastore, 1) := by decide +kernel
theorem dX5_copySlot_36 : decode cX5_copySlot 36 = .ok (.aload_n 0, 1) := by decide +kernel
theorem dX5_copySlot_37 : decode cX5_copySlot 37 = .ok (.getfield 21, 3) := by decide +kernel
theorem dX5_copySlot_40 : decode cX5_copySlot 40 = .ok (.iload_n 3, 1) := by decide +kernel
theorem dX5_copySlot_41 : decode cX5_copySlot 41 = .ok (.aload_n 1, 1) := by decide +kernel
theorem dX5_copySlot_42 : decode cX5_copySlot 42 = .ok (.getfield 21, 3) := by decide +kernel
theorem dX5_copySlot_45 : decode cX5_copySlot 45 = .ok (.iload_n 2, 1) := by decide +kernel
theorem dX5_copySlot_46 : decode cX5_copySlot 46 = .ok (.iaload, 1) := by decide +kernel
theorem dX5_copySlot_47 : decode cX5_copySlot 47 = .ok (.iastore, 1) := by decide +kernel
theorem dX5_copySlot_48 : decode cX5_copySlot 48 = .ok (.aload_n 0, 1) := by decide +kernel
theorem dX5_copySlot_49 : decode cX5_copySlot 49 = .ok (.getfield 24, 3) := by decide +kernel
theorem dX5_copySlot_52 : decode cX5_copySlot 52 = .ok (.iload_n 3, 1) := by decide +kernel
theorem dX5_copySlot_53 : decode cX5_copySlot 53 = .ok (.aload_n 1, 1) := by decide +kernel
theorem dX5_copySlot_54 : decode cX5_copySlot 54 = .ok (.getfield 24, 3) := by decide +kernel
theorem dX5_copySlot_57 : decode cX5_copySlot 57 = .ok (.iload_n 2, 1) := by decide +kernel
theorem dX5_copySlot_58 : decode cX5_copySlot 58 = .ok (.iaload, 1) := by decide +kernel
theorem dX5_copySlot_59 : decode cX5_copySlot 59 = .ok (.iastore, 1) := by decide +kernel
theorem dX5_copySlot_60 : decode cX5_copySlot 60 = .ok (.return_, 1) := by decide +kernel
theorem dX5_find_0 : decode cX5_find 0 = .ok (.iconst 0, 1) := by decide +kernel
theorem dX5_find_1 : decode cX5_find 1 = .ok (.istore_n 2, 1) := by decide +kernel
theorem dX5_find_2 : decode cX5_find 2 = .ok (.iload_n 2, 1) := by decide +kernel
theorem dX5_find_3 : decode cX5_find 3 = .ok (.aload_n 0, 1) := by decide +kernel
theorem dX5_find_4 : decode cX5_find 4 = .ok (.getfield 27, 3) := by decide +kernel
theorem dX5_find_7 : decode cX5_find 7 = .ok (.if_icmp .ge 21, 3) := by decide +kernel
theorem dX5_find_10 : decode cX5_find 10 = .ok (.aload_n 0, 1) := by decide +kernel
theorem dX5_find_11 : decode cX5_find 11 = .ok (.getfield 9, 3) := by decide +kernel
theorem dX5_find_14 : decode cX5_find 14 = .ok (.iload_n 2, 1) := by decide +kernel
theorem dX5_find_15 : decode cX5_find 15 = .ok (.iaload, 1) := by decide +kernel
theorem dX5_find_16 : decode cX5_find 16 = .ok (.iload_n 1, 1) := by decide +kernel
theorem dX5_find_17 : decode cX5_find 17 = .ok (.if_icmp .ne 5, 3) := by decide +kernel
theorem dX5_find_20 : decode cX5_find 20 = .ok (.iload_n 2, 1) := by decide +kernel
theorem dX5_find_21 : decode cX5_find 21 = .ok (.ireturn, 1) := by decide +kernel
theorem dX5_find_22 : decode cX5_find 22 = .ok (.iinc 2 1, 3) := by decide +kernel
theorem dX5_find_25 : decode cX5_find 25 = .ok (.goto (-23), 3) := by decide +kernel
theorem dX5_find_28 : decode cX5_find 28 = .ok (.iconst (-1), 1) := by decide +kernel
theorem dX5_find_29 : decode cX5_find 29 = .ok (.ireturn, 1) := by decide +kernel
theorem dX5_add_0 : decode cX5_add 0 = .ok (.aload_n 0, 1) := by decide +kernel
theorem dX5_add_1 : decode cX5_add 1 = .ok (.getfield 31, 3) := by decide +kernel
theorem dX5_add_4 : decode cX5_add 4 = .ok (.istore 5, 2) := by decide +kernel
theorem dX5_add_6 : decode cX5_add 6 = .ok (.aload_n 0, 1) := by decide +kernel
theorem dX5_add_7 : decode cX5_add 7 = .ok (.getfield 9, 3) := by decide +kernel
theorem dX5_add_10 : decode cX5_add 10 = .ok (.aload_n 0, 1) := by decide +kernel
theorem dX5_add_11 : decode cX5_add 11 = .ok (.getfield 27, 3) := by decide +kernel
theorem dX5_add_14 : decode cX5_add 14 = .ok (.iload 5, 2) := by decide +kernel
theorem dX5_add_16 : decode cX5_add 16 = .ok (.iastore, 1) := by decide +kernel
theorem dX5_add_17 : decode cX5_add 17 = .ok (.aload_n 0, 1) := by decide +kernel
theorem dX5_add_18 : decode cX5_add 18 = .ok (.getfield 15, 3) := by decide +kernel
theorem dX5_add_21 : decode cX5_add 21 = .ok (.aload_n 0, 1) := by decide +kernel
theorem dX5_add_22 : decode cX5_add 22 = .ok (.getfield 27, 3) := by decide +kernel
theorem dX5_add_25 : decode cX5_add 25 = .ok (.iload_n 1, 1) := by decide +kernel
theorem dX5_add_26 : decode cX5_add 26 = .ok (.iastore, 1) := by decide +kernel
theorem dX5_add_27 : decode cX5_add 27 = .ok (.aload_n 0, 1) := by decide +kernel
theorem dX5_add_28 : decode cX5_add 28 = .ok (.getfield 18, 3) := by decide +kernel
theorem dX5_add_31 : decode cX5_add 31 = .ok (.aload_n 0, 1) := by decide +kernel
theorem dX5_add_32 : decode cX5_add 32 = .ok (.getfield 27, 3) := by decide +kernel
theorem dX5_add_35 : decode cX5_add 35 = .ok (.iload_n 2, 1) := by decide +kernel
theorem dX5_add_36 : decode cX5_add 36 = .ok (.iastore, 1) := by decide +kernel
theorem dX5_add_37 : decode cX5_add 37 = .ok (.aload_n 0, 1) := by decide +kernel
theorem dX5_add_38 : decode cX5_add 38 = .ok (.getfield 21, 3) := by decide +kernel
theorem dX5_add_41 : decode cX5_add 41 = .ok (.aload_n 0, 1) := by decide +kernel
theorem dX5_add_42 : decode cX5_add 42 = .ok (.getfield 27, 3) := by decide +kernel
theorem dX5_add_45 : decode cX5_add 45 = .ok (.iload_n 3, 1) := by decide +kernel
theorem dX5_add_46 : decode cX5_add 46 = .ok (.iastore, 1) := by decide +kernel
theorem dX5_add_47 : decode cX5_add 47 = .ok (.aload_n 0, 1) := by decide +kernel
theorem dX5_add_48 : decode cX5_add 48 = .ok (.getfield 24, 3) := by decide +kernel
theorem dX5_add_51 : decode cX5_add 51 = .ok (.aload_n 0, 1) := by decide +kernel
theorem dX5_add_52 : decode cX5_add 52 = .ok (.getfield 27, 3) := by decide +kernel
theorem dX5_add_55 : decode cX5_add 55 = .ok (.iload 4, 2) := by decide +kernel
theorem dX5_add_57 : decode cX5_add 57 = .ok (.iastore, 1) := by decide +kernel
theorem dX5_add_58 : decode cX5_add 58 = .ok (.aload_n 0, 1) := by decide +kernel
theorem dX5_add_59 : decode cX5_add 59 = .ok (.dup, 1) := by decide +kernel
theorem dX5_add_60 : decode cX5_add 60 = .ok (.getfield 27, 3) := by decide +kernel
theorem dX5_add_63 : decode cX5_add 63 = .ok (.iconst 1, 1) := by decide +kernel
theorem dX5_add_64 : decode cX5_add 64 = .ok (.iadd, 1) := by decide +kernel
theorem dX5_add_65 : decode cX5_add 65 = .ok (.putfield 27, 3) := by decide +kernel
theorem dX5_add_68 : decode cX5_add 68 = .ok (.aload_n 0, 1) := by decide +kernel
theorem dX5_add_69 : decode cX5_add 69 = .ok (.dup, 1) := by decide +kernel
theorem dX5_add_70 : decode cX5_add 70 = .ok (.getfield 31, 3) := by decide +kernel
theorem dX5_add_73 : decode cX5_add 73 = .ok (.iconst 1, 1) := by decide +kernel
theorem dX5_add_74 : decode cX5_add 74 = .ok (.iadd, 1) := by decide +kernel
theorem dX5_add_75 : decode cX5_add 75 = .ok (.putfield 31, 3) := by decide +kernel
theorem dX5_add_78 : decode cX5_add 78 = .ok (.iload 5, 2) := by decide +kernel
theorem dX5_add_80 : decode cX5_add 80 = .ok (.ireturn, 1) := by decide +kernel
theorem dX5_remove_0 : decode cX5_remove 0 = .ok (.iconst 0, 1) := by decide +kernel
theorem dX5_remove_1 : decode cX5_remove 1 = .ok (.istore_n 2, 1) := by decide +kernel
theorem dX5_remove_2 : decode cX5_remove 2 = .ok (.iconst 0, 1) := by decide +kernel
theorem dX5_remove_3 : decode cX5_remove 3 = .ok (.istore_n 3, 1) := by decide +kernel
theorem dX5_remove_4 : decode cX5_remove 4 = .ok (.iconst 0, 1) := by decide +kernel
theorem dX5_remove_5 : decode cX5_remove 5 = .ok (.istore 4, 2) := by decide +kernel
theorem dX5_remove_7 : decode cX5_remove 7 = .ok (.iload 4, 2) := by decide +kernel
theorem dX5_remove_9 : decode cX5_remove 9 = .ok (.aload_n 0, 1) := by decide +kernel
theorem dX5_remove_10 : decode cX5_remove 10 = .ok (.getfield 27, 3) := by decide +kernel
theorem dX5_remove_13 : decode cX5_remove 13 = .ok (.if_icmp .ge 42, 3) := by decide +kernel
theorem dX5_remove_16 : decode cX5_remove 16 = .ok (.aload_n 0, 1) := by decide +kernel
theorem dX5_remove_17 : decode cX5_remove 17 = .ok (.getfield 9, 3) := by decide +kernel
theorem dX5_remove_20 : decode cX5_remove 20 = .ok (.iload 4, 2) := by decide +kernel
theorem dX5_remove_22 : decode cX5_remove 22 = .ok (.iaload, 1) := by decide +kernel
theorem dX5_remove_23 : decode cX5_remove 23 = .ok (.iload_n 1, 1) := by decide +kernel
theorem dX5_remove_24 : decode cX5_remove 24 = .ok (.if_icmp .ne 14, 3) := by decide +kernel
theorem dX5_remove_27 : decode cX5_remove 27 = .ok (.aload_n 0, 1) := by decide +kernel
theorem dX5_remove_28 : decode cX5_remove 28 = .ok (.getfield 21, 3) := by decide +kernel
theorem dX5_remove_31 : decode cX5_remove 31 = .ok (.iload 4, 2) := by decide +kernel
theorem dX5_remove_33 : decode cX5_remove 33 = .ok (.iaload, 1) := by decide +kernel
theorem dX5_remove_34 : decode cX5_remove 34 = .ok (.istore_n 2, 1) := by decide +kernel
theorem dX5_remove_35 : decode cX5_remove 35 = .ok (.goto 14, 3) := by decide +kernel
theorem dX5_remove_38 : decode cX5_remove 38 = .ok (.aload_n 0, 1) := by decide +kernel
theorem dX5_remove_39 : decode cX5_remove 39 = .ok (.aload_n 0, 1) := by decide +kernel
theorem dX5_remove_40 : decode cX5_remove 40 = .ok (.iload 4, 2) := by decide +kernel
theorem dX5_remove_42 : decode cX5_remove 42 = .ok (.iload_n 3, 1) := by decide +kernel
theorem dX5_remove_43 : decode cX5_remove 43 = .ok (.invokevirtual 34, 3) := by decide +kernel
theorem dX5_remove_46 : decode cX5_remove 46 = .ok (.iinc 3 1, 3) := by decide +kernel
theorem dX5_remove_49 : decode cX5_remove 49 = .ok (.iinc 4 1, 3) := by decide +kernel
theorem dX5_remove_52 : decode cX5_remove 52 = .ok (.goto (-45), 3) := by decide +kernel
theorem dX5_remove_55 : decode cX5_remove 55 = .ok (.aload_n 0, 1) := by decide +kernel
theorem dX5_remove_56 : decode cX5_remove 56 = .ok (.iload_n 3, 1) := by decide +kernel
theorem dX5_remove_57 : decode cX5_remove 57 = .ok (.putfield 27, 3) := by decide +kernel
theorem dX5_remove_60 : decode cX5_remove 60 = .ok (.iload_n 2, 1) := by decide +kernel
theorem dX5_remove_61 : decode cX5_remove 61 = .ok (.ireturn, 1) := by decide +kernel
theorem dX5_idAt_0 : decode cX5_idAt 0 = .ok (.iconst (-1), 1) := by decide +kernel
theorem dX5_idAt_1 : decode cX5_idAt 1 = .ok (.istore_n 2, 1) := by decide +kernel
theorem dX5_idAt_2 : decode cX5_idAt 2 = .ok (.iconst 0, 1) := by decide +kernel
theorem dX5_idAt_3 : decode cX5_idAt 3 = .ok (.istore_n 3, 1) := by decide +kernel
theorem dX5_idAt_4 : decode cX5_idAt 4 = .ok (.iload_n 3, 1) := by decide +kernel
theorem dX5_idAt_5 : decode cX5_idAt 5 = .ok (.aload_n 0, 1) := by decide +kernel
theorem dX5_idAt_6 : decode cX5_idAt 6 = .ok (.getfield 27, 3) := by decide +kernel
theorem dX5_idAt_9 : decode cX5_idAt 9 = .ok (.if_icmp .ge 25, 3) := by decide +kernel
theorem dX5_idAt_12 : decode cX5_idAt 12 = .ok (.aload_n 0, 1) := by decide +kernel
theorem dX5_idAt_13 : decode cX5_idAt 13 = .ok (.iload_n 3, 1) := by decide +kernel
theorem dX5_idAt_14 : decode cX5_idAt 14 = .ok (.invokevirtual 38, 3) := by decide +kernel
theorem dX5_idAt_17 : decode cX5_idAt 17 = .ok (.iload_n 1, 1) := by decide +kernel
theorem dX5_idAt_18 : decode cX5_idAt 18 = .ok (.if_icmp .ne 10, 3) := by decide +kernel
theorem dX5_idAt_21 : decode cX5_idAt 21 = .ok (.aload_n 0, 1) := by decide +kernel
theorem dX5_idAt_22 : decode cX5_idAt 22 = .ok (.getfield 9, 3) := by decide +kernel
theorem dX5_idAt_25 : decode cX5_idAt 25 = .ok (.iload_n 3, 1) := by decide +kernel
theorem dX5_idAt_26 : decode cX5_idAt 26 = .ok (.iaload, 1) := by decide +kernel
theorem dX5_idAt_27 : decode cX5_idAt 27 = .ok (.istore_n 2, 1) := by decide +kernel
theorem dX5_idAt_28 : decode cX5_idAt 28 = .ok (.iinc 3 1, 3) := by decide +kernel
theorem dX5_idAt_31 : decode cX5_idAt 31 = .ok (.goto (-27), 3) := by decide +kernel
theorem dX5_idAt_34 : decode cX5_idAt 34 = .ok (.iload_n 2, 1) := by decide +kernel
theorem dX5_idAt_35 : decode cX5_idAt 35 = .ok (.ireturn, 1) := by decide +kernel
theorem dX5_positionOf_0 : decode cX5_positionOf 0 = .ok (.iconst 0, 1) := by decide +kernel
theorem dX5_positionOf_1 : decode cX5_positionOf 1 = .ok (.istore_n 2, 1) := by decide +kernel
theorem dX5_positionOf_2 : decode cX5_positionOf 2 = .ok (.iconst 0, 1) := by decide +kernel
theorem dX5_positionOf_3 : decode cX5_positionOf 3 = .ok (.istore_n 3, 1) := by decide +kernel
theorem dX5_positionOf_4 : decode cX5_positionOf 4 = .ok (.iload_n 3, 1) := by decide +kernel
theorem dX5_positionOf_5 : decode cX5_positionOf 5 = .ok (.aload_n 0, 1) := by decide +kernel
theorem dX5_positionOf_6 : decode cX5_positionOf 6 = .ok (.getfield 27, 3) := by decide +kernel
theorem dX5_positionOf_9 : decode cX5_positionOf 9 = .ok (.if_icmp .ge 71, 3) := by decide +kernel
theorem dX5_positionOf_12 : decode cX5_positionOf 12 = .ok (.aload_n 0, 1) := by decide +kernel
theorem dX5_positionOf_13 : decode cX5_positionOf 13 = .ok (.getfield 24, 3) := by decide +kernel
theorem dX5_positionOf_16 : decode cX5_positionOf 16 = .ok (.iload_n 3, 1) := by decide +kernel
theorem dX5_positionOf_17 : decode cX5_positionOf 17 = .ok (.iaload, 1) := by decide +kernel
theorem dX5_positionOf_18 : decode cX5_positionOf 18 = .ok (.aload_n 0, 1) := by decide +kernel
theorem dX5_positionOf_19 : decode cX5_positionOf 19 = .ok (.getfield 24, 3) := by decide +kernel
theorem dX5_positionOf_22 : decode cX5_positionOf 22 = .ok (.iload_n 1, 1) := by decide +kernel
theorem dX5_positionOf_23 : decode cX5_positionOf 23 = .ok (.iaload, 1) := by decide +kernel
theorem dX5_positionOf_24 : decode cX5_positionOf 24 = .ok (.if_icmp .ge 7, 3) := by decide +kernel
theorem dX5_positionOf_27 : decode cX5_positionOf 27 = .ok (.iconst 1, 1) := by decide +kernel
theorem dX5_positionOf_28 : decode cX5_positionOf 28 = .ok (.goto 4, 3) := by decide +kernel
theorem dX5_positionOf_31 : decode cX5_positionOf 31 = .ok (.iconst 0, 1) := by decide +kernel
theorem dX5_positionOf_32 : decode cX5_positionOf 32 = .ok (.istore 4, 2) := by decide +kernel
theorem dX5_positionOf_34 : decode cX5_positionOf 34 = .ok (.aload_n 0, 1) := by decide +kernel
theorem dX5_positionOf_35 : decode cX5_positionOf 35 = .ok (.getfield 24, 3) := by decide +kernel
theorem dX5_positionOf_38 : decode cX5_positionOf 38 = .ok (.iload_n 3, 1) := by decide +kernel
theorem dX5_positionOf_39 : decode cX5_positionOf 39 = .ok (.iaload, 1) := by decide +kernel
theorem dX5_positionOf_40 : decode cX5_positionOf 40 = .ok (.aload_n 0, 1) := by decide +kernel
theorem dX5_positionOf_41 : decode cX5_positionOf 41 = .ok (.getfield 24, 3) := by decide +kernel
theorem dX5_positionOf_44 : decode cX5_positionOf 44 = .ok (.iload_n 1, 1) := by decide +kernel
theorem dX5_positionOf_45 : decode cX5_positionOf 45 = .ok (.iaload, 1) := by decide +kernel
theorem dX5_positionOf_46 : decode cX5_positionOf 46 = .ok (.if_icmp .ne 12, 3) := by decide +kernel
theorem dX5_positionOf_49 : decode cX5_positionOf 49 = .ok (.iload_n 3, 1) := by decide +kernel
theorem dX5_positionOf_50 : decode cX5_positionOf 50 = .ok (.iload_n 1, 1) := by decide +kernel
theorem dX5_positionOf_51 : decode cX5_positionOf 51 = .ok (.if_icmp .ge 7, 3) := by decide +kernel
theorem dX5_positionOf_54 : decode cX5_positionOf 54 = .ok (.iconst 1, 1) := by decide +kernel
theorem dX5_positionOf_55 : decode cX5_positionOf 55 = .ok (.goto 4, 3) := by decide +kernel
theorem dX5_positionOf_58 : decode cX5_positionOf 58 = .ok (.iconst 0, 1) := by decide +kernel
theorem dX5_positionOf_59 : decode cX5_positionOf 59 = .ok (.istore 5, 2) := by decide +kernel
theorem dX5_positionOf_61 : decode cX5_positionOf 61 = .ok (.iload 4, 2) := by decide +kernel
theorem dX5_positionOf_63 : decode cX5_positionOf 63 = .ok (.ifCond .ne 8, 3) := by decide +kernel
theorem dX5_positionOf_66 : decode cX5_positionOf 66 = .ok (.iload 5, 2) := by decide +kernel
theorem dX5_positionOf_68 : decode cX5_positionOf 68 = .ok (.ifCond .eq 6, 3) := by decide +kernel
theorem dX5_positionOf_71 : decode cX5_positionOf 71 = .ok (.iinc 2 1, 3) := by decide +kernel
theorem dX5_positionOf_74 : decode cX5_positionOf 74 = .ok (.iinc 3 1, 3) := by decide +kernel
theorem dX5_positionOf_77 : decode cX5_positionOf 77 = .ok (.goto (-73), 3) := by decide +kernel
theorem dX5_positionOf_80 : decode cX5_positionOf 80 = .ok (.iload_n 2, 1) := by decide +kernel
theorem dX5_positionOf_81 : decode cX5_positionOf 81 = .ok (.ireturn, 1) := by decide +kernel
theorem dX5_net_0 : decode cX5_net 0 = .ok (.iconst 0, 1) := by decide +kernel
theorem dX5_net_1 : decode cX5_net 1 = .ok (.istore_n 2, 1) := by decide +kernel
theorem dX5_net_2 : decode cX5_net 2 = .ok (.iconst 0, 1) := by decide +kernel
theorem dX5_net_3 : decode cX5_net 3 = .ok (.istore_n 3, 1) := by decide +kernel
theorem dX5_net_4 : decode cX5_net 4 = .ok (.iload_n 3, 1) := by decide +kernel
theorem dX5_net_5 : decode cX5_net 5 = .ok (.aload_n 0, 1) := by decide +kernel
theorem dX5_net_6 : decode cX5_net 6 = .ok (.getfield 27, 3) := by decide +kernel
theorem dX5_net_9 : decode cX5_net 9 = .ok (.if_icmp .ge 47, 3) := by decide +kernel
theorem dX5_net_12 : decode cX5_net 12 = .ok (.aload_n 0, 1) := by decide +kernel
theorem dX5_net_13 : decode cX5_net 13 = .ok (.getfield 18, 3) := by decide +kernel
theorem dX5_net_16 : decode cX5_net 16 = .ok (.iload_n 3, 1) := by decide +kernel
theorem dX5_net_17 : decode cX5_net 17 = .ok (.iaload, 1) := by decide +kernel
theorem dX5_net_18 : decode cX5_net 18 = .ok (.iload_n 1, 1) := by decide +kernel
theorem dX5_net_19 : decode cX5_net 19 = .ok (.if_icmp .ne 12, 3) := by decide +kernel
theorem dX5_net_22 : decode cX5_net 22 = .ok (.iload_n 2, 1) := by decide +kernel
theorem dX5_net_23 : decode cX5_net 23 = .ok (.aload_n 0, 1) := by decide +kernel
theorem dX5_net_24 : decode cX5_net 24 = .ok (.getfield 21, 3) := by decide +kernel
theorem dX5_net_27 : decode cX5_net 27 = .ok (.iload_n 3, 1) := by decide +kernel
theorem dX5_net_28 : decode cX5_net 28 = .ok (.iaload, 1) := by decide +kernel
theorem dX5_net_29 : decode cX5_net 29 = .ok (.iadd, 1) := by decide +kernel
theorem dX5_net_30 : decode cX5_net 30 = .ok (.istore_n 2, 1) := by decide +kernel
theorem dX5_net_31 : decode cX5_net 31 = .ok (.aload_n 0, 1) := by decide +kernel
theorem dX5_net_32 : decode cX5_net 32 = .ok (.getfield 15, 3) := by decide +kernel
theorem dX5_net_35 : decode cX5_net 35 = .ok (.iload_n 3, 1) := by decide +kernel
theorem dX5_net_36 : decode cX5_net 36 = .ok (.iaload, 1) := by decide +kernel
theorem dX5_net_37 : decode cX5_net 37 = .ok (.iload_n 1, 1) := by decide +kernel
theorem dX5_net_38 : decode cX5_net 38 = .ok (.if_icmp .ne 12, 3) := by decide +kernel
theorem dX5_net_41 : decode cX5_net 41 = .ok (.iload_n 2, 1) := by decide +kernel
theorem dX5_net_42 : decode cX5_net 42 = .ok (.aload_n 0, 1) := by decide +kernel
theorem dX5_net_43 : decode cX5_net 43 = .ok (.getfield 21, 3) := by decide +kernel
theorem dX5_net_46 : decode cX5_net 46 = .ok (.iload_n 3, 1) := by decide +kernel
theorem dX5_net_47 : decode cX5_net 47 = .ok (.iaload, 1) := by decide +kernel
theorem dX5_net_48 : decode cX5_net 48 = .ok (.isub, 1) := by decide +kernel
theorem dX5_net_49 : decode cX5_net 49 = .ok (.istore_n 2, 1) := by decide +kernel
theorem dX5_net_50 : decode cX5_net 50 = .ok (.iinc 3 1, 3) := by decide +kernel
theorem dX5_net_53 : decode cX5_net 53 = .ok (.goto (-49), 3) := by decide +kernel
theorem dX5_net_56 : decode cX5_net 56 = .ok (.iload_n 2, 1) := by decide +kernel
theorem dX5_net_57 : decode cX5_net 57 = .ok (.ireturn, 1) := by decide +kernel
theorem dX5_connect_0 : decode cX5_connect 0 = .ok (.iconst 0, 1) := by decide +kernel
theorem dX5_connect_1 : decode cX5_connect 1 = .ok (.istore_n 3, 1) := by decide +kernel
theorem dX5_connect_2 : decode cX5_connect 2 = .ok (.iconst 0, 1) := by decide +kernel
theorem dX5_connect_3 : decode cX5_connect 3 = .ok (.istore 4, 2) := by decide +kernel
theorem dX5_connect_5 : decode cX5_connect 5 = .ok (.iload 4, 2) := by decide +kernel
theorem dX5_connect_7 : decode cX5_connect 7 = .ok (.bipush 8, 2) := by decide +kernel
theorem dX5_connect_9 : decode cX5_connect 9 = .ok (.if_icmp .ge 64, 3) := by decide +kernel
theorem dX5_connect_12 : decode cX5_connect 12 = .ok (.iconst 0, 1) := by decide +kernel
theorem dX5_connect_13 : decode cX5_connect 13 = .ok (.istore 5, 2) := by decide +kernel
theorem dX5_connect_15 : decode cX5_connect 15 = .ok (.iload 5, 2) := by decide +kernel
theorem dX5_connect_17 : decode cX5_connect 17 = .ok (.aload_n 0, 1) := by decide +kernel
theorem dX5_connect_18 : decode cX5_connect 18 = .ok (.getfield 27, 3) := by decide +kernel
theorem dX5_connect_21 : decode cX5_connect 21 = .ok (.if_icmp .ge 46, 3) := by decide +kernel
theorem dX5_connect_24 : decode cX5_connect 24 = .ok (.aload_n 0, 1) := by decide +kernel
theorem dX5_connect_25 : decode cX5_connect 25 = .ok (.getfield 15, 3) := by decide +kernel
theorem dX5_connect_28 : decode cX5_connect 28 = .ok (.iload 5, 2) := by decide +kernel
theorem dX5_connect_30 : decode cX5_connect 30 = .ok (.iaload, 1) := by decide +kernel
theorem dX5_connect_31 : decode cX5_connect 31 = .ok (.istore 6, 2) := by decide +kernel
theorem dX5_connect_33 : decode cX5_connect 33 = .ok (.iload 6, 2) := by decide +kernel
theorem dX5_connect_35 : decode cX5_connect 35 = .ok (.iload_n 1, 1) := by decide +kernel
theorem dX5_connect_36 : decode cX5_connect 36 = .ok (.if_icmp .eq 13, 3) := by decide +kernel
theorem dX5_connect_39 : decode cX5_connect 39 = .ok (.iload_n 3, 1) := by decide +kernel
theorem dX5_connect_40 : decode cX5_connect 40 = .ok (.iload 6, 2) := by decide +kernel
theorem dX5_connect_42 : decode cX5_connect 42 = .ok (.ishr, 1) := by decide +kernel
theorem dX5_connect_43 : decode cX5_connect 43 = .ok (.iconst 1, 1) := by decide +kernel
theorem dX5_connect_44 : decode cX5_connect 44 = .ok (.iand, 1) := by decide +kernel
theorem dX5_connect_45 : decode cX5_connect 45 = .ok (.iconst 1, 1) := by decide +kernel
theorem dX5_connect_46 : decode cX5_connect 46 = .ok (.if_icmp .ne 15, 3) := by decide +kernel
theorem dX5_connect_49 : decode cX5_connect 49 = .ok (.iload_n 3, 1) := by decide +kernel
theorem dX5_connect_50 : decode cX5_connect 50 = .ok (.iconst 1, 1) := by decide +kernel
theorem dX5_connect_51 : decode cX5_connect 51 = .ok (.aload_n 0, 1) := by decide +kernel
theorem dX5_connect_52 : decode cX5_connect 52 = .ok (.getfield 18, 3) := by decide +kernel
theorem dX5_connect_55 : decode cX5_connect 55 = .ok (.iload 5, 2) := by decide +kernel
theorem dX5_connect_57 : decode cX5_connect 57 = .ok (.iaload, 1) := by decide +kernel
theorem dX5_connect_58 : decode cX5_connect 58 = .ok (.ishl, 1) := by decide +kernel
theorem dX5_connect_59 : decode cX5_connect 59 = .ok (.ior, 1) := by decide +kernel
theorem dX5_connect_60 : decode cX5_connect 60 = .ok (.istore_n 3, 1) := by decide +kernel
theorem dX5_connect_61 : decode cX5_connect 61 = .ok (.iinc 5 1, 3) := by decide +kernel
theorem dX5_connect_64 : decode cX5_connect 64 = .ok (.goto (-49), 3) := by decide +kernel
theorem dX5_connect_67 : decode cX5_connect 67 = .ok (.iinc 4 1, 3) := by decide +kernel
theorem dX5_connect_70 : decode cX5_connect 70 = .ok (.goto (-65), 3) := by decide +kernel
theorem dX5_connect_73 : decode cX5_connect 73 = .ok (.iload_n 3, 1) := by decide +kernel
theorem dX5_connect_74 : decode cX5_connect 74 = .ok (.iload_n 2, 1) := by decide +kernel
theorem dX5_connect_75 : decode cX5_connect 75 = .ok (.ishr, 1) := by decide +kernel
theorem dX5_connect_76 : decode cX5_connect 76 = .ok (.iconst 1, 1) := by decide +kernel
theorem dX5_connect_77 : decode cX5_connect 77 = .ok (.iand, 1) := by decide +kernel
theorem dX5_connect_78 : decode cX5_connect 78 = .ok (.iconst 1, 1) := by decide +kernel
theorem dX5_connect_79 : decode cX5_connect 79 = .ok (.if_icmp .ne 7, 3) := by decide +kernel
theorem dX5_connect_82 : decode cX5_connect 82 = .ok (.iconst 1, 1) := by decide +kernel
theorem dX5_connect_83 : decode cX5_connect 83 = .ok (.goto 4, 3) := by decide +kernel
theorem dX5_connect_86 : decode cX5_connect 86 = .ok (.iconst 0, 1) := by decide +kernel
theorem dX5_connect_87 : decode cX5_connect 87 = .ok (.ireturn, 1) := by decide +kernel
