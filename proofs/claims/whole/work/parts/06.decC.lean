theorem dX7_init_0 : decode cX7_init 0 = .ok (.aload_n 0, 1) := by decide +kernel
theorem dX7_init_1 : decode cX7_init 1 = .ok (.invokespecial 3, 3) := by decide +kernel
theorem dX7_init_4 : decode cX7_init 4 = .ok (.aload_n 0, 1) := by decide +kernel
theorem dX7_init_5 : decode cX7_init 5 = .ok (.bipush 124, 2) := by decide +kernel
theorem dX7_init_7 : decode cX7_init 7 = .ok (.newarray .int, 2) := by decide +kernel
theorem dX7_init_9 : decode cX7_init 9 = .ok (.putfield 9, 3) := by decide +kernel
theorem dX7_init_12 : decode cX7_init 12 = .ok (.aload_n 0, 1) := by decide +kernel
theorem dX7_init_13 : decode cX7_init 13 = .ok (.bipush 124, 2) := by decide +kernel
theorem dX7_init_15 : decode cX7_init 15 = .ok (.newarray .int, 2) := by decide +kernel
theorem dX7_init_17 : decode cX7_init 17 = .ok (.putfield 13, 3) := by decide +kernel
theorem dX7_init_20 : decode cX7_init 20 = .ok (.aload_n 0, 1) := by decide +kernel
theorem dX7_init_21 : decode cX7_init 21 = .ok (.bipush 124, 2) := by decide +kernel
theorem dX7_init_23 : decode cX7_init 23 = .ok (.newarray .int, 2) := by decide +kernel
theorem dX7_init_25 : decode cX7_init 25 = .ok (.putfield 16, 3) := by decide +kernel
theorem dX7_init_28 : decode cX7_init 28 = .ok (.aload_n 0, 1) := by decide +kernel
theorem dX7_init_29 : decode cX7_init 29 = .ok (.bipush 124, 2) := by decide +kernel
theorem dX7_init_31 : decode cX7_init 31 = .ok (.newarray .int, 2) := by decide +kernel
theorem dX7_init_33 : decode cX7_init 33 = .ok (.putfield 19, 3) := by decide +kernel
theorem dX7_init_36 : decode cX7_init 36 = .ok (.aload_n 0, 1) := by decide +kernel
theorem dX7_init_37 : decode cX7_init 37 = .ok (.sipush 992, 3) := by decide +kernel
theorem dX7_init_40 : decode cX7_init 40 = .ok (.newarray .int, 2) := by decide +kernel
theorem dX7_init_42 : decode cX7_init 42 = .ok (.putfield 22, 3) := by decide +kernel
theorem dX7_init_45 : decode cX7_init 45 = .ok (.aload_n 0, 1) := by decide +kernel
theorem dX7_init_46 : decode cX7_init 46 = .ok (.iconst (-1), 1) := by decide +kernel
theorem dX7_init_47 : decode cX7_init 47 = .ok (.putfield 25, 3) := by decide +kernel
theorem dX7_init_50 : decode cX7_init 50 = .ok (.aload_n 0, 1) := by decide +kernel
theorem dX7_init_51 : decode cX7_init 51 = .ok (.iconst (-1), 1) := by decide +kernel
theorem dX7_init_52 : decode cX7_init 52 = .ok (.putfield 29, 3) := by decide +kernel
theorem dX7_init_55 : decode cX7_init 55 = .ok (.aload_n 0, 1) := by decide +kernel
theorem dX7_init_56 : decode cX7_init 56 = .ok (.iconst (-1), 1) := by decide +kernel
theorem dX7_init_57 : decode cX7_init 57 = .ok (.putfield 32, 3) := by decide +kernel
theorem dX7_init_60 : decode cX7_init 60 = .ok (.aload_n 0, 1) := by decide +kernel
theorem dX7_init_61 : decode cX7_init 61 = .ok (.bipush 60, 2) := by decide +kernel
theorem dX7_init_63 : decode cX7_init 63 = .ok (.newarray .int, 2) := by decide +kernel
theorem dX7_init_65 : decode cX7_init 65 = .ok (.putfield 35, 3) := by decide +kernel
theorem dX7_init_68 : decode cX7_init 68 = .ok (.aload_n 0, 1) := by decide +kernel
theorem dX7_init_69 : decode cX7_init 69 = .ok (.bipush 40, 2) := by decide +kernel
theorem dX7_init_71 : decode cX7_init 71 = .ok (.newarray .int, 2) := by decide +kernel
theorem dX7_init_73 : decode cX7_init 73 = .ok (.putfield 38, 3) := by decide +kernel
theorem dX7_init_76 : decode cX7_init 76 = .ok (.aload_n 0, 1) := by decide +kernel
theorem dX7_init_77 : decode cX7_init 77 = .ok (.sipush 150, 3) := by decide +kernel
theorem dX7_init_80 : decode cX7_init 80 = .ok (.newarray .int, 2) := by decide +kernel
theorem dX7_init_82 : decode cX7_init 82 = .ok (.putfield 41, 3) := by decide +kernel
theorem dX7_init_85 : decode cX7_init 85 = .ok (.return_, 1) := by decide +kernel
theorem dX7_thrown_0 : decode cX7_thrown 0 = .ok (.aload_n 0, 1) := by decide +kernel
theorem dX7_thrown_1 : decode cX7_thrown 1 = .ok (.getfield 44, 3) := by decide +kernel
theorem dX7_thrown_4 : decode cX7_thrown 4 = .ok (.ireturn, 1) := by decide +kernel
theorem dX7_isIn_0 : decode cX7_isIn 0 = .ok (.iload_n 0, 1) := by decide +kernel
theorem dX7_isIn_1 : decode cX7_isIn 1 = .ok (.iload_n 1, 1) := by decide +kernel
theorem dX7_isIn_2 : decode cX7_isIn 2 = .ok (.if_icmp .lt 12, 3) := by decide +kernel
theorem dX7_isIn_5 : decode cX7_isIn 5 = .ok (.iload_n 0, 1) := by decide +kernel
theorem dX7_isIn_6 : decode cX7_isIn 6 = .ok (.iload_n 2, 1) := by decide +kernel
theorem dX7_isIn_7 : decode cX7_isIn 7 = .ok (.if_icmp .gt 7, 3) := by decide +kernel
theorem dX7_isIn_10 : decode cX7_isIn 10 = .ok (.iconst 1, 1) := by decide +kernel
theorem dX7_isIn_11 : decode cX7_isIn 11 = .ok (.goto 4, 3) := by decide +kernel
theorem dX7_isIn_14 : decode cX7_isIn 14 = .ok (.iconst 0, 1) := by decide +kernel
theorem dX7_isIn_15 : decode cX7_isIn 15 = .ok (.ireturn, 1) := by decide +kernel
theorem dX7_copies_0 : decode cX7_copies 0 = .ok (.iconst 0, 1) := by decide +kernel
theorem dX7_copies_1 : decode cX7_copies 1 = .ok (.istore 4, 2) := by decide +kernel
theorem dX7_copies_3 : decode cX7_copies 3 = .ok (.iload 4, 2) := by decide +kernel
theorem dX7_copies_5 : decode cX7_copies 5 = .ok (.bipush 124, 2) := by decide +kernel
theorem dX7_copies_7 : decode cX7_copies 7 = .ok (.if_icmp .ge 21, 3) := by decide +kernel
theorem dX7_copies_10 : decode cX7_copies 10 = .ok (.aload_n 2, 1) := by decide +kernel
theorem dX7_copies_11 : decode cX7_copies 11 = .ok (.iload_n 3, 1) := by decide +kernel
theorem dX7_copies_12 : decode cX7_copies 12 = .ok (.iload 4, 2) := by decide +kernel
theorem dX7_copies_14 : decode cX7_copies 14 = .ok (.iadd, 1) := by decide +kernel
theorem dX7_copies_15 : decode cX7_copies 15 = .ok (.aload_n 0, 1) := by decide +kernel
theorem dX7_copies_16 : decode cX7_copies 16 = .ok (.iload_n 1, 1) := by decide +kernel
theorem dX7_copies_17 : decode cX7_copies 17 = .ok (.iload 4, 2) := by decide +kernel
theorem dX7_copies_19 : decode cX7_copies 19 = .ok (.iadd, 1) := by decide +kernel
theorem dX7_copies_20 : decode cX7_copies 20 = .ok (.iaload, 1) := by decide +kernel
theorem dX7_copies_21 : decode cX7_copies 21 = .ok (.iastore, 1) := by decide +kernel
theorem dX7_copies_22 : decode cX7_copies 22 = .ok (.iinc 4 1, 3) := by decide +kernel
theorem dX7_copies_25 : decode cX7_copies 25 = .ok (.goto (-22), 3) := by decide +kernel
theorem dX7_copies_28 : decode cX7_copies 28 = .ok (.return_, 1) := by decide +kernel
theorem dX7_holds_0 : decode cX7_holds 0 = .ok (.aload_n 0, 1) := by decide +kernel
theorem dX7_holds_1 : decode cX7_holds 1 = .ok (.iload_n 1, 1) := by decide +kernel
theorem dX7_holds_2 : decode cX7_holds 2 = .ok (.ifCond .ne 7, 3) := by decide +kernel
theorem dX7_holds_5 : decode cX7_holds 5 = .ok (.iconst 1, 1) := by decide +kernel
theorem dX7_holds_6 : decode cX7_holds 6 = .ok (.goto 29, 3) := by decide +kernel
theorem dX7_holds_9 : decode cX7_holds 9 = .ok (.iload_n 2, 1) := by decide +kernel
theorem dX7_holds_10 : decode cX7_holds 10 = .ok (.ifCond .ne 7, 3) := by decide +kernel
theorem dX7_holds_13 : decode cX7_holds 13 = .ok (.iconst 2, 1) := by decide +kernel
theorem dX7_holds_14 : decode cX7_holds 14 = .ok (.goto 21, 3) := by decide +kernel
theorem dX7_holds_17 : decode cX7_holds 17 = .ok (.iload_n 3, 1) := by decide +kernel
theorem dX7_holds_18 : decode cX7_holds 18 = .ok (.ifCond .ne 7, 3) := by decide +kernel
theorem dX7_holds_21 : decode cX7_holds 21 = .ok (.iconst 3, 1) := by decide +kernel
theorem dX7_holds_22 : decode cX7_holds 22 = .ok (.goto 13, 3) := by decide +kernel
theorem dX7_holds_25 : decode cX7_holds 25 = .ok (.iload 4, 2) := by decide +kernel
theorem dX7_holds_27 : decode cX7_holds 27 = .ok (.ifCond .ne 7, 3) := by decide +kernel
theorem dX7_holds_30 : decode cX7_holds 30 = .ok (.iconst 4, 1) := by decide +kernel
theorem dX7_holds_31 : decode cX7_holds 31 = .ok (.goto 4, 3) := by decide +kernel
theorem dX7_holds_34 : decode cX7_holds 34 = .ok (.iconst 0, 1) := by decide +kernel
theorem dX7_holds_35 : decode cX7_holds 35 = .ok (.putfield 44, 3) := by decide +kernel
theorem dX7_holds_38 : decode cX7_holds 38 = .ok (.aload_n 0, 1) := by decide +kernel
theorem dX7_holds_39 : decode cX7_holds 39 = .ok (.getfield 44, 3) := by decide +kernel
theorem dX7_holds_42 : decode cX7_holds 42 = .ok (.ifCond .ne 7, 3) := by decide +kernel
theorem dX7_holds_45 : decode cX7_holds 45 = .ok (.iconst 1, 1) := by decide +kernel
theorem dX7_holds_46 : decode cX7_holds 46 = .ok (.goto 4, 3) := by decide +kernel
theorem dX7_holds_49 : decode cX7_holds 49 = .ok (.iconst 0, 1) := by decide +kernel
theorem dX7_holds_50 : decode cX7_holds 50 = .ok (.ireturn, 1) := by decide +kernel
theorem dX7_goes_0 : decode cX7_goes 0 = .ok (.aload_n 0, 1) := by decide +kernel
theorem dX7_goes_1 : decode cX7_goes 1 = .ok (.iload_n 1, 1) := by decide +kernel
theorem dX7_goes_2 : decode cX7_goes 2 = .ok (.iconst 1, 1) := by decide +kernel
theorem dX7_goes_3 : decode cX7_goes 3 = .ok (.iconst 1, 1) := by decide +kernel
theorem dX7_goes_4 : decode cX7_goes 4 = .ok (.iconst 1, 1) := by decide +kernel
theorem dX7_goes_5 : decode cX7_goes 5 = .ok (.invokevirtual 47, 3) := by decide +kernel
theorem dX7_goes_8 : decode cX7_goes 8 = .ok (.ireturn, 1) := by decide +kernel
theorem dX7_begins_0 : decode cX7_begins 0 = .ok (.aload_n 0, 1) := by decide +kernel
theorem dX7_begins_1 : decode cX7_begins 1 = .ok (.getfield 9, 3) := by decide +kernel
theorem dX7_begins_4 : decode cX7_begins 4 = .ok (.iconst 0, 1) := by decide +kernel
theorem dX7_begins_5 : decode cX7_begins 5 = .ok (.aload_n 0, 1) := by decide +kernel
theorem dX7_begins_6 : decode cX7_begins 6 = .ok (.getfield 13, 3) := by decide +kernel
theorem dX7_begins_9 : decode cX7_begins 9 = .ok (.iconst 0, 1) := by decide +kernel
theorem dX7_begins_10 : decode cX7_begins 10 = .ok (.invokestatic 51, 3) := by decide +kernel
theorem dX7_begins_13 : decode cX7_begins 13 = .ok (.return_, 1) := by decide +kernel
theorem dX7_remembers_0 : decode cX7_remembers 0 = .ok (.aload_n 0, 1) := by decide +kernel
theorem dX7_remembers_1 : decode cX7_remembers 1 = .ok (.getfield 55, 3) := by decide +kernel
theorem dX7_remembers_4 : decode cX7_remembers 4 = .ok (.bipush 8, 2) := by decide +kernel
theorem dX7_remembers_6 : decode cX7_remembers 6 = .ok (.if_icmp .ne 43, 3) := by decide +kernel
theorem dX7_remembers_9 : decode cX7_remembers 9 = .ok (.iconst 0, 1) := by decide +kernel
theorem dX7_remembers_10 : decode cX7_remembers 10 = .ok (.istore_n 1, 1) := by decide +kernel
theorem dX7_remembers_11 : decode cX7_remembers 11 = .ok (.iload_n 1, 1) := by decide +kernel
theorem dX7_remembers_12 : decode cX7_remembers 12 = .ok (.sipush 868, 3) := by decide +kernel
theorem dX7_remembers_15 : decode cX7_remembers 15 = .ok (.if_icmp .ge 24, 3) := by decide +kernel
theorem dX7_remembers_18 : decode cX7_remembers 18 = .ok (.aload_n 0, 1) := by decide +kernel
theorem dX7_remembers_19 : decode cX7_remembers 19 = .ok (.getfield 22, 3) := by decide +kernel
theorem dX7_remembers_22 : decode cX7_remembers 22 = .ok (.iload_n 1, 1) := by decide +kernel
theorem dX7_remembers_23 : decode cX7_remembers 23 = .ok (.aload_n 0, 1) := by decide +kernel
theorem dX7_remembers_24 : decode cX7_remembers 24 = .ok (.getfield 22, 3) := by decide +kernel
theorem dX7_remembers_27 : decode cX7_remembers 27 = .ok (.iload_n 1, 1) := by decide +kernel
theorem dX7_remembers_28 : decode cX7_remembers 28 = .ok (.bipush 124, 2) := by decide +kernel
theorem dX7_remembers_30 : decode cX7_remembers 30 = .ok (.iadd, 1) := by decide +kernel
theorem dX7_remembers_31 : decode cX7_remembers 31 = .ok (.iaload, 1) := by decide +kernel
theorem dX7_remembers_32 : decode cX7_remembers 32 = .ok (.iastore, 1) := by decide +kernel
theorem dX7_remembers_33 : decode cX7_remembers 33 = .ok (.iinc 1 1, 3) := by decide +kernel
theorem dX7_remembers_36 : decode cX7_remembers 36 = .ok (.goto (-25), 3) := by decide +kernel
theorem dX7_remembers_39 : decode cX7_remembers 39 = .ok (.aload_n 0, 1) := by decide +kernel
theorem dX7_remembers_40 : decode cX7_remembers 40 = .ok (.dup, 1) := by decide +kernel
theorem dX7_remembers_41 : decode cX7_remembers 41 = .ok (.getfield 55, 3) := by decide +kernel
theorem dX7_remembers_44 : decode cX7_remembers 44 = .ok (.iconst 1, 1) := by decide +kernel
theorem dX7_remembers_45 : decode cX7_remembers 45 = .ok (.isub, 1) := by decide +kernel
theorem dX7_remembers_46 : decode cX7_remembers 46 = .ok (.putfield 55, 3) := by decide +kernel
theorem dX7_remembers_49 : decode cX7_remembers 49 = .ok (.aload_n 0, 1) := by decide +kernel
theorem dX7_remembers_50 : decode cX7_remembers 50 = .ok (.getfield 13, 3) := by decide +kernel
theorem dX7_remembers_53 : decode cX7_remembers 53 = .ok (.iconst 0, 1) := by decide +kernel
theorem dX7_remembers_54 : decode cX7_remembers 54 = .ok (.aload_n 0, 1) := by decide +kernel
theorem dX7_remembers_55 : decode cX7_remembers 55 = .ok (.getfield 22, 3) := by decide +kernel
theorem dX7_remembers_58 : decode cX7_remembers 58 = .ok (.aload_n 0, 1) := by decide +kernel
theorem dX7_remembers_59 : decode cX7_remembers 59 = .ok (.getfield 55, 3) := by decide +kernel
theorem dX7_remembers_62 : decode cX7_remembers 62 = .ok (.bipush 124, 2) := by decide +kernel
theorem dX7_remembers_64 : decode cX7_remembers 64 = .ok (.imul, 1) := by decide +kernel
theorem dX7_remembers_65 : decode cX7_remembers 65 = .ok (.invokestatic 51, 3) := by decide +kernel
theorem dX7_remembers_68 : decode cX7_remembers 68 = .ok (.aload_n 0, 1) := by decide +kernel
theorem dX7_remembers_69 : decode cX7_remembers 69 = .ok (.dup, 1) := by decide +kernel
theorem dX7_remembers_70 : decode cX7_remembers 70 = .ok (.getfield 55, 3) := by decide +kernel
theorem dX7_remembers_73 : decode cX7_remembers 73 = .ok (.iconst 1, 1) := by decide +kernel
theorem dX7_remembers_74 : decode cX7_remembers 74 = .ok (.iadd, 1) := by decide +kernel
theorem dX7_remembers_75 : decode cX7_remembers 75 = .ok (.putfield 55, 3) := by decide +kernel
theorem dX7_remembers_78 : decode cX7_remembers 78 = .ok (.return_, 1) := by decide +kernel
theorem dX7_ends_0 : decode cX7_ends 0 = .ok (.aload_n 0, 1) := by decide +kernel
theorem dX7_ends_1 : decode cX7_ends 1 = .ok (.getfield 44, 3) := by decide +kernel
theorem dX7_ends_4 : decode cX7_ends 4 = .ok (.ifCond .eq 18, 3) := by decide +kernel
theorem dX7_ends_7 : decode cX7_ends 7 = .ok (.aload_n 0, 1) := by decide +kernel
theorem dX7_ends_8 : decode cX7_ends 8 = .ok (.getfield 13, 3) := by decide +kernel
theorem dX7_ends_11 : decode cX7_ends 11 = .ok (.iconst 0, 1) := by decide +kernel
theorem dX7_ends_12 : decode cX7_ends 12 = .ok (.aload_n 0, 1) := by decide +kernel
theorem dX7_ends_13 : decode cX7_ends 13 = .ok (.getfield 9, 3) := by decide +kernel
theorem dX7_ends_16 : decode cX7_ends 16 = .ok (.iconst 0, 1) := by decide +kernel
theorem dX7_ends_17 : decode cX7_ends 17 = .ok (.invokestatic 51, 3) := by decide +kernel
theorem dX7_ends_20 : decode cX7_ends 20 = .ok (.iconst 0, 1) := by decide +kernel
theorem dX7_ends_21 : decode cX7_ends 21 = .ok (.ireturn, 1) := by decide +kernel
theorem dX7_ends_22 : decode cX7_ends 22 = .ok (.aload_n 0, 1) := by decide +kernel
theorem dX7_ends_23 : decode cX7_ends 23 = .ok (.invokevirtual 58, 3) := by decide +kernel
theorem dX7_ends_26 : decode cX7_ends 26 = .ok (.iload_n 1, 1) := by decide +kernel
theorem dX7_ends_27 : decode cX7_ends 27 = .ok (.ireturn, 1) := by decide +kernel
theorem dX7_undo_0 : decode cX7_undo 0 = .ok (.aload_n 0, 1) := by decide +kernel
theorem dX7_undo_1 : decode cX7_undo 1 = .ok (.aload_n 0, 1) := by decide +kernel
theorem dX7_undo_2 : decode cX7_undo 2 = .ok (.getfield 55, 3) := by decide +kernel
theorem dX7_undo_5 : decode cX7_undo 5 = .ok (.ifCond .le 7, 3) := by decide +kernel
theorem dX7_undo_8 : decode cX7_undo 8 = .ok (.iconst 1, 1) := by decide +kernel
theorem dX7_undo_9 : decode cX7_undo 9 = .ok (.goto 4, 3) := by decide +kernel
theorem dX7_undo_12 : decode cX7_undo 12 = .ok (.iconst 0, 1) := by decide +kernel
theorem dX7_undo_13 : decode cX7_undo 13 = .ok (.invokevirtual 61, 3) := by decide +kernel
theorem dX7_undo_16 : decode cX7_undo 16 = .ok (.ifCond .ne 5, 3) := by decide +kernel
theorem dX7_undo_19 : decode cX7_undo 19 = .ok (.iconst 0, 1) := by decide +kernel
theorem dX7_undo_20 : decode cX7_undo 20 = .ok (.ireturn, 1) := by decide +kernel
theorem dX7_undo_21 : decode cX7_undo 21 = .ok (.aload_n 0, 1) := by decide +kernel
theorem dX7_undo_22 : decode cX7_undo 22 = .ok (.dup, 1) := by decide +kernel
theorem dX7_undo_23 : decode cX7_undo 23 = .ok (.getfield 55, 3) := by decide +kernel
theorem dX7_undo_26 : decode cX7_undo 26 = .ok (.iconst 1, 1) := by decide +kernel
theorem dX7_undo_27 : decode cX7_undo 27 = .ok (.isub, 1) := by decide +kernel
theorem dX7_undo_28 : decode cX7_undo 28 = .ok (.putfield 55, 3) := by decide +kernel
theorem dX7_undo_31 : decode cX7_undo 31 = .ok (.aload_n 0, 1) := by decide +kernel
theorem dX7_undo_32 : decode cX7_undo 32 = .ok (.getfield 22, 3) := by decide +kernel
theorem dX7_undo_35 : decode cX7_undo 35 = .ok (.aload_n 0, 1) := by decide +kernel
theorem dX7_undo_36 : decode cX7_undo 36 = .ok (.getfield 55, 3) := by decide +kernel
theorem dX7_undo_39 : decode cX7_undo 39 = .ok (.bipush 124, 2) := by decide +kernel
theorem dX7_undo_41 : decode cX7_undo 41 = .ok (.imul, 1) := by decide +kernel
theorem dX7_undo_42 : decode cX7_undo 42 = .ok (.aload_n 0, 1) := by decide +kernel
theorem dX7_undo_43 : decode cX7_undo 43 = .ok (.getfield 9, 3) := by decide +kernel
theorem dX7_undo_46 : decode cX7_undo 46 = .ok (.iconst 0, 1) := by decide +kernel
theorem dX7_undo_47 : decode cX7_undo 47 = .ok (.invokestatic 51, 3) := by decide +kernel
theorem dX7_undo_50 : decode cX7_undo 50 = .ok (.aload_n 0, 1) := by decide +kernel
theorem dX7_undo_51 : decode cX7_undo 51 = .ok (.getfield 55, 3) := by decide +kernel
theorem dX7_undo_54 : decode cX7_undo 54 = .ok (.ireturn, 1) := by decide +kernel
theorem dX7_save_0 : decode cX7_save 0 = .ok (.aload_n 0, 1) := by decide +kernel
theorem dX7_save_1 : decode cX7_save 1 = .ok (.iconst 0, 1) := by decide +kernel
theorem dX7_save_2 : decode cX7_save 2 = .ok (.putfield 44, 3) := by decide +kernel
theorem dX7_save_5 : decode cX7_save 5 = .ok (.aload_n 0, 1) := by decide +kernel
theorem dX7_save_6 : decode cX7_save 6 = .ok (.getfield 9, 3) := by decide +kernel
theorem dX7_save_9 : decode cX7_save 9 = .ok (.iconst 0, 1) := by decide +kernel
theorem dX7_save_10 : decode cX7_save 10 = .ok (.aload_n 0, 1) := by decide +kernel
theorem dX7_save_11 : decode cX7_save 11 = .ok (.getfield 19, 3) := by decide +kernel
theorem dX7_save_14 : decode cX7_save 14 = .ok (.iconst 0, 1) := by decide +kernel
theorem dX7_save_15 : decode cX7_save 15 = .ok (.invokestatic 51, 3) := by decide +kernel
theorem dX7_save_18 : decode cX7_save 18 = .ok (.aload_n 0, 1) := by decide +kernel
theorem dX7_save_19 : decode cX7_save 19 = .ok (.iconst 1, 1) := by decide +kernel
theorem dX7_save_20 : decode cX7_save 20 = .ok (.putfield 65, 3) := by decide +kernel
theorem dX7_save_23 : decode cX7_save 23 = .ok (.aload_n 0, 1) := by decide +kernel
theorem dX7_save_24 : decode cX7_save 24 = .ok (.getfield 9, 3) := by decide +kernel
theorem dX7_save_27 : decode cX7_save 27 = .ok (.iconst 0, 1) := by decide +kernel
theorem dX7_save_28 : decode cX7_save 28 = .ok (.iaload, 1) := by decide +kernel
theorem dX7_save_29 : decode cX7_save 29 = .ok (.ireturn, 1) := by decide +kernel
theorem dX7_restore_0 : decode cX7_restore 0 = .ok (.aload_n 0, 1) := by decide +kernel
theorem dX7_restore_1 : decode cX7_restore 1 = .ok (.aload_n 0, 1) := by decide +kernel
theorem dX7_restore_2 : decode cX7_restore 2 = .ok (.getfield 65, 3) := by decide +kernel
theorem dX7_restore_5 : decode cX7_restore 5 = .ok (.invokevirtual 61, 3) := by decide +kernel
theorem dX7_restore_8 : decode cX7_restore 8 = .ok (.ifCond .ne 5, 3) := by decide +kernel
theorem dX7_restore_11 : decode cX7_restore 11 = .ok (.iconst 0, 1) := by decide +kernel
theorem dX7_restore_12 : decode cX7_restore 12 = .ok (.ireturn, 1) := by decide +kernel
theorem dX7_restore_13 : decode cX7_restore 13 = .ok (.aload_n 0, 1) := by decide +kernel
theorem dX7_restore_14 : decode cX7_restore 14 = .ok (.getfield 19, 3) := by decide +kernel
theorem dX7_restore_17 : decode cX7_restore 17 = .ok (.iconst 0, 1) := by decide +kernel
theorem dX7_restore_18 : decode cX7_restore 18 = .ok (.aload_n 0, 1) := by decide +kernel
theorem dX7_restore_19 : decode cX7_restore 19 = .ok (.getfield 9, 3) := by decide +kernel
theorem dX7_restore_22 : decode cX7_restore 22 = .ok (.iconst 0, 1) := by decide +kernel
theorem dX7_restore_23 : decode cX7_restore 23 = .ok (.invokestatic 51, 3) := by decide +kernel
theorem dX7_restore_26 : decode cX7_restore 26 = .ok (.aload_n 0, 1) := by decide +kernel
theorem dX7_restore_27 : decode cX7_restore 27 = .ok (.iconst 0, 1) := by decide +kernel
theorem dX7_restore_28 : decode cX7_restore 28 = .ok (.putfield 55, 3) := by decide +kernel
theorem dX7_restore_31 : decode cX7_restore 31 = .ok (.aload_n 0, 1) := by decide +kernel
theorem dX7_restore_32 : decode cX7_restore 32 = .ok (.getfield 9, 3) := by decide +kernel
theorem dX7_restore_35 : decode cX7_restore 35 = .ok (.iconst 0, 1) := by decide +kernel
theorem dX7_restore_36 : decode cX7_restore 36 = .ok (.iaload, 1) := by decide +kernel
theorem dX7_restore_37 : decode cX7_restore 37 = .ok (.ireturn, 1) := by decide +kernel
theorem dX7_isAccount_0 : decode cX7_isAccount 0 = .ok (.iload_n 1, 1) := by decide +kernel
theorem dX7_isAccount_1 : decode cX7_isAccount 1 = .ok (.iconst 0, 1) := by decide +kernel
theorem dX7_isAccount_2 : decode cX7_isAccount 2 = .ok (.aload_n 0, 1) := by decide +kernel
theorem dX7_isAccount_3 : decode cX7_isAccount 3 = .ok (.getfield 9, 3) := by decide +kernel
theorem dX7_isAccount_6 : decode cX7_isAccount 6 = .ok (.iconst 1, 1) := by decide +kernel
theorem dX7_isAccount_7 : decode cX7_isAccount 7 = .ok (.iaload, 1) := by decide +kernel
theorem dX7_isAccount_8 : decode cX7_isAccount 8 = .ok (.iconst 1, 1) := by decide +kernel
theorem dX7_isAccount_9 : decode cX7_isAccount 9 = .ok (.isub, 1) := by decide +kernel
theorem dX7_isAccount_10 : decode cX7_isAccount 10 = .ok (.invokestatic 69, 3) := by decide +kernel
theorem dX7_isAccount_13 : decode cX7_isAccount 13 = .ok (.ireturn, 1) := by decide +kernel
theorem dX7_accountAt_0 : decode cX7_accountAt 0 = .ok (.bipush 12, 2) := by decide +kernel
theorem dX7_accountAt_2 : decode cX7_accountAt 2 = .ok (.iconst 4, 1) := by decide +kernel
theorem dX7_accountAt_3 : decode cX7_accountAt 3 = .ok (.iload_n 0, 1) := by decide +kernel
theorem dX7_accountAt_4 : decode cX7_accountAt 4 = .ok (.imul, 1) := by decide +kernel
theorem dX7_accountAt_5 : decode cX7_accountAt 5 = .ok (.iadd, 1) := by decide +kernel
theorem dX7_accountAt_6 : decode cX7_accountAt 6 = .ok (.ireturn, 1) := by decide +kernel
theorem dX7_of_0 : decode cX7_of 0 = .ok (.aload_n 0, 1) := by decide +kernel
theorem dX7_of_1 : decode cX7_of 1 = .ok (.getfield 9, 3) := by decide +kernel
theorem dX7_of_4 : decode cX7_of 4 = .ok (.aload_n 0, 1) := by decide +kernel
theorem dX7_of_5 : decode cX7_of 5 = .ok (.iload_n 1, 1) := by decide +kernel
theorem dX7_of_6 : decode cX7_of 6 = .ok (.invokevirtual 73, 3) := by decide +kernel
theorem dX7_of_9 : decode cX7_of 9 = .ok (.ifCond .eq 7, 3) := by decide +kernel
theorem dX7_of_12 : decode cX7_of 12 = .ok (.iload_n 1, 1) := by decide +kernel
theorem dX7_of_13 : decode cX7_of 13 = .ok (.goto 4, 3) := by decide +kernel
theorem dX7_of_16 : decode cX7_of 16 = .ok (.iconst 0, 1) := by decide +kernel
theorem dX7_of_17 : decode cX7_of 17 = .ok (.invokestatic 77, 3) := by decide +kernel
theorem dX7_of_20 : decode cX7_of 20 = .ok (.iload_n 2, 1) := by decide +kernel
theorem dX7_of_21 : decode cX7_of 21 = .ok (.iadd, 1) := by decide +kernel
theorem dX7_of_22 : decode cX7_of 22 = .ok (.iaload, 1) := by decide +kernel
theorem dX7_of_23 : decode cX7_of 23 = .ok (.ireturn, 1) := by decide +kernel
theorem dX7_isAmount_0 : decode cX7_isAmount 0 = .ok (.iload_n 0, 1) := by decide +kernel
theorem dX7_isAmount_1 : decode cX7_isAmount 1 = .ok (.iconst 1, 1) := by decide +kernel
theorem dX7_isAmount_2 : decode cX7_isAmount 2 = .ok (.sipush 999, 3) := by decide +kernel
theorem dX7_isAmount_5 : decode cX7_isAmount 5 = .ok (.invokestatic 69, 3) := by decide +kernel
theorem dX7_isAmount_8 : decode cX7_isAmount 8 = .ok (.ireturn, 1) := by decide +kernel
theorem dX7_find_0 : decode cX7_find 0 = .ok (.iconst (-1), 1) := by decide +kernel
theorem dX7_find_1 : decode cX7_find 1 = .ok (.istore_n 2, 1) := by decide +kernel
theorem dX7_find_2 : decode cX7_find 2 = .ok (.iconst 0, 1) := by decide +kernel
theorem dX7_find_3 : decode cX7_find 3 = .ok (.istore_n 3, 1) := by decide +kernel
theorem dX7_find_4 : decode cX7_find 4 = .ok (.iload_n 3, 1) := by decide +kernel
theorem dX7_find_5 : decode cX7_find 5 = .ok (.aload_n 0, 1) := by decide +kernel
theorem dX7_find_6 : decode cX7_find 6 = .ok (.getfield 9, 3) := by decide +kernel
theorem dX7_find_9 : decode cX7_find 9 = .ok (.iconst 3, 1) := by decide +kernel
theorem dX7_find_10 : decode cX7_find 10 = .ok (.iaload, 1) := by decide +kernel
theorem dX7_find_11 : decode cX7_find 11 = .ok (.if_icmp .ge 32, 3) := by decide +kernel
theorem dX7_find_14 : decode cX7_find 14 = .ok (.aload_n 0, 1) := by decide +kernel
theorem dX7_find_15 : decode cX7_find 15 = .ok (.getfield 9, 3) := by decide +kernel
theorem dX7_find_18 : decode cX7_find 18 = .ok (.bipush 44, 2) := by decide +kernel
theorem dX7_find_20 : decode cX7_find 20 = .ok (.iconst 5, 1) := by decide +kernel
theorem dX7_find_21 : decode cX7_find 21 = .ok (.iload_n 3, 1) := by decide +kernel
theorem dX7_find_22 : decode cX7_find 22 = .ok (.imul, 1) := by decide +kernel
theorem dX7_find_23 : decode cX7_find 23 = .ok (.iadd, 1) := by decide +kernel
theorem dX7_find_24 : decode cX7_find 24 = .ok (.iconst 0, 1) := by decide +kernel
theorem dX7_find_25 : decode cX7_find 25 = .ok (.iadd, 1) := by decide +kernel
theorem dX7_find_26 : decode cX7_find 26 = .ok (.iaload, 1) := by decide +kernel
theorem dX7_find_27 : decode cX7_find 27 = .ok (.iload_n 1, 1) := by decide +kernel
theorem dX7_find_28 : decode cX7_find 28 = .ok (.if_icmp .ne 7, 3) := by decide +kernel
theorem dX7_find_31 : decode cX7_find 31 = .ok (.iload_n 3, 1) := by decide +kernel
theorem dX7_find_32 : decode cX7_find 32 = .ok (.goto 4, 3) := by decide +kernel
theorem dX7_find_35 : decode cX7_find 35 = .ok (.iload_n 2, 1) := by decide +kernel
theorem dX7_find_36 : decode cX7_find 36 = .ok (.istore_n 2, 1) := by decide +kernel
theorem dX7_find_37 : decode cX7_find 37 = .ok (.iinc 3 1, 3) := by decide +kernel
theorem dX7_find_40 : decode cX7_find 40 = .ok (.goto (-36), 3) := by decide +kernel
theorem dX7_find_43 : decode cX7_find 43 = .ok (.iload_n 2, 1) := by decide +kernel
theorem dX7_find_44 : decode cX7_find 44 = .ok (.ireturn, 1) := by decide +kernel
theorem dX7_ofPlace_0 : decode cX7_ofPlace 0 = .ok (.aload_n 0, 1) := by decide +kernel
theorem dX7_ofPlace_1 : decode cX7_ofPlace 1 = .ok (.getfield 9, 3) := by decide +kernel
theorem dX7_ofPlace_4 : decode cX7_ofPlace 4 = .ok (.bipush 44, 2) := by decide +kernel
theorem dX7_ofPlace_6 : decode cX7_ofPlace 6 = .ok (.iconst 5, 1) := by decide +kernel
theorem dX7_ofPlace_7 : decode cX7_ofPlace 7 = .ok (.iload_n 1, 1) := by decide +kernel
theorem dX7_ofPlace_8 : decode cX7_ofPlace 8 = .ok (.imul, 1) := by decide +kernel
theorem dX7_ofPlace_9 : decode cX7_ofPlace 9 = .ok (.iadd, 1) := by decide +kernel
theorem dX7_ofPlace_10 : decode cX7_ofPlace 10 = .ok (.iload_n 2, 1) := by decide +kernel
theorem dX7_ofPlace_11 : decode cX7_ofPlace 11 = .ok (.iadd, 1) := by decide +kernel
theorem dX7_ofPlace_12 : decode cX7_ofPlace 12 = .ok (.iaload, 1) := by decide +kernel
theorem dX7_ofPlace_13 : decode cX7_ofPlace 13 = .ok (.ireturn, 1) := by decide +kernel
theorem dX7_drops_0 : decode cX7_drops 0 = .ok (.bipush 44, 2) := by decide +kernel
theorem dX7_drops_2 : decode cX7_drops 2 = .ok (.iconst 5, 1) := by decide +kernel
theorem dX7_drops_3 : decode cX7_drops 3 = .ok (.iload_n 1, 1) := by decide +kernel
theorem dX7_drops_4 : decode cX7_drops 4 = .ok (.imul, 1) := by decide +kernel
theorem dX7_drops_5 : decode cX7_drops 5 = .ok (.iadd, 1) := by decide +kernel
theorem dX7_drops_6 : decode cX7_drops 6 = .ok (.istore_n 2, 1) := by decide +kernel
theorem dX7_drops_7 : decode cX7_drops 7 = .ok (.iload_n 2, 1) := by decide +kernel
theorem dX7_drops_8 : decode cX7_drops 8 = .ok (.bipush 89, 2) := by decide +kernel
theorem dX7_drops_10 : decode cX7_drops 10 = .ok (.if_icmp .ge 23, 3) := by decide +kernel
theorem dX7_drops_13 : decode cX7_drops 13 = .ok (.aload_n 0, 1) := by decide +kernel
theorem dX7_drops_14 : decode cX7_drops 14 = .ok (.getfield 9, 3) := by decide +kernel
theorem dX7_drops_17 : decode cX7_drops 17 = .ok (.iload_n 2, 1) := by decide +kernel
theorem dX7_drops_18 : decode cX7_drops 18 = .ok (.aload_n 0, 1) := by decide +kernel
theorem dX7_drops_19 : decode cX7_drops 19 = .ok (.getfield 9, 3) := by decide +kernel
theorem dX7_drops_22 : decode cX7_drops 22 = .ok (.iload_n 2, 1) := by decide +kernel
theorem dX7_drops_23 : decode cX7_drops 23 = .ok (.iconst 5, 1) := by decide +kernel
theorem dX7_drops_24 : decode cX7_drops 24 = .ok (.iadd, 1) := by decide +kernel
theorem dX7_drops_25 : decode cX7_drops 25 = .ok (.iaload, 1) := by decide +kernel
theorem dX7_drops_26 : decode cX7_drops 26 = .ok (.iastore, 1) := by decide +kernel
theorem dX7_drops_27 : decode cX7_drops 27 = .ok (.iinc 2 1, 3) := by decide +kernel
theorem dX7_drops_30 : decode cX7_drops 30 = .ok (.goto (-23), 3) := by decide +kernel
theorem dX7_drops_33 : decode cX7_drops 33 = .ok (.aload_n 0, 1) := by decide +kernel
theorem dX7_drops_34 : decode cX7_drops 34 = .ok (.getfield 9, 3) := by decide +kernel
theorem dX7_drops_37 : decode cX7_drops 37 = .ok (.iconst 3, 1) := by decide +kernel
theorem dX7_drops_38 : decode cX7_drops 38 = .ok (.dup2, 1) := by decide +kernel
theorem dX7_drops_39 : decode cX7_drops 39 = .ok (.iaload, 1) := by decide +kernel
theorem dX7_drops_40 : decode cX7_drops 40 = .ok (.iconst 1, 1) := by decide +kernel
theorem dX7_drops_41 : decode cX7_drops 41 = .ok (.isub, 1) := by decide +kernel
theorem dX7_drops_42 : decode cX7_drops 42 = .ok (.iastore, 1) := by decide +kernel
theorem dX7_drops_43 : decode cX7_drops 43 = .ok (.return_, 1) := by decide +kernel
theorem dX7_writes_0 : decode cX7_writes 0 = .ok (.bipush 123, 2) := by decide +kernel
theorem dX7_writes_2 : decode cX7_writes 2 = .ok (.istore 4, 2) := by decide +kernel
theorem dX7_writes_4 : decode cX7_writes 4 = .ok (.iload 4, 2) := by decide +kernel
theorem dX7_writes_6 : decode cX7_writes 6 = .ok (.bipush 97, 2) := by decide +kernel
theorem dX7_writes_8 : decode cX7_writes 8 = .ok (.if_icmp .lt 25, 3) := by decide +kernel
theorem dX7_writes_11 : decode cX7_writes 11 = .ok (.aload_n 0, 1) := by decide +kernel
theorem dX7_writes_12 : decode cX7_writes 12 = .ok (.getfield 9, 3) := by decide +kernel
theorem dX7_writes_15 : decode cX7_writes 15 = .ok (.iload 4, 2) := by decide +kernel
theorem dX7_writes_17 : decode cX7_writes 17 = .ok (.aload_n 0, 1) := by decide +kernel
theorem dX7_writes_18 : decode cX7_writes 18 = .ok (.getfield 9, 3) := by decide +kernel
theorem dX7_writes_21 : decode cX7_writes 21 = .ok (.iload 4, 2) := by decide +kernel
theorem dX7_writes_23 : decode cX7_writes 23 = .ok (.iconst 3, 1) := by decide +kernel
theorem dX7_writes_24 : decode cX7_writes 24 = .ok (.isub, 1) := by decide +kernel
theorem dX7_writes_25 : decode cX7_writes 25 = .ok (.iaload, 1) := by decide +kernel
theorem dX7_writes_26 : decode cX7_writes 26 = .ok (.iastore, 1) := by decide +kernel
theorem dX7_writes_27 : decode cX7_writes 27 = .ok (.iinc 4 (-1), 3) := by decide +kernel
theorem dX7_writes_30 : decode cX7_writes 30 = .ok (.goto (-26), 3) := by decide +kernel
theorem dX7_writes_33 : decode cX7_writes 33 = .ok (.aload_n 0, 1) := by decide +kernel
theorem dX7_writes_34 : decode cX7_writes 34 = .ok (.getfield 9, 3) := by decide +kernel
theorem dX7_writes_37 : decode cX7_writes 37 = .ok (.bipush 94, 2) := by decide +kernel
theorem dX7_writes_39 : decode cX7_writes 39 = .ok (.iload_n 1, 1) := by decide +kernel
theorem dX7_writes_40 : decode cX7_writes 40 = .ok (.iastore, 1) := by decide +kernel
theorem dX7_writes_41 : decode cX7_writes 41 = .ok (.aload_n 0, 1) := by decide +kernel
theorem dX7_writes_42 : decode cX7_writes 42 = .ok (.getfield 9, 3) := by decide +kernel
theorem dX7_writes_45 : decode cX7_writes 45 = .ok (.bipush 95, 2) := by decide +kernel
theorem dX7_writes_47 : decode cX7_writes 47 = .ok (.iload_n 2, 1) := by decide +kernel
theorem dX7_writes_48 : decode cX7_writes 48 = .ok (.iastore, 1) := by decide +kernel
theorem dX7_writes_49 : decode cX7_writes 49 = .ok (.aload_n 0, 1) := by decide +kernel
theorem dX7_writes_50 : decode cX7_writes 50 = .ok (.getfield 9, 3) := by decide +kernel
theorem dX7_writes_53 : decode cX7_writes 53 = .ok (.bipush 96, 2) := by decide +kernel
theorem dX7_writes_55 : decode cX7_writes 55 = .ok (.iload_n 3, 1) := by decide +kernel
theorem dX7_writes_56 : decode cX7_writes 56 = .ok (.iastore, 1) := by decide +kernel
theorem dX7_writes_57 : decode cX7_writes 57 = .ok (.aload_n 0, 1) := by decide +kernel
theorem dX7_writes_58 : decode cX7_writes 58 = .ok (.getfield 9, 3) := by decide +kernel
theorem dX7_writes_61 : decode cX7_writes 61 = .ok (.bipush 11, 2) := by decide +kernel
theorem dX7_writes_63 : decode cX7_writes 63 = .ok (.bipush 10, 2) := by decide +kernel
theorem dX7_writes_65 : decode cX7_writes 65 = .ok (.aload_n 0, 1) := by decide +kernel
theorem dX7_writes_66 : decode cX7_writes 66 = .ok (.getfield 9, 3) := by decide +kernel
theorem dX7_writes_69 : decode cX7_writes 69 = .ok (.bipush 11, 2) := by decide +kernel
theorem dX7_writes_71 : decode cX7_writes 71 = .ok (.iaload, 1) := by decide +kernel
theorem dX7_writes_72 : decode cX7_writes 72 = .ok (.iconst 1, 1) := by decide +kernel
theorem dX7_writes_73 : decode cX7_writes 73 = .ok (.iadd, 1) := by decide +kernel
theorem dX7_writes_74 : decode cX7_writes 74 = .ok (.invokestatic 81, 3) := by decide +kernel
theorem dX7_writes_77 : decode cX7_writes 77 = .ok (.iastore, 1) := by decide +kernel
theorem dX7_writes_78 : decode cX7_writes 78 = .ok (.return_, 1) := by decide +kernel
theorem dX7_changes_0 : decode cX7_changes 0 = .ok (.aload_n 0, 1) := by decide +kernel
theorem dX7_changes_1 : decode cX7_changes 1 = .ok (.getfield 9, 3) := by decide +kernel
theorem dX7_changes_4 : decode cX7_changes 4 = .ok (.iload_n 1, 1) := by decide +kernel
theorem dX7_changes_5 : decode cX7_changes 5 = .ok (.invokestatic 77, 3) := by decide +kernel
theorem dX7_changes_8 : decode cX7_changes 8 = .ok (.iconst 1, 1) := by decide +kernel
theorem dX7_changes_9 : decode cX7_changes 9 = .ok (.iadd, 1) := by decide +kernel
theorem dX7_changes_10 : decode cX7_changes 10 = .ok (.dup2, 1) := by decide +kernel
theorem dX7_changes_11 : decode cX7_changes 11 = .ok (.iaload, 1) := by decide +kernel
theorem dX7_changes_12 : decode cX7_changes 12 = .ok (.iload_n 2, 1) := by decide +kernel
theorem dX7_changes_13 : decode cX7_changes 13 = .ok (.iadd, 1) := by decide +kernel
theorem dX7_changes_14 : decode cX7_changes 14 = .ok (.iastore, 1) := by decide +kernel
theorem dX7_changes_15 : decode cX7_changes 15 = .ok (.return_, 1) := by decide +kernel
theorem dX7_opens_0 : decode cX7_opens 0 = .ok (.aload_n 0, 1) := by decide +kernel
theorem dX7_opens_1 : decode cX7_opens 1 = .ok (.iload_n 1, 1) := by decide +kernel
theorem dX7_opens_2 : decode cX7_opens 2 = .ok (.iconst 0, 1) := by decide +kernel
theorem dX7_opens_3 : decode cX7_opens 3 = .ok (.iconst 3, 1) := by decide +kernel
theorem dX7_opens_4 : decode cX7_opens 4 = .ok (.invokestatic 69, 3) := by decide +kernel
theorem dX7_opens_7 : decode cX7_opens 7 = .ok (.aload_n 0, 1) := by decide +kernel
theorem dX7_opens_8 : decode cX7_opens 8 = .ok (.getfield 9, 3) := by decide +kernel
theorem dX7_opens_11 : decode cX7_opens 11 = .ok (.iconst 1, 1) := by decide +kernel
theorem dX7_opens_12 : decode cX7_opens 12 = .ok (.iaload, 1) := by decide +kernel
theorem dX7_opens_13 : decode cX7_opens 13 = .ok (.bipush 8, 2) := by decide +kernel
theorem dX7_opens_15 : decode cX7_opens 15 = .ok (.if_icmp .ge 7, 3) := by decide +kernel
theorem dX7_opens_18 : decode cX7_opens 18 = .ok (.iconst 1, 1) := by decide +kernel
theorem dX7_opens_19 : decode cX7_opens 19 = .ok (.goto 4, 3) := by decide +kernel
theorem dX7_opens_22 : decode cX7_opens 22 = .ok (.iconst 0, 1) := by decide +kernel
theorem dX7_opens_23 : decode cX7_opens 23 = .ok (.iconst 1, 1) := by decide +kernel
theorem dX7_opens_24 : decode cX7_opens 24 = .ok (.iconst 1, 1) := by decide +kernel
theorem dX7_opens_25 : decode cX7_opens 25 = .ok (.invokevirtual 47, 3) := by decide +kernel
theorem dX7_opens_28 : decode cX7_opens 28 = .ok (.ifCond .ne 5, 3) := by decide +kernel
theorem dX7_opens_31 : decode cX7_opens 31 = .ok (.iconst 0, 1) := by decide +kernel
theorem dX7_opens_32 : decode cX7_opens 32 = .ok (.ireturn, 1) := by decide +kernel
theorem dX7_opens_33 : decode cX7_opens 33 = .ok (.aload_n 0, 1) := by decide +kernel
theorem dX7_opens_34 : decode cX7_opens 34 = .ok (.getfield 9, 3) := by decide +kernel
theorem dX7_opens_37 : decode cX7_opens 37 = .ok (.aload_n 0, 1) := by decide +kernel
theorem dX7_opens_38 : decode cX7_opens 38 = .ok (.getfield 9, 3) := by decide +kernel
theorem dX7_opens_41 : decode cX7_opens 41 = .ok (.iconst 1, 1) := by decide +kernel
theorem dX7_opens_42 : decode cX7_opens 42 = .ok (.iaload, 1) := by decide +kernel
theorem dX7_opens_43 : decode cX7_opens 43 = .ok (.invokestatic 77, 3) := by decide +kernel
theorem dX7_opens_46 : decode cX7_opens 46 = .ok (.iconst 0, 1) := by decide +kernel
theorem dX7_opens_47 : decode cX7_opens 47 = .ok (.iadd, 1) := by decide +kernel
theorem dX7_opens_48 : decode cX7_opens 48 = .ok (.iload_n 1, 1) := by decide +kernel
theorem dX7_opens_49 : decode cX7_opens 49 = .ok (.iastore, 1) := by decide +kernel
theorem dX7_opens_50 : decode cX7_opens 50 = .ok (.iconst 1, 1) := by decide +kernel
theorem dX7_opens_51 : decode cX7_opens 51 = .ok (.istore_n 2, 1) := by decide +kernel
theorem dX7_opens_52 : decode cX7_opens 52 = .ok (.iload_n 2, 1) := by decide +kernel
theorem dX7_opens_53 : decode cX7_opens 53 = .ok (.iconst 4, 1) := by decide +kernel
theorem dX7_opens_54 : decode cX7_opens 54 = .ok (.if_icmp .ge 26, 3) := by decide +kernel
theorem dX7_opens_57 : decode cX7_opens 57 = .ok (.aload_n 0, 1) := by decide +kernel
theorem dX7_opens_58 : decode cX7_opens 58 = .ok (.getfield 9, 3) := by decide +kernel
theorem dX7_opens_61 : decode cX7_opens 61 = .ok (.aload_n 0, 1) := by decide +kernel
theorem dX7_opens_62 : decode cX7_opens 62 = .ok (.getfield 9, 3) := by decide +kernel
theorem dX7_opens_65 : decode cX7_opens 65 = .ok (.iconst 1, 1) := by decide +kernel
theorem dX7_opens_66 : decode cX7_opens 66 = .ok (.iaload, 1) := by decide +kernel
theorem dX7_opens_67 : decode cX7_opens 67 = .ok (.invokestatic 77, 3) := by decide +kernel
theorem dX7_opens_70 : decode cX7_opens 70 = .ok (.iload_n 2, 1) := by decide +kernel
theorem dX7_opens_71 : decode cX7_opens 71 = .ok (.iadd, 1) := by decide +kernel
theorem dX7_opens_72 : decode cX7_opens 72 = .ok (.iconst 0, 1) := by decide +kernel
theorem dX7_opens_73 : decode cX7_opens 73 = .ok (.iastore, 1) := by decide +kernel
theorem dX7_opens_74 : decode cX7_opens 74 = .ok (.iinc 2 1, 3) := by decide +kernel
theorem dX7_opens_77 : decode cX7_opens 77 = .ok (.goto (-25), 3) := by decide +kernel
theorem dX7_opens_80 : decode cX7_opens 80 = .ok (.aload_n 0, 1) := by decide +kernel
theorem dX7_opens_81 : decode cX7_opens 81 = .ok (.getfield 9, 3) := by decide +kernel
theorem dX7_opens_84 : decode cX7_opens 84 = .ok (.iconst 1, 1) := by decide +kernel
theorem dX7_opens_85 : decode cX7_opens 85 = .ok (.dup2, 1) := by decide +kernel
theorem dX7_opens_86 : decode cX7_opens 86 = .ok (.iaload, 1) := by decide +kernel
theorem dX7_opens_87 : decode cX7_opens 87 = .ok (.iconst 1, 1) := by decide +kernel
theorem dX7_opens_88 : decode cX7_opens 88 = .ok (.iadd, 1) := by decide +kernel
theorem dX7_opens_89 : decode cX7_opens 89 = .ok (.iastore, 1) := by decide +kernel
theorem dX7_opens_90 : decode cX7_opens 90 = .ok (.aload_n 0, 1) := by decide +kernel
theorem dX7_opens_91 : decode cX7_opens 91 = .ok (.getfield 9, 3) := by decide +kernel
theorem dX7_opens_94 : decode cX7_opens 94 = .ok (.iconst 1, 1) := by decide +kernel
theorem dX7_opens_95 : decode cX7_opens 95 = .ok (.iaload, 1) := by decide +kernel
theorem dX7_opens_96 : decode cX7_opens 96 = .ok (.iconst 1, 1) := by decide +kernel
theorem dX7_opens_97 : decode cX7_opens 97 = .ok (.isub, 1) := by decide +kernel
theorem dX7_opens_98 : decode cX7_opens 98 = .ok (.ireturn, 1) := by decide +kernel
theorem dX7_open_0 : decode cX7_open 0 = .ok (.aload_n 0, 1) := by decide +kernel
theorem dX7_open_1 : decode cX7_open 1 = .ok (.invokevirtual 87, 3) := by decide +kernel
theorem dX7_open_4 : decode cX7_open 4 = .ok (.aload_n 0, 1) := by decide +kernel
theorem dX7_open_5 : decode cX7_open 5 = .ok (.aload_n 0, 1) := by decide +kernel
theorem dX7_open_6 : decode cX7_open 6 = .ok (.iload_n 1, 1) := by decide +kernel
theorem dX7_open_7 : decode cX7_open 7 = .ok (.invokevirtual 90, 3) := by decide +kernel
theorem dX7_open_10 : decode cX7_open 10 = .ok (.invokevirtual 93, 3) := by decide +kernel
theorem dX7_open_13 : decode cX7_open 13 = .ok (.ireturn, 1) := by decide +kernel
theorem dX7_pays_0 : decode cX7_pays 0 = .ok (.iload_n 2, 1) := by decide +kernel
theorem dX7_pays_1 : decode cX7_pays 1 = .ok (.invokestatic 96, 3) := by decide +kernel
theorem dX7_pays_4 : decode cX7_pays 4 = .ok (.istore_n 3, 1) := by decide +kernel
theorem dX7_pays_5 : decode cX7_pays 5 = .ok (.aload_n 0, 1) := by decide +kernel
theorem dX7_pays_6 : decode cX7_pays 6 = .ok (.aload_n 0, 1) := by decide +kernel
theorem dX7_pays_7 : decode cX7_pays 7 = .ok (.iload_n 1, 1) := by decide +kernel
theorem dX7_pays_8 : decode cX7_pays 8 = .ok (.invokevirtual 73, 3) := by decide +kernel
theorem dX7_pays_11 : decode cX7_pays 11 = .ok (.iload_n 3, 1) := by decide +kernel
theorem dX7_pays_12 : decode cX7_pays 12 = .ok (.iload_n 3, 1) := by decide +kernel
theorem dX7_pays_13 : decode cX7_pays 13 = .ok (.ifCond .eq 21, 3) := by decide +kernel
theorem dX7_pays_16 : decode cX7_pays 16 = .ok (.aload_n 0, 1) := by decide +kernel
theorem dX7_pays_17 : decode cX7_pays 17 = .ok (.iload_n 1, 1) := by decide +kernel
theorem dX7_pays_18 : decode cX7_pays 18 = .ok (.iconst 1, 1) := by decide +kernel
theorem dX7_pays_19 : decode cX7_pays 19 = .ok (.invokevirtual 99, 3) := by decide +kernel
theorem dX7_pays_22 : decode cX7_pays 22 = .ok (.sipush 9999, 3) := by decide +kernel
theorem dX7_pays_25 : decode cX7_pays 25 = .ok (.iload_n 2, 1) := by decide +kernel
theorem dX7_pays_26 : decode cX7_pays 26 = .ok (.isub, 1) := by decide +kernel
theorem dX7_pays_27 : decode cX7_pays 27 = .ok (.if_icmp .gt 7, 3) := by decide +kernel
theorem dX7_pays_30 : decode cX7_pays 30 = .ok (.iconst 1, 1) := by decide +kernel
theorem dX7_pays_31 : decode cX7_pays 31 = .ok (.goto 4, 3) := by decide +kernel
theorem dX7_pays_34 : decode cX7_pays 34 = .ok (.iconst 0, 1) := by decide +kernel
theorem dX7_pays_35 : decode cX7_pays 35 = .ok (.iconst 1, 1) := by decide +kernel
theorem dX7_pays_36 : decode cX7_pays 36 = .ok (.invokevirtual 47, 3) := by decide +kernel
theorem dX7_pays_39 : decode cX7_pays 39 = .ok (.ifCond .ne 5, 3) := by decide +kernel
theorem dX7_pays_42 : decode cX7_pays 42 = .ok (.iconst 0, 1) := by decide +kernel
theorem dX7_pays_43 : decode cX7_pays 43 = .ok (.ireturn, 1) := by decide +kernel
theorem dX7_pays_44 : decode cX7_pays 44 = .ok (.aload_n 0, 1) := by decide +kernel
theorem dX7_pays_45 : decode cX7_pays 45 = .ok (.iload_n 1, 1) := by decide +kernel
theorem dX7_pays_46 : decode cX7_pays 46 = .ok (.iload_n 2, 1) := by decide +kernel
theorem dX7_pays_47 : decode cX7_pays 47 = .ok (.invokevirtual 102, 3) := by decide +kernel
theorem dX7_pays_50 : decode cX7_pays 50 = .ok (.aload_n 0, 1) := by decide +kernel
theorem dX7_pays_51 : decode cX7_pays 51 = .ok (.getfield 9, 3) := by decide +kernel
theorem dX7_pays_54 : decode cX7_pays 54 = .ok (.iconst 5, 1) := by decide +kernel
theorem dX7_pays_55 : decode cX7_pays 55 = .ok (.dup2, 1) := by decide +kernel
theorem dX7_pays_56 : decode cX7_pays 56 = .ok (.iaload, 1) := by decide +kernel
theorem dX7_pays_57 : decode cX7_pays 57 = .ok (.iload_n 2, 1) := by decide +kernel
theorem dX7_pays_58 : decode cX7_pays 58 = .ok (.iadd, 1) := by decide +kernel
theorem dX7_pays_59 : decode cX7_pays 59 = .ok (.iastore, 1) := by decide +kernel
theorem dX7_pays_60 : decode cX7_pays 60 = .ok (.aload_n 0, 1) := by decide +kernel
theorem dX7_pays_61 : decode cX7_pays 61 = .ok (.bipush 100, 2) := by decide +kernel
theorem dX7_pays_63 : decode cX7_pays 63 = .ok (.iload_n 2, 1) := by decide +kernel
theorem dX7_pays_64 : decode cX7_pays 64 = .ok (.iload_n 1, 1) := by decide +kernel
theorem dX7_pays_65 : decode cX7_pays 65 = .ok (.invokevirtual 106, 3) := by decide +kernel
theorem dX7_pays_68 : decode cX7_pays 68 = .ok (.aload_n 0, 1) := by decide +kernel
theorem dX7_pays_69 : decode cX7_pays 69 = .ok (.iload_n 1, 1) := by decide +kernel
theorem dX7_pays_70 : decode cX7_pays 70 = .ok (.iconst 1, 1) := by decide +kernel
theorem dX7_pays_71 : decode cX7_pays 71 = .ok (.invokevirtual 99, 3) := by decide +kernel
theorem dX7_pays_74 : decode cX7_pays 74 = .ok (.ireturn, 1) := by decide +kernel
theorem dX7_deposit_0 : decode cX7_deposit 0 = .ok (.aload_n 0, 1) := by decide +kernel
theorem dX7_deposit_1 : decode cX7_deposit 1 = .ok (.invokevirtual 87, 3) := by decide +kernel
theorem dX7_deposit_4 : decode cX7_deposit 4 = .ok (.aload_n 0, 1) := by decide +kernel
theorem dX7_deposit_5 : decode cX7_deposit 5 = .ok (.aload_n 0, 1) := by decide +kernel
theorem dX7_deposit_6 : decode cX7_deposit 6 = .ok (.iload_n 1, 1) := by decide +kernel
theorem dX7_deposit_7 : decode cX7_deposit 7 = .ok (.iload_n 2, 1) := by decide +kernel
theorem dX7_deposit_8 : decode cX7_deposit 8 = .ok (.invokevirtual 110, 3) := by decide +kernel
theorem dX7_deposit_11 : decode cX7_deposit 11 = .ok (.invokevirtual 93, 3) := by decide +kernel
theorem dX7_deposit_14 : decode cX7_deposit 14 = .ok (.ireturn, 1) := by decide +kernel
theorem dX7_draws_0 : decode cX7_draws 0 = .ok (.iload_n 2, 1) := by decide +kernel
theorem dX7_draws_1 : decode cX7_draws 1 = .ok (.invokestatic 96, 3) := by decide +kernel
theorem dX7_draws_4 : decode cX7_draws 4 = .ok (.istore_n 3, 1) := by decide +kernel
theorem dX7_draws_5 : decode cX7_draws 5 = .ok (.aload_n 0, 1) := by decide +kernel
theorem dX7_draws_6 : decode cX7_draws 6 = .ok (.aload_n 0, 1) := by decide +kernel
theorem dX7_draws_7 : decode cX7_draws 7 = .ok (.iload_n 1, 1) := by decide +kernel
theorem dX7_draws_8 : decode cX7_draws 8 = .ok (.invokevirtual 73, 3) := by decide +kernel
theorem dX7_draws_11 : decode cX7_draws 11 = .ok (.iload_n 3, 1) := by decide +kernel
theorem dX7_draws_12 : decode cX7_draws 12 = .ok (.iload_n 3, 1) := by decide +kernel
theorem dX7_draws_13 : decode cX7_draws 13 = .ok (.ifCond .eq 24, 3) := by decide +kernel
theorem dX7_draws_16 : decode cX7_draws 16 = .ok (.aload_n 0, 1) := by decide +kernel
theorem dX7_draws_17 : decode cX7_draws 17 = .ok (.iload_n 1, 1) := by decide +kernel
theorem dX7_draws_18 : decode cX7_draws 18 = .ok (.iconst 1, 1) := by decide +kernel
theorem dX7_draws_19 : decode cX7_draws 19 = .ok (.invokevirtual 99, 3) := by decide +kernel
theorem dX7_draws_22 : decode cX7_draws 22 = .ok (.aload_n 0, 1) := by decide +kernel
theorem dX7_draws_23 : decode cX7_draws 23 = .ok (.iload_n 1, 1) := by decide +kernel
theorem dX7_draws_24 : decode cX7_draws 24 = .ok (.iconst 2, 1) := by decide +kernel
theorem dX7_draws_25 : decode cX7_draws 25 = .ok (.invokevirtual 99, 3) := by decide +kernel
theorem dX7_draws_28 : decode cX7_draws 28 = .ok (.iadd, 1) := by decide +kernel
theorem dX7_draws_29 : decode cX7_draws 29 = .ok (.iload_n 2, 1) := by decide +kernel
theorem dX7_draws_30 : decode cX7_draws 30 = .ok (.if_icmp .lt 7, 3) := by decide +kernel
theorem dX7_draws_33 : decode cX7_draws 33 = .ok (.iconst 1, 1) := by decide +kernel
theorem dX7_draws_34 : decode cX7_draws 34 = .ok (.goto 4, 3) := by decide +kernel
theorem dX7_draws_37 : decode cX7_draws 37 = .ok (.iconst 0, 1) := by decide +kernel
theorem dX7_draws_38 : decode cX7_draws 38 = .ok (.iconst 1, 1) := by decide +kernel
theorem dX7_draws_39 : decode cX7_draws 39 = .ok (.invokevirtual 47, 3) := by decide +kernel
theorem dX7_draws_42 : decode cX7_draws 42 = .ok (.ifCond .ne 5, 3) := by decide +kernel
theorem dX7_draws_45 : decode cX7_draws 45 = .ok (.iconst 0, 1) := by decide +kernel
theorem dX7_draws_46 : decode cX7_draws 46 = .ok (.ireturn, 1) := by decide +kernel
theorem dX7_draws_47 : decode cX7_draws 47 = .ok (.aload_n 0, 1) := by decide +kernel
theorem dX7_draws_48 : decode cX7_draws 48 = .ok (.iload_n 1, 1) := by decide +kernel
theorem dX7_draws_49 : decode cX7_draws 49 = .ok (.iload_n 2, 1) := by decide +kernel
theorem dX7_draws_50 : decode cX7_draws 50 = .ok (.ineg, 1) := by decide +kernel
theorem dX7_draws_51 : decode cX7_draws 51 = .ok (.invokevirtual 102, 3) := by decide +kernel
theorem dX7_draws_54 : decode cX7_draws 54 = .ok (.aload_n 0, 1) := by decide +kernel
theorem dX7_draws_55 : decode cX7_draws 55 = .ok (.getfield 9, 3) := by decide +kernel
theorem dX7_draws_58 : decode cX7_draws 58 = .ok (.iload_n 1, 1) := by decide +kernel
theorem dX7_draws_59 : decode cX7_draws 59 = .ok (.invokestatic 77, 3) := by decide +kernel
theorem dX7_draws_62 : decode cX7_draws 62 = .ok (.iconst 3, 1) := by decide +kernel
theorem dX7_draws_63 : decode cX7_draws 63 = .ok (.iadd, 1) := by decide +kernel
theorem dX7_draws_64 : decode cX7_draws 64 = .ok (.iconst 1, 1) := by decide +kernel
theorem dX7_draws_65 : decode cX7_draws 65 = .ok (.iastore, 1) := by decide +kernel
theorem dX7_draws_66 : decode cX7_draws 66 = .ok (.aload_n 0, 1) := by decide +kernel
theorem dX7_draws_67 : decode cX7_draws 67 = .ok (.getfield 9, 3) := by decide +kernel
theorem dX7_draws_70 : decode cX7_draws 70 = .ok (.bipush 6, 2) := by decide +kernel
theorem dX7_draws_72 : decode cX7_draws 72 = .ok (.dup2, 1) := by decide +kernel
theorem dX7_draws_73 : decode cX7_draws 73 = .ok (.iaload, 1) := by decide +kernel
theorem dX7_draws_74 : decode cX7_draws 74 = .ok (.iload_n 2, 1) := by decide +kernel
theorem dX7_draws_75 : decode cX7_draws 75 = .ok (.iadd, 1) := by decide +kernel
theorem dX7_draws_76 : decode cX7_draws 76 = .ok (.iastore, 1) := by decide +kernel
theorem dX7_draws_77 : decode cX7_draws 77 = .ok (.aload_n 0, 1) := by decide +kernel
theorem dX7_draws_78 : decode cX7_draws 78 = .ok (.bipush 119, 2) := by decide +kernel
theorem dX7_draws_80 : decode cX7_draws 80 = .ok (.iload_n 2, 1) := by decide +kernel
theorem dX7_draws_81 : decode cX7_draws 81 = .ok (.iload_n 1, 1) := by decide +kernel
theorem dX7_draws_82 : decode cX7_draws 82 = .ok (.invokevirtual 106, 3) := by decide +kernel
theorem dX7_draws_85 : decode cX7_draws 85 = .ok (.aload_n 0, 1) := by decide +kernel
theorem dX7_draws_86 : decode cX7_draws 86 = .ok (.iload_n 1, 1) := by decide +kernel
theorem dX7_draws_87 : decode cX7_draws 87 = .ok (.iconst 1, 1) := by decide +kernel
theorem dX7_draws_88 : decode cX7_draws 88 = .ok (.invokevirtual 99, 3) := by decide +kernel
theorem dX7_draws_91 : decode cX7_draws 91 = .ok (.ireturn, 1) := by decide +kernel
theorem dX7_withdraw_0 : decode cX7_withdraw 0 = .ok (.aload_n 0, 1) := by decide +kernel
theorem dX7_withdraw_1 : decode cX7_withdraw 1 = .ok (.invokevirtual 87, 3) := by decide +kernel
theorem dX7_withdraw_4 : decode cX7_withdraw 4 = .ok (.aload_n 0, 1) := by decide +kernel
theorem dX7_withdraw_5 : decode cX7_withdraw 5 = .ok (.aload_n 0, 1) := by decide +kernel
theorem dX7_withdraw_6 : decode cX7_withdraw 6 = .ok (.iload_n 1, 1) := by decide +kernel
theorem dX7_withdraw_7 : decode cX7_withdraw 7 = .ok (.iload_n 2, 1) := by decide +kernel
theorem dX7_withdraw_8 : decode cX7_withdraw 8 = .ok (.invokevirtual 113, 3) := by decide +kernel
theorem dX7_withdraw_11 : decode cX7_withdraw 11 = .ok (.invokevirtual 93, 3) := by decide +kernel
theorem dX7_withdraw_14 : decode cX7_withdraw 14 = .ok (.ireturn, 1) := by decide +kernel
theorem dX7_limits_0 : decode cX7_limits 0 = .ok (.iload_n 2, 1) := by decide +kernel
theorem dX7_limits_1 : decode cX7_limits 1 = .ok (.iconst 0, 1) := by decide +kernel
theorem dX7_limits_2 : decode cX7_limits 2 = .ok (.sipush 500, 3) := by decide +kernel
theorem dX7_limits_5 : decode cX7_limits 5 = .ok (.invokestatic 69, 3) := by decide +kernel
theorem dX7_limits_8 : decode cX7_limits 8 = .ok (.istore_n 3, 1) := by decide +kernel
theorem dX7_limits_9 : decode cX7_limits 9 = .ok (.aload_n 0, 1) := by decide +kernel
theorem dX7_limits_10 : decode cX7_limits 10 = .ok (.iload_n 1, 1) := by decide +kernel
theorem dX7_limits_11 : decode cX7_limits 11 = .ok (.iconst 0, 1) := by decide +kernel
theorem dX7_limits_12 : decode cX7_limits 12 = .ok (.invokevirtual 99, 3) := by decide +kernel
theorem dX7_limits_15 : decode cX7_limits 15 = .ok (.iconst 2, 1) := by decide +kernel
theorem dX7_limits_16 : decode cX7_limits 16 = .ok (.irem, 1) := by decide +kernel
theorem dX7_limits_17 : decode cX7_limits 17 = .ok (.ifCond .ne 7, 3) := by decide +kernel
theorem dX7_limits_20 : decode cX7_limits 20 = .ok (.iconst 1, 1) := by decide +kernel
theorem dX7_limits_21 : decode cX7_limits 21 = .ok (.goto 4, 3) := by decide +kernel
theorem dX7_limits_24 : decode cX7_limits 24 = .ok (.iconst 0, 1) := by decide +kernel
theorem dX7_limits_25 : decode cX7_limits 25 = .ok (.istore 4, 2) := by decide +kernel
theorem dX7_limits_27 : decode cX7_limits 27 = .ok (.aload_n 0, 1) := by decide +kernel
theorem dX7_limits_28 : decode cX7_limits 28 = .ok (.iload_n 1, 1) := by decide +kernel
theorem dX7_limits_29 : decode cX7_limits 29 = .ok (.iconst 2, 1) := by decide +kernel
theorem dX7_limits_30 : decode cX7_limits 30 = .ok (.invokevirtual 99, 3) := by decide +kernel
theorem dX7_limits_33 : decode cX7_limits 33 = .ok (.istore 5, 2) := by decide +kernel
theorem dX7_limits_35 : decode cX7_limits 35 = .ok (.aload_n 0, 1) := by decide +kernel
theorem dX7_limits_36 : decode cX7_limits 36 = .ok (.aload_n 0, 1) := by decide +kernel
theorem dX7_limits_37 : decode cX7_limits 37 = .ok (.iload_n 1, 1) := by decide +kernel
theorem dX7_limits_38 : decode cX7_limits 38 = .ok (.invokevirtual 73, 3) := by decide +kernel
theorem dX7_limits_41 : decode cX7_limits 41 = .ok (.iload_n 3, 1) := by decide +kernel
theorem dX7_limits_42 : decode cX7_limits 42 = .ok (.iload 4, 2) := by decide +kernel
theorem dX7_limits_44 : decode cX7_limits 44 = .ok (.iload_n 3, 1) := by decide +kernel
theorem dX7_limits_45 : decode cX7_limits 45 = .ok (.ifCond .eq 18, 3) := by decide +kernel
theorem dX7_limits_48 : decode cX7_limits 48 = .ok (.aload_n 0, 1) := by decide +kernel
theorem dX7_limits_49 : decode cX7_limits 49 = .ok (.iload_n 1, 1) := by decide +kernel
theorem dX7_limits_50 : decode cX7_limits 50 = .ok (.iconst 1, 1) := by decide +kernel
theorem dX7_limits_51 : decode cX7_limits 51 = .ok (.invokevirtual 99, 3) := by decide +kernel
theorem dX7_limits_54 : decode cX7_limits 54 = .ok (.iload_n 2, 1) := by decide +kernel
theorem dX7_limits_55 : decode cX7_limits 55 = .ok (.iadd, 1) := by decide +kernel
theorem dX7_limits_56 : decode cX7_limits 56 = .ok (.ifCond .lt 7, 3) := by decide +kernel
theorem dX7_limits_59 : decode cX7_limits 59 = .ok (.iconst 1, 1) := by decide +kernel
theorem dX7_limits_60 : decode cX7_limits 60 = .ok (.goto 4, 3) := by decide +kernel
theorem dX7_limits_63 : decode cX7_limits 63 = .ok (.iconst 0, 1) := by decide +kernel
theorem dX7_limits_64 : decode cX7_limits 64 = .ok (.invokevirtual 47, 3) := by decide +kernel
theorem dX7_limits_67 : decode cX7_limits 67 = .ok (.ifCond .eq 15, 3) := by decide +kernel
theorem dX7_limits_70 : decode cX7_limits 70 = .ok (.aload_n 0, 1) := by decide +kernel
theorem dX7_limits_71 : decode cX7_limits 71 = .ok (.getfield 9, 3) := by decide +kernel
theorem dX7_limits_74 : decode cX7_limits 74 = .ok (.iload_n 1, 1) := by decide +kernel
theorem dX7_limits_75 : decode cX7_limits 75 = .ok (.invokestatic 77, 3) := by decide +kernel
theorem dX7_limits_78 : decode cX7_limits 78 = .ok (.iconst 2, 1) := by decide +kernel
theorem dX7_limits_79 : decode cX7_limits 79 = .ok (.iadd, 1) := by decide +kernel
theorem dX7_limits_80 : decode cX7_limits 80 = .ok (.iload_n 2, 1) := by decide +kernel
theorem dX7_limits_81 : decode cX7_limits 81 = .ok (.iastore, 1) := by decide +kernel
theorem dX7_limits_82 : decode cX7_limits 82 = .ok (.iload 5, 2) := by decide +kernel
theorem dX7_limits_84 : decode cX7_limits 84 = .ok (.ireturn, 1) := by decide +kernel
theorem dX7_setLimit_0 : decode cX7_setLimit 0 = .ok (.aload_n 0, 1) := by decide +kernel
theorem dX7_setLimit_1 : decode cX7_setLimit 1 = .ok (.invokevirtual 87, 3) := by decide +kernel
theorem dX7_setLimit_4 : decode cX7_setLimit 4 = .ok (.aload_n 0, 1) := by decide +kernel
theorem dX7_setLimit_5 : decode cX7_setLimit 5 = .ok (.aload_n 0, 1) := by decide +kernel
theorem dX7_setLimit_6 : decode cX7_setLimit 6 = .ok (.iload_n 1, 1) := by decide +kernel
theorem dX7_setLimit_7 : decode cX7_setLimit 7 = .ok (.iload_n 2, 1) := by decide +kernel
theorem dX7_setLimit_8 : decode cX7_setLimit 8 = .ok (.invokevirtual 116, 3) := by decide +kernel
theorem dX7_setLimit_11 : decode cX7_setLimit 11 = .ok (.invokevirtual 93, 3) := by decide +kernel
theorem dX7_setLimit_14 : decode cX7_setLimit 14 = .ok (.ireturn, 1) := by decide +kernel
theorem dX7_seals_0 : decode cX7_seals 0 = .ok (.iload_n 1, 1) := by decide +kernel
theorem dX7_seals_1 : decode cX7_seals 1 = .ok (.iload_n 2, 1) := by decide +kernel
theorem dX7_seals_2 : decode cX7_seals 2 = .ok (.if_icmp .eq 25, 3) := by decide +kernel
theorem dX7_seals_5 : decode cX7_seals 5 = .ok (.iload_n 3, 1) := by decide +kernel
theorem dX7_seals_6 : decode cX7_seals 6 = .ok (.invokestatic 96, 3) := by decide +kernel
theorem dX7_seals_9 : decode cX7_seals 9 = .ok (.ifCond .eq 18, 3) := by decide +kernel
theorem dX7_seals_12 : decode cX7_seals 12 = .ok (.iload 4, 2) := by decide +kernel
theorem dX7_seals_14 : decode cX7_seals 14 = .ok (.iconst 0, 1) := by decide +kernel
theorem dX7_seals_15 : decode cX7_seals 15 = .ok (.bipush 60, 2) := by decide +kernel
theorem dX7_seals_17 : decode cX7_seals 17 = .ok (.invokestatic 69, 3) := by decide +kernel
theorem dX7_seals_20 : decode cX7_seals 20 = .ok (.ifCond .eq 7, 3) := by decide +kernel
theorem dX7_seals_23 : decode cX7_seals 23 = .ok (.iconst 1, 1) := by decide +kernel
theorem dX7_seals_24 : decode cX7_seals 24 = .ok (.goto 4, 3) := by decide +kernel
theorem dX7_seals_27 : decode cX7_seals 27 = .ok (.iconst 0, 1) := by decide +kernel
theorem dX7_seals_28 : decode cX7_seals 28 = .ok (.istore 5, 2) := by decide +kernel
theorem dX7_seals_30 : decode cX7_seals 30 = .ok (.aload_n 0, 1) := by decide +kernel
theorem dX7_seals_31 : decode cX7_seals 31 = .ok (.aload_n 0, 1) := by decide +kernel
theorem dX7_seals_32 : decode cX7_seals 32 = .ok (.iload_n 1, 1) := by decide +kernel
theorem dX7_seals_33 : decode cX7_seals 33 = .ok (.invokevirtual 73, 3) := by decide +kernel
theorem dX7_seals_36 : decode cX7_seals 36 = .ok (.ifCond .eq 15, 3) := by decide +kernel
theorem dX7_seals_39 : decode cX7_seals 39 = .ok (.aload_n 0, 1) := by decide +kernel
theorem dX7_seals_40 : decode cX7_seals 40 = .ok (.iload_n 2, 1) := by decide +kernel
theorem dX7_seals_41 : decode cX7_seals 41 = .ok (.invokevirtual 73, 3) := by decide +kernel
theorem dX7_seals_44 : decode cX7_seals 44 = .ok (.ifCond .eq 7, 3) := by decide +kernel
theorem dX7_seals_47 : decode cX7_seals 47 = .ok (.iconst 1, 1) := by decide +kernel
theorem dX7_seals_48 : decode cX7_seals 48 = .ok (.goto 4, 3) := by decide +kernel
theorem dX7_seals_51 : decode cX7_seals 51 = .ok (.iconst 0, 1) := by decide +kernel
theorem dX7_seals_52 : decode cX7_seals 52 = .ok (.iload 5, 2) := by decide +kernel
theorem dX7_seals_54 : decode cX7_seals 54 = .ok (.aload_n 0, 1) := by decide +kernel
theorem dX7_seals_55 : decode cX7_seals 55 = .ok (.getfield 9, 3) := by decide +kernel
theorem dX7_seals_58 : decode cX7_seals 58 = .ok (.iconst 3, 1) := by decide +kernel
theorem dX7_seals_59 : decode cX7_seals 59 = .ok (.iaload, 1) := by decide +kernel
theorem dX7_seals_60 : decode cX7_seals 60 = .ok (.bipush 10, 2) := by decide +kernel
theorem dX7_seals_62 : decode cX7_seals 62 = .ok (.if_icmp .ge 7, 3) := by decide +kernel
theorem dX7_seals_65 : decode cX7_seals 65 = .ok (.iconst 1, 1) := by decide +kernel
theorem dX7_seals_66 : decode cX7_seals 66 = .ok (.goto 4, 3) := by decide +kernel
theorem dX7_seals_69 : decode cX7_seals 69 = .ok (.iconst 0, 1) := by decide +kernel
theorem dX7_seals_70 : decode cX7_seals 70 = .ok (.iconst 1, 1) := by decide +kernel
theorem dX7_seals_71 : decode cX7_seals 71 = .ok (.invokevirtual 47, 3) := by decide +kernel
theorem dX7_seals_74 : decode cX7_seals 74 = .ok (.ifCond .ne 5, 3) := by decide +kernel
theorem dX7_seals_77 : decode cX7_seals 77 = .ok (.iconst 0, 1) := by decide +kernel
theorem dX7_seals_78 : decode cX7_seals 78 = .ok (.ireturn, 1) := by decide +kernel
theorem dX7_seals_79 : decode cX7_seals 79 = .ok (.bipush 44, 2) := by decide +kernel
theorem dX7_seals_81 : decode cX7_seals 81 = .ok (.iconst 5, 1) := by decide +kernel
theorem dX7_seals_82 : decode cX7_seals 82 = .ok (.aload_n 0, 1) := by decide +kernel
theorem dX7_seals_83 : decode cX7_seals 83 = .ok (.getfield 9, 3) := by decide +kernel
theorem dX7_seals_86 : decode cX7_seals 86 = .ok (.iconst 3, 1) := by decide +kernel
theorem dX7_seals_87 : decode cX7_seals 87 = .ok (.iaload, 1) := by decide +kernel
theorem dX7_seals_88 : decode cX7_seals 88 = .ok (.imul, 1) := by decide +kernel
theorem dX7_seals_89 : decode cX7_seals 89 = .ok (.iadd, 1) := by decide +kernel
theorem dX7_seals_90 : decode cX7_seals 90 = .ok (.istore 6, 2) := by decide +kernel
theorem dX7_seals_92 : decode cX7_seals 92 = .ok (.aload_n 0, 1) := by decide +kernel
theorem dX7_seals_93 : decode cX7_seals 93 = .ok (.getfield 9, 3) := by decide +kernel
theorem dX7_seals_96 : decode cX7_seals 96 = .ok (.iload 6, 2) := by decide +kernel
theorem dX7_seals_98 : decode cX7_seals 98 = .ok (.iconst 0, 1) := by decide +kernel
theorem dX7_seals_99 : decode cX7_seals 99 = .ok (.iadd, 1) := by decide +kernel
theorem dX7_seals_100 : decode cX7_seals 100 = .ok (.aload_n 0, 1) := by decide +kernel
theorem dX7_seals_101 : decode cX7_seals 101 = .ok (.getfield 9, 3) := by decide +kernel
theorem dX7_seals_104 : decode cX7_seals 104 = .ok (.iconst 2, 1) := by decide +kernel
theorem dX7_seals_105 : decode cX7_seals 105 = .ok (.iaload, 1) := by decide +kernel
theorem dX7_seals_106 : decode cX7_seals 106 = .ok (.iastore, 1) := by decide +kernel
theorem dX7_seals_107 : decode cX7_seals 107 = .ok (.aload_n 0, 1) := by decide +kernel
theorem dX7_seals_108 : decode cX7_seals 108 = .ok (.getfield 9, 3) := by decide +kernel
theorem dX7_seals_111 : decode cX7_seals 111 = .ok (.iload 6, 2) := by decide +kernel
theorem dX7_seals_113 : decode cX7_seals 113 = .ok (.iconst 1, 1) := by decide +kernel
theorem dX7_seals_114 : decode cX7_seals 114 = .ok (.iadd, 1) := by decide +kernel
theorem dX7_seals_115 : decode cX7_seals 115 = .ok (.iload_n 1, 1) := by decide +kernel
theorem dX7_seals_116 : decode cX7_seals 116 = .ok (.iastore, 1) := by decide +kernel
theorem dX7_seals_117 : decode cX7_seals 117 = .ok (.aload_n 0, 1) := by decide +kernel
theorem dX7_seals_118 : decode cX7_seals 118 = .ok (.getfield 9, 3) := by decide +kernel
theorem dX7_seals_121 : decode cX7_seals 121 = .ok (.iload 6, 2) := by decide +kernel
theorem dX7_seals_123 : decode cX7_seals 123 = .ok (.iconst 2, 1) := by decide +kernel
theorem dX7_seals_124 : decode cX7_seals 124 = .ok (.iadd, 1) := by decide +kernel
theorem dX7_seals_125 : decode cX7_seals 125 = .ok (.iload_n 2, 1) := by decide +kernel
theorem dX7_seals_126 : decode cX7_seals 126 = .ok (.iastore, 1) := by decide +kernel
theorem dX7_seals_127 : decode cX7_seals 127 = .ok (.aload_n 0, 1) := by decide +kernel
theorem dX7_seals_128 : decode cX7_seals 128 = .ok (.getfield 9, 3) := by decide +kernel
theorem dX7_seals_131 : decode cX7_seals 131 = .ok (.iload 6, 2) := by decide +kernel
theorem dX7_seals_133 : decode cX7_seals 133 = .ok (.iconst 3, 1) := by decide +kernel
theorem dX7_seals_134 : decode cX7_seals 134 = .ok (.iadd, 1) := by decide +kernel
theorem dX7_seals_135 : decode cX7_seals 135 = .ok (.iload_n 3, 1) := by decide +kernel
theorem dX7_seals_136 : decode cX7_seals 136 = .ok (.iastore, 1) := by decide +kernel
theorem dX7_seals_137 : decode cX7_seals 137 = .ok (.aload_n 0, 1) := by decide +kernel
theorem dX7_seals_138 : decode cX7_seals 138 = .ok (.getfield 9, 3) := by decide +kernel
theorem dX7_seals_141 : decode cX7_seals 141 = .ok (.iload 6, 2) := by decide +kernel
theorem dX7_seals_143 : decode cX7_seals 143 = .ok (.iconst 4, 1) := by decide +kernel
theorem dX7_seals_144 : decode cX7_seals 144 = .ok (.iadd, 1) := by decide +kernel
theorem dX7_seals_145 : decode cX7_seals 145 = .ok (.aload_n 0, 1) := by decide +kernel
theorem dX7_seals_146 : decode cX7_seals 146 = .ok (.getfield 9, 3) := by decide +kernel
theorem dX7_seals_149 : decode cX7_seals 149 = .ok (.iconst 0, 1) := by decide +kernel
theorem dX7_seals_150 : decode cX7_seals 150 = .ok (.iaload, 1) := by decide +kernel
theorem dX7_seals_151 : decode cX7_seals 151 = .ok (.iload 4, 2) := by decide +kernel
theorem dX7_seals_153 : decode cX7_seals 153 = .ok (.iadd, 1) := by decide +kernel
theorem dX7_seals_154 : decode cX7_seals 154 = .ok (.iastore, 1) := by decide +kernel
theorem dX7_seals_155 : decode cX7_seals 155 = .ok (.aload_n 0, 1) := by decide +kernel
theorem dX7_seals_156 : decode cX7_seals 156 = .ok (.getfield 9, 3) := by decide +kernel
theorem dX7_seals_159 : decode cX7_seals 159 = .ok (.iconst 3, 1) := by decide +kernel
theorem dX7_seals_160 : decode cX7_seals 160 = .ok (.dup2, 1) := by decide +kernel
theorem dX7_seals_161 : decode cX7_seals 161 = .ok (.iaload, 1) := by decide +kernel
theorem dX7_seals_162 : decode cX7_seals 162 = .ok (.iconst 1, 1) := by decide +kernel
theorem dX7_seals_163 : decode cX7_seals 163 = .ok (.iadd, 1) := by decide +kernel
theorem dX7_seals_164 : decode cX7_seals 164 = .ok (.iastore, 1) := by decide +kernel
theorem dX7_seals_165 : decode cX7_seals 165 = .ok (.aload_n 0, 1) := by decide +kernel
theorem dX7_seals_166 : decode cX7_seals 166 = .ok (.getfield 9, 3) := by decide +kernel
theorem dX7_seals_169 : decode cX7_seals 169 = .ok (.iconst 2, 1) := by decide +kernel
theorem dX7_seals_170 : decode cX7_seals 170 = .ok (.dup2, 1) := by decide +kernel
theorem dX7_seals_171 : decode cX7_seals 171 = .ok (.iaload, 1) := by decide +kernel
theorem dX7_seals_172 : decode cX7_seals 172 = .ok (.iconst 1, 1) := by decide +kernel
theorem dX7_seals_173 : decode cX7_seals 173 = .ok (.iadd, 1) := by decide +kernel
theorem dX7_seals_174 : decode cX7_seals 174 = .ok (.iastore, 1) := by decide +kernel
theorem dX7_seals_175 : decode cX7_seals 175 = .ok (.aload_n 0, 1) := by decide +kernel
theorem dX7_seals_176 : decode cX7_seals 176 = .ok (.getfield 9, 3) := by decide +kernel
theorem dX7_seals_179 : decode cX7_seals 179 = .ok (.iconst 2, 1) := by decide +kernel
theorem dX7_seals_180 : decode cX7_seals 180 = .ok (.iaload, 1) := by decide +kernel
theorem dX7_seals_181 : decode cX7_seals 181 = .ok (.iconst 1, 1) := by decide +kernel
theorem dX7_seals_182 : decode cX7_seals 182 = .ok (.isub, 1) := by decide +kernel
theorem dX7_seals_183 : decode cX7_seals 183 = .ok (.ireturn, 1) := by decide +kernel
theorem dX7_seal_0 : decode cX7_seal 0 = .ok (.aload_n 0, 1) := by decide +kernel
theorem dX7_seal_1 : decode cX7_seal 1 = .ok (.invokevirtual 87, 3) := by decide +kernel
theorem dX7_seal_4 : decode cX7_seal 4 = .ok (.aload_n 0, 1) := by decide +kernel
theorem dX7_seal_5 : decode cX7_seal 5 = .ok (.aload_n 0, 1) := by decide +kernel
theorem dX7_seal_6 : decode cX7_seal 6 = .ok (.iload_n 1, 1) := by decide +kernel
theorem dX7_seal_7 : decode cX7_seal 7 = .ok (.iload_n 2, 1) := by decide +kernel
theorem dX7_seal_8 : decode cX7_seal 8 = .ok (.iload_n 3, 1) := by decide +kernel
theorem dX7_seal_9 : decode cX7_seal 9 = .ok (.iload 4, 2) := by decide +kernel
theorem dX7_seal_11 : decode cX7_seal 11 = .ok (.invokevirtual 119, 3) := by decide +kernel
theorem dX7_seal_14 : decode cX7_seal 14 = .ok (.invokevirtual 93, 3) := by decide +kernel
theorem dX7_seal_17 : decode cX7_seal 17 = .ok (.ireturn, 1) := by decide +kernel
theorem dX7_voids_0 : decode cX7_voids 0 = .ok (.aload_n 0, 1) := by decide +kernel
theorem dX7_voids_1 : decode cX7_voids 1 = .ok (.iload_n 1, 1) := by decide +kernel
theorem dX7_voids_2 : decode cX7_voids 2 = .ok (.invokevirtual 123, 3) := by decide +kernel
theorem dX7_voids_5 : decode cX7_voids 5 = .ok (.istore_n 2, 1) := by decide +kernel
theorem dX7_voids_6 : decode cX7_voids 6 = .ok (.aload_n 0, 1) := by decide +kernel
theorem dX7_voids_7 : decode cX7_voids 7 = .ok (.iload_n 2, 1) := by decide +kernel
theorem dX7_voids_8 : decode cX7_voids 8 = .ok (.iconst (-1), 1) := by decide +kernel
theorem dX7_voids_9 : decode cX7_voids 9 = .ok (.if_icmp .eq 7, 3) := by decide +kernel
theorem dX7_voids_12 : decode cX7_voids 12 = .ok (.iconst 1, 1) := by decide +kernel
theorem dX7_voids_13 : decode cX7_voids 13 = .ok (.goto 4, 3) := by decide +kernel
theorem dX7_voids_16 : decode cX7_voids 16 = .ok (.iconst 0, 1) := by decide +kernel
theorem dX7_voids_17 : decode cX7_voids 17 = .ok (.invokevirtual 61, 3) := by decide +kernel
theorem dX7_voids_20 : decode cX7_voids 20 = .ok (.ifCond .ne 5, 3) := by decide +kernel
theorem dX7_voids_23 : decode cX7_voids 23 = .ok (.iconst 0, 1) := by decide +kernel
theorem dX7_voids_24 : decode cX7_voids 24 = .ok (.ireturn, 1) := by decide +kernel
theorem dX7_voids_25 : decode cX7_voids 25 = .ok (.aload_n 0, 1) := by decide +kernel
theorem dX7_voids_26 : decode cX7_voids 26 = .ok (.iload_n 2, 1) := by decide +kernel
theorem dX7_voids_27 : decode cX7_voids 27 = .ok (.iconst 3, 1) := by decide +kernel
theorem dX7_voids_28 : decode cX7_voids 28 = .ok (.invokevirtual 126, 3) := by decide +kernel
theorem dX7_voids_31 : decode cX7_voids 31 = .ok (.istore_n 3, 1) := by decide +kernel
theorem dX7_voids_32 : decode cX7_voids 32 = .ok (.aload_n 0, 1) := by decide +kernel
theorem dX7_voids_33 : decode cX7_voids 33 = .ok (.iload_n 2, 1) := by decide +kernel
theorem dX7_voids_34 : decode cX7_voids 34 = .ok (.invokevirtual 129, 3) := by decide +kernel
theorem dX7_voids_37 : decode cX7_voids 37 = .ok (.iload_n 3, 1) := by decide +kernel
theorem dX7_voids_38 : decode cX7_voids 38 = .ok (.ireturn, 1) := by decide +kernel
theorem dX7_cancel_0 : decode cX7_cancel 0 = .ok (.aload_n 0, 1) := by decide +kernel
theorem dX7_cancel_1 : decode cX7_cancel 1 = .ok (.invokevirtual 87, 3) := by decide +kernel
theorem dX7_cancel_4 : decode cX7_cancel 4 = .ok (.aload_n 0, 1) := by decide +kernel
theorem dX7_cancel_5 : decode cX7_cancel 5 = .ok (.aload_n 0, 1) := by decide +kernel
theorem dX7_cancel_6 : decode cX7_cancel 6 = .ok (.iload_n 1, 1) := by decide +kernel
theorem dX7_cancel_7 : decode cX7_cancel 7 = .ok (.invokevirtual 133, 3) := by decide +kernel
theorem dX7_cancel_10 : decode cX7_cancel 10 = .ok (.invokevirtual 93, 3) := by decide +kernel
theorem dX7_cancel_13 : decode cX7_cancel 13 = .ok (.ireturn, 1) := by decide +kernel
theorem dX7_atMost_0 : decode cX7_atMost 0 = .ok (.iload_n 2, 1) := by decide +kernel
theorem dX7_atMost_1 : decode cX7_atMost 1 = .ok (.aload_n 0, 1) := by decide +kernel
theorem dX7_atMost_2 : decode cX7_atMost 2 = .ok (.iload_n 1, 1) := by decide +kernel
theorem dX7_atMost_3 : decode cX7_atMost 3 = .ok (.iconst 1, 1) := by decide +kernel
theorem dX7_atMost_4 : decode cX7_atMost 4 = .ok (.invokevirtual 99, 3) := by decide +kernel
theorem dX7_atMost_7 : decode cX7_atMost 7 = .ok (.aload_n 0, 1) := by decide +kernel
theorem dX7_atMost_8 : decode cX7_atMost 8 = .ok (.iload_n 1, 1) := by decide +kernel
theorem dX7_atMost_9 : decode cX7_atMost 9 = .ok (.iconst 2, 1) := by decide +kernel
theorem dX7_atMost_10 : decode cX7_atMost 10 = .ok (.invokevirtual 99, 3) := by decide +kernel
theorem dX7_atMost_13 : decode cX7_atMost 13 = .ok (.iadd, 1) := by decide +kernel
theorem dX7_atMost_14 : decode cX7_atMost 14 = .ok (.invokestatic 81, 3) := by decide +kernel
theorem dX7_atMost_17 : decode cX7_atMost 17 = .ok (.ireturn, 1) := by decide +kernel
theorem dX7_earns_0 : decode cX7_earns 0 = .ok (.aload_n 0, 1) := by decide +kernel
theorem dX7_earns_1 : decode cX7_earns 1 = .ok (.iload_n 1, 1) := by decide +kernel
theorem dX7_earns_2 : decode cX7_earns 2 = .ok (.iconst 1, 1) := by decide +kernel
theorem dX7_earns_3 : decode cX7_earns 3 = .ok (.invokevirtual 99, 3) := by decide +kernel
theorem dX7_earns_6 : decode cX7_earns 6 = .ok (.istore_n 2, 1) := by decide +kernel
theorem dX7_earns_7 : decode cX7_earns 7 = .ok (.iload_n 2, 1) := by decide +kernel
theorem dX7_earns_8 : decode cX7_earns 8 = .ok (.sipush 9999, 3) := by decide +kernel
theorem dX7_earns_11 : decode cX7_earns 11 = .ok (.invokestatic 81, 3) := by decide +kernel
theorem dX7_earns_14 : decode cX7_earns 14 = .ok (.bipush 100, 2) := by decide +kernel
theorem dX7_earns_16 : decode cX7_earns 16 = .ok (.idiv, 1) := by decide +kernel
theorem dX7_earns_17 : decode cX7_earns 17 = .ok (.istore_n 3, 1) := by decide +kernel
theorem dX7_earns_18 : decode cX7_earns 18 = .ok (.aload_n 0, 1) := by decide +kernel
theorem dX7_earns_19 : decode cX7_earns 19 = .ok (.iload_n 1, 1) := by decide +kernel
theorem dX7_earns_20 : decode cX7_earns 20 = .ok (.iconst 0, 1) := by decide +kernel
theorem dX7_earns_21 : decode cX7_earns 21 = .ok (.invokevirtual 99, 3) := by decide +kernel
theorem dX7_earns_24 : decode cX7_earns 24 = .ok (.tableswitch 79 0 2 #[28, 54, 63], 28) := by decide +kernel
theorem dX7_earns_52 : decode cX7_earns 52 = .ok (.iload_n 2, 1) := by decide +kernel
theorem dX7_earns_53 : decode cX7_earns 53 = .ok (.ifCond .lt 7, 3) := by decide +kernel
theorem dX7_earns_56 : decode cX7_earns 56 = .ok (.iload_n 3, 1) := by decide +kernel
theorem dX7_earns_57 : decode cX7_earns 57 = .ok (.goto 20, 3) := by decide +kernel
theorem dX7_earns_60 : decode cX7_earns 60 = .ok (.aload_n 0, 1) := by decide +kernel
theorem dX7_earns_61 : decode cX7_earns 61 = .ok (.iload_n 1, 1) := by decide +kernel
theorem dX7_earns_62 : decode cX7_earns 62 = .ok (.iconst 1, 1) := by decide +kernel
theorem dX7_earns_63 : decode cX7_earns 63 = .ok (.iconst 2, 1) := by decide +kernel
theorem dX7_earns_64 : decode cX7_earns 64 = .ok (.iload_n 2, 1) := by decide +kernel
theorem dX7_earns_65 : decode cX7_earns 65 = .ok (.ineg, 1) := by decide +kernel
theorem dX7_earns_66 : decode cX7_earns 66 = .ok (.bipush 50, 2) := by decide +kernel
theorem dX7_earns_68 : decode cX7_earns 68 = .ok (.idiv, 1) := by decide +kernel
theorem dX7_earns_69 : decode cX7_earns 69 = .ok (.imul, 1) := by decide +kernel
theorem dX7_earns_70 : decode cX7_earns 70 = .ok (.invokestatic 136, 3) := by decide +kernel
theorem dX7_earns_73 : decode cX7_earns 73 = .ok (.invokevirtual 139, 3) := by decide +kernel
theorem dX7_earns_76 : decode cX7_earns 76 = .ok (.ineg, 1) := by decide +kernel
theorem dX7_earns_77 : decode cX7_earns 77 = .ok (.ireturn, 1) := by decide +kernel
theorem dX7_earns_78 : decode cX7_earns 78 = .ok (.bipush 30, 2) := by decide +kernel
theorem dX7_earns_80 : decode cX7_earns 80 = .ok (.iconst 3, 1) := by decide +kernel
theorem dX7_earns_81 : decode cX7_earns 81 = .ok (.iload_n 3, 1) := by decide +kernel
theorem dX7_earns_82 : decode cX7_earns 82 = .ok (.imul, 1) := by decide +kernel
theorem dX7_earns_83 : decode cX7_earns 83 = .ok (.invokestatic 81, 3) := by decide +kernel
theorem dX7_earns_86 : decode cX7_earns 86 = .ok (.ireturn, 1) := by decide +kernel
theorem dX7_earns_87 : decode cX7_earns 87 = .ok (.iload_n 2, 1) := by decide +kernel
theorem dX7_earns_88 : decode cX7_earns 88 = .ok (.ifCond .lt 7, 3) := by decide +kernel
theorem dX7_earns_91 : decode cX7_earns 91 = .ok (.iconst 0, 1) := by decide +kernel
theorem dX7_earns_92 : decode cX7_earns 92 = .ok (.goto 10, 3) := by decide +kernel
theorem dX7_earns_95 : decode cX7_earns 95 = .ok (.aload_n 0, 1) := by decide +kernel
theorem dX7_earns_96 : decode cX7_earns 96 = .ok (.iload_n 1, 1) := by decide +kernel
theorem dX7_earns_97 : decode cX7_earns 97 = .ok (.iconst 5, 1) := by decide +kernel
theorem dX7_earns_98 : decode cX7_earns 98 = .ok (.invokevirtual 139, 3) := by decide +kernel
theorem dX7_earns_101 : decode cX7_earns 101 = .ok (.ineg, 1) := by decide +kernel
theorem dX7_earns_102 : decode cX7_earns 102 = .ok (.ireturn, 1) := by decide +kernel
theorem dX7_earns_103 : decode cX7_earns 103 = .ok (.aload_n 0, 1) := by decide +kernel
theorem dX7_earns_104 : decode cX7_earns 104 = .ok (.iload_n 1, 1) := by decide +kernel
theorem dX7_earns_105 : decode cX7_earns 105 = .ok (.iconst 3, 1) := by decide +kernel
theorem dX7_earns_106 : decode cX7_earns 106 = .ok (.invokevirtual 99, 3) := by decide +kernel
theorem dX7_earns_109 : decode cX7_earns 109 = .ok (.iconst 1, 1) := by decide +kernel
theorem dX7_earns_110 : decode cX7_earns 110 = .ok (.if_icmp .ne 7, 3) := by decide +kernel
theorem dX7_earns_113 : decode cX7_earns 113 = .ok (.iconst 0, 1) := by decide +kernel
theorem dX7_earns_114 : decode cX7_earns 114 = .ok (.goto 6, 3) := by decide +kernel
theorem dX7_earns_117 : decode cX7_earns 117 = .ok (.iconst 5, 1) := by decide +kernel
theorem dX7_earns_118 : decode cX7_earns 118 = .ok (.iload_n 3, 1) := by decide +kernel
theorem dX7_earns_119 : decode cX7_earns 119 = .ok (.imul, 1) := by decide +kernel
theorem dX7_earns_120 : decode cX7_earns 120 = .ok (.ireturn, 1) := by decide +kernel
theorem dX7_isMoved_0 : decode cX7_isMoved 0 = .ok (.aload_n 0, 1) := by decide +kernel
theorem dX7_isMoved_1 : decode cX7_isMoved 1 = .ok (.iload_n 1, 1) := by decide +kernel
theorem dX7_isMoved_2 : decode cX7_isMoved 2 = .ok (.iconst 1, 1) := by decide +kernel
theorem dX7_isMoved_3 : decode cX7_isMoved 3 = .ok (.invokevirtual 126, 3) := by decide +kernel
theorem dX7_isMoved_6 : decode cX7_isMoved 6 = .ok (.istore_n 2, 1) := by decide +kernel
theorem dX7_isMoved_7 : decode cX7_isMoved 7 = .ok (.aload_n 0, 1) := by decide +kernel
theorem dX7_isMoved_8 : decode cX7_isMoved 8 = .ok (.iload_n 1, 1) := by decide +kernel
theorem dX7_isMoved_9 : decode cX7_isMoved 9 = .ok (.iconst 3, 1) := by decide +kernel
theorem dX7_isMoved_10 : decode cX7_isMoved 10 = .ok (.invokevirtual 126, 3) := by decide +kernel
theorem dX7_isMoved_13 : decode cX7_isMoved 13 = .ok (.istore_n 3, 1) := by decide +kernel
theorem dX7_isMoved_14 : decode cX7_isMoved 14 = .ok (.aload_n 0, 1) := by decide +kernel
theorem dX7_isMoved_15 : decode cX7_isMoved 15 = .ok (.iload_n 2, 1) := by decide +kernel
theorem dX7_isMoved_16 : decode cX7_isMoved 16 = .ok (.iconst 1, 1) := by decide +kernel
theorem dX7_isMoved_17 : decode cX7_isMoved 17 = .ok (.invokevirtual 99, 3) := by decide +kernel
theorem dX7_isMoved_20 : decode cX7_isMoved 20 = .ok (.iload_n 3, 1) := by decide +kernel
theorem dX7_isMoved_21 : decode cX7_isMoved 21 = .ok (.isub, 1) := by decide +kernel
theorem dX7_isMoved_22 : decode cX7_isMoved 22 = .ok (.aload_n 0, 1) := by decide +kernel
theorem dX7_isMoved_23 : decode cX7_isMoved 23 = .ok (.iload_n 2, 1) := by decide +kernel
theorem dX7_isMoved_24 : decode cX7_isMoved 24 = .ok (.iconst 2, 1) := by decide +kernel
theorem dX7_isMoved_25 : decode cX7_isMoved 25 = .ok (.invokevirtual 99, 3) := by decide +kernel
theorem dX7_isMoved_28 : decode cX7_isMoved 28 = .ok (.ineg, 1) := by decide +kernel
theorem dX7_isMoved_29 : decode cX7_isMoved 29 = .ok (.if_icmp .lt 7, 3) := by decide +kernel
theorem dX7_isMoved_32 : decode cX7_isMoved 32 = .ok (.iconst 1, 1) := by decide +kernel
theorem dX7_isMoved_33 : decode cX7_isMoved 33 = .ok (.goto 4, 3) := by decide +kernel
theorem dX7_isMoved_36 : decode cX7_isMoved 36 = .ok (.iconst 0, 1) := by decide +kernel
theorem dX7_isMoved_37 : decode cX7_isMoved 37 = .ok (.istore 4, 2) := by decide +kernel
theorem dX7_isMoved_39 : decode cX7_isMoved 39 = .ok (.iload 4, 2) := by decide +kernel
theorem dX7_isMoved_41 : decode cX7_isMoved 41 = .ok (.ifCond .eq 55, 3) := by decide +kernel
theorem dX7_isMoved_44 : decode cX7_isMoved 44 = .ok (.aload_n 0, 1) := by decide +kernel
theorem dX7_isMoved_45 : decode cX7_isMoved 45 = .ok (.iload_n 2, 1) := by decide +kernel
theorem dX7_isMoved_46 : decode cX7_isMoved 46 = .ok (.iload_n 3, 1) := by decide +kernel
theorem dX7_isMoved_47 : decode cX7_isMoved 47 = .ok (.ineg, 1) := by decide +kernel
theorem dX7_isMoved_48 : decode cX7_isMoved 48 = .ok (.invokevirtual 102, 3) := by decide +kernel
theorem dX7_isMoved_51 : decode cX7_isMoved 51 = .ok (.aload_n 0, 1) := by decide +kernel
theorem dX7_isMoved_52 : decode cX7_isMoved 52 = .ok (.aload_n 0, 1) := by decide +kernel
theorem dX7_isMoved_53 : decode cX7_isMoved 53 = .ok (.iload_n 1, 1) := by decide +kernel
theorem dX7_isMoved_54 : decode cX7_isMoved 54 = .ok (.iconst 2, 1) := by decide +kernel
theorem dX7_isMoved_55 : decode cX7_isMoved 55 = .ok (.invokevirtual 126, 3) := by decide +kernel
theorem dX7_isMoved_58 : decode cX7_isMoved 58 = .ok (.iload_n 3, 1) := by decide +kernel
theorem dX7_isMoved_59 : decode cX7_isMoved 59 = .ok (.invokevirtual 102, 3) := by decide +kernel
theorem dX7_isMoved_62 : decode cX7_isMoved 62 = .ok (.aload_n 0, 1) := by decide +kernel
theorem dX7_isMoved_63 : decode cX7_isMoved 63 = .ok (.getfield 9, 3) := by decide +kernel
theorem dX7_isMoved_66 : decode cX7_isMoved 66 = .ok (.iload_n 2, 1) := by decide +kernel
theorem dX7_isMoved_67 : decode cX7_isMoved 67 = .ok (.invokestatic 77, 3) := by decide +kernel
theorem dX7_isMoved_70 : decode cX7_isMoved 70 = .ok (.iconst 3, 1) := by decide +kernel
theorem dX7_isMoved_71 : decode cX7_isMoved 71 = .ok (.iadd, 1) := by decide +kernel
theorem dX7_isMoved_72 : decode cX7_isMoved 72 = .ok (.iconst 1, 1) := by decide +kernel
theorem dX7_isMoved_73 : decode cX7_isMoved 73 = .ok (.iastore, 1) := by decide +kernel
theorem dX7_isMoved_74 : decode cX7_isMoved 74 = .ok (.aload_n 0, 1) := by decide +kernel
theorem dX7_isMoved_75 : decode cX7_isMoved 75 = .ok (.getfield 9, 3) := by decide +kernel
theorem dX7_isMoved_78 : decode cX7_isMoved 78 = .ok (.bipush 7, 2) := by decide +kernel
theorem dX7_isMoved_80 : decode cX7_isMoved 80 = .ok (.dup2, 1) := by decide +kernel
theorem dX7_isMoved_81 : decode cX7_isMoved 81 = .ok (.iaload, 1) := by decide +kernel
theorem dX7_isMoved_82 : decode cX7_isMoved 82 = .ok (.iload_n 3, 1) := by decide +kernel
theorem dX7_isMoved_83 : decode cX7_isMoved 83 = .ok (.iadd, 1) := by decide +kernel
theorem dX7_isMoved_84 : decode cX7_isMoved 84 = .ok (.iastore, 1) := by decide +kernel
theorem dX7_isMoved_85 : decode cX7_isMoved 85 = .ok (.aload_n 0, 1) := by decide +kernel
theorem dX7_isMoved_86 : decode cX7_isMoved 86 = .ok (.bipush 116, 2) := by decide +kernel
theorem dX7_isMoved_88 : decode cX7_isMoved 88 = .ok (.iload_n 3, 1) := by decide +kernel
theorem dX7_isMoved_89 : decode cX7_isMoved 89 = .ok (.iload_n 2, 1) := by decide +kernel
theorem dX7_isMoved_90 : decode cX7_isMoved 90 = .ok (.invokevirtual 106, 3) := by decide +kernel
theorem dX7_isMoved_93 : decode cX7_isMoved 93 = .ok (.goto 60, 3) := by decide +kernel
theorem dX7_isMoved_96 : decode cX7_isMoved 96 = .ok (.aload_n 0, 1) := by decide +kernel
theorem dX7_isMoved_97 : decode cX7_isMoved 97 = .ok (.iload_n 2, 1) := by decide +kernel
theorem dX7_isMoved_98 : decode cX7_isMoved 98 = .ok (.iconst 3, 1) := by decide +kernel
theorem dX7_isMoved_99 : decode cX7_isMoved 99 = .ok (.invokevirtual 139, 3) := by decide +kernel
theorem dX7_isMoved_102 : decode cX7_isMoved 102 = .ok (.istore 5, 2) := by decide +kernel
theorem dX7_isMoved_104 : decode cX7_isMoved 104 = .ok (.aload_n 0, 1) := by decide +kernel
theorem dX7_isMoved_105 : decode cX7_isMoved 105 = .ok (.iload_n 2, 1) := by decide +kernel
theorem dX7_isMoved_106 : decode cX7_isMoved 106 = .ok (.bipush 102, 2) := by decide +kernel
theorem dX7_isMoved_108 : decode cX7_isMoved 108 = .ok (.iload 5, 2) := by decide +kernel
theorem dX7_isMoved_110 : decode cX7_isMoved 110 = .ok (.invokevirtual 142, 3) := by decide +kernel
theorem dX7_isMoved_113 : decode cX7_isMoved 113 = .ok (.aload_n 0, 1) := by decide +kernel
theorem dX7_isMoved_114 : decode cX7_isMoved 114 = .ok (.getfield 9, 3) := by decide +kernel
theorem dX7_isMoved_117 : decode cX7_isMoved 117 = .ok (.bipush 10, 2) := by decide +kernel
theorem dX7_isMoved_119 : decode cX7_isMoved 119 = .ok (.dup2, 1) := by decide +kernel
theorem dX7_isMoved_120 : decode cX7_isMoved 120 = .ok (.iaload, 1) := by decide +kernel
theorem dX7_isMoved_121 : decode cX7_isMoved 121 = .ok (.iconst 1, 1) := by decide +kernel
theorem dX7_isMoved_122 : decode cX7_isMoved 122 = .ok (.iadd, 1) := by decide +kernel
theorem dX7_isMoved_123 : decode cX7_isMoved 123 = .ok (.iastore, 1) := by decide +kernel
theorem dX7_isMoved_124 : decode cX7_isMoved 124 = .ok (.aload_n 0, 1) := by decide +kernel
theorem dX7_isMoved_125 : decode cX7_isMoved 125 = .ok (.aload_n 0, 1) := by decide +kernel
theorem dX7_isMoved_126 : decode cX7_isMoved 126 = .ok (.getfield 145, 3) := by decide +kernel
theorem dX7_isMoved_129 : decode cX7_isMoved 129 = .ok (.ifCond .ne 16, 3) := by decide +kernel
theorem dX7_isMoved_132 : decode cX7_isMoved 132 = .ok (.aload_n 0, 1) := by decide +kernel
theorem dX7_isMoved_133 : decode cX7_isMoved 133 = .ok (.iload_n 1, 1) := by decide +kernel
theorem dX7_isMoved_134 : decode cX7_isMoved 134 = .ok (.iconst 0, 1) := by decide +kernel
theorem dX7_isMoved_135 : decode cX7_isMoved 135 = .ok (.invokevirtual 126, 3) := by decide +kernel
theorem dX7_isMoved_138 : decode cX7_isMoved 138 = .ok (.aload_n 0, 1) := by decide +kernel
theorem dX7_isMoved_139 : decode cX7_isMoved 139 = .ok (.getfield 32, 3) := by decide +kernel
theorem dX7_isMoved_142 : decode cX7_isMoved 142 = .ok (.if_icmp .ne 7, 3) := by decide +kernel
theorem dX7_isMoved_145 : decode cX7_isMoved 145 = .ok (.iconst 1, 1) := by decide +kernel
theorem dX7_isMoved_146 : decode cX7_isMoved 146 = .ok (.goto 4, 3) := by decide +kernel
theorem dX7_isMoved_149 : decode cX7_isMoved 149 = .ok (.iconst 0, 1) := by decide +kernel
theorem dX7_isMoved_150 : decode cX7_isMoved 150 = .ok (.putfield 145, 3) := by decide +kernel
theorem dX7_isMoved_153 : decode cX7_isMoved 153 = .ok (.iload 4, 2) := by decide +kernel
theorem dX7_isMoved_155 : decode cX7_isMoved 155 = .ok (.ireturn, 1) := by decide +kernel
theorem dX7_gives_0 : decode cX7_gives 0 = .ok (.iload_n 3, 1) := by decide +kernel
theorem dX7_gives_1 : decode cX7_gives 1 = .ok (.ifCond .le 38, 3) := by decide +kernel
theorem dX7_gives_4 : decode cX7_gives 4 = .ok (.aload_n 0, 1) := by decide +kernel
theorem dX7_gives_5 : decode cX7_gives 5 = .ok (.iload_n 1, 1) := by decide +kernel
theorem dX7_gives_6 : decode cX7_gives 6 = .ok (.iload_n 3, 1) := by decide +kernel
theorem dX7_gives_7 : decode cX7_gives 7 = .ok (.ineg, 1) := by decide +kernel
theorem dX7_gives_8 : decode cX7_gives 8 = .ok (.invokevirtual 102, 3) := by decide +kernel
theorem dX7_gives_11 : decode cX7_gives 11 = .ok (.aload_n 0, 1) := by decide +kernel
theorem dX7_gives_12 : decode cX7_gives 12 = .ok (.getfield 9, 3) := by decide +kernel
theorem dX7_gives_15 : decode cX7_gives 15 = .ok (.iconst 4, 1) := by decide +kernel
theorem dX7_gives_16 : decode cX7_gives 16 = .ok (.dup2, 1) := by decide +kernel
theorem dX7_gives_17 : decode cX7_gives 17 = .ok (.iaload, 1) := by decide +kernel
theorem dX7_gives_18 : decode cX7_gives 18 = .ok (.iload_n 3, 1) := by decide +kernel
theorem dX7_gives_19 : decode cX7_gives 19 = .ok (.iadd, 1) := by decide +kernel
theorem dX7_gives_20 : decode cX7_gives 20 = .ok (.iastore, 1) := by decide +kernel
theorem dX7_gives_21 : decode cX7_gives 21 = .ok (.aload_n 0, 1) := by decide +kernel
theorem dX7_gives_22 : decode cX7_gives 22 = .ok (.getfield 9, 3) := by decide +kernel
theorem dX7_gives_25 : decode cX7_gives 25 = .ok (.bipush 9, 2) := by decide +kernel
theorem dX7_gives_27 : decode cX7_gives 27 = .ok (.dup2, 1) := by decide +kernel
theorem dX7_gives_28 : decode cX7_gives 28 = .ok (.iaload, 1) := by decide +kernel
theorem dX7_gives_29 : decode cX7_gives 29 = .ok (.iload_n 3, 1) := by decide +kernel
theorem dX7_gives_30 : decode cX7_gives 30 = .ok (.iadd, 1) := by decide +kernel
theorem dX7_gives_31 : decode cX7_gives 31 = .ok (.iastore, 1) := by decide +kernel
theorem dX7_gives_32 : decode cX7_gives 32 = .ok (.aload_n 0, 1) := by decide +kernel
theorem dX7_gives_33 : decode cX7_gives 33 = .ok (.iload_n 2, 1) := by decide +kernel
theorem dX7_gives_34 : decode cX7_gives 34 = .ok (.iload_n 3, 1) := by decide +kernel
theorem dX7_gives_35 : decode cX7_gives 35 = .ok (.iload_n 1, 1) := by decide +kernel
theorem dX7_gives_36 : decode cX7_gives 36 = .ok (.invokevirtual 106, 3) := by decide +kernel
theorem dX7_gives_39 : decode cX7_gives 39 = .ok (.return_, 1) := by decide +kernel
theorem dX7_gains_0 : decode cX7_gains 0 = .ok (.aload_n 0, 1) := by decide +kernel
theorem dX7_gains_1 : decode cX7_gains 1 = .ok (.iload_n 1, 1) := by decide +kernel
theorem dX7_gains_2 : decode cX7_gains 2 = .ok (.invokevirtual 148, 3) := by decide +kernel
theorem dX7_gains_5 : decode cX7_gains 5 = .ok (.istore_n 2, 1) := by decide +kernel
theorem dX7_gains_6 : decode cX7_gains 6 = .ok (.iload_n 2, 1) := by decide +kernel
theorem dX7_gains_7 : decode cX7_gains 7 = .ok (.ifCond .le 38, 3) := by decide +kernel
theorem dX7_gains_10 : decode cX7_gains 10 = .ok (.aload_n 0, 1) := by decide +kernel
theorem dX7_gains_11 : decode cX7_gains 11 = .ok (.iload_n 1, 1) := by decide +kernel
theorem dX7_gains_12 : decode cX7_gains 12 = .ok (.iload_n 2, 1) := by decide +kernel
theorem dX7_gains_13 : decode cX7_gains 13 = .ok (.invokevirtual 102, 3) := by decide +kernel
theorem dX7_gains_16 : decode cX7_gains 16 = .ok (.aload_n 0, 1) := by decide +kernel
theorem dX7_gains_17 : decode cX7_gains 17 = .ok (.getfield 9, 3) := by decide +kernel
theorem dX7_gains_20 : decode cX7_gains 20 = .ok (.iconst 4, 1) := by decide +kernel
theorem dX7_gains_21 : decode cX7_gains 21 = .ok (.dup2, 1) := by decide +kernel
theorem dX7_gains_22 : decode cX7_gains 22 = .ok (.iaload, 1) := by decide +kernel
theorem dX7_gains_23 : decode cX7_gains 23 = .ok (.iload_n 2, 1) := by decide +kernel
theorem dX7_gains_24 : decode cX7_gains 24 = .ok (.isub, 1) := by decide +kernel
theorem dX7_gains_25 : decode cX7_gains 25 = .ok (.iastore, 1) := by decide +kernel
theorem dX7_gains_26 : decode cX7_gains 26 = .ok (.aload_n 0, 1) := by decide +kernel
theorem dX7_gains_27 : decode cX7_gains 27 = .ok (.getfield 9, 3) := by decide +kernel
theorem dX7_gains_30 : decode cX7_gains 30 = .ok (.bipush 8, 2) := by decide +kernel
theorem dX7_gains_32 : decode cX7_gains 32 = .ok (.dup2, 1) := by decide +kernel
theorem dX7_gains_33 : decode cX7_gains 33 = .ok (.iaload, 1) := by decide +kernel
theorem dX7_gains_34 : decode cX7_gains 34 = .ok (.iload_n 2, 1) := by decide +kernel
theorem dX7_gains_35 : decode cX7_gains 35 = .ok (.iadd, 1) := by decide +kernel
theorem dX7_gains_36 : decode cX7_gains 36 = .ok (.iastore, 1) := by decide +kernel
theorem dX7_gains_37 : decode cX7_gains 37 = .ok (.aload_n 0, 1) := by decide +kernel
theorem dX7_gains_38 : decode cX7_gains 38 = .ok (.bipush 105, 2) := by decide +kernel
theorem dX7_gains_40 : decode cX7_gains 40 = .ok (.iload_n 2, 1) := by decide +kernel
theorem dX7_gains_41 : decode cX7_gains 41 = .ok (.iload_n 1, 1) := by decide +kernel
theorem dX7_gains_42 : decode cX7_gains 42 = .ok (.invokevirtual 106, 3) := by decide +kernel
theorem dX7_gains_45 : decode cX7_gains 45 = .ok (.aload_n 0, 1) := by decide +kernel
theorem dX7_gains_46 : decode cX7_gains 46 = .ok (.iload_n 1, 1) := by decide +kernel
theorem dX7_gains_47 : decode cX7_gains 47 = .ok (.bipush 99, 2) := by decide +kernel
theorem dX7_gains_49 : decode cX7_gains 49 = .ok (.iload_n 2, 1) := by decide +kernel
theorem dX7_gains_50 : decode cX7_gains 50 = .ok (.ineg, 1) := by decide +kernel
theorem dX7_gains_51 : decode cX7_gains 51 = .ok (.invokevirtual 142, 3) := by decide +kernel
theorem dX7_gains_54 : decode cX7_gains 54 = .ok (.return_, 1) := by decide +kernel
theorem dX7_closesDay_0 : decode cX7_closesDay 0 = .ok (.iconst 0, 1) := by decide +kernel
theorem dX7_closesDay_1 : decode cX7_closesDay 1 = .ok (.istore_n 1, 1) := by decide +kernel
theorem dX7_closesDay_2 : decode cX7_closesDay 2 = .ok (.iconst 0, 1) := by decide +kernel
theorem dX7_closesDay_3 : decode cX7_closesDay 3 = .ok (.istore_n 2, 1) := by decide +kernel
theorem dX7_closesDay_4 : decode cX7_closesDay 4 = .ok (.iload_n 2, 1) := by decide +kernel
theorem dX7_closesDay_5 : decode cX7_closesDay 5 = .ok (.aload_n 0, 1) := by decide +kernel
theorem dX7_closesDay_6 : decode cX7_closesDay 6 = .ok (.getfield 9, 3) := by decide +kernel
theorem dX7_closesDay_9 : decode cX7_closesDay 9 = .ok (.iconst 3, 1) := by decide +kernel
theorem dX7_closesDay_10 : decode cX7_closesDay 10 = .ok (.iaload, 1) := by decide +kernel
theorem dX7_closesDay_11 : decode cX7_closesDay 11 = .ok (.if_icmp .ge 48, 3) := by decide +kernel
theorem dX7_closesDay_14 : decode cX7_closesDay 14 = .ok (.aload_n 0, 1) := by decide +kernel
theorem dX7_closesDay_15 : decode cX7_closesDay 15 = .ok (.iload_n 2, 1) := by decide +kernel
theorem dX7_closesDay_16 : decode cX7_closesDay 16 = .ok (.iconst 4, 1) := by decide +kernel
theorem dX7_closesDay_17 : decode cX7_closesDay 17 = .ok (.invokevirtual 126, 3) := by decide +kernel
theorem dX7_closesDay_20 : decode cX7_closesDay 20 = .ok (.aload_n 0, 1) := by decide +kernel
theorem dX7_closesDay_21 : decode cX7_closesDay 21 = .ok (.getfield 9, 3) := by decide +kernel
theorem dX7_closesDay_24 : decode cX7_closesDay 24 = .ok (.iconst 0, 1) := by decide +kernel
theorem dX7_closesDay_25 : decode cX7_closesDay 25 = .ok (.iaload, 1) := by decide +kernel
theorem dX7_closesDay_26 : decode cX7_closesDay 26 = .ok (.if_icmp .ne 27, 3) := by decide +kernel
theorem dX7_closesDay_29 : decode cX7_closesDay 29 = .ok (.iload_n 1, 1) := by decide +kernel
theorem dX7_closesDay_30 : decode cX7_closesDay 30 = .ok (.aload_n 0, 1) := by decide +kernel
theorem dX7_closesDay_31 : decode cX7_closesDay 31 = .ok (.iload_n 2, 1) := by decide +kernel
theorem dX7_closesDay_32 : decode cX7_closesDay 32 = .ok (.invokevirtual 151, 3) := by decide +kernel
theorem dX7_closesDay_35 : decode cX7_closesDay 35 = .ok (.ifCond .eq 7, 3) := by decide +kernel
theorem dX7_closesDay_38 : decode cX7_closesDay 38 = .ok (.iconst 1, 1) := by decide +kernel
theorem dX7_closesDay_39 : decode cX7_closesDay 39 = .ok (.goto 4, 3) := by decide +kernel
theorem dX7_closesDay_42 : decode cX7_closesDay 42 = .ok (.iconst 0, 1) := by decide +kernel
theorem dX7_closesDay_43 : decode cX7_closesDay 43 = .ok (.iadd, 1) := by decide +kernel
theorem dX7_closesDay_44 : decode cX7_closesDay 44 = .ok (.istore_n 1, 1) := by decide +kernel
theorem dX7_closesDay_45 : decode cX7_closesDay 45 = .ok (.aload_n 0, 1) := by decide +kernel
theorem dX7_closesDay_46 : decode cX7_closesDay 46 = .ok (.iload_n 2, 1) := by decide +kernel
theorem dX7_closesDay_47 : decode cX7_closesDay 47 = .ok (.invokevirtual 129, 3) := by decide +kernel
theorem dX7_closesDay_50 : decode cX7_closesDay 50 = .ok (.goto (-46), 3) := by decide +kernel
theorem dX7_closesDay_53 : decode cX7_closesDay 53 = .ok (.iinc 2 1, 3) := by decide +kernel
theorem dX7_closesDay_56 : decode cX7_closesDay 56 = .ok (.goto (-52), 3) := by decide +kernel
theorem dX7_closesDay_59 : decode cX7_closesDay 59 = .ok (.iconst 0, 1) := by decide +kernel
theorem dX7_closesDay_60 : decode cX7_closesDay 60 = .ok (.istore_n 3, 1) := by decide +kernel
theorem dX7_closesDay_61 : decode cX7_closesDay 61 = .ok (.iload_n 3, 1) := by decide +kernel
theorem dX7_closesDay_62 : decode cX7_closesDay 62 = .ok (.aload_n 0, 1) := by decide +kernel
theorem dX7_closesDay_63 : decode cX7_closesDay 63 = .ok (.getfield 9, 3) := by decide +kernel
theorem dX7_closesDay_66 : decode cX7_closesDay 66 = .ok (.iconst 1, 1) := by decide +kernel
theorem dX7_closesDay_67 : decode cX7_closesDay 67 = .ok (.iaload, 1) := by decide +kernel
theorem dX7_closesDay_68 : decode cX7_closesDay 68 = .ok (.if_icmp .ge 14, 3) := by decide +kernel
theorem dX7_closesDay_71 : decode cX7_closesDay 71 = .ok (.aload_n 0, 1) := by decide +kernel
theorem dX7_closesDay_72 : decode cX7_closesDay 72 = .ok (.iload_n 3, 1) := by decide +kernel
theorem dX7_closesDay_73 : decode cX7_closesDay 73 = .ok (.invokevirtual 154, 3) := by decide +kernel
theorem dX7_closesDay_76 : decode cX7_closesDay 76 = .ok (.iinc 3 1, 3) := by decide +kernel
theorem dX7_closesDay_79 : decode cX7_closesDay 79 = .ok (.goto (-18), 3) := by decide +kernel
theorem dX7_closesDay_82 : decode cX7_closesDay 82 = .ok (.iconst 0, 1) := by decide +kernel
theorem dX7_closesDay_83 : decode cX7_closesDay 83 = .ok (.istore_n 3, 1) := by decide +kernel
theorem dX7_closesDay_84 : decode cX7_closesDay 84 = .ok (.iload_n 3, 1) := by decide +kernel
theorem dX7_closesDay_85 : decode cX7_closesDay 85 = .ok (.aload_n 0, 1) := by decide +kernel
theorem dX7_closesDay_86 : decode cX7_closesDay 86 = .ok (.getfield 9, 3) := by decide +kernel
theorem dX7_closesDay_89 : decode cX7_closesDay 89 = .ok (.iconst 1, 1) := by decide +kernel
theorem dX7_closesDay_90 : decode cX7_closesDay 90 = .ok (.iaload, 1) := by decide +kernel
theorem dX7_closesDay_91 : decode cX7_closesDay 91 = .ok (.if_icmp .ge 21, 3) := by decide +kernel
theorem dX7_closesDay_94 : decode cX7_closesDay 94 = .ok (.aload_n 0, 1) := by decide +kernel
theorem dX7_closesDay_95 : decode cX7_closesDay 95 = .ok (.getfield 9, 3) := by decide +kernel
theorem dX7_closesDay_98 : decode cX7_closesDay 98 = .ok (.iload_n 3, 1) := by decide +kernel
theorem dX7_closesDay_99 : decode cX7_closesDay 99 = .ok (.invokestatic 77, 3) := by decide +kernel
theorem dX7_closesDay_102 : decode cX7_closesDay 102 = .ok (.iconst 3, 1) := by decide +kernel
theorem dX7_closesDay_103 : decode cX7_closesDay 103 = .ok (.iadd, 1) := by decide +kernel
theorem dX7_closesDay_104 : decode cX7_closesDay 104 = .ok (.iconst 0, 1) := by decide +kernel
theorem dX7_closesDay_105 : decode cX7_closesDay 105 = .ok (.iastore, 1) := by decide +kernel
theorem dX7_closesDay_106 : decode cX7_closesDay 106 = .ok (.iinc 3 1, 3) := by decide +kernel
theorem dX7_closesDay_109 : decode cX7_closesDay 109 = .ok (.goto (-25), 3) := by decide +kernel
theorem dX7_closesDay_112 : decode cX7_closesDay 112 = .ok (.aload_n 0, 1) := by decide +kernel
theorem dX7_closesDay_113 : decode cX7_closesDay 113 = .ok (.getfield 9, 3) := by decide +kernel
theorem dX7_closesDay_116 : decode cX7_closesDay 116 = .ok (.iconst 0, 1) := by decide +kernel
theorem dX7_closesDay_117 : decode cX7_closesDay 117 = .ok (.dup2, 1) := by decide +kernel
theorem dX7_closesDay_118 : decode cX7_closesDay 118 = .ok (.iaload, 1) := by decide +kernel
theorem dX7_closesDay_119 : decode cX7_closesDay 119 = .ok (.iconst 1, 1) := by decide +kernel
theorem dX7_closesDay_120 : decode cX7_closesDay 120 = .ok (.iadd, 1) := by decide +kernel
theorem dX7_closesDay_121 : decode cX7_closesDay 121 = .ok (.iastore, 1) := by decide +kernel
theorem dX7_closesDay_122 : decode cX7_closesDay 122 = .ok (.iload_n 1, 1) := by decide +kernel
theorem dX7_closesDay_123 : decode cX7_closesDay 123 = .ok (.ireturn, 1) := by decide +kernel
theorem dX7_waits_0 : decode cX7_waits 0 = .ok (.aload_n 0, 1) := by decide +kernel
theorem dX7_waits_1 : decode cX7_waits 1 = .ok (.iload_n 1, 1) := by decide +kernel
theorem dX7_waits_2 : decode cX7_waits 2 = .ok (.iconst 1, 1) := by decide +kernel
theorem dX7_waits_3 : decode cX7_waits 3 = .ok (.bipush 60, 2) := by decide +kernel
theorem dX7_waits_5 : decode cX7_waits 5 = .ok (.invokestatic 69, 3) := by decide +kernel
theorem dX7_waits_8 : decode cX7_waits 8 = .ok (.invokevirtual 61, 3) := by decide +kernel
theorem dX7_waits_11 : decode cX7_waits 11 = .ok (.ifCond .ne 5, 3) := by decide +kernel
theorem dX7_waits_14 : decode cX7_waits 14 = .ok (.iconst 0, 1) := by decide +kernel
theorem dX7_waits_15 : decode cX7_waits 15 = .ok (.ireturn, 1) := by decide +kernel
theorem dX7_waits_16 : decode cX7_waits 16 = .ok (.iconst 0, 1) := by decide +kernel
theorem dX7_waits_17 : decode cX7_waits 17 = .ok (.istore_n 2, 1) := by decide +kernel
theorem dX7_waits_18 : decode cX7_waits 18 = .ok (.iconst 0, 1) := by decide +kernel
theorem dX7_waits_19 : decode cX7_waits 19 = .ok (.istore_n 3, 1) := by decide +kernel
theorem dX7_waits_20 : decode cX7_waits 20 = .ok (.iload_n 3, 1) := by decide +kernel
theorem dX7_waits_21 : decode cX7_waits 21 = .ok (.iload_n 1, 1) := by decide +kernel
theorem dX7_waits_22 : decode cX7_waits 22 = .ok (.if_icmp .ge 16, 3) := by decide +kernel
theorem dX7_waits_25 : decode cX7_waits 25 = .ok (.iload_n 2, 1) := by decide +kernel
theorem dX7_waits_26 : decode cX7_waits 26 = .ok (.aload_n 0, 1) := by decide +kernel
theorem dX7_waits_27 : decode cX7_waits 27 = .ok (.invokevirtual 157, 3) := by decide +kernel
theorem dX7_waits_30 : decode cX7_waits 30 = .ok (.iadd, 1) := by decide +kernel
theorem dX7_waits_31 : decode cX7_waits 31 = .ok (.istore_n 2, 1) := by decide +kernel
theorem dX7_waits_32 : decode cX7_waits 32 = .ok (.iinc 3 1, 3) := by decide +kernel
theorem dX7_waits_35 : decode cX7_waits 35 = .ok (.goto (-15), 3) := by decide +kernel
theorem dX7_waits_38 : decode cX7_waits 38 = .ok (.iload_n 2, 1) := by decide +kernel
theorem dX7_waits_39 : decode cX7_waits 39 = .ok (.ireturn, 1) := by decide +kernel
theorem dX7_endDays_0 : decode cX7_endDays 0 = .ok (.aload_n 0, 1) := by decide +kernel
theorem dX7_endDays_1 : decode cX7_endDays 1 = .ok (.invokevirtual 87, 3) := by decide +kernel
theorem dX7_endDays_4 : decode cX7_endDays 4 = .ok (.aload_n 0, 1) := by decide +kernel
theorem dX7_endDays_5 : decode cX7_endDays 5 = .ok (.aload_n 0, 1) := by decide +kernel
theorem dX7_endDays_6 : decode cX7_endDays 6 = .ok (.iload_n 1, 1) := by decide +kernel
theorem dX7_endDays_7 : decode cX7_endDays 7 = .ok (.invokevirtual 161, 3) := by decide +kernel
theorem dX7_endDays_10 : decode cX7_endDays 10 = .ok (.invokevirtual 93, 3) := by decide +kernel
theorem dX7_endDays_13 : decode cX7_endDays 13 = .ok (.ireturn, 1) := by decide +kernel
theorem dX7_accountCount_0 : decode cX7_accountCount 0 = .ok (.aload_n 0, 1) := by decide +kernel
theorem dX7_accountCount_1 : decode cX7_accountCount 1 = .ok (.iconst 0, 1) := by decide +kernel
theorem dX7_accountCount_2 : decode cX7_accountCount 2 = .ok (.putfield 44, 3) := by decide +kernel
theorem dX7_accountCount_5 : decode cX7_accountCount 5 = .ok (.aload_n 0, 1) := by decide +kernel
theorem dX7_accountCount_6 : decode cX7_accountCount 6 = .ok (.getfield 9, 3) := by decide +kernel
theorem dX7_accountCount_9 : decode cX7_accountCount 9 = .ok (.iconst 1, 1) := by decide +kernel
theorem dX7_accountCount_10 : decode cX7_accountCount 10 = .ok (.iaload, 1) := by decide +kernel
theorem dX7_accountCount_11 : decode cX7_accountCount 11 = .ok (.ireturn, 1) := by decide +kernel
theorem dX7_asks_0 : decode cX7_asks 0 = .ok (.aload_n 0, 1) := by decide +kernel
theorem dX7_asks_1 : decode cX7_asks 1 = .ok (.aload_n 0, 1) := by decide +kernel
theorem dX7_asks_2 : decode cX7_asks 2 = .ok (.iload_n 1, 1) := by decide +kernel
theorem dX7_asks_3 : decode cX7_asks 3 = .ok (.invokevirtual 73, 3) := by decide +kernel
theorem dX7_asks_6 : decode cX7_asks 6 = .ok (.invokevirtual 61, 3) := by decide +kernel
theorem dX7_asks_9 : decode cX7_asks 9 = .ok (.ifCond .eq 12, 3) := by decide +kernel
theorem dX7_asks_12 : decode cX7_asks 12 = .ok (.aload_n 0, 1) := by decide +kernel
theorem dX7_asks_13 : decode cX7_asks 13 = .ok (.iload_n 1, 1) := by decide +kernel
theorem dX7_asks_14 : decode cX7_asks 14 = .ok (.iload_n 2, 1) := by decide +kernel
theorem dX7_asks_15 : decode cX7_asks 15 = .ok (.invokevirtual 99, 3) := by decide +kernel
theorem dX7_asks_18 : decode cX7_asks 18 = .ok (.goto 4, 3) := by decide +kernel
theorem dX7_asks_21 : decode cX7_asks 21 = .ok (.iconst 0, 1) := by decide +kernel
theorem dX7_asks_22 : decode cX7_asks 22 = .ok (.ireturn, 1) := by decide +kernel
theorem dX7_kindOf_0 : decode cX7_kindOf 0 = .ok (.aload_n 0, 1) := by decide +kernel
theorem dX7_kindOf_1 : decode cX7_kindOf 1 = .ok (.iload_n 1, 1) := by decide +kernel
theorem dX7_kindOf_2 : decode cX7_kindOf 2 = .ok (.iconst 0, 1) := by decide +kernel
theorem dX7_kindOf_3 : decode cX7_kindOf 3 = .ok (.invokevirtual 164, 3) := by decide +kernel
theorem dX7_kindOf_6 : decode cX7_kindOf 6 = .ok (.ireturn, 1) := by decide +kernel
theorem dX7_balanceOf_0 : decode cX7_balanceOf 0 = .ok (.aload_n 0, 1) := by decide +kernel
theorem dX7_balanceOf_1 : decode cX7_balanceOf 1 = .ok (.iload_n 1, 1) := by decide +kernel
theorem dX7_balanceOf_2 : decode cX7_balanceOf 2 = .ok (.iconst 1, 1) := by decide +kernel
theorem dX7_balanceOf_3 : decode cX7_balanceOf 3 = .ok (.invokevirtual 164, 3) := by decide +kernel
theorem dX7_balanceOf_6 : decode cX7_balanceOf 6 = .ok (.ireturn, 1) := by decide +kernel
theorem dX7_limitOf_0 : decode cX7_limitOf 0 = .ok (.aload_n 0, 1) := by decide +kernel
theorem dX7_limitOf_1 : decode cX7_limitOf 1 = .ok (.iload_n 1, 1) := by decide +kernel
theorem dX7_limitOf_2 : decode cX7_limitOf 2 = .ok (.iconst 2, 1) := by decide +kernel
theorem dX7_limitOf_3 : decode cX7_limitOf 3 = .ok (.invokevirtual 164, 3) := by decide +kernel
theorem dX7_limitOf_6 : decode cX7_limitOf 6 = .ok (.ireturn, 1) := by decide +kernel
theorem dX7_availableIn_0 : decode cX7_availableIn 0 = .ok (.aload_n 0, 1) := by decide +kernel
theorem dX7_availableIn_1 : decode cX7_availableIn 1 = .ok (.aload_n 0, 1) := by decide +kernel
theorem dX7_availableIn_2 : decode cX7_availableIn 2 = .ok (.iload_n 1, 1) := by decide +kernel
theorem dX7_availableIn_3 : decode cX7_availableIn 3 = .ok (.invokevirtual 73, 3) := by decide +kernel
theorem dX7_availableIn_6 : decode cX7_availableIn 6 = .ok (.invokevirtual 61, 3) := by decide +kernel
theorem dX7_availableIn_9 : decode cX7_availableIn 9 = .ok (.ifCond .eq 19, 3) := by decide +kernel
theorem dX7_availableIn_12 : decode cX7_availableIn 12 = .ok (.aload_n 0, 1) := by decide +kernel
theorem dX7_availableIn_13 : decode cX7_availableIn 13 = .ok (.iload_n 1, 1) := by decide +kernel
theorem dX7_availableIn_14 : decode cX7_availableIn 14 = .ok (.iconst 1, 1) := by decide +kernel
theorem dX7_availableIn_15 : decode cX7_availableIn 15 = .ok (.invokevirtual 99, 3) := by decide +kernel
theorem dX7_availableIn_18 : decode cX7_availableIn 18 = .ok (.aload_n 0, 1) := by decide +kernel
theorem dX7_availableIn_19 : decode cX7_availableIn 19 = .ok (.iload_n 1, 1) := by decide +kernel
theorem dX7_availableIn_20 : decode cX7_availableIn 20 = .ok (.iconst 2, 1) := by decide +kernel
theorem dX7_availableIn_21 : decode cX7_availableIn 21 = .ok (.invokevirtual 99, 3) := by decide +kernel
theorem dX7_availableIn_24 : decode cX7_availableIn 24 = .ok (.iadd, 1) := by decide +kernel
theorem dX7_availableIn_25 : decode cX7_availableIn 25 = .ok (.goto 4, 3) := by decide +kernel
theorem dX7_availableIn_28 : decode cX7_availableIn 28 = .ok (.iconst 0, 1) := by decide +kernel
theorem dX7_availableIn_29 : decode cX7_availableIn 29 = .ok (.ireturn, 1) := by decide +kernel
theorem dX7_wasTouched_0 : decode cX7_wasTouched 0 = .ok (.aload_n 0, 1) := by decide +kernel
theorem dX7_wasTouched_1 : decode cX7_wasTouched 1 = .ok (.iload_n 1, 1) := by decide +kernel
theorem dX7_wasTouched_2 : decode cX7_wasTouched 2 = .ok (.iconst 3, 1) := by decide +kernel
theorem dX7_wasTouched_3 : decode cX7_wasTouched 3 = .ok (.invokevirtual 164, 3) := by decide +kernel
theorem dX7_wasTouched_6 : decode cX7_wasTouched 6 = .ok (.iconst 1, 1) := by decide +kernel
theorem dX7_wasTouched_7 : decode cX7_wasTouched 7 = .ok (.if_icmp .ne 7, 3) := by decide +kernel
theorem dX7_wasTouched_10 : decode cX7_wasTouched 10 = .ok (.iconst 1, 1) := by decide +kernel
theorem dX7_wasTouched_11 : decode cX7_wasTouched 11 = .ok (.goto 4, 3) := by decide +kernel
theorem dX7_wasTouched_14 : decode cX7_wasTouched 14 = .ok (.iconst 0, 1) := by decide +kernel
theorem dX7_wasTouched_15 : decode cX7_wasTouched 15 = .ok (.ireturn, 1) := by decide +kernel
theorem dX7_interestOf_0 : decode cX7_interestOf 0 = .ok (.aload_n 0, 1) := by decide +kernel
theorem dX7_interestOf_1 : decode cX7_interestOf 1 = .ok (.aload_n 0, 1) := by decide +kernel
theorem dX7_interestOf_2 : decode cX7_interestOf 2 = .ok (.iload_n 1, 1) := by decide +kernel
theorem dX7_interestOf_3 : decode cX7_interestOf 3 = .ok (.invokevirtual 73, 3) := by decide +kernel
theorem dX7_interestOf_6 : decode cX7_interestOf 6 = .ok (.invokevirtual 61, 3) := by decide +kernel
theorem dX7_interestOf_9 : decode cX7_interestOf 9 = .ok (.ifCond .eq 11, 3) := by decide +kernel
theorem dX7_interestOf_12 : decode cX7_interestOf 12 = .ok (.aload_n 0, 1) := by decide +kernel
theorem dX7_interestOf_13 : decode cX7_interestOf 13 = .ok (.iload_n 1, 1) := by decide +kernel
theorem dX7_interestOf_14 : decode cX7_interestOf 14 = .ok (.invokevirtual 148, 3) := by decide +kernel
theorem dX7_interestOf_17 : decode cX7_interestOf 17 = .ok (.goto 4, 3) := by decide +kernel
theorem dX7_interestOf_20 : decode cX7_interestOf 20 = .ok (.iconst 0, 1) := by decide +kernel
theorem dX7_interestOf_21 : decode cX7_interestOf 21 = .ok (.ireturn, 1) := by decide +kernel
theorem dX7_accountAtRank_0 : decode cX7_accountAtRank 0 = .ok (.iconst (-1), 1) := by decide +kernel
theorem dX7_accountAtRank_1 : decode cX7_accountAtRank 1 = .ok (.istore_n 2, 1) := by decide +kernel
theorem dX7_accountAtRank_2 : decode cX7_accountAtRank 2 = .ok (.iconst 0, 1) := by decide +kernel
theorem dX7_accountAtRank_3 : decode cX7_accountAtRank 3 = .ok (.istore_n 3, 1) := by decide +kernel
theorem dX7_accountAtRank_4 : decode cX7_accountAtRank 4 = .ok (.iload_n 3, 1) := by decide +kernel
theorem dX7_accountAtRank_5 : decode cX7_accountAtRank 5 = .ok (.aload_n 0, 1) := by decide +kernel
theorem dX7_accountAtRank_6 : decode cX7_accountAtRank 6 = .ok (.getfield 9, 3) := by decide +kernel
theorem dX7_accountAtRank_9 : decode cX7_accountAtRank 9 = .ok (.iconst 1, 1) := by decide +kernel
theorem dX7_accountAtRank_10 : decode cX7_accountAtRank 10 = .ok (.iaload, 1) := by decide +kernel
theorem dX7_accountAtRank_11 : decode cX7_accountAtRank 11 = .ok (.if_icmp .ge 86, 3) := by decide +kernel
theorem dX7_accountAtRank_14 : decode cX7_accountAtRank 14 = .ok (.iconst 0, 1) := by decide +kernel
theorem dX7_accountAtRank_15 : decode cX7_accountAtRank 15 = .ok (.istore 4, 2) := by decide +kernel
theorem dX7_accountAtRank_17 : decode cX7_accountAtRank 17 = .ok (.iconst 0, 1) := by decide +kernel
theorem dX7_accountAtRank_18 : decode cX7_accountAtRank 18 = .ok (.istore 5, 2) := by decide +kernel
theorem dX7_accountAtRank_20 : decode cX7_accountAtRank 20 = .ok (.iload 5, 2) := by decide +kernel
theorem dX7_accountAtRank_22 : decode cX7_accountAtRank 22 = .ok (.aload_n 0, 1) := by decide +kernel
theorem dX7_accountAtRank_23 : decode cX7_accountAtRank 23 = .ok (.getfield 9, 3) := by decide +kernel
theorem dX7_accountAtRank_26 : decode cX7_accountAtRank 26 = .ok (.iconst 1, 1) := by decide +kernel
theorem dX7_accountAtRank_27 : decode cX7_accountAtRank 27 = .ok (.iaload, 1) := by decide +kernel
theorem dX7_accountAtRank_28 : decode cX7_accountAtRank 28 = .ok (.if_icmp .ge 51, 3) := by decide +kernel
theorem dX7_accountAtRank_31 : decode cX7_accountAtRank 31 = .ok (.aload_n 0, 1) := by decide +kernel
theorem dX7_accountAtRank_32 : decode cX7_accountAtRank 32 = .ok (.iload 5, 2) := by decide +kernel
theorem dX7_accountAtRank_34 : decode cX7_accountAtRank 34 = .ok (.iconst 1, 1) := by decide +kernel
theorem dX7_accountAtRank_35 : decode cX7_accountAtRank 35 = .ok (.invokevirtual 99, 3) := by decide +kernel
theorem dX7_accountAtRank_38 : decode cX7_accountAtRank 38 = .ok (.aload_n 0, 1) := by decide +kernel
theorem dX7_accountAtRank_39 : decode cX7_accountAtRank 39 = .ok (.iload_n 3, 1) := by decide +kernel
theorem dX7_accountAtRank_40 : decode cX7_accountAtRank 40 = .ok (.iconst 1, 1) := by decide +kernel
theorem dX7_accountAtRank_41 : decode cX7_accountAtRank 41 = .ok (.invokevirtual 99, 3) := by decide +kernel
theorem dX7_accountAtRank_44 : decode cX7_accountAtRank 44 = .ok (.isub, 1) := by decide +kernel
theorem dX7_accountAtRank_45 : decode cX7_accountAtRank 45 = .ok (.istore 6, 2) := by decide +kernel
theorem dX7_accountAtRank_47 : decode cX7_accountAtRank 47 = .ok (.iload 4, 2) := by decide +kernel
theorem dX7_accountAtRank_49 : decode cX7_accountAtRank 49 = .ok (.iload 6, 2) := by decide +kernel
theorem dX7_accountAtRank_51 : decode cX7_accountAtRank 51 = .ok (.ifCond .gt 14, 3) := by decide +kernel
theorem dX7_accountAtRank_54 : decode cX7_accountAtRank 54 = .ok (.iload 6, 2) := by decide +kernel
theorem dX7_accountAtRank_56 : decode cX7_accountAtRank 56 = .ok (.ifCond .ne 13, 3) := by decide +kernel
theorem dX7_accountAtRank_59 : decode cX7_accountAtRank 59 = .ok (.iload 5, 2) := by decide +kernel
theorem dX7_accountAtRank_61 : decode cX7_accountAtRank 61 = .ok (.iload_n 3, 1) := by decide +kernel
theorem dX7_accountAtRank_62 : decode cX7_accountAtRank 62 = .ok (.if_icmp .ge 7, 3) := by decide +kernel
theorem dX7_accountAtRank_65 : decode cX7_accountAtRank 65 = .ok (.iconst 1, 1) := by decide +kernel
theorem dX7_accountAtRank_66 : decode cX7_accountAtRank 66 = .ok (.goto 4, 3) := by decide +kernel
theorem dX7_accountAtRank_69 : decode cX7_accountAtRank 69 = .ok (.iconst 0, 1) := by decide +kernel
theorem dX7_accountAtRank_70 : decode cX7_accountAtRank 70 = .ok (.iadd, 1) := by decide +kernel
theorem dX7_accountAtRank_71 : decode cX7_accountAtRank 71 = .ok (.istore 4, 2) := by decide +kernel
theorem dX7_accountAtRank_73 : decode cX7_accountAtRank 73 = .ok (.iinc 5 1, 3) := by decide +kernel
theorem dX7_accountAtRank_76 : decode cX7_accountAtRank 76 = .ok (.goto (-56), 3) := by decide +kernel
theorem dX7_accountAtRank_79 : decode cX7_accountAtRank 79 = .ok (.iload 4, 2) := by decide +kernel
theorem dX7_accountAtRank_81 : decode cX7_accountAtRank 81 = .ok (.iload_n 1, 1) := by decide +kernel
theorem dX7_accountAtRank_82 : decode cX7_accountAtRank 82 = .ok (.if_icmp .ne 7, 3) := by decide +kernel
theorem dX7_accountAtRank_85 : decode cX7_accountAtRank 85 = .ok (.iload_n 3, 1) := by decide +kernel
theorem dX7_accountAtRank_86 : decode cX7_accountAtRank 86 = .ok (.goto 4, 3) := by decide +kernel
theorem dX7_accountAtRank_89 : decode cX7_accountAtRank 89 = .ok (.iload_n 2, 1) := by decide +kernel
theorem dX7_accountAtRank_90 : decode cX7_accountAtRank 90 = .ok (.istore_n 2, 1) := by decide +kernel
theorem dX7_accountAtRank_91 : decode cX7_accountAtRank 91 = .ok (.iinc 3 1, 3) := by decide +kernel
theorem dX7_accountAtRank_94 : decode cX7_accountAtRank 94 = .ok (.goto (-90), 3) := by decide +kernel
theorem dX7_accountAtRank_97 : decode cX7_accountAtRank 97 = .ok (.aload_n 0, 1) := by decide +kernel
theorem dX7_accountAtRank_98 : decode cX7_accountAtRank 98 = .ok (.iload_n 2, 1) := by decide +kernel
theorem dX7_accountAtRank_99 : decode cX7_accountAtRank 99 = .ok (.iconst (-1), 1) := by decide +kernel
theorem dX7_accountAtRank_100 : decode cX7_accountAtRank 100 = .ok (.if_icmp .eq 7, 3) := by decide +kernel
theorem dX7_accountAtRank_103 : decode cX7_accountAtRank 103 = .ok (.iconst 1, 1) := by decide +kernel
theorem dX7_accountAtRank_104 : decode cX7_accountAtRank 104 = .ok (.goto 4, 3) := by decide +kernel
theorem dX7_accountAtRank_107 : decode cX7_accountAtRank 107 = .ok (.iconst 0, 1) := by decide +kernel
theorem dX7_accountAtRank_108 : decode cX7_accountAtRank 108 = .ok (.invokevirtual 61, 3) := by decide +kernel
theorem dX7_accountAtRank_111 : decode cX7_accountAtRank 111 = .ok (.ifCond .eq 7, 3) := by decide +kernel
theorem dX7_accountAtRank_114 : decode cX7_accountAtRank 114 = .ok (.iload_n 2, 1) := by decide +kernel
theorem dX7_accountAtRank_115 : decode cX7_accountAtRank 115 = .ok (.goto 4, 3) := by decide +kernel
theorem dX7_accountAtRank_118 : decode cX7_accountAtRank 118 = .ok (.iconst 0, 1) := by decide +kernel
theorem dX7_accountAtRank_119 : decode cX7_accountAtRank 119 = .ok (.ireturn, 1) := by decide +kernel
theorem dX7_balances_0 : decode cX7_balances 0 = .ok (.lconst 0, 1) := by decide +kernel
theorem dX7_balances_1 : decode cX7_balances 1 = .ok (.lstore_n 1, 1) := by decide +kernel
theorem dX7_balances_2 : decode cX7_balances 2 = .ok (.iconst 0, 1) := by decide +kernel
theorem dX7_balances_3 : decode cX7_balances 3 = .ok (.istore_n 3, 1) := by decide +kernel
theorem dX7_balances_4 : decode cX7_balances 4 = .ok (.iload_n 3, 1) := by decide +kernel
theorem dX7_balances_5 : decode cX7_balances 5 = .ok (.aload_n 0, 1) := by decide +kernel
theorem dX7_balances_6 : decode cX7_balances 6 = .ok (.getfield 9, 3) := by decide +kernel
theorem dX7_balances_9 : decode cX7_balances 9 = .ok (.iconst 1, 1) := by decide +kernel
theorem dX7_balances_10 : decode cX7_balances 10 = .ok (.iaload, 1) := by decide +kernel
theorem dX7_balances_11 : decode cX7_balances 11 = .ok (.if_icmp .ge 19, 3) := by decide +kernel
theorem dX7_balances_14 : decode cX7_balances 14 = .ok (.lload_n 1, 1) := by decide +kernel
theorem dX7_balances_15 : decode cX7_balances 15 = .ok (.aload_n 0, 1) := by decide +kernel
theorem dX7_balances_16 : decode cX7_balances 16 = .ok (.iload_n 3, 1) := by decide +kernel
theorem dX7_balances_17 : decode cX7_balances 17 = .ok (.iconst 1, 1) := by decide +kernel
theorem dX7_balances_18 : decode cX7_balances 18 = .ok (.invokevirtual 99, 3) := by decide +kernel
theorem dX7_balances_21 : decode cX7_balances 21 = .ok (.i2l, 1) := by decide +kernel
theorem dX7_balances_22 : decode cX7_balances 22 = .ok (.ladd, 1) := by decide +kernel
theorem dX7_balances_23 : decode cX7_balances 23 = .ok (.lstore_n 1, 1) := by decide +kernel
theorem dX7_balances_24 : decode cX7_balances 24 = .ok (.iinc 3 1, 3) := by decide +kernel
theorem dX7_balances_27 : decode cX7_balances 27 = .ok (.goto (-23), 3) := by decide +kernel
theorem dX7_balances_30 : decode cX7_balances 30 = .ok (.lload_n 1, 1) := by decide +kernel
theorem dX7_balances_31 : decode cX7_balances 31 = .ok (.lreturn, 1) := by decide +kernel
theorem dX7_meanBalance_0 : decode cX7_meanBalance 0 = .ok (.aload_n 0, 1) := by decide +kernel
theorem dX7_meanBalance_1 : decode cX7_meanBalance 1 = .ok (.aload_n 0, 1) := by decide +kernel
theorem dX7_meanBalance_2 : decode cX7_meanBalance 2 = .ok (.getfield 9, 3) := by decide +kernel
theorem dX7_meanBalance_5 : decode cX7_meanBalance 5 = .ok (.iconst 1, 1) := by decide +kernel
theorem dX7_meanBalance_6 : decode cX7_meanBalance 6 = .ok (.iaload, 1) := by decide +kernel
theorem dX7_meanBalance_7 : decode cX7_meanBalance 7 = .ok (.ifCond .le 7, 3) := by decide +kernel
theorem dX7_meanBalance_10 : decode cX7_meanBalance 10 = .ok (.iconst 1, 1) := by decide +kernel
theorem dX7_meanBalance_11 : decode cX7_meanBalance 11 = .ok (.goto 4, 3) := by decide +kernel
theorem dX7_meanBalance_14 : decode cX7_meanBalance 14 = .ok (.iconst 0, 1) := by decide +kernel
theorem dX7_meanBalance_15 : decode cX7_meanBalance 15 = .ok (.invokevirtual 61, 3) := by decide +kernel
theorem dX7_meanBalance_18 : decode cX7_meanBalance 18 = .ok (.ifCond .eq 19, 3) := by decide +kernel
theorem dX7_meanBalance_21 : decode cX7_meanBalance 21 = .ok (.aload_n 0, 1) := by decide +kernel
theorem dX7_meanBalance_22 : decode cX7_meanBalance 22 = .ok (.invokevirtual 167, 3) := by decide +kernel
theorem dX7_meanBalance_25 : decode cX7_meanBalance 25 = .ok (.l2d, 1) := by decide +kernel
theorem dX7_meanBalance_26 : decode cX7_meanBalance 26 = .ok (.aload_n 0, 1) := by decide +kernel
theorem dX7_meanBalance_27 : decode cX7_meanBalance 27 = .ok (.getfield 9, 3) := by decide +kernel
theorem dX7_meanBalance_30 : decode cX7_meanBalance 30 = .ok (.iconst 1, 1) := by decide +kernel
theorem dX7_meanBalance_31 : decode cX7_meanBalance 31 = .ok (.iaload, 1) := by decide +kernel
theorem dX7_meanBalance_32 : decode cX7_meanBalance 32 = .ok (.i2d, 1) := by decide +kernel
theorem dX7_meanBalance_33 : decode cX7_meanBalance 33 = .ok (.ddiv, 1) := by decide +kernel
theorem dX7_meanBalance_34 : decode cX7_meanBalance 34 = .ok (.goto 4, 3) := by decide +kernel
theorem dX7_meanBalance_37 : decode cX7_meanBalance 37 = .ok (.dconst 0, 1) := by decide +kernel
theorem dX7_meanBalance_38 : decode cX7_meanBalance 38 = .ok (.dreturn, 1) := by decide +kernel
theorem dX7_bankBalance_0 : decode cX7_bankBalance 0 = .ok (.aload_n 0, 1) := by decide +kernel
theorem dX7_bankBalance_1 : decode cX7_bankBalance 1 = .ok (.iconst 0, 1) := by decide +kernel
theorem dX7_bankBalance_2 : decode cX7_bankBalance 2 = .ok (.putfield 44, 3) := by decide +kernel
theorem dX7_bankBalance_5 : decode cX7_bankBalance 5 = .ok (.aload_n 0, 1) := by decide +kernel
theorem dX7_bankBalance_6 : decode cX7_bankBalance 6 = .ok (.getfield 9, 3) := by decide +kernel
theorem dX7_bankBalance_9 : decode cX7_bankBalance 9 = .ok (.iconst 4, 1) := by decide +kernel
theorem dX7_bankBalance_10 : decode cX7_bankBalance 10 = .ok (.iaload, 1) := by decide +kernel
theorem dX7_bankBalance_11 : decode cX7_bankBalance 11 = .ok (.ireturn, 1) := by decide +kernel
theorem dX7_totalInk_0 : decode cX7_totalInk 0 = .ok (.aload_n 0, 1) := by decide +kernel
theorem dX7_totalInk_1 : decode cX7_totalInk 1 = .ok (.iconst 0, 1) := by decide +kernel
theorem dX7_totalInk_2 : decode cX7_totalInk 2 = .ok (.putfield 44, 3) := by decide +kernel
theorem dX7_totalInk_5 : decode cX7_totalInk 5 = .ok (.aload_n 0, 1) := by decide +kernel
theorem dX7_totalInk_6 : decode cX7_totalInk 6 = .ok (.invokevirtual 167, 3) := by decide +kernel
theorem dX7_totalInk_9 : decode cX7_totalInk 9 = .ok (.aload_n 0, 1) := by decide +kernel
theorem dX7_totalInk_10 : decode cX7_totalInk 10 = .ok (.getfield 9, 3) := by decide +kernel
theorem dX7_totalInk_13 : decode cX7_totalInk 13 = .ok (.iconst 4, 1) := by decide +kernel
theorem dX7_totalInk_14 : decode cX7_totalInk 14 = .ok (.iaload, 1) := by decide +kernel
theorem dX7_totalInk_15 : decode cX7_totalInk 15 = .ok (.i2l, 1) := by decide +kernel
theorem dX7_totalInk_16 : decode cX7_totalInk 16 = .ok (.ladd, 1) := by decide +kernel
theorem dX7_totalInk_17 : decode cX7_totalInk 17 = .ok (.lreturn, 1) := by decide +kernel
theorem dX7_totalInkByMovements_0 : decode cX7_totalInkByMovements 0 = .ok (.aload_n 0, 1) := by decide +kernel
theorem dX7_totalInkByMovements_1 : decode cX7_totalInkByMovements 1 = .ok (.iconst 0, 1) := by decide +kernel
theorem dX7_totalInkByMovements_2 : decode cX7_totalInkByMovements 2 = .ok (.putfield 44, 3) := by decide +kernel
theorem dX7_totalInkByMovements_5 : decode cX7_totalInkByMovements 5 = .ok (.aload_n 0, 1) := by decide +kernel
theorem dX7_totalInkByMovements_6 : decode cX7_totalInkByMovements 6 = .ok (.getfield 9, 3) := by decide +kernel
theorem dX7_totalInkByMovements_9 : decode cX7_totalInkByMovements 9 = .ok (.iconst 5, 1) := by decide +kernel
theorem dX7_totalInkByMovements_10 : decode cX7_totalInkByMovements 10 = .ok (.iaload, 1) := by decide +kernel
theorem dX7_totalInkByMovements_11 : decode cX7_totalInkByMovements 11 = .ok (.aload_n 0, 1) := by decide +kernel
theorem dX7_totalInkByMovements_12 : decode cX7_totalInkByMovements 12 = .ok (.getfield 9, 3) := by decide +kernel
theorem dX7_totalInkByMovements_15 : decode cX7_totalInkByMovements 15 = .ok (.bipush 6, 2) := by decide +kernel
theorem dX7_totalInkByMovements_17 : decode cX7_totalInkByMovements 17 = .ok (.iaload, 1) := by decide +kernel
theorem dX7_totalInkByMovements_18 : decode cX7_totalInkByMovements 18 = .ok (.isub, 1) := by decide +kernel
theorem dX7_totalInkByMovements_19 : decode cX7_totalInkByMovements 19 = .ok (.i2l, 1) := by decide +kernel
theorem dX7_totalInkByMovements_20 : decode cX7_totalInkByMovements 20 = .ok (.lreturn, 1) := by decide +kernel
theorem dX7_transferredInk_0 : decode cX7_transferredInk 0 = .ok (.aload_n 0, 1) := by decide +kernel
theorem dX7_transferredInk_1 : decode cX7_transferredInk 1 = .ok (.iconst 0, 1) := by decide +kernel
theorem dX7_transferredInk_2 : decode cX7_transferredInk 2 = .ok (.putfield 44, 3) := by decide +kernel
theorem dX7_transferredInk_5 : decode cX7_transferredInk 5 = .ok (.aload_n 0, 1) := by decide +kernel
theorem dX7_transferredInk_6 : decode cX7_transferredInk 6 = .ok (.getfield 9, 3) := by decide +kernel
theorem dX7_transferredInk_9 : decode cX7_transferredInk 9 = .ok (.bipush 7, 2) := by decide +kernel
theorem dX7_transferredInk_11 : decode cX7_transferredInk 11 = .ok (.iaload, 1) := by decide +kernel
theorem dX7_transferredInk_12 : decode cX7_transferredInk 12 = .ok (.i2l, 1) := by decide +kernel
theorem dX7_transferredInk_13 : decode cX7_transferredInk 13 = .ok (.lreturn, 1) := by decide +kernel
theorem dX7_interestPaid_0 : decode cX7_interestPaid 0 = .ok (.aload_n 0, 1) := by decide +kernel
theorem dX7_interestPaid_1 : decode cX7_interestPaid 1 = .ok (.iconst 0, 1) := by decide +kernel
theorem dX7_interestPaid_2 : decode cX7_interestPaid 2 = .ok (.putfield 44, 3) := by decide +kernel
theorem dX7_interestPaid_5 : decode cX7_interestPaid 5 = .ok (.aload_n 0, 1) := by decide +kernel
theorem dX7_interestPaid_6 : decode cX7_interestPaid 6 = .ok (.getfield 9, 3) := by decide +kernel
theorem dX7_interestPaid_9 : decode cX7_interestPaid 9 = .ok (.bipush 8, 2) := by decide +kernel
theorem dX7_interestPaid_11 : decode cX7_interestPaid 11 = .ok (.iaload, 1) := by decide +kernel
theorem dX7_interestPaid_12 : decode cX7_interestPaid 12 = .ok (.i2l, 1) := by decide +kernel
theorem dX7_interestPaid_13 : decode cX7_interestPaid 13 = .ok (.lreturn, 1) := by decide +kernel
theorem dX7_chargesPaid_0 : decode cX7_chargesPaid 0 = .ok (.aload_n 0, 1) := by decide +kernel
theorem dX7_chargesPaid_1 : decode cX7_chargesPaid 1 = .ok (.iconst 0, 1) := by decide +kernel
theorem dX7_chargesPaid_2 : decode cX7_chargesPaid 2 = .ok (.putfield 44, 3) := by decide +kernel
theorem dX7_chargesPaid_5 : decode cX7_chargesPaid 5 = .ok (.aload_n 0, 1) := by decide +kernel
theorem dX7_chargesPaid_6 : decode cX7_chargesPaid 6 = .ok (.getfield 9, 3) := by decide +kernel
theorem dX7_chargesPaid_9 : decode cX7_chargesPaid 9 = .ok (.bipush 9, 2) := by decide +kernel
theorem dX7_chargesPaid_11 : decode cX7_chargesPaid 11 = .ok (.iaload, 1) := by decide +kernel
theorem dX7_chargesPaid_12 : decode cX7_chargesPaid 12 = .ok (.i2l, 1) := by decide +kernel
theorem dX7_chargesPaid_13 : decode cX7_chargesPaid 13 = .ok (.lreturn, 1) := by decide +kernel
theorem dX7_day_0 : decode cX7_day 0 = .ok (.aload_n 0, 1) := by decide +kernel
theorem dX7_day_1 : decode cX7_day 1 = .ok (.iconst 0, 1) := by decide +kernel
theorem dX7_day_2 : decode cX7_day 2 = .ok (.putfield 44, 3) := by decide +kernel
theorem dX7_day_5 : decode cX7_day 5 = .ok (.aload_n 0, 1) := by decide +kernel
theorem dX7_day_6 : decode cX7_day 6 = .ok (.getfield 9, 3) := by decide +kernel
theorem dX7_day_9 : decode cX7_day 9 = .ok (.iconst 0, 1) := by decide +kernel
theorem dX7_day_10 : decode cX7_day 10 = .ok (.iaload, 1) := by decide +kernel
theorem dX7_day_11 : decode cX7_day 11 = .ok (.ireturn, 1) := by decide +kernel
theorem dX7_balanceAfter_0 : decode cX7_balanceAfter 0 = .ok (.aload_n 0, 1) := by decide +kernel
theorem dX7_balanceAfter_1 : decode cX7_balanceAfter 1 = .ok (.aload_n 0, 1) := by decide +kernel
theorem dX7_balanceAfter_2 : decode cX7_balanceAfter 2 = .ok (.iload_n 1, 1) := by decide +kernel
theorem dX7_balanceAfter_3 : decode cX7_balanceAfter 3 = .ok (.invokevirtual 73, 3) := by decide +kernel
theorem dX7_balanceAfter_6 : decode cX7_balanceAfter 6 = .ok (.iload_n 2, 1) := by decide +kernel
theorem dX7_balanceAfter_7 : decode cX7_balanceAfter 7 = .ok (.iconst 0, 1) := by decide +kernel
theorem dX7_balanceAfter_8 : decode cX7_balanceAfter 8 = .ok (.bipush 60, 2) := by decide +kernel
theorem dX7_balanceAfter_10 : decode cX7_balanceAfter 10 = .ok (.invokestatic 69, 3) := by decide +kernel
theorem dX7_balanceAfter_13 : decode cX7_balanceAfter 13 = .ok (.iconst 1, 1) := by decide +kernel
theorem dX7_balanceAfter_14 : decode cX7_balanceAfter 14 = .ok (.iconst 1, 1) := by decide +kernel
theorem dX7_balanceAfter_15 : decode cX7_balanceAfter 15 = .ok (.invokevirtual 47, 3) := by decide +kernel
theorem dX7_balanceAfter_18 : decode cX7_balanceAfter 18 = .ok (.ifCond .ne 5, 3) := by decide +kernel
theorem dX7_balanceAfter_21 : decode cX7_balanceAfter 21 = .ok (.iconst 0, 1) := by decide +kernel
theorem dX7_balanceAfter_22 : decode cX7_balanceAfter 22 = .ok (.ireturn, 1) := by decide +kernel
theorem dX7_balanceAfter_23 : decode cX7_balanceAfter 23 = .ok (.aload_n 0, 1) := by decide +kernel
theorem dX7_balanceAfter_24 : decode cX7_balanceAfter 24 = .ok (.getfield 9, 3) := by decide +kernel
theorem dX7_balanceAfter_27 : decode cX7_balanceAfter 27 = .ok (.iconst 0, 1) := by decide +kernel
theorem dX7_balanceAfter_28 : decode cX7_balanceAfter 28 = .ok (.aload_n 0, 1) := by decide +kernel
theorem dX7_balanceAfter_29 : decode cX7_balanceAfter 29 = .ok (.getfield 16, 3) := by decide +kernel
theorem dX7_balanceAfter_32 : decode cX7_balanceAfter 32 = .ok (.iconst 0, 1) := by decide +kernel
theorem dX7_balanceAfter_33 : decode cX7_balanceAfter 33 = .ok (.invokestatic 51, 3) := by decide +kernel
theorem dX7_balanceAfter_36 : decode cX7_balanceAfter 36 = .ok (.iconst 0, 1) := by decide +kernel
theorem dX7_balanceAfter_37 : decode cX7_balanceAfter 37 = .ok (.istore_n 3, 1) := by decide +kernel
theorem dX7_balanceAfter_38 : decode cX7_balanceAfter 38 = .ok (.iload_n 3, 1) := by decide +kernel
theorem dX7_balanceAfter_39 : decode cX7_balanceAfter 39 = .ok (.iload_n 2, 1) := by decide +kernel
theorem dX7_balanceAfter_40 : decode cX7_balanceAfter 40 = .ok (.if_icmp .ge 15, 3) := by decide +kernel
theorem dX7_balanceAfter_43 : decode cX7_balanceAfter 43 = .ok (.aload_n 0, 1) := by decide +kernel
theorem dX7_balanceAfter_44 : decode cX7_balanceAfter 44 = .ok (.invokevirtual 157, 3) := by decide +kernel
theorem dX7_balanceAfter_47 : decode cX7_balanceAfter 47 = .ok (.istore 4, 2) := by decide +kernel
theorem dX7_balanceAfter_49 : decode cX7_balanceAfter 49 = .ok (.iinc 3 1, 3) := by decide +kernel
theorem dX7_balanceAfter_52 : decode cX7_balanceAfter 52 = .ok (.goto (-14), 3) := by decide +kernel
theorem dX7_balanceAfter_55 : decode cX7_balanceAfter 55 = .ok (.aload_n 0, 1) := by decide +kernel
theorem dX7_balanceAfter_56 : decode cX7_balanceAfter 56 = .ok (.iload_n 1, 1) := by decide +kernel
theorem dX7_balanceAfter_57 : decode cX7_balanceAfter 57 = .ok (.iconst 1, 1) := by decide +kernel
theorem dX7_balanceAfter_58 : decode cX7_balanceAfter 58 = .ok (.invokevirtual 99, 3) := by decide +kernel
theorem dX7_balanceAfter_61 : decode cX7_balanceAfter 61 = .ok (.istore_n 3, 1) := by decide +kernel
theorem dX7_balanceAfter_62 : decode cX7_balanceAfter 62 = .ok (.aload_n 0, 1) := by decide +kernel
theorem dX7_balanceAfter_63 : decode cX7_balanceAfter 63 = .ok (.getfield 16, 3) := by decide +kernel
theorem dX7_balanceAfter_66 : decode cX7_balanceAfter 66 = .ok (.iconst 0, 1) := by decide +kernel
theorem dX7_balanceAfter_67 : decode cX7_balanceAfter 67 = .ok (.aload_n 0, 1) := by decide +kernel
theorem dX7_balanceAfter_68 : decode cX7_balanceAfter 68 = .ok (.getfield 9, 3) := by decide +kernel
theorem dX7_balanceAfter_71 : decode cX7_balanceAfter 71 = .ok (.iconst 0, 1) := by decide +kernel
theorem dX7_balanceAfter_72 : decode cX7_balanceAfter 72 = .ok (.invokestatic 51, 3) := by decide +kernel
theorem dX7_balanceAfter_75 : decode cX7_balanceAfter 75 = .ok (.iload_n 3, 1) := by decide +kernel
theorem dX7_balanceAfter_76 : decode cX7_balanceAfter 76 = .ok (.ireturn, 1) := by decide +kernel
theorem dX7_transferCount_0 : decode cX7_transferCount 0 = .ok (.aload_n 0, 1) := by decide +kernel
theorem dX7_transferCount_1 : decode cX7_transferCount 1 = .ok (.iconst 0, 1) := by decide +kernel
theorem dX7_transferCount_2 : decode cX7_transferCount 2 = .ok (.putfield 44, 3) := by decide +kernel
theorem dX7_transferCount_5 : decode cX7_transferCount 5 = .ok (.aload_n 0, 1) := by decide +kernel
theorem dX7_transferCount_6 : decode cX7_transferCount 6 = .ok (.getfield 9, 3) := by decide +kernel
theorem dX7_transferCount_9 : decode cX7_transferCount 9 = .ok (.iconst 3, 1) := by decide +kernel
theorem dX7_transferCount_10 : decode cX7_transferCount 10 = .ok (.iaload, 1) := by decide +kernel
theorem dX7_transferCount_11 : decode cX7_transferCount 11 = .ok (.ireturn, 1) := by decide +kernel
theorem dX7_transferAt_0 : decode cX7_transferAt 0 = .ok (.iconst (-1), 1) := by decide +kernel
theorem dX7_transferAt_1 : decode cX7_transferAt 1 = .ok (.istore_n 2, 1) := by decide +kernel
theorem dX7_transferAt_2 : decode cX7_transferAt 2 = .ok (.iconst 0, 1) := by decide +kernel
theorem dX7_transferAt_3 : decode cX7_transferAt 3 = .ok (.istore_n 3, 1) := by decide +kernel
theorem dX7_transferAt_4 : decode cX7_transferAt 4 = .ok (.iload_n 3, 1) := by decide +kernel
theorem dX7_transferAt_5 : decode cX7_transferAt 5 = .ok (.aload_n 0, 1) := by decide +kernel
theorem dX7_transferAt_6 : decode cX7_transferAt 6 = .ok (.getfield 9, 3) := by decide +kernel
theorem dX7_transferAt_9 : decode cX7_transferAt 9 = .ok (.iconst 3, 1) := by decide +kernel
theorem dX7_transferAt_10 : decode cX7_transferAt 10 = .ok (.iaload, 1) := by decide +kernel
theorem dX7_transferAt_11 : decode cX7_transferAt 11 = .ok (.if_icmp .ge 91, 3) := by decide +kernel
theorem dX7_transferAt_14 : decode cX7_transferAt 14 = .ok (.iconst 0, 1) := by decide +kernel
theorem dX7_transferAt_15 : decode cX7_transferAt 15 = .ok (.istore 4, 2) := by decide +kernel
theorem dX7_transferAt_17 : decode cX7_transferAt 17 = .ok (.iconst 0, 1) := by decide +kernel
theorem dX7_transferAt_18 : decode cX7_transferAt 18 = .ok (.istore 5, 2) := by decide +kernel
theorem dX7_transferAt_20 : decode cX7_transferAt 20 = .ok (.iload 5, 2) := by decide +kernel
theorem dX7_transferAt_22 : decode cX7_transferAt 22 = .ok (.aload_n 0, 1) := by decide +kernel
theorem dX7_transferAt_23 : decode cX7_transferAt 23 = .ok (.getfield 9, 3) := by decide +kernel
theorem dX7_transferAt_26 : decode cX7_transferAt 26 = .ok (.iconst 3, 1) := by decide +kernel
theorem dX7_transferAt_27 : decode cX7_transferAt 27 = .ok (.iaload, 1) := by decide +kernel
theorem dX7_transferAt_28 : decode cX7_transferAt 28 = .ok (.if_icmp .ge 51, 3) := by decide +kernel
theorem dX7_transferAt_31 : decode cX7_transferAt 31 = .ok (.aload_n 0, 1) := by decide +kernel
theorem dX7_transferAt_32 : decode cX7_transferAt 32 = .ok (.iload_n 3, 1) := by decide +kernel
theorem dX7_transferAt_33 : decode cX7_transferAt 33 = .ok (.iconst 4, 1) := by decide +kernel
theorem dX7_transferAt_34 : decode cX7_transferAt 34 = .ok (.invokevirtual 126, 3) := by decide +kernel
theorem dX7_transferAt_37 : decode cX7_transferAt 37 = .ok (.aload_n 0, 1) := by decide +kernel
theorem dX7_transferAt_38 : decode cX7_transferAt 38 = .ok (.iload 5, 2) := by decide +kernel
theorem dX7_transferAt_40 : decode cX7_transferAt 40 = .ok (.iconst 4, 1) := by decide +kernel
theorem dX7_transferAt_41 : decode cX7_transferAt 41 = .ok (.invokevirtual 126, 3) := by decide +kernel
theorem dX7_transferAt_44 : decode cX7_transferAt 44 = .ok (.isub, 1) := by decide +kernel
theorem dX7_transferAt_45 : decode cX7_transferAt 45 = .ok (.istore 6, 2) := by decide +kernel
theorem dX7_transferAt_47 : decode cX7_transferAt 47 = .ok (.iload 4, 2) := by decide +kernel
theorem dX7_transferAt_49 : decode cX7_transferAt 49 = .ok (.iload 6, 2) := by decide +kernel
theorem dX7_transferAt_51 : decode cX7_transferAt 51 = .ok (.ifCond .gt 14, 3) := by decide +kernel
theorem dX7_transferAt_54 : decode cX7_transferAt 54 = .ok (.iload 6, 2) := by decide +kernel
theorem dX7_transferAt_56 : decode cX7_transferAt 56 = .ok (.ifCond .ne 13, 3) := by decide +kernel
theorem dX7_transferAt_59 : decode cX7_transferAt 59 = .ok (.iload 5, 2) := by decide +kernel
theorem dX7_transferAt_61 : decode cX7_transferAt 61 = .ok (.iload_n 3, 1) := by decide +kernel
theorem dX7_transferAt_62 : decode cX7_transferAt 62 = .ok (.if_icmp .ge 7, 3) := by decide +kernel
theorem dX7_transferAt_65 : decode cX7_transferAt 65 = .ok (.iconst 1, 1) := by decide +kernel
theorem dX7_transferAt_66 : decode cX7_transferAt 66 = .ok (.goto 4, 3) := by decide +kernel
theorem dX7_transferAt_69 : decode cX7_transferAt 69 = .ok (.iconst 0, 1) := by decide +kernel
theorem dX7_transferAt_70 : decode cX7_transferAt 70 = .ok (.iadd, 1) := by decide +kernel
theorem dX7_transferAt_71 : decode cX7_transferAt 71 = .ok (.istore 4, 2) := by decide +kernel
theorem dX7_transferAt_73 : decode cX7_transferAt 73 = .ok (.iinc 5 1, 3) := by decide +kernel
theorem dX7_transferAt_76 : decode cX7_transferAt 76 = .ok (.goto (-56), 3) := by decide +kernel
theorem dX7_transferAt_79 : decode cX7_transferAt 79 = .ok (.iload 4, 2) := by decide +kernel
theorem dX7_transferAt_81 : decode cX7_transferAt 81 = .ok (.iload_n 1, 1) := by decide +kernel
theorem dX7_transferAt_82 : decode cX7_transferAt 82 = .ok (.if_icmp .ne 12, 3) := by decide +kernel
theorem dX7_transferAt_85 : decode cX7_transferAt 85 = .ok (.aload_n 0, 1) := by decide +kernel
theorem dX7_transferAt_86 : decode cX7_transferAt 86 = .ok (.iload_n 3, 1) := by decide +kernel
theorem dX7_transferAt_87 : decode cX7_transferAt 87 = .ok (.iconst 0, 1) := by decide +kernel
theorem dX7_transferAt_88 : decode cX7_transferAt 88 = .ok (.invokevirtual 126, 3) := by decide +kernel
theorem dX7_transferAt_91 : decode cX7_transferAt 91 = .ok (.goto 4, 3) := by decide +kernel
theorem dX7_transferAt_94 : decode cX7_transferAt 94 = .ok (.iload_n 2, 1) := by decide +kernel
theorem dX7_transferAt_95 : decode cX7_transferAt 95 = .ok (.istore_n 2, 1) := by decide +kernel
theorem dX7_transferAt_96 : decode cX7_transferAt 96 = .ok (.iinc 3 1, 3) := by decide +kernel
theorem dX7_transferAt_99 : decode cX7_transferAt 99 = .ok (.goto (-95), 3) := by decide +kernel
theorem dX7_transferAt_102 : decode cX7_transferAt 102 = .ok (.aload_n 0, 1) := by decide +kernel
theorem dX7_transferAt_103 : decode cX7_transferAt 103 = .ok (.iload_n 2, 1) := by decide +kernel
theorem dX7_transferAt_104 : decode cX7_transferAt 104 = .ok (.iconst (-1), 1) := by decide +kernel
theorem dX7_transferAt_105 : decode cX7_transferAt 105 = .ok (.if_icmp .eq 7, 3) := by decide +kernel
theorem dX7_transferAt_108 : decode cX7_transferAt 108 = .ok (.iconst 1, 1) := by decide +kernel
theorem dX7_transferAt_109 : decode cX7_transferAt 109 = .ok (.goto 4, 3) := by decide +kernel
theorem dX7_transferAt_112 : decode cX7_transferAt 112 = .ok (.iconst 0, 1) := by decide +kernel
theorem dX7_transferAt_113 : decode cX7_transferAt 113 = .ok (.invokevirtual 61, 3) := by decide +kernel
theorem dX7_transferAt_116 : decode cX7_transferAt 116 = .ok (.ifCond .eq 7, 3) := by decide +kernel
theorem dX7_transferAt_119 : decode cX7_transferAt 119 = .ok (.iload_n 2, 1) := by decide +kernel
theorem dX7_transferAt_120 : decode cX7_transferAt 120 = .ok (.goto 4, 3) := by decide +kernel
theorem dX7_transferAt_123 : decode cX7_transferAt 123 = .ok (.iconst 0, 1) := by decide +kernel
theorem dX7_transferAt_124 : decode cX7_transferAt 124 = .ok (.ireturn, 1) := by decide +kernel
theorem dX7_asksTransfer_0 : decode cX7_asksTransfer 0 = .ok (.aload_n 0, 1) := by decide +kernel
theorem dX7_asksTransfer_1 : decode cX7_asksTransfer 1 = .ok (.iload_n 1, 1) := by decide +kernel
theorem dX7_asksTransfer_2 : decode cX7_asksTransfer 2 = .ok (.invokevirtual 123, 3) := by decide +kernel
theorem dX7_asksTransfer_5 : decode cX7_asksTransfer 5 = .ok (.istore_n 3, 1) := by decide +kernel
theorem dX7_asksTransfer_6 : decode cX7_asksTransfer 6 = .ok (.aload_n 0, 1) := by decide +kernel
theorem dX7_asksTransfer_7 : decode cX7_asksTransfer 7 = .ok (.iload_n 3, 1) := by decide +kernel
theorem dX7_asksTransfer_8 : decode cX7_asksTransfer 8 = .ok (.iconst (-1), 1) := by decide +kernel
theorem dX7_asksTransfer_9 : decode cX7_asksTransfer 9 = .ok (.if_icmp .eq 7, 3) := by decide +kernel
theorem dX7_asksTransfer_12 : decode cX7_asksTransfer 12 = .ok (.iconst 1, 1) := by decide +kernel
theorem dX7_asksTransfer_13 : decode cX7_asksTransfer 13 = .ok (.goto 4, 3) := by decide +kernel
theorem dX7_asksTransfer_16 : decode cX7_asksTransfer 16 = .ok (.iconst 0, 1) := by decide +kernel
theorem dX7_asksTransfer_17 : decode cX7_asksTransfer 17 = .ok (.invokevirtual 61, 3) := by decide +kernel
theorem dX7_asksTransfer_20 : decode cX7_asksTransfer 20 = .ok (.ifCond .eq 12, 3) := by decide +kernel
theorem dX7_asksTransfer_23 : decode cX7_asksTransfer 23 = .ok (.aload_n 0, 1) := by decide +kernel
theorem dX7_asksTransfer_24 : decode cX7_asksTransfer 24 = .ok (.iload_n 3, 1) := by decide +kernel
theorem dX7_asksTransfer_25 : decode cX7_asksTransfer 25 = .ok (.iload_n 2, 1) := by decide +kernel
theorem dX7_asksTransfer_26 : decode cX7_asksTransfer 26 = .ok (.invokevirtual 126, 3) := by decide +kernel
theorem dX7_asksTransfer_29 : decode cX7_asksTransfer 29 = .ok (.goto 4, 3) := by decide +kernel
theorem dX7_asksTransfer_32 : decode cX7_asksTransfer 32 = .ok (.iconst 0, 1) := by decide +kernel
theorem dX7_asksTransfer_33 : decode cX7_asksTransfer 33 = .ok (.ireturn, 1) := by decide +kernel
theorem dX7_senderOf_0 : decode cX7_senderOf 0 = .ok (.aload_n 0, 1) := by decide +kernel
theorem dX7_senderOf_1 : decode cX7_senderOf 1 = .ok (.iload_n 1, 1) := by decide +kernel
theorem dX7_senderOf_2 : decode cX7_senderOf 2 = .ok (.iconst 1, 1) := by decide +kernel
theorem dX7_senderOf_3 : decode cX7_senderOf 3 = .ok (.invokevirtual 171, 3) := by decide +kernel
theorem dX7_senderOf_6 : decode cX7_senderOf 6 = .ok (.ireturn, 1) := by decide +kernel
theorem dX7_receiverOf_0 : decode cX7_receiverOf 0 = .ok (.aload_n 0, 1) := by decide +kernel
theorem dX7_receiverOf_1 : decode cX7_receiverOf 1 = .ok (.iload_n 1, 1) := by decide +kernel
theorem dX7_receiverOf_2 : decode cX7_receiverOf 2 = .ok (.iconst 2, 1) := by decide +kernel
theorem dX7_receiverOf_3 : decode cX7_receiverOf 3 = .ok (.invokevirtual 171, 3) := by decide +kernel
theorem dX7_receiverOf_6 : decode cX7_receiverOf 6 = .ok (.ireturn, 1) := by decide +kernel
theorem dX7_amountOf_0 : decode cX7_amountOf 0 = .ok (.aload_n 0, 1) := by decide +kernel
theorem dX7_amountOf_1 : decode cX7_amountOf 1 = .ok (.iload_n 1, 1) := by decide +kernel
theorem dX7_amountOf_2 : decode cX7_amountOf 2 = .ok (.iconst 3, 1) := by decide +kernel
theorem dX7_amountOf_3 : decode cX7_amountOf 3 = .ok (.invokevirtual 171, 3) := by decide +kernel
theorem dX7_amountOf_6 : decode cX7_amountOf 6 = .ok (.ireturn, 1) := by decide +kernel
theorem dX7_daysUntilDue_0 : decode cX7_daysUntilDue 0 = .ok (.aload_n 0, 1) := by decide +kernel
theorem dX7_daysUntilDue_1 : decode cX7_daysUntilDue 1 = .ok (.iload_n 1, 1) := by decide +kernel
theorem dX7_daysUntilDue_2 : decode cX7_daysUntilDue 2 = .ok (.iconst 4, 1) := by decide +kernel
theorem dX7_daysUntilDue_3 : decode cX7_daysUntilDue 3 = .ok (.invokevirtual 171, 3) := by decide +kernel
theorem dX7_daysUntilDue_6 : decode cX7_daysUntilDue 6 = .ok (.istore_n 2, 1) := by decide +kernel
theorem dX7_daysUntilDue_7 : decode cX7_daysUntilDue 7 = .ok (.aload_n 0, 1) := by decide +kernel
theorem dX7_daysUntilDue_8 : decode cX7_daysUntilDue 8 = .ok (.getfield 44, 3) := by decide +kernel
theorem dX7_daysUntilDue_11 : decode cX7_daysUntilDue 11 = .ok (.ifCond .ne 14, 3) := by decide +kernel
theorem dX7_daysUntilDue_14 : decode cX7_daysUntilDue 14 = .ok (.iload_n 2, 1) := by decide +kernel
theorem dX7_daysUntilDue_15 : decode cX7_daysUntilDue 15 = .ok (.aload_n 0, 1) := by decide +kernel
theorem dX7_daysUntilDue_16 : decode cX7_daysUntilDue 16 = .ok (.getfield 9, 3) := by decide +kernel
theorem dX7_daysUntilDue_19 : decode cX7_daysUntilDue 19 = .ok (.iconst 0, 1) := by decide +kernel
theorem dX7_daysUntilDue_20 : decode cX7_daysUntilDue 20 = .ok (.iaload, 1) := by decide +kernel
theorem dX7_daysUntilDue_21 : decode cX7_daysUntilDue 21 = .ok (.isub, 1) := by decide +kernel
theorem dX7_daysUntilDue_22 : decode cX7_daysUntilDue 22 = .ok (.goto 4, 3) := by decide +kernel
theorem dX7_daysUntilDue_25 : decode cX7_daysUntilDue 25 = .ok (.iconst 0, 1) := by decide +kernel
theorem dX7_daysUntilDue_26 : decode cX7_daysUntilDue 26 = .ok (.ireturn, 1) := by decide +kernel
theorem dX7_wouldBounce_0 : decode cX7_wouldBounce 0 = .ok (.aload_n 0, 1) := by decide +kernel
theorem dX7_wouldBounce_1 : decode cX7_wouldBounce 1 = .ok (.aload_n 0, 1) := by decide +kernel
theorem dX7_wouldBounce_2 : decode cX7_wouldBounce 2 = .ok (.iload_n 1, 1) := by decide +kernel
theorem dX7_wouldBounce_3 : decode cX7_wouldBounce 3 = .ok (.invokevirtual 123, 3) := by decide +kernel
theorem dX7_wouldBounce_6 : decode cX7_wouldBounce 6 = .ok (.iconst (-1), 1) := by decide +kernel
theorem dX7_wouldBounce_7 : decode cX7_wouldBounce 7 = .ok (.if_icmp .eq 7, 3) := by decide +kernel
theorem dX7_wouldBounce_10 : decode cX7_wouldBounce 10 = .ok (.iconst 1, 1) := by decide +kernel
theorem dX7_wouldBounce_11 : decode cX7_wouldBounce 11 = .ok (.goto 4, 3) := by decide +kernel
theorem dX7_wouldBounce_14 : decode cX7_wouldBounce 14 = .ok (.iconst 0, 1) := by decide +kernel
theorem dX7_wouldBounce_15 : decode cX7_wouldBounce 15 = .ok (.invokevirtual 61, 3) := by decide +kernel
theorem dX7_wouldBounce_18 : decode cX7_wouldBounce 18 = .ok (.ifCond .ne 5, 3) := by decide +kernel
theorem dX7_wouldBounce_21 : decode cX7_wouldBounce 21 = .ok (.iconst 0, 1) := by decide +kernel
theorem dX7_wouldBounce_22 : decode cX7_wouldBounce 22 = .ok (.ireturn, 1) := by decide +kernel
theorem dX7_wouldBounce_23 : decode cX7_wouldBounce 23 = .ok (.aload_n 0, 1) := by decide +kernel
theorem dX7_wouldBounce_24 : decode cX7_wouldBounce 24 = .ok (.getfield 9, 3) := by decide +kernel
theorem dX7_wouldBounce_27 : decode cX7_wouldBounce 27 = .ok (.iconst 0, 1) := by decide +kernel
theorem dX7_wouldBounce_28 : decode cX7_wouldBounce 28 = .ok (.aload_n 0, 1) := by decide +kernel
theorem dX7_wouldBounce_29 : decode cX7_wouldBounce 29 = .ok (.getfield 16, 3) := by decide +kernel
theorem dX7_wouldBounce_32 : decode cX7_wouldBounce 32 = .ok (.iconst 0, 1) := by decide +kernel
theorem dX7_wouldBounce_33 : decode cX7_wouldBounce 33 = .ok (.invokestatic 51, 3) := by decide +kernel
theorem dX7_wouldBounce_36 : decode cX7_wouldBounce 36 = .ok (.aload_n 0, 1) := by decide +kernel
theorem dX7_wouldBounce_37 : decode cX7_wouldBounce 37 = .ok (.iload_n 1, 1) := by decide +kernel
theorem dX7_wouldBounce_38 : decode cX7_wouldBounce 38 = .ok (.putfield 32, 3) := by decide +kernel
theorem dX7_wouldBounce_41 : decode cX7_wouldBounce 41 = .ok (.aload_n 0, 1) := by decide +kernel
theorem dX7_wouldBounce_42 : decode cX7_wouldBounce 42 = .ok (.iconst 0, 1) := by decide +kernel
theorem dX7_wouldBounce_43 : decode cX7_wouldBounce 43 = .ok (.putfield 145, 3) := by decide +kernel
theorem dX7_wouldBounce_46 : decode cX7_wouldBounce 46 = .ok (.aload_n 0, 1) := by decide +kernel
theorem dX7_wouldBounce_47 : decode cX7_wouldBounce 47 = .ok (.iload_n 1, 1) := by decide +kernel
theorem dX7_wouldBounce_48 : decode cX7_wouldBounce 48 = .ok (.invokevirtual 123, 3) := by decide +kernel
theorem dX7_wouldBounce_51 : decode cX7_wouldBounce 51 = .ok (.iconst (-1), 1) := by decide +kernel
theorem dX7_wouldBounce_52 : decode cX7_wouldBounce 52 = .ok (.if_icmp .eq 11, 3) := by decide +kernel
theorem dX7_wouldBounce_55 : decode cX7_wouldBounce 55 = .ok (.aload_n 0, 1) := by decide +kernel
theorem dX7_wouldBounce_56 : decode cX7_wouldBounce 56 = .ok (.invokevirtual 157, 3) := by decide +kernel
theorem dX7_wouldBounce_59 : decode cX7_wouldBounce 59 = .ok (.istore_n 2, 1) := by decide +kernel
theorem dX7_wouldBounce_60 : decode cX7_wouldBounce 60 = .ok (.goto (-14), 3) := by decide +kernel
theorem dX7_wouldBounce_63 : decode cX7_wouldBounce 63 = .ok (.aload_n 0, 1) := by decide +kernel
theorem dX7_wouldBounce_64 : decode cX7_wouldBounce 64 = .ok (.iconst (-1), 1) := by decide +kernel
theorem dX7_wouldBounce_65 : decode cX7_wouldBounce 65 = .ok (.putfield 32, 3) := by decide +kernel
theorem dX7_wouldBounce_68 : decode cX7_wouldBounce 68 = .ok (.aload_n 0, 1) := by decide +kernel
theorem dX7_wouldBounce_69 : decode cX7_wouldBounce 69 = .ok (.getfield 16, 3) := by decide +kernel
theorem dX7_wouldBounce_72 : decode cX7_wouldBounce 72 = .ok (.iconst 0, 1) := by decide +kernel
theorem dX7_wouldBounce_73 : decode cX7_wouldBounce 73 = .ok (.aload_n 0, 1) := by decide +kernel
theorem dX7_wouldBounce_74 : decode cX7_wouldBounce 74 = .ok (.getfield 9, 3) := by decide +kernel
theorem dX7_wouldBounce_77 : decode cX7_wouldBounce 77 = .ok (.iconst 0, 1) := by decide +kernel
theorem dX7_wouldBounce_78 : decode cX7_wouldBounce 78 = .ok (.invokestatic 51, 3) := by decide +kernel
theorem dX7_wouldBounce_81 : decode cX7_wouldBounce 81 = .ok (.aload_n 0, 1) := by decide +kernel
theorem dX7_wouldBounce_82 : decode cX7_wouldBounce 82 = .ok (.getfield 145, 3) := by decide +kernel
theorem dX7_wouldBounce_85 : decode cX7_wouldBounce 85 = .ok (.ireturn, 1) := by decide +kernel
theorem dX7_bounceCount_0 : decode cX7_bounceCount 0 = .ok (.aload_n 0, 1) := by decide +kernel
theorem dX7_bounceCount_1 : decode cX7_bounceCount 1 = .ok (.iconst 0, 1) := by decide +kernel
theorem dX7_bounceCount_2 : decode cX7_bounceCount 2 = .ok (.putfield 44, 3) := by decide +kernel
theorem dX7_bounceCount_5 : decode cX7_bounceCount 5 = .ok (.aload_n 0, 1) := by decide +kernel
theorem dX7_bounceCount_6 : decode cX7_bounceCount 6 = .ok (.getfield 9, 3) := by decide +kernel
theorem dX7_bounceCount_9 : decode cX7_bounceCount 9 = .ok (.bipush 10, 2) := by decide +kernel
theorem dX7_bounceCount_11 : decode cX7_bounceCount 11 = .ok (.iaload, 1) := by decide +kernel
theorem dX7_bounceCount_12 : decode cX7_bounceCount 12 = .ok (.ireturn, 1) := by decide +kernel
theorem dX7_net_0 : decode cX7_net 0 = .ok (.iconst 0, 1) := by decide +kernel
theorem dX7_net_1 : decode cX7_net 1 = .ok (.istore_n 2, 1) := by decide +kernel
theorem dX7_net_2 : decode cX7_net 2 = .ok (.iconst 0, 1) := by decide +kernel
theorem dX7_net_3 : decode cX7_net 3 = .ok (.istore_n 3, 1) := by decide +kernel
theorem dX7_net_4 : decode cX7_net 4 = .ok (.iload_n 3, 1) := by decide +kernel
theorem dX7_net_5 : decode cX7_net 5 = .ok (.aload_n 0, 1) := by decide +kernel
theorem dX7_net_6 : decode cX7_net 6 = .ok (.getfield 9, 3) := by decide +kernel
theorem dX7_net_9 : decode cX7_net 9 = .ok (.iconst 3, 1) := by decide +kernel
theorem dX7_net_10 : decode cX7_net 10 = .ok (.iaload, 1) := by decide +kernel
theorem dX7_net_11 : decode cX7_net 11 = .ok (.if_icmp .ge 55, 3) := by decide +kernel
theorem dX7_net_14 : decode cX7_net 14 = .ok (.iload_n 2, 1) := by decide +kernel
theorem dX7_net_15 : decode cX7_net 15 = .ok (.aload_n 0, 1) := by decide +kernel
theorem dX7_net_16 : decode cX7_net 16 = .ok (.iload_n 3, 1) := by decide +kernel
theorem dX7_net_17 : decode cX7_net 17 = .ok (.iconst 2, 1) := by decide +kernel
theorem dX7_net_18 : decode cX7_net 18 = .ok (.invokevirtual 126, 3) := by decide +kernel
theorem dX7_net_21 : decode cX7_net 21 = .ok (.iload_n 1, 1) := by decide +kernel
theorem dX7_net_22 : decode cX7_net 22 = .ok (.if_icmp .ne 12, 3) := by decide +kernel
theorem dX7_net_25 : decode cX7_net 25 = .ok (.aload_n 0, 1) := by decide +kernel
theorem dX7_net_26 : decode cX7_net 26 = .ok (.iload_n 3, 1) := by decide +kernel
theorem dX7_net_27 : decode cX7_net 27 = .ok (.iconst 3, 1) := by decide +kernel
theorem dX7_net_28 : decode cX7_net 28 = .ok (.invokevirtual 126, 3) := by decide +kernel
theorem dX7_net_31 : decode cX7_net 31 = .ok (.goto 4, 3) := by decide +kernel
theorem dX7_net_34 : decode cX7_net 34 = .ok (.iconst 0, 1) := by decide +kernel
theorem dX7_net_35 : decode cX7_net 35 = .ok (.iadd, 1) := by decide +kernel
theorem dX7_net_36 : decode cX7_net 36 = .ok (.istore_n 2, 1) := by decide +kernel
theorem dX7_net_37 : decode cX7_net 37 = .ok (.iload_n 2, 1) := by decide +kernel
theorem dX7_net_38 : decode cX7_net 38 = .ok (.aload_n 0, 1) := by decide +kernel
theorem dX7_net_39 : decode cX7_net 39 = .ok (.iload_n 3, 1) := by decide +kernel
theorem dX7_net_40 : decode cX7_net 40 = .ok (.iconst 1, 1) := by decide +kernel
theorem dX7_net_41 : decode cX7_net 41 = .ok (.invokevirtual 126, 3) := by decide +kernel
theorem dX7_net_44 : decode cX7_net 44 = .ok (.iload_n 1, 1) := by decide +kernel
theorem dX7_net_45 : decode cX7_net 45 = .ok (.if_icmp .ne 12, 3) := by decide +kernel
theorem dX7_net_48 : decode cX7_net 48 = .ok (.aload_n 0, 1) := by decide +kernel
theorem dX7_net_49 : decode cX7_net 49 = .ok (.iload_n 3, 1) := by decide +kernel
theorem dX7_net_50 : decode cX7_net 50 = .ok (.iconst 3, 1) := by decide +kernel
theorem dX7_net_51 : decode cX7_net 51 = .ok (.invokevirtual 126, 3) := by decide +kernel
theorem dX7_net_54 : decode cX7_net 54 = .ok (.goto 4, 3) := by decide +kernel
theorem dX7_net_57 : decode cX7_net 57 = .ok (.iconst 0, 1) := by decide +kernel
theorem dX7_net_58 : decode cX7_net 58 = .ok (.isub, 1) := by decide +kernel
theorem dX7_net_59 : decode cX7_net 59 = .ok (.istore_n 2, 1) := by decide +kernel
theorem dX7_net_60 : decode cX7_net 60 = .ok (.iinc 3 1, 3) := by decide +kernel
theorem dX7_net_63 : decode cX7_net 63 = .ok (.goto (-59), 3) := by decide +kernel
theorem dX7_net_66 : decode cX7_net 66 = .ok (.aload_n 0, 1) := by decide +kernel
theorem dX7_net_67 : decode cX7_net 67 = .ok (.aload_n 0, 1) := by decide +kernel
theorem dX7_net_68 : decode cX7_net 68 = .ok (.iload_n 1, 1) := by decide +kernel
theorem dX7_net_69 : decode cX7_net 69 = .ok (.invokevirtual 73, 3) := by decide +kernel
theorem dX7_net_72 : decode cX7_net 72 = .ok (.invokevirtual 61, 3) := by decide +kernel
theorem dX7_net_75 : decode cX7_net 75 = .ok (.ifCond .eq 7, 3) := by decide +kernel
theorem dX7_net_78 : decode cX7_net 78 = .ok (.iload_n 2, 1) := by decide +kernel
theorem dX7_net_79 : decode cX7_net 79 = .ok (.goto 4, 3) := by decide +kernel
theorem dX7_net_82 : decode cX7_net 82 = .ok (.iconst 0, 1) := by decide +kernel
theorem dX7_net_83 : decode cX7_net 83 = .ok (.ireturn, 1) := by decide +kernel
theorem dX7_netOf_0 : decode cX7_netOf 0 = .ok (.aload_n 0, 1) := by decide +kernel
theorem dX7_netOf_1 : decode cX7_netOf 1 = .ok (.iload_n 1, 1) := by decide +kernel
theorem dX7_netOf_2 : decode cX7_netOf 2 = .ok (.invokevirtual 174, 3) := by decide +kernel
theorem dX7_netOf_5 : decode cX7_netOf 5 = .ok (.ireturn, 1) := by decide +kernel
theorem dX7_netByTable_0 : decode cX7_netByTable 0 = .ok (.aload_n 0, 1) := by decide +kernel
theorem dX7_netByTable_1 : decode cX7_netByTable 1 = .ok (.iload_n 1, 1) := by decide +kernel
theorem dX7_netByTable_2 : decode cX7_netByTable 2 = .ok (.invokevirtual 174, 3) := by decide +kernel
theorem dX7_netByTable_5 : decode cX7_netByTable 5 = .ok (.ireturn, 1) := by decide +kernel
theorem dX7_leadsTo_0 : decode cX7_leadsTo 0 = .ok (.aload_n 0, 1) := by decide +kernel
theorem dX7_leadsTo_1 : decode cX7_leadsTo 1 = .ok (.aload_n 0, 1) := by decide +kernel
theorem dX7_leadsTo_2 : decode cX7_leadsTo 2 = .ok (.iload_n 1, 1) := by decide +kernel
theorem dX7_leadsTo_3 : decode cX7_leadsTo 3 = .ok (.invokevirtual 73, 3) := by decide +kernel
theorem dX7_leadsTo_6 : decode cX7_leadsTo 6 = .ok (.ifCond .eq 15, 3) := by decide +kernel
theorem dX7_leadsTo_9 : decode cX7_leadsTo 9 = .ok (.aload_n 0, 1) := by decide +kernel
theorem dX7_leadsTo_10 : decode cX7_leadsTo 10 = .ok (.iload_n 2, 1) := by decide +kernel
theorem dX7_leadsTo_11 : decode cX7_leadsTo 11 = .ok (.invokevirtual 73, 3) := by decide +kernel
theorem dX7_leadsTo_14 : decode cX7_leadsTo 14 = .ok (.ifCond .eq 7, 3) := by decide +kernel
theorem dX7_leadsTo_17 : decode cX7_leadsTo 17 = .ok (.iconst 1, 1) := by decide +kernel
theorem dX7_leadsTo_18 : decode cX7_leadsTo 18 = .ok (.goto 4, 3) := by decide +kernel
theorem dX7_leadsTo_21 : decode cX7_leadsTo 21 = .ok (.iconst 0, 1) := by decide +kernel
theorem dX7_leadsTo_22 : decode cX7_leadsTo 22 = .ok (.invokevirtual 61, 3) := by decide +kernel
theorem dX7_leadsTo_25 : decode cX7_leadsTo 25 = .ok (.ifCond .ne 5, 3) := by decide +kernel
theorem dX7_leadsTo_28 : decode cX7_leadsTo 28 = .ok (.iconst 0, 1) := by decide +kernel
theorem dX7_leadsTo_29 : decode cX7_leadsTo 29 = .ok (.ireturn, 1) := by decide +kernel
theorem dX7_leadsTo_30 : decode cX7_leadsTo 30 = .ok (.iconst 0, 1) := by decide +kernel
theorem dX7_leadsTo_31 : decode cX7_leadsTo 31 = .ok (.istore_n 3, 1) := by decide +kernel
theorem dX7_leadsTo_32 : decode cX7_leadsTo 32 = .ok (.iconst 0, 1) := by decide +kernel
theorem dX7_leadsTo_33 : decode cX7_leadsTo 33 = .ok (.istore 4, 2) := by decide +kernel
theorem dX7_leadsTo_35 : decode cX7_leadsTo 35 = .ok (.iload 4, 2) := by decide +kernel
theorem dX7_leadsTo_37 : decode cX7_leadsTo 37 = .ok (.aload_n 0, 1) := by decide +kernel
theorem dX7_leadsTo_38 : decode cX7_leadsTo 38 = .ok (.getfield 9, 3) := by decide +kernel
theorem dX7_leadsTo_41 : decode cX7_leadsTo 41 = .ok (.iconst 3, 1) := by decide +kernel
theorem dX7_leadsTo_42 : decode cX7_leadsTo 42 = .ok (.iaload, 1) := by decide +kernel
theorem dX7_leadsTo_43 : decode cX7_leadsTo 43 = .ok (.if_icmp .gt 83, 3) := by decide +kernel
theorem dX7_leadsTo_46 : decode cX7_leadsTo 46 = .ok (.iconst 0, 1) := by decide +kernel
theorem dX7_leadsTo_47 : decode cX7_leadsTo 47 = .ok (.istore 5, 2) := by decide +kernel
theorem dX7_leadsTo_49 : decode cX7_leadsTo 49 = .ok (.iload 5, 2) := by decide +kernel
theorem dX7_leadsTo_51 : decode cX7_leadsTo 51 = .ok (.aload_n 0, 1) := by decide +kernel
theorem dX7_leadsTo_52 : decode cX7_leadsTo 52 = .ok (.getfield 9, 3) := by decide +kernel
theorem dX7_leadsTo_55 : decode cX7_leadsTo 55 = .ok (.iconst 3, 1) := by decide +kernel
theorem dX7_leadsTo_56 : decode cX7_leadsTo 56 = .ok (.iaload, 1) := by decide +kernel
theorem dX7_leadsTo_57 : decode cX7_leadsTo 57 = .ok (.if_icmp .ge 63, 3) := by decide +kernel
theorem dX7_leadsTo_60 : decode cX7_leadsTo 60 = .ok (.aload_n 0, 1) := by decide +kernel
theorem dX7_leadsTo_61 : decode cX7_leadsTo 61 = .ok (.iload 5, 2) := by decide +kernel
theorem dX7_leadsTo_63 : decode cX7_leadsTo 63 = .ok (.iconst 1, 1) := by decide +kernel
theorem dX7_leadsTo_64 : decode cX7_leadsTo 64 = .ok (.invokevirtual 126, 3) := by decide +kernel
theorem dX7_leadsTo_67 : decode cX7_leadsTo 67 = .ok (.iload_n 1, 1) := by decide +kernel
theorem dX7_leadsTo_68 : decode cX7_leadsTo 68 = .ok (.if_icmp .eq 18, 3) := by decide +kernel
theorem dX7_leadsTo_71 : decode cX7_leadsTo 71 = .ok (.iload_n 3, 1) := by decide +kernel
theorem dX7_leadsTo_72 : decode cX7_leadsTo 72 = .ok (.aload_n 0, 1) := by decide +kernel
theorem dX7_leadsTo_73 : decode cX7_leadsTo 73 = .ok (.iload 5, 2) := by decide +kernel
theorem dX7_leadsTo_75 : decode cX7_leadsTo 75 = .ok (.iconst 1, 1) := by decide +kernel
theorem dX7_leadsTo_76 : decode cX7_leadsTo 76 = .ok (.invokevirtual 126, 3) := by decide +kernel
theorem dX7_leadsTo_79 : decode cX7_leadsTo 79 = .ok (.ishr, 1) := by decide +kernel
theorem dX7_leadsTo_80 : decode cX7_leadsTo 80 = .ok (.iconst 1, 1) := by decide +kernel
theorem dX7_leadsTo_81 : decode cX7_leadsTo 81 = .ok (.iand, 1) := by decide +kernel
theorem dX7_leadsTo_82 : decode cX7_leadsTo 82 = .ok (.iconst 1, 1) := by decide +kernel
theorem dX7_leadsTo_83 : decode cX7_leadsTo 83 = .ok (.if_icmp .ne 7, 3) := by decide +kernel
theorem dX7_leadsTo_86 : decode cX7_leadsTo 86 = .ok (.iconst 1, 1) := by decide +kernel
theorem dX7_leadsTo_87 : decode cX7_leadsTo 87 = .ok (.goto 4, 3) := by decide +kernel
theorem dX7_leadsTo_90 : decode cX7_leadsTo 90 = .ok (.iconst 0, 1) := by decide +kernel
theorem dX7_leadsTo_91 : decode cX7_leadsTo 91 = .ok (.istore 6, 2) := by decide +kernel
theorem dX7_leadsTo_93 : decode cX7_leadsTo 93 = .ok (.iload_n 3, 1) := by decide +kernel
theorem dX7_leadsTo_94 : decode cX7_leadsTo 94 = .ok (.iload 6, 2) := by decide +kernel
theorem dX7_leadsTo_96 : decode cX7_leadsTo 96 = .ok (.ifCond .eq 15, 3) := by decide +kernel
theorem dX7_leadsTo_99 : decode cX7_leadsTo 99 = .ok (.iconst 1, 1) := by decide +kernel
theorem dX7_leadsTo_100 : decode cX7_leadsTo 100 = .ok (.aload_n 0, 1) := by decide +kernel
theorem dX7_leadsTo_101 : decode cX7_leadsTo 101 = .ok (.iload 5, 2) := by decide +kernel
theorem dX7_leadsTo_103 : decode cX7_leadsTo 103 = .ok (.iconst 2, 1) := by decide +kernel
theorem dX7_leadsTo_104 : decode cX7_leadsTo 104 = .ok (.invokevirtual 126, 3) := by decide +kernel
theorem dX7_leadsTo_107 : decode cX7_leadsTo 107 = .ok (.ishl, 1) := by decide +kernel
theorem dX7_leadsTo_108 : decode cX7_leadsTo 108 = .ok (.goto 4, 3) := by decide +kernel
theorem dX7_leadsTo_111 : decode cX7_leadsTo 111 = .ok (.iconst 0, 1) := by decide +kernel
theorem dX7_leadsTo_112 : decode cX7_leadsTo 112 = .ok (.ior, 1) := by decide +kernel
theorem dX7_leadsTo_113 : decode cX7_leadsTo 113 = .ok (.istore_n 3, 1) := by decide +kernel
theorem dX7_leadsTo_114 : decode cX7_leadsTo 114 = .ok (.iinc 5 1, 3) := by decide +kernel
theorem dX7_leadsTo_117 : decode cX7_leadsTo 117 = .ok (.goto (-68), 3) := by decide +kernel
theorem dX7_leadsTo_120 : decode cX7_leadsTo 120 = .ok (.iinc 4 1, 3) := by decide +kernel
theorem dX7_leadsTo_123 : decode cX7_leadsTo 123 = .ok (.goto (-88), 3) := by decide +kernel
theorem dX7_leadsTo_126 : decode cX7_leadsTo 126 = .ok (.iload_n 3, 1) := by decide +kernel
theorem dX7_leadsTo_127 : decode cX7_leadsTo 127 = .ok (.iload_n 2, 1) := by decide +kernel
theorem dX7_leadsTo_128 : decode cX7_leadsTo 128 = .ok (.ishr, 1) := by decide +kernel
theorem dX7_leadsTo_129 : decode cX7_leadsTo 129 = .ok (.iconst 1, 1) := by decide +kernel
theorem dX7_leadsTo_130 : decode cX7_leadsTo 130 = .ok (.iand, 1) := by decide +kernel
theorem dX7_leadsTo_131 : decode cX7_leadsTo 131 = .ok (.iconst 1, 1) := by decide +kernel
theorem dX7_leadsTo_132 : decode cX7_leadsTo 132 = .ok (.if_icmp .ne 7, 3) := by decide +kernel
theorem dX7_leadsTo_135 : decode cX7_leadsTo 135 = .ok (.iconst 1, 1) := by decide +kernel
theorem dX7_leadsTo_136 : decode cX7_leadsTo 136 = .ok (.goto 4, 3) := by decide +kernel
theorem dX7_leadsTo_139 : decode cX7_leadsTo 139 = .ok (.iconst 0, 1) := by decide +kernel
theorem dX7_leadsTo_140 : decode cX7_leadsTo 140 = .ok (.ireturn, 1) := by decide +kernel
theorem dX7_journalLength_0 : decode cX7_journalLength 0 = .ok (.aload_n 0, 1) := by decide +kernel
theorem dX7_journalLength_1 : decode cX7_journalLength 1 = .ok (.iconst 0, 1) := by decide +kernel
theorem dX7_journalLength_2 : decode cX7_journalLength 2 = .ok (.putfield 44, 3) := by decide +kernel
theorem dX7_journalLength_5 : decode cX7_journalLength 5 = .ok (.aload_n 0, 1) := by decide +kernel
theorem dX7_journalLength_6 : decode cX7_journalLength 6 = .ok (.getfield 9, 3) := by decide +kernel
theorem dX7_journalLength_9 : decode cX7_journalLength 9 = .ok (.bipush 11, 2) := by decide +kernel
theorem dX7_journalLength_11 : decode cX7_journalLength 11 = .ok (.iaload, 1) := by decide +kernel
theorem dX7_journalLength_12 : decode cX7_journalLength 12 = .ok (.ireturn, 1) := by decide +kernel
theorem dX7_written_0 : decode cX7_written 0 = .ok (.aload_n 0, 1) := by decide +kernel
theorem dX7_written_1 : decode cX7_written 1 = .ok (.iload_n 1, 1) := by decide +kernel
theorem dX7_written_2 : decode cX7_written 2 = .ok (.iconst 0, 1) := by decide +kernel
theorem dX7_written_3 : decode cX7_written 3 = .ok (.aload_n 0, 1) := by decide +kernel
theorem dX7_written_4 : decode cX7_written 4 = .ok (.getfield 9, 3) := by decide +kernel
theorem dX7_written_7 : decode cX7_written 7 = .ok (.bipush 11, 2) := by decide +kernel
theorem dX7_written_9 : decode cX7_written 9 = .ok (.iaload, 1) := by decide +kernel
theorem dX7_written_10 : decode cX7_written 10 = .ok (.iconst 1, 1) := by decide +kernel
theorem dX7_written_11 : decode cX7_written 11 = .ok (.isub, 1) := by decide +kernel
theorem dX7_written_12 : decode cX7_written 12 = .ok (.invokestatic 69, 3) := by decide +kernel
theorem dX7_written_15 : decode cX7_written 15 = .ok (.invokevirtual 61, 3) := by decide +kernel
theorem dX7_written_18 : decode cX7_written 18 = .ok (.ifCond .eq 19, 3) := by decide +kernel
theorem dX7_written_21 : decode cX7_written 21 = .ok (.aload_n 0, 1) := by decide +kernel
theorem dX7_written_22 : decode cX7_written 22 = .ok (.getfield 9, 3) := by decide +kernel
theorem dX7_written_25 : decode cX7_written 25 = .ok (.bipush 94, 2) := by decide +kernel
theorem dX7_written_27 : decode cX7_written 27 = .ok (.iconst 3, 1) := by decide +kernel
theorem dX7_written_28 : decode cX7_written 28 = .ok (.iload_n 1, 1) := by decide +kernel
theorem dX7_written_29 : decode cX7_written 29 = .ok (.imul, 1) := by decide +kernel
theorem dX7_written_30 : decode cX7_written 30 = .ok (.iadd, 1) := by decide +kernel
theorem dX7_written_31 : decode cX7_written 31 = .ok (.iload_n 2, 1) := by decide +kernel
theorem dX7_written_32 : decode cX7_written 32 = .ok (.iadd, 1) := by decide +kernel
theorem dX7_written_33 : decode cX7_written 33 = .ok (.iaload, 1) := by decide +kernel
theorem dX7_written_34 : decode cX7_written 34 = .ok (.goto 4, 3) := by decide +kernel
theorem dX7_written_37 : decode cX7_written 37 = .ok (.iconst 0, 1) := by decide +kernel
theorem dX7_written_38 : decode cX7_written 38 = .ok (.ireturn, 1) := by decide +kernel
theorem dX7_movementKind_0 : decode cX7_movementKind 0 = .ok (.aload_n 0, 1) := by decide +kernel
theorem dX7_movementKind_1 : decode cX7_movementKind 1 = .ok (.iload_n 1, 1) := by decide +kernel
theorem dX7_movementKind_2 : decode cX7_movementKind 2 = .ok (.iconst 0, 1) := by decide +kernel
theorem dX7_movementKind_3 : decode cX7_movementKind 3 = .ok (.invokevirtual 177, 3) := by decide +kernel
theorem dX7_movementKind_6 : decode cX7_movementKind 6 = .ok (.i2c, 1) := by decide +kernel
theorem dX7_movementKind_7 : decode cX7_movementKind 7 = .ok (.ireturn, 1) := by decide +kernel
theorem dX7_movementAmount_0 : decode cX7_movementAmount 0 = .ok (.aload_n 0, 1) := by decide +kernel
theorem dX7_movementAmount_1 : decode cX7_movementAmount 1 = .ok (.iload_n 1, 1) := by decide +kernel
theorem dX7_movementAmount_2 : decode cX7_movementAmount 2 = .ok (.iconst 1, 1) := by decide +kernel
theorem dX7_movementAmount_3 : decode cX7_movementAmount 3 = .ok (.invokevirtual 177, 3) := by decide +kernel
theorem dX7_movementAmount_6 : decode cX7_movementAmount 6 = .ok (.ireturn, 1) := by decide +kernel
theorem dX7_movementAccount_0 : decode cX7_movementAccount 0 = .ok (.aload_n 0, 1) := by decide +kernel
theorem dX7_movementAccount_1 : decode cX7_movementAccount 1 = .ok (.iload_n 1, 1) := by decide +kernel
theorem dX7_movementAccount_2 : decode cX7_movementAccount 2 = .ok (.iconst 2, 1) := by decide +kernel
theorem dX7_movementAccount_3 : decode cX7_movementAccount 3 = .ok (.invokevirtual 177, 3) := by decide +kernel
theorem dX7_movementAccount_6 : decode cX7_movementAccount 6 = .ok (.ireturn, 1) := by decide +kernel
theorem dX7_put_0 : decode cX7_put 0 = .ok (.aload_n 0, 1) := by decide +kernel
theorem dX7_put_1 : decode cX7_put 1 = .ok (.getfield 38, 3) := by decide +kernel
theorem dX7_put_4 : decode cX7_put 4 = .ok (.iload_n 1, 1) := by decide +kernel
theorem dX7_put_5 : decode cX7_put 5 = .ok (.iload_n 2, 1) := by decide +kernel
theorem dX7_put_6 : decode cX7_put 6 = .ok (.iastore, 1) := by decide +kernel
theorem dX7_put_7 : decode cX7_put 7 = .ok (.iload_n 1, 1) := by decide +kernel
theorem dX7_put_8 : decode cX7_put 8 = .ok (.iconst 1, 1) := by decide +kernel
theorem dX7_put_9 : decode cX7_put 9 = .ok (.iadd, 1) := by decide +kernel
theorem dX7_put_10 : decode cX7_put 10 = .ok (.ireturn, 1) := by decide +kernel
theorem dX7_writesNumber_0 : decode cX7_writesNumber 0 = .ok (.iload_n 2, 1) := by decide +kernel
theorem dX7_writesNumber_1 : decode cX7_writesNumber 1 = .ok (.ifCond .ge 13, 3) := by decide +kernel
theorem dX7_writesNumber_4 : decode cX7_writesNumber 4 = .ok (.aload_n 0, 1) := by decide +kernel
theorem dX7_writesNumber_5 : decode cX7_writesNumber 5 = .ok (.iload_n 1, 1) := by decide +kernel
theorem dX7_writesNumber_6 : decode cX7_writesNumber 6 = .ok (.bipush 45, 2) := by decide +kernel
theorem dX7_writesNumber_8 : decode cX7_writesNumber 8 = .ok (.invokevirtual 180, 3) := by decide +kernel
theorem dX7_writesNumber_11 : decode cX7_writesNumber 11 = .ok (.goto 4, 3) := by decide +kernel
theorem dX7_writesNumber_14 : decode cX7_writesNumber 14 = .ok (.iload_n 1, 1) := by decide +kernel
theorem dX7_writesNumber_15 : decode cX7_writesNumber 15 = .ok (.istore_n 3, 1) := by decide +kernel
theorem dX7_writesNumber_16 : decode cX7_writesNumber 16 = .ok (.iload_n 2, 1) := by decide +kernel
theorem dX7_writesNumber_17 : decode cX7_writesNumber 17 = .ok (.invokestatic 183, 3) := by decide +kernel
theorem dX7_writesNumber_20 : decode cX7_writesNumber 20 = .ok (.istore 4, 2) := by decide +kernel
theorem dX7_writesNumber_22 : decode cX7_writesNumber 22 = .ok (.iconst 1, 1) := by decide +kernel
theorem dX7_writesNumber_23 : decode cX7_writesNumber 23 = .ok (.istore 5, 2) := by decide +kernel
theorem dX7_writesNumber_25 : decode cX7_writesNumber 25 = .ok (.iload 4, 2) := by decide +kernel
theorem dX7_writesNumber_27 : decode cX7_writesNumber 27 = .ok (.iload 5, 2) := by decide +kernel
theorem dX7_writesNumber_29 : decode cX7_writesNumber 29 = .ok (.idiv, 1) := by decide +kernel
theorem dX7_writesNumber_30 : decode cX7_writesNumber 30 = .ok (.bipush 9, 2) := by decide +kernel
theorem dX7_writesNumber_32 : decode cX7_writesNumber 32 = .ok (.if_icmp .le 13, 3) := by decide +kernel
theorem dX7_writesNumber_35 : decode cX7_writesNumber 35 = .ok (.iload 5, 2) := by decide +kernel
theorem dX7_writesNumber_37 : decode cX7_writesNumber 37 = .ok (.bipush 10, 2) := by decide +kernel
theorem dX7_writesNumber_39 : decode cX7_writesNumber 39 = .ok (.imul, 1) := by decide +kernel
theorem dX7_writesNumber_40 : decode cX7_writesNumber 40 = .ok (.istore 5, 2) := by decide +kernel
theorem dX7_writesNumber_42 : decode cX7_writesNumber 42 = .ok (.goto (-17), 3) := by decide +kernel
theorem dX7_writesNumber_45 : decode cX7_writesNumber 45 = .ok (.iload 5, 2) := by decide +kernel
theorem dX7_writesNumber_47 : decode cX7_writesNumber 47 = .ok (.istore 6, 2) := by decide +kernel
theorem dX7_writesNumber_49 : decode cX7_writesNumber 49 = .ok (.iload 6, 2) := by decide +kernel
theorem dX7_writesNumber_51 : decode cX7_writesNumber 51 = .ok (.ifCond .le 30, 3) := by decide +kernel
theorem dX7_writesNumber_54 : decode cX7_writesNumber 54 = .ok (.aload_n 0, 1) := by decide +kernel
theorem dX7_writesNumber_55 : decode cX7_writesNumber 55 = .ok (.iload_n 3, 1) := by decide +kernel
theorem dX7_writesNumber_56 : decode cX7_writesNumber 56 = .ok (.bipush 48, 2) := by decide +kernel
theorem dX7_writesNumber_58 : decode cX7_writesNumber 58 = .ok (.iload 4, 2) := by decide +kernel
theorem dX7_writesNumber_60 : decode cX7_writesNumber 60 = .ok (.iload 6, 2) := by decide +kernel
theorem dX7_writesNumber_62 : decode cX7_writesNumber 62 = .ok (.idiv, 1) := by decide +kernel
theorem dX7_writesNumber_63 : decode cX7_writesNumber 63 = .ok (.bipush 10, 2) := by decide +kernel
theorem dX7_writesNumber_65 : decode cX7_writesNumber 65 = .ok (.irem, 1) := by decide +kernel
theorem dX7_writesNumber_66 : decode cX7_writesNumber 66 = .ok (.iadd, 1) := by decide +kernel
theorem dX7_writesNumber_67 : decode cX7_writesNumber 67 = .ok (.invokevirtual 180, 3) := by decide +kernel
theorem dX7_writesNumber_70 : decode cX7_writesNumber 70 = .ok (.istore_n 3, 1) := by decide +kernel
theorem dX7_writesNumber_71 : decode cX7_writesNumber 71 = .ok (.iload 6, 2) := by decide +kernel
theorem dX7_writesNumber_73 : decode cX7_writesNumber 73 = .ok (.bipush 10, 2) := by decide +kernel
theorem dX7_writesNumber_75 : decode cX7_writesNumber 75 = .ok (.idiv, 1) := by decide +kernel
theorem dX7_writesNumber_76 : decode cX7_writesNumber 76 = .ok (.istore 6, 2) := by decide +kernel
theorem dX7_writesNumber_78 : decode cX7_writesNumber 78 = .ok (.goto (-29), 3) := by decide +kernel
theorem dX7_writesNumber_81 : decode cX7_writesNumber 81 = .ok (.iload_n 3, 1) := by decide +kernel
theorem dX7_writesNumber_82 : decode cX7_writesNumber 82 = .ok (.ireturn, 1) := by decide +kernel
theorem dX7_letterFor_0 : decode cX7_letterFor 0 = .ok (.iload_n 0, 1) := by decide +kernel
theorem dX7_letterFor_1 : decode cX7_letterFor 1 = .ok (.ifCond .ne 8, 3) := by decide +kernel
theorem dX7_letterFor_4 : decode cX7_letterFor 4 = .ok (.bipush 67, 2) := by decide +kernel
theorem dX7_letterFor_6 : decode cX7_letterFor 6 = .ok (.goto 25, 3) := by decide +kernel
theorem dX7_letterFor_9 : decode cX7_letterFor 9 = .ok (.iload_n 0, 1) := by decide +kernel
theorem dX7_letterFor_10 : decode cX7_letterFor 10 = .ok (.iconst 1, 1) := by decide +kernel
theorem dX7_letterFor_11 : decode cX7_letterFor 11 = .ok (.if_icmp .ne 8, 3) := by decide +kernel
theorem dX7_letterFor_14 : decode cX7_letterFor 14 = .ok (.bipush 83, 2) := by decide +kernel
theorem dX7_letterFor_16 : decode cX7_letterFor 16 = .ok (.goto 15, 3) := by decide +kernel
theorem dX7_letterFor_19 : decode cX7_letterFor 19 = .ok (.iload_n 0, 1) := by decide +kernel
theorem dX7_letterFor_20 : decode cX7_letterFor 20 = .ok (.iconst 2, 1) := by decide +kernel
theorem dX7_letterFor_21 : decode cX7_letterFor 21 = .ok (.if_icmp .ne 8, 3) := by decide +kernel
theorem dX7_letterFor_24 : decode cX7_letterFor 24 = .ok (.bipush 81, 2) := by decide +kernel
theorem dX7_letterFor_26 : decode cX7_letterFor 26 = .ok (.goto 5, 3) := by decide +kernel
theorem dX7_letterFor_29 : decode cX7_letterFor 29 = .ok (.bipush 86, 2) := by decide +kernel
theorem dX7_letterFor_31 : decode cX7_letterFor 31 = .ok (.ireturn, 1) := by decide +kernel
theorem dX7_writeStatement_0 : decode cX7_writeStatement 0 = .ok (.aload_n 0, 1) := by decide +kernel
theorem dX7_writeStatement_1 : decode cX7_writeStatement 1 = .ok (.aload_n 0, 1) := by decide +kernel
theorem dX7_writeStatement_2 : decode cX7_writeStatement 2 = .ok (.iload_n 1, 1) := by decide +kernel
theorem dX7_writeStatement_3 : decode cX7_writeStatement 3 = .ok (.invokevirtual 73, 3) := by decide +kernel
theorem dX7_writeStatement_6 : decode cX7_writeStatement 6 = .ok (.invokevirtual 61, 3) := by decide +kernel
theorem dX7_writeStatement_9 : decode cX7_writeStatement 9 = .ok (.ifCond .ne 5, 3) := by decide +kernel
theorem dX7_writeStatement_12 : decode cX7_writeStatement 12 = .ok (.iconst 0, 1) := by decide +kernel
theorem dX7_writeStatement_13 : decode cX7_writeStatement 13 = .ok (.ireturn, 1) := by decide +kernel
theorem dX7_writeStatement_14 : decode cX7_writeStatement 14 = .ok (.aload_n 0, 1) := by decide +kernel
theorem dX7_writeStatement_15 : decode cX7_writeStatement 15 = .ok (.aload_n 0, 1) := by decide +kernel
theorem dX7_writeStatement_16 : decode cX7_writeStatement 16 = .ok (.aload_n 0, 1) := by decide +kernel
theorem dX7_writeStatement_17 : decode cX7_writeStatement 17 = .ok (.iconst 0, 1) := by decide +kernel
theorem dX7_writeStatement_18 : decode cX7_writeStatement 18 = .ok (.aload_n 0, 1) := by decide +kernel
theorem dX7_writeStatement_19 : decode cX7_writeStatement 19 = .ok (.iload_n 1, 1) := by decide +kernel
theorem dX7_writeStatement_20 : decode cX7_writeStatement 20 = .ok (.iconst 0, 1) := by decide +kernel
theorem dX7_writeStatement_21 : decode cX7_writeStatement 21 = .ok (.invokevirtual 99, 3) := by decide +kernel
theorem dX7_writeStatement_24 : decode cX7_writeStatement 24 = .ok (.invokestatic 186, 3) := by decide +kernel
theorem dX7_writeStatement_27 : decode cX7_writeStatement 27 = .ok (.invokevirtual 180, 3) := by decide +kernel
theorem dX7_writeStatement_30 : decode cX7_writeStatement 30 = .ok (.iload_n 1, 1) := by decide +kernel
theorem dX7_writeStatement_31 : decode cX7_writeStatement 31 = .ok (.invokevirtual 189, 3) := by decide +kernel
theorem dX7_writeStatement_34 : decode cX7_writeStatement 34 = .ok (.bipush 58, 2) := by decide +kernel
theorem dX7_writeStatement_36 : decode cX7_writeStatement 36 = .ok (.invokevirtual 180, 3) := by decide +kernel
theorem dX7_writeStatement_39 : decode cX7_writeStatement 39 = .ok (.istore_n 2, 1) := by decide +kernel
theorem dX7_writeStatement_40 : decode cX7_writeStatement 40 = .ok (.aload_n 0, 1) := by decide +kernel
theorem dX7_writeStatement_41 : decode cX7_writeStatement 41 = .ok (.aload_n 0, 1) := by decide +kernel
theorem dX7_writeStatement_42 : decode cX7_writeStatement 42 = .ok (.iload_n 2, 1) := by decide +kernel
theorem dX7_writeStatement_43 : decode cX7_writeStatement 43 = .ok (.aload_n 0, 1) := by decide +kernel
theorem dX7_writeStatement_44 : decode cX7_writeStatement 44 = .ok (.iload_n 1, 1) := by decide +kernel
theorem dX7_writeStatement_45 : decode cX7_writeStatement 45 = .ok (.iconst 1, 1) := by decide +kernel
theorem dX7_writeStatement_46 : decode cX7_writeStatement 46 = .ok (.invokevirtual 99, 3) := by decide +kernel
theorem dX7_writeStatement_49 : decode cX7_writeStatement 49 = .ok (.invokevirtual 189, 3) := by decide +kernel
theorem dX7_writeStatement_52 : decode cX7_writeStatement 52 = .ok (.bipush 47, 2) := by decide +kernel
theorem dX7_writeStatement_54 : decode cX7_writeStatement 54 = .ok (.invokevirtual 180, 3) := by decide +kernel
theorem dX7_writeStatement_57 : decode cX7_writeStatement 57 = .ok (.istore_n 2, 1) := by decide +kernel
theorem dX7_writeStatement_58 : decode cX7_writeStatement 58 = .ok (.aload_n 0, 1) := by decide +kernel
theorem dX7_writeStatement_59 : decode cX7_writeStatement 59 = .ok (.iload_n 2, 1) := by decide +kernel
theorem dX7_writeStatement_60 : decode cX7_writeStatement 60 = .ok (.aload_n 0, 1) := by decide +kernel
theorem dX7_writeStatement_61 : decode cX7_writeStatement 61 = .ok (.iload_n 1, 1) := by decide +kernel
theorem dX7_writeStatement_62 : decode cX7_writeStatement 62 = .ok (.iconst 2, 1) := by decide +kernel
theorem dX7_writeStatement_63 : decode cX7_writeStatement 63 = .ok (.invokevirtual 99, 3) := by decide +kernel
theorem dX7_writeStatement_66 : decode cX7_writeStatement 66 = .ok (.invokevirtual 189, 3) := by decide +kernel
theorem dX7_writeStatement_69 : decode cX7_writeStatement 69 = .ok (.istore_n 2, 1) := by decide +kernel
theorem dX7_writeStatement_70 : decode cX7_writeStatement 70 = .ok (.aload_n 0, 1) := by decide +kernel
theorem dX7_writeStatement_71 : decode cX7_writeStatement 71 = .ok (.aload_n 0, 1) := by decide +kernel
theorem dX7_writeStatement_72 : decode cX7_writeStatement 72 = .ok (.iload_n 1, 1) := by decide +kernel
theorem dX7_writeStatement_73 : decode cX7_writeStatement 73 = .ok (.iconst 3, 1) := by decide +kernel
theorem dX7_writeStatement_74 : decode cX7_writeStatement 74 = .ok (.invokevirtual 99, 3) := by decide +kernel
theorem dX7_writeStatement_77 : decode cX7_writeStatement 77 = .ok (.iconst 1, 1) := by decide +kernel
theorem dX7_writeStatement_78 : decode cX7_writeStatement 78 = .ok (.if_icmp .ne 13, 3) := by decide +kernel
theorem dX7_writeStatement_81 : decode cX7_writeStatement 81 = .ok (.aload_n 0, 1) := by decide +kernel
theorem dX7_writeStatement_82 : decode cX7_writeStatement 82 = .ok (.iload_n 2, 1) := by decide +kernel
theorem dX7_writeStatement_83 : decode cX7_writeStatement 83 = .ok (.bipush 42, 2) := by decide +kernel
theorem dX7_writeStatement_85 : decode cX7_writeStatement 85 = .ok (.invokevirtual 180, 3) := by decide +kernel
theorem dX7_writeStatement_88 : decode cX7_writeStatement 88 = .ok (.goto 4, 3) := by decide +kernel
theorem dX7_writeStatement_91 : decode cX7_writeStatement 91 = .ok (.iload_n 2, 1) := by decide +kernel
theorem dX7_writeStatement_92 : decode cX7_writeStatement 92 = .ok (.putfield 192, 3) := by decide +kernel
theorem dX7_writeStatement_95 : decode cX7_writeStatement 95 = .ok (.aload_n 0, 1) := by decide +kernel
theorem dX7_writeStatement_96 : decode cX7_writeStatement 96 = .ok (.getfield 192, 3) := by decide +kernel
theorem dX7_writeStatement_99 : decode cX7_writeStatement 99 = .ok (.ireturn, 1) := by decide +kernel
theorem dX7_statementAt_0 : decode cX7_statementAt 0 = .ok (.aload_n 0, 1) := by decide +kernel
theorem dX7_statementAt_1 : decode cX7_statementAt 1 = .ok (.iload_n 1, 1) := by decide +kernel
theorem dX7_statementAt_2 : decode cX7_statementAt 2 = .ok (.iconst 0, 1) := by decide +kernel
theorem dX7_statementAt_3 : decode cX7_statementAt 3 = .ok (.aload_n 0, 1) := by decide +kernel
theorem dX7_statementAt_4 : decode cX7_statementAt 4 = .ok (.getfield 192, 3) := by decide +kernel
theorem dX7_statementAt_7 : decode cX7_statementAt 7 = .ok (.iconst 1, 1) := by decide +kernel
theorem dX7_statementAt_8 : decode cX7_statementAt 8 = .ok (.isub, 1) := by decide +kernel
theorem dX7_statementAt_9 : decode cX7_statementAt 9 = .ok (.invokestatic 69, 3) := by decide +kernel
theorem dX7_statementAt_12 : decode cX7_statementAt 12 = .ok (.invokevirtual 61, 3) := by decide +kernel
theorem dX7_statementAt_15 : decode cX7_statementAt 15 = .ok (.ifCond .eq 13, 3) := by decide +kernel
theorem dX7_statementAt_18 : decode cX7_statementAt 18 = .ok (.aload_n 0, 1) := by decide +kernel
theorem dX7_statementAt_19 : decode cX7_statementAt 19 = .ok (.getfield 38, 3) := by decide +kernel
theorem dX7_statementAt_22 : decode cX7_statementAt 22 = .ok (.iload_n 1, 1) := by decide +kernel
theorem dX7_statementAt_23 : decode cX7_statementAt 23 = .ok (.iaload, 1) := by decide +kernel
theorem dX7_statementAt_24 : decode cX7_statementAt 24 = .ok (.i2c, 1) := by decide +kernel
theorem dX7_statementAt_25 : decode cX7_statementAt 25 = .ok (.goto 4, 3) := by decide +kernel
theorem dX7_statementAt_28 : decode cX7_statementAt 28 = .ok (.iconst 0, 1) := by decide +kernel
theorem dX7_statementAt_29 : decode cX7_statementAt 29 = .ok (.ireturn, 1) := by decide +kernel
theorem dX7_type_0 : decode cX7_type 0 = .ok (.aload_n 0, 1) := by decide +kernel
theorem dX7_type_1 : decode cX7_type 1 = .ok (.iload_n 1, 1) := by decide +kernel
theorem dX7_type_2 : decode cX7_type 2 = .ok (.bipush 32, 2) := by decide +kernel
theorem dX7_type_4 : decode cX7_type 4 = .ok (.bipush 126, 2) := by decide +kernel
theorem dX7_type_6 : decode cX7_type 6 = .ok (.invokestatic 69, 3) := by decide +kernel
theorem dX7_type_9 : decode cX7_type 9 = .ok (.aload_n 0, 1) := by decide +kernel
theorem dX7_type_10 : decode cX7_type 10 = .ok (.getfield 195, 3) := by decide +kernel
theorem dX7_type_13 : decode cX7_type 13 = .ok (.bipush 60, 2) := by decide +kernel
theorem dX7_type_15 : decode cX7_type 15 = .ok (.if_icmp .ge 7, 3) := by decide +kernel
theorem dX7_type_18 : decode cX7_type 18 = .ok (.iconst 1, 1) := by decide +kernel
theorem dX7_type_19 : decode cX7_type 19 = .ok (.goto 4, 3) := by decide +kernel
theorem dX7_type_22 : decode cX7_type 22 = .ok (.iconst 0, 1) := by decide +kernel
theorem dX7_type_23 : decode cX7_type 23 = .ok (.iconst 1, 1) := by decide +kernel
theorem dX7_type_24 : decode cX7_type 24 = .ok (.iconst 1, 1) := by decide +kernel
theorem dX7_type_25 : decode cX7_type 25 = .ok (.invokevirtual 47, 3) := by decide +kernel
theorem dX7_type_28 : decode cX7_type 28 = .ok (.ifCond .ne 5, 3) := by decide +kernel
theorem dX7_type_31 : decode cX7_type 31 = .ok (.iconst 0, 1) := by decide +kernel
theorem dX7_type_32 : decode cX7_type 32 = .ok (.ireturn, 1) := by decide +kernel
theorem dX7_type_33 : decode cX7_type 33 = .ok (.aload_n 0, 1) := by decide +kernel
theorem dX7_type_34 : decode cX7_type 34 = .ok (.getfield 35, 3) := by decide +kernel
theorem dX7_type_37 : decode cX7_type 37 = .ok (.aload_n 0, 1) := by decide +kernel
theorem dX7_type_38 : decode cX7_type 38 = .ok (.getfield 195, 3) := by decide +kernel
theorem dX7_type_41 : decode cX7_type 41 = .ok (.iload_n 1, 1) := by decide +kernel
theorem dX7_type_42 : decode cX7_type 42 = .ok (.iastore, 1) := by decide +kernel
theorem dX7_type_43 : decode cX7_type 43 = .ok (.aload_n 0, 1) := by decide +kernel
theorem dX7_type_44 : decode cX7_type 44 = .ok (.dup, 1) := by decide +kernel
theorem dX7_type_45 : decode cX7_type 45 = .ok (.getfield 195, 3) := by decide +kernel
theorem dX7_type_48 : decode cX7_type 48 = .ok (.iconst 1, 1) := by decide +kernel
theorem dX7_type_49 : decode cX7_type 49 = .ok (.iadd, 1) := by decide +kernel
theorem dX7_type_50 : decode cX7_type 50 = .ok (.putfield 195, 3) := by decide +kernel
theorem dX7_type_53 : decode cX7_type 53 = .ok (.aload_n 0, 1) := by decide +kernel
theorem dX7_type_54 : decode cX7_type 54 = .ok (.getfield 195, 3) := by decide +kernel
theorem dX7_type_57 : decode cX7_type 57 = .ok (.ireturn, 1) := by decide +kernel
theorem dX7_letterHere_0 : decode cX7_letterHere 0 = .ok (.aload_n 0, 1) := by decide +kernel
theorem dX7_letterHere_1 : decode cX7_letterHere 1 = .ok (.getfield 198, 3) := by decide +kernel
theorem dX7_letterHere_4 : decode cX7_letterHere 4 = .ok (.aload_n 0, 1) := by decide +kernel
theorem dX7_letterHere_5 : decode cX7_letterHere 5 = .ok (.getfield 201, 3) := by decide +kernel
theorem dX7_letterHere_8 : decode cX7_letterHere 8 = .ok (.if_icmp .ge 15, 3) := by decide +kernel
theorem dX7_letterHere_11 : decode cX7_letterHere 11 = .ok (.aload_n 0, 1) := by decide +kernel
theorem dX7_letterHere_12 : decode cX7_letterHere 12 = .ok (.getfield 35, 3) := by decide +kernel
theorem dX7_letterHere_15 : decode cX7_letterHere 15 = .ok (.aload_n 0, 1) := by decide +kernel
theorem dX7_letterHere_16 : decode cX7_letterHere 16 = .ok (.getfield 198, 3) := by decide +kernel
theorem dX7_letterHere_19 : decode cX7_letterHere 19 = .ok (.iaload, 1) := by decide +kernel
theorem dX7_letterHere_20 : decode cX7_letterHere 20 = .ok (.goto 4, 3) := by decide +kernel
theorem dX7_letterHere_23 : decode cX7_letterHere 23 = .ok (.iconst (-1), 1) := by decide +kernel
theorem dX7_letterHere_24 : decode cX7_letterHere 24 = .ok (.ireturn, 1) := by decide +kernel
theorem dX7_reads_0 : decode cX7_reads 0 = .ok (.aload_n 0, 1) := by decide +kernel
theorem dX7_reads_1 : decode cX7_reads 1 = .ok (.getfield 204, 3) := by decide +kernel
theorem dX7_reads_4 : decode cX7_reads 4 = .ok (.iconst (-1), 1) := by decide +kernel
theorem dX7_reads_5 : decode cX7_reads 5 = .ok (.if_icmp .ne 39, 3) := by decide +kernel
theorem dX7_reads_8 : decode cX7_reads 8 = .ok (.aload_n 0, 1) := by decide +kernel
theorem dX7_reads_9 : decode cX7_reads 9 = .ok (.invokevirtual 207, 3) := by decide +kernel
theorem dX7_reads_12 : decode cX7_reads 12 = .ok (.iload_n 1, 1) := by decide +kernel
theorem dX7_reads_13 : decode cX7_reads 13 = .ok (.iload_n 2, 1) := by decide +kernel
theorem dX7_reads_14 : decode cX7_reads 14 = .ok (.invokestatic 69, 3) := by decide +kernel
theorem dX7_reads_17 : decode cX7_reads 17 = .ok (.ifCond .eq 27, 3) := by decide +kernel
theorem dX7_reads_20 : decode cX7_reads 20 = .ok (.aload_n 0, 1) := by decide +kernel
theorem dX7_reads_21 : decode cX7_reads 21 = .ok (.dup, 1) := by decide +kernel
theorem dX7_reads_22 : decode cX7_reads 22 = .ok (.getfield 198, 3) := by decide +kernel
theorem dX7_reads_25 : decode cX7_reads 25 = .ok (.iconst 1, 1) := by decide +kernel
theorem dX7_reads_26 : decode cX7_reads 26 = .ok (.iadd, 1) := by decide +kernel
theorem dX7_reads_27 : decode cX7_reads 27 = .ok (.putfield 198, 3) := by decide +kernel
theorem dX7_reads_30 : decode cX7_reads 30 = .ok (.aload_n 0, 1) := by decide +kernel
theorem dX7_reads_31 : decode cX7_reads 31 = .ok (.getfield 35, 3) := by decide +kernel
theorem dX7_reads_34 : decode cX7_reads 34 = .ok (.aload_n 0, 1) := by decide +kernel
theorem dX7_reads_35 : decode cX7_reads 35 = .ok (.getfield 198, 3) := by decide +kernel
theorem dX7_reads_38 : decode cX7_reads 38 = .ok (.iconst 1, 1) := by decide +kernel
theorem dX7_reads_39 : decode cX7_reads 39 = .ok (.isub, 1) := by decide +kernel
theorem dX7_reads_40 : decode cX7_reads 40 = .ok (.iaload, 1) := by decide +kernel
theorem dX7_reads_41 : decode cX7_reads 41 = .ok (.iload_n 1, 1) := by decide +kernel
theorem dX7_reads_42 : decode cX7_reads 42 = .ok (.isub, 1) := by decide +kernel
theorem dX7_reads_43 : decode cX7_reads 43 = .ok (.ireturn, 1) := by decide +kernel
theorem dX7_reads_44 : decode cX7_reads 44 = .ok (.aload_n 0, 1) := by decide +kernel
theorem dX7_reads_45 : decode cX7_reads 45 = .ok (.aload_n 0, 1) := by decide +kernel
theorem dX7_reads_46 : decode cX7_reads 46 = .ok (.getfield 204, 3) := by decide +kernel
theorem dX7_reads_49 : decode cX7_reads 49 = .ok (.iconst (-1), 1) := by decide +kernel
theorem dX7_reads_50 : decode cX7_reads 50 = .ok (.if_icmp .ne 10, 3) := by decide +kernel
theorem dX7_reads_53 : decode cX7_reads 53 = .ok (.aload_n 0, 1) := by decide +kernel
theorem dX7_reads_54 : decode cX7_reads 54 = .ok (.getfield 198, 3) := by decide +kernel
theorem dX7_reads_57 : decode cX7_reads 57 = .ok (.goto 7, 3) := by decide +kernel
theorem dX7_reads_60 : decode cX7_reads 60 = .ok (.aload_n 0, 1) := by decide +kernel
theorem dX7_reads_61 : decode cX7_reads 61 = .ok (.getfield 204, 3) := by decide +kernel
theorem dX7_reads_64 : decode cX7_reads 64 = .ok (.putfield 204, 3) := by decide +kernel
theorem dX7_reads_67 : decode cX7_reads 67 = .ok (.iconst 0, 1) := by decide +kernel
theorem dX7_reads_68 : decode cX7_reads 68 = .ok (.ireturn, 1) := by decide +kernel
theorem dX7_digit_0 : decode cX7_digit 0 = .ok (.aload_n 0, 1) := by decide +kernel
theorem dX7_digit_1 : decode cX7_digit 1 = .ok (.bipush 48, 2) := by decide +kernel
theorem dX7_digit_3 : decode cX7_digit 3 = .ok (.bipush 57, 2) := by decide +kernel
theorem dX7_digit_5 : decode cX7_digit 5 = .ok (.invokevirtual 210, 3) := by decide +kernel
theorem dX7_digit_8 : decode cX7_digit 8 = .ok (.ireturn, 1) := by decide +kernel
theorem dX7_number_0 : decode cX7_number 0 = .ok (.aload_n 0, 1) := by decide +kernel
theorem dX7_number_1 : decode cX7_number 1 = .ok (.invokevirtual 213, 3) := by decide +kernel
theorem dX7_number_4 : decode cX7_number 4 = .ok (.istore_n 1, 1) := by decide +kernel
theorem dX7_number_5 : decode cX7_number 5 = .ok (.iconst 1, 1) := by decide +kernel
theorem dX7_number_6 : decode cX7_number 6 = .ok (.istore_n 2, 1) := by decide +kernel
theorem dX7_number_7 : decode cX7_number 7 = .ok (.iload_n 2, 1) := by decide +kernel
theorem dX7_number_8 : decode cX7_number 8 = .ok (.iconst 3, 1) := by decide +kernel
theorem dX7_number_9 : decode cX7_number 9 = .ok (.if_icmp .ge 41, 3) := by decide +kernel
theorem dX7_number_12 : decode cX7_number 12 = .ok (.aload_n 0, 1) := by decide +kernel
theorem dX7_number_13 : decode cX7_number 13 = .ok (.getfield 204, 3) := by decide +kernel
theorem dX7_number_16 : decode cX7_number 16 = .ok (.iconst (-1), 1) := by decide +kernel
theorem dX7_number_17 : decode cX7_number 17 = .ok (.if_icmp .ne 33, 3) := by decide +kernel
theorem dX7_number_20 : decode cX7_number 20 = .ok (.aload_n 0, 1) := by decide +kernel
theorem dX7_number_21 : decode cX7_number 21 = .ok (.invokevirtual 207, 3) := by decide +kernel
theorem dX7_number_24 : decode cX7_number 24 = .ok (.bipush 48, 2) := by decide +kernel
theorem dX7_number_26 : decode cX7_number 26 = .ok (.bipush 57, 2) := by decide +kernel
theorem dX7_number_28 : decode cX7_number 28 = .ok (.invokestatic 69, 3) := by decide +kernel
theorem dX7_number_31 : decode cX7_number 31 = .ok (.ifCond .eq 19, 3) := by decide +kernel
theorem dX7_number_34 : decode cX7_number 34 = .ok (.bipush 10, 2) := by decide +kernel
theorem dX7_number_36 : decode cX7_number 36 = .ok (.iload_n 1, 1) := by decide +kernel
theorem dX7_number_37 : decode cX7_number 37 = .ok (.imul, 1) := by decide +kernel
theorem dX7_number_38 : decode cX7_number 38 = .ok (.aload_n 0, 1) := by decide +kernel
theorem dX7_number_39 : decode cX7_number 39 = .ok (.invokevirtual 213, 3) := by decide +kernel
theorem dX7_number_42 : decode cX7_number 42 = .ok (.iadd, 1) := by decide +kernel
theorem dX7_number_43 : decode cX7_number 43 = .ok (.istore_n 1, 1) := by decide +kernel
theorem dX7_number_44 : decode cX7_number 44 = .ok (.iinc 2 1, 3) := by decide +kernel
theorem dX7_number_47 : decode cX7_number 47 = .ok (.goto (-40), 3) := by decide +kernel
theorem dX7_number_50 : decode cX7_number 50 = .ok (.iload_n 1, 1) := by decide +kernel
theorem dX7_number_51 : decode cX7_number 51 = .ok (.ireturn, 1) := by decide +kernel
theorem dX7_numberBehindBlank_0 : decode cX7_numberBehindBlank 0 = .ok (.aload_n 0, 1) := by decide +kernel
theorem dX7_numberBehindBlank_1 : decode cX7_numberBehindBlank 1 = .ok (.bipush 32, 2) := by decide +kernel
theorem dX7_numberBehindBlank_3 : decode cX7_numberBehindBlank 3 = .ok (.bipush 32, 2) := by decide +kernel
theorem dX7_numberBehindBlank_5 : decode cX7_numberBehindBlank 5 = .ok (.invokevirtual 210, 3) := by decide +kernel
theorem dX7_numberBehindBlank_8 : decode cX7_numberBehindBlank 8 = .ok (.istore_n 1, 1) := by decide +kernel
theorem dX7_numberBehindBlank_9 : decode cX7_numberBehindBlank 9 = .ok (.aload_n 0, 1) := by decide +kernel
theorem dX7_numberBehindBlank_10 : decode cX7_numberBehindBlank 10 = .ok (.invokevirtual 216, 3) := by decide +kernel
theorem dX7_numberBehindBlank_13 : decode cX7_numberBehindBlank 13 = .ok (.ireturn, 1) := by decide +kernel
theorem dX7_startOf_0 : decode cX7_startOf 0 = .ok (.iload_n 0, 1) := by decide +kernel
theorem dX7_startOf_1 : decode cX7_startOf 1 = .ok (.ifCond .ne 7, 3) := by decide +kernel
theorem dX7_startOf_4 : decode cX7_startOf 4 = .ok (.iconst 0, 1) := by decide +kernel
theorem dX7_startOf_5 : decode cX7_startOf 5 = .ok (.goto 25, 3) := by decide +kernel
theorem dX7_startOf_8 : decode cX7_startOf 8 = .ok (.iload_n 0, 1) := by decide +kernel
theorem dX7_startOf_9 : decode cX7_startOf 9 = .ok (.iconst 1, 1) := by decide +kernel
theorem dX7_startOf_10 : decode cX7_startOf 10 = .ok (.if_icmp .ne 7, 3) := by decide +kernel
theorem dX7_startOf_13 : decode cX7_startOf 13 = .ok (.iconst 4, 1) := by decide +kernel
theorem dX7_startOf_14 : decode cX7_startOf 14 = .ok (.goto 16, 3) := by decide +kernel
theorem dX7_startOf_17 : decode cX7_startOf 17 = .ok (.iload_n 0, 1) := by decide +kernel
theorem dX7_startOf_18 : decode cX7_startOf 18 = .ok (.iconst 2, 1) := by decide +kernel
theorem dX7_startOf_19 : decode cX7_startOf 19 = .ok (.if_icmp .ne 8, 3) := by decide +kernel
theorem dX7_startOf_22 : decode cX7_startOf 22 = .ok (.bipush 9, 2) := by decide +kernel
theorem dX7_startOf_24 : decode cX7_startOf 24 = .ok (.goto 6, 3) := by decide +kernel
theorem dX7_startOf_27 : decode cX7_startOf 27 = .ok (.iconst 5, 1) := by decide +kernel
theorem dX7_startOf_28 : decode cX7_startOf 28 = .ok (.iload_n 0, 1) := by decide +kernel
theorem dX7_startOf_29 : decode cX7_startOf 29 = .ok (.imul, 1) := by decide +kernel
theorem dX7_startOf_30 : decode cX7_startOf 30 = .ok (.ireturn, 1) := by decide +kernel
theorem dX7_kindHere_0 : decode cX7_kindHere 0 = .ok (.aload_n 0, 1) := by decide +kernel
theorem dX7_kindHere_1 : decode cX7_kindHere 1 = .ok (.getfield 198, 3) := by decide +kernel
theorem dX7_kindHere_4 : decode cX7_kindHere 4 = .ok (.istore_n 1, 1) := by decide +kernel
theorem dX7_kindHere_5 : decode cX7_kindHere 5 = .ok (.iconst (-1), 1) := by decide +kernel
theorem dX7_kindHere_6 : decode cX7_kindHere 6 = .ok (.istore_n 2, 1) := by decide +kernel
theorem dX7_kindHere_7 : decode cX7_kindHere 7 = .ok (.iconst 0, 1) := by decide +kernel
theorem dX7_kindHere_8 : decode cX7_kindHere 8 = .ok (.istore_n 3, 1) := by decide +kernel
theorem dX7_kindHere_9 : decode cX7_kindHere 9 = .ok (.iload_n 3, 1) := by decide +kernel
theorem dX7_kindHere_10 : decode cX7_kindHere 10 = .ok (.bipush 6, 2) := by decide +kernel
theorem dX7_kindHere_12 : decode cX7_kindHere 12 = .ok (.if_icmp .ge 109, 3) := by decide +kernel
theorem dX7_kindHere_15 : decode cX7_kindHere 15 = .ok (.iload_n 2, 1) := by decide +kernel
theorem dX7_kindHere_16 : decode cX7_kindHere 16 = .ok (.iconst (-1), 1) := by decide +kernel
theorem dX7_kindHere_17 : decode cX7_kindHere 17 = .ok (.if_icmp .ne 104, 3) := by decide +kernel
theorem dX7_kindHere_20 : decode cX7_kindHere 20 = .ok (.iload_n 3, 1) := by decide +kernel
theorem dX7_kindHere_21 : decode cX7_kindHere 21 = .ok (.iconst 1, 1) := by decide +kernel
theorem dX7_kindHere_22 : decode cX7_kindHere 22 = .ok (.iadd, 1) := by decide +kernel
theorem dX7_kindHere_23 : decode cX7_kindHere 23 = .ok (.invokestatic 219, 3) := by decide +kernel
theorem dX7_kindHere_26 : decode cX7_kindHere 26 = .ok (.iload_n 3, 1) := by decide +kernel
theorem dX7_kindHere_27 : decode cX7_kindHere 27 = .ok (.invokestatic 219, 3) := by decide +kernel
theorem dX7_kindHere_30 : decode cX7_kindHere 30 = .ok (.isub, 1) := by decide +kernel
theorem dX7_kindHere_31 : decode cX7_kindHere 31 = .ok (.istore 4, 2) := by decide +kernel
theorem dX7_kindHere_33 : decode cX7_kindHere 33 = .ok (.iconst 0, 1) := by decide +kernel
theorem dX7_kindHere_34 : decode cX7_kindHere 34 = .ok (.istore 5, 2) := by decide +kernel
theorem dX7_kindHere_36 : decode cX7_kindHere 36 = .ok (.iload 5, 2) := by decide +kernel
theorem dX7_kindHere_38 : decode cX7_kindHere 38 = .ok (.iload 4, 2) := by decide +kernel
theorem dX7_kindHere_40 : decode cX7_kindHere 40 = .ok (.if_icmp .ge 50, 3) := by decide +kernel
theorem dX7_kindHere_43 : decode cX7_kindHere 43 = .ok (.aload_n 0, 1) := by decide +kernel
theorem dX7_kindHere_44 : decode cX7_kindHere 44 = .ok (.getfield 198, 3) := by decide +kernel
theorem dX7_kindHere_47 : decode cX7_kindHere 47 = .ok (.iload 5, 2) := by decide +kernel
theorem dX7_kindHere_49 : decode cX7_kindHere 49 = .ok (.iadd, 1) := by decide +kernel
theorem dX7_kindHere_50 : decode cX7_kindHere 50 = .ok (.aload_n 0, 1) := by decide +kernel
theorem dX7_kindHere_51 : decode cX7_kindHere 51 = .ok (.getfield 201, 3) := by decide +kernel
theorem dX7_kindHere_54 : decode cX7_kindHere 54 = .ok (.if_icmp .ge 36, 3) := by decide +kernel
theorem dX7_kindHere_57 : decode cX7_kindHere 57 = .ok (.aload_n 0, 1) := by decide +kernel
theorem dX7_kindHere_58 : decode cX7_kindHere 58 = .ok (.getfield 35, 3) := by decide +kernel
theorem dX7_kindHere_61 : decode cX7_kindHere 61 = .ok (.aload_n 0, 1) := by decide +kernel
theorem dX7_kindHere_62 : decode cX7_kindHere 62 = .ok (.getfield 198, 3) := by decide +kernel
theorem dX7_kindHere_65 : decode cX7_kindHere 65 = .ok (.iload 5, 2) := by decide +kernel
theorem dX7_kindHere_67 : decode cX7_kindHere 67 = .ok (.iadd, 1) := by decide +kernel
theorem dX7_kindHere_68 : decode cX7_kindHere 68 = .ok (.iaload, 1) := by decide +kernel
theorem dX7_kindHere_69 : decode cX7_kindHere 69 = .ok (.ldc 222, 2) := by decide +kernel
theorem dX7_kindHere_71 : decode cX7_kindHere 71 = .ok (.iload_n 3, 1) := by decide +kernel
theorem dX7_kindHere_72 : decode cX7_kindHere 72 = .ok (.invokestatic 219, 3) := by decide +kernel
theorem dX7_kindHere_75 : decode cX7_kindHere 75 = .ok (.iload 5, 2) := by decide +kernel
theorem dX7_kindHere_77 : decode cX7_kindHere 77 = .ok (.iadd, 1) := by decide +kernel
theorem dX7_kindHere_78 : decode cX7_kindHere 78 = .ok (.invokevirtual 224, 3) := by decide +kernel
theorem dX7_kindHere_81 : decode cX7_kindHere 81 = .ok (.if_icmp .ne 9, 3) := by decide +kernel
theorem dX7_kindHere_84 : decode cX7_kindHere 84 = .ok (.iinc 5 1, 3) := by decide +kernel
theorem dX7_kindHere_87 : decode cX7_kindHere 87 = .ok (.goto (-51), 3) := by decide +kernel
theorem dX7_kindHere_90 : decode cX7_kindHere 90 = .ok (.iload_n 1, 1) := by decide +kernel
theorem dX7_kindHere_91 : decode cX7_kindHere 91 = .ok (.aload_n 0, 1) := by decide +kernel
theorem dX7_kindHere_92 : decode cX7_kindHere 92 = .ok (.getfield 198, 3) := by decide +kernel
theorem dX7_kindHere_95 : decode cX7_kindHere 95 = .ok (.iload 5, 2) := by decide +kernel
theorem dX7_kindHere_97 : decode cX7_kindHere 97 = .ok (.iadd, 1) := by decide +kernel
theorem dX7_kindHere_98 : decode cX7_kindHere 98 = .ok (.invokestatic 136, 3) := by decide +kernel
theorem dX7_kindHere_101 : decode cX7_kindHere 101 = .ok (.istore_n 1, 1) := by decide +kernel
theorem dX7_kindHere_102 : decode cX7_kindHere 102 = .ok (.iload 5, 2) := by decide +kernel
theorem dX7_kindHere_104 : decode cX7_kindHere 104 = .ok (.iload 4, 2) := by decide +kernel
theorem dX7_kindHere_106 : decode cX7_kindHere 106 = .ok (.if_icmp .ne 7, 3) := by decide +kernel
theorem dX7_kindHere_109 : decode cX7_kindHere 109 = .ok (.iload_n 3, 1) := by decide +kernel
theorem dX7_kindHere_110 : decode cX7_kindHere 110 = .ok (.goto 4, 3) := by decide +kernel
theorem dX7_kindHere_113 : decode cX7_kindHere 113 = .ok (.iload_n 2, 1) := by decide +kernel
theorem dX7_kindHere_114 : decode cX7_kindHere 114 = .ok (.istore_n 2, 1) := by decide +kernel
theorem dX7_kindHere_115 : decode cX7_kindHere 115 = .ok (.iinc 3 1, 3) := by decide +kernel
theorem dX7_kindHere_118 : decode cX7_kindHere 118 = .ok (.goto (-109), 3) := by decide +kernel
theorem dX7_kindHere_121 : decode cX7_kindHere 121 = .ok (.aload_n 0, 1) := by decide +kernel
theorem dX7_kindHere_122 : decode cX7_kindHere 122 = .ok (.iload_n 2, 1) := by decide +kernel
theorem dX7_kindHere_123 : decode cX7_kindHere 123 = .ok (.iconst (-1), 1) := by decide +kernel
theorem dX7_kindHere_124 : decode cX7_kindHere 124 = .ok (.if_icmp .ne 7, 3) := by decide +kernel
theorem dX7_kindHere_127 : decode cX7_kindHere 127 = .ok (.iload_n 1, 1) := by decide +kernel
theorem dX7_kindHere_128 : decode cX7_kindHere 128 = .ok (.goto 7, 3) := by decide +kernel
theorem dX7_kindHere_131 : decode cX7_kindHere 131 = .ok (.aload_n 0, 1) := by decide +kernel
theorem dX7_kindHere_132 : decode cX7_kindHere 132 = .ok (.getfield 204, 3) := by decide +kernel
theorem dX7_kindHere_135 : decode cX7_kindHere 135 = .ok (.putfield 204, 3) := by decide +kernel
theorem dX7_kindHere_138 : decode cX7_kindHere 138 = .ok (.aload_n 0, 1) := by decide +kernel
theorem dX7_kindHere_139 : decode cX7_kindHere 139 = .ok (.dup, 1) := by decide +kernel
theorem dX7_kindHere_140 : decode cX7_kindHere 140 = .ok (.getfield 198, 3) := by decide +kernel
theorem dX7_kindHere_143 : decode cX7_kindHere 143 = .ok (.iload_n 2, 1) := by decide +kernel
theorem dX7_kindHere_144 : decode cX7_kindHere 144 = .ok (.iconst (-1), 1) := by decide +kernel
theorem dX7_kindHere_145 : decode cX7_kindHere 145 = .ok (.if_icmp .ne 7, 3) := by decide +kernel
theorem dX7_kindHere_148 : decode cX7_kindHere 148 = .ok (.iconst 0, 1) := by decide +kernel
theorem dX7_kindHere_149 : decode cX7_kindHere 149 = .ok (.goto 14, 3) := by decide +kernel
theorem dX7_kindHere_152 : decode cX7_kindHere 152 = .ok (.iload_n 2, 1) := by decide +kernel
theorem dX7_kindHere_153 : decode cX7_kindHere 153 = .ok (.iconst 1, 1) := by decide +kernel
theorem dX7_kindHere_154 : decode cX7_kindHere 154 = .ok (.iadd, 1) := by decide +kernel
theorem dX7_kindHere_155 : decode cX7_kindHere 155 = .ok (.invokestatic 219, 3) := by decide +kernel
theorem dX7_kindHere_158 : decode cX7_kindHere 158 = .ok (.iload_n 2, 1) := by decide +kernel
theorem dX7_kindHere_159 : decode cX7_kindHere 159 = .ok (.invokestatic 219, 3) := by decide +kernel
theorem dX7_kindHere_162 : decode cX7_kindHere 162 = .ok (.isub, 1) := by decide +kernel
theorem dX7_kindHere_163 : decode cX7_kindHere 163 = .ok (.iadd, 1) := by decide +kernel
theorem dX7_kindHere_164 : decode cX7_kindHere 164 = .ok (.putfield 198, 3) := by decide +kernel
theorem dX7_kindHere_167 : decode cX7_kindHere 167 = .ok (.iload_n 2, 1) := by decide +kernel
theorem dX7_kindHere_168 : decode cX7_kindHere 168 = .ok (.ireturn, 1) := by decide +kernel
theorem dX7_readsCommand_0 : decode cX7_readsCommand 0 = .ok (.iconst 5, 1) := by decide +kernel
theorem dX7_readsCommand_1 : decode cX7_readsCommand 1 = .ok (.aload_n 0, 1) := by decide +kernel
theorem dX7_readsCommand_2 : decode cX7_readsCommand 2 = .ok (.getfield 230, 3) := by decide +kernel
theorem dX7_readsCommand_5 : decode cX7_readsCommand 5 = .ok (.imul, 1) := by decide +kernel
theorem dX7_readsCommand_6 : decode cX7_readsCommand 6 = .ok (.istore_n 1, 1) := by decide +kernel
theorem dX7_readsCommand_7 : decode cX7_readsCommand 7 = .ok (.aload_n 0, 1) := by decide +kernel
theorem dX7_readsCommand_8 : decode cX7_readsCommand 8 = .ok (.invokevirtual 233, 3) := by decide +kernel
theorem dX7_readsCommand_11 : decode cX7_readsCommand 11 = .ok (.istore_n 2, 1) := by decide +kernel
theorem dX7_readsCommand_12 : decode cX7_readsCommand 12 = .ok (.aload_n 0, 1) := by decide +kernel
theorem dX7_readsCommand_13 : decode cX7_readsCommand 13 = .ok (.getfield 41, 3) := by decide +kernel
theorem dX7_readsCommand_16 : decode cX7_readsCommand 16 = .ok (.iload_n 1, 1) := by decide +kernel
theorem dX7_readsCommand_17 : decode cX7_readsCommand 17 = .ok (.iload_n 2, 1) := by decide +kernel
theorem dX7_readsCommand_18 : decode cX7_readsCommand 18 = .ok (.iastore, 1) := by decide +kernel
theorem dX7_readsCommand_19 : decode cX7_readsCommand 19 = .ok (.aload_n 0, 1) := by decide +kernel
theorem dX7_readsCommand_20 : decode cX7_readsCommand 20 = .ok (.dup, 1) := by decide +kernel
theorem dX7_readsCommand_21 : decode cX7_readsCommand 21 = .ok (.getfield 230, 3) := by decide +kernel
theorem dX7_readsCommand_24 : decode cX7_readsCommand 24 = .ok (.iconst 1, 1) := by decide +kernel
theorem dX7_readsCommand_25 : decode cX7_readsCommand 25 = .ok (.iadd, 1) := by decide +kernel
theorem dX7_readsCommand_26 : decode cX7_readsCommand 26 = .ok (.putfield 230, 3) := by decide +kernel
theorem dX7_readsCommand_29 : decode cX7_readsCommand 29 = .ok (.aload_n 0, 1) := by decide +kernel
theorem dX7_readsCommand_30 : decode cX7_readsCommand 30 = .ok (.getfield 204, 3) := by decide +kernel
theorem dX7_readsCommand_33 : decode cX7_readsCommand 33 = .ok (.iconst (-1), 1) := by decide +kernel
theorem dX7_readsCommand_34 : decode cX7_readsCommand 34 = .ok (.if_icmp .eq 4, 3) := by decide +kernel
theorem dX7_readsCommand_37 : decode cX7_readsCommand 37 = .ok (.return_, 1) := by decide +kernel
theorem dX7_readsCommand_38 : decode cX7_readsCommand 38 = .ok (.aload_n 0, 1) := by decide +kernel
theorem dX7_readsCommand_39 : decode cX7_readsCommand 39 = .ok (.getfield 41, 3) := by decide +kernel
theorem dX7_readsCommand_42 : decode cX7_readsCommand 42 = .ok (.iload_n 1, 1) := by decide +kernel
theorem dX7_readsCommand_43 : decode cX7_readsCommand 43 = .ok (.iconst 1, 1) := by decide +kernel
theorem dX7_readsCommand_44 : decode cX7_readsCommand 44 = .ok (.iadd, 1) := by decide +kernel
theorem dX7_readsCommand_45 : decode cX7_readsCommand 45 = .ok (.iload_n 2, 1) := by decide +kernel
theorem dX7_readsCommand_46 : decode cX7_readsCommand 46 = .ok (.iconst 4, 1) := by decide +kernel
theorem dX7_readsCommand_47 : decode cX7_readsCommand 47 = .ok (.if_icmp .ge 10, 3) := by decide +kernel
theorem dX7_readsCommand_50 : decode cX7_readsCommand 50 = .ok (.aload_n 0, 1) := by decide +kernel
theorem dX7_readsCommand_51 : decode cX7_readsCommand 51 = .ok (.invokevirtual 213, 3) := by decide +kernel
theorem dX7_readsCommand_54 : decode cX7_readsCommand 54 = .ok (.goto 7, 3) := by decide +kernel
theorem dX7_readsCommand_57 : decode cX7_readsCommand 57 = .ok (.aload_n 0, 1) := by decide +kernel
theorem dX7_readsCommand_58 : decode cX7_readsCommand 58 = .ok (.invokevirtual 216, 3) := by decide +kernel
theorem dX7_readsCommand_61 : decode cX7_readsCommand 61 = .ok (.iastore, 1) := by decide +kernel
theorem dX7_readsCommand_62 : decode cX7_readsCommand 62 = .ok (.iload_n 2, 1) := by decide +kernel
theorem dX7_readsCommand_63 : decode cX7_readsCommand 63 = .ok (.iconst 3, 1) := by decide +kernel
theorem dX7_readsCommand_64 : decode cX7_readsCommand 64 = .ok (.if_icmp .ne 39, 3) := by decide +kernel
theorem dX7_readsCommand_67 : decode cX7_readsCommand 67 = .ok (.aload_n 0, 1) := by decide +kernel
theorem dX7_readsCommand_68 : decode cX7_readsCommand 68 = .ok (.getfield 41, 3) := by decide +kernel
theorem dX7_readsCommand_71 : decode cX7_readsCommand 71 = .ok (.iload_n 1, 1) := by decide +kernel
theorem dX7_readsCommand_72 : decode cX7_readsCommand 72 = .ok (.iconst 2, 1) := by decide +kernel
theorem dX7_readsCommand_73 : decode cX7_readsCommand 73 = .ok (.iadd, 1) := by decide +kernel
theorem dX7_readsCommand_74 : decode cX7_readsCommand 74 = .ok (.aload_n 0, 1) := by decide +kernel
theorem dX7_readsCommand_75 : decode cX7_readsCommand 75 = .ok (.invokevirtual 213, 3) := by decide +kernel
theorem dX7_readsCommand_78 : decode cX7_readsCommand 78 = .ok (.iastore, 1) := by decide +kernel
theorem dX7_readsCommand_79 : decode cX7_readsCommand 79 = .ok (.aload_n 0, 1) := by decide +kernel
theorem dX7_readsCommand_80 : decode cX7_readsCommand 80 = .ok (.getfield 41, 3) := by decide +kernel
theorem dX7_readsCommand_83 : decode cX7_readsCommand 83 = .ok (.iload_n 1, 1) := by decide +kernel
theorem dX7_readsCommand_84 : decode cX7_readsCommand 84 = .ok (.iconst 3, 1) := by decide +kernel
theorem dX7_readsCommand_85 : decode cX7_readsCommand 85 = .ok (.iadd, 1) := by decide +kernel
theorem dX7_readsCommand_86 : decode cX7_readsCommand 86 = .ok (.aload_n 0, 1) := by decide +kernel
theorem dX7_readsCommand_87 : decode cX7_readsCommand 87 = .ok (.invokevirtual 236, 3) := by decide +kernel
theorem dX7_readsCommand_90 : decode cX7_readsCommand 90 = .ok (.iastore, 1) := by decide +kernel
theorem dX7_readsCommand_91 : decode cX7_readsCommand 91 = .ok (.aload_n 0, 1) := by decide +kernel
theorem dX7_readsCommand_92 : decode cX7_readsCommand 92 = .ok (.getfield 41, 3) := by decide +kernel
theorem dX7_readsCommand_95 : decode cX7_readsCommand 95 = .ok (.iload_n 1, 1) := by decide +kernel
theorem dX7_readsCommand_96 : decode cX7_readsCommand 96 = .ok (.iconst 4, 1) := by decide +kernel
theorem dX7_readsCommand_97 : decode cX7_readsCommand 97 = .ok (.iadd, 1) := by decide +kernel
theorem dX7_readsCommand_98 : decode cX7_readsCommand 98 = .ok (.aload_n 0, 1) := by decide +kernel
theorem dX7_readsCommand_99 : decode cX7_readsCommand 99 = .ok (.invokevirtual 236, 3) := by decide +kernel
theorem dX7_readsCommand_102 : decode cX7_readsCommand 102 = .ok (.iastore, 1) := by decide +kernel
theorem dX7_readsCommand_103 : decode cX7_readsCommand 103 = .ok (.iload_n 2, 1) := by decide +kernel
theorem dX7_readsCommand_104 : decode cX7_readsCommand 104 = .ok (.iconst 3, 1) := by decide +kernel
theorem dX7_readsCommand_105 : decode cX7_readsCommand 105 = .ok (.if_icmp .ge 15, 3) := by decide +kernel
theorem dX7_readsCommand_108 : decode cX7_readsCommand 108 = .ok (.aload_n 0, 1) := by decide +kernel
theorem dX7_readsCommand_109 : decode cX7_readsCommand 109 = .ok (.getfield 41, 3) := by decide +kernel
theorem dX7_readsCommand_112 : decode cX7_readsCommand 112 = .ok (.iload_n 1, 1) := by decide +kernel
theorem dX7_readsCommand_113 : decode cX7_readsCommand 113 = .ok (.iconst 2, 1) := by decide +kernel
theorem dX7_readsCommand_114 : decode cX7_readsCommand 114 = .ok (.iadd, 1) := by decide +kernel
theorem dX7_readsCommand_115 : decode cX7_readsCommand 115 = .ok (.aload_n 0, 1) := by decide +kernel
theorem dX7_readsCommand_116 : decode cX7_readsCommand 116 = .ok (.invokevirtual 236, 3) := by decide +kernel
theorem dX7_readsCommand_119 : decode cX7_readsCommand 119 = .ok (.iastore, 1) := by decide +kernel
theorem dX7_readsCommand_120 : decode cX7_readsCommand 120 = .ok (.return_, 1) := by decide +kernel
theorem dX7_readsAll_0 : decode cX7_readsAll 0 = .ok (.aload_n 0, 1) := by decide +kernel
theorem dX7_readsAll_1 : decode cX7_readsAll 1 = .ok (.aload_n 0, 1) := by decide +kernel
theorem dX7_readsAll_2 : decode cX7_readsAll 2 = .ok (.getfield 195, 3) := by decide +kernel
theorem dX7_readsAll_5 : decode cX7_readsAll 5 = .ok (.putfield 201, 3) := by decide +kernel
theorem dX7_readsAll_8 : decode cX7_readsAll 8 = .ok (.aload_n 0, 1) := by decide +kernel
theorem dX7_readsAll_9 : decode cX7_readsAll 9 = .ok (.iconst 0, 1) := by decide +kernel
theorem dX7_readsAll_10 : decode cX7_readsAll 10 = .ok (.putfield 195, 3) := by decide +kernel
theorem dX7_readsAll_13 : decode cX7_readsAll 13 = .ok (.aload_n 0, 1) := by decide +kernel
theorem dX7_readsAll_14 : decode cX7_readsAll 14 = .ok (.iconst 0, 1) := by decide +kernel
theorem dX7_readsAll_15 : decode cX7_readsAll 15 = .ok (.putfield 198, 3) := by decide +kernel
theorem dX7_readsAll_18 : decode cX7_readsAll 18 = .ok (.aload_n 0, 1) := by decide +kernel
theorem dX7_readsAll_19 : decode cX7_readsAll 19 = .ok (.iconst (-1), 1) := by decide +kernel
theorem dX7_readsAll_20 : decode cX7_readsAll 20 = .ok (.putfield 204, 3) := by decide +kernel
theorem dX7_readsAll_23 : decode cX7_readsAll 23 = .ok (.aload_n 0, 1) := by decide +kernel
theorem dX7_readsAll_24 : decode cX7_readsAll 24 = .ok (.iconst 0, 1) := by decide +kernel
theorem dX7_readsAll_25 : decode cX7_readsAll 25 = .ok (.putfield 230, 3) := by decide +kernel
theorem dX7_readsAll_28 : decode cX7_readsAll 28 = .ok (.aload_n 0, 1) := by decide +kernel
theorem dX7_readsAll_29 : decode cX7_readsAll 29 = .ok (.invokevirtual 239, 3) := by decide +kernel
theorem dX7_readsAll_32 : decode cX7_readsAll 32 = .ok (.aload_n 0, 1) := by decide +kernel
theorem dX7_readsAll_33 : decode cX7_readsAll 33 = .ok (.getfield 204, 3) := by decide +kernel
theorem dX7_readsAll_36 : decode cX7_readsAll 36 = .ok (.iconst (-1), 1) := by decide +kernel
theorem dX7_readsAll_37 : decode cX7_readsAll 37 = .ok (.if_icmp .ne 38, 3) := by decide +kernel
theorem dX7_readsAll_40 : decode cX7_readsAll 40 = .ok (.aload_n 0, 1) := by decide +kernel
theorem dX7_readsAll_41 : decode cX7_readsAll 41 = .ok (.getfield 198, 3) := by decide +kernel
theorem dX7_readsAll_44 : decode cX7_readsAll 44 = .ok (.aload_n 0, 1) := by decide +kernel
theorem dX7_readsAll_45 : decode cX7_readsAll 45 = .ok (.getfield 201, 3) := by decide +kernel
theorem dX7_readsAll_48 : decode cX7_readsAll 48 = .ok (.if_icmp .ge 27, 3) := by decide +kernel
theorem dX7_readsAll_51 : decode cX7_readsAll 51 = .ok (.aload_n 0, 1) := by decide +kernel
theorem dX7_readsAll_52 : decode cX7_readsAll 52 = .ok (.bipush 59, 2) := by decide +kernel
theorem dX7_readsAll_54 : decode cX7_readsAll 54 = .ok (.bipush 59, 2) := by decide +kernel
theorem dX7_readsAll_56 : decode cX7_readsAll 56 = .ok (.invokevirtual 210, 3) := by decide +kernel
theorem dX7_readsAll_59 : decode cX7_readsAll 59 = .ok (.istore_n 1, 1) := by decide +kernel
theorem dX7_readsAll_60 : decode cX7_readsAll 60 = .ok (.aload_n 0, 1) := by decide +kernel
theorem dX7_readsAll_61 : decode cX7_readsAll 61 = .ok (.getfield 204, 3) := by decide +kernel
theorem dX7_readsAll_64 : decode cX7_readsAll 64 = .ok (.iconst (-1), 1) := by decide +kernel
theorem dX7_readsAll_65 : decode cX7_readsAll 65 = .ok (.if_icmp .ne 7, 3) := by decide +kernel
theorem dX7_readsAll_68 : decode cX7_readsAll 68 = .ok (.aload_n 0, 1) := by decide +kernel
theorem dX7_readsAll_69 : decode cX7_readsAll 69 = .ok (.invokevirtual 239, 3) := by decide +kernel
theorem dX7_readsAll_72 : decode cX7_readsAll 72 = .ok (.goto (-40), 3) := by decide +kernel
theorem dX7_readsAll_75 : decode cX7_readsAll 75 = .ok (.return_, 1) := by decide +kernel
theorem dX7_does_0 : decode cX7_does 0 = .ok (.aload_n 0, 1) := by decide +kernel
theorem dX7_does_1 : decode cX7_does 1 = .ok (.getfield 41, 3) := by decide +kernel
theorem dX7_does_4 : decode cX7_does 4 = .ok (.iload_n 1, 1) := by decide +kernel
theorem dX7_does_5 : decode cX7_does 5 = .ok (.iconst 1, 1) := by decide +kernel
theorem dX7_does_6 : decode cX7_does 6 = .ok (.iadd, 1) := by decide +kernel
theorem dX7_does_7 : decode cX7_does 7 = .ok (.iaload, 1) := by decide +kernel
theorem dX7_does_8 : decode cX7_does 8 = .ok (.istore_n 2, 1) := by decide +kernel
theorem dX7_does_9 : decode cX7_does 9 = .ok (.aload_n 0, 1) := by decide +kernel
theorem dX7_does_10 : decode cX7_does 10 = .ok (.getfield 41, 3) := by decide +kernel
theorem dX7_does_13 : decode cX7_does 13 = .ok (.iload_n 1, 1) := by decide +kernel
theorem dX7_does_14 : decode cX7_does 14 = .ok (.iconst 2, 1) := by decide +kernel
theorem dX7_does_15 : decode cX7_does 15 = .ok (.iadd, 1) := by decide +kernel
theorem dX7_does_16 : decode cX7_does 16 = .ok (.iaload, 1) := by decide +kernel
theorem dX7_does_17 : decode cX7_does 17 = .ok (.istore_n 3, 1) := by decide +kernel
theorem dX7_does_18 : decode cX7_does 18 = .ok (.aload_n 0, 1) := by decide +kernel
theorem dX7_does_19 : decode cX7_does 19 = .ok (.getfield 41, 3) := by decide +kernel
theorem dX7_does_22 : decode cX7_does 22 = .ok (.iload_n 1, 1) := by decide +kernel
theorem dX7_does_23 : decode cX7_does 23 = .ok (.iaload, 1) := by decide +kernel
theorem dX7_does_24 : decode cX7_does 24 = .ok (.tableswitch 86 0 4 #[36, 43, 50, 57, 80], 36) := by decide +kernel
theorem dX7_does_60 : decode cX7_does 60 = .ok (.aload_n 0, 1) := by decide +kernel
theorem dX7_does_61 : decode cX7_does 61 = .ok (.iload_n 2, 1) := by decide +kernel
theorem dX7_does_62 : decode cX7_does 62 = .ok (.iload_n 3, 1) := by decide +kernel
theorem dX7_does_63 : decode cX7_does 63 = .ok (.invokevirtual 110, 3) := by decide +kernel
theorem dX7_does_66 : decode cX7_does 66 = .ok (.ireturn, 1) := by decide +kernel
theorem dX7_does_67 : decode cX7_does 67 = .ok (.aload_n 0, 1) := by decide +kernel
theorem dX7_does_68 : decode cX7_does 68 = .ok (.iload_n 2, 1) := by decide +kernel
theorem dX7_does_69 : decode cX7_does 69 = .ok (.iload_n 3, 1) := by decide +kernel
theorem dX7_does_70 : decode cX7_does 70 = .ok (.invokevirtual 113, 3) := by decide +kernel
theorem dX7_does_73 : decode cX7_does 73 = .ok (.ireturn, 1) := by decide +kernel
theorem dX7_does_74 : decode cX7_does 74 = .ok (.aload_n 0, 1) := by decide +kernel
theorem dX7_does_75 : decode cX7_does 75 = .ok (.iload_n 2, 1) := by decide +kernel
theorem dX7_does_76 : decode cX7_does 76 = .ok (.iload_n 3, 1) := by decide +kernel
theorem dX7_does_77 : decode cX7_does 77 = .ok (.invokevirtual 116, 3) := by decide +kernel
theorem dX7_does_80 : decode cX7_does 80 = .ok (.ireturn, 1) := by decide +kernel
theorem dX7_does_81 : decode cX7_does 81 = .ok (.aload_n 0, 1) := by decide +kernel
theorem dX7_does_82 : decode cX7_does 82 = .ok (.iload_n 2, 1) := by decide +kernel
theorem dX7_does_83 : decode cX7_does 83 = .ok (.iload_n 3, 1) := by decide +kernel
theorem dX7_does_84 : decode cX7_does 84 = .ok (.aload_n 0, 1) := by decide +kernel
theorem dX7_does_85 : decode cX7_does 85 = .ok (.getfield 41, 3) := by decide +kernel
theorem dX7_does_88 : decode cX7_does 88 = .ok (.iload_n 1, 1) := by decide +kernel
theorem dX7_does_89 : decode cX7_does 89 = .ok (.iconst 3, 1) := by decide +kernel
theorem dX7_does_90 : decode cX7_does 90 = .ok (.iadd, 1) := by decide +kernel
theorem dX7_does_91 : decode cX7_does 91 = .ok (.iaload, 1) := by decide +kernel
theorem dX7_does_92 : decode cX7_does 92 = .ok (.aload_n 0, 1) := by decide +kernel
theorem dX7_does_93 : decode cX7_does 93 = .ok (.getfield 41, 3) := by decide +kernel
theorem dX7_does_96 : decode cX7_does 96 = .ok (.iload_n 1, 1) := by decide +kernel
theorem dX7_does_97 : decode cX7_does 97 = .ok (.iconst 4, 1) := by decide +kernel
theorem dX7_does_98 : decode cX7_does 98 = .ok (.iadd, 1) := by decide +kernel
theorem dX7_does_99 : decode cX7_does 99 = .ok (.iaload, 1) := by decide +kernel
theorem dX7_does_100 : decode cX7_does 100 = .ok (.invokevirtual 119, 3) := by decide +kernel
theorem dX7_does_103 : decode cX7_does 103 = .ok (.ireturn, 1) := by decide +kernel
theorem dX7_does_104 : decode cX7_does 104 = .ok (.aload_n 0, 1) := by decide +kernel
theorem dX7_does_105 : decode cX7_does 105 = .ok (.iload_n 2, 1) := by decide +kernel
theorem dX7_does_106 : decode cX7_does 106 = .ok (.invokevirtual 133, 3) := by decide +kernel
theorem dX7_does_109 : decode cX7_does 109 = .ok (.ireturn, 1) := by decide +kernel
theorem dX7_does_110 : decode cX7_does 110 = .ok (.aload_n 0, 1) := by decide +kernel
theorem dX7_does_111 : decode cX7_does 111 = .ok (.iload_n 2, 1) := by decide +kernel
theorem dX7_does_112 : decode cX7_does 112 = .ok (.invokevirtual 161, 3) := by decide +kernel
theorem dX7_does_115 : decode cX7_does 115 = .ok (.ireturn, 1) := by decide +kernel
theorem dX7_execute_0 : decode cX7_execute 0 = .ok (.aload_n 0, 1) := by decide +kernel
theorem dX7_execute_1 : decode cX7_execute 1 = .ok (.invokevirtual 242, 3) := by decide +kernel
theorem dX7_execute_4 : decode cX7_execute 4 = .ok (.aload_n 0, 1) := by decide +kernel
theorem dX7_execute_5 : decode cX7_execute 5 = .ok (.getfield 204, 3) := by decide +kernel
theorem dX7_execute_8 : decode cX7_execute 8 = .ok (.iconst (-1), 1) := by decide +kernel
theorem dX7_execute_9 : decode cX7_execute 9 = .ok (.if_icmp .eq 18, 3) := by decide +kernel
theorem dX7_execute_12 : decode cX7_execute 12 = .ok (.aload_n 0, 1) := by decide +kernel
theorem dX7_execute_13 : decode cX7_execute 13 = .ok (.aload_n 0, 1) := by decide +kernel
theorem dX7_execute_14 : decode cX7_execute 14 = .ok (.getfield 204, 3) := by decide +kernel
theorem dX7_execute_17 : decode cX7_execute 17 = .ok (.putfield 25, 3) := by decide +kernel
theorem dX7_execute_20 : decode cX7_execute 20 = .ok (.aload_n 0, 1) := by decide +kernel
theorem dX7_execute_21 : decode cX7_execute 21 = .ok (.iconst 1, 1) := by decide +kernel
theorem dX7_execute_22 : decode cX7_execute 22 = .ok (.putfield 44, 3) := by decide +kernel
theorem dX7_execute_25 : decode cX7_execute 25 = .ok (.iconst 0, 1) := by decide +kernel
theorem dX7_execute_26 : decode cX7_execute 26 = .ok (.ireturn, 1) := by decide +kernel
theorem dX7_execute_27 : decode cX7_execute 27 = .ok (.aload_n 0, 1) := by decide +kernel
theorem dX7_execute_28 : decode cX7_execute 28 = .ok (.invokevirtual 87, 3) := by decide +kernel
theorem dX7_execute_31 : decode cX7_execute 31 = .ok (.aload_n 0, 1) := by decide +kernel
theorem dX7_execute_32 : decode cX7_execute 32 = .ok (.iconst 0, 1) := by decide +kernel
theorem dX7_execute_33 : decode cX7_execute 33 = .ok (.putfield 44, 3) := by decide +kernel
theorem dX7_execute_36 : decode cX7_execute 36 = .ok (.iconst 0, 1) := by decide +kernel
theorem dX7_execute_37 : decode cX7_execute 37 = .ok (.istore_n 1, 1) := by decide +kernel
theorem dX7_execute_38 : decode cX7_execute 38 = .ok (.iload_n 1, 1) := by decide +kernel
theorem dX7_execute_39 : decode cX7_execute 39 = .ok (.aload_n 0, 1) := by decide +kernel
theorem dX7_execute_40 : decode cX7_execute 40 = .ok (.getfield 230, 3) := by decide +kernel
theorem dX7_execute_43 : decode cX7_execute 43 = .ok (.if_icmp .ge 49, 3) := by decide +kernel
theorem dX7_execute_46 : decode cX7_execute 46 = .ok (.aload_n 0, 1) := by decide +kernel
theorem dX7_execute_47 : decode cX7_execute 47 = .ok (.iconst 5, 1) := by decide +kernel
theorem dX7_execute_48 : decode cX7_execute 48 = .ok (.iload_n 1, 1) := by decide +kernel
theorem dX7_execute_49 : decode cX7_execute 49 = .ok (.imul, 1) := by decide +kernel
theorem dX7_execute_50 : decode cX7_execute 50 = .ok (.invokevirtual 245, 3) := by decide +kernel
theorem dX7_execute_53 : decode cX7_execute 53 = .ok (.istore_n 2, 1) := by decide +kernel
theorem dX7_execute_54 : decode cX7_execute 54 = .ok (.aload_n 0, 1) := by decide +kernel
theorem dX7_execute_55 : decode cX7_execute 55 = .ok (.getfield 44, 3) := by decide +kernel
theorem dX7_execute_58 : decode cX7_execute 58 = .ok (.ifCond .eq 28, 3) := by decide +kernel
theorem dX7_execute_61 : decode cX7_execute 61 = .ok (.aload_n 0, 1) := by decide +kernel
theorem dX7_execute_62 : decode cX7_execute 62 = .ok (.iload_n 1, 1) := by decide +kernel
theorem dX7_execute_63 : decode cX7_execute 63 = .ok (.putfield 29, 3) := by decide +kernel
theorem dX7_execute_66 : decode cX7_execute 66 = .ok (.aload_n 0, 1) := by decide +kernel
theorem dX7_execute_67 : decode cX7_execute 67 = .ok (.iconst 2, 1) := by decide +kernel
theorem dX7_execute_68 : decode cX7_execute 68 = .ok (.putfield 44, 3) := by decide +kernel
theorem dX7_execute_71 : decode cX7_execute 71 = .ok (.aload_n 0, 1) := by decide +kernel
theorem dX7_execute_72 : decode cX7_execute 72 = .ok (.getfield 13, 3) := by decide +kernel
theorem dX7_execute_75 : decode cX7_execute 75 = .ok (.iconst 0, 1) := by decide +kernel
theorem dX7_execute_76 : decode cX7_execute 76 = .ok (.aload_n 0, 1) := by decide +kernel
theorem dX7_execute_77 : decode cX7_execute 77 = .ok (.getfield 9, 3) := by decide +kernel
theorem dX7_execute_80 : decode cX7_execute 80 = .ok (.iconst 0, 1) := by decide +kernel
theorem dX7_execute_81 : decode cX7_execute 81 = .ok (.invokestatic 51, 3) := by decide +kernel
theorem dX7_execute_84 : decode cX7_execute 84 = .ok (.iconst 0, 1) := by decide +kernel
theorem dX7_execute_85 : decode cX7_execute 85 = .ok (.ireturn, 1) := by decide +kernel
theorem dX7_execute_86 : decode cX7_execute 86 = .ok (.iinc 1 1, 3) := by decide +kernel
theorem dX7_execute_89 : decode cX7_execute 89 = .ok (.goto (-51), 3) := by decide +kernel
theorem dX7_execute_92 : decode cX7_execute 92 = .ok (.aload_n 0, 1) := by decide +kernel
theorem dX7_execute_93 : decode cX7_execute 93 = .ok (.aload_n 0, 1) := by decide +kernel
theorem dX7_execute_94 : decode cX7_execute 94 = .ok (.getfield 230, 3) := by decide +kernel
theorem dX7_execute_97 : decode cX7_execute 97 = .ok (.invokevirtual 93, 3) := by decide +kernel
theorem dX7_execute_100 : decode cX7_execute 100 = .ok (.ireturn, 1) := by decide +kernel
theorem dX7_errorPosition_0 : decode cX7_errorPosition 0 = .ok (.aload_n 0, 1) := by decide +kernel
theorem dX7_errorPosition_1 : decode cX7_errorPosition 1 = .ok (.aload_n 0, 1) := by decide +kernel
theorem dX7_errorPosition_2 : decode cX7_errorPosition 2 = .ok (.getfield 25, 3) := by decide +kernel
theorem dX7_errorPosition_5 : decode cX7_errorPosition 5 = .ok (.iconst (-1), 1) := by decide +kernel
theorem dX7_errorPosition_6 : decode cX7_errorPosition 6 = .ok (.if_icmp .eq 7, 3) := by decide +kernel
theorem dX7_errorPosition_9 : decode cX7_errorPosition 9 = .ok (.iconst 1, 1) := by decide +kernel
theorem dX7_errorPosition_10 : decode cX7_errorPosition 10 = .ok (.goto 4, 3) := by decide +kernel
theorem dX7_errorPosition_13 : decode cX7_errorPosition 13 = .ok (.iconst 0, 1) := by decide +kernel
theorem dX7_errorPosition_14 : decode cX7_errorPosition 14 = .ok (.invokevirtual 61, 3) := by decide +kernel
theorem dX7_errorPosition_17 : decode cX7_errorPosition 17 = .ok (.ifCond .eq 10, 3) := by decide +kernel
theorem dX7_errorPosition_20 : decode cX7_errorPosition 20 = .ok (.aload_n 0, 1) := by decide +kernel
theorem dX7_errorPosition_21 : decode cX7_errorPosition 21 = .ok (.getfield 25, 3) := by decide +kernel
theorem dX7_errorPosition_24 : decode cX7_errorPosition 24 = .ok (.goto 4, 3) := by decide +kernel
theorem dX7_errorPosition_27 : decode cX7_errorPosition 27 = .ok (.iconst 0, 1) := by decide +kernel
theorem dX7_errorPosition_28 : decode cX7_errorPosition 28 = .ok (.ireturn, 1) := by decide +kernel
theorem dX7_failedCommand_0 : decode cX7_failedCommand 0 = .ok (.aload_n 0, 1) := by decide +kernel
theorem dX7_failedCommand_1 : decode cX7_failedCommand 1 = .ok (.aload_n 0, 1) := by decide +kernel
theorem dX7_failedCommand_2 : decode cX7_failedCommand 2 = .ok (.getfield 29, 3) := by decide +kernel
theorem dX7_failedCommand_5 : decode cX7_failedCommand 5 = .ok (.iconst (-1), 1) := by decide +kernel
theorem dX7_failedCommand_6 : decode cX7_failedCommand 6 = .ok (.if_icmp .eq 7, 3) := by decide +kernel
theorem dX7_failedCommand_9 : decode cX7_failedCommand 9 = .ok (.iconst 1, 1) := by decide +kernel
theorem dX7_failedCommand_10 : decode cX7_failedCommand 10 = .ok (.goto 4, 3) := by decide +kernel
theorem dX7_failedCommand_13 : decode cX7_failedCommand 13 = .ok (.iconst 0, 1) := by decide +kernel
theorem dX7_failedCommand_14 : decode cX7_failedCommand 14 = .ok (.invokevirtual 61, 3) := by decide +kernel
theorem dX7_failedCommand_17 : decode cX7_failedCommand 17 = .ok (.ifCond .eq 10, 3) := by decide +kernel
theorem dX7_failedCommand_20 : decode cX7_failedCommand 20 = .ok (.aload_n 0, 1) := by decide +kernel
theorem dX7_failedCommand_21 : decode cX7_failedCommand 21 = .ok (.getfield 29, 3) := by decide +kernel
theorem dX7_failedCommand_24 : decode cX7_failedCommand 24 = .ok (.goto 4, 3) := by decide +kernel
theorem dX7_failedCommand_27 : decode cX7_failedCommand 27 = .ok (.iconst 0, 1) := by decide +kernel
theorem dX7_failedCommand_28 : decode cX7_failedCommand 28 = .ok (.ireturn, 1) := by decide +kernel
