theorem dL_cell_0 : decode cL_cell 0 = .ok (.ldc 7, 2) := by decide +kernel
theorem dL_cell_2 : decode cL_cell 2 = .ok (.iload_n 1, 1) := by decide +kernel
theorem dL_cell_3 : decode cL_cell 3 = .ok (.aload_n 0, 1) := by decide +kernel
theorem dL_cell_4 : decode cL_cell 4 = .ok (.arraylength, 1) := by decide +kernel
theorem dL_cell_5 : decode cL_cell 5 = .ok (.if_icmp .ge 9, 3) := by decide +kernel
theorem dL_cell_8 : decode cL_cell 8 = .ok (.aload_n 0, 1) := by decide +kernel
theorem dL_cell_9 : decode cL_cell 9 = .ok (.iload_n 1, 1) := by decide +kernel
theorem dL_cell_10 : decode cL_cell 10 = .ok (.iaload, 1) := by decide +kernel
theorem dL_cell_11 : decode cL_cell 11 = .ok (.goto 4, 3) := by decide +kernel
theorem dL_cell_14 : decode cL_cell 14 = .ok (.iconst 0, 1) := by decide +kernel
theorem dL_cell_15 : decode cL_cell 15 = .ok (.sipush 1009, 3) := by decide +kernel
theorem dL_cell_18 : decode cL_cell 18 = .ok (.iload_n 1, 1) := by decide +kernel
theorem dL_cell_19 : decode cL_cell 19 = .ok (.imul, 1) := by decide +kernel
theorem dL_cell_20 : decode cL_cell 20 = .ok (.iadd, 1) := by decide +kernel
theorem dL_cell_21 : decode cL_cell 21 = .ok (.imul, 1) := by decide +kernel
theorem dL_cell_22 : decode cL_cell 22 = .ok (.sipush 12345, 3) := by decide +kernel
theorem dL_cell_25 : decode cL_cell 25 = .ok (.iadd, 1) := by decide +kernel
theorem dL_cell_26 : decode cL_cell 26 = .ok (.istore_n 2, 1) := by decide +kernel
theorem dL_cell_27 : decode cL_cell 27 = .ok (.iload_n 2, 1) := by decide +kernel
theorem dL_cell_28 : decode cL_cell 28 = .ok (.iload_n 2, 1) := by decide +kernel
theorem dL_cell_29 : decode cL_cell 29 = .ok (.bipush 13, 2) := by decide +kernel
theorem dL_cell_31 : decode cL_cell 31 = .ok (.iushr, 1) := by decide +kernel
theorem dL_cell_32 : decode cL_cell 32 = .ok (.ixor, 1) := by decide +kernel
theorem dL_cell_33 : decode cL_cell 33 = .ok (.ldc 8, 2) := by decide +kernel
theorem dL_cell_35 : decode cL_cell 35 = .ok (.imul, 1) := by decide +kernel
theorem dL_cell_36 : decode cL_cell 36 = .ok (.istore_n 2, 1) := by decide +kernel
theorem dL_cell_37 : decode cL_cell 37 = .ok (.iload_n 2, 1) := by decide +kernel
theorem dL_cell_38 : decode cL_cell 38 = .ok (.iload_n 2, 1) := by decide +kernel
theorem dL_cell_39 : decode cL_cell 39 = .ok (.bipush 16, 2) := by decide +kernel
theorem dL_cell_41 : decode cL_cell 41 = .ok (.iushr, 1) := by decide +kernel
theorem dL_cell_42 : decode cL_cell 42 = .ok (.ixor, 1) := by decide +kernel
theorem dL_cell_43 : decode cL_cell 43 = .ok (.ireturn, 1) := by decide +kernel
theorem dL_pick_0 : decode cL_pick 0 = .ok (.aload_n 0, 1) := by decide +kernel
theorem dL_pick_1 : decode cL_pick 1 = .ok (.iload_n 1, 1) := by decide +kernel
theorem dL_pick_2 : decode cL_pick 2 = .ok (.invokestatic 9, 3) := by decide +kernel
theorem dL_pick_5 : decode cL_pick 5 = .ok (.bipush 8, 2) := by decide +kernel
theorem dL_pick_7 : decode cL_pick 7 = .ok (.iushr, 1) := by decide +kernel
theorem dL_pick_8 : decode cL_pick 8 = .ok (.iload_n 2, 1) := by decide +kernel
theorem dL_pick_9 : decode cL_pick 9 = .ok (.irem, 1) := by decide +kernel
theorem dL_pick_10 : decode cL_pick 10 = .ok (.ireturn, 1) := by decide +kernel
theorem dL_told_0 : decode cL_told 0 = .ok (.iload_n 0, 1) := by decide +kernel
theorem dL_told_1 : decode cL_told 1 = .ok (.ifCond .eq 7, 3) := by decide +kernel
theorem dL_told_4 : decode cL_told 4 = .ok (.iconst 1, 1) := by decide +kernel
theorem dL_told_5 : decode cL_told 5 = .ok (.goto 4, 3) := by decide +kernel
theorem dL_told_8 : decode cL_told 8 = .ok (.iconst 0, 1) := by decide +kernel
theorem dL_told_9 : decode cL_told 9 = .ok (.ireturn, 1) := by decide +kernel
theorem dL_plain_0 : decode cL_plain 0 = .ok (.iload_n 1, 1) := by decide +kernel
theorem dL_plain_1 : decode cL_plain 1 = .ok (.tableswitch 93 0 6 #[43, 49, 56, 63, 70, 81, 87], 43) := by decide +kernel
theorem dL_plain_44 : decode cL_plain 44 = .ok (.aload_n 0, 1) := by decide +kernel
theorem dL_plain_45 : decode cL_plain 45 = .ok (.iload_n 2, 1) := by decide +kernel
theorem dL_plain_46 : decode cL_plain 46 = .ok (.invokevirtual 15, 3) := by decide +kernel
theorem dL_plain_49 : decode cL_plain 49 = .ok (.ireturn, 1) := by decide +kernel
theorem dL_plain_50 : decode cL_plain 50 = .ok (.aload_n 0, 1) := by decide +kernel
theorem dL_plain_51 : decode cL_plain 51 = .ok (.iload_n 2, 1) := by decide +kernel
theorem dL_plain_52 : decode cL_plain 52 = .ok (.iload_n 3, 1) := by decide +kernel
theorem dL_plain_53 : decode cL_plain 53 = .ok (.invokevirtual 21, 3) := by decide +kernel
theorem dL_plain_56 : decode cL_plain 56 = .ok (.ireturn, 1) := by decide +kernel
theorem dL_plain_57 : decode cL_plain 57 = .ok (.aload_n 0, 1) := by decide +kernel
theorem dL_plain_58 : decode cL_plain 58 = .ok (.iload_n 2, 1) := by decide +kernel
theorem dL_plain_59 : decode cL_plain 59 = .ok (.iload_n 3, 1) := by decide +kernel
theorem dL_plain_60 : decode cL_plain 60 = .ok (.invokevirtual 25, 3) := by decide +kernel
theorem dL_plain_63 : decode cL_plain 63 = .ok (.ireturn, 1) := by decide +kernel
theorem dL_plain_64 : decode cL_plain 64 = .ok (.aload_n 0, 1) := by decide +kernel
theorem dL_plain_65 : decode cL_plain 65 = .ok (.iload_n 2, 1) := by decide +kernel
theorem dL_plain_66 : decode cL_plain 66 = .ok (.iload_n 3, 1) := by decide +kernel
theorem dL_plain_67 : decode cL_plain 67 = .ok (.invokevirtual 28, 3) := by decide +kernel
theorem dL_plain_70 : decode cL_plain 70 = .ok (.ireturn, 1) := by decide +kernel
theorem dL_plain_71 : decode cL_plain 71 = .ok (.aload_n 0, 1) := by decide +kernel
theorem dL_plain_72 : decode cL_plain 72 = .ok (.iload_n 2, 1) := by decide +kernel
theorem dL_plain_73 : decode cL_plain 73 = .ok (.iload_n 3, 1) := by decide +kernel
theorem dL_plain_74 : decode cL_plain 74 = .ok (.iload 4, 2) := by decide +kernel
theorem dL_plain_76 : decode cL_plain 76 = .ok (.iload 5, 2) := by decide +kernel
theorem dL_plain_78 : decode cL_plain 78 = .ok (.invokevirtual 31, 3) := by decide +kernel
theorem dL_plain_81 : decode cL_plain 81 = .ok (.ireturn, 1) := by decide +kernel
theorem dL_plain_82 : decode cL_plain 82 = .ok (.aload_n 0, 1) := by decide +kernel
theorem dL_plain_83 : decode cL_plain 83 = .ok (.iload_n 2, 1) := by decide +kernel
theorem dL_plain_84 : decode cL_plain 84 = .ok (.invokevirtual 35, 3) := by decide +kernel
theorem dL_plain_87 : decode cL_plain 87 = .ok (.ireturn, 1) := by decide +kernel
theorem dL_plain_88 : decode cL_plain 88 = .ok (.aload_n 0, 1) := by decide +kernel
theorem dL_plain_89 : decode cL_plain 89 = .ok (.iload_n 2, 1) := by decide +kernel
theorem dL_plain_90 : decode cL_plain 90 = .ok (.invokevirtual 38, 3) := by decide +kernel
theorem dL_plain_93 : decode cL_plain 93 = .ok (.ireturn, 1) := by decide +kernel
theorem dL_plain_94 : decode cL_plain 94 = .ok (.aload_n 0, 1) := by decide +kernel
theorem dL_plain_95 : decode cL_plain 95 = .ok (.invokevirtual 41, 3) := by decide +kernel
theorem dL_plain_98 : decode cL_plain 98 = .ok (.ireturn, 1) := by decide +kernel
theorem dL_deed_0 : decode cL_deed 0 = .ok (.aload_n 0, 1) := by decide +kernel
theorem dL_deed_1 : decode cL_deed 1 = .ok (.iload_n 1, 1) := by decide +kernel
theorem dL_deed_2 : decode cL_deed 2 = .ok (.iload_n 2, 1) := by decide +kernel
theorem dL_deed_3 : decode cL_deed 3 = .ok (.iload_n 3, 1) := by decide +kernel
theorem dL_deed_4 : decode cL_deed 4 = .ok (.iload 4, 2) := by decide +kernel
theorem dL_deed_6 : decode cL_deed 6 = .ok (.iload 5, 2) := by decide +kernel
theorem dL_deed_8 : decode cL_deed 8 = .ok (.invokestatic 45, 3) := by decide +kernel
theorem dL_deed_11 : decode cL_deed 11 = .ok (.ireturn, 1) := by decide +kernel
theorem dL_deed_12 : decode cL_deed 12 = .ok (.astore 6, 2) := by decide +kernel
theorem dL_deed_14 : decode cL_deed 14 = .ok (.sipush (-20002), 3) := by decide +kernel
theorem dL_deed_17 : decode cL_deed 17 = .ok (.ireturn, 1) := by decide +kernel
theorem dL_deed_18 : decode cL_deed 18 = .ok (.astore 6, 2) := by decide +kernel
theorem dL_deed_20 : decode cL_deed 20 = .ok (.sipush (-20003), 3) := by decide +kernel
theorem dL_deed_23 : decode cL_deed 23 = .ok (.ireturn, 1) := by decide +kernel
theorem dL_deed_24 : decode cL_deed 24 = .ok (.astore 6, 2) := by decide +kernel
theorem dL_deed_26 : decode cL_deed 26 = .ok (.sipush (-20001), 3) := by decide +kernel
theorem dL_deed_29 : decode cL_deed 29 = .ok (.ireturn, 1) := by decide +kernel
theorem dL_deed_30 : decode cL_deed 30 = .ok (.astore 6, 2) := by decide +kernel
theorem dL_deed_32 : decode cL_deed 32 = .ok (.sipush (-20005), 3) := by decide +kernel
theorem dL_deed_35 : decode cL_deed 35 = .ok (.ireturn, 1) := by decide +kernel
theorem dL_deed_36 : decode cL_deed 36 = .ok (.astore 6, 2) := by decide +kernel
theorem dL_deed_38 : decode cL_deed 38 = .ok (.sipush (-20004), 3) := by decide +kernel
theorem dL_deed_41 : decode cL_deed 41 = .ok (.ireturn, 1) := by decide +kernel
theorem dL_asked_0 : decode cL_asked 0 = .ok (.iload_n 1, 1) := by decide +kernel
theorem dL_asked_1 : decode cL_asked 1 = .ok (.tableswitch 131 0 10 #[59, 65, 71, 78, 84, 90, 99, 105, 115, 121, 126], 59) := by decide +kernel
theorem dL_asked_60 : decode cL_asked 60 = .ok (.aload_n 0, 1) := by decide +kernel
theorem dL_asked_61 : decode cL_asked 61 = .ok (.iload_n 2, 1) := by decide +kernel
theorem dL_asked_62 : decode cL_asked 62 = .ok (.invokevirtual 59, 3) := by decide +kernel
theorem dL_asked_65 : decode cL_asked 65 = .ok (.ireturn, 1) := by decide +kernel
theorem dL_asked_66 : decode cL_asked 66 = .ok (.aload_n 0, 1) := by decide +kernel
theorem dL_asked_67 : decode cL_asked 67 = .ok (.iload_n 2, 1) := by decide +kernel
theorem dL_asked_68 : decode cL_asked 68 = .ok (.invokevirtual 62, 3) := by decide +kernel
theorem dL_asked_71 : decode cL_asked 71 = .ok (.ireturn, 1) := by decide +kernel
theorem dL_asked_72 : decode cL_asked 72 = .ok (.aload_n 0, 1) := by decide +kernel
theorem dL_asked_73 : decode cL_asked 73 = .ok (.iload_n 2, 1) := by decide +kernel
theorem dL_asked_74 : decode cL_asked 74 = .ok (.iload_n 3, 1) := by decide +kernel
theorem dL_asked_75 : decode cL_asked 75 = .ok (.invokevirtual 65, 3) := by decide +kernel
theorem dL_asked_78 : decode cL_asked 78 = .ok (.ireturn, 1) := by decide +kernel
theorem dL_asked_79 : decode cL_asked 79 = .ok (.aload_n 0, 1) := by decide +kernel
theorem dL_asked_80 : decode cL_asked 80 = .ok (.iload_n 2, 1) := by decide +kernel
theorem dL_asked_81 : decode cL_asked 81 = .ok (.invokevirtual 68, 3) := by decide +kernel
theorem dL_asked_84 : decode cL_asked 84 = .ok (.ireturn, 1) := by decide +kernel
theorem dL_asked_85 : decode cL_asked 85 = .ok (.aload_n 0, 1) := by decide +kernel
theorem dL_asked_86 : decode cL_asked 86 = .ok (.iload_n 2, 1) := by decide +kernel
theorem dL_asked_87 : decode cL_asked 87 = .ok (.invokevirtual 71, 3) := by decide +kernel
theorem dL_asked_90 : decode cL_asked 90 = .ok (.ireturn, 1) := by decide +kernel
theorem dL_asked_91 : decode cL_asked 91 = .ok (.aload_n 0, 1) := by decide +kernel
theorem dL_asked_92 : decode cL_asked 92 = .ok (.iload_n 2, 1) := by decide +kernel
theorem dL_asked_93 : decode cL_asked 93 = .ok (.invokevirtual 74, 3) := by decide +kernel
theorem dL_asked_96 : decode cL_asked 96 = .ok (.invokestatic 78, 3) := by decide +kernel
theorem dL_asked_99 : decode cL_asked 99 = .ok (.ireturn, 1) := by decide +kernel
theorem dL_asked_100 : decode cL_asked 100 = .ok (.aload_n 0, 1) := by decide +kernel
theorem dL_asked_101 : decode cL_asked 101 = .ok (.iload_n 2, 1) := by decide +kernel
theorem dL_asked_102 : decode cL_asked 102 = .ok (.invokevirtual 82, 3) := by decide +kernel
theorem dL_asked_105 : decode cL_asked 105 = .ok (.ireturn, 1) := by decide +kernel
theorem dL_asked_106 : decode cL_asked 106 = .ok (.aload_n 0, 1) := by decide +kernel
theorem dL_asked_107 : decode cL_asked 107 = .ok (.iload_n 2, 1) := by decide +kernel
theorem dL_asked_108 : decode cL_asked 108 = .ok (.iload_n 3, 1) := by decide +kernel
theorem dL_asked_109 : decode cL_asked 109 = .ok (.invokevirtual 85, 3) := by decide +kernel
theorem dL_asked_112 : decode cL_asked 112 = .ok (.invokestatic 78, 3) := by decide +kernel
theorem dL_asked_115 : decode cL_asked 115 = .ok (.ireturn, 1) := by decide +kernel
theorem dL_asked_116 : decode cL_asked 116 = .ok (.aload_n 0, 1) := by decide +kernel
theorem dL_asked_117 : decode cL_asked 117 = .ok (.iload_n 2, 1) := by decide +kernel
theorem dL_asked_118 : decode cL_asked 118 = .ok (.invokevirtual 89, 3) := by decide +kernel
theorem dL_asked_121 : decode cL_asked 121 = .ok (.ireturn, 1) := by decide +kernel
theorem dL_asked_122 : decode cL_asked 122 = .ok (.aload_n 0, 1) := by decide +kernel
theorem dL_asked_123 : decode cL_asked 123 = .ok (.invokevirtual 92, 3) := by decide +kernel
theorem dL_asked_126 : decode cL_asked 126 = .ok (.ireturn, 1) := by decide +kernel
theorem dL_asked_127 : decode cL_asked 127 = .ok (.aload_n 0, 1) := by decide +kernel
theorem dL_asked_128 : decode cL_asked 128 = .ok (.invokevirtual 95, 3) := by decide +kernel
theorem dL_asked_131 : decode cL_asked 131 = .ok (.ireturn, 1) := by decide +kernel
theorem dL_asked_132 : decode cL_asked 132 = .ok (.aload_n 0, 1) := by decide +kernel
theorem dL_asked_133 : decode cL_asked 133 = .ok (.iload_n 2, 1) := by decide +kernel
theorem dL_asked_134 : decode cL_asked 134 = .ok (.invokevirtual 98, 3) := by decide +kernel
theorem dL_asked_137 : decode cL_asked 137 = .ok (.ireturn, 1) := by decide +kernel
theorem dL_ask_0 : decode cL_ask 0 = .ok (.aload_n 0, 1) := by decide +kernel
theorem dL_ask_1 : decode cL_ask 1 = .ok (.iload_n 1, 1) := by decide +kernel
theorem dL_ask_2 : decode cL_ask 2 = .ok (.iload_n 2, 1) := by decide +kernel
theorem dL_ask_3 : decode cL_ask 3 = .ok (.iload_n 3, 1) := by decide +kernel
theorem dL_ask_4 : decode cL_ask 4 = .ok (.invokestatic 101, 3) := by decide +kernel
theorem dL_ask_7 : decode cL_ask 7 = .ok (.ireturn, 1) := by decide +kernel
theorem dL_ask_8 : decode cL_ask 8 = .ok (.astore 4, 2) := by decide +kernel
theorem dL_ask_10 : decode cL_ask 10 = .ok (.sipush (-20002), 3) := by decide +kernel
theorem dL_ask_13 : decode cL_ask 13 = .ok (.ireturn, 1) := by decide +kernel
theorem dL_ask_14 : decode cL_ask 14 = .ok (.astore 4, 2) := by decide +kernel
theorem dL_ask_16 : decode cL_ask 16 = .ok (.sipush (-20003), 3) := by decide +kernel
theorem dL_ask_19 : decode cL_ask 19 = .ok (.ireturn, 1) := by decide +kernel
theorem dL_ask_20 : decode cL_ask 20 = .ok (.astore 4, 2) := by decide +kernel
theorem dL_ask_22 : decode cL_ask 22 = .ok (.sipush (-20004), 3) := by decide +kernel
theorem dL_ask_25 : decode cL_ask 25 = .ok (.ireturn, 1) := by decide +kernel
theorem dL_lay_0 : decode cL_lay 0 = .ok (.iconst 0, 1) := by decide +kernel
theorem dL_lay_1 : decode cL_lay 1 = .ok (.istore_n 2, 1) := by decide +kernel
theorem dL_lay_2 : decode cL_lay 2 = .ok (.aload_n 1, 1) := by decide +kernel
theorem dL_lay_3 : decode cL_lay 3 = .ok (.iconst 0, 1) := by decide +kernel
theorem dL_lay_4 : decode cL_lay 4 = .ok (.bipush 9, 2) := by decide +kernel
theorem dL_lay_6 : decode cL_lay 6 = .ok (.invokestatic 105, 3) := by decide +kernel
theorem dL_lay_9 : decode cL_lay 9 = .ok (.istore_n 3, 1) := by decide +kernel
theorem dL_lay_10 : decode cL_lay 10 = .ok (.iconst 0, 1) := by decide +kernel
theorem dL_lay_11 : decode cL_lay 11 = .ok (.istore 4, 2) := by decide +kernel
theorem dL_lay_13 : decode cL_lay 13 = .ok (.iload 4, 2) := by decide +kernel
theorem dL_lay_15 : decode cL_lay 15 = .ok (.iload_n 3, 1) := by decide +kernel
theorem dL_lay_16 : decode cL_lay 16 = .ok (.if_icmp .ge 132, 3) := by decide +kernel
theorem dL_lay_19 : decode cL_lay 19 = .ok (.iload_n 2, 1) := by decide +kernel
theorem dL_lay_20 : decode cL_lay 20 = .ok (.aload_n 0, 1) := by decide +kernel
theorem dL_lay_21 : decode cL_lay 21 = .ok (.iconst 0, 1) := by decide +kernel
theorem dL_lay_22 : decode cL_lay 22 = .ok (.aload_n 1, 1) := by decide +kernel
theorem dL_lay_23 : decode cL_lay 23 = .ok (.bipush 11, 2) := by decide +kernel
theorem dL_lay_25 : decode cL_lay 25 = .ok (.iload 4, 2) := by decide +kernel
theorem dL_lay_27 : decode cL_lay 27 = .ok (.iadd, 1) := by decide +kernel
theorem dL_lay_28 : decode cL_lay 28 = .ok (.iconst 4, 1) := by decide +kernel
theorem dL_lay_29 : decode cL_lay 29 = .ok (.invokestatic 105, 3) := by decide +kernel
theorem dL_lay_32 : decode cL_lay 32 = .ok (.iconst 0, 1) := by decide +kernel
theorem dL_lay_33 : decode cL_lay 33 = .ok (.iconst 0, 1) := by decide +kernel
theorem dL_lay_34 : decode cL_lay 34 = .ok (.iconst 0, 1) := by decide +kernel
theorem dL_lay_35 : decode cL_lay 35 = .ok (.invokestatic 109, 3) := by decide +kernel
theorem dL_lay_38 : decode cL_lay 38 = .ok (.iadd, 1) := by decide +kernel
theorem dL_lay_39 : decode cL_lay 39 = .ok (.istore_n 2, 1) := by decide +kernel
theorem dL_lay_40 : decode cL_lay 40 = .ok (.iload_n 2, 1) := by decide +kernel
theorem dL_lay_41 : decode cL_lay 41 = .ok (.aload_n 0, 1) := by decide +kernel
theorem dL_lay_42 : decode cL_lay 42 = .ok (.iconst 1, 1) := by decide +kernel
theorem dL_lay_43 : decode cL_lay 43 = .ok (.iload 4, 2) := by decide +kernel
theorem dL_lay_45 : decode cL_lay 45 = .ok (.iconst 1, 1) := by decide +kernel
theorem dL_lay_46 : decode cL_lay 46 = .ok (.aload_n 1, 1) := by decide +kernel
theorem dL_lay_47 : decode cL_lay 47 = .ok (.bipush 21, 2) := by decide +kernel
theorem dL_lay_49 : decode cL_lay 49 = .ok (.iload 4, 2) := by decide +kernel
theorem dL_lay_51 : decode cL_lay 51 = .ok (.iadd, 1) := by decide +kernel
theorem dL_lay_52 : decode cL_lay 52 = .ok (.sipush 999, 3) := by decide +kernel
theorem dL_lay_55 : decode cL_lay 55 = .ok (.invokestatic 105, 3) := by decide +kernel
theorem dL_lay_58 : decode cL_lay 58 = .ok (.iadd, 1) := by decide +kernel
theorem dL_lay_59 : decode cL_lay 59 = .ok (.iconst 0, 1) := by decide +kernel
theorem dL_lay_60 : decode cL_lay 60 = .ok (.iconst 0, 1) := by decide +kernel
theorem dL_lay_61 : decode cL_lay 61 = .ok (.invokestatic 109, 3) := by decide +kernel
theorem dL_lay_64 : decode cL_lay 64 = .ok (.aload_n 1, 1) := by decide +kernel
theorem dL_lay_65 : decode cL_lay 65 = .ok (.bipush 31, 2) := by decide +kernel
theorem dL_lay_67 : decode cL_lay 67 = .ok (.iload 4, 2) := by decide +kernel
theorem dL_lay_69 : decode cL_lay 69 = .ok (.iadd, 1) := by decide +kernel
theorem dL_lay_70 : decode cL_lay 70 = .ok (.iconst 2, 1) := by decide +kernel
theorem dL_lay_71 : decode cL_lay 71 = .ok (.invokestatic 105, 3) := by decide +kernel
theorem dL_lay_74 : decode cL_lay 74 = .ok (.aload_n 0, 1) := by decide +kernel
theorem dL_lay_75 : decode cL_lay 75 = .ok (.iconst 3, 1) := by decide +kernel
theorem dL_lay_76 : decode cL_lay 76 = .ok (.iload 4, 2) := by decide +kernel
theorem dL_lay_78 : decode cL_lay 78 = .ok (.aload_n 1, 1) := by decide +kernel
theorem dL_lay_79 : decode cL_lay 79 = .ok (.bipush 41, 2) := by decide +kernel
theorem dL_lay_81 : decode cL_lay 81 = .ok (.iload 4, 2) := by decide +kernel
theorem dL_lay_83 : decode cL_lay 83 = .ok (.iadd, 1) := by decide +kernel
theorem dL_lay_84 : decode cL_lay 84 = .ok (.sipush 501, 3) := by decide +kernel
theorem dL_lay_87 : decode cL_lay 87 = .ok (.invokestatic 105, 3) := by decide +kernel
theorem dL_lay_90 : decode cL_lay 90 = .ok (.iconst 0, 1) := by decide +kernel
theorem dL_lay_91 : decode cL_lay 91 = .ok (.iconst 0, 1) := by decide +kernel
theorem dL_lay_92 : decode cL_lay 92 = .ok (.invokestatic 109, 3) := by decide +kernel
theorem dL_lay_95 : decode cL_lay 95 = .ok (.imul, 1) := by decide +kernel
theorem dL_lay_96 : decode cL_lay 96 = .ok (.iadd, 1) := by decide +kernel
theorem dL_lay_97 : decode cL_lay 97 = .ok (.iadd, 1) := by decide +kernel
theorem dL_lay_98 : decode cL_lay 98 = .ok (.istore_n 2, 1) := by decide +kernel
theorem dL_lay_99 : decode cL_lay 99 = .ok (.iload_n 2, 1) := by decide +kernel
theorem dL_lay_100 : decode cL_lay 100 = .ok (.aload_n 1, 1) := by decide +kernel
theorem dL_lay_101 : decode cL_lay 101 = .ok (.bipush 51, 2) := by decide +kernel
theorem dL_lay_103 : decode cL_lay 103 = .ok (.iload 4, 2) := by decide +kernel
theorem dL_lay_105 : decode cL_lay 105 = .ok (.iadd, 1) := by decide +kernel
theorem dL_lay_106 : decode cL_lay 106 = .ok (.iconst 3, 1) := by decide +kernel
theorem dL_lay_107 : decode cL_lay 107 = .ok (.invokestatic 105, 3) := by decide +kernel
theorem dL_lay_110 : decode cL_lay 110 = .ok (.ifCond .ne 29, 3) := by decide +kernel
theorem dL_lay_113 : decode cL_lay 113 = .ok (.aload_n 0, 1) := by decide +kernel
theorem dL_lay_114 : decode cL_lay 114 = .ok (.iconst 2, 1) := by decide +kernel
theorem dL_lay_115 : decode cL_lay 115 = .ok (.iload 4, 2) := by decide +kernel
theorem dL_lay_117 : decode cL_lay 117 = .ok (.iconst 1, 1) := by decide +kernel
theorem dL_lay_118 : decode cL_lay 118 = .ok (.aload_n 1, 1) := by decide +kernel
theorem dL_lay_119 : decode cL_lay 119 = .ok (.bipush 61, 2) := by decide +kernel
theorem dL_lay_121 : decode cL_lay 121 = .ok (.iload 4, 2) := by decide +kernel
theorem dL_lay_123 : decode cL_lay 123 = .ok (.iadd, 1) := by decide +kernel
theorem dL_lay_124 : decode cL_lay 124 = .ok (.sipush 999, 3) := by decide +kernel
theorem dL_lay_127 : decode cL_lay 127 = .ok (.invokestatic 105, 3) := by decide +kernel
theorem dL_lay_130 : decode cL_lay 130 = .ok (.iadd, 1) := by decide +kernel
theorem dL_lay_131 : decode cL_lay 131 = .ok (.iconst 0, 1) := by decide +kernel
theorem dL_lay_132 : decode cL_lay 132 = .ok (.iconst 0, 1) := by decide +kernel
theorem dL_lay_133 : decode cL_lay 133 = .ok (.invokestatic 109, 3) := by decide +kernel
theorem dL_lay_136 : decode cL_lay 136 = .ok (.goto 4, 3) := by decide +kernel
theorem dL_lay_139 : decode cL_lay 139 = .ok (.iconst 0, 1) := by decide +kernel
theorem dL_lay_140 : decode cL_lay 140 = .ok (.iadd, 1) := by decide +kernel
theorem dL_lay_141 : decode cL_lay 141 = .ok (.istore_n 2, 1) := by decide +kernel
theorem dL_lay_142 : decode cL_lay 142 = .ok (.iinc 4 1, 3) := by decide +kernel
theorem dL_lay_145 : decode cL_lay 145 = .ok (.goto (-132), 3) := by decide +kernel
theorem dL_lay_148 : decode cL_lay 148 = .ok (.iconst 0, 1) := by decide +kernel
theorem dL_lay_149 : decode cL_lay 149 = .ok (.istore 4, 2) := by decide +kernel
theorem dL_lay_151 : decode cL_lay 151 = .ok (.iload 4, 2) := by decide +kernel
theorem dL_lay_153 : decode cL_lay 153 = .ok (.aload_n 1, 1) := by decide +kernel
theorem dL_lay_154 : decode cL_lay 154 = .ok (.iconst 1, 1) := by decide +kernel
theorem dL_lay_155 : decode cL_lay 155 = .ok (.bipush 12, 2) := by decide +kernel
theorem dL_lay_157 : decode cL_lay 157 = .ok (.invokestatic 105, 3) := by decide +kernel
theorem dL_lay_160 : decode cL_lay 160 = .ok (.if_icmp .ge 66, 3) := by decide +kernel
theorem dL_lay_163 : decode cL_lay 163 = .ok (.iload_n 3, 1) := by decide +kernel
theorem dL_lay_164 : decode cL_lay 164 = .ok (.ifCond .le 62, 3) := by decide +kernel
theorem dL_lay_167 : decode cL_lay 167 = .ok (.iload_n 2, 1) := by decide +kernel
theorem dL_lay_168 : decode cL_lay 168 = .ok (.aload_n 0, 1) := by decide +kernel
theorem dL_lay_169 : decode cL_lay 169 = .ok (.iconst 4, 1) := by decide +kernel
theorem dL_lay_170 : decode cL_lay 170 = .ok (.aload_n 1, 1) := by decide +kernel
theorem dL_lay_171 : decode cL_lay 171 = .ok (.bipush 71, 2) := by decide +kernel
theorem dL_lay_173 : decode cL_lay 173 = .ok (.iload 4, 2) := by decide +kernel
theorem dL_lay_175 : decode cL_lay 175 = .ok (.iadd, 1) := by decide +kernel
theorem dL_lay_176 : decode cL_lay 176 = .ok (.iload_n 3, 1) := by decide +kernel
theorem dL_lay_177 : decode cL_lay 177 = .ok (.invokestatic 105, 3) := by decide +kernel
theorem dL_lay_180 : decode cL_lay 180 = .ok (.aload_n 1, 1) := by decide +kernel
theorem dL_lay_181 : decode cL_lay 181 = .ok (.bipush 91, 2) := by decide +kernel
theorem dL_lay_183 : decode cL_lay 183 = .ok (.iload 4, 2) := by decide +kernel
theorem dL_lay_185 : decode cL_lay 185 = .ok (.iadd, 1) := by decide +kernel
theorem dL_lay_186 : decode cL_lay 186 = .ok (.iload_n 3, 1) := by decide +kernel
theorem dL_lay_187 : decode cL_lay 187 = .ok (.invokestatic 105, 3) := by decide +kernel
theorem dL_lay_190 : decode cL_lay 190 = .ok (.iconst 1, 1) := by decide +kernel
theorem dL_lay_191 : decode cL_lay 191 = .ok (.aload_n 1, 1) := by decide +kernel
theorem dL_lay_192 : decode cL_lay 192 = .ok (.bipush 111, 2) := by decide +kernel
theorem dL_lay_194 : decode cL_lay 194 = .ok (.iload 4, 2) := by decide +kernel
theorem dL_lay_196 : decode cL_lay 196 = .ok (.iadd, 1) := by decide +kernel
theorem dL_lay_197 : decode cL_lay 197 = .ok (.sipush 700, 3) := by decide +kernel
theorem dL_lay_200 : decode cL_lay 200 = .ok (.invokestatic 105, 3) := by decide +kernel
theorem dL_lay_203 : decode cL_lay 203 = .ok (.iadd, 1) := by decide +kernel
theorem dL_lay_204 : decode cL_lay 204 = .ok (.aload_n 1, 1) := by decide +kernel
theorem dL_lay_205 : decode cL_lay 205 = .ok (.sipush 131, 3) := by decide +kernel
theorem dL_lay_208 : decode cL_lay 208 = .ok (.iload 4, 2) := by decide +kernel
theorem dL_lay_210 : decode cL_lay 210 = .ok (.iadd, 1) := by decide +kernel
theorem dL_lay_211 : decode cL_lay 211 = .ok (.iconst 5, 1) := by decide +kernel
theorem dL_lay_212 : decode cL_lay 212 = .ok (.invokestatic 105, 3) := by decide +kernel
theorem dL_lay_215 : decode cL_lay 215 = .ok (.invokestatic 109, 3) := by decide +kernel
theorem dL_lay_218 : decode cL_lay 218 = .ok (.iadd, 1) := by decide +kernel
theorem dL_lay_219 : decode cL_lay 219 = .ok (.istore_n 2, 1) := by decide +kernel
theorem dL_lay_220 : decode cL_lay 220 = .ok (.iinc 4 1, 3) := by decide +kernel
theorem dL_lay_223 : decode cL_lay 223 = .ok (.goto (-72), 3) := by decide +kernel
theorem dL_lay_226 : decode cL_lay 226 = .ok (.iload_n 2, 1) := by decide +kernel
theorem dL_lay_227 : decode cL_lay 227 = .ok (.aload_n 1, 1) := by decide +kernel
theorem dL_lay_228 : decode cL_lay 228 = .ok (.iconst 2, 1) := by decide +kernel
theorem dL_lay_229 : decode cL_lay 229 = .ok (.iconst 2, 1) := by decide +kernel
theorem dL_lay_230 : decode cL_lay 230 = .ok (.invokestatic 105, 3) := by decide +kernel
theorem dL_lay_233 : decode cL_lay 233 = .ok (.ifCond .ne 23, 3) := by decide +kernel
theorem dL_lay_236 : decode cL_lay 236 = .ok (.aload_n 0, 1) := by decide +kernel
theorem dL_lay_237 : decode cL_lay 237 = .ok (.bipush 6, 2) := by decide +kernel
theorem dL_lay_239 : decode cL_lay 239 = .ok (.iconst 1, 1) := by decide +kernel
theorem dL_lay_240 : decode cL_lay 240 = .ok (.aload_n 1, 1) := by decide +kernel
theorem dL_lay_241 : decode cL_lay 241 = .ok (.iconst 3, 1) := by decide +kernel
theorem dL_lay_242 : decode cL_lay 242 = .ok (.iconst 4, 1) := by decide +kernel
theorem dL_lay_243 : decode cL_lay 243 = .ok (.invokestatic 105, 3) := by decide +kernel
theorem dL_lay_246 : decode cL_lay 246 = .ok (.iadd, 1) := by decide +kernel
theorem dL_lay_247 : decode cL_lay 247 = .ok (.iconst 0, 1) := by decide +kernel
theorem dL_lay_248 : decode cL_lay 248 = .ok (.iconst 0, 1) := by decide +kernel
theorem dL_lay_249 : decode cL_lay 249 = .ok (.iconst 0, 1) := by decide +kernel
theorem dL_lay_250 : decode cL_lay 250 = .ok (.invokestatic 109, 3) := by decide +kernel
theorem dL_lay_253 : decode cL_lay 253 = .ok (.goto 4, 3) := by decide +kernel
theorem dL_lay_256 : decode cL_lay 256 = .ok (.iconst 0, 1) := by decide +kernel
theorem dL_lay_257 : decode cL_lay 257 = .ok (.iadd, 1) := by decide +kernel
theorem dL_lay_258 : decode cL_lay 258 = .ok (.istore_n 2, 1) := by decide +kernel
theorem dL_lay_259 : decode cL_lay 259 = .ok (.return_, 1) := by decide +kernel
theorem dL_id_0 : decode cL_id 0 = .ok (.aload_n 0, 1) := by decide +kernel
theorem dL_id_1 : decode cL_id 1 = .ok (.invokevirtual 112, 3) := by decide +kernel
theorem dL_id_4 : decode cL_id 4 = .ok (.ifCond .ne 7, 3) := by decide +kernel
theorem dL_id_7 : decode cL_id 7 = .ok (.iconst 0, 1) := by decide +kernel
theorem dL_id_8 : decode cL_id 8 = .ok (.goto 13, 3) := by decide +kernel
theorem dL_id_11 : decode cL_id 11 = .ok (.aload_n 0, 1) := by decide +kernel
theorem dL_id_12 : decode cL_id 12 = .ok (.iload_n 1, 1) := by decide +kernel
theorem dL_id_13 : decode cL_id 13 = .ok (.aload_n 0, 1) := by decide +kernel
theorem dL_id_14 : decode cL_id 14 = .ok (.invokevirtual 112, 3) := by decide +kernel
theorem dL_id_17 : decode cL_id 17 = .ok (.irem, 1) := by decide +kernel
theorem dL_id_18 : decode cL_id 18 = .ok (.invokevirtual 68, 3) := by decide +kernel
theorem dL_id_21 : decode cL_id 21 = .ok (.ireturn, 1) := by decide +kernel
theorem dL_any_0 : decode cL_any 0 = .ok (.iconst 1, 1) := by decide +kernel
theorem dL_any_1 : decode cL_any 1 = .ok (.aload_n 0, 1) := by decide +kernel
theorem dL_any_2 : decode cL_any 2 = .ok (.invokevirtual 115, 3) := by decide +kernel
theorem dL_any_5 : decode cL_any 5 = .ok (.invokestatic 118, 3) := by decide +kernel
theorem dL_any_8 : decode cL_any 8 = .ok (.istore_n 3, 1) := by decide +kernel
theorem dL_any_9 : decode cL_any 9 = .ok (.aload_n 1, 1) := by decide +kernel
theorem dL_any_10 : decode cL_any 10 = .ok (.iload_n 2, 1) := by decide +kernel
theorem dL_any_11 : decode cL_any 11 = .ok (.iconst 1, 1) := by decide +kernel
theorem dL_any_12 : decode cL_any 12 = .ok (.iadd, 1) := by decide +kernel
theorem dL_any_13 : decode cL_any 13 = .ok (.iload_n 3, 1) := by decide +kernel
theorem dL_any_14 : decode cL_any 14 = .ok (.invokestatic 105, 3) := by decide +kernel
theorem dL_any_17 : decode cL_any 17 = .ok (.istore 4, 2) := by decide +kernel
theorem dL_any_19 : decode cL_any 19 = .ok (.aload_n 1, 1) := by decide +kernel
theorem dL_any_20 : decode cL_any 20 = .ok (.iload_n 2, 1) := by decide +kernel
theorem dL_any_21 : decode cL_any 21 = .ok (.bipush 20, 2) := by decide +kernel
theorem dL_any_23 : decode cL_any 23 = .ok (.invokestatic 105, 3) := by decide +kernel
theorem dL_any_26 : decode cL_any 26 = .ok (.tableswitch 246 0 14 #[74, 91, 91, 91, 113, 113, 113, 151, 151, 171, 171, 171, 171, 171, 224], 74) := by decide +kernel
theorem dL_any_100 : decode cL_any 100 = .ok (.aload_n 0, 1) := by decide +kernel
theorem dL_any_101 : decode cL_any 101 = .ok (.iconst 0, 1) := by decide +kernel
theorem dL_any_102 : decode cL_any 102 = .ok (.aload_n 1, 1) := by decide +kernel
theorem dL_any_103 : decode cL_any 103 = .ok (.iload_n 2, 1) := by decide +kernel
theorem dL_any_104 : decode cL_any 104 = .ok (.iconst 2, 1) := by decide +kernel
theorem dL_any_105 : decode cL_any 105 = .ok (.iadd, 1) := by decide +kernel
theorem dL_any_106 : decode cL_any 106 = .ok (.iconst 4, 1) := by decide +kernel
theorem dL_any_107 : decode cL_any 107 = .ok (.invokestatic 105, 3) := by decide +kernel
theorem dL_any_110 : decode cL_any 110 = .ok (.iconst 0, 1) := by decide +kernel
theorem dL_any_111 : decode cL_any 111 = .ok (.iconst 0, 1) := by decide +kernel
theorem dL_any_112 : decode cL_any 112 = .ok (.iconst 0, 1) := by decide +kernel
theorem dL_any_113 : decode cL_any 113 = .ok (.invokestatic 109, 3) := by decide +kernel
theorem dL_any_116 : decode cL_any 116 = .ok (.ireturn, 1) := by decide +kernel
theorem dL_any_117 : decode cL_any 117 = .ok (.aload_n 0, 1) := by decide +kernel
theorem dL_any_118 : decode cL_any 118 = .ok (.iconst 1, 1) := by decide +kernel
theorem dL_any_119 : decode cL_any 119 = .ok (.iload 4, 2) := by decide +kernel
theorem dL_any_121 : decode cL_any 121 = .ok (.iconst 1, 1) := by decide +kernel
theorem dL_any_122 : decode cL_any 122 = .ok (.aload_n 1, 1) := by decide +kernel
theorem dL_any_123 : decode cL_any 123 = .ok (.iload_n 2, 1) := by decide +kernel
theorem dL_any_124 : decode cL_any 124 = .ok (.iconst 2, 1) := by decide +kernel
theorem dL_any_125 : decode cL_any 125 = .ok (.iadd, 1) := by decide +kernel
theorem dL_any_126 : decode cL_any 126 = .ok (.sipush 999, 3) := by decide +kernel
theorem dL_any_129 : decode cL_any 129 = .ok (.invokestatic 105, 3) := by decide +kernel
theorem dL_any_132 : decode cL_any 132 = .ok (.iadd, 1) := by decide +kernel
theorem dL_any_133 : decode cL_any 133 = .ok (.iconst 0, 1) := by decide +kernel
theorem dL_any_134 : decode cL_any 134 = .ok (.iconst 0, 1) := by decide +kernel
theorem dL_any_135 : decode cL_any 135 = .ok (.invokestatic 109, 3) := by decide +kernel
theorem dL_any_138 : decode cL_any 138 = .ok (.ireturn, 1) := by decide +kernel
theorem dL_any_139 : decode cL_any 139 = .ok (.aload_n 0, 1) := by decide +kernel
theorem dL_any_140 : decode cL_any 140 = .ok (.iconst 2, 1) := by decide +kernel
theorem dL_any_141 : decode cL_any 141 = .ok (.iload 4, 2) := by decide +kernel
theorem dL_any_143 : decode cL_any 143 = .ok (.iconst 1, 1) := by decide +kernel
theorem dL_any_144 : decode cL_any 144 = .ok (.aload_n 1, 1) := by decide +kernel
theorem dL_any_145 : decode cL_any 145 = .ok (.iload_n 2, 1) := by decide +kernel
theorem dL_any_146 : decode cL_any 146 = .ok (.iconst 2, 1) := by decide +kernel
theorem dL_any_147 : decode cL_any 147 = .ok (.iadd, 1) := by decide +kernel
theorem dL_any_148 : decode cL_any 148 = .ok (.aload_n 1, 1) := by decide +kernel
theorem dL_any_149 : decode cL_any 149 = .ok (.iload_n 2, 1) := by decide +kernel
theorem dL_any_150 : decode cL_any 150 = .ok (.iconst 3, 1) := by decide +kernel
theorem dL_any_151 : decode cL_any 151 = .ok (.iadd, 1) := by decide +kernel
theorem dL_any_152 : decode cL_any 152 = .ok (.iconst 2, 1) := by decide +kernel
theorem dL_any_153 : decode cL_any 153 = .ok (.invokestatic 105, 3) := by decide +kernel
theorem dL_any_156 : decode cL_any 156 = .ok (.ifCond .ne 8, 3) := by decide +kernel
theorem dL_any_159 : decode cL_any 159 = .ok (.bipush 60, 2) := by decide +kernel
theorem dL_any_161 : decode cL_any 161 = .ok (.goto 6, 3) := by decide +kernel
theorem dL_any_164 : decode cL_any 164 = .ok (.sipush 999, 3) := by decide +kernel
theorem dL_any_167 : decode cL_any 167 = .ok (.invokestatic 105, 3) := by decide +kernel
theorem dL_any_170 : decode cL_any 170 = .ok (.iadd, 1) := by decide +kernel
theorem dL_any_171 : decode cL_any 171 = .ok (.iconst 0, 1) := by decide +kernel
theorem dL_any_172 : decode cL_any 172 = .ok (.iconst 0, 1) := by decide +kernel
theorem dL_any_173 : decode cL_any 173 = .ok (.invokestatic 109, 3) := by decide +kernel
theorem dL_any_176 : decode cL_any 176 = .ok (.ireturn, 1) := by decide +kernel
theorem dL_any_177 : decode cL_any 177 = .ok (.aload_n 0, 1) := by decide +kernel
theorem dL_any_178 : decode cL_any 178 = .ok (.iconst 3, 1) := by decide +kernel
theorem dL_any_179 : decode cL_any 179 = .ok (.iload 4, 2) := by decide +kernel
theorem dL_any_181 : decode cL_any 181 = .ok (.aload_n 1, 1) := by decide +kernel
theorem dL_any_182 : decode cL_any 182 = .ok (.iload_n 2, 1) := by decide +kernel
theorem dL_any_183 : decode cL_any 183 = .ok (.iconst 2, 1) := by decide +kernel
theorem dL_any_184 : decode cL_any 184 = .ok (.iadd, 1) := by decide +kernel
theorem dL_any_185 : decode cL_any 185 = .ok (.sipush 501, 3) := by decide +kernel
theorem dL_any_188 : decode cL_any 188 = .ok (.invokestatic 105, 3) := by decide +kernel
theorem dL_any_191 : decode cL_any 191 = .ok (.iconst 0, 1) := by decide +kernel
theorem dL_any_192 : decode cL_any 192 = .ok (.iconst 0, 1) := by decide +kernel
theorem dL_any_193 : decode cL_any 193 = .ok (.invokestatic 109, 3) := by decide +kernel
theorem dL_any_196 : decode cL_any 196 = .ok (.ireturn, 1) := by decide +kernel
theorem dL_any_197 : decode cL_any 197 = .ok (.aload_n 0, 1) := by decide +kernel
theorem dL_any_198 : decode cL_any 198 = .ok (.iconst 4, 1) := by decide +kernel
theorem dL_any_199 : decode cL_any 199 = .ok (.iload 4, 2) := by decide +kernel
theorem dL_any_201 : decode cL_any 201 = .ok (.aload_n 1, 1) := by decide +kernel
theorem dL_any_202 : decode cL_any 202 = .ok (.iload_n 2, 1) := by decide +kernel
theorem dL_any_203 : decode cL_any 203 = .ok (.iconst 2, 1) := by decide +kernel
theorem dL_any_204 : decode cL_any 204 = .ok (.iadd, 1) := by decide +kernel
theorem dL_any_205 : decode cL_any 205 = .ok (.iload_n 3, 1) := by decide +kernel
theorem dL_any_206 : decode cL_any 206 = .ok (.invokestatic 105, 3) := by decide +kernel
theorem dL_any_209 : decode cL_any 209 = .ok (.iconst 1, 1) := by decide +kernel
theorem dL_any_210 : decode cL_any 210 = .ok (.aload_n 1, 1) := by decide +kernel
theorem dL_any_211 : decode cL_any 211 = .ok (.iload_n 2, 1) := by decide +kernel
theorem dL_any_212 : decode cL_any 212 = .ok (.iconst 3, 1) := by decide +kernel
theorem dL_any_213 : decode cL_any 213 = .ok (.iadd, 1) := by decide +kernel
theorem dL_any_214 : decode cL_any 214 = .ok (.aload_n 1, 1) := by decide +kernel
theorem dL_any_215 : decode cL_any 215 = .ok (.iload_n 2, 1) := by decide +kernel
theorem dL_any_216 : decode cL_any 216 = .ok (.iconst 4, 1) := by decide +kernel
theorem dL_any_217 : decode cL_any 217 = .ok (.iadd, 1) := by decide +kernel
theorem dL_any_218 : decode cL_any 218 = .ok (.iconst 2, 1) := by decide +kernel
theorem dL_any_219 : decode cL_any 219 = .ok (.invokestatic 105, 3) := by decide +kernel
theorem dL_any_222 : decode cL_any 222 = .ok (.ifCond .ne 8, 3) := by decide +kernel
theorem dL_any_225 : decode cL_any 225 = .ok (.bipush 60, 2) := by decide +kernel
theorem dL_any_227 : decode cL_any 227 = .ok (.goto 6, 3) := by decide +kernel
theorem dL_any_230 : decode cL_any 230 = .ok (.sipush 999, 3) := by decide +kernel
theorem dL_any_233 : decode cL_any 233 = .ok (.invokestatic 105, 3) := by decide +kernel
theorem dL_any_236 : decode cL_any 236 = .ok (.iadd, 1) := by decide +kernel
theorem dL_any_237 : decode cL_any 237 = .ok (.aload_n 1, 1) := by decide +kernel
theorem dL_any_238 : decode cL_any 238 = .ok (.iload_n 2, 1) := by decide +kernel
theorem dL_any_239 : decode cL_any 239 = .ok (.iconst 5, 1) := by decide +kernel
theorem dL_any_240 : decode cL_any 240 = .ok (.iadd, 1) := by decide +kernel
theorem dL_any_241 : decode cL_any 241 = .ok (.bipush 6, 2) := by decide +kernel
theorem dL_any_243 : decode cL_any 243 = .ok (.invokestatic 105, 3) := by decide +kernel
theorem dL_any_246 : decode cL_any 246 = .ok (.invokestatic 109, 3) := by decide +kernel
theorem dL_any_249 : decode cL_any 249 = .ok (.ireturn, 1) := by decide +kernel
theorem dL_any_250 : decode cL_any 250 = .ok (.aload_n 0, 1) := by decide +kernel
theorem dL_any_251 : decode cL_any 251 = .ok (.iconst 5, 1) := by decide +kernel
theorem dL_any_252 : decode cL_any 252 = .ok (.aload_n 0, 1) := by decide +kernel
theorem dL_any_253 : decode cL_any 253 = .ok (.aload_n 1, 1) := by decide +kernel
theorem dL_any_254 : decode cL_any 254 = .ok (.iload_n 2, 1) := by decide +kernel
theorem dL_any_255 : decode cL_any 255 = .ok (.iconst 2, 1) := by decide +kernel
theorem dL_any_256 : decode cL_any 256 = .ok (.iadd, 1) := by decide +kernel
theorem dL_any_257 : decode cL_any 257 = .ok (.bipush 10, 2) := by decide +kernel
theorem dL_any_259 : decode cL_any 259 = .ok (.invokestatic 105, 3) := by decide +kernel
theorem dL_any_262 : decode cL_any 262 = .ok (.invokestatic 123, 3) := by decide +kernel
theorem dL_any_265 : decode cL_any 265 = .ok (.iconst 0, 1) := by decide +kernel
theorem dL_any_266 : decode cL_any 266 = .ok (.iconst 0, 1) := by decide +kernel
theorem dL_any_267 : decode cL_any 267 = .ok (.iconst 0, 1) := by decide +kernel
theorem dL_any_268 : decode cL_any 268 = .ok (.invokestatic 109, 3) := by decide +kernel
theorem dL_any_271 : decode cL_any 271 = .ok (.ireturn, 1) := by decide +kernel
theorem dL_any_272 : decode cL_any 272 = .ok (.aload_n 0, 1) := by decide +kernel
theorem dL_any_273 : decode cL_any 273 = .ok (.bipush 6, 2) := by decide +kernel
theorem dL_any_275 : decode cL_any 275 = .ok (.iconst 1, 1) := by decide +kernel
theorem dL_any_276 : decode cL_any 276 = .ok (.aload_n 1, 1) := by decide +kernel
theorem dL_any_277 : decode cL_any 277 = .ok (.iload_n 2, 1) := by decide +kernel
theorem dL_any_278 : decode cL_any 278 = .ok (.iconst 2, 1) := by decide +kernel
theorem dL_any_279 : decode cL_any 279 = .ok (.iadd, 1) := by decide +kernel
theorem dL_any_280 : decode cL_any 280 = .ok (.aload_n 1, 1) := by decide +kernel
theorem dL_any_281 : decode cL_any 281 = .ok (.iload_n 2, 1) := by decide +kernel
theorem dL_any_282 : decode cL_any 282 = .ok (.iconst 3, 1) := by decide +kernel
theorem dL_any_283 : decode cL_any 283 = .ok (.iadd, 1) := by decide +kernel
theorem dL_any_284 : decode cL_any 284 = .ok (.iconst 2, 1) := by decide +kernel
theorem dL_any_285 : decode cL_any 285 = .ok (.invokestatic 105, 3) := by decide +kernel
theorem dL_any_288 : decode cL_any 288 = .ok (.ifCond .ne 7, 3) := by decide +kernel
theorem dL_any_291 : decode cL_any 291 = .ok (.iconst 3, 1) := by decide +kernel
theorem dL_any_292 : decode cL_any 292 = .ok (.goto 5, 3) := by decide +kernel
theorem dL_any_295 : decode cL_any 295 = .ok (.bipush 60, 2) := by decide +kernel
theorem dL_any_297 : decode cL_any 297 = .ok (.invokestatic 105, 3) := by decide +kernel
theorem dL_any_300 : decode cL_any 300 = .ok (.iadd, 1) := by decide +kernel
theorem dL_any_301 : decode cL_any 301 = .ok (.iconst 0, 1) := by decide +kernel
theorem dL_any_302 : decode cL_any 302 = .ok (.iconst 0, 1) := by decide +kernel
theorem dL_any_303 : decode cL_any 303 = .ok (.iconst 0, 1) := by decide +kernel
theorem dL_any_304 : decode cL_any 304 = .ok (.invokestatic 109, 3) := by decide +kernel
theorem dL_any_307 : decode cL_any 307 = .ok (.ireturn, 1) := by decide +kernel
theorem dL_interest_0 : decode cL_interest 0 = .ok (.iload_n 1, 1) := by decide +kernel
theorem dL_interest_1 : decode cL_interest 1 = .ok (.sipush 9999, 3) := by decide +kernel
theorem dL_interest_4 : decode cL_interest 4 = .ok (.invokestatic 174, 3) := by decide +kernel
theorem dL_interest_7 : decode cL_interest 7 = .ok (.bipush 100, 2) := by decide +kernel
theorem dL_interest_9 : decode cL_interest 9 = .ok (.idiv, 1) := by decide +kernel
theorem dL_interest_10 : decode cL_interest 10 = .ok (.istore 4, 2) := by decide +kernel
theorem dL_interest_12 : decode cL_interest 12 = .ok (.iload_n 0, 1) := by decide +kernel
theorem dL_interest_13 : decode cL_interest 13 = .ok (.iconst 1, 1) := by decide +kernel
theorem dL_interest_14 : decode cL_interest 14 = .ok (.if_icmp .ne 13, 3) := by decide +kernel
theorem dL_interest_17 : decode cL_interest 17 = .ok (.bipush 30, 2) := by decide +kernel
theorem dL_interest_19 : decode cL_interest 19 = .ok (.iconst 3, 1) := by decide +kernel
theorem dL_interest_20 : decode cL_interest 20 = .ok (.iload 4, 2) := by decide +kernel
theorem dL_interest_22 : decode cL_interest 22 = .ok (.imul, 1) := by decide +kernel
theorem dL_interest_23 : decode cL_interest 23 = .ok (.invokestatic 174, 3) := by decide +kernel
theorem dL_interest_26 : decode cL_interest 26 = .ok (.ireturn, 1) := by decide +kernel
theorem dL_interest_27 : decode cL_interest 27 = .ok (.iload_n 0, 1) := by decide +kernel
theorem dL_interest_28 : decode cL_interest 28 = .ok (.iconst 3, 1) := by decide +kernel
theorem dL_interest_29 : decode cL_interest 29 = .ok (.if_icmp .ne 16, 3) := by decide +kernel
theorem dL_interest_32 : decode cL_interest 32 = .ok (.iload_n 3, 1) := by decide +kernel
theorem dL_interest_33 : decode cL_interest 33 = .ok (.ifCond .eq 7, 3) := by decide +kernel
theorem dL_interest_36 : decode cL_interest 36 = .ok (.iconst 0, 1) := by decide +kernel
theorem dL_interest_37 : decode cL_interest 37 = .ok (.goto 7, 3) := by decide +kernel
theorem dL_interest_40 : decode cL_interest 40 = .ok (.iconst 5, 1) := by decide +kernel
theorem dL_interest_41 : decode cL_interest 41 = .ok (.iload 4, 2) := by decide +kernel
theorem dL_interest_43 : decode cL_interest 43 = .ok (.imul, 1) := by decide +kernel
theorem dL_interest_44 : decode cL_interest 44 = .ok (.ireturn, 1) := by decide +kernel
theorem dL_interest_45 : decode cL_interest 45 = .ok (.iload_n 1, 1) := by decide +kernel
theorem dL_interest_46 : decode cL_interest 46 = .ok (.ifCond .lt 14, 3) := by decide +kernel
theorem dL_interest_49 : decode cL_interest 49 = .ok (.iload_n 0, 1) := by decide +kernel
theorem dL_interest_50 : decode cL_interest 50 = .ok (.ifCond .ne 8, 3) := by decide +kernel
theorem dL_interest_53 : decode cL_interest 53 = .ok (.iload 4, 2) := by decide +kernel
theorem dL_interest_55 : decode cL_interest 55 = .ok (.goto 4, 3) := by decide +kernel
theorem dL_interest_58 : decode cL_interest 58 = .ok (.iconst 0, 1) := by decide +kernel
theorem dL_interest_59 : decode cL_interest 59 = .ok (.ireturn, 1) := by decide +kernel
theorem dL_interest_60 : decode cL_interest 60 = .ok (.iload_n 0, 1) := by decide +kernel
theorem dL_interest_61 : decode cL_interest 61 = .ok (.iconst 2, 1) := by decide +kernel
theorem dL_interest_62 : decode cL_interest 62 = .ok (.if_icmp .ne 7, 3) := by decide +kernel
theorem dL_interest_65 : decode cL_interest 65 = .ok (.iconst 5, 1) := by decide +kernel
theorem dL_interest_66 : decode cL_interest 66 = .ok (.goto 14, 3) := by decide +kernel
theorem dL_interest_69 : decode cL_interest 69 = .ok (.iconst 1, 1) := by decide +kernel
theorem dL_interest_70 : decode cL_interest 70 = .ok (.iconst 2, 1) := by decide +kernel
theorem dL_interest_71 : decode cL_interest 71 = .ok (.iload_n 1, 1) := by decide +kernel
theorem dL_interest_72 : decode cL_interest 72 = .ok (.ineg, 1) := by decide +kernel
theorem dL_interest_73 : decode cL_interest 73 = .ok (.bipush 50, 2) := by decide +kernel
theorem dL_interest_75 : decode cL_interest 75 = .ok (.idiv, 1) := by decide +kernel
theorem dL_interest_76 : decode cL_interest 76 = .ok (.imul, 1) := by decide +kernel
theorem dL_interest_77 : decode cL_interest 77 = .ok (.invokestatic 118, 3) := by decide +kernel
theorem dL_interest_80 : decode cL_interest 80 = .ok (.istore 5, 2) := by decide +kernel
theorem dL_interest_82 : decode cL_interest 82 = .ok (.iload 5, 2) := by decide +kernel
theorem dL_interest_84 : decode cL_interest 84 = .ok (.iload_n 1, 1) := by decide +kernel
theorem dL_interest_85 : decode cL_interest 85 = .ok (.iload_n 2, 1) := by decide +kernel
theorem dL_interest_86 : decode cL_interest 86 = .ok (.iadd, 1) := by decide +kernel
theorem dL_interest_87 : decode cL_interest 87 = .ok (.invokestatic 174, 3) := by decide +kernel
theorem dL_interest_90 : decode cL_interest 90 = .ok (.ineg, 1) := by decide +kernel
theorem dL_interest_91 : decode cL_interest 91 = .ok (.ireturn, 1) := by decide +kernel
theorem dL_isLine_0 : decode cL_isLine 0 = .ok (.iload_n 1, 1) := by decide +kernel
theorem dL_isLine_1 : decode cL_isLine 1 = .ok (.aload_n 2, 1) := by decide +kernel
theorem dL_isLine_2 : decode cL_isLine 2 = .ok (.invokevirtual 177, 3) := by decide +kernel
theorem dL_isLine_5 : decode cL_isLine 5 = .ok (.if_icmp .ne 7, 3) := by decide +kernel
theorem dL_isLine_8 : decode cL_isLine 8 = .ok (.iconst 1, 1) := by decide +kernel
theorem dL_isLine_9 : decode cL_isLine 9 = .ok (.goto 4, 3) := by decide +kernel
theorem dL_isLine_12 : decode cL_isLine 12 = .ok (.iconst 0, 1) := by decide +kernel
theorem dL_isLine_13 : decode cL_isLine 13 = .ok (.istore_n 3, 1) := by decide +kernel
theorem dL_isLine_14 : decode cL_isLine 14 = .ok (.iconst 0, 1) := by decide +kernel
theorem dL_isLine_15 : decode cL_isLine 15 = .ok (.istore 4, 2) := by decide +kernel
theorem dL_isLine_17 : decode cL_isLine 17 = .ok (.iload 4, 2) := by decide +kernel
theorem dL_isLine_19 : decode cL_isLine 19 = .ok (.aload_n 2, 1) := by decide +kernel
theorem dL_isLine_20 : decode cL_isLine 20 = .ok (.invokevirtual 177, 3) := by decide +kernel
theorem dL_isLine_23 : decode cL_isLine 23 = .ok (.if_icmp .ge 34, 3) := by decide +kernel
theorem dL_isLine_26 : decode cL_isLine 26 = .ok (.iload_n 3, 1) := by decide +kernel
theorem dL_isLine_27 : decode cL_isLine 27 = .ok (.ifCond .eq 30, 3) := by decide +kernel
theorem dL_isLine_30 : decode cL_isLine 30 = .ok (.aload_n 0, 1) := by decide +kernel
theorem dL_isLine_31 : decode cL_isLine 31 = .ok (.iload 4, 2) := by decide +kernel
theorem dL_isLine_33 : decode cL_isLine 33 = .ok (.invokevirtual 182, 3) := by decide +kernel
theorem dL_isLine_36 : decode cL_isLine 36 = .ok (.aload_n 2, 1) := by decide +kernel
theorem dL_isLine_37 : decode cL_isLine 37 = .ok (.iload 4, 2) := by decide +kernel
theorem dL_isLine_39 : decode cL_isLine 39 = .ok (.invokevirtual 185, 3) := by decide +kernel
theorem dL_isLine_42 : decode cL_isLine 42 = .ok (.if_icmp .ne 7, 3) := by decide +kernel
theorem dL_isLine_45 : decode cL_isLine 45 = .ok (.iconst 1, 1) := by decide +kernel
theorem dL_isLine_46 : decode cL_isLine 46 = .ok (.goto 4, 3) := by decide +kernel
theorem dL_isLine_49 : decode cL_isLine 49 = .ok (.iconst 0, 1) := by decide +kernel
theorem dL_isLine_50 : decode cL_isLine 50 = .ok (.istore_n 3, 1) := by decide +kernel
theorem dL_isLine_51 : decode cL_isLine 51 = .ok (.iinc 4 1, 3) := by decide +kernel
theorem dL_isLine_54 : decode cL_isLine 54 = .ok (.goto (-37), 3) := by decide +kernel
theorem dL_isLine_57 : decode cL_isLine 57 = .ok (.iload_n 3, 1) := by decide +kernel
theorem dL_isLine_58 : decode cL_isLine 58 = .ok (.ireturn, 1) := by decide +kernel
theorem dL_areAccountsRight_0 : decode cL_areAccountsRight 0 = .ok (.aload_n 0, 1) := by decide +kernel
theorem dL_areAccountsRight_1 : decode cL_areAccountsRight 1 = .ok (.invokevirtual 115, 3) := by decide +kernel
theorem dL_areAccountsRight_4 : decode cL_areAccountsRight 4 = .ok (.istore_n 1, 1) := by decide +kernel
theorem dL_areAccountsRight_5 : decode cL_areAccountsRight 5 = .ok (.lconst 0, 1) := by decide +kernel
theorem dL_areAccountsRight_6 : decode cL_areAccountsRight 6 = .ok (.lstore_n 2, 1) := by decide +kernel
theorem dL_areAccountsRight_7 : decode cL_areAccountsRight 7 = .ok (.aload_n 0, 1) := by decide +kernel
theorem dL_areAccountsRight_8 : decode cL_areAccountsRight 8 = .ok (.iconst 0, 1) := by decide +kernel
theorem dL_areAccountsRight_9 : decode cL_areAccountsRight 9 = .ok (.iload_n 1, 1) := by decide +kernel
theorem dL_areAccountsRight_10 : decode cL_areAccountsRight 10 = .ok (.iconst 0, 1) := by decide +kernel
theorem dL_areAccountsRight_11 : decode cL_areAccountsRight 11 = .ok (.invokestatic 188, 3) := by decide +kernel
theorem dL_areAccountsRight_14 : decode cL_areAccountsRight 14 = .ok (.sipush (-20002), 3) := by decide +kernel
theorem dL_areAccountsRight_17 : decode cL_areAccountsRight 17 = .ok (.if_icmp .ne 46, 3) := by decide +kernel
theorem dL_areAccountsRight_20 : decode cL_areAccountsRight 20 = .ok (.aload_n 0, 1) := by decide +kernel
theorem dL_areAccountsRight_21 : decode cL_areAccountsRight 21 = .ok (.iconst 0, 1) := by decide +kernel
theorem dL_areAccountsRight_22 : decode cL_areAccountsRight 22 = .ok (.iconst (-1), 1) := by decide +kernel
theorem dL_areAccountsRight_23 : decode cL_areAccountsRight 23 = .ok (.iconst 0, 1) := by decide +kernel
theorem dL_areAccountsRight_24 : decode cL_areAccountsRight 24 = .ok (.invokestatic 188, 3) := by decide +kernel
theorem dL_areAccountsRight_27 : decode cL_areAccountsRight 27 = .ok (.sipush (-20002), 3) := by decide +kernel
theorem dL_areAccountsRight_30 : decode cL_areAccountsRight 30 = .ok (.if_icmp .ne 33, 3) := by decide +kernel
theorem dL_areAccountsRight_33 : decode cL_areAccountsRight 33 = .ok (.aload_n 0, 1) := by decide +kernel
theorem dL_areAccountsRight_34 : decode cL_areAccountsRight 34 = .ok (.iconst 1, 1) := by decide +kernel
theorem dL_areAccountsRight_35 : decode cL_areAccountsRight 35 = .ok (.iload_n 1, 1) := by decide +kernel
theorem dL_areAccountsRight_36 : decode cL_areAccountsRight 36 = .ok (.iconst 0, 1) := by decide +kernel
theorem dL_areAccountsRight_37 : decode cL_areAccountsRight 37 = .ok (.invokestatic 188, 3) := by decide +kernel
theorem dL_areAccountsRight_40 : decode cL_areAccountsRight 40 = .ok (.sipush (-20004), 3) := by decide +kernel
theorem dL_areAccountsRight_43 : decode cL_areAccountsRight 43 = .ok (.if_icmp .ne 20, 3) := by decide +kernel
theorem dL_areAccountsRight_46 : decode cL_areAccountsRight 46 = .ok (.aload_n 0, 1) := by decide +kernel
theorem dL_areAccountsRight_47 : decode cL_areAccountsRight 47 = .ok (.iconst 1, 1) := by decide +kernel
theorem dL_areAccountsRight_48 : decode cL_areAccountsRight 48 = .ok (.iconst (-1), 1) := by decide +kernel
theorem dL_areAccountsRight_49 : decode cL_areAccountsRight 49 = .ok (.iconst 0, 1) := by decide +kernel
theorem dL_areAccountsRight_50 : decode cL_areAccountsRight 50 = .ok (.invokestatic 188, 3) := by decide +kernel
theorem dL_areAccountsRight_53 : decode cL_areAccountsRight 53 = .ok (.sipush (-20004), 3) := by decide +kernel
theorem dL_areAccountsRight_56 : decode cL_areAccountsRight 56 = .ok (.if_icmp .ne 7, 3) := by decide +kernel
theorem dL_areAccountsRight_59 : decode cL_areAccountsRight 59 = .ok (.iconst 1, 1) := by decide +kernel
theorem dL_areAccountsRight_60 : decode cL_areAccountsRight 60 = .ok (.goto 4, 3) := by decide +kernel
theorem dL_areAccountsRight_63 : decode cL_areAccountsRight 63 = .ok (.iconst 0, 1) := by decide +kernel
theorem dL_areAccountsRight_64 : decode cL_areAccountsRight 64 = .ok (.istore 4, 2) := by decide +kernel
theorem dL_areAccountsRight_66 : decode cL_areAccountsRight 66 = .ok (.iconst 0, 1) := by decide +kernel
theorem dL_areAccountsRight_67 : decode cL_areAccountsRight 67 = .ok (.istore 5, 2) := by decide +kernel
theorem dL_areAccountsRight_69 : decode cL_areAccountsRight 69 = .ok (.iload 5, 2) := by decide +kernel
theorem dL_areAccountsRight_71 : decode cL_areAccountsRight 71 = .ok (.iload_n 1, 1) := by decide +kernel
theorem dL_areAccountsRight_72 : decode cL_areAccountsRight 72 = .ok (.if_icmp .ge 213, 3) := by decide +kernel
theorem dL_areAccountsRight_75 : decode cL_areAccountsRight 75 = .ok (.aload_n 0, 1) := by decide +kernel
theorem dL_areAccountsRight_76 : decode cL_areAccountsRight 76 = .ok (.iload 5, 2) := by decide +kernel
theorem dL_areAccountsRight_78 : decode cL_areAccountsRight 78 = .ok (.invokevirtual 59, 3) := by decide +kernel
theorem dL_areAccountsRight_81 : decode cL_areAccountsRight 81 = .ok (.istore 6, 2) := by decide +kernel
theorem dL_areAccountsRight_83 : decode cL_areAccountsRight 83 = .ok (.aload_n 0, 1) := by decide +kernel
theorem dL_areAccountsRight_84 : decode cL_areAccountsRight 84 = .ok (.iload 5, 2) := by decide +kernel
theorem dL_areAccountsRight_86 : decode cL_areAccountsRight 86 = .ok (.invokevirtual 152, 3) := by decide +kernel
theorem dL_areAccountsRight_89 : decode cL_areAccountsRight 89 = .ok (.istore 7, 2) := by decide +kernel
theorem dL_areAccountsRight_91 : decode cL_areAccountsRight 91 = .ok (.aload_n 0, 1) := by decide +kernel
theorem dL_areAccountsRight_92 : decode cL_areAccountsRight 92 = .ok (.iload 5, 2) := by decide +kernel
theorem dL_areAccountsRight_94 : decode cL_areAccountsRight 94 = .ok (.invokevirtual 149, 3) := by decide +kernel
theorem dL_areAccountsRight_97 : decode cL_areAccountsRight 97 = .ok (.ifCond .ne 8, 3) := by decide +kernel
theorem dL_areAccountsRight_100 : decode cL_areAccountsRight 100 = .ok (.ldc 191, 2) := by decide +kernel
theorem dL_areAccountsRight_102 : decode cL_areAccountsRight 102 = .ok (.goto 35, 3) := by decide +kernel
theorem dL_areAccountsRight_105 : decode cL_areAccountsRight 105 = .ok (.aload_n 0, 1) := by decide +kernel
theorem dL_areAccountsRight_106 : decode cL_areAccountsRight 106 = .ok (.iload 5, 2) := by decide +kernel
theorem dL_areAccountsRight_108 : decode cL_areAccountsRight 108 = .ok (.invokevirtual 149, 3) := by decide +kernel
theorem dL_areAccountsRight_111 : decode cL_areAccountsRight 111 = .ok (.iconst 1, 1) := by decide +kernel
theorem dL_areAccountsRight_112 : decode cL_areAccountsRight 112 = .ok (.if_icmp .ne 8, 3) := by decide +kernel
theorem dL_areAccountsRight_115 : decode cL_areAccountsRight 115 = .ok (.ldc 193, 2) := by decide +kernel
theorem dL_areAccountsRight_117 : decode cL_areAccountsRight 117 = .ok (.goto 20, 3) := by decide +kernel
theorem dL_areAccountsRight_120 : decode cL_areAccountsRight 120 = .ok (.aload_n 0, 1) := by decide +kernel
theorem dL_areAccountsRight_121 : decode cL_areAccountsRight 121 = .ok (.iload 5, 2) := by decide +kernel
theorem dL_areAccountsRight_123 : decode cL_areAccountsRight 123 = .ok (.invokevirtual 149, 3) := by decide +kernel
theorem dL_areAccountsRight_126 : decode cL_areAccountsRight 126 = .ok (.iconst 2, 1) := by decide +kernel
theorem dL_areAccountsRight_127 : decode cL_areAccountsRight 127 = .ok (.if_icmp .ne 8, 3) := by decide +kernel
theorem dL_areAccountsRight_130 : decode cL_areAccountsRight 130 = .ok (.ldc 195, 2) := by decide +kernel
theorem dL_areAccountsRight_132 : decode cL_areAccountsRight 132 = .ok (.goto 5, 3) := by decide +kernel
theorem dL_areAccountsRight_135 : decode cL_areAccountsRight 135 = .ok (.ldc 197, 2) := by decide +kernel
theorem dL_areAccountsRight_137 : decode cL_areAccountsRight 137 = .ok (.astore 8, 2) := by decide +kernel
theorem dL_areAccountsRight_139 : decode cL_areAccountsRight 139 = .ok (.lload_n 2, 1) := by decide +kernel
theorem dL_areAccountsRight_140 : decode cL_areAccountsRight 140 = .ok (.iload 6, 2) := by decide +kernel
theorem dL_areAccountsRight_142 : decode cL_areAccountsRight 142 = .ok (.i2l, 1) := by decide +kernel
theorem dL_areAccountsRight_143 : decode cL_areAccountsRight 143 = .ok (.ladd, 1) := by decide +kernel
theorem dL_areAccountsRight_144 : decode cL_areAccountsRight 144 = .ok (.lstore_n 2, 1) := by decide +kernel
theorem dL_areAccountsRight_145 : decode cL_areAccountsRight 145 = .ok (.iload 4, 2) := by decide +kernel
theorem dL_areAccountsRight_147 : decode cL_areAccountsRight 147 = .ok (.ifCond .eq 129, 3) := by decide +kernel
theorem dL_areAccountsRight_150 : decode cL_areAccountsRight 150 = .ok (.aload_n 0, 1) := by decide +kernel
theorem dL_areAccountsRight_151 : decode cL_areAccountsRight 151 = .ok (.iload 5, 2) := by decide +kernel
theorem dL_areAccountsRight_153 : decode cL_areAccountsRight 153 = .ok (.invokevirtual 199, 3) := by decide +kernel
theorem dL_areAccountsRight_156 : decode cL_areAccountsRight 156 = .ok (.iload 6, 2) := by decide +kernel
theorem dL_areAccountsRight_158 : decode cL_areAccountsRight 158 = .ok (.iload 7, 2) := by decide +kernel
theorem dL_areAccountsRight_160 : decode cL_areAccountsRight 160 = .ok (.iadd, 1) := by decide +kernel
theorem dL_areAccountsRight_161 : decode cL_areAccountsRight 161 = .ok (.if_icmp .ne 115, 3) := by decide +kernel
theorem dL_areAccountsRight_164 : decode cL_areAccountsRight 164 = .ok (.iload 6, 2) := by decide +kernel
theorem dL_areAccountsRight_166 : decode cL_areAccountsRight 166 = .ok (.iload 7, 2) := by decide +kernel
theorem dL_areAccountsRight_168 : decode cL_areAccountsRight 168 = .ok (.iadd, 1) := by decide +kernel
theorem dL_areAccountsRight_169 : decode cL_areAccountsRight 169 = .ok (.ifCond .lt 107, 3) := by decide +kernel
theorem dL_areAccountsRight_172 : decode cL_areAccountsRight 172 = .ok (.aload_n 0, 1) := by decide +kernel
theorem dL_areAccountsRight_173 : decode cL_areAccountsRight 173 = .ok (.iload 5, 2) := by decide +kernel
theorem dL_areAccountsRight_175 : decode cL_areAccountsRight 175 = .ok (.invokevirtual 202, 3) := by decide +kernel
theorem dL_areAccountsRight_178 : decode cL_areAccountsRight 178 = .ok (.aload_n 0, 1) := by decide +kernel
theorem dL_areAccountsRight_179 : decode cL_areAccountsRight 179 = .ok (.iload 5, 2) := by decide +kernel
theorem dL_areAccountsRight_181 : decode cL_areAccountsRight 181 = .ok (.invokevirtual 149, 3) := by decide +kernel
theorem dL_areAccountsRight_184 : decode cL_areAccountsRight 184 = .ok (.iload 6, 2) := by decide +kernel
theorem dL_areAccountsRight_186 : decode cL_areAccountsRight 186 = .ok (.iload 7, 2) := by decide +kernel
theorem dL_areAccountsRight_188 : decode cL_areAccountsRight 188 = .ok (.aload_n 0, 1) := by decide +kernel
theorem dL_areAccountsRight_189 : decode cL_areAccountsRight 189 = .ok (.iload 5, 2) := by decide +kernel
theorem dL_areAccountsRight_191 : decode cL_areAccountsRight 191 = .ok (.invokevirtual 155, 3) := by decide +kernel
theorem dL_areAccountsRight_194 : decode cL_areAccountsRight 194 = .ok (.invokestatic 205, 3) := by decide +kernel
theorem dL_areAccountsRight_197 : decode cL_areAccountsRight 197 = .ok (.if_icmp .ne 79, 3) := by decide +kernel
theorem dL_areAccountsRight_200 : decode cL_areAccountsRight 200 = .ok (.aload_n 0, 1) := by decide +kernel
theorem dL_areAccountsRight_201 : decode cL_areAccountsRight 201 = .ok (.aload_n 0, 1) := by decide +kernel
theorem dL_areAccountsRight_202 : decode cL_areAccountsRight 202 = .ok (.iload 5, 2) := by decide +kernel
theorem dL_areAccountsRight_204 : decode cL_areAccountsRight 204 = .ok (.invokevirtual 209, 3) := by decide +kernel
theorem dL_areAccountsRight_207 : decode cL_areAccountsRight 207 = .ok (.new 212, 3) := by decide +kernel
theorem dL_areAccountsRight_210 : decode cL_areAccountsRight 210 = .ok (.dup, 1) := by decide +kernel
theorem dL_areAccountsRight_211 : decode cL_areAccountsRight 211 = .ok (.invokespecial 214, 3) := by decide +kernel
theorem dL_areAccountsRight_214 : decode cL_areAccountsRight 214 = .ok (.aload 8, 2) := by decide +kernel
theorem dL_areAccountsRight_216 : decode cL_areAccountsRight 216 = .ok (.invokevirtual 215, 3) := by decide +kernel
theorem dL_areAccountsRight_219 : decode cL_areAccountsRight 219 = .ok (.iload 5, 2) := by decide +kernel
theorem dL_areAccountsRight_221 : decode cL_areAccountsRight 221 = .ok (.invokevirtual 219, 3) := by decide +kernel
theorem dL_areAccountsRight_224 : decode cL_areAccountsRight 224 = .ok (.ldc 222, 2) := by decide +kernel
theorem dL_areAccountsRight_226 : decode cL_areAccountsRight 226 = .ok (.invokevirtual 215, 3) := by decide +kernel
theorem dL_areAccountsRight_229 : decode cL_areAccountsRight 229 = .ok (.iload 6, 2) := by decide +kernel
theorem dL_areAccountsRight_231 : decode cL_areAccountsRight 231 = .ok (.invokevirtual 219, 3) := by decide +kernel
theorem dL_areAccountsRight_234 : decode cL_areAccountsRight 234 = .ok (.ldc 224, 2) := by decide +kernel
theorem dL_areAccountsRight_236 : decode cL_areAccountsRight 236 = .ok (.invokevirtual 215, 3) := by decide +kernel
theorem dL_areAccountsRight_239 : decode cL_areAccountsRight 239 = .ok (.iload 7, 2) := by decide +kernel
theorem dL_areAccountsRight_241 : decode cL_areAccountsRight 241 = .ok (.invokevirtual 219, 3) := by decide +kernel
theorem dL_areAccountsRight_244 : decode cL_areAccountsRight 244 = .ok (.aload_n 0, 1) := by decide +kernel
theorem dL_areAccountsRight_245 : decode cL_areAccountsRight 245 = .ok (.iload 5, 2) := by decide +kernel
theorem dL_areAccountsRight_247 : decode cL_areAccountsRight 247 = .ok (.invokevirtual 155, 3) := by decide +kernel
theorem dL_areAccountsRight_250 : decode cL_areAccountsRight 250 = .ok (.ifCond .eq 8, 3) := by decide +kernel
theorem dL_areAccountsRight_253 : decode cL_areAccountsRight 253 = .ok (.ldc 226, 2) := by decide +kernel
theorem dL_areAccountsRight_255 : decode cL_areAccountsRight 255 = .ok (.goto 5, 3) := by decide +kernel
theorem dL_areAccountsRight_258 : decode cL_areAccountsRight 258 = .ok (.ldc 228, 2) := by decide +kernel
theorem dL_areAccountsRight_260 : decode cL_areAccountsRight 260 = .ok (.invokevirtual 215, 3) := by decide +kernel
theorem dL_areAccountsRight_263 : decode cL_areAccountsRight 263 = .ok (.invokevirtual 230, 3) := by decide +kernel
theorem dL_areAccountsRight_266 : decode cL_areAccountsRight 266 = .ok (.invokestatic 234, 3) := by decide +kernel
theorem dL_areAccountsRight_269 : decode cL_areAccountsRight 269 = .ok (.ifCond .eq 7, 3) := by decide +kernel
theorem dL_areAccountsRight_272 : decode cL_areAccountsRight 272 = .ok (.iconst 1, 1) := by decide +kernel
theorem dL_areAccountsRight_273 : decode cL_areAccountsRight 273 = .ok (.goto 4, 3) := by decide +kernel
theorem dL_areAccountsRight_276 : decode cL_areAccountsRight 276 = .ok (.iconst 0, 1) := by decide +kernel
theorem dL_areAccountsRight_277 : decode cL_areAccountsRight 277 = .ok (.istore 4, 2) := by decide +kernel
theorem dL_areAccountsRight_279 : decode cL_areAccountsRight 279 = .ok (.iinc 5 1, 3) := by decide +kernel
theorem dL_areAccountsRight_282 : decode cL_areAccountsRight 282 = .ok (.goto (-213), 3) := by decide +kernel
theorem dL_areAccountsRight_285 : decode cL_areAccountsRight 285 = .ok (.iconst 0, 1) := by decide +kernel
theorem dL_areAccountsRight_286 : decode cL_areAccountsRight 286 = .ok (.istore 5, 2) := by decide +kernel
theorem dL_areAccountsRight_288 : decode cL_areAccountsRight 288 = .ok (.iload 5, 2) := by decide +kernel
theorem dL_areAccountsRight_290 : decode cL_areAccountsRight 290 = .ok (.iconst 1, 1) := by decide +kernel
theorem dL_areAccountsRight_291 : decode cL_areAccountsRight 291 = .ok (.iadd, 1) := by decide +kernel
theorem dL_areAccountsRight_292 : decode cL_areAccountsRight 292 = .ok (.iload_n 1, 1) := by decide +kernel
theorem dL_areAccountsRight_293 : decode cL_areAccountsRight 293 = .ok (.if_icmp .ge 76, 3) := by decide +kernel
theorem dL_areAccountsRight_296 : decode cL_areAccountsRight 296 = .ok (.aload_n 0, 1) := by decide +kernel
theorem dL_areAccountsRight_297 : decode cL_areAccountsRight 297 = .ok (.iload 5, 2) := by decide +kernel
theorem dL_areAccountsRight_299 : decode cL_areAccountsRight 299 = .ok (.invokevirtual 62, 3) := by decide +kernel
theorem dL_areAccountsRight_302 : decode cL_areAccountsRight 302 = .ok (.istore 6, 2) := by decide +kernel
theorem dL_areAccountsRight_304 : decode cL_areAccountsRight 304 = .ok (.aload_n 0, 1) := by decide +kernel
theorem dL_areAccountsRight_305 : decode cL_areAccountsRight 305 = .ok (.iload 5, 2) := by decide +kernel
theorem dL_areAccountsRight_307 : decode cL_areAccountsRight 307 = .ok (.iconst 1, 1) := by decide +kernel
theorem dL_areAccountsRight_308 : decode cL_areAccountsRight 308 = .ok (.iadd, 1) := by decide +kernel
theorem dL_areAccountsRight_309 : decode cL_areAccountsRight 309 = .ok (.invokevirtual 62, 3) := by decide +kernel
theorem dL_areAccountsRight_312 : decode cL_areAccountsRight 312 = .ok (.istore 7, 2) := by decide +kernel
theorem dL_areAccountsRight_314 : decode cL_areAccountsRight 314 = .ok (.iload 4, 2) := by decide +kernel
theorem dL_areAccountsRight_316 : decode cL_areAccountsRight 316 = .ok (.ifCond .eq 44, 3) := by decide +kernel
theorem dL_areAccountsRight_319 : decode cL_areAccountsRight 319 = .ok (.aload_n 0, 1) := by decide +kernel
theorem dL_areAccountsRight_320 : decode cL_areAccountsRight 320 = .ok (.iload 6, 2) := by decide +kernel
theorem dL_areAccountsRight_322 : decode cL_areAccountsRight 322 = .ok (.invokevirtual 59, 3) := by decide +kernel
theorem dL_areAccountsRight_325 : decode cL_areAccountsRight 325 = .ok (.aload_n 0, 1) := by decide +kernel
theorem dL_areAccountsRight_326 : decode cL_areAccountsRight 326 = .ok (.iload 7, 2) := by decide +kernel
theorem dL_areAccountsRight_328 : decode cL_areAccountsRight 328 = .ok (.invokevirtual 59, 3) := by decide +kernel
theorem dL_areAccountsRight_331 : decode cL_areAccountsRight 331 = .ok (.if_icmp .gt 25, 3) := by decide +kernel
theorem dL_areAccountsRight_334 : decode cL_areAccountsRight 334 = .ok (.aload_n 0, 1) := by decide +kernel
theorem dL_areAccountsRight_335 : decode cL_areAccountsRight 335 = .ok (.iload 6, 2) := by decide +kernel
theorem dL_areAccountsRight_337 : decode cL_areAccountsRight 337 = .ok (.invokevirtual 59, 3) := by decide +kernel
theorem dL_areAccountsRight_340 : decode cL_areAccountsRight 340 = .ok (.aload_n 0, 1) := by decide +kernel
theorem dL_areAccountsRight_341 : decode cL_areAccountsRight 341 = .ok (.iload 7, 2) := by decide +kernel
theorem dL_areAccountsRight_343 : decode cL_areAccountsRight 343 = .ok (.invokevirtual 59, 3) := by decide +kernel
theorem dL_areAccountsRight_346 : decode cL_areAccountsRight 346 = .ok (.if_icmp .ne 14, 3) := by decide +kernel
theorem dL_areAccountsRight_349 : decode cL_areAccountsRight 349 = .ok (.iload 6, 2) := by decide +kernel
theorem dL_areAccountsRight_351 : decode cL_areAccountsRight 351 = .ok (.iload 7, 2) := by decide +kernel
theorem dL_areAccountsRight_353 : decode cL_areAccountsRight 353 = .ok (.if_icmp .ge 7, 3) := by decide +kernel
theorem dL_areAccountsRight_356 : decode cL_areAccountsRight 356 = .ok (.iconst 1, 1) := by decide +kernel
theorem dL_areAccountsRight_357 : decode cL_areAccountsRight 357 = .ok (.goto 4, 3) := by decide +kernel
theorem dL_areAccountsRight_360 : decode cL_areAccountsRight 360 = .ok (.iconst 0, 1) := by decide +kernel
theorem dL_areAccountsRight_361 : decode cL_areAccountsRight 361 = .ok (.istore 4, 2) := by decide +kernel
theorem dL_areAccountsRight_363 : decode cL_areAccountsRight 363 = .ok (.iinc 5 1, 3) := by decide +kernel
theorem dL_areAccountsRight_366 : decode cL_areAccountsRight 366 = .ok (.goto (-78), 3) := by decide +kernel
theorem dL_areAccountsRight_369 : decode cL_areAccountsRight 369 = .ok (.iload 4, 2) := by decide +kernel
theorem dL_areAccountsRight_371 : decode cL_areAccountsRight 371 = .ok (.ifCond .eq 52, 3) := by decide +kernel
theorem dL_areAccountsRight_374 : decode cL_areAccountsRight 374 = .ok (.aload_n 0, 1) := by decide +kernel
theorem dL_areAccountsRight_375 : decode cL_areAccountsRight 375 = .ok (.invokevirtual 238, 3) := by decide +kernel
theorem dL_areAccountsRight_378 : decode cL_areAccountsRight 378 = .ok (.lload_n 2, 1) := by decide +kernel
theorem dL_areAccountsRight_379 : decode cL_areAccountsRight 379 = .ok (.aload_n 0, 1) := by decide +kernel
theorem dL_areAccountsRight_380 : decode cL_areAccountsRight 380 = .ok (.invokevirtual 130, 3) := by decide +kernel
theorem dL_areAccountsRight_383 : decode cL_areAccountsRight 383 = .ok (.i2l, 1) := by decide +kernel
theorem dL_areAccountsRight_384 : decode cL_areAccountsRight 384 = .ok (.ladd, 1) := by decide +kernel
theorem dL_areAccountsRight_385 : decode cL_areAccountsRight 385 = .ok (.lcmp, 1) := by decide +kernel
theorem dL_areAccountsRight_386 : decode cL_areAccountsRight 386 = .ok (.ifCond .ne 37, 3) := by decide +kernel
theorem dL_areAccountsRight_389 : decode cL_areAccountsRight 389 = .ok (.aload_n 0, 1) := by decide +kernel
theorem dL_areAccountsRight_390 : decode cL_areAccountsRight 390 = .ok (.invokevirtual 146, 3) := by decide +kernel
theorem dL_areAccountsRight_393 : decode cL_areAccountsRight 393 = .ok (.aload_n 0, 1) := by decide +kernel
theorem dL_areAccountsRight_394 : decode cL_areAccountsRight 394 = .ok (.invokevirtual 238, 3) := by decide +kernel
theorem dL_areAccountsRight_397 : decode cL_areAccountsRight 397 = .ok (.lcmp, 1) := by decide +kernel
theorem dL_areAccountsRight_398 : decode cL_areAccountsRight 398 = .ok (.ifCond .ne 25, 3) := by decide +kernel
theorem dL_areAccountsRight_401 : decode cL_areAccountsRight 401 = .ok (.aload_n 0, 1) := by decide +kernel
theorem dL_areAccountsRight_402 : decode cL_areAccountsRight 402 = .ok (.invokevirtual 130, 3) := by decide +kernel
theorem dL_areAccountsRight_405 : decode cL_areAccountsRight 405 = .ok (.i2l, 1) := by decide +kernel
theorem dL_areAccountsRight_406 : decode cL_areAccountsRight 406 = .ok (.aload_n 0, 1) := by decide +kernel
theorem dL_areAccountsRight_407 : decode cL_areAccountsRight 407 = .ok (.invokevirtual 143, 3) := by decide +kernel
theorem dL_areAccountsRight_410 : decode cL_areAccountsRight 410 = .ok (.aload_n 0, 1) := by decide +kernel
theorem dL_areAccountsRight_411 : decode cL_areAccountsRight 411 = .ok (.invokevirtual 140, 3) := by decide +kernel
theorem dL_areAccountsRight_414 : decode cL_areAccountsRight 414 = .ok (.lsub, 1) := by decide +kernel
theorem dL_areAccountsRight_415 : decode cL_areAccountsRight 415 = .ok (.lcmp, 1) := by decide +kernel
theorem dL_areAccountsRight_416 : decode cL_areAccountsRight 416 = .ok (.ifCond .ne 7, 3) := by decide +kernel
theorem dL_areAccountsRight_419 : decode cL_areAccountsRight 419 = .ok (.iconst 1, 1) := by decide +kernel
theorem dL_areAccountsRight_420 : decode cL_areAccountsRight 420 = .ok (.goto 4, 3) := by decide +kernel
theorem dL_areAccountsRight_423 : decode cL_areAccountsRight 423 = .ok (.iconst 0, 1) := by decide +kernel
theorem dL_areAccountsRight_424 : decode cL_areAccountsRight 424 = .ok (.istore 4, 2) := by decide +kernel
theorem dL_areAccountsRight_426 : decode cL_areAccountsRight 426 = .ok (.iload 4, 2) := by decide +kernel
theorem dL_areAccountsRight_428 : decode cL_areAccountsRight 428 = .ok (.ifCond .eq 24, 3) := by decide +kernel
theorem dL_areAccountsRight_431 : decode cL_areAccountsRight 431 = .ok (.iload_n 1, 1) := by decide +kernel
theorem dL_areAccountsRight_432 : decode cL_areAccountsRight 432 = .ok (.ifCond .eq 16, 3) := by decide +kernel
theorem dL_areAccountsRight_435 : decode cL_areAccountsRight 435 = .ok (.aload_n 0, 1) := by decide +kernel
theorem dL_areAccountsRight_436 : decode cL_areAccountsRight 436 = .ok (.invokevirtual 241, 3) := by decide +kernel
theorem dL_areAccountsRight_439 : decode cL_areAccountsRight 439 = .ok (.lload_n 2, 1) := by decide +kernel
theorem dL_areAccountsRight_440 : decode cL_areAccountsRight 440 = .ok (.l2d, 1) := by decide +kernel
theorem dL_areAccountsRight_441 : decode cL_areAccountsRight 441 = .ok (.iload_n 1, 1) := by decide +kernel
theorem dL_areAccountsRight_442 : decode cL_areAccountsRight 442 = .ok (.i2d, 1) := by decide +kernel
theorem dL_areAccountsRight_443 : decode cL_areAccountsRight 443 = .ok (.ddiv, 1) := by decide +kernel
theorem dL_areAccountsRight_444 : decode cL_areAccountsRight 444 = .ok (.dcmp .l, 1) := by decide +kernel
theorem dL_areAccountsRight_445 : decode cL_areAccountsRight 445 = .ok (.ifCond .ne 7, 3) := by decide +kernel
theorem dL_areAccountsRight_448 : decode cL_areAccountsRight 448 = .ok (.iconst 1, 1) := by decide +kernel
theorem dL_areAccountsRight_449 : decode cL_areAccountsRight 449 = .ok (.goto 4, 3) := by decide +kernel
theorem dL_areAccountsRight_452 : decode cL_areAccountsRight 452 = .ok (.iconst 0, 1) := by decide +kernel
theorem dL_areAccountsRight_453 : decode cL_areAccountsRight 453 = .ok (.ireturn, 1) := by decide +kernel
theorem dL_leads_0 : decode cL_leads 0 = .ok (.iconst 0, 1) := by decide +kernel
theorem dL_leads_1 : decode cL_leads 1 = .ok (.istore 4, 2) := by decide +kernel
theorem dL_leads_3 : decode cL_leads 3 = .ok (.iload 4, 2) := by decide +kernel
theorem dL_leads_5 : decode cL_leads 5 = .ok (.aload_n 0, 1) := by decide +kernel
theorem dL_leads_6 : decode cL_leads 6 = .ok (.invokevirtual 112, 3) := by decide +kernel
theorem dL_leads_9 : decode cL_leads 9 = .ok (.if_icmp .ge 61, 3) := by decide +kernel
theorem dL_leads_12 : decode cL_leads 12 = .ok (.aload_n 0, 1) := by decide +kernel
theorem dL_leads_13 : decode cL_leads 13 = .ok (.iload 4, 2) := by decide +kernel
theorem dL_leads_15 : decode cL_leads 15 = .ok (.invokevirtual 68, 3) := by decide +kernel
theorem dL_leads_18 : decode cL_leads 18 = .ok (.istore 5, 2) := by decide +kernel
theorem dL_leads_20 : decode cL_leads 20 = .ok (.aload_n 0, 1) := by decide +kernel
theorem dL_leads_21 : decode cL_leads 21 = .ok (.iload 5, 2) := by decide +kernel
theorem dL_leads_23 : decode cL_leads 23 = .ok (.invokevirtual 158, 3) := by decide +kernel
theorem dL_leads_26 : decode cL_leads 26 = .ok (.iload_n 1, 1) := by decide +kernel
theorem dL_leads_27 : decode cL_leads 27 = .ok (.if_icmp .ne 37, 3) := by decide +kernel
theorem dL_leads_30 : decode cL_leads 30 = .ok (.aload_n 0, 1) := by decide +kernel
theorem dL_leads_31 : decode cL_leads 31 = .ok (.iload 5, 2) := by decide +kernel
theorem dL_leads_33 : decode cL_leads 33 = .ok (.invokevirtual 161, 3) := by decide +kernel
theorem dL_leads_36 : decode cL_leads 36 = .ok (.iload_n 2, 1) := by decide +kernel
theorem dL_leads_37 : decode cL_leads 37 = .ok (.if_icmp .eq 25, 3) := by decide +kernel
theorem dL_leads_40 : decode cL_leads 40 = .ok (.iload_n 3, 1) := by decide +kernel
theorem dL_leads_41 : decode cL_leads 41 = .ok (.iconst 1, 1) := by decide +kernel
theorem dL_leads_42 : decode cL_leads 42 = .ok (.if_icmp .le 22, 3) := by decide +kernel
theorem dL_leads_45 : decode cL_leads 45 = .ok (.aload_n 0, 1) := by decide +kernel
theorem dL_leads_46 : decode cL_leads 46 = .ok (.aload_n 0, 1) := by decide +kernel
theorem dL_leads_47 : decode cL_leads 47 = .ok (.iload 5, 2) := by decide +kernel
theorem dL_leads_49 : decode cL_leads 49 = .ok (.invokevirtual 161, 3) := by decide +kernel
theorem dL_leads_52 : decode cL_leads 52 = .ok (.iload_n 2, 1) := by decide +kernel
theorem dL_leads_53 : decode cL_leads 53 = .ok (.iload_n 3, 1) := by decide +kernel
theorem dL_leads_54 : decode cL_leads 54 = .ok (.iconst 1, 1) := by decide +kernel
theorem dL_leads_55 : decode cL_leads 55 = .ok (.isub, 1) := by decide +kernel
theorem dL_leads_56 : decode cL_leads 56 = .ok (.invokestatic 245, 3) := by decide +kernel
theorem dL_leads_59 : decode cL_leads 59 = .ok (.ifCond .eq 5, 3) := by decide +kernel
theorem dL_leads_62 : decode cL_leads 62 = .ok (.iconst 1, 1) := by decide +kernel
theorem dL_leads_63 : decode cL_leads 63 = .ok (.ireturn, 1) := by decide +kernel
theorem dL_leads_64 : decode cL_leads 64 = .ok (.iinc 4 1, 3) := by decide +kernel
theorem dL_leads_67 : decode cL_leads 67 = .ok (.goto (-64), 3) := by decide +kernel
theorem dL_leads_70 : decode cL_leads 70 = .ok (.iconst 0, 1) := by decide +kernel
theorem dL_leads_71 : decode cL_leads 71 = .ok (.ireturn, 1) := by decide +kernel
theorem dL_areTransfersRight_0 : decode cL_areTransfersRight 0 = .ok (.aload_n 0, 1) := by decide +kernel
theorem dL_areTransfersRight_1 : decode cL_areTransfersRight 1 = .ok (.invokevirtual 115, 3) := by decide +kernel
theorem dL_areTransfersRight_4 : decode cL_areTransfersRight 4 = .ok (.istore_n 3, 1) := by decide +kernel
theorem dL_areTransfersRight_5 : decode cL_areTransfersRight 5 = .ok (.aload_n 0, 1) := by decide +kernel
theorem dL_areTransfersRight_6 : decode cL_areTransfersRight 6 = .ok (.iconst 3, 1) := by decide +kernel
theorem dL_areTransfersRight_7 : decode cL_areTransfersRight 7 = .ok (.aload_n 0, 1) := by decide +kernel
theorem dL_areTransfersRight_8 : decode cL_areTransfersRight 8 = .ok (.invokevirtual 112, 3) := by decide +kernel
theorem dL_areTransfersRight_11 : decode cL_areTransfersRight 11 = .ok (.iconst 0, 1) := by decide +kernel
theorem dL_areTransfersRight_12 : decode cL_areTransfersRight 12 = .ok (.invokestatic 188, 3) := by decide +kernel
theorem dL_areTransfersRight_15 : decode cL_areTransfersRight 15 = .ok (.sipush (-20002), 3) := by decide +kernel
theorem dL_areTransfersRight_18 : decode cL_areTransfersRight 18 = .ok (.if_icmp .ne 74, 3) := by decide +kernel
theorem dL_areTransfersRight_21 : decode cL_areTransfersRight 21 = .ok (.aload_n 0, 1) := by decide +kernel
theorem dL_areTransfersRight_22 : decode cL_areTransfersRight 22 = .ok (.iconst 3, 1) := by decide +kernel
theorem dL_areTransfersRight_23 : decode cL_areTransfersRight 23 = .ok (.iconst (-1), 1) := by decide +kernel
theorem dL_areTransfersRight_24 : decode cL_areTransfersRight 24 = .ok (.iconst 0, 1) := by decide +kernel
theorem dL_areTransfersRight_25 : decode cL_areTransfersRight 25 = .ok (.invokestatic 188, 3) := by decide +kernel
theorem dL_areTransfersRight_28 : decode cL_areTransfersRight 28 = .ok (.sipush (-20002), 3) := by decide +kernel
theorem dL_areTransfersRight_31 : decode cL_areTransfersRight 31 = .ok (.if_icmp .ne 61, 3) := by decide +kernel
theorem dL_areTransfersRight_34 : decode cL_areTransfersRight 34 = .ok (.aload_n 0, 1) := by decide +kernel
theorem dL_areTransfersRight_35 : decode cL_areTransfersRight 35 = .ok (.iconst 4, 1) := by decide +kernel
theorem dL_areTransfersRight_36 : decode cL_areTransfersRight 36 = .ok (.iconst (-1), 1) := by decide +kernel
theorem dL_areTransfersRight_37 : decode cL_areTransfersRight 37 = .ok (.iconst 0, 1) := by decide +kernel
theorem dL_areTransfersRight_38 : decode cL_areTransfersRight 38 = .ok (.invokestatic 188, 3) := by decide +kernel
theorem dL_areTransfersRight_41 : decode cL_areTransfersRight 41 = .ok (.sipush (-20004), 3) := by decide +kernel
theorem dL_areTransfersRight_44 : decode cL_areTransfersRight 44 = .ok (.if_icmp .ne 48, 3) := by decide +kernel
theorem dL_areTransfersRight_47 : decode cL_areTransfersRight 47 = .ok (.aload_n 0, 1) := by decide +kernel
theorem dL_areTransfersRight_48 : decode cL_areTransfersRight 48 = .ok (.iconst 5, 1) := by decide +kernel
theorem dL_areTransfersRight_49 : decode cL_areTransfersRight 49 = .ok (.iconst (-1), 1) := by decide +kernel
theorem dL_areTransfersRight_50 : decode cL_areTransfersRight 50 = .ok (.iconst 0, 1) := by decide +kernel
theorem dL_areTransfersRight_51 : decode cL_areTransfersRight 51 = .ok (.invokestatic 188, 3) := by decide +kernel
theorem dL_areTransfersRight_54 : decode cL_areTransfersRight 54 = .ok (.sipush (-20004), 3) := by decide +kernel
theorem dL_areTransfersRight_57 : decode cL_areTransfersRight 57 = .ok (.if_icmp .ne 35, 3) := by decide +kernel
theorem dL_areTransfersRight_60 : decode cL_areTransfersRight 60 = .ok (.aload_n 0, 1) := by decide +kernel
theorem dL_areTransfersRight_61 : decode cL_areTransfersRight 61 = .ok (.bipush 6, 2) := by decide +kernel
theorem dL_areTransfersRight_63 : decode cL_areTransfersRight 63 = .ok (.iload_n 3, 1) := by decide +kernel
theorem dL_areTransfersRight_64 : decode cL_areTransfersRight 64 = .ok (.iconst 0, 1) := by decide +kernel
theorem dL_areTransfersRight_65 : decode cL_areTransfersRight 65 = .ok (.invokestatic 188, 3) := by decide +kernel
theorem dL_areTransfersRight_68 : decode cL_areTransfersRight 68 = .ok (.sipush (-20002), 3) := by decide +kernel
theorem dL_areTransfersRight_71 : decode cL_areTransfersRight 71 = .ok (.if_icmp .ne 21, 3) := by decide +kernel
theorem dL_areTransfersRight_74 : decode cL_areTransfersRight 74 = .ok (.aload_n 0, 1) := by decide +kernel
theorem dL_areTransfersRight_75 : decode cL_areTransfersRight 75 = .ok (.bipush 7, 2) := by decide +kernel
theorem dL_areTransfersRight_77 : decode cL_areTransfersRight 77 = .ok (.iload_n 3, 1) := by decide +kernel
theorem dL_areTransfersRight_78 : decode cL_areTransfersRight 78 = .ok (.iconst 0, 1) := by decide +kernel
theorem dL_areTransfersRight_79 : decode cL_areTransfersRight 79 = .ok (.invokestatic 188, 3) := by decide +kernel
theorem dL_areTransfersRight_82 : decode cL_areTransfersRight 82 = .ok (.sipush (-20002), 3) := by decide +kernel
theorem dL_areTransfersRight_85 : decode cL_areTransfersRight 85 = .ok (.if_icmp .ne 7, 3) := by decide +kernel
theorem dL_areTransfersRight_88 : decode cL_areTransfersRight 88 = .ok (.iconst 1, 1) := by decide +kernel
theorem dL_areTransfersRight_89 : decode cL_areTransfersRight 89 = .ok (.goto 4, 3) := by decide +kernel
theorem dL_areTransfersRight_92 : decode cL_areTransfersRight 92 = .ok (.iconst 0, 1) := by decide +kernel
theorem dL_areTransfersRight_93 : decode cL_areTransfersRight 93 = .ok (.istore 4, 2) := by decide +kernel
theorem dL_areTransfersRight_95 : decode cL_areTransfersRight 95 = .ok (.iconst 0, 1) := by decide +kernel
theorem dL_areTransfersRight_96 : decode cL_areTransfersRight 96 = .ok (.istore 5, 2) := by decide +kernel
theorem dL_areTransfersRight_98 : decode cL_areTransfersRight 98 = .ok (.iload 5, 2) := by decide +kernel
theorem dL_areTransfersRight_100 : decode cL_areTransfersRight 100 = .ok (.iconst 1, 1) := by decide +kernel
theorem dL_areTransfersRight_101 : decode cL_areTransfersRight 101 = .ok (.iadd, 1) := by decide +kernel
theorem dL_areTransfersRight_102 : decode cL_areTransfersRight 102 = .ok (.aload_n 0, 1) := by decide +kernel
theorem dL_areTransfersRight_103 : decode cL_areTransfersRight 103 = .ok (.invokevirtual 112, 3) := by decide +kernel
theorem dL_areTransfersRight_106 : decode cL_areTransfersRight 106 = .ok (.if_icmp .ge 80, 3) := by decide +kernel
theorem dL_areTransfersRight_109 : decode cL_areTransfersRight 109 = .ok (.aload_n 0, 1) := by decide +kernel
theorem dL_areTransfersRight_110 : decode cL_areTransfersRight 110 = .ok (.iload 5, 2) := by decide +kernel
theorem dL_areTransfersRight_112 : decode cL_areTransfersRight 112 = .ok (.invokevirtual 68, 3) := by decide +kernel
theorem dL_areTransfersRight_115 : decode cL_areTransfersRight 115 = .ok (.istore 6, 2) := by decide +kernel
theorem dL_areTransfersRight_117 : decode cL_areTransfersRight 117 = .ok (.aload_n 0, 1) := by decide +kernel
theorem dL_areTransfersRight_118 : decode cL_areTransfersRight 118 = .ok (.iload 5, 2) := by decide +kernel
theorem dL_areTransfersRight_120 : decode cL_areTransfersRight 120 = .ok (.iconst 1, 1) := by decide +kernel
theorem dL_areTransfersRight_121 : decode cL_areTransfersRight 121 = .ok (.iadd, 1) := by decide +kernel
theorem dL_areTransfersRight_122 : decode cL_areTransfersRight 122 = .ok (.invokevirtual 68, 3) := by decide +kernel
theorem dL_areTransfersRight_125 : decode cL_areTransfersRight 125 = .ok (.istore 7, 2) := by decide +kernel
theorem dL_areTransfersRight_127 : decode cL_areTransfersRight 127 = .ok (.aload_n 0, 1) := by decide +kernel
theorem dL_areTransfersRight_128 : decode cL_areTransfersRight 128 = .ok (.iload 7, 2) := by decide +kernel
theorem dL_areTransfersRight_130 : decode cL_areTransfersRight 130 = .ok (.invokevirtual 98, 3) := by decide +kernel
theorem dL_areTransfersRight_133 : decode cL_areTransfersRight 133 = .ok (.aload_n 0, 1) := by decide +kernel
theorem dL_areTransfersRight_134 : decode cL_areTransfersRight 134 = .ok (.iload 6, 2) := by decide +kernel
theorem dL_areTransfersRight_136 : decode cL_areTransfersRight 136 = .ok (.invokevirtual 98, 3) := by decide +kernel
theorem dL_areTransfersRight_139 : decode cL_areTransfersRight 139 = .ok (.isub, 1) := by decide +kernel
theorem dL_areTransfersRight_140 : decode cL_areTransfersRight 140 = .ok (.istore 8, 2) := by decide +kernel
theorem dL_areTransfersRight_142 : decode cL_areTransfersRight 142 = .ok (.iload 4, 2) := by decide +kernel
theorem dL_areTransfersRight_144 : decode cL_areTransfersRight 144 = .ok (.ifCond .eq 33, 3) := by decide +kernel
theorem dL_areTransfersRight_147 : decode cL_areTransfersRight 147 = .ok (.iload 8, 2) := by decide +kernel
theorem dL_areTransfersRight_149 : decode cL_areTransfersRight 149 = .ok (.ifCond .gt 15, 3) := by decide +kernel
theorem dL_areTransfersRight_152 : decode cL_areTransfersRight 152 = .ok (.iload 8, 2) := by decide +kernel
theorem dL_areTransfersRight_154 : decode cL_areTransfersRight 154 = .ok (.ifCond .ne 23, 3) := by decide +kernel
theorem dL_areTransfersRight_157 : decode cL_areTransfersRight 157 = .ok (.iload 6, 2) := by decide +kernel
theorem dL_areTransfersRight_159 : decode cL_areTransfersRight 159 = .ok (.iload 7, 2) := by decide +kernel
theorem dL_areTransfersRight_161 : decode cL_areTransfersRight 161 = .ok (.if_icmp .ge 16, 3) := by decide +kernel
theorem dL_areTransfersRight_164 : decode cL_areTransfersRight 164 = .ok (.aload_n 0, 1) := by decide +kernel
theorem dL_areTransfersRight_165 : decode cL_areTransfersRight 165 = .ok (.iload 6, 2) := by decide +kernel
theorem dL_areTransfersRight_167 : decode cL_areTransfersRight 167 = .ok (.invokevirtual 98, 3) := by decide +kernel
theorem dL_areTransfersRight_170 : decode cL_areTransfersRight 170 = .ok (.ifCond .lt 7, 3) := by decide +kernel
theorem dL_areTransfersRight_173 : decode cL_areTransfersRight 173 = .ok (.iconst 1, 1) := by decide +kernel
theorem dL_areTransfersRight_174 : decode cL_areTransfersRight 174 = .ok (.goto 4, 3) := by decide +kernel
theorem dL_areTransfersRight_177 : decode cL_areTransfersRight 177 = .ok (.iconst 0, 1) := by decide +kernel
theorem dL_areTransfersRight_178 : decode cL_areTransfersRight 178 = .ok (.istore 4, 2) := by decide +kernel
theorem dL_areTransfersRight_180 : decode cL_areTransfersRight 180 = .ok (.iinc 5 1, 3) := by decide +kernel
theorem dL_areTransfersRight_183 : decode cL_areTransfersRight 183 = .ok (.goto (-85), 3) := by decide +kernel
theorem dL_areTransfersRight_186 : decode cL_areTransfersRight 186 = .ok (.iconst 0, 1) := by decide +kernel
theorem dL_areTransfersRight_187 : decode cL_areTransfersRight 187 = .ok (.istore 5, 2) := by decide +kernel
theorem dL_areTransfersRight_189 : decode cL_areTransfersRight 189 = .ok (.iload 5, 2) := by decide +kernel
theorem dL_areTransfersRight_191 : decode cL_areTransfersRight 191 = .ok (.iload_n 3, 1) := by decide +kernel
theorem dL_areTransfersRight_192 : decode cL_areTransfersRight 192 = .ok (.if_icmp .ge 124, 3) := by decide +kernel
theorem dL_areTransfersRight_195 : decode cL_areTransfersRight 195 = .ok (.iconst 0, 1) := by decide +kernel
theorem dL_areTransfersRight_196 : decode cL_areTransfersRight 196 = .ok (.istore 6, 2) := by decide +kernel
theorem dL_areTransfersRight_198 : decode cL_areTransfersRight 198 = .ok (.iconst 0, 1) := by decide +kernel
theorem dL_areTransfersRight_199 : decode cL_areTransfersRight 199 = .ok (.istore 7, 2) := by decide +kernel
theorem dL_areTransfersRight_201 : decode cL_areTransfersRight 201 = .ok (.iload 7, 2) := by decide +kernel
theorem dL_areTransfersRight_203 : decode cL_areTransfersRight 203 = .ok (.aload_n 0, 1) := by decide +kernel
theorem dL_areTransfersRight_204 : decode cL_areTransfersRight 204 = .ok (.invokevirtual 112, 3) := by decide +kernel
theorem dL_areTransfersRight_207 : decode cL_areTransfersRight 207 = .ok (.if_icmp .ge 69, 3) := by decide +kernel
theorem dL_areTransfersRight_210 : decode cL_areTransfersRight 210 = .ok (.aload_n 0, 1) := by decide +kernel
theorem dL_areTransfersRight_211 : decode cL_areTransfersRight 211 = .ok (.iload 7, 2) := by decide +kernel
theorem dL_areTransfersRight_213 : decode cL_areTransfersRight 213 = .ok (.invokevirtual 68, 3) := by decide +kernel
theorem dL_areTransfersRight_216 : decode cL_areTransfersRight 216 = .ok (.istore 8, 2) := by decide +kernel
theorem dL_areTransfersRight_218 : decode cL_areTransfersRight 218 = .ok (.iload 6, 2) := by decide +kernel
theorem dL_areTransfersRight_220 : decode cL_areTransfersRight 220 = .ok (.aload_n 0, 1) := by decide +kernel
theorem dL_areTransfersRight_221 : decode cL_areTransfersRight 221 = .ok (.iload 8, 2) := by decide +kernel
theorem dL_areTransfersRight_223 : decode cL_areTransfersRight 223 = .ok (.invokevirtual 161, 3) := by decide +kernel
theorem dL_areTransfersRight_226 : decode cL_areTransfersRight 226 = .ok (.iload 5, 2) := by decide +kernel
theorem dL_areTransfersRight_228 : decode cL_areTransfersRight 228 = .ok (.if_icmp .ne 12, 3) := by decide +kernel
theorem dL_areTransfersRight_231 : decode cL_areTransfersRight 231 = .ok (.aload_n 0, 1) := by decide +kernel
theorem dL_areTransfersRight_232 : decode cL_areTransfersRight 232 = .ok (.iload 8, 2) := by decide +kernel
theorem dL_areTransfersRight_234 : decode cL_areTransfersRight 234 = .ok (.invokevirtual 71, 3) := by decide +kernel
theorem dL_areTransfersRight_237 : decode cL_areTransfersRight 237 = .ok (.goto 4, 3) := by decide +kernel
theorem dL_areTransfersRight_240 : decode cL_areTransfersRight 240 = .ok (.iconst 0, 1) := by decide +kernel
theorem dL_areTransfersRight_241 : decode cL_areTransfersRight 241 = .ok (.iadd, 1) := by decide +kernel
theorem dL_areTransfersRight_242 : decode cL_areTransfersRight 242 = .ok (.istore 6, 2) := by decide +kernel
theorem dL_areTransfersRight_244 : decode cL_areTransfersRight 244 = .ok (.iload 6, 2) := by decide +kernel
theorem dL_areTransfersRight_246 : decode cL_areTransfersRight 246 = .ok (.aload_n 0, 1) := by decide +kernel
theorem dL_areTransfersRight_247 : decode cL_areTransfersRight 247 = .ok (.iload 8, 2) := by decide +kernel
theorem dL_areTransfersRight_249 : decode cL_areTransfersRight 249 = .ok (.invokevirtual 158, 3) := by decide +kernel
theorem dL_areTransfersRight_252 : decode cL_areTransfersRight 252 = .ok (.iload 5, 2) := by decide +kernel
theorem dL_areTransfersRight_254 : decode cL_areTransfersRight 254 = .ok (.if_icmp .ne 12, 3) := by decide +kernel
theorem dL_areTransfersRight_257 : decode cL_areTransfersRight 257 = .ok (.aload_n 0, 1) := by decide +kernel
theorem dL_areTransfersRight_258 : decode cL_areTransfersRight 258 = .ok (.iload 8, 2) := by decide +kernel
theorem dL_areTransfersRight_260 : decode cL_areTransfersRight 260 = .ok (.invokevirtual 71, 3) := by decide +kernel
theorem dL_areTransfersRight_263 : decode cL_areTransfersRight 263 = .ok (.goto 4, 3) := by decide +kernel
theorem dL_areTransfersRight_266 : decode cL_areTransfersRight 266 = .ok (.iconst 0, 1) := by decide +kernel
theorem dL_areTransfersRight_267 : decode cL_areTransfersRight 267 = .ok (.isub, 1) := by decide +kernel
theorem dL_areTransfersRight_268 : decode cL_areTransfersRight 268 = .ok (.istore 6, 2) := by decide +kernel
theorem dL_areTransfersRight_270 : decode cL_areTransfersRight 270 = .ok (.iinc 7 1, 3) := by decide +kernel
theorem dL_areTransfersRight_273 : decode cL_areTransfersRight 273 = .ok (.goto (-72), 3) := by decide +kernel
theorem dL_areTransfersRight_276 : decode cL_areTransfersRight 276 = .ok (.iload 4, 2) := by decide +kernel
theorem dL_areTransfersRight_278 : decode cL_areTransfersRight 278 = .ok (.ifCond .eq 29, 3) := by decide +kernel
theorem dL_areTransfersRight_281 : decode cL_areTransfersRight 281 = .ok (.aload_n 0, 1) := by decide +kernel
theorem dL_areTransfersRight_282 : decode cL_areTransfersRight 282 = .ok (.iload 5, 2) := by decide +kernel
theorem dL_areTransfersRight_284 : decode cL_areTransfersRight 284 = .ok (.invokevirtual 82, 3) := by decide +kernel
theorem dL_areTransfersRight_287 : decode cL_areTransfersRight 287 = .ok (.iload 6, 2) := by decide +kernel
theorem dL_areTransfersRight_289 : decode cL_areTransfersRight 289 = .ok (.if_icmp .ne 18, 3) := by decide +kernel
theorem dL_areTransfersRight_292 : decode cL_areTransfersRight 292 = .ok (.aload_n 0, 1) := by decide +kernel
theorem dL_areTransfersRight_293 : decode cL_areTransfersRight 293 = .ok (.iload 5, 2) := by decide +kernel
theorem dL_areTransfersRight_295 : decode cL_areTransfersRight 295 = .ok (.invokevirtual 249, 3) := by decide +kernel
theorem dL_areTransfersRight_298 : decode cL_areTransfersRight 298 = .ok (.iload 6, 2) := by decide +kernel
theorem dL_areTransfersRight_300 : decode cL_areTransfersRight 300 = .ok (.if_icmp .ne 7, 3) := by decide +kernel
theorem dL_areTransfersRight_303 : decode cL_areTransfersRight 303 = .ok (.iconst 1, 1) := by decide +kernel
theorem dL_areTransfersRight_304 : decode cL_areTransfersRight 304 = .ok (.goto 4, 3) := by decide +kernel
theorem dL_areTransfersRight_307 : decode cL_areTransfersRight 307 = .ok (.iconst 0, 1) := by decide +kernel
theorem dL_areTransfersRight_308 : decode cL_areTransfersRight 308 = .ok (.istore 4, 2) := by decide +kernel
theorem dL_areTransfersRight_310 : decode cL_areTransfersRight 310 = .ok (.iinc 5 1, 3) := by decide +kernel
theorem dL_areTransfersRight_313 : decode cL_areTransfersRight 313 = .ok (.goto (-124), 3) := by decide +kernel
theorem dL_areTransfersRight_316 : decode cL_areTransfersRight 316 = .ok (.iload 4, 2) := by decide +kernel
theorem dL_areTransfersRight_318 : decode cL_areTransfersRight 318 = .ok (.ifCond .eq 35, 3) := by decide +kernel
theorem dL_areTransfersRight_321 : decode cL_areTransfersRight 321 = .ok (.iload_n 3, 1) := by decide +kernel
theorem dL_areTransfersRight_322 : decode cL_areTransfersRight 322 = .ok (.ifCond .eq 27, 3) := by decide +kernel
theorem dL_areTransfersRight_325 : decode cL_areTransfersRight 325 = .ok (.aload_n 0, 1) := by decide +kernel
theorem dL_areTransfersRight_326 : decode cL_areTransfersRight 326 = .ok (.iload_n 1, 1) := by decide +kernel
theorem dL_areTransfersRight_327 : decode cL_areTransfersRight 327 = .ok (.iload_n 2, 1) := by decide +kernel
theorem dL_areTransfersRight_328 : decode cL_areTransfersRight 328 = .ok (.invokevirtual 85, 3) := by decide +kernel
theorem dL_areTransfersRight_331 : decode cL_areTransfersRight 331 = .ok (.aload_n 0, 1) := by decide +kernel
theorem dL_areTransfersRight_332 : decode cL_areTransfersRight 332 = .ok (.iload_n 1, 1) := by decide +kernel
theorem dL_areTransfersRight_333 : decode cL_areTransfersRight 333 = .ok (.iload_n 2, 1) := by decide +kernel
theorem dL_areTransfersRight_334 : decode cL_areTransfersRight 334 = .ok (.iconst 4, 1) := by decide +kernel
theorem dL_areTransfersRight_335 : decode cL_areTransfersRight 335 = .ok (.invokestatic 245, 3) := by decide +kernel
theorem dL_areTransfersRight_338 : decode cL_areTransfersRight 338 = .ok (.if_icmp .eq 11, 3) := by decide +kernel
theorem dL_areTransfersRight_341 : decode cL_areTransfersRight 341 = .ok (.aload_n 0, 1) := by decide +kernel
theorem dL_areTransfersRight_342 : decode cL_areTransfersRight 342 = .ok (.invokevirtual 112, 3) := by decide +kernel
theorem dL_areTransfersRight_345 : decode cL_areTransfersRight 345 = .ok (.iconst 4, 1) := by decide +kernel
theorem dL_areTransfersRight_346 : decode cL_areTransfersRight 346 = .ok (.if_icmp .le 7, 3) := by decide +kernel
theorem dL_areTransfersRight_349 : decode cL_areTransfersRight 349 = .ok (.iconst 1, 1) := by decide +kernel
theorem dL_areTransfersRight_350 : decode cL_areTransfersRight 350 = .ok (.goto 4, 3) := by decide +kernel
theorem dL_areTransfersRight_353 : decode cL_areTransfersRight 353 = .ok (.iconst 0, 1) := by decide +kernel
theorem dL_areTransfersRight_354 : decode cL_areTransfersRight 354 = .ok (.ireturn, 1) := by decide +kernel
theorem dL_arePredictionsRight_0 : decode cL_arePredictionsRight 0 = .ok (.aload_n 0, 1) := by decide +kernel
theorem dL_arePredictionsRight_1 : decode cL_arePredictionsRight 1 = .ok (.invokevirtual 115, 3) := by decide +kernel
theorem dL_arePredictionsRight_4 : decode cL_arePredictionsRight 4 = .ok (.istore_n 2, 1) := by decide +kernel
theorem dL_arePredictionsRight_5 : decode cL_arePredictionsRight 5 = .ok (.aload_n 0, 1) := by decide +kernel
theorem dL_arePredictionsRight_6 : decode cL_arePredictionsRight 6 = .ok (.invokevirtual 112, 3) := by decide +kernel
theorem dL_arePredictionsRight_9 : decode cL_arePredictionsRight 9 = .ok (.istore_n 3, 1) := by decide +kernel
theorem dL_arePredictionsRight_10 : decode cL_arePredictionsRight 10 = .ok (.iload_n 2, 1) := by decide +kernel
theorem dL_arePredictionsRight_11 : decode cL_arePredictionsRight 11 = .ok (.newarray .int, 2) := by decide +kernel
theorem dL_arePredictionsRight_13 : decode cL_arePredictionsRight 13 = .ok (.astore 4, 2) := by decide +kernel
theorem dL_arePredictionsRight_15 : decode cL_arePredictionsRight 15 = .ok (.iload_n 3, 1) := by decide +kernel
theorem dL_arePredictionsRight_16 : decode cL_arePredictionsRight 16 = .ok (.newarray .int, 2) := by decide +kernel
theorem dL_arePredictionsRight_18 : decode cL_arePredictionsRight 18 = .ok (.astore 5, 2) := by decide +kernel
theorem dL_arePredictionsRight_20 : decode cL_arePredictionsRight 20 = .ok (.iload_n 3, 1) := by decide +kernel
theorem dL_arePredictionsRight_21 : decode cL_arePredictionsRight 21 = .ok (.newarray .int, 2) := by decide +kernel
theorem dL_arePredictionsRight_23 : decode cL_arePredictionsRight 23 = .ok (.astore 6, 2) := by decide +kernel
theorem dL_arePredictionsRight_25 : decode cL_arePredictionsRight 25 = .ok (.iload_n 3, 1) := by decide +kernel
theorem dL_arePredictionsRight_26 : decode cL_arePredictionsRight 26 = .ok (.newarray .boolean, 2) := by decide +kernel
theorem dL_arePredictionsRight_28 : decode cL_arePredictionsRight 28 = .ok (.astore 7, 2) := by decide +kernel
theorem dL_arePredictionsRight_30 : decode cL_arePredictionsRight 30 = .ok (.aload_n 0, 1) := by decide +kernel
theorem dL_arePredictionsRight_31 : decode cL_arePredictionsRight 31 = .ok (.iconst 2, 1) := by decide +kernel
theorem dL_arePredictionsRight_32 : decode cL_arePredictionsRight 32 = .ok (.iload_n 2, 1) := by decide +kernel
theorem dL_arePredictionsRight_33 : decode cL_arePredictionsRight 33 = .ok (.iconst 1, 1) := by decide +kernel
theorem dL_arePredictionsRight_34 : decode cL_arePredictionsRight 34 = .ok (.invokestatic 188, 3) := by decide +kernel
theorem dL_arePredictionsRight_37 : decode cL_arePredictionsRight 37 = .ok (.sipush (-20002), 3) := by decide +kernel
theorem dL_arePredictionsRight_40 : decode cL_arePredictionsRight 40 = .ok (.if_icmp .ne 52, 3) := by decide +kernel
theorem dL_arePredictionsRight_43 : decode cL_arePredictionsRight 43 = .ok (.iload_n 2, 1) := by decide +kernel
theorem dL_arePredictionsRight_44 : decode cL_arePredictionsRight 44 = .ok (.ifCond .eq 44, 3) := by decide +kernel
theorem dL_arePredictionsRight_47 : decode cL_arePredictionsRight 47 = .ok (.aload_n 0, 1) := by decide +kernel
theorem dL_arePredictionsRight_48 : decode cL_arePredictionsRight 48 = .ok (.iconst 2, 1) := by decide +kernel
theorem dL_arePredictionsRight_49 : decode cL_arePredictionsRight 49 = .ok (.iconst 0, 1) := by decide +kernel
theorem dL_arePredictionsRight_50 : decode cL_arePredictionsRight 50 = .ok (.bipush 61, 2) := by decide +kernel
theorem dL_arePredictionsRight_52 : decode cL_arePredictionsRight 52 = .ok (.invokestatic 188, 3) := by decide +kernel
theorem dL_arePredictionsRight_55 : decode cL_arePredictionsRight 55 = .ok (.sipush (-20003), 3) := by decide +kernel
theorem dL_arePredictionsRight_58 : decode cL_arePredictionsRight 58 = .ok (.if_icmp .ne 34, 3) := by decide +kernel
theorem dL_arePredictionsRight_61 : decode cL_arePredictionsRight 61 = .ok (.aload_n 0, 1) := by decide +kernel
theorem dL_arePredictionsRight_62 : decode cL_arePredictionsRight 62 = .ok (.iconst 2, 1) := by decide +kernel
theorem dL_arePredictionsRight_63 : decode cL_arePredictionsRight 63 = .ok (.iconst 0, 1) := by decide +kernel
theorem dL_arePredictionsRight_64 : decode cL_arePredictionsRight 64 = .ok (.iconst (-1), 1) := by decide +kernel
theorem dL_arePredictionsRight_65 : decode cL_arePredictionsRight 65 = .ok (.invokestatic 188, 3) := by decide +kernel
theorem dL_arePredictionsRight_68 : decode cL_arePredictionsRight 68 = .ok (.sipush (-20003), 3) := by decide +kernel
theorem dL_arePredictionsRight_71 : decode cL_arePredictionsRight 71 = .ok (.if_icmp .ne 21, 3) := by decide +kernel
theorem dL_arePredictionsRight_74 : decode cL_arePredictionsRight 74 = .ok (.aload_n 0, 1) := by decide +kernel
theorem dL_arePredictionsRight_75 : decode cL_arePredictionsRight 75 = .ok (.iconst 0, 1) := by decide +kernel
theorem dL_arePredictionsRight_76 : decode cL_arePredictionsRight 76 = .ok (.iconst 0, 1) := by decide +kernel
theorem dL_arePredictionsRight_77 : decode cL_arePredictionsRight 77 = .ok (.invokevirtual 65, 3) := by decide +kernel
theorem dL_arePredictionsRight_80 : decode cL_arePredictionsRight 80 = .ok (.aload_n 0, 1) := by decide +kernel
theorem dL_arePredictionsRight_81 : decode cL_arePredictionsRight 81 = .ok (.iconst 0, 1) := by decide +kernel
theorem dL_arePredictionsRight_82 : decode cL_arePredictionsRight 82 = .ok (.invokevirtual 59, 3) := by decide +kernel
theorem dL_arePredictionsRight_85 : decode cL_arePredictionsRight 85 = .ok (.if_icmp .ne 7, 3) := by decide +kernel
theorem dL_arePredictionsRight_88 : decode cL_arePredictionsRight 88 = .ok (.iconst 1, 1) := by decide +kernel
theorem dL_arePredictionsRight_89 : decode cL_arePredictionsRight 89 = .ok (.goto 4, 3) := by decide +kernel
theorem dL_arePredictionsRight_92 : decode cL_arePredictionsRight 92 = .ok (.iconst 0, 1) := by decide +kernel
theorem dL_arePredictionsRight_93 : decode cL_arePredictionsRight 93 = .ok (.istore 8, 2) := by decide +kernel
theorem dL_arePredictionsRight_95 : decode cL_arePredictionsRight 95 = .ok (.iconst 0, 1) := by decide +kernel
theorem dL_arePredictionsRight_96 : decode cL_arePredictionsRight 96 = .ok (.istore 9, 2) := by decide +kernel
theorem dL_arePredictionsRight_98 : decode cL_arePredictionsRight 98 = .ok (.iload 9, 2) := by decide +kernel
theorem dL_arePredictionsRight_100 : decode cL_arePredictionsRight 100 = .ok (.iload_n 2, 1) := by decide +kernel
theorem dL_arePredictionsRight_101 : decode cL_arePredictionsRight 101 = .ok (.if_icmp .ge 21, 3) := by decide +kernel
theorem dL_arePredictionsRight_104 : decode cL_arePredictionsRight 104 = .ok (.aload 4, 2) := by decide +kernel
theorem dL_arePredictionsRight_106 : decode cL_arePredictionsRight 106 = .ok (.iload 9, 2) := by decide +kernel
theorem dL_arePredictionsRight_108 : decode cL_arePredictionsRight 108 = .ok (.aload_n 0, 1) := by decide +kernel
theorem dL_arePredictionsRight_109 : decode cL_arePredictionsRight 109 = .ok (.iload 9, 2) := by decide +kernel
theorem dL_arePredictionsRight_111 : decode cL_arePredictionsRight 111 = .ok (.iload_n 1, 1) := by decide +kernel
theorem dL_arePredictionsRight_112 : decode cL_arePredictionsRight 112 = .ok (.invokevirtual 65, 3) := by decide +kernel
theorem dL_arePredictionsRight_115 : decode cL_arePredictionsRight 115 = .ok (.iastore, 1) := by decide +kernel
theorem dL_arePredictionsRight_116 : decode cL_arePredictionsRight 116 = .ok (.iinc 9 1, 3) := by decide +kernel
theorem dL_arePredictionsRight_119 : decode cL_arePredictionsRight 119 = .ok (.goto (-21), 3) := by decide +kernel
theorem dL_arePredictionsRight_122 : decode cL_arePredictionsRight 122 = .ok (.iconst 0, 1) := by decide +kernel
theorem dL_arePredictionsRight_123 : decode cL_arePredictionsRight 123 = .ok (.istore 9, 2) := by decide +kernel
theorem dL_arePredictionsRight_125 : decode cL_arePredictionsRight 125 = .ok (.iload 9, 2) := by decide +kernel
theorem dL_arePredictionsRight_127 : decode cL_arePredictionsRight 127 = .ok (.iload_n 3, 1) := by decide +kernel
theorem dL_arePredictionsRight_128 : decode cL_arePredictionsRight 128 = .ok (.if_icmp .ge 48, 3) := by decide +kernel
theorem dL_arePredictionsRight_131 : decode cL_arePredictionsRight 131 = .ok (.aload 5, 2) := by decide +kernel
theorem dL_arePredictionsRight_133 : decode cL_arePredictionsRight 133 = .ok (.iload 9, 2) := by decide +kernel
theorem dL_arePredictionsRight_135 : decode cL_arePredictionsRight 135 = .ok (.aload_n 0, 1) := by decide +kernel
theorem dL_arePredictionsRight_136 : decode cL_arePredictionsRight 136 = .ok (.iload 9, 2) := by decide +kernel
theorem dL_arePredictionsRight_138 : decode cL_arePredictionsRight 138 = .ok (.invokevirtual 68, 3) := by decide +kernel
theorem dL_arePredictionsRight_141 : decode cL_arePredictionsRight 141 = .ok (.iastore, 1) := by decide +kernel
theorem dL_arePredictionsRight_142 : decode cL_arePredictionsRight 142 = .ok (.aload 6, 2) := by decide +kernel
theorem dL_arePredictionsRight_144 : decode cL_arePredictionsRight 144 = .ok (.iload 9, 2) := by decide +kernel
theorem dL_arePredictionsRight_146 : decode cL_arePredictionsRight 146 = .ok (.aload_n 0, 1) := by decide +kernel
theorem dL_arePredictionsRight_147 : decode cL_arePredictionsRight 147 = .ok (.aload 5, 2) := by decide +kernel
theorem dL_arePredictionsRight_149 : decode cL_arePredictionsRight 149 = .ok (.iload 9, 2) := by decide +kernel
theorem dL_arePredictionsRight_151 : decode cL_arePredictionsRight 151 = .ok (.iaload, 1) := by decide +kernel
theorem dL_arePredictionsRight_152 : decode cL_arePredictionsRight 152 = .ok (.invokevirtual 98, 3) := by decide +kernel
theorem dL_arePredictionsRight_155 : decode cL_arePredictionsRight 155 = .ok (.iastore, 1) := by decide +kernel
theorem dL_arePredictionsRight_156 : decode cL_arePredictionsRight 156 = .ok (.aload 7, 2) := by decide +kernel
theorem dL_arePredictionsRight_158 : decode cL_arePredictionsRight 158 = .ok (.iload 9, 2) := by decide +kernel
theorem dL_arePredictionsRight_160 : decode cL_arePredictionsRight 160 = .ok (.aload_n 0, 1) := by decide +kernel
theorem dL_arePredictionsRight_161 : decode cL_arePredictionsRight 161 = .ok (.aload 5, 2) := by decide +kernel
theorem dL_arePredictionsRight_163 : decode cL_arePredictionsRight 163 = .ok (.iload 9, 2) := by decide +kernel
theorem dL_arePredictionsRight_165 : decode cL_arePredictionsRight 165 = .ok (.iaload, 1) := by decide +kernel
theorem dL_arePredictionsRight_166 : decode cL_arePredictionsRight 166 = .ok (.invokevirtual 74, 3) := by decide +kernel
theorem dL_arePredictionsRight_169 : decode cL_arePredictionsRight 169 = .ok (.bastore, 1) := by decide +kernel
theorem dL_arePredictionsRight_170 : decode cL_arePredictionsRight 170 = .ok (.iinc 9 1, 3) := by decide +kernel
theorem dL_arePredictionsRight_173 : decode cL_arePredictionsRight 173 = .ok (.goto (-48), 3) := by decide +kernel
theorem dL_arePredictionsRight_176 : decode cL_arePredictionsRight 176 = .ok (.aload_n 0, 1) := by decide +kernel
theorem dL_arePredictionsRight_177 : decode cL_arePredictionsRight 177 = .ok (.invokevirtual 252, 3) := by decide +kernel
theorem dL_arePredictionsRight_180 : decode cL_arePredictionsRight 180 = .ok (.istore 9, 2) := by decide +kernel
theorem dL_arePredictionsRight_182 : decode cL_arePredictionsRight 182 = .ok (.aload_n 0, 1) := by decide +kernel
theorem dL_arePredictionsRight_183 : decode cL_arePredictionsRight 183 = .ok (.invokevirtual 133, 3) := by decide +kernel
theorem dL_arePredictionsRight_186 : decode cL_arePredictionsRight 186 = .ok (.istore 10, 2) := by decide +kernel
theorem dL_arePredictionsRight_188 : decode cL_arePredictionsRight 188 = .ok (.aload_n 0, 1) := by decide +kernel
theorem dL_arePredictionsRight_189 : decode cL_arePredictionsRight 189 = .ok (.iload_n 1, 1) := by decide +kernel
theorem dL_arePredictionsRight_190 : decode cL_arePredictionsRight 190 = .ok (.invokevirtual 38, 3) := by decide +kernel
theorem dL_arePredictionsRight_193 : decode cL_arePredictionsRight 193 = .ok (.istore 11, 2) := by decide +kernel
theorem dL_arePredictionsRight_195 : decode cL_arePredictionsRight 195 = .ok (.iconst 0, 1) := by decide +kernel
theorem dL_arePredictionsRight_196 : decode cL_arePredictionsRight 196 = .ok (.istore 12, 2) := by decide +kernel
theorem dL_arePredictionsRight_198 : decode cL_arePredictionsRight 198 = .ok (.iload 12, 2) := by decide +kernel
theorem dL_arePredictionsRight_200 : decode cL_arePredictionsRight 200 = .ok (.iload_n 2, 1) := by decide +kernel
theorem dL_arePredictionsRight_201 : decode cL_arePredictionsRight 201 = .ok (.if_icmp .ge 44, 3) := by decide +kernel
theorem dL_arePredictionsRight_204 : decode cL_arePredictionsRight 204 = .ok (.iload 8, 2) := by decide +kernel
theorem dL_arePredictionsRight_206 : decode cL_arePredictionsRight 206 = .ok (.ifCond .eq 30, 3) := by decide +kernel
theorem dL_arePredictionsRight_209 : decode cL_arePredictionsRight 209 = .ok (.aload_n 0, 1) := by decide +kernel
theorem dL_arePredictionsRight_210 : decode cL_arePredictionsRight 210 = .ok (.iload 12, 2) := by decide +kernel
theorem dL_arePredictionsRight_212 : decode cL_arePredictionsRight 212 = .ok (.invokevirtual 59, 3) := by decide +kernel
theorem dL_arePredictionsRight_215 : decode cL_arePredictionsRight 215 = .ok (.aload 4, 2) := by decide +kernel
theorem dL_arePredictionsRight_217 : decode cL_arePredictionsRight 217 = .ok (.iload 12, 2) := by decide +kernel
theorem dL_arePredictionsRight_219 : decode cL_arePredictionsRight 219 = .ok (.iaload, 1) := by decide +kernel
theorem dL_arePredictionsRight_220 : decode cL_arePredictionsRight 220 = .ok (.if_icmp .ne 16, 3) := by decide +kernel
theorem dL_arePredictionsRight_223 : decode cL_arePredictionsRight 223 = .ok (.aload_n 0, 1) := by decide +kernel
theorem dL_arePredictionsRight_224 : decode cL_arePredictionsRight 224 = .ok (.iload 12, 2) := by decide +kernel
theorem dL_arePredictionsRight_226 : decode cL_arePredictionsRight 226 = .ok (.invokevirtual 155, 3) := by decide +kernel
theorem dL_arePredictionsRight_229 : decode cL_arePredictionsRight 229 = .ok (.ifCond .ne 7, 3) := by decide +kernel
theorem dL_arePredictionsRight_232 : decode cL_arePredictionsRight 232 = .ok (.iconst 1, 1) := by decide +kernel
theorem dL_arePredictionsRight_233 : decode cL_arePredictionsRight 233 = .ok (.goto 4, 3) := by decide +kernel
theorem dL_arePredictionsRight_236 : decode cL_arePredictionsRight 236 = .ok (.iconst 0, 1) := by decide +kernel
theorem dL_arePredictionsRight_237 : decode cL_arePredictionsRight 237 = .ok (.istore 8, 2) := by decide +kernel
theorem dL_arePredictionsRight_239 : decode cL_arePredictionsRight 239 = .ok (.iinc 12 1, 3) := by decide +kernel
theorem dL_arePredictionsRight_242 : decode cL_arePredictionsRight 242 = .ok (.goto (-44), 3) := by decide +kernel
theorem dL_arePredictionsRight_245 : decode cL_arePredictionsRight 245 = .ok (.iconst 0, 1) := by decide +kernel
theorem dL_arePredictionsRight_246 : decode cL_arePredictionsRight 246 = .ok (.istore 12, 2) := by decide +kernel
theorem dL_arePredictionsRight_248 : decode cL_arePredictionsRight 248 = .ok (.iconst 0, 1) := by decide +kernel
theorem dL_arePredictionsRight_249 : decode cL_arePredictionsRight 249 = .ok (.istore 13, 2) := by decide +kernel
theorem dL_arePredictionsRight_251 : decode cL_arePredictionsRight 251 = .ok (.iconst 0, 1) := by decide +kernel
theorem dL_arePredictionsRight_252 : decode cL_arePredictionsRight 252 = .ok (.istore 14, 2) := by decide +kernel
theorem dL_arePredictionsRight_254 : decode cL_arePredictionsRight 254 = .ok (.iload 14, 2) := by decide +kernel
theorem dL_arePredictionsRight_256 : decode cL_arePredictionsRight 256 = .ok (.iload_n 3, 1) := by decide +kernel
theorem dL_arePredictionsRight_257 : decode cL_arePredictionsRight 257 = .ok (.if_icmp .ge 111, 3) := by decide +kernel
theorem dL_arePredictionsRight_260 : decode cL_arePredictionsRight 260 = .ok (.aload 6, 2) := by decide +kernel
theorem dL_arePredictionsRight_262 : decode cL_arePredictionsRight 262 = .ok (.iload 14, 2) := by decide +kernel
theorem dL_arePredictionsRight_264 : decode cL_arePredictionsRight 264 = .ok (.iaload, 1) := by decide +kernel
theorem dL_arePredictionsRight_265 : decode cL_arePredictionsRight 265 = .ok (.iload_n 1, 1) := by decide +kernel
theorem dL_arePredictionsRight_266 : decode cL_arePredictionsRight 266 = .ok (.if_icmp .ge 7, 3) := by decide +kernel
theorem dL_arePredictionsRight_269 : decode cL_arePredictionsRight 269 = .ok (.iconst 1, 1) := by decide +kernel
theorem dL_arePredictionsRight_270 : decode cL_arePredictionsRight 270 = .ok (.goto 4, 3) := by decide +kernel
theorem dL_arePredictionsRight_273 : decode cL_arePredictionsRight 273 = .ok (.iconst 0, 1) := by decide +kernel
theorem dL_arePredictionsRight_274 : decode cL_arePredictionsRight 274 = .ok (.istore 15, 2) := by decide +kernel
theorem dL_arePredictionsRight_276 : decode cL_arePredictionsRight 276 = .ok (.iload 12, 2) := by decide +kernel
theorem dL_arePredictionsRight_278 : decode cL_arePredictionsRight 278 = .ok (.iload 15, 2) := by decide +kernel
theorem dL_arePredictionsRight_280 : decode cL_arePredictionsRight 280 = .ok (.ifCond .eq 15, 3) := by decide +kernel
theorem dL_arePredictionsRight_283 : decode cL_arePredictionsRight 283 = .ok (.aload 7, 2) := by decide +kernel
theorem dL_arePredictionsRight_285 : decode cL_arePredictionsRight 285 = .ok (.iload 14, 2) := by decide +kernel
theorem dL_arePredictionsRight_287 : decode cL_arePredictionsRight 287 = .ok (.baload, 1) := by decide +kernel
theorem dL_arePredictionsRight_288 : decode cL_arePredictionsRight 288 = .ok (.ifCond .ne 7, 3) := by decide +kernel
theorem dL_arePredictionsRight_291 : decode cL_arePredictionsRight 291 = .ok (.iconst 1, 1) := by decide +kernel
theorem dL_arePredictionsRight_292 : decode cL_arePredictionsRight 292 = .ok (.goto 4, 3) := by decide +kernel
theorem dL_arePredictionsRight_295 : decode cL_arePredictionsRight 295 = .ok (.iconst 0, 1) := by decide +kernel
theorem dL_arePredictionsRight_296 : decode cL_arePredictionsRight 296 = .ok (.iadd, 1) := by decide +kernel
theorem dL_arePredictionsRight_297 : decode cL_arePredictionsRight 297 = .ok (.istore 12, 2) := by decide +kernel
theorem dL_arePredictionsRight_299 : decode cL_arePredictionsRight 299 = .ok (.iload 13, 2) := by decide +kernel
theorem dL_arePredictionsRight_301 : decode cL_arePredictionsRight 301 = .ok (.iload 15, 2) := by decide +kernel
theorem dL_arePredictionsRight_303 : decode cL_arePredictionsRight 303 = .ok (.ifCond .eq 15, 3) := by decide +kernel
theorem dL_arePredictionsRight_306 : decode cL_arePredictionsRight 306 = .ok (.aload 7, 2) := by decide +kernel
theorem dL_arePredictionsRight_308 : decode cL_arePredictionsRight 308 = .ok (.iload 14, 2) := by decide +kernel
theorem dL_arePredictionsRight_310 : decode cL_arePredictionsRight 310 = .ok (.baload, 1) := by decide +kernel
theorem dL_arePredictionsRight_311 : decode cL_arePredictionsRight 311 = .ok (.ifCond .eq 7, 3) := by decide +kernel
theorem dL_arePredictionsRight_314 : decode cL_arePredictionsRight 314 = .ok (.iconst 1, 1) := by decide +kernel
theorem dL_arePredictionsRight_315 : decode cL_arePredictionsRight 315 = .ok (.goto 4, 3) := by decide +kernel
theorem dL_arePredictionsRight_318 : decode cL_arePredictionsRight 318 = .ok (.iconst 0, 1) := by decide +kernel
theorem dL_arePredictionsRight_319 : decode cL_arePredictionsRight 319 = .ok (.iadd, 1) := by decide +kernel
theorem dL_arePredictionsRight_320 : decode cL_arePredictionsRight 320 = .ok (.istore 13, 2) := by decide +kernel
theorem dL_arePredictionsRight_322 : decode cL_arePredictionsRight 322 = .ok (.iload 8, 2) := by decide +kernel
theorem dL_arePredictionsRight_324 : decode cL_arePredictionsRight 324 = .ok (.ifCond .eq 35, 3) := by decide +kernel
theorem dL_arePredictionsRight_327 : decode cL_arePredictionsRight 327 = .ok (.aload_n 0, 1) := by decide +kernel
theorem dL_arePredictionsRight_328 : decode cL_arePredictionsRight 328 = .ok (.bipush 11, 2) := by decide +kernel
theorem dL_arePredictionsRight_330 : decode cL_arePredictionsRight 330 = .ok (.aload 5, 2) := by decide +kernel
theorem dL_arePredictionsRight_332 : decode cL_arePredictionsRight 332 = .ok (.iload 14, 2) := by decide +kernel
theorem dL_arePredictionsRight_334 : decode cL_arePredictionsRight 334 = .ok (.iaload, 1) := by decide +kernel
theorem dL_arePredictionsRight_335 : decode cL_arePredictionsRight 335 = .ok (.iconst 0, 1) := by decide +kernel
theorem dL_arePredictionsRight_336 : decode cL_arePredictionsRight 336 = .ok (.invokestatic 188, 3) := by decide +kernel
theorem dL_arePredictionsRight_339 : decode cL_arePredictionsRight 339 = .ok (.sipush (-20004), 3) := by decide +kernel
theorem dL_arePredictionsRight_342 : decode cL_arePredictionsRight 342 = .ok (.if_icmp .ne 7, 3) := by decide +kernel
theorem dL_arePredictionsRight_345 : decode cL_arePredictionsRight 345 = .ok (.iconst 1, 1) := by decide +kernel
theorem dL_arePredictionsRight_346 : decode cL_arePredictionsRight 346 = .ok (.goto 4, 3) := by decide +kernel
theorem dL_arePredictionsRight_349 : decode cL_arePredictionsRight 349 = .ok (.iconst 0, 1) := by decide +kernel
theorem dL_arePredictionsRight_350 : decode cL_arePredictionsRight 350 = .ok (.iload 15, 2) := by decide +kernel
theorem dL_arePredictionsRight_352 : decode cL_arePredictionsRight 352 = .ok (.if_icmp .ne 7, 3) := by decide +kernel
theorem dL_arePredictionsRight_355 : decode cL_arePredictionsRight 355 = .ok (.iconst 1, 1) := by decide +kernel
theorem dL_arePredictionsRight_356 : decode cL_arePredictionsRight 356 = .ok (.goto 4, 3) := by decide +kernel
theorem dL_arePredictionsRight_359 : decode cL_arePredictionsRight 359 = .ok (.iconst 0, 1) := by decide +kernel
theorem dL_arePredictionsRight_360 : decode cL_arePredictionsRight 360 = .ok (.istore 8, 2) := by decide +kernel
theorem dL_arePredictionsRight_362 : decode cL_arePredictionsRight 362 = .ok (.iinc 14 1, 3) := by decide +kernel
theorem dL_arePredictionsRight_365 : decode cL_arePredictionsRight 365 = .ok (.goto (-111), 3) := by decide +kernel
theorem dL_arePredictionsRight_368 : decode cL_arePredictionsRight 368 = .ok (.iload 8, 2) := by decide +kernel
theorem dL_arePredictionsRight_370 : decode cL_arePredictionsRight 370 = .ok (.ifCond .eq 26, 3) := by decide +kernel
theorem dL_arePredictionsRight_373 : decode cL_arePredictionsRight 373 = .ok (.iload 11, 2) := by decide +kernel
theorem dL_arePredictionsRight_375 : decode cL_arePredictionsRight 375 = .ok (.iload 12, 2) := by decide +kernel
theorem dL_arePredictionsRight_377 : decode cL_arePredictionsRight 377 = .ok (.if_icmp .ne 19, 3) := by decide +kernel
theorem dL_arePredictionsRight_380 : decode cL_arePredictionsRight 380 = .ok (.aload_n 0, 1) := by decide +kernel
theorem dL_arePredictionsRight_381 : decode cL_arePredictionsRight 381 = .ok (.invokevirtual 133, 3) := by decide +kernel
theorem dL_arePredictionsRight_384 : decode cL_arePredictionsRight 384 = .ok (.iload 10, 2) := by decide +kernel
theorem dL_arePredictionsRight_386 : decode cL_arePredictionsRight 386 = .ok (.iload 13, 2) := by decide +kernel
theorem dL_arePredictionsRight_388 : decode cL_arePredictionsRight 388 = .ok (.iadd, 1) := by decide +kernel
theorem dL_arePredictionsRight_389 : decode cL_arePredictionsRight 389 = .ok (.if_icmp .ne 7, 3) := by decide +kernel
theorem dL_arePredictionsRight_392 : decode cL_arePredictionsRight 392 = .ok (.iconst 1, 1) := by decide +kernel
theorem dL_arePredictionsRight_393 : decode cL_arePredictionsRight 393 = .ok (.goto 4, 3) := by decide +kernel
theorem dL_arePredictionsRight_396 : decode cL_arePredictionsRight 396 = .ok (.iconst 0, 1) := by decide +kernel
theorem dL_arePredictionsRight_397 : decode cL_arePredictionsRight 397 = .ok (.istore 8, 2) := by decide +kernel
theorem dL_arePredictionsRight_399 : decode cL_arePredictionsRight 399 = .ok (.aload_n 0, 1) := by decide +kernel
theorem dL_arePredictionsRight_400 : decode cL_arePredictionsRight 400 = .ok (.invokevirtual 255, 3) := by decide +kernel
theorem dL_arePredictionsRight_403 : decode cL_arePredictionsRight 403 = .ok (.istore 9, 2) := by decide +kernel
theorem dL_arePredictionsRight_405 : decode cL_arePredictionsRight 405 = .ok (.iload 8, 2) := by decide +kernel
theorem dL_arePredictionsRight_407 : decode cL_arePredictionsRight 407 = .ok (.ireturn, 1) := by decide +kernel
theorem dL_isJournalRight_0 : decode cL_isJournalRight 0 = .ok (.aload_n 0, 1) := by decide +kernel
theorem dL_isJournalRight_1 : decode cL_isJournalRight 1 = .ok (.invokevirtual 164, 3) := by decide +kernel
theorem dL_isJournalRight_4 : decode cL_isJournalRight 4 = .ok (.istore_n 1, 1) := by decide +kernel
theorem dL_isJournalRight_5 : decode cL_isJournalRight 5 = .ok (.iload_n 1, 1) := by decide +kernel
theorem dL_isJournalRight_6 : decode cL_isJournalRight 6 = .ok (.bipush 10, 2) := by decide +kernel
theorem dL_isJournalRight_8 : decode cL_isJournalRight 8 = .ok (.if_icmp .gt 35, 3) := by decide +kernel
theorem dL_isJournalRight_11 : decode cL_isJournalRight 11 = .ok (.aload_n 0, 1) := by decide +kernel
theorem dL_isJournalRight_12 : decode cL_isJournalRight 12 = .ok (.bipush 8, 2) := by decide +kernel
theorem dL_isJournalRight_14 : decode cL_isJournalRight 14 = .ok (.iload_n 1, 1) := by decide +kernel
theorem dL_isJournalRight_15 : decode cL_isJournalRight 15 = .ok (.iconst 0, 1) := by decide +kernel
theorem dL_isJournalRight_16 : decode cL_isJournalRight 16 = .ok (.invokestatic 188, 3) := by decide +kernel
theorem dL_isJournalRight_19 : decode cL_isJournalRight 19 = .ok (.sipush (-20004), 3) := by decide +kernel
theorem dL_isJournalRight_22 : decode cL_isJournalRight 22 = .ok (.if_icmp .ne 21, 3) := by decide +kernel
theorem dL_isJournalRight_25 : decode cL_isJournalRight 25 = .ok (.aload_n 0, 1) := by decide +kernel
theorem dL_isJournalRight_26 : decode cL_isJournalRight 26 = .ok (.bipush 8, 2) := by decide +kernel
theorem dL_isJournalRight_28 : decode cL_isJournalRight 28 = .ok (.iconst (-1), 1) := by decide +kernel
theorem dL_isJournalRight_29 : decode cL_isJournalRight 29 = .ok (.iconst 0, 1) := by decide +kernel
theorem dL_isJournalRight_30 : decode cL_isJournalRight 30 = .ok (.invokestatic 188, 3) := by decide +kernel
theorem dL_isJournalRight_33 : decode cL_isJournalRight 33 = .ok (.sipush (-20004), 3) := by decide +kernel
theorem dL_isJournalRight_36 : decode cL_isJournalRight 36 = .ok (.if_icmp .ne 7, 3) := by decide +kernel
theorem dL_isJournalRight_39 : decode cL_isJournalRight 39 = .ok (.iconst 1, 1) := by decide +kernel
theorem dL_isJournalRight_40 : decode cL_isJournalRight 40 = .ok (.goto 4, 3) := by decide +kernel
theorem dL_isJournalRight_43 : decode cL_isJournalRight 43 = .ok (.iconst 0, 1) := by decide +kernel
theorem dL_isJournalRight_44 : decode cL_isJournalRight 44 = .ok (.istore_n 2, 1) := by decide +kernel
theorem dL_isJournalRight_45 : decode cL_isJournalRight 45 = .ok (.iconst 0, 1) := by decide +kernel
theorem dL_isJournalRight_46 : decode cL_isJournalRight 46 = .ok (.istore_n 3, 1) := by decide +kernel
theorem dL_isJournalRight_47 : decode cL_isJournalRight 47 = .ok (.iload_n 3, 1) := by decide +kernel
theorem dL_isJournalRight_48 : decode cL_isJournalRight 48 = .ok (.iload_n 1, 1) := by decide +kernel
theorem dL_isJournalRight_49 : decode cL_isJournalRight 49 = .ok (.if_icmp .ge 100, 3) := by decide +kernel
theorem dL_isJournalRight_52 : decode cL_isJournalRight 52 = .ok (.aload_n 0, 1) := by decide +kernel
theorem dL_isJournalRight_53 : decode cL_isJournalRight 53 = .ok (.iload_n 3, 1) := by decide +kernel
theorem dL_isJournalRight_54 : decode cL_isJournalRight 54 = .ok (.invokevirtual 167, 3) := by decide +kernel
theorem dL_isJournalRight_57 : decode cL_isJournalRight 57 = .ok (.istore 4, 2) := by decide +kernel
theorem dL_isJournalRight_59 : decode cL_isJournalRight 59 = .ok (.iload 4, 2) := by decide +kernel
theorem dL_isJournalRight_61 : decode cL_isJournalRight 61 = .ok (.bipush 100, 2) := by decide +kernel
theorem dL_isJournalRight_63 : decode cL_isJournalRight 63 = .ok (.if_icmp .eq 38, 3) := by decide +kernel
theorem dL_isJournalRight_66 : decode cL_isJournalRight 66 = .ok (.iload 4, 2) := by decide +kernel
theorem dL_isJournalRight_68 : decode cL_isJournalRight 68 = .ok (.bipush 119, 2) := by decide +kernel
theorem dL_isJournalRight_70 : decode cL_isJournalRight 70 = .ok (.if_icmp .eq 31, 3) := by decide +kernel
theorem dL_isJournalRight_73 : decode cL_isJournalRight 73 = .ok (.iload 4, 2) := by decide +kernel
theorem dL_isJournalRight_75 : decode cL_isJournalRight 75 = .ok (.bipush 116, 2) := by decide +kernel
theorem dL_isJournalRight_77 : decode cL_isJournalRight 77 = .ok (.if_icmp .eq 24, 3) := by decide +kernel
theorem dL_isJournalRight_80 : decode cL_isJournalRight 80 = .ok (.iload 4, 2) := by decide +kernel
theorem dL_isJournalRight_82 : decode cL_isJournalRight 82 = .ok (.bipush 105, 2) := by decide +kernel
theorem dL_isJournalRight_84 : decode cL_isJournalRight 84 = .ok (.if_icmp .eq 17, 3) := by decide +kernel
theorem dL_isJournalRight_87 : decode cL_isJournalRight 87 = .ok (.iload 4, 2) := by decide +kernel
theorem dL_isJournalRight_89 : decode cL_isJournalRight 89 = .ok (.bipush 99, 2) := by decide +kernel
theorem dL_isJournalRight_91 : decode cL_isJournalRight 91 = .ok (.if_icmp .eq 10, 3) := by decide +kernel
theorem dL_isJournalRight_94 : decode cL_isJournalRight 94 = .ok (.iload 4, 2) := by decide +kernel
theorem dL_isJournalRight_96 : decode cL_isJournalRight 96 = .ok (.bipush 102, 2) := by decide +kernel
theorem dL_isJournalRight_98 : decode cL_isJournalRight 98 = .ok (.if_icmp .ne 7, 3) := by decide +kernel
theorem dL_isJournalRight_101 : decode cL_isJournalRight 101 = .ok (.iconst 1, 1) := by decide +kernel
theorem dL_isJournalRight_102 : decode cL_isJournalRight 102 = .ok (.goto 4, 3) := by decide +kernel
theorem dL_isJournalRight_105 : decode cL_isJournalRight 105 = .ok (.iconst 0, 1) := by decide +kernel
theorem dL_isJournalRight_106 : decode cL_isJournalRight 106 = .ok (.istore 5, 2) := by decide +kernel
theorem dL_isJournalRight_108 : decode cL_isJournalRight 108 = .ok (.iload_n 2, 1) := by decide +kernel
theorem dL_isJournalRight_109 : decode cL_isJournalRight 109 = .ok (.ifCond .eq 32, 3) := by decide +kernel
theorem dL_isJournalRight_112 : decode cL_isJournalRight 112 = .ok (.iload 5, 2) := by decide +kernel
theorem dL_isJournalRight_114 : decode cL_isJournalRight 114 = .ok (.ifCond .eq 27, 3) := by decide +kernel
theorem dL_isJournalRight_117 : decode cL_isJournalRight 117 = .ok (.aload_n 0, 1) := by decide +kernel
theorem dL_isJournalRight_118 : decode cL_isJournalRight 118 = .ok (.iload_n 3, 1) := by decide +kernel
theorem dL_isJournalRight_119 : decode cL_isJournalRight 119 = .ok (.invokevirtual 89, 3) := by decide +kernel
theorem dL_isJournalRight_122 : decode cL_isJournalRight 122 = .ok (.ifCond .le 19, 3) := by decide +kernel
theorem dL_isJournalRight_125 : decode cL_isJournalRight 125 = .ok (.aload_n 0, 1) := by decide +kernel
theorem dL_isJournalRight_126 : decode cL_isJournalRight 126 = .ok (.iload_n 3, 1) := by decide +kernel
theorem dL_isJournalRight_127 : decode cL_isJournalRight 127 = .ok (.invokevirtual 171, 3) := by decide +kernel
theorem dL_isJournalRight_130 : decode cL_isJournalRight 130 = .ok (.aload_n 0, 1) := by decide +kernel
theorem dL_isJournalRight_131 : decode cL_isJournalRight 131 = .ok (.invokevirtual 115, 3) := by decide +kernel
theorem dL_isJournalRight_134 : decode cL_isJournalRight 134 = .ok (.if_icmp .ge 7, 3) := by decide +kernel
theorem dL_isJournalRight_137 : decode cL_isJournalRight 137 = .ok (.iconst 1, 1) := by decide +kernel
theorem dL_isJournalRight_138 : decode cL_isJournalRight 138 = .ok (.goto 4, 3) := by decide +kernel
theorem dL_isJournalRight_141 : decode cL_isJournalRight 141 = .ok (.iconst 0, 1) := by decide +kernel
theorem dL_isJournalRight_142 : decode cL_isJournalRight 142 = .ok (.istore_n 2, 1) := by decide +kernel
theorem dL_isJournalRight_143 : decode cL_isJournalRight 143 = .ok (.iinc 3 1, 3) := by decide +kernel
theorem dL_isJournalRight_146 : decode cL_isJournalRight 146 = .ok (.goto (-99), 3) := by decide +kernel
theorem dL_isJournalRight_149 : decode cL_isJournalRight 149 = .ok (.iload_n 2, 1) := by decide +kernel
theorem dL_isJournalRight_150 : decode cL_isJournalRight 150 = .ok (.ireturn, 1) := by decide +kernel
theorem dL_law_0 : decode cL_law 0 = .ok (.new 16, 3) := by decide +kernel
theorem dL_law_3 : decode cL_law 3 = .ok (.dup, 1) := by decide +kernel
theorem dL_law_4 : decode cL_law 4 = .ok (.invokespecial 258, 3) := by decide +kernel
theorem dL_law_7 : decode cL_law 7 = .ok (.astore_n 1, 1) := by decide +kernel
theorem dL_law_8 : decode cL_law 8 = .ok (.aload_n 1, 1) := by decide +kernel
theorem dL_law_9 : decode cL_law 9 = .ok (.aload_n 0, 1) := by decide +kernel
theorem dL_law_10 : decode cL_law 10 = .ok (.invokestatic 259, 3) := by decide +kernel
theorem dL_law_13 : decode cL_law 13 = .ok (.iconst 0, 1) := by decide +kernel
theorem dL_law_14 : decode cL_law 14 = .ok (.istore_n 2, 1) := by decide +kernel
theorem dL_law_15 : decode cL_law 15 = .ok (.iload_n 2, 1) := by decide +kernel
theorem dL_law_16 : decode cL_law 16 = .ok (.bipush 14, 2) := by decide +kernel
theorem dL_law_18 : decode cL_law 18 = .ok (.if_icmp .ge 98, 3) := by decide +kernel
theorem dL_law_21 : decode cL_law 21 = .ok (.aload_n 1, 1) := by decide +kernel
theorem dL_law_22 : decode cL_law 22 = .ok (.aload_n 0, 1) := by decide +kernel
theorem dL_law_23 : decode cL_law 23 = .ok (.sipush 200, 3) := by decide +kernel
theorem dL_law_26 : decode cL_law 26 = .ok (.bipush 6, 2) := by decide +kernel
theorem dL_law_28 : decode cL_law 28 = .ok (.iload_n 2, 1) := by decide +kernel
theorem dL_law_29 : decode cL_law 29 = .ok (.imul, 1) := by decide +kernel
theorem dL_law_30 : decode cL_law 30 = .ok (.iadd, 1) := by decide +kernel
theorem dL_law_31 : decode cL_law 31 = .ok (.invokestatic 263, 3) := by decide +kernel
theorem dL_law_34 : decode cL_law 34 = .ok (.istore_n 3, 1) := by decide +kernel
theorem dL_law_35 : decode cL_law 35 = .ok (.iconst 1, 1) := by decide +kernel
theorem dL_law_36 : decode cL_law 36 = .ok (.aload_n 1, 1) := by decide +kernel
theorem dL_law_37 : decode cL_law 37 = .ok (.invokevirtual 115, 3) := by decide +kernel
theorem dL_law_40 : decode cL_law 40 = .ok (.invokestatic 118, 3) := by decide +kernel
theorem dL_law_43 : decode cL_law 43 = .ok (.istore 4, 2) := by decide +kernel
theorem dL_law_45 : decode cL_law 45 = .ok (.aload_n 1, 1) := by decide +kernel
theorem dL_law_46 : decode cL_law 46 = .ok (.invokestatic 267, 3) := by decide +kernel
theorem dL_law_49 : decode cL_law 49 = .ok (.ifCond .eq 59, 3) := by decide +kernel
theorem dL_law_52 : decode cL_law 52 = .ok (.aload_n 1, 1) := by decide +kernel
theorem dL_law_53 : decode cL_law 53 = .ok (.aload_n 0, 1) := by decide +kernel
theorem dL_law_54 : decode cL_law 54 = .ok (.sipush 300, 3) := by decide +kernel
theorem dL_law_57 : decode cL_law 57 = .ok (.iload_n 2, 1) := by decide +kernel
theorem dL_law_58 : decode cL_law 58 = .ok (.iadd, 1) := by decide +kernel
theorem dL_law_59 : decode cL_law 59 = .ok (.iload 4, 2) := by decide +kernel
theorem dL_law_61 : decode cL_law 61 = .ok (.invokestatic 105, 3) := by decide +kernel
theorem dL_law_64 : decode cL_law 64 = .ok (.aload_n 0, 1) := by decide +kernel
theorem dL_law_65 : decode cL_law 65 = .ok (.sipush 320, 3) := by decide +kernel
theorem dL_law_68 : decode cL_law 68 = .ok (.iload_n 2, 1) := by decide +kernel
theorem dL_law_69 : decode cL_law 69 = .ok (.iadd, 1) := by decide +kernel
theorem dL_law_70 : decode cL_law 70 = .ok (.iload 4, 2) := by decide +kernel
theorem dL_law_72 : decode cL_law 72 = .ok (.invokestatic 105, 3) := by decide +kernel
theorem dL_law_75 : decode cL_law 75 = .ok (.invokestatic 271, 3) := by decide +kernel
theorem dL_law_78 : decode cL_law 78 = .ok (.ifCond .eq 30, 3) := by decide +kernel
theorem dL_law_81 : decode cL_law 81 = .ok (.aload_n 1, 1) := by decide +kernel
theorem dL_law_82 : decode cL_law 82 = .ok (.iconst 1, 1) := by decide +kernel
theorem dL_law_83 : decode cL_law 83 = .ok (.aload_n 0, 1) := by decide +kernel
theorem dL_law_84 : decode cL_law 84 = .ok (.sipush 340, 3) := by decide +kernel
theorem dL_law_87 : decode cL_law 87 = .ok (.iload_n 2, 1) := by decide +kernel
theorem dL_law_88 : decode cL_law 88 = .ok (.iadd, 1) := by decide +kernel
theorem dL_law_89 : decode cL_law 89 = .ok (.bipush 9, 2) := by decide +kernel
theorem dL_law_91 : decode cL_law 91 = .ok (.invokestatic 105, 3) := by decide +kernel
theorem dL_law_94 : decode cL_law 94 = .ok (.iadd, 1) := by decide +kernel
theorem dL_law_95 : decode cL_law 95 = .ok (.invokestatic 275, 3) := by decide +kernel
theorem dL_law_98 : decode cL_law 98 = .ok (.ifCond .eq 10, 3) := by decide +kernel
theorem dL_law_101 : decode cL_law 101 = .ok (.aload_n 1, 1) := by decide +kernel
theorem dL_law_102 : decode cL_law 102 = .ok (.invokestatic 279, 3) := by decide +kernel
theorem dL_law_105 : decode cL_law 105 = .ok (.ifCond .ne 5, 3) := by decide +kernel
theorem dL_law_108 : decode cL_law 108 = .ok (.iconst 0, 1) := by decide +kernel
theorem dL_law_109 : decode cL_law 109 = .ok (.ireturn, 1) := by decide +kernel
theorem dL_law_110 : decode cL_law 110 = .ok (.iinc 2 1, 3) := by decide +kernel
theorem dL_law_113 : decode cL_law 113 = .ok (.goto (-98), 3) := by decide +kernel
theorem dL_law_116 : decode cL_law 116 = .ok (.iconst 1, 1) := by decide +kernel
theorem dL_law_117 : decode cL_law 117 = .ok (.ireturn, 1) := by decide +kernel
