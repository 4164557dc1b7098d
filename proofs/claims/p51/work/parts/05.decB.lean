theorem dX6_init_0 : decode cX6_init 0 = .ok (.aload_n 0, 1) := by decide +kernel
theorem dX6_init_1 : decode cX6_init 1 = .ok (.invokespecial 1, 3) := by decide +kernel
theorem dX6_init_4 : decode cX6_init 4 = .ok (.aload_n 0, 1) := by decide +kernel
theorem dX6_init_5 : decode cX6_init 5 = .ok (.new 7, 3) := by decide +kernel
theorem dX6_init_8 : decode cX6_init 8 = .ok (.dup, 1) := by decide +kernel
theorem dX6_init_9 : decode cX6_init 9 = .ok (.invokespecial 9, 3) := by decide +kernel
theorem dX6_init_12 : decode cX6_init 12 = .ok (.putfield 10, 3) := by decide +kernel
theorem dX6_init_15 : decode cX6_init 15 = .ok (.aload_n 0, 1) := by decide +kernel
theorem dX6_init_16 : decode cX6_init 16 = .ok (.new 7, 3) := by decide +kernel
theorem dX6_init_19 : decode cX6_init 19 = .ok (.dup, 1) := by decide +kernel
theorem dX6_init_20 : decode cX6_init 20 = .ok (.invokespecial 9, 3) := by decide +kernel
theorem dX6_init_23 : decode cX6_init 23 = .ok (.putfield 16, 3) := by decide +kernel
theorem dX6_init_26 : decode cX6_init 26 = .ok (.aload_n 0, 1) := by decide +kernel
theorem dX6_init_27 : decode cX6_init 27 = .ok (.new 7, 3) := by decide +kernel
theorem dX6_init_30 : decode cX6_init 30 = .ok (.dup, 1) := by decide +kernel
theorem dX6_init_31 : decode cX6_init 31 = .ok (.invokespecial 9, 3) := by decide +kernel
theorem dX6_init_34 : decode cX6_init 34 = .ok (.putfield 19, 3) := by decide +kernel
theorem dX6_init_37 : decode cX6_init 37 = .ok (.aload_n 0, 1) := by decide +kernel
theorem dX6_init_38 : decode cX6_init 38 = .ok (.new 22, 3) := by decide +kernel
theorem dX6_init_41 : decode cX6_init 41 = .ok (.dup, 1) := by decide +kernel
theorem dX6_init_42 : decode cX6_init 42 = .ok (.invokespecial 24, 3) := by decide +kernel
theorem dX6_init_45 : decode cX6_init 45 = .ok (.putfield 25, 3) := by decide +kernel
theorem dX6_init_48 : decode cX6_init 48 = .ok (.aload_n 0, 1) := by decide +kernel
theorem dX6_init_49 : decode cX6_init 49 = .ok (.new 29, 3) := by decide +kernel
theorem dX6_init_52 : decode cX6_init 52 = .ok (.dup, 1) := by decide +kernel
theorem dX6_init_53 : decode cX6_init 53 = .ok (.invokespecial 31, 3) := by decide +kernel
theorem dX6_init_56 : decode cX6_init 56 = .ok (.putfield 32, 3) := by decide +kernel
theorem dX6_init_59 : decode cX6_init 59 = .ok (.aload_n 0, 1) := by decide +kernel
theorem dX6_init_60 : decode cX6_init 60 = .ok (.new 36, 3) := by decide +kernel
theorem dX6_init_63 : decode cX6_init 63 = .ok (.dup, 1) := by decide +kernel
theorem dX6_init_64 : decode cX6_init 64 = .ok (.invokespecial 38, 3) := by decide +kernel
theorem dX6_init_67 : decode cX6_init 67 = .ok (.putfield 39, 3) := by decide +kernel
theorem dX6_init_70 : decode cX6_init 70 = .ok (.aload_n 0, 1) := by decide +kernel
theorem dX6_init_71 : decode cX6_init 71 = .ok (.bipush 8, 2) := by decide +kernel
theorem dX6_init_73 : decode cX6_init 73 = .ok (.bipush 8, 2) := by decide +kernel
theorem dX6_init_75 : decode cX6_init 75 = .ok (.multianewarray 43 2, 4) := by decide +kernel
theorem dX6_init_79 : decode cX6_init 79 = .ok (.putfield 45, 3) := by decide +kernel
theorem dX6_init_82 : decode cX6_init 82 = .ok (.aload_n 0, 1) := by decide +kernel
theorem dX6_init_83 : decode cX6_init 83 = .ok (.iconst 0, 1) := by decide +kernel
theorem dX6_init_84 : decode cX6_init 84 = .ok (.putfield 48, 3) := by decide +kernel
theorem dX6_init_87 : decode cX6_init 87 = .ok (.aload_n 0, 1) := by decide +kernel
theorem dX6_init_88 : decode cX6_init 88 = .ok (.iconst (-1), 1) := by decide +kernel
theorem dX6_init_89 : decode cX6_init 89 = .ok (.putfield 52, 3) := by decide +kernel
theorem dX6_init_92 : decode cX6_init 92 = .ok (.aload_n 0, 1) := by decide +kernel
theorem dX6_init_93 : decode cX6_init 93 = .ok (.iconst (-1), 1) := by decide +kernel
theorem dX6_init_94 : decode cX6_init 94 = .ok (.putfield 56, 3) := by decide +kernel
theorem dX6_init_97 : decode cX6_init 97 = .ok (.return_, 1) := by decide +kernel
theorem dX6_open_0 : decode cX6_open 0 = .ok (.aload_n 0, 1) := by decide +kernel
theorem dX6_open_1 : decode cX6_open 1 = .ok (.getfield 10, 3) := by decide +kernel
theorem dX6_open_4 : decode cX6_open 4 = .ok (.iload_n 1, 1) := by decide +kernel
theorem dX6_open_5 : decode cX6_open 5 = .ok (.invokevirtual 59, 3) := by decide +kernel
theorem dX6_open_8 : decode cX6_open 8 = .ok (.invokestatic 63, 3) := by decide +kernel
theorem dX6_open_11 : decode cX6_open 11 = .ok (.aload_n 0, 1) := by decide +kernel
theorem dX6_open_12 : decode cX6_open 12 = .ok (.getfield 25, 3) := by decide +kernel
theorem dX6_open_15 : decode cX6_open 15 = .ok (.aload_n 0, 1) := by decide +kernel
theorem dX6_open_16 : decode cX6_open 16 = .ok (.getfield 10, 3) := by decide +kernel
theorem dX6_open_19 : decode cX6_open 19 = .ok (.invokevirtual 67, 3) := by decide +kernel
theorem dX6_open_22 : decode cX6_open 22 = .ok (.aload_n 0, 1) := by decide +kernel
theorem dX6_open_23 : decode cX6_open 23 = .ok (.getfield 10, 3) := by decide +kernel
theorem dX6_open_26 : decode cX6_open 26 = .ok (.getfield 71, 3) := by decide +kernel
theorem dX6_open_29 : decode cX6_open 29 = .ok (.iload_n 1, 1) := by decide +kernel
theorem dX6_open_30 : decode cX6_open 30 = .ok (.invokevirtual 75, 3) := by decide +kernel
theorem dX6_open_33 : decode cX6_open 33 = .ok (.ireturn, 1) := by decide +kernel
theorem dX6_deposit_0 : decode cX6_deposit 0 = .ok (.aload_n 0, 1) := by decide +kernel
theorem dX6_deposit_1 : decode cX6_deposit 1 = .ok (.getfield 10, 3) := by decide +kernel
theorem dX6_deposit_4 : decode cX6_deposit 4 = .ok (.iload_n 1, 1) := by decide +kernel
theorem dX6_deposit_5 : decode cX6_deposit 5 = .ok (.iload_n 2, 1) := by decide +kernel
theorem dX6_deposit_6 : decode cX6_deposit 6 = .ok (.invokevirtual 80, 3) := by decide +kernel
theorem dX6_deposit_9 : decode cX6_deposit 9 = .ok (.invokestatic 63, 3) := by decide +kernel
theorem dX6_deposit_12 : decode cX6_deposit 12 = .ok (.aload_n 0, 1) := by decide +kernel
theorem dX6_deposit_13 : decode cX6_deposit 13 = .ok (.getfield 25, 3) := by decide +kernel
theorem dX6_deposit_16 : decode cX6_deposit 16 = .ok (.aload_n 0, 1) := by decide +kernel
theorem dX6_deposit_17 : decode cX6_deposit 17 = .ok (.getfield 10, 3) := by decide +kernel
theorem dX6_deposit_20 : decode cX6_deposit 20 = .ok (.invokevirtual 67, 3) := by decide +kernel
theorem dX6_deposit_23 : decode cX6_deposit 23 = .ok (.aload_n 0, 1) := by decide +kernel
theorem dX6_deposit_24 : decode cX6_deposit 24 = .ok (.getfield 10, 3) := by decide +kernel
theorem dX6_deposit_27 : decode cX6_deposit 27 = .ok (.iload_n 1, 1) := by decide +kernel
theorem dX6_deposit_28 : decode cX6_deposit 28 = .ok (.iload_n 2, 1) := by decide +kernel
theorem dX6_deposit_29 : decode cX6_deposit 29 = .ok (.invokevirtual 84, 3) := by decide +kernel
theorem dX6_deposit_32 : decode cX6_deposit 32 = .ok (.ireturn, 1) := by decide +kernel
theorem dX6_withdraw_0 : decode cX6_withdraw 0 = .ok (.aload_n 0, 1) := by decide +kernel
theorem dX6_withdraw_1 : decode cX6_withdraw 1 = .ok (.getfield 10, 3) := by decide +kernel
theorem dX6_withdraw_4 : decode cX6_withdraw 4 = .ok (.iload_n 1, 1) := by decide +kernel
theorem dX6_withdraw_5 : decode cX6_withdraw 5 = .ok (.iload_n 2, 1) := by decide +kernel
theorem dX6_withdraw_6 : decode cX6_withdraw 6 = .ok (.invokevirtual 87, 3) := by decide +kernel
theorem dX6_withdraw_9 : decode cX6_withdraw 9 = .ok (.invokestatic 63, 3) := by decide +kernel
theorem dX6_withdraw_12 : decode cX6_withdraw 12 = .ok (.aload_n 0, 1) := by decide +kernel
theorem dX6_withdraw_13 : decode cX6_withdraw 13 = .ok (.getfield 25, 3) := by decide +kernel
theorem dX6_withdraw_16 : decode cX6_withdraw 16 = .ok (.aload_n 0, 1) := by decide +kernel
theorem dX6_withdraw_17 : decode cX6_withdraw 17 = .ok (.getfield 10, 3) := by decide +kernel
theorem dX6_withdraw_20 : decode cX6_withdraw 20 = .ok (.invokevirtual 67, 3) := by decide +kernel
theorem dX6_withdraw_23 : decode cX6_withdraw 23 = .ok (.aload_n 0, 1) := by decide +kernel
theorem dX6_withdraw_24 : decode cX6_withdraw 24 = .ok (.getfield 10, 3) := by decide +kernel
theorem dX6_withdraw_27 : decode cX6_withdraw 27 = .ok (.iload_n 1, 1) := by decide +kernel
theorem dX6_withdraw_28 : decode cX6_withdraw 28 = .ok (.iload_n 2, 1) := by decide +kernel
theorem dX6_withdraw_29 : decode cX6_withdraw 29 = .ok (.invokevirtual 90, 3) := by decide +kernel
theorem dX6_withdraw_32 : decode cX6_withdraw 32 = .ok (.ireturn, 1) := by decide +kernel
theorem dX6_setLimit_0 : decode cX6_setLimit 0 = .ok (.aload_n 0, 1) := by decide +kernel
theorem dX6_setLimit_1 : decode cX6_setLimit 1 = .ok (.getfield 10, 3) := by decide +kernel
theorem dX6_setLimit_4 : decode cX6_setLimit 4 = .ok (.iload_n 1, 1) := by decide +kernel
theorem dX6_setLimit_5 : decode cX6_setLimit 5 = .ok (.iload_n 2, 1) := by decide +kernel
theorem dX6_setLimit_6 : decode cX6_setLimit 6 = .ok (.invokevirtual 93, 3) := by decide +kernel
theorem dX6_setLimit_9 : decode cX6_setLimit 9 = .ok (.invokestatic 63, 3) := by decide +kernel
theorem dX6_setLimit_12 : decode cX6_setLimit 12 = .ok (.aload_n 0, 1) := by decide +kernel
theorem dX6_setLimit_13 : decode cX6_setLimit 13 = .ok (.getfield 25, 3) := by decide +kernel
theorem dX6_setLimit_16 : decode cX6_setLimit 16 = .ok (.aload_n 0, 1) := by decide +kernel
theorem dX6_setLimit_17 : decode cX6_setLimit 17 = .ok (.getfield 10, 3) := by decide +kernel
theorem dX6_setLimit_20 : decode cX6_setLimit 20 = .ok (.invokevirtual 67, 3) := by decide +kernel
theorem dX6_setLimit_23 : decode cX6_setLimit 23 = .ok (.aload_n 0, 1) := by decide +kernel
theorem dX6_setLimit_24 : decode cX6_setLimit 24 = .ok (.getfield 10, 3) := by decide +kernel
theorem dX6_setLimit_27 : decode cX6_setLimit 27 = .ok (.getfield 71, 3) := by decide +kernel
theorem dX6_setLimit_30 : decode cX6_setLimit 30 = .ok (.iload_n 1, 1) := by decide +kernel
theorem dX6_setLimit_31 : decode cX6_setLimit 31 = .ok (.iload_n 2, 1) := by decide +kernel
theorem dX6_setLimit_32 : decode cX6_setLimit 32 = .ok (.invokevirtual 96, 3) := by decide +kernel
theorem dX6_setLimit_35 : decode cX6_setLimit 35 = .ok (.ireturn, 1) := by decide +kernel
theorem dX6_accountCount_0 : decode cX6_accountCount 0 = .ok (.aload_n 0, 1) := by decide +kernel
theorem dX6_accountCount_1 : decode cX6_accountCount 1 = .ok (.getfield 10, 3) := by decide +kernel
theorem dX6_accountCount_4 : decode cX6_accountCount 4 = .ok (.getfield 71, 3) := by decide +kernel
theorem dX6_accountCount_7 : decode cX6_accountCount 7 = .ok (.getfield 99, 3) := by decide +kernel
theorem dX6_accountCount_10 : decode cX6_accountCount 10 = .ok (.ireturn, 1) := by decide +kernel
theorem dX6_kindOf_0 : decode cX6_kindOf 0 = .ok (.aload_n 0, 1) := by decide +kernel
theorem dX6_kindOf_1 : decode cX6_kindOf 1 = .ok (.iload_n 1, 1) := by decide +kernel
theorem dX6_kindOf_2 : decode cX6_kindOf 2 = .ok (.invokevirtual 102, 3) := by decide +kernel
theorem dX6_kindOf_5 : decode cX6_kindOf 5 = .ok (.aload_n 0, 1) := by decide +kernel
theorem dX6_kindOf_6 : decode cX6_kindOf 6 = .ok (.getfield 10, 3) := by decide +kernel
theorem dX6_kindOf_9 : decode cX6_kindOf 9 = .ok (.getfield 71, 3) := by decide +kernel
theorem dX6_kindOf_12 : decode cX6_kindOf 12 = .ok (.getfield 105, 3) := by decide +kernel
theorem dX6_kindOf_15 : decode cX6_kindOf 15 = .ok (.iload_n 1, 1) := by decide +kernel
theorem dX6_kindOf_16 : decode cX6_kindOf 16 = .ok (.iaload, 1) := by decide +kernel
theorem dX6_kindOf_17 : decode cX6_kindOf 17 = .ok (.ireturn, 1) := by decide +kernel
theorem dX6_balanceOf_0 : decode cX6_balanceOf 0 = .ok (.aload_n 0, 1) := by decide +kernel
theorem dX6_balanceOf_1 : decode cX6_balanceOf 1 = .ok (.iload_n 1, 1) := by decide +kernel
theorem dX6_balanceOf_2 : decode cX6_balanceOf 2 = .ok (.invokevirtual 102, 3) := by decide +kernel
theorem dX6_balanceOf_5 : decode cX6_balanceOf 5 = .ok (.aload_n 0, 1) := by decide +kernel
theorem dX6_balanceOf_6 : decode cX6_balanceOf 6 = .ok (.getfield 10, 3) := by decide +kernel
theorem dX6_balanceOf_9 : decode cX6_balanceOf 9 = .ok (.getfield 71, 3) := by decide +kernel
theorem dX6_balanceOf_12 : decode cX6_balanceOf 12 = .ok (.getfield 109, 3) := by decide +kernel
theorem dX6_balanceOf_15 : decode cX6_balanceOf 15 = .ok (.iload_n 1, 1) := by decide +kernel
theorem dX6_balanceOf_16 : decode cX6_balanceOf 16 = .ok (.iaload, 1) := by decide +kernel
theorem dX6_balanceOf_17 : decode cX6_balanceOf 17 = .ok (.ireturn, 1) := by decide +kernel
theorem dX6_limitOf_0 : decode cX6_limitOf 0 = .ok (.aload_n 0, 1) := by decide +kernel
theorem dX6_limitOf_1 : decode cX6_limitOf 1 = .ok (.iload_n 1, 1) := by decide +kernel
theorem dX6_limitOf_2 : decode cX6_limitOf 2 = .ok (.invokevirtual 102, 3) := by decide +kernel
theorem dX6_limitOf_5 : decode cX6_limitOf 5 = .ok (.aload_n 0, 1) := by decide +kernel
theorem dX6_limitOf_6 : decode cX6_limitOf 6 = .ok (.getfield 10, 3) := by decide +kernel
theorem dX6_limitOf_9 : decode cX6_limitOf 9 = .ok (.getfield 71, 3) := by decide +kernel
theorem dX6_limitOf_12 : decode cX6_limitOf 12 = .ok (.getfield 112, 3) := by decide +kernel
theorem dX6_limitOf_15 : decode cX6_limitOf 15 = .ok (.iload_n 1, 1) := by decide +kernel
theorem dX6_limitOf_16 : decode cX6_limitOf 16 = .ok (.iaload, 1) := by decide +kernel
theorem dX6_limitOf_17 : decode cX6_limitOf 17 = .ok (.ireturn, 1) := by decide +kernel
theorem dX6_availableIn_0 : decode cX6_availableIn 0 = .ok (.aload_n 0, 1) := by decide +kernel
theorem dX6_availableIn_1 : decode cX6_availableIn 1 = .ok (.iload_n 1, 1) := by decide +kernel
theorem dX6_availableIn_2 : decode cX6_availableIn 2 = .ok (.invokevirtual 102, 3) := by decide +kernel
theorem dX6_availableIn_5 : decode cX6_availableIn 5 = .ok (.aload_n 0, 1) := by decide +kernel
theorem dX6_availableIn_6 : decode cX6_availableIn 6 = .ok (.getfield 10, 3) := by decide +kernel
theorem dX6_availableIn_9 : decode cX6_availableIn 9 = .ok (.getfield 71, 3) := by decide +kernel
theorem dX6_availableIn_12 : decode cX6_availableIn 12 = .ok (.iload_n 1, 1) := by decide +kernel
theorem dX6_availableIn_13 : decode cX6_availableIn 13 = .ok (.invokevirtual 115, 3) := by decide +kernel
theorem dX6_availableIn_16 : decode cX6_availableIn 16 = .ok (.ireturn, 1) := by decide +kernel
theorem dX6_wasTouched_0 : decode cX6_wasTouched 0 = .ok (.aload_n 0, 1) := by decide +kernel
theorem dX6_wasTouched_1 : decode cX6_wasTouched 1 = .ok (.iload_n 1, 1) := by decide +kernel
theorem dX6_wasTouched_2 : decode cX6_wasTouched 2 = .ok (.invokevirtual 102, 3) := by decide +kernel
theorem dX6_wasTouched_5 : decode cX6_wasTouched 5 = .ok (.aload_n 0, 1) := by decide +kernel
theorem dX6_wasTouched_6 : decode cX6_wasTouched 6 = .ok (.getfield 10, 3) := by decide +kernel
theorem dX6_wasTouched_9 : decode cX6_wasTouched 9 = .ok (.getfield 71, 3) := by decide +kernel
theorem dX6_wasTouched_12 : decode cX6_wasTouched 12 = .ok (.getfield 118, 3) := by decide +kernel
theorem dX6_wasTouched_15 : decode cX6_wasTouched 15 = .ok (.iload_n 1, 1) := by decide +kernel
theorem dX6_wasTouched_16 : decode cX6_wasTouched 16 = .ok (.baload, 1) := by decide +kernel
theorem dX6_wasTouched_17 : decode cX6_wasTouched 17 = .ok (.ireturn, 1) := by decide +kernel
theorem dX6_interestOf_0 : decode cX6_interestOf 0 = .ok (.aload_n 0, 1) := by decide +kernel
theorem dX6_interestOf_1 : decode cX6_interestOf 1 = .ok (.iload_n 1, 1) := by decide +kernel
theorem dX6_interestOf_2 : decode cX6_interestOf 2 = .ok (.invokevirtual 102, 3) := by decide +kernel
theorem dX6_interestOf_5 : decode cX6_interestOf 5 = .ok (.aload_n 0, 1) := by decide +kernel
theorem dX6_interestOf_6 : decode cX6_interestOf 6 = .ok (.getfield 10, 3) := by decide +kernel
theorem dX6_interestOf_9 : decode cX6_interestOf 9 = .ok (.getfield 71, 3) := by decide +kernel
theorem dX6_interestOf_12 : decode cX6_interestOf 12 = .ok (.iload_n 1, 1) := by decide +kernel
theorem dX6_interestOf_13 : decode cX6_interestOf 13 = .ok (.invokevirtual 122, 3) := by decide +kernel
theorem dX6_interestOf_16 : decode cX6_interestOf 16 = .ok (.ireturn, 1) := by decide +kernel
theorem dX6_accountAtRank_0 : decode cX6_accountAtRank 0 = .ok (.aload_n 0, 1) := by decide +kernel
theorem dX6_accountAtRank_1 : decode cX6_accountAtRank 1 = .ok (.getfield 10, 3) := by decide +kernel
theorem dX6_accountAtRank_4 : decode cX6_accountAtRank 4 = .ok (.getfield 71, 3) := by decide +kernel
theorem dX6_accountAtRank_7 : decode cX6_accountAtRank 7 = .ok (.iload_n 1, 1) := by decide +kernel
theorem dX6_accountAtRank_8 : decode cX6_accountAtRank 8 = .ok (.invokevirtual 125, 3) := by decide +kernel
theorem dX6_accountAtRank_11 : decode cX6_accountAtRank 11 = .ok (.ifCond .ne 11, 3) := by decide +kernel
theorem dX6_accountAtRank_14 : decode cX6_accountAtRank 14 = .ok (.new 129, 3) := by decide +kernel
theorem dX6_accountAtRank_17 : decode cX6_accountAtRank 17 = .ok (.dup, 1) := by decide +kernel
theorem dX6_accountAtRank_18 : decode cX6_accountAtRank 18 = .ok (.invokespecial 131, 3) := by decide +kernel
theorem dX6_accountAtRank_21 : decode cX6_accountAtRank 21 = .ok (.athrow, 1) := by decide +kernel
theorem dX6_accountAtRank_22 : decode cX6_accountAtRank 22 = .ok (.aload_n 0, 1) := by decide +kernel
theorem dX6_accountAtRank_23 : decode cX6_accountAtRank 23 = .ok (.getfield 10, 3) := by decide +kernel
theorem dX6_accountAtRank_26 : decode cX6_accountAtRank 26 = .ok (.getfield 71, 3) := by decide +kernel
theorem dX6_accountAtRank_29 : decode cX6_accountAtRank 29 = .ok (.iload_n 1, 1) := by decide +kernel
theorem dX6_accountAtRank_30 : decode cX6_accountAtRank 30 = .ok (.invokevirtual 132, 3) := by decide +kernel
theorem dX6_accountAtRank_33 : decode cX6_accountAtRank 33 = .ok (.ireturn, 1) := by decide +kernel
theorem dX6_meanBalance_0 : decode cX6_meanBalance 0 = .ok (.aload_n 0, 1) := by decide +kernel
theorem dX6_meanBalance_1 : decode cX6_meanBalance 1 = .ok (.getfield 10, 3) := by decide +kernel
theorem dX6_meanBalance_4 : decode cX6_meanBalance 4 = .ok (.getfield 71, 3) := by decide +kernel
theorem dX6_meanBalance_7 : decode cX6_meanBalance 7 = .ok (.getfield 99, 3) := by decide +kernel
theorem dX6_meanBalance_10 : decode cX6_meanBalance 10 = .ok (.iconst 1, 1) := by decide +kernel
theorem dX6_meanBalance_11 : decode cX6_meanBalance 11 = .ok (.if_icmp .ge 11, 3) := by decide +kernel
theorem dX6_meanBalance_14 : decode cX6_meanBalance 14 = .ok (.new 135, 3) := by decide +kernel
theorem dX6_meanBalance_17 : decode cX6_meanBalance 17 = .ok (.dup, 1) := by decide +kernel
theorem dX6_meanBalance_18 : decode cX6_meanBalance 18 = .ok (.invokespecial 137, 3) := by decide +kernel
theorem dX6_meanBalance_21 : decode cX6_meanBalance 21 = .ok (.athrow, 1) := by decide +kernel
theorem dX6_meanBalance_22 : decode cX6_meanBalance 22 = .ok (.aload_n 0, 1) := by decide +kernel
theorem dX6_meanBalance_23 : decode cX6_meanBalance 23 = .ok (.getfield 10, 3) := by decide +kernel
theorem dX6_meanBalance_26 : decode cX6_meanBalance 26 = .ok (.getfield 71, 3) := by decide +kernel
theorem dX6_meanBalance_29 : decode cX6_meanBalance 29 = .ok (.invokevirtual 138, 3) := by decide +kernel
theorem dX6_meanBalance_32 : decode cX6_meanBalance 32 = .ok (.l2d, 1) := by decide +kernel
theorem dX6_meanBalance_33 : decode cX6_meanBalance 33 = .ok (.aload_n 0, 1) := by decide +kernel
theorem dX6_meanBalance_34 : decode cX6_meanBalance 34 = .ok (.getfield 10, 3) := by decide +kernel
theorem dX6_meanBalance_37 : decode cX6_meanBalance 37 = .ok (.getfield 71, 3) := by decide +kernel
theorem dX6_meanBalance_40 : decode cX6_meanBalance 40 = .ok (.getfield 99, 3) := by decide +kernel
theorem dX6_meanBalance_43 : decode cX6_meanBalance 43 = .ok (.i2d, 1) := by decide +kernel
theorem dX6_meanBalance_44 : decode cX6_meanBalance 44 = .ok (.ddiv, 1) := by decide +kernel
theorem dX6_meanBalance_45 : decode cX6_meanBalance 45 = .ok (.dreturn, 1) := by decide +kernel
theorem dX6_bankBalance_0 : decode cX6_bankBalance 0 = .ok (.aload_n 0, 1) := by decide +kernel
theorem dX6_bankBalance_1 : decode cX6_bankBalance 1 = .ok (.getfield 10, 3) := by decide +kernel
theorem dX6_bankBalance_4 : decode cX6_bankBalance 4 = .ok (.getfield 142, 3) := by decide +kernel
theorem dX6_bankBalance_7 : decode cX6_bankBalance 7 = .ok (.ireturn, 1) := by decide +kernel
theorem dX6_totalInk_0 : decode cX6_totalInk 0 = .ok (.aload_n 0, 1) := by decide +kernel
theorem dX6_totalInk_1 : decode cX6_totalInk 1 = .ok (.getfield 10, 3) := by decide +kernel
theorem dX6_totalInk_4 : decode cX6_totalInk 4 = .ok (.getfield 142, 3) := by decide +kernel
theorem dX6_totalInk_7 : decode cX6_totalInk 7 = .ok (.i2l, 1) := by decide +kernel
theorem dX6_totalInk_8 : decode cX6_totalInk 8 = .ok (.aload_n 0, 1) := by decide +kernel
theorem dX6_totalInk_9 : decode cX6_totalInk 9 = .ok (.getfield 10, 3) := by decide +kernel
theorem dX6_totalInk_12 : decode cX6_totalInk 12 = .ok (.getfield 71, 3) := by decide +kernel
theorem dX6_totalInk_15 : decode cX6_totalInk 15 = .ok (.invokevirtual 138, 3) := by decide +kernel
theorem dX6_totalInk_18 : decode cX6_totalInk 18 = .ok (.ladd, 1) := by decide +kernel
theorem dX6_totalInk_19 : decode cX6_totalInk 19 = .ok (.lreturn, 1) := by decide +kernel
theorem dX6_totalInkByMovements_0 : decode cX6_totalInkByMovements 0 = .ok (.aload_n 0, 1) := by decide +kernel
theorem dX6_totalInkByMovements_1 : decode cX6_totalInkByMovements 1 = .ok (.getfield 10, 3) := by decide +kernel
theorem dX6_totalInkByMovements_4 : decode cX6_totalInkByMovements 4 = .ok (.getfield 145, 3) := by decide +kernel
theorem dX6_totalInkByMovements_7 : decode cX6_totalInkByMovements 7 = .ok (.aload_n 0, 1) := by decide +kernel
theorem dX6_totalInkByMovements_8 : decode cX6_totalInkByMovements 8 = .ok (.getfield 10, 3) := by decide +kernel
theorem dX6_totalInkByMovements_11 : decode cX6_totalInkByMovements 11 = .ok (.getfield 149, 3) := by decide +kernel
theorem dX6_totalInkByMovements_14 : decode cX6_totalInkByMovements 14 = .ok (.lsub, 1) := by decide +kernel
theorem dX6_totalInkByMovements_15 : decode cX6_totalInkByMovements 15 = .ok (.lreturn, 1) := by decide +kernel
theorem dX6_interestPaid_0 : decode cX6_interestPaid 0 = .ok (.aload_n 0, 1) := by decide +kernel
theorem dX6_interestPaid_1 : decode cX6_interestPaid 1 = .ok (.getfield 10, 3) := by decide +kernel
theorem dX6_interestPaid_4 : decode cX6_interestPaid 4 = .ok (.getfield 155, 3) := by decide +kernel
theorem dX6_interestPaid_7 : decode cX6_interestPaid 7 = .ok (.lreturn, 1) := by decide +kernel
theorem dX6_chargesPaid_0 : decode cX6_chargesPaid 0 = .ok (.aload_n 0, 1) := by decide +kernel
theorem dX6_chargesPaid_1 : decode cX6_chargesPaid 1 = .ok (.getfield 10, 3) := by decide +kernel
theorem dX6_chargesPaid_4 : decode cX6_chargesPaid 4 = .ok (.getfield 157, 3) := by decide +kernel
theorem dX6_chargesPaid_7 : decode cX6_chargesPaid 7 = .ok (.lreturn, 1) := by decide +kernel
theorem dX6_endDays_0 : decode cX6_endDays 0 = .ok (.aload_n 0, 1) := by decide +kernel
theorem dX6_endDays_1 : decode cX6_endDays 1 = .ok (.getfield 10, 3) := by decide +kernel
theorem dX6_endDays_4 : decode cX6_endDays 4 = .ok (.iload_n 1, 1) := by decide +kernel
theorem dX6_endDays_5 : decode cX6_endDays 5 = .ok (.invokevirtual 163, 3) := by decide +kernel
theorem dX6_endDays_8 : decode cX6_endDays 8 = .ok (.invokestatic 63, 3) := by decide +kernel
theorem dX6_endDays_11 : decode cX6_endDays 11 = .ok (.aload_n 0, 1) := by decide +kernel
theorem dX6_endDays_12 : decode cX6_endDays 12 = .ok (.getfield 25, 3) := by decide +kernel
theorem dX6_endDays_15 : decode cX6_endDays 15 = .ok (.aload_n 0, 1) := by decide +kernel
theorem dX6_endDays_16 : decode cX6_endDays 16 = .ok (.getfield 10, 3) := by decide +kernel
theorem dX6_endDays_19 : decode cX6_endDays 19 = .ok (.invokevirtual 67, 3) := by decide +kernel
theorem dX6_endDays_22 : decode cX6_endDays 22 = .ok (.aload_n 0, 1) := by decide +kernel
theorem dX6_endDays_23 : decode cX6_endDays 23 = .ok (.getfield 10, 3) := by decide +kernel
theorem dX6_endDays_26 : decode cX6_endDays 26 = .ok (.iload_n 1, 1) := by decide +kernel
theorem dX6_endDays_27 : decode cX6_endDays 27 = .ok (.invokevirtual 166, 3) := by decide +kernel
theorem dX6_endDays_30 : decode cX6_endDays 30 = .ok (.ireturn, 1) := by decide +kernel
theorem dX6_balanceAfter_0 : decode cX6_balanceAfter 0 = .ok (.aload_n 0, 1) := by decide +kernel
theorem dX6_balanceAfter_1 : decode cX6_balanceAfter 1 = .ok (.getfield 10, 3) := by decide +kernel
theorem dX6_balanceAfter_4 : decode cX6_balanceAfter 4 = .ok (.iload_n 1, 1) := by decide +kernel
theorem dX6_balanceAfter_5 : decode cX6_balanceAfter 5 = .ok (.iload_n 2, 1) := by decide +kernel
theorem dX6_balanceAfter_6 : decode cX6_balanceAfter 6 = .ok (.invokevirtual 169, 3) := by decide +kernel
theorem dX6_balanceAfter_9 : decode cX6_balanceAfter 9 = .ok (.invokestatic 63, 3) := by decide +kernel
theorem dX6_balanceAfter_12 : decode cX6_balanceAfter 12 = .ok (.aload_n 0, 1) := by decide +kernel
theorem dX6_balanceAfter_13 : decode cX6_balanceAfter 13 = .ok (.getfield 16, 3) := by decide +kernel
theorem dX6_balanceAfter_16 : decode cX6_balanceAfter 16 = .ok (.aload_n 0, 1) := by decide +kernel
theorem dX6_balanceAfter_17 : decode cX6_balanceAfter 17 = .ok (.getfield 10, 3) := by decide +kernel
theorem dX6_balanceAfter_20 : decode cX6_balanceAfter 20 = .ok (.invokevirtual 172, 3) := by decide +kernel
theorem dX6_balanceAfter_23 : decode cX6_balanceAfter 23 = .ok (.aload_n 0, 1) := by decide +kernel
theorem dX6_balanceAfter_24 : decode cX6_balanceAfter 24 = .ok (.getfield 16, 3) := by decide +kernel
theorem dX6_balanceAfter_27 : decode cX6_balanceAfter 27 = .ok (.iload_n 2, 1) := by decide +kernel
theorem dX6_balanceAfter_28 : decode cX6_balanceAfter 28 = .ok (.invokevirtual 166, 3) := by decide +kernel
theorem dX6_balanceAfter_31 : decode cX6_balanceAfter 31 = .ok (.pop, 1) := by decide +kernel
theorem dX6_balanceAfter_32 : decode cX6_balanceAfter 32 = .ok (.aload_n 0, 1) := by decide +kernel
theorem dX6_balanceAfter_33 : decode cX6_balanceAfter 33 = .ok (.getfield 16, 3) := by decide +kernel
theorem dX6_balanceAfter_36 : decode cX6_balanceAfter 36 = .ok (.getfield 71, 3) := by decide +kernel
theorem dX6_balanceAfter_39 : decode cX6_balanceAfter 39 = .ok (.getfield 109, 3) := by decide +kernel
theorem dX6_balanceAfter_42 : decode cX6_balanceAfter 42 = .ok (.iload_n 1, 1) := by decide +kernel
theorem dX6_balanceAfter_43 : decode cX6_balanceAfter 43 = .ok (.iaload, 1) := by decide +kernel
theorem dX6_balanceAfter_44 : decode cX6_balanceAfter 44 = .ok (.ireturn, 1) := by decide +kernel
theorem dX6_seal_0 : decode cX6_seal 0 = .ok (.aload_n 0, 1) := by decide +kernel
theorem dX6_seal_1 : decode cX6_seal 1 = .ok (.getfield 10, 3) := by decide +kernel
theorem dX6_seal_4 : decode cX6_seal 4 = .ok (.iload_n 1, 1) := by decide +kernel
theorem dX6_seal_5 : decode cX6_seal 5 = .ok (.iload_n 2, 1) := by decide +kernel
theorem dX6_seal_6 : decode cX6_seal 6 = .ok (.iload_n 3, 1) := by decide +kernel
theorem dX6_seal_7 : decode cX6_seal 7 = .ok (.iload 4, 2) := by decide +kernel
theorem dX6_seal_9 : decode cX6_seal 9 = .ok (.invokevirtual 175, 3) := by decide +kernel
theorem dX6_seal_12 : decode cX6_seal 12 = .ok (.invokestatic 63, 3) := by decide +kernel
theorem dX6_seal_15 : decode cX6_seal 15 = .ok (.aload_n 0, 1) := by decide +kernel
theorem dX6_seal_16 : decode cX6_seal 16 = .ok (.getfield 25, 3) := by decide +kernel
theorem dX6_seal_19 : decode cX6_seal 19 = .ok (.aload_n 0, 1) := by decide +kernel
theorem dX6_seal_20 : decode cX6_seal 20 = .ok (.getfield 10, 3) := by decide +kernel
theorem dX6_seal_23 : decode cX6_seal 23 = .ok (.invokevirtual 67, 3) := by decide +kernel
theorem dX6_seal_26 : decode cX6_seal 26 = .ok (.aload_n 0, 1) := by decide +kernel
theorem dX6_seal_27 : decode cX6_seal 27 = .ok (.getfield 10, 3) := by decide +kernel
theorem dX6_seal_30 : decode cX6_seal 30 = .ok (.getfield 179, 3) := by decide +kernel
theorem dX6_seal_33 : decode cX6_seal 33 = .ok (.iload_n 1, 1) := by decide +kernel
theorem dX6_seal_34 : decode cX6_seal 34 = .ok (.iload_n 2, 1) := by decide +kernel
theorem dX6_seal_35 : decode cX6_seal 35 = .ok (.iload_n 3, 1) := by decide +kernel
theorem dX6_seal_36 : decode cX6_seal 36 = .ok (.aload_n 0, 1) := by decide +kernel
theorem dX6_seal_37 : decode cX6_seal 37 = .ok (.getfield 10, 3) := by decide +kernel
theorem dX6_seal_40 : decode cX6_seal 40 = .ok (.getfield 160, 3) := by decide +kernel
theorem dX6_seal_43 : decode cX6_seal 43 = .ok (.iload 4, 2) := by decide +kernel
theorem dX6_seal_45 : decode cX6_seal 45 = .ok (.iadd, 1) := by decide +kernel
theorem dX6_seal_46 : decode cX6_seal 46 = .ok (.invokevirtual 183, 3) := by decide +kernel
theorem dX6_seal_49 : decode cX6_seal 49 = .ok (.ireturn, 1) := by decide +kernel
theorem dX6_cancel_0 : decode cX6_cancel 0 = .ok (.aload_n 0, 1) := by decide +kernel
theorem dX6_cancel_1 : decode cX6_cancel 1 = .ok (.getfield 10, 3) := by decide +kernel
theorem dX6_cancel_4 : decode cX6_cancel 4 = .ok (.iload_n 1, 1) := by decide +kernel
theorem dX6_cancel_5 : decode cX6_cancel 5 = .ok (.invokevirtual 187, 3) := by decide +kernel
theorem dX6_cancel_8 : decode cX6_cancel 8 = .ok (.invokestatic 63, 3) := by decide +kernel
theorem dX6_cancel_11 : decode cX6_cancel 11 = .ok (.aload_n 0, 1) := by decide +kernel
theorem dX6_cancel_12 : decode cX6_cancel 12 = .ok (.getfield 25, 3) := by decide +kernel
theorem dX6_cancel_15 : decode cX6_cancel 15 = .ok (.aload_n 0, 1) := by decide +kernel
theorem dX6_cancel_16 : decode cX6_cancel 16 = .ok (.getfield 10, 3) := by decide +kernel
theorem dX6_cancel_19 : decode cX6_cancel 19 = .ok (.invokevirtual 67, 3) := by decide +kernel
theorem dX6_cancel_22 : decode cX6_cancel 22 = .ok (.aload_n 0, 1) := by decide +kernel
theorem dX6_cancel_23 : decode cX6_cancel 23 = .ok (.getfield 10, 3) := by decide +kernel
theorem dX6_cancel_26 : decode cX6_cancel 26 = .ok (.getfield 179, 3) := by decide +kernel
theorem dX6_cancel_29 : decode cX6_cancel 29 = .ok (.iload_n 1, 1) := by decide +kernel
theorem dX6_cancel_30 : decode cX6_cancel 30 = .ok (.invokevirtual 190, 3) := by decide +kernel
theorem dX6_cancel_33 : decode cX6_cancel 33 = .ok (.ireturn, 1) := by decide +kernel
theorem dX6_transferCount_0 : decode cX6_transferCount 0 = .ok (.aload_n 0, 1) := by decide +kernel
theorem dX6_transferCount_1 : decode cX6_transferCount 1 = .ok (.getfield 10, 3) := by decide +kernel
theorem dX6_transferCount_4 : decode cX6_transferCount 4 = .ok (.getfield 179, 3) := by decide +kernel
theorem dX6_transferCount_7 : decode cX6_transferCount 7 = .ok (.getfield 193, 3) := by decide +kernel
theorem dX6_transferCount_10 : decode cX6_transferCount 10 = .ok (.ireturn, 1) := by decide +kernel
theorem dX6_transferAt_0 : decode cX6_transferAt 0 = .ok (.iload_n 1, 1) := by decide +kernel
theorem dX6_transferAt_1 : decode cX6_transferAt 1 = .ok (.ifCond .lt 17, 3) := by decide +kernel
theorem dX6_transferAt_4 : decode cX6_transferAt 4 = .ok (.iload_n 1, 1) := by decide +kernel
theorem dX6_transferAt_5 : decode cX6_transferAt 5 = .ok (.aload_n 0, 1) := by decide +kernel
theorem dX6_transferAt_6 : decode cX6_transferAt 6 = .ok (.getfield 10, 3) := by decide +kernel
theorem dX6_transferAt_9 : decode cX6_transferAt 9 = .ok (.getfield 179, 3) := by decide +kernel
theorem dX6_transferAt_12 : decode cX6_transferAt 12 = .ok (.getfield 193, 3) := by decide +kernel
theorem dX6_transferAt_15 : decode cX6_transferAt 15 = .ok (.if_icmp .lt 11, 3) := by decide +kernel
theorem dX6_transferAt_18 : decode cX6_transferAt 18 = .ok (.new 194, 3) := by decide +kernel
theorem dX6_transferAt_21 : decode cX6_transferAt 21 = .ok (.dup, 1) := by decide +kernel
theorem dX6_transferAt_22 : decode cX6_transferAt 22 = .ok (.invokespecial 196, 3) := by decide +kernel
theorem dX6_transferAt_25 : decode cX6_transferAt 25 = .ok (.athrow, 1) := by decide +kernel
theorem dX6_transferAt_26 : decode cX6_transferAt 26 = .ok (.aload_n 0, 1) := by decide +kernel
theorem dX6_transferAt_27 : decode cX6_transferAt 27 = .ok (.getfield 10, 3) := by decide +kernel
theorem dX6_transferAt_30 : decode cX6_transferAt 30 = .ok (.getfield 179, 3) := by decide +kernel
theorem dX6_transferAt_33 : decode cX6_transferAt 33 = .ok (.iload_n 1, 1) := by decide +kernel
theorem dX6_transferAt_34 : decode cX6_transferAt 34 = .ok (.invokevirtual 197, 3) := by decide +kernel
theorem dX6_transferAt_37 : decode cX6_transferAt 37 = .ok (.ireturn, 1) := by decide +kernel
theorem dX6_senderOf_0 : decode cX6_senderOf 0 = .ok (.aload_n 0, 1) := by decide +kernel
theorem dX6_senderOf_1 : decode cX6_senderOf 1 = .ok (.getfield 10, 3) := by decide +kernel
theorem dX6_senderOf_4 : decode cX6_senderOf 4 = .ok (.getfield 179, 3) := by decide +kernel
theorem dX6_senderOf_7 : decode cX6_senderOf 7 = .ok (.getfield 200, 3) := by decide +kernel
theorem dX6_senderOf_10 : decode cX6_senderOf 10 = .ok (.aload_n 0, 1) := by decide +kernel
theorem dX6_senderOf_11 : decode cX6_senderOf 11 = .ok (.iload_n 1, 1) := by decide +kernel
theorem dX6_senderOf_12 : decode cX6_senderOf 12 = .ok (.invokevirtual 203, 3) := by decide +kernel
theorem dX6_senderOf_15 : decode cX6_senderOf 15 = .ok (.iaload, 1) := by decide +kernel
theorem dX6_senderOf_16 : decode cX6_senderOf 16 = .ok (.ireturn, 1) := by decide +kernel
theorem dX6_receiverOf_0 : decode cX6_receiverOf 0 = .ok (.aload_n 0, 1) := by decide +kernel
theorem dX6_receiverOf_1 : decode cX6_receiverOf 1 = .ok (.getfield 10, 3) := by decide +kernel
theorem dX6_receiverOf_4 : decode cX6_receiverOf 4 = .ok (.getfield 179, 3) := by decide +kernel
theorem dX6_receiverOf_7 : decode cX6_receiverOf 7 = .ok (.getfield 206, 3) := by decide +kernel
theorem dX6_receiverOf_10 : decode cX6_receiverOf 10 = .ok (.aload_n 0, 1) := by decide +kernel
theorem dX6_receiverOf_11 : decode cX6_receiverOf 11 = .ok (.iload_n 1, 1) := by decide +kernel
theorem dX6_receiverOf_12 : decode cX6_receiverOf 12 = .ok (.invokevirtual 203, 3) := by decide +kernel
theorem dX6_receiverOf_15 : decode cX6_receiverOf 15 = .ok (.iaload, 1) := by decide +kernel
theorem dX6_receiverOf_16 : decode cX6_receiverOf 16 = .ok (.ireturn, 1) := by decide +kernel
theorem dX6_amountOf_0 : decode cX6_amountOf 0 = .ok (.aload_n 0, 1) := by decide +kernel
theorem dX6_amountOf_1 : decode cX6_amountOf 1 = .ok (.getfield 10, 3) := by decide +kernel
theorem dX6_amountOf_4 : decode cX6_amountOf 4 = .ok (.getfield 179, 3) := by decide +kernel
theorem dX6_amountOf_7 : decode cX6_amountOf 7 = .ok (.getfield 209, 3) := by decide +kernel
theorem dX6_amountOf_10 : decode cX6_amountOf 10 = .ok (.aload_n 0, 1) := by decide +kernel
theorem dX6_amountOf_11 : decode cX6_amountOf 11 = .ok (.iload_n 1, 1) := by decide +kernel
theorem dX6_amountOf_12 : decode cX6_amountOf 12 = .ok (.invokevirtual 203, 3) := by decide +kernel
theorem dX6_amountOf_15 : decode cX6_amountOf 15 = .ok (.iaload, 1) := by decide +kernel
theorem dX6_amountOf_16 : decode cX6_amountOf 16 = .ok (.ireturn, 1) := by decide +kernel
theorem dX6_daysUntilDue_0 : decode cX6_daysUntilDue 0 = .ok (.aload_n 0, 1) := by decide +kernel
theorem dX6_daysUntilDue_1 : decode cX6_daysUntilDue 1 = .ok (.getfield 10, 3) := by decide +kernel
theorem dX6_daysUntilDue_4 : decode cX6_daysUntilDue 4 = .ok (.getfield 179, 3) := by decide +kernel
theorem dX6_daysUntilDue_7 : decode cX6_daysUntilDue 7 = .ok (.getfield 212, 3) := by decide +kernel
theorem dX6_daysUntilDue_10 : decode cX6_daysUntilDue 10 = .ok (.aload_n 0, 1) := by decide +kernel
theorem dX6_daysUntilDue_11 : decode cX6_daysUntilDue 11 = .ok (.iload_n 1, 1) := by decide +kernel
theorem dX6_daysUntilDue_12 : decode cX6_daysUntilDue 12 = .ok (.invokevirtual 203, 3) := by decide +kernel
theorem dX6_daysUntilDue_15 : decode cX6_daysUntilDue 15 = .ok (.iaload, 1) := by decide +kernel
theorem dX6_daysUntilDue_16 : decode cX6_daysUntilDue 16 = .ok (.aload_n 0, 1) := by decide +kernel
theorem dX6_daysUntilDue_17 : decode cX6_daysUntilDue 17 = .ok (.getfield 10, 3) := by decide +kernel
theorem dX6_daysUntilDue_20 : decode cX6_daysUntilDue 20 = .ok (.getfield 160, 3) := by decide +kernel
theorem dX6_daysUntilDue_23 : decode cX6_daysUntilDue 23 = .ok (.isub, 1) := by decide +kernel
theorem dX6_daysUntilDue_24 : decode cX6_daysUntilDue 24 = .ok (.ireturn, 1) := by decide +kernel
theorem dX6_wouldBounce_0 : decode cX6_wouldBounce 0 = .ok (.aload_n 0, 1) := by decide +kernel
theorem dX6_wouldBounce_1 : decode cX6_wouldBounce 1 = .ok (.iload_n 1, 1) := by decide +kernel
theorem dX6_wouldBounce_2 : decode cX6_wouldBounce 2 = .ok (.invokevirtual 203, 3) := by decide +kernel
theorem dX6_wouldBounce_5 : decode cX6_wouldBounce 5 = .ok (.istore_n 2, 1) := by decide +kernel
theorem dX6_wouldBounce_6 : decode cX6_wouldBounce 6 = .ok (.aload_n 0, 1) := by decide +kernel
theorem dX6_wouldBounce_7 : decode cX6_wouldBounce 7 = .ok (.getfield 16, 3) := by decide +kernel
theorem dX6_wouldBounce_10 : decode cX6_wouldBounce 10 = .ok (.aload_n 0, 1) := by decide +kernel
theorem dX6_wouldBounce_11 : decode cX6_wouldBounce 11 = .ok (.getfield 10, 3) := by decide +kernel
theorem dX6_wouldBounce_14 : decode cX6_wouldBounce 14 = .ok (.invokevirtual 172, 3) := by decide +kernel
theorem dX6_wouldBounce_17 : decode cX6_wouldBounce 17 = .ok (.aload_n 0, 1) := by decide +kernel
theorem dX6_wouldBounce_18 : decode cX6_wouldBounce 18 = .ok (.getfield 16, 3) := by decide +kernel
theorem dX6_wouldBounce_21 : decode cX6_wouldBounce 21 = .ok (.aload_n 0, 1) := by decide +kernel
theorem dX6_wouldBounce_22 : decode cX6_wouldBounce 22 = .ok (.getfield 10, 3) := by decide +kernel
theorem dX6_wouldBounce_25 : decode cX6_wouldBounce 25 = .ok (.getfield 179, 3) := by decide +kernel
theorem dX6_wouldBounce_28 : decode cX6_wouldBounce 28 = .ok (.getfield 212, 3) := by decide +kernel
theorem dX6_wouldBounce_31 : decode cX6_wouldBounce 31 = .ok (.iload_n 2, 1) := by decide +kernel
theorem dX6_wouldBounce_32 : decode cX6_wouldBounce 32 = .ok (.iaload, 1) := by decide +kernel
theorem dX6_wouldBounce_33 : decode cX6_wouldBounce 33 = .ok (.aload_n 0, 1) := by decide +kernel
theorem dX6_wouldBounce_34 : decode cX6_wouldBounce 34 = .ok (.getfield 10, 3) := by decide +kernel
theorem dX6_wouldBounce_37 : decode cX6_wouldBounce 37 = .ok (.getfield 160, 3) := by decide +kernel
theorem dX6_wouldBounce_40 : decode cX6_wouldBounce 40 = .ok (.isub, 1) := by decide +kernel
theorem dX6_wouldBounce_41 : decode cX6_wouldBounce 41 = .ok (.invokevirtual 166, 3) := by decide +kernel
theorem dX6_wouldBounce_44 : decode cX6_wouldBounce 44 = .ok (.pop, 1) := by decide +kernel
theorem dX6_wouldBounce_45 : decode cX6_wouldBounce 45 = .ok (.aload_n 0, 1) := by decide +kernel
theorem dX6_wouldBounce_46 : decode cX6_wouldBounce 46 = .ok (.getfield 16, 3) := by decide +kernel
theorem dX6_wouldBounce_49 : decode cX6_wouldBounce 49 = .ok (.iload_n 1, 1) := by decide +kernel
theorem dX6_wouldBounce_50 : decode cX6_wouldBounce 50 = .ok (.invokevirtual 215, 3) := by decide +kernel
theorem dX6_wouldBounce_53 : decode cX6_wouldBounce 53 = .ok (.aload_n 0, 1) := by decide +kernel
theorem dX6_wouldBounce_54 : decode cX6_wouldBounce 54 = .ok (.getfield 16, 3) := by decide +kernel
theorem dX6_wouldBounce_57 : decode cX6_wouldBounce 57 = .ok (.aload_n 0, 1) := by decide +kernel
theorem dX6_wouldBounce_58 : decode cX6_wouldBounce 58 = .ok (.getfield 16, 3) := by decide +kernel
theorem dX6_wouldBounce_61 : decode cX6_wouldBounce 61 = .ok (.getfield 179, 3) := by decide +kernel
theorem dX6_wouldBounce_64 : decode cX6_wouldBounce 64 = .ok (.iload_n 1, 1) := by decide +kernel
theorem dX6_wouldBounce_65 : decode cX6_wouldBounce 65 = .ok (.invokevirtual 218, 3) := by decide +kernel
theorem dX6_wouldBounce_68 : decode cX6_wouldBounce 68 = .ok (.invokevirtual 221, 3) := by decide +kernel
theorem dX6_wouldBounce_71 : decode cX6_wouldBounce 71 = .ok (.ifCond .ne 7, 3) := by decide +kernel
theorem dX6_wouldBounce_74 : decode cX6_wouldBounce 74 = .ok (.iconst 1, 1) := by decide +kernel
theorem dX6_wouldBounce_75 : decode cX6_wouldBounce 75 = .ok (.goto 4, 3) := by decide +kernel
theorem dX6_wouldBounce_78 : decode cX6_wouldBounce 78 = .ok (.iconst 0, 1) := by decide +kernel
theorem dX6_wouldBounce_79 : decode cX6_wouldBounce 79 = .ok (.ireturn, 1) := by decide +kernel
theorem dX6_bounceCount_0 : decode cX6_bounceCount 0 = .ok (.aload_n 0, 1) := by decide +kernel
theorem dX6_bounceCount_1 : decode cX6_bounceCount 1 = .ok (.getfield 10, 3) := by decide +kernel
theorem dX6_bounceCount_4 : decode cX6_bounceCount 4 = .ok (.getfield 224, 3) := by decide +kernel
theorem dX6_bounceCount_7 : decode cX6_bounceCount 7 = .ok (.ireturn, 1) := by decide +kernel
theorem dX6_netOf_0 : decode cX6_netOf 0 = .ok (.aload_n 0, 1) := by decide +kernel
theorem dX6_netOf_1 : decode cX6_netOf 1 = .ok (.iload_n 1, 1) := by decide +kernel
theorem dX6_netOf_2 : decode cX6_netOf 2 = .ok (.invokevirtual 102, 3) := by decide +kernel
theorem dX6_netOf_5 : decode cX6_netOf 5 = .ok (.aload_n 0, 1) := by decide +kernel
theorem dX6_netOf_6 : decode cX6_netOf 6 = .ok (.getfield 10, 3) := by decide +kernel
theorem dX6_netOf_9 : decode cX6_netOf 9 = .ok (.getfield 179, 3) := by decide +kernel
theorem dX6_netOf_12 : decode cX6_netOf 12 = .ok (.iload_n 1, 1) := by decide +kernel
theorem dX6_netOf_13 : decode cX6_netOf 13 = .ok (.invokevirtual 227, 3) := by decide +kernel
theorem dX6_netOf_16 : decode cX6_netOf 16 = .ok (.ireturn, 1) := by decide +kernel
theorem dX6_netByTable_0 : decode cX6_netByTable 0 = .ok (.aload_n 0, 1) := by decide +kernel
theorem dX6_netByTable_1 : decode cX6_netByTable 1 = .ok (.iload_n 1, 1) := by decide +kernel
theorem dX6_netByTable_2 : decode cX6_netByTable 2 = .ok (.invokevirtual 102, 3) := by decide +kernel
theorem dX6_netByTable_5 : decode cX6_netByTable 5 = .ok (.aload_n 0, 1) := by decide +kernel
theorem dX6_netByTable_6 : decode cX6_netByTable 6 = .ok (.invokevirtual 230, 3) := by decide +kernel
theorem dX6_netByTable_9 : decode cX6_netByTable 9 = .ok (.iconst 0, 1) := by decide +kernel
theorem dX6_netByTable_10 : decode cX6_netByTable 10 = .ok (.istore_n 2, 1) := by decide +kernel
theorem dX6_netByTable_11 : decode cX6_netByTable 11 = .ok (.iconst 0, 1) := by decide +kernel
theorem dX6_netByTable_12 : decode cX6_netByTable 12 = .ok (.istore_n 3, 1) := by decide +kernel
theorem dX6_netByTable_13 : decode cX6_netByTable 13 = .ok (.iload_n 3, 1) := by decide +kernel
theorem dX6_netByTable_14 : decode cX6_netByTable 14 = .ok (.bipush 8, 2) := by decide +kernel
theorem dX6_netByTable_16 : decode cX6_netByTable 16 = .ok (.if_icmp .ge 29, 3) := by decide +kernel
theorem dX6_netByTable_19 : decode cX6_netByTable 19 = .ok (.iload_n 2, 1) := by decide +kernel
theorem dX6_netByTable_20 : decode cX6_netByTable 20 = .ok (.aload_n 0, 1) := by decide +kernel
theorem dX6_netByTable_21 : decode cX6_netByTable 21 = .ok (.getfield 45, 3) := by decide +kernel
theorem dX6_netByTable_24 : decode cX6_netByTable 24 = .ok (.iload_n 3, 1) := by decide +kernel
theorem dX6_netByTable_25 : decode cX6_netByTable 25 = .ok (.aaload, 1) := by decide +kernel
theorem dX6_netByTable_26 : decode cX6_netByTable 26 = .ok (.iload_n 1, 1) := by decide +kernel
theorem dX6_netByTable_27 : decode cX6_netByTable 27 = .ok (.iaload, 1) := by decide +kernel
theorem dX6_netByTable_28 : decode cX6_netByTable 28 = .ok (.aload_n 0, 1) := by decide +kernel
theorem dX6_netByTable_29 : decode cX6_netByTable 29 = .ok (.getfield 45, 3) := by decide +kernel
theorem dX6_netByTable_32 : decode cX6_netByTable 32 = .ok (.iload_n 1, 1) := by decide +kernel
theorem dX6_netByTable_33 : decode cX6_netByTable 33 = .ok (.aaload, 1) := by decide +kernel
theorem dX6_netByTable_34 : decode cX6_netByTable 34 = .ok (.iload_n 3, 1) := by decide +kernel
theorem dX6_netByTable_35 : decode cX6_netByTable 35 = .ok (.iaload, 1) := by decide +kernel
theorem dX6_netByTable_36 : decode cX6_netByTable 36 = .ok (.isub, 1) := by decide +kernel
theorem dX6_netByTable_37 : decode cX6_netByTable 37 = .ok (.iadd, 1) := by decide +kernel
theorem dX6_netByTable_38 : decode cX6_netByTable 38 = .ok (.istore_n 2, 1) := by decide +kernel
theorem dX6_netByTable_39 : decode cX6_netByTable 39 = .ok (.iinc 3 1, 3) := by decide +kernel
theorem dX6_netByTable_42 : decode cX6_netByTable 42 = .ok (.goto (-29), 3) := by decide +kernel
theorem dX6_netByTable_45 : decode cX6_netByTable 45 = .ok (.iload_n 2, 1) := by decide +kernel
theorem dX6_netByTable_46 : decode cX6_netByTable 46 = .ok (.ireturn, 1) := by decide +kernel
theorem dX6_leadsTo_0 : decode cX6_leadsTo 0 = .ok (.aload_n 0, 1) := by decide +kernel
theorem dX6_leadsTo_1 : decode cX6_leadsTo 1 = .ok (.iload_n 1, 1) := by decide +kernel
theorem dX6_leadsTo_2 : decode cX6_leadsTo 2 = .ok (.invokevirtual 102, 3) := by decide +kernel
theorem dX6_leadsTo_5 : decode cX6_leadsTo 5 = .ok (.aload_n 0, 1) := by decide +kernel
theorem dX6_leadsTo_6 : decode cX6_leadsTo 6 = .ok (.iload_n 2, 1) := by decide +kernel
theorem dX6_leadsTo_7 : decode cX6_leadsTo 7 = .ok (.invokevirtual 102, 3) := by decide +kernel
theorem dX6_leadsTo_10 : decode cX6_leadsTo 10 = .ok (.aload_n 0, 1) := by decide +kernel
theorem dX6_leadsTo_11 : decode cX6_leadsTo 11 = .ok (.getfield 10, 3) := by decide +kernel
theorem dX6_leadsTo_14 : decode cX6_leadsTo 14 = .ok (.getfield 179, 3) := by decide +kernel
theorem dX6_leadsTo_17 : decode cX6_leadsTo 17 = .ok (.iload_n 1, 1) := by decide +kernel
theorem dX6_leadsTo_18 : decode cX6_leadsTo 18 = .ok (.iload_n 2, 1) := by decide +kernel
theorem dX6_leadsTo_19 : decode cX6_leadsTo 19 = .ok (.invokevirtual 233, 3) := by decide +kernel
theorem dX6_leadsTo_22 : decode cX6_leadsTo 22 = .ok (.ireturn, 1) := by decide +kernel
theorem dX6_journalLength_0 : decode cX6_journalLength 0 = .ok (.aload_n 0, 1) := by decide +kernel
theorem dX6_journalLength_1 : decode cX6_journalLength 1 = .ok (.getfield 10, 3) := by decide +kernel
theorem dX6_journalLength_4 : decode cX6_journalLength 4 = .ok (.getfield 237, 3) := by decide +kernel
theorem dX6_journalLength_7 : decode cX6_journalLength 7 = .ok (.getfield 241, 3) := by decide +kernel
theorem dX6_journalLength_10 : decode cX6_journalLength 10 = .ok (.ireturn, 1) := by decide +kernel
theorem dX6_movementKind_0 : decode cX6_movementKind 0 = .ok (.aload_n 0, 1) := by decide +kernel
theorem dX6_movementKind_1 : decode cX6_movementKind 1 = .ok (.getfield 10, 3) := by decide +kernel
theorem dX6_movementKind_4 : decode cX6_movementKind 4 = .ok (.getfield 237, 3) := by decide +kernel
theorem dX6_movementKind_7 : decode cX6_movementKind 7 = .ok (.getfield 246, 3) := by decide +kernel
theorem dX6_movementKind_10 : decode cX6_movementKind 10 = .ok (.aload_n 0, 1) := by decide +kernel
theorem dX6_movementKind_11 : decode cX6_movementKind 11 = .ok (.iload_n 1, 1) := by decide +kernel
theorem dX6_movementKind_12 : decode cX6_movementKind 12 = .ok (.invokevirtual 249, 3) := by decide +kernel
theorem dX6_movementKind_15 : decode cX6_movementKind 15 = .ok (.caload, 1) := by decide +kernel
theorem dX6_movementKind_16 : decode cX6_movementKind 16 = .ok (.ireturn, 1) := by decide +kernel
theorem dX6_movementAmount_0 : decode cX6_movementAmount 0 = .ok (.aload_n 0, 1) := by decide +kernel
theorem dX6_movementAmount_1 : decode cX6_movementAmount 1 = .ok (.getfield 10, 3) := by decide +kernel
theorem dX6_movementAmount_4 : decode cX6_movementAmount 4 = .ok (.getfield 237, 3) := by decide +kernel
theorem dX6_movementAmount_7 : decode cX6_movementAmount 7 = .ok (.getfield 252, 3) := by decide +kernel
theorem dX6_movementAmount_10 : decode cX6_movementAmount 10 = .ok (.aload_n 0, 1) := by decide +kernel
theorem dX6_movementAmount_11 : decode cX6_movementAmount 11 = .ok (.iload_n 1, 1) := by decide +kernel
theorem dX6_movementAmount_12 : decode cX6_movementAmount 12 = .ok (.invokevirtual 249, 3) := by decide +kernel
theorem dX6_movementAmount_15 : decode cX6_movementAmount 15 = .ok (.iaload, 1) := by decide +kernel
theorem dX6_movementAmount_16 : decode cX6_movementAmount 16 = .ok (.ireturn, 1) := by decide +kernel
theorem dX6_movementAccount_0 : decode cX6_movementAccount 0 = .ok (.aload_n 0, 1) := by decide +kernel
theorem dX6_movementAccount_1 : decode cX6_movementAccount 1 = .ok (.getfield 10, 3) := by decide +kernel
theorem dX6_movementAccount_4 : decode cX6_movementAccount 4 = .ok (.getfield 237, 3) := by decide +kernel
theorem dX6_movementAccount_7 : decode cX6_movementAccount 7 = .ok (.getfield 253, 3) := by decide +kernel
theorem dX6_movementAccount_10 : decode cX6_movementAccount 10 = .ok (.aload_n 0, 1) := by decide +kernel
theorem dX6_movementAccount_11 : decode cX6_movementAccount 11 = .ok (.iload_n 1, 1) := by decide +kernel
theorem dX6_movementAccount_12 : decode cX6_movementAccount 12 = .ok (.invokevirtual 249, 3) := by decide +kernel
theorem dX6_movementAccount_15 : decode cX6_movementAccount 15 = .ok (.iaload, 1) := by decide +kernel
theorem dX6_movementAccount_16 : decode cX6_movementAccount 16 = .ok (.ireturn, 1) := by decide +kernel
theorem dX6_writeStatement_0 : decode cX6_writeStatement 0 = .ok (.aload_n 0, 1) := by decide +kernel
theorem dX6_writeStatement_1 : decode cX6_writeStatement 1 = .ok (.iload_n 1, 1) := by decide +kernel
theorem dX6_writeStatement_2 : decode cX6_writeStatement 2 = .ok (.invokevirtual 102, 3) := by decide +kernel
theorem dX6_writeStatement_5 : decode cX6_writeStatement 5 = .ok (.aload_n 0, 1) := by decide +kernel
theorem dX6_writeStatement_6 : decode cX6_writeStatement 6 = .ok (.getfield 10, 3) := by decide +kernel
theorem dX6_writeStatement_9 : decode cX6_writeStatement 9 = .ok (.getfield 71, 3) := by decide +kernel
theorem dX6_writeStatement_12 : decode cX6_writeStatement 12 = .ok (.astore_n 2, 1) := by decide +kernel
theorem dX6_writeStatement_13 : decode cX6_writeStatement 13 = .ok (.aload_n 0, 1) := by decide +kernel
theorem dX6_writeStatement_14 : decode cX6_writeStatement 14 = .ok (.getfield 39, 3) := by decide +kernel
theorem dX6_writeStatement_17 : decode cX6_writeStatement 17 = .ok (.iconst 0, 1) := by decide +kernel
theorem dX6_writeStatement_18 : decode cX6_writeStatement 18 = .ok (.invokevirtual 255, 3) := by decide +kernel
theorem dX6_writeStatement_21 : decode cX6_writeStatement 21 = .ok (.aload_n 0, 1) := by decide +kernel
theorem dX6_writeStatement_22 : decode cX6_writeStatement 22 = .ok (.getfield 39, 3) := by decide +kernel
theorem dX6_writeStatement_25 : decode cX6_writeStatement 25 = .ok (.ldc_w 258, 3) := by decide +kernel
theorem dX6_writeStatement_28 : decode cX6_writeStatement 28 = .ok (.aload_n 2, 1) := by decide +kernel
theorem dX6_writeStatement_29 : decode cX6_writeStatement 29 = .ok (.getfield 105, 3) := by decide +kernel
theorem dX6_writeStatement_32 : decode cX6_writeStatement 32 = .ok (.iload_n 1, 1) := by decide +kernel
theorem dX6_writeStatement_33 : decode cX6_writeStatement 33 = .ok (.iaload, 1) := by decide +kernel
theorem dX6_writeStatement_34 : decode cX6_writeStatement 34 = .ok (.invokevirtual 260, 3) := by decide +kernel
theorem dX6_writeStatement_37 : decode cX6_writeStatement 37 = .ok (.invokevirtual 266, 3) := by decide +kernel
theorem dX6_writeStatement_40 : decode cX6_writeStatement 40 = .ok (.pop, 1) := by decide +kernel
theorem dX6_writeStatement_41 : decode cX6_writeStatement 41 = .ok (.aload_n 0, 1) := by decide +kernel
theorem dX6_writeStatement_42 : decode cX6_writeStatement 42 = .ok (.getfield 39, 3) := by decide +kernel
theorem dX6_writeStatement_45 : decode cX6_writeStatement 45 = .ok (.iload_n 1, 1) := by decide +kernel
theorem dX6_writeStatement_46 : decode cX6_writeStatement 46 = .ok (.invokevirtual 270, 3) := by decide +kernel
theorem dX6_writeStatement_49 : decode cX6_writeStatement 49 = .ok (.pop, 1) := by decide +kernel
theorem dX6_writeStatement_50 : decode cX6_writeStatement 50 = .ok (.aload_n 0, 1) := by decide +kernel
theorem dX6_writeStatement_51 : decode cX6_writeStatement 51 = .ok (.getfield 39, 3) := by decide +kernel
theorem dX6_writeStatement_54 : decode cX6_writeStatement 54 = .ok (.bipush 58, 2) := by decide +kernel
theorem dX6_writeStatement_56 : decode cX6_writeStatement 56 = .ok (.invokevirtual 266, 3) := by decide +kernel
theorem dX6_writeStatement_59 : decode cX6_writeStatement 59 = .ok (.pop, 1) := by decide +kernel
theorem dX6_writeStatement_60 : decode cX6_writeStatement 60 = .ok (.aload_n 0, 1) := by decide +kernel
theorem dX6_writeStatement_61 : decode cX6_writeStatement 61 = .ok (.getfield 39, 3) := by decide +kernel
theorem dX6_writeStatement_64 : decode cX6_writeStatement 64 = .ok (.aload_n 2, 1) := by decide +kernel
theorem dX6_writeStatement_65 : decode cX6_writeStatement 65 = .ok (.getfield 109, 3) := by decide +kernel
theorem dX6_writeStatement_68 : decode cX6_writeStatement 68 = .ok (.iload_n 1, 1) := by decide +kernel
theorem dX6_writeStatement_69 : decode cX6_writeStatement 69 = .ok (.iaload, 1) := by decide +kernel
theorem dX6_writeStatement_70 : decode cX6_writeStatement 70 = .ok (.invokevirtual 270, 3) := by decide +kernel
theorem dX6_writeStatement_73 : decode cX6_writeStatement 73 = .ok (.pop, 1) := by decide +kernel
theorem dX6_writeStatement_74 : decode cX6_writeStatement 74 = .ok (.aload_n 0, 1) := by decide +kernel
theorem dX6_writeStatement_75 : decode cX6_writeStatement 75 = .ok (.getfield 39, 3) := by decide +kernel
theorem dX6_writeStatement_78 : decode cX6_writeStatement 78 = .ok (.bipush 47, 2) := by decide +kernel
theorem dX6_writeStatement_80 : decode cX6_writeStatement 80 = .ok (.invokevirtual 266, 3) := by decide +kernel
theorem dX6_writeStatement_83 : decode cX6_writeStatement 83 = .ok (.pop, 1) := by decide +kernel
theorem dX6_writeStatement_84 : decode cX6_writeStatement 84 = .ok (.aload_n 0, 1) := by decide +kernel
theorem dX6_writeStatement_85 : decode cX6_writeStatement 85 = .ok (.getfield 39, 3) := by decide +kernel
theorem dX6_writeStatement_88 : decode cX6_writeStatement 88 = .ok (.aload_n 2, 1) := by decide +kernel
theorem dX6_writeStatement_89 : decode cX6_writeStatement 89 = .ok (.getfield 112, 3) := by decide +kernel
theorem dX6_writeStatement_92 : decode cX6_writeStatement 92 = .ok (.iload_n 1, 1) := by decide +kernel
theorem dX6_writeStatement_93 : decode cX6_writeStatement 93 = .ok (.iaload, 1) := by decide +kernel
theorem dX6_writeStatement_94 : decode cX6_writeStatement 94 = .ok (.invokevirtual 270, 3) := by decide +kernel
theorem dX6_writeStatement_97 : decode cX6_writeStatement 97 = .ok (.pop, 1) := by decide +kernel
theorem dX6_writeStatement_98 : decode cX6_writeStatement 98 = .ok (.aload_n 2, 1) := by decide +kernel
theorem dX6_writeStatement_99 : decode cX6_writeStatement 99 = .ok (.getfield 118, 3) := by decide +kernel
theorem dX6_writeStatement_102 : decode cX6_writeStatement 102 = .ok (.iload_n 1, 1) := by decide +kernel
theorem dX6_writeStatement_103 : decode cX6_writeStatement 103 = .ok (.baload, 1) := by decide +kernel
theorem dX6_writeStatement_104 : decode cX6_writeStatement 104 = .ok (.ifCond .eq 13, 3) := by decide +kernel
theorem dX6_writeStatement_107 : decode cX6_writeStatement 107 = .ok (.aload_n 0, 1) := by decide +kernel
theorem dX6_writeStatement_108 : decode cX6_writeStatement 108 = .ok (.getfield 39, 3) := by decide +kernel
theorem dX6_writeStatement_111 : decode cX6_writeStatement 111 = .ok (.bipush 42, 2) := by decide +kernel
theorem dX6_writeStatement_113 : decode cX6_writeStatement 113 = .ok (.invokevirtual 266, 3) := by decide +kernel
theorem dX6_writeStatement_116 : decode cX6_writeStatement 116 = .ok (.pop, 1) := by decide +kernel
theorem dX6_writeStatement_117 : decode cX6_writeStatement 117 = .ok (.aload_n 0, 1) := by decide +kernel
theorem dX6_writeStatement_118 : decode cX6_writeStatement 118 = .ok (.getfield 39, 3) := by decide +kernel
theorem dX6_writeStatement_121 : decode cX6_writeStatement 121 = .ok (.invokevirtual 273, 3) := by decide +kernel
theorem dX6_writeStatement_124 : decode cX6_writeStatement 124 = .ok (.ireturn, 1) := by decide +kernel
theorem dX6_statementAt_0 : decode cX6_statementAt 0 = .ok (.iload_n 1, 1) := by decide +kernel
theorem dX6_statementAt_1 : decode cX6_statementAt 1 = .ok (.ifCond .lt 14, 3) := by decide +kernel
theorem dX6_statementAt_4 : decode cX6_statementAt 4 = .ok (.iload_n 1, 1) := by decide +kernel
theorem dX6_statementAt_5 : decode cX6_statementAt 5 = .ok (.aload_n 0, 1) := by decide +kernel
theorem dX6_statementAt_6 : decode cX6_statementAt 6 = .ok (.getfield 39, 3) := by decide +kernel
theorem dX6_statementAt_9 : decode cX6_statementAt 9 = .ok (.invokevirtual 273, 3) := by decide +kernel
theorem dX6_statementAt_12 : decode cX6_statementAt 12 = .ok (.if_icmp .lt 11, 3) := by decide +kernel
theorem dX6_statementAt_15 : decode cX6_statementAt 15 = .ok (.new 194, 3) := by decide +kernel
theorem dX6_statementAt_18 : decode cX6_statementAt 18 = .ok (.dup, 1) := by decide +kernel
theorem dX6_statementAt_19 : decode cX6_statementAt 19 = .ok (.invokespecial 196, 3) := by decide +kernel
theorem dX6_statementAt_22 : decode cX6_statementAt 22 = .ok (.athrow, 1) := by decide +kernel
theorem dX6_statementAt_23 : decode cX6_statementAt 23 = .ok (.aload_n 0, 1) := by decide +kernel
theorem dX6_statementAt_24 : decode cX6_statementAt 24 = .ok (.getfield 39, 3) := by decide +kernel
theorem dX6_statementAt_27 : decode cX6_statementAt 27 = .ok (.iload_n 1, 1) := by decide +kernel
theorem dX6_statementAt_28 : decode cX6_statementAt 28 = .ok (.invokevirtual 276, 3) := by decide +kernel
theorem dX6_statementAt_31 : decode cX6_statementAt 31 = .ok (.ireturn, 1) := by decide +kernel
theorem dX6_execute_0 : decode cX6_execute 0 = .ok (.aload_n 0, 1) := by decide +kernel
theorem dX6_execute_1 : decode cX6_execute 1 = .ok (.getfield 32, 3) := by decide +kernel
theorem dX6_execute_4 : decode cX6_execute 4 = .ok (.invokevirtual 287, 3) := by decide +kernel
theorem dX6_execute_7 : decode cX6_execute 7 = .ok (.istore_n 1, 1) := by decide +kernel
theorem dX6_execute_8 : decode cX6_execute 8 = .ok (.iload_n 1, 1) := by decide +kernel
theorem dX6_execute_9 : decode cX6_execute 9 = .ok (.ifCond .ge 30, 3) := by decide +kernel
theorem dX6_execute_12 : decode cX6_execute 12 = .ok (.aload_n 0, 1) := by decide +kernel
theorem dX6_execute_13 : decode cX6_execute 13 = .ok (.aload_n 0, 1) := by decide +kernel
theorem dX6_execute_14 : decode cX6_execute 14 = .ok (.getfield 32, 3) := by decide +kernel
theorem dX6_execute_17 : decode cX6_execute 17 = .ok (.getfield 290, 3) := by decide +kernel
theorem dX6_execute_20 : decode cX6_execute 20 = .ok (.putfield 52, 3) := by decide +kernel
theorem dX6_execute_23 : decode cX6_execute 23 = .ok (.aload_n 0, 1) := by decide +kernel
theorem dX6_execute_24 : decode cX6_execute 24 = .ok (.getfield 32, 3) := by decide +kernel
theorem dX6_execute_27 : decode cX6_execute 27 = .ok (.iconst 0, 1) := by decide +kernel
theorem dX6_execute_28 : decode cX6_execute 28 = .ok (.putfield 280, 3) := by decide +kernel
theorem dX6_execute_31 : decode cX6_execute 31 = .ok (.new 277, 3) := by decide +kernel
theorem dX6_execute_34 : decode cX6_execute 34 = .ok (.dup, 1) := by decide +kernel
theorem dX6_execute_35 : decode cX6_execute 35 = .ok (.invokespecial 279, 3) := by decide +kernel
theorem dX6_execute_38 : decode cX6_execute 38 = .ok (.athrow, 1) := by decide +kernel
theorem dX6_execute_39 : decode cX6_execute 39 = .ok (.iconst 0, 1) := by decide +kernel
theorem dX6_execute_40 : decode cX6_execute 40 = .ok (.istore_n 2, 1) := by decide +kernel
theorem dX6_execute_41 : decode cX6_execute 41 = .ok (.aload_n 0, 1) := by decide +kernel
theorem dX6_execute_42 : decode cX6_execute 42 = .ok (.getfield 16, 3) := by decide +kernel
theorem dX6_execute_45 : decode cX6_execute 45 = .ok (.aload_n 0, 1) := by decide +kernel
theorem dX6_execute_46 : decode cX6_execute 46 = .ok (.getfield 10, 3) := by decide +kernel
theorem dX6_execute_49 : decode cX6_execute 49 = .ok (.invokevirtual 172, 3) := by decide +kernel
theorem dX6_execute_52 : decode cX6_execute 52 = .ok (.aload_n 0, 1) := by decide +kernel
theorem dX6_execute_53 : decode cX6_execute 53 = .ok (.getfield 32, 3) := by decide +kernel
theorem dX6_execute_56 : decode cX6_execute 56 = .ok (.iconst 0, 1) := by decide +kernel
theorem dX6_execute_57 : decode cX6_execute 57 = .ok (.putfield 290, 3) := by decide +kernel
theorem dX6_execute_60 : decode cX6_execute 60 = .ok (.iload_n 2, 1) := by decide +kernel
theorem dX6_execute_61 : decode cX6_execute 61 = .ok (.iload_n 1, 1) := by decide +kernel
theorem dX6_execute_62 : decode cX6_execute 62 = .ok (.if_icmp .ge 56, 3) := by decide +kernel
theorem dX6_execute_65 : decode cX6_execute 65 = .ok (.aload_n 0, 1) := by decide +kernel
theorem dX6_execute_66 : decode cX6_execute 66 = .ok (.getfield 32, 3) := by decide +kernel
theorem dX6_execute_69 : decode cX6_execute 69 = .ok (.invokevirtual 293, 3) := by decide +kernel
theorem dX6_execute_72 : decode cX6_execute 72 = .ok (.ifCond .eq 46, 3) := by decide +kernel
theorem dX6_execute_75 : decode cX6_execute 75 = .ok (.aload_n 0, 1) := by decide +kernel
theorem dX6_execute_76 : decode cX6_execute 76 = .ok (.getfield 16, 3) := by decide +kernel
theorem dX6_execute_79 : decode cX6_execute 79 = .ok (.aload_n 0, 1) := by decide +kernel
theorem dX6_execute_80 : decode cX6_execute 80 = .ok (.getfield 32, 3) := by decide +kernel
theorem dX6_execute_83 : decode cX6_execute 83 = .ok (.getfield 297, 3) := by decide +kernel
theorem dX6_execute_86 : decode cX6_execute 86 = .ok (.aload_n 0, 1) := by decide +kernel
theorem dX6_execute_87 : decode cX6_execute 87 = .ok (.getfield 32, 3) := by decide +kernel
theorem dX6_execute_90 : decode cX6_execute 90 = .ok (.getfield 300, 3) := by decide +kernel
theorem dX6_execute_93 : decode cX6_execute 93 = .ok (.invokevirtual 303, 3) := by decide +kernel
theorem dX6_execute_96 : decode cX6_execute 96 = .ok (.ifCond .ne 22, 3) := by decide +kernel
theorem dX6_execute_99 : decode cX6_execute 99 = .ok (.iinc 2 1, 3) := by decide +kernel
theorem dX6_execute_102 : decode cX6_execute 102 = .ok (.aload_n 0, 1) := by decide +kernel
theorem dX6_execute_103 : decode cX6_execute 103 = .ok (.getfield 32, 3) := by decide +kernel
theorem dX6_execute_106 : decode cX6_execute 106 = .ok (.dup, 1) := by decide +kernel
theorem dX6_execute_107 : decode cX6_execute 107 = .ok (.getfield 290, 3) := by decide +kernel
theorem dX6_execute_110 : decode cX6_execute 110 = .ok (.iconst 1, 1) := by decide +kernel
theorem dX6_execute_111 : decode cX6_execute 111 = .ok (.iadd, 1) := by decide +kernel
theorem dX6_execute_112 : decode cX6_execute 112 = .ok (.putfield 290, 3) := by decide +kernel
theorem dX6_execute_115 : decode cX6_execute 115 = .ok (.goto (-55), 3) := by decide +kernel
theorem dX6_execute_118 : decode cX6_execute 118 = .ok (.aload_n 0, 1) := by decide +kernel
theorem dX6_execute_119 : decode cX6_execute 119 = .ok (.getfield 32, 3) := by decide +kernel
theorem dX6_execute_122 : decode cX6_execute 122 = .ok (.iconst 0, 1) := by decide +kernel
theorem dX6_execute_123 : decode cX6_execute 123 = .ok (.putfield 280, 3) := by decide +kernel
theorem dX6_execute_126 : decode cX6_execute 126 = .ok (.iload_n 2, 1) := by decide +kernel
theorem dX6_execute_127 : decode cX6_execute 127 = .ok (.iload_n 1, 1) := by decide +kernel
theorem dX6_execute_128 : decode cX6_execute 128 = .ok (.if_icmp .ge 16, 3) := by decide +kernel
theorem dX6_execute_131 : decode cX6_execute 131 = .ok (.aload_n 0, 1) := by decide +kernel
theorem dX6_execute_132 : decode cX6_execute 132 = .ok (.iload_n 2, 1) := by decide +kernel
theorem dX6_execute_133 : decode cX6_execute 133 = .ok (.putfield 56, 3) := by decide +kernel
theorem dX6_execute_136 : decode cX6_execute 136 = .ok (.new 281, 3) := by decide +kernel
theorem dX6_execute_139 : decode cX6_execute 139 = .ok (.dup, 1) := by decide +kernel
theorem dX6_execute_140 : decode cX6_execute 140 = .ok (.invokespecial 283, 3) := by decide +kernel
theorem dX6_execute_143 : decode cX6_execute 143 = .ok (.athrow, 1) := by decide +kernel
theorem dX6_execute_144 : decode cX6_execute 144 = .ok (.aload_n 0, 1) := by decide +kernel
theorem dX6_execute_145 : decode cX6_execute 145 = .ok (.getfield 25, 3) := by decide +kernel
theorem dX6_execute_148 : decode cX6_execute 148 = .ok (.aload_n 0, 1) := by decide +kernel
theorem dX6_execute_149 : decode cX6_execute 149 = .ok (.getfield 10, 3) := by decide +kernel
theorem dX6_execute_152 : decode cX6_execute 152 = .ok (.invokevirtual 67, 3) := by decide +kernel
theorem dX6_execute_155 : decode cX6_execute 155 = .ok (.aload_n 0, 1) := by decide +kernel
theorem dX6_execute_156 : decode cX6_execute 156 = .ok (.getfield 10, 3) := by decide +kernel
theorem dX6_execute_159 : decode cX6_execute 159 = .ok (.aload_n 0, 1) := by decide +kernel
theorem dX6_execute_160 : decode cX6_execute 160 = .ok (.getfield 16, 3) := by decide +kernel
theorem dX6_execute_163 : decode cX6_execute 163 = .ok (.invokevirtual 172, 3) := by decide +kernel
theorem dX6_execute_166 : decode cX6_execute 166 = .ok (.iload_n 1, 1) := by decide +kernel
theorem dX6_execute_167 : decode cX6_execute 167 = .ok (.ireturn, 1) := by decide +kernel
theorem dX6_errorPosition_0 : decode cX6_errorPosition 0 = .ok (.aload_n 0, 1) := by decide +kernel
theorem dX6_errorPosition_1 : decode cX6_errorPosition 1 = .ok (.getfield 52, 3) := by decide +kernel
theorem dX6_errorPosition_4 : decode cX6_errorPosition 4 = .ok (.ifCond .ge 11, 3) := by decide +kernel
theorem dX6_errorPosition_7 : decode cX6_errorPosition 7 = .ok (.new 129, 3) := by decide +kernel
theorem dX6_errorPosition_10 : decode cX6_errorPosition 10 = .ok (.dup, 1) := by decide +kernel
theorem dX6_errorPosition_11 : decode cX6_errorPosition 11 = .ok (.invokespecial 131, 3) := by decide +kernel
theorem dX6_errorPosition_14 : decode cX6_errorPosition 14 = .ok (.athrow, 1) := by decide +kernel
theorem dX6_errorPosition_15 : decode cX6_errorPosition 15 = .ok (.aload_n 0, 1) := by decide +kernel
theorem dX6_errorPosition_16 : decode cX6_errorPosition 16 = .ok (.getfield 52, 3) := by decide +kernel
theorem dX6_errorPosition_19 : decode cX6_errorPosition 19 = .ok (.ireturn, 1) := by decide +kernel
theorem dX6_failedCommand_0 : decode cX6_failedCommand 0 = .ok (.aload_n 0, 1) := by decide +kernel
theorem dX6_failedCommand_1 : decode cX6_failedCommand 1 = .ok (.getfield 56, 3) := by decide +kernel
theorem dX6_failedCommand_4 : decode cX6_failedCommand 4 = .ok (.ifCond .ge 11, 3) := by decide +kernel
theorem dX6_failedCommand_7 : decode cX6_failedCommand 7 = .ok (.new 129, 3) := by decide +kernel
theorem dX6_failedCommand_10 : decode cX6_failedCommand 10 = .ok (.dup, 1) := by decide +kernel
theorem dX6_failedCommand_11 : decode cX6_failedCommand 11 = .ok (.invokespecial 131, 3) := by decide +kernel
theorem dX6_failedCommand_14 : decode cX6_failedCommand 14 = .ok (.athrow, 1) := by decide +kernel
theorem dX6_failedCommand_15 : decode cX6_failedCommand 15 = .ok (.aload_n 0, 1) := by decide +kernel
theorem dX6_failedCommand_16 : decode cX6_failedCommand 16 = .ok (.getfield 56, 3) := by decide +kernel
theorem dX6_failedCommand_19 : decode cX6_failedCommand 19 = .ok (.ireturn, 1) := by decide +kernel
theorem dX6_save_0 : decode cX6_save 0 = .ok (.aload_n 0, 1) := by decide +kernel
theorem dX6_save_1 : decode cX6_save 1 = .ok (.getfield 19, 3) := by decide +kernel
theorem dX6_save_4 : decode cX6_save 4 = .ok (.aload_n 0, 1) := by decide +kernel
theorem dX6_save_5 : decode cX6_save 5 = .ok (.getfield 10, 3) := by decide +kernel
theorem dX6_save_8 : decode cX6_save 8 = .ok (.invokevirtual 172, 3) := by decide +kernel
theorem dX6_save_11 : decode cX6_save 11 = .ok (.aload_n 0, 1) := by decide +kernel
theorem dX6_save_12 : decode cX6_save 12 = .ok (.iconst 1, 1) := by decide +kernel
theorem dX6_save_13 : decode cX6_save 13 = .ok (.putfield 48, 3) := by decide +kernel
theorem dX6_save_16 : decode cX6_save 16 = .ok (.aload_n 0, 1) := by decide +kernel
theorem dX6_save_17 : decode cX6_save 17 = .ok (.getfield 10, 3) := by decide +kernel
theorem dX6_save_20 : decode cX6_save 20 = .ok (.getfield 160, 3) := by decide +kernel
theorem dX6_save_23 : decode cX6_save 23 = .ok (.ireturn, 1) := by decide +kernel
theorem dX6_restore_0 : decode cX6_restore 0 = .ok (.aload_n 0, 1) := by decide +kernel
theorem dX6_restore_1 : decode cX6_restore 1 = .ok (.getfield 48, 3) := by decide +kernel
theorem dX6_restore_4 : decode cX6_restore 4 = .ok (.ifCond .ne 11, 3) := by decide +kernel
theorem dX6_restore_7 : decode cX6_restore 7 = .ok (.new 281, 3) := by decide +kernel
theorem dX6_restore_10 : decode cX6_restore 10 = .ok (.dup, 1) := by decide +kernel
theorem dX6_restore_11 : decode cX6_restore 11 = .ok (.invokespecial 283, 3) := by decide +kernel
theorem dX6_restore_14 : decode cX6_restore 14 = .ok (.athrow, 1) := by decide +kernel
theorem dX6_restore_15 : decode cX6_restore 15 = .ok (.aload_n 0, 1) := by decide +kernel
theorem dX6_restore_16 : decode cX6_restore 16 = .ok (.getfield 10, 3) := by decide +kernel
theorem dX6_restore_19 : decode cX6_restore 19 = .ok (.aload_n 0, 1) := by decide +kernel
theorem dX6_restore_20 : decode cX6_restore 20 = .ok (.getfield 19, 3) := by decide +kernel
theorem dX6_restore_23 : decode cX6_restore 23 = .ok (.invokevirtual 172, 3) := by decide +kernel
theorem dX6_restore_26 : decode cX6_restore 26 = .ok (.aload_n 0, 1) := by decide +kernel
theorem dX6_restore_27 : decode cX6_restore 27 = .ok (.getfield 25, 3) := by decide +kernel
theorem dX6_restore_30 : decode cX6_restore 30 = .ok (.iconst 0, 1) := by decide +kernel
theorem dX6_restore_31 : decode cX6_restore 31 = .ok (.putfield 307, 3) := by decide +kernel
theorem dX6_restore_34 : decode cX6_restore 34 = .ok (.aload_n 0, 1) := by decide +kernel
theorem dX6_restore_35 : decode cX6_restore 35 = .ok (.getfield 10, 3) := by decide +kernel
theorem dX6_restore_38 : decode cX6_restore 38 = .ok (.getfield 160, 3) := by decide +kernel
theorem dX6_restore_41 : decode cX6_restore 41 = .ok (.ireturn, 1) := by decide +kernel
theorem dX6_raise_0 : decode cX6_raise 0 = .ok (.iload_n 0, 1) := by decide +kernel
theorem dX6_raise_1 : decode cX6_raise 1 = .ok (.tableswitch 75 1 5 #[35, 43, 51, 59, 67], 35) := by decide +kernel
theorem dX6_raise_36 : decode cX6_raise 36 = .ok (.new 194, 3) := by decide +kernel
theorem dX6_raise_39 : decode cX6_raise 39 = .ok (.dup, 1) := by decide +kernel
theorem dX6_raise_40 : decode cX6_raise 40 = .ok (.invokespecial 196, 3) := by decide +kernel
theorem dX6_raise_43 : decode cX6_raise 43 = .ok (.athrow, 1) := by decide +kernel
theorem dX6_raise_44 : decode cX6_raise 44 = .ok (.new 277, 3) := by decide +kernel
theorem dX6_raise_47 : decode cX6_raise 47 = .ok (.dup, 1) := by decide +kernel
theorem dX6_raise_48 : decode cX6_raise 48 = .ok (.invokespecial 279, 3) := by decide +kernel
theorem dX6_raise_51 : decode cX6_raise 51 = .ok (.athrow, 1) := by decide +kernel
theorem dX6_raise_52 : decode cX6_raise 52 = .ok (.new 312, 3) := by decide +kernel
theorem dX6_raise_55 : decode cX6_raise 55 = .ok (.dup, 1) := by decide +kernel
theorem dX6_raise_56 : decode cX6_raise 56 = .ok (.invokespecial 314, 3) := by decide +kernel
theorem dX6_raise_59 : decode cX6_raise 59 = .ok (.athrow, 1) := by decide +kernel
theorem dX6_raise_60 : decode cX6_raise 60 = .ok (.new 281, 3) := by decide +kernel
theorem dX6_raise_63 : decode cX6_raise 63 = .ok (.dup, 1) := by decide +kernel
theorem dX6_raise_64 : decode cX6_raise 64 = .ok (.invokespecial 283, 3) := by decide +kernel
theorem dX6_raise_67 : decode cX6_raise 67 = .ok (.athrow, 1) := by decide +kernel
theorem dX6_raise_68 : decode cX6_raise 68 = .ok (.new 129, 3) := by decide +kernel
theorem dX6_raise_71 : decode cX6_raise 71 = .ok (.dup, 1) := by decide +kernel
theorem dX6_raise_72 : decode cX6_raise 72 = .ok (.invokespecial 131, 3) := by decide +kernel
theorem dX6_raise_75 : decode cX6_raise 75 = .ok (.athrow, 1) := by decide +kernel
theorem dX6_raise_76 : decode cX6_raise 76 = .ok (.return_, 1) := by decide +kernel
theorem dX6_requireAccount_0 : decode cX6_requireAccount 0 = .ok (.aload_n 0, 1) := by decide +kernel
theorem dX6_requireAccount_1 : decode cX6_requireAccount 1 = .ok (.getfield 10, 3) := by decide +kernel
theorem dX6_requireAccount_4 : decode cX6_requireAccount 4 = .ok (.getfield 71, 3) := by decide +kernel
theorem dX6_requireAccount_7 : decode cX6_requireAccount 7 = .ok (.iload_n 1, 1) := by decide +kernel
theorem dX6_requireAccount_8 : decode cX6_requireAccount 8 = .ok (.invokevirtual 125, 3) := by decide +kernel
theorem dX6_requireAccount_11 : decode cX6_requireAccount 11 = .ok (.ifCond .ne 11, 3) := by decide +kernel
theorem dX6_requireAccount_14 : decode cX6_requireAccount 14 = .ok (.new 194, 3) := by decide +kernel
theorem dX6_requireAccount_17 : decode cX6_requireAccount 17 = .ok (.dup, 1) := by decide +kernel
theorem dX6_requireAccount_18 : decode cX6_requireAccount 18 = .ok (.invokespecial 196, 3) := by decide +kernel
theorem dX6_requireAccount_21 : decode cX6_requireAccount 21 = .ok (.athrow, 1) := by decide +kernel
theorem dX6_requireAccount_22 : decode cX6_requireAccount 22 = .ok (.return_, 1) := by decide +kernel
theorem dX6_requireTransfer_0 : decode cX6_requireTransfer 0 = .ok (.aload_n 0, 1) := by decide +kernel
theorem dX6_requireTransfer_1 : decode cX6_requireTransfer 1 = .ok (.getfield 10, 3) := by decide +kernel
theorem dX6_requireTransfer_4 : decode cX6_requireTransfer 4 = .ok (.getfield 179, 3) := by decide +kernel
theorem dX6_requireTransfer_7 : decode cX6_requireTransfer 7 = .ok (.iload_n 1, 1) := by decide +kernel
theorem dX6_requireTransfer_8 : decode cX6_requireTransfer 8 = .ok (.invokevirtual 218, 3) := by decide +kernel
theorem dX6_requireTransfer_11 : decode cX6_requireTransfer 11 = .ok (.istore_n 2, 1) := by decide +kernel
theorem dX6_requireTransfer_12 : decode cX6_requireTransfer 12 = .ok (.iload_n 2, 1) := by decide +kernel
theorem dX6_requireTransfer_13 : decode cX6_requireTransfer 13 = .ok (.ifCond .ge 11, 3) := by decide +kernel
theorem dX6_requireTransfer_16 : decode cX6_requireTransfer 16 = .ok (.new 129, 3) := by decide +kernel
theorem dX6_requireTransfer_19 : decode cX6_requireTransfer 19 = .ok (.dup, 1) := by decide +kernel
theorem dX6_requireTransfer_20 : decode cX6_requireTransfer 20 = .ok (.invokespecial 131, 3) := by decide +kernel
theorem dX6_requireTransfer_23 : decode cX6_requireTransfer 23 = .ok (.athrow, 1) := by decide +kernel
theorem dX6_requireTransfer_24 : decode cX6_requireTransfer 24 = .ok (.iload_n 2, 1) := by decide +kernel
theorem dX6_requireTransfer_25 : decode cX6_requireTransfer 25 = .ok (.ireturn, 1) := by decide +kernel
theorem dX6_requireMovement_0 : decode cX6_requireMovement 0 = .ok (.iload_n 1, 1) := by decide +kernel
theorem dX6_requireMovement_1 : decode cX6_requireMovement 1 = .ok (.ifCond .lt 17, 3) := by decide +kernel
theorem dX6_requireMovement_4 : decode cX6_requireMovement 4 = .ok (.iload_n 1, 1) := by decide +kernel
theorem dX6_requireMovement_5 : decode cX6_requireMovement 5 = .ok (.aload_n 0, 1) := by decide +kernel
theorem dX6_requireMovement_6 : decode cX6_requireMovement 6 = .ok (.getfield 10, 3) := by decide +kernel
theorem dX6_requireMovement_9 : decode cX6_requireMovement 9 = .ok (.getfield 237, 3) := by decide +kernel
theorem dX6_requireMovement_12 : decode cX6_requireMovement 12 = .ok (.getfield 241, 3) := by decide +kernel
theorem dX6_requireMovement_15 : decode cX6_requireMovement 15 = .ok (.if_icmp .lt 11, 3) := by decide +kernel
theorem dX6_requireMovement_18 : decode cX6_requireMovement 18 = .ok (.new 129, 3) := by decide +kernel
theorem dX6_requireMovement_21 : decode cX6_requireMovement 21 = .ok (.dup, 1) := by decide +kernel
theorem dX6_requireMovement_22 : decode cX6_requireMovement 22 = .ok (.invokespecial 131, 3) := by decide +kernel
theorem dX6_requireMovement_25 : decode cX6_requireMovement 25 = .ok (.athrow, 1) := by decide +kernel
theorem dX6_requireMovement_26 : decode cX6_requireMovement 26 = .ok (.aload_n 0, 1) := by decide +kernel
theorem dX6_requireMovement_27 : decode cX6_requireMovement 27 = .ok (.getfield 10, 3) := by decide +kernel
theorem dX6_requireMovement_30 : decode cX6_requireMovement 30 = .ok (.getfield 237, 3) := by decide +kernel
theorem dX6_requireMovement_33 : decode cX6_requireMovement 33 = .ok (.iload_n 1, 1) := by decide +kernel
theorem dX6_requireMovement_34 : decode cX6_requireMovement 34 = .ok (.invokevirtual 315, 3) := by decide +kernel
theorem dX6_requireMovement_37 : decode cX6_requireMovement 37 = .ok (.ireturn, 1) := by decide +kernel
theorem dX6_fillSums_0 : decode cX6_fillSums 0 = .ok (.iconst 0, 1) := by decide +kernel
theorem dX6_fillSums_1 : decode cX6_fillSums 1 = .ok (.istore_n 1, 1) := by decide +kernel
theorem dX6_fillSums_2 : decode cX6_fillSums 2 = .ok (.iload_n 1, 1) := by decide +kernel
theorem dX6_fillSums_3 : decode cX6_fillSums 3 = .ok (.bipush 8, 2) := by decide +kernel
theorem dX6_fillSums_5 : decode cX6_fillSums 5 = .ok (.if_icmp .ge 32, 3) := by decide +kernel
theorem dX6_fillSums_8 : decode cX6_fillSums 8 = .ok (.iconst 0, 1) := by decide +kernel
theorem dX6_fillSums_9 : decode cX6_fillSums 9 = .ok (.istore_n 2, 1) := by decide +kernel
theorem dX6_fillSums_10 : decode cX6_fillSums 10 = .ok (.iload_n 2, 1) := by decide +kernel
theorem dX6_fillSums_11 : decode cX6_fillSums 11 = .ok (.bipush 8, 2) := by decide +kernel
theorem dX6_fillSums_13 : decode cX6_fillSums 13 = .ok (.if_icmp .ge 18, 3) := by decide +kernel
theorem dX6_fillSums_16 : decode cX6_fillSums 16 = .ok (.aload_n 0, 1) := by decide +kernel
theorem dX6_fillSums_17 : decode cX6_fillSums 17 = .ok (.getfield 45, 3) := by decide +kernel
theorem dX6_fillSums_20 : decode cX6_fillSums 20 = .ok (.iload_n 1, 1) := by decide +kernel
theorem dX6_fillSums_21 : decode cX6_fillSums 21 = .ok (.aaload, 1) := by decide +kernel
theorem dX6_fillSums_22 : decode cX6_fillSums 22 = .ok (.iload_n 2, 1) := by decide +kernel
theorem dX6_fillSums_23 : decode cX6_fillSums 23 = .ok (.iconst 0, 1) := by decide +kernel
theorem dX6_fillSums_24 : decode cX6_fillSums 24 = .ok (.iastore, 1) := by decide +kernel
theorem dX6_fillSums_25 : decode cX6_fillSums 25 = .ok (.iinc 2 1, 3) := by decide +kernel
theorem dX6_fillSums_28 : decode cX6_fillSums 28 = .ok (.goto (-18), 3) := by decide +kernel
theorem dX6_fillSums_31 : decode cX6_fillSums 31 = .ok (.iinc 1 1, 3) := by decide +kernel
theorem dX6_fillSums_34 : decode cX6_fillSums 34 = .ok (.goto (-32), 3) := by decide +kernel
theorem dX6_fillSums_37 : decode cX6_fillSums 37 = .ok (.aload_n 0, 1) := by decide +kernel
theorem dX6_fillSums_38 : decode cX6_fillSums 38 = .ok (.getfield 10, 3) := by decide +kernel
theorem dX6_fillSums_41 : decode cX6_fillSums 41 = .ok (.getfield 179, 3) := by decide +kernel
theorem dX6_fillSums_44 : decode cX6_fillSums 44 = .ok (.astore_n 1, 1) := by decide +kernel
theorem dX6_fillSums_45 : decode cX6_fillSums 45 = .ok (.iconst 0, 1) := by decide +kernel
theorem dX6_fillSums_46 : decode cX6_fillSums 46 = .ok (.istore_n 2, 1) := by decide +kernel
theorem dX6_fillSums_47 : decode cX6_fillSums 47 = .ok (.iload_n 2, 1) := by decide +kernel
theorem dX6_fillSums_48 : decode cX6_fillSums 48 = .ok (.aload_n 1, 1) := by decide +kernel
theorem dX6_fillSums_49 : decode cX6_fillSums 49 = .ok (.getfield 193, 3) := by decide +kernel
theorem dX6_fillSums_52 : decode cX6_fillSums 52 = .ok (.if_icmp .ge 36, 3) := by decide +kernel
theorem dX6_fillSums_55 : decode cX6_fillSums 55 = .ok (.aload_n 0, 1) := by decide +kernel
theorem dX6_fillSums_56 : decode cX6_fillSums 56 = .ok (.getfield 45, 3) := by decide +kernel
theorem dX6_fillSums_59 : decode cX6_fillSums 59 = .ok (.aload_n 1, 1) := by decide +kernel
theorem dX6_fillSums_60 : decode cX6_fillSums 60 = .ok (.getfield 200, 3) := by decide +kernel
theorem dX6_fillSums_63 : decode cX6_fillSums 63 = .ok (.iload_n 2, 1) := by decide +kernel
theorem dX6_fillSums_64 : decode cX6_fillSums 64 = .ok (.iaload, 1) := by decide +kernel
theorem dX6_fillSums_65 : decode cX6_fillSums 65 = .ok (.aaload, 1) := by decide +kernel
theorem dX6_fillSums_66 : decode cX6_fillSums 66 = .ok (.aload_n 1, 1) := by decide +kernel
theorem dX6_fillSums_67 : decode cX6_fillSums 67 = .ok (.getfield 206, 3) := by decide +kernel
theorem dX6_fillSums_70 : decode cX6_fillSums 70 = .ok (.iload_n 2, 1) := by decide +kernel
theorem dX6_fillSums_71 : decode cX6_fillSums 71 = .ok (.iaload, 1) := by decide +kernel
theorem dX6_fillSums_72 : decode cX6_fillSums 72 = .ok (.dup2, 1) := by decide +kernel
theorem dX6_fillSums_73 : decode cX6_fillSums 73 = .ok (.iaload, 1) := by decide +kernel
theorem dX6_fillSums_74 : decode cX6_fillSums 74 = .ok (.aload_n 1, 1) := by decide +kernel
theorem dX6_fillSums_75 : decode cX6_fillSums 75 = .ok (.getfield 209, 3) := by decide +kernel
theorem dX6_fillSums_78 : decode cX6_fillSums 78 = .ok (.iload_n 2, 1) := by decide +kernel
theorem dX6_fillSums_79 : decode cX6_fillSums 79 = .ok (.iaload, 1) := by decide +kernel
theorem dX6_fillSums_80 : decode cX6_fillSums 80 = .ok (.iadd, 1) := by decide +kernel
theorem dX6_fillSums_81 : decode cX6_fillSums 81 = .ok (.iastore, 1) := by decide +kernel
theorem dX6_fillSums_82 : decode cX6_fillSums 82 = .ok (.iinc 2 1, 3) := by decide +kernel
theorem dX6_fillSums_85 : decode cX6_fillSums 85 = .ok (.goto (-38), 3) := by decide +kernel
theorem dX6_fillSums_88 : decode cX6_fillSums 88 = .ok (.return_, 1) := by decide +kernel
theorem dX6_isIn_0 : decode cX6_isIn 0 = .ok (.iload_n 0, 1) := by decide +kernel
theorem dX6_isIn_1 : decode cX6_isIn 1 = .ok (.iload_n 1, 1) := by decide +kernel
theorem dX6_isIn_2 : decode cX6_isIn 2 = .ok (.if_icmp .lt 12, 3) := by decide +kernel
theorem dX6_isIn_5 : decode cX6_isIn 5 = .ok (.iload_n 0, 1) := by decide +kernel
theorem dX6_isIn_6 : decode cX6_isIn 6 = .ok (.iload_n 2, 1) := by decide +kernel
theorem dX6_isIn_7 : decode cX6_isIn 7 = .ok (.if_icmp .gt 7, 3) := by decide +kernel
theorem dX6_isIn_10 : decode cX6_isIn 10 = .ok (.iconst 1, 1) := by decide +kernel
theorem dX6_isIn_11 : decode cX6_isIn 11 = .ok (.goto 4, 3) := by decide +kernel
theorem dX6_isIn_14 : decode cX6_isIn 14 = .ok (.iconst 0, 1) := by decide +kernel
theorem dX6_isIn_15 : decode cX6_isIn 15 = .ok (.ireturn, 1) := by decide +kernel
