theorem dL_open_0 : decode cL_open 0 = .ok (.aload_n 2, 1) := by decide +kernel
theorem dL_open_1 : decode cL_open 1 = .ok (.iconst 0, 1) := by decide +kernel
theorem dL_open_2 : decode cL_open 2 = .ok (.aload_n 0, 1) := by decide +kernel
theorem dL_open_3 : decode cL_open 3 = .ok (.iload_n 1, 1) := by decide +kernel
theorem dL_open_4 : decode cL_open 4 = .ok (.invokevirtual 7, 3) := by decide +kernel
theorem dL_open_7 : decode cL_open 7 = .ok (.i2l, 1) := by decide +kernel
theorem dL_open_8 : decode cL_open 8 = .ok (.lastore, 1) := by decide +kernel
theorem dL_open_9 : decode cL_open 9 = .ok (.goto 9, 3) := by decide +kernel
theorem dL_open_12 : decode cL_open 12 = .ok (.astore_n 3, 1) := by decide +kernel
theorem dL_open_13 : decode cL_open 13 = .ok (.iconst 1, 1) := by decide +kernel
theorem dL_open_14 : decode cL_open 14 = .ok (.ireturn, 1) := by decide +kernel
theorem dL_open_15 : decode cL_open 15 = .ok (.astore_n 3, 1) := by decide +kernel
theorem dL_open_16 : decode cL_open 16 = .ok (.iconst 2, 1) := by decide +kernel
theorem dL_open_17 : decode cL_open 17 = .ok (.ireturn, 1) := by decide +kernel
theorem dL_open_18 : decode cL_open 18 = .ok (.iconst 0, 1) := by decide +kernel
theorem dL_open_19 : decode cL_open 19 = .ok (.ireturn, 1) := by decide +kernel
theorem dL_deposit_0 : decode cL_deposit 0 = .ok (.aload_n 3, 1) := by decide +kernel
theorem dL_deposit_1 : decode cL_deposit 1 = .ok (.iconst 0, 1) := by decide +kernel
theorem dL_deposit_2 : decode cL_deposit 2 = .ok (.aload_n 0, 1) := by decide +kernel
theorem dL_deposit_3 : decode cL_deposit 3 = .ok (.iload_n 1, 1) := by decide +kernel
theorem dL_deposit_4 : decode cL_deposit 4 = .ok (.iload_n 2, 1) := by decide +kernel
theorem dL_deposit_5 : decode cL_deposit 5 = .ok (.invokevirtual 17, 3) := by decide +kernel
theorem dL_deposit_8 : decode cL_deposit 8 = .ok (.i2l, 1) := by decide +kernel
theorem dL_deposit_9 : decode cL_deposit 9 = .ok (.lastore, 1) := by decide +kernel
theorem dL_deposit_10 : decode cL_deposit 10 = .ok (.goto 15, 3) := by decide +kernel
theorem dL_deposit_13 : decode cL_deposit 13 = .ok (.astore 4, 2) := by decide +kernel
theorem dL_deposit_15 : decode cL_deposit 15 = .ok (.iconst 1, 1) := by decide +kernel
theorem dL_deposit_16 : decode cL_deposit 16 = .ok (.ireturn, 1) := by decide +kernel
theorem dL_deposit_17 : decode cL_deposit 17 = .ok (.astore 4, 2) := by decide +kernel
theorem dL_deposit_19 : decode cL_deposit 19 = .ok (.iconst 2, 1) := by decide +kernel
theorem dL_deposit_20 : decode cL_deposit 20 = .ok (.ireturn, 1) := by decide +kernel
theorem dL_deposit_21 : decode cL_deposit 21 = .ok (.astore 4, 2) := by decide +kernel
theorem dL_deposit_23 : decode cL_deposit 23 = .ok (.iconst 3, 1) := by decide +kernel
theorem dL_deposit_24 : decode cL_deposit 24 = .ok (.ireturn, 1) := by decide +kernel
theorem dL_deposit_25 : decode cL_deposit 25 = .ok (.iconst 0, 1) := by decide +kernel
theorem dL_deposit_26 : decode cL_deposit 26 = .ok (.ireturn, 1) := by decide +kernel
theorem dL_withdraw_0 : decode cL_withdraw 0 = .ok (.aload_n 3, 1) := by decide +kernel
theorem dL_withdraw_1 : decode cL_withdraw 1 = .ok (.iconst 0, 1) := by decide +kernel
theorem dL_withdraw_2 : decode cL_withdraw 2 = .ok (.aload_n 0, 1) := by decide +kernel
theorem dL_withdraw_3 : decode cL_withdraw 3 = .ok (.iload_n 1, 1) := by decide +kernel
theorem dL_withdraw_4 : decode cL_withdraw 4 = .ok (.iload_n 2, 1) := by decide +kernel
theorem dL_withdraw_5 : decode cL_withdraw 5 = .ok (.invokevirtual 23, 3) := by decide +kernel
theorem dL_withdraw_8 : decode cL_withdraw 8 = .ok (.i2l, 1) := by decide +kernel
theorem dL_withdraw_9 : decode cL_withdraw 9 = .ok (.lastore, 1) := by decide +kernel
theorem dL_withdraw_10 : decode cL_withdraw 10 = .ok (.goto 15, 3) := by decide +kernel
theorem dL_withdraw_13 : decode cL_withdraw 13 = .ok (.astore 4, 2) := by decide +kernel
theorem dL_withdraw_15 : decode cL_withdraw 15 = .ok (.iconst 1, 1) := by decide +kernel
theorem dL_withdraw_16 : decode cL_withdraw 16 = .ok (.ireturn, 1) := by decide +kernel
theorem dL_withdraw_17 : decode cL_withdraw 17 = .ok (.astore 4, 2) := by decide +kernel
theorem dL_withdraw_19 : decode cL_withdraw 19 = .ok (.iconst 2, 1) := by decide +kernel
theorem dL_withdraw_20 : decode cL_withdraw 20 = .ok (.ireturn, 1) := by decide +kernel
theorem dL_withdraw_21 : decode cL_withdraw 21 = .ok (.astore 4, 2) := by decide +kernel
theorem dL_withdraw_23 : decode cL_withdraw 23 = .ok (.iconst 3, 1) := by decide +kernel
theorem dL_withdraw_24 : decode cL_withdraw 24 = .ok (.ireturn, 1) := by decide +kernel
theorem dL_withdraw_25 : decode cL_withdraw 25 = .ok (.iconst 0, 1) := by decide +kernel
theorem dL_withdraw_26 : decode cL_withdraw 26 = .ok (.ireturn, 1) := by decide +kernel
theorem dL_setLimit_0 : decode cL_setLimit 0 = .ok (.aload_n 3, 1) := by decide +kernel
theorem dL_setLimit_1 : decode cL_setLimit 1 = .ok (.iconst 0, 1) := by decide +kernel
theorem dL_setLimit_2 : decode cL_setLimit 2 = .ok (.aload_n 0, 1) := by decide +kernel
theorem dL_setLimit_3 : decode cL_setLimit 3 = .ok (.iload_n 1, 1) := by decide +kernel
theorem dL_setLimit_4 : decode cL_setLimit 4 = .ok (.iload_n 2, 1) := by decide +kernel
theorem dL_setLimit_5 : decode cL_setLimit 5 = .ok (.invokevirtual 26, 3) := by decide +kernel
theorem dL_setLimit_8 : decode cL_setLimit 8 = .ok (.i2l, 1) := by decide +kernel
theorem dL_setLimit_9 : decode cL_setLimit 9 = .ok (.lastore, 1) := by decide +kernel
theorem dL_setLimit_10 : decode cL_setLimit 10 = .ok (.goto 19, 3) := by decide +kernel
theorem dL_setLimit_13 : decode cL_setLimit 13 = .ok (.astore 4, 2) := by decide +kernel
theorem dL_setLimit_15 : decode cL_setLimit 15 = .ok (.iconst 1, 1) := by decide +kernel
theorem dL_setLimit_16 : decode cL_setLimit 16 = .ok (.ireturn, 1) := by decide +kernel
theorem dL_setLimit_17 : decode cL_setLimit 17 = .ok (.astore 4, 2) := by decide +kernel
theorem dL_setLimit_19 : decode cL_setLimit 19 = .ok (.iconst 2, 1) := by decide +kernel
theorem dL_setLimit_20 : decode cL_setLimit 20 = .ok (.ireturn, 1) := by decide +kernel
theorem dL_setLimit_21 : decode cL_setLimit 21 = .ok (.astore 4, 2) := by decide +kernel
theorem dL_setLimit_23 : decode cL_setLimit 23 = .ok (.iconst 3, 1) := by decide +kernel
theorem dL_setLimit_24 : decode cL_setLimit 24 = .ok (.ireturn, 1) := by decide +kernel
theorem dL_setLimit_25 : decode cL_setLimit 25 = .ok (.astore 4, 2) := by decide +kernel
theorem dL_setLimit_27 : decode cL_setLimit 27 = .ok (.iconst 4, 1) := by decide +kernel
theorem dL_setLimit_28 : decode cL_setLimit 28 = .ok (.ireturn, 1) := by decide +kernel
theorem dL_setLimit_29 : decode cL_setLimit 29 = .ok (.iconst 0, 1) := by decide +kernel
theorem dL_setLimit_30 : decode cL_setLimit 30 = .ok (.ireturn, 1) := by decide +kernel
theorem dL_kindOf_0 : decode cL_kindOf 0 = .ok (.aload_n 2, 1) := by decide +kernel
theorem dL_kindOf_1 : decode cL_kindOf 1 = .ok (.iconst 0, 1) := by decide +kernel
theorem dL_kindOf_2 : decode cL_kindOf 2 = .ok (.aload_n 0, 1) := by decide +kernel
theorem dL_kindOf_3 : decode cL_kindOf 3 = .ok (.iload_n 1, 1) := by decide +kernel
theorem dL_kindOf_4 : decode cL_kindOf 4 = .ok (.invokevirtual 31, 3) := by decide +kernel
theorem dL_kindOf_7 : decode cL_kindOf 7 = .ok (.i2l, 1) := by decide +kernel
theorem dL_kindOf_8 : decode cL_kindOf 8 = .ok (.lastore, 1) := by decide +kernel
theorem dL_kindOf_9 : decode cL_kindOf 9 = .ok (.goto 6, 3) := by decide +kernel
theorem dL_kindOf_12 : decode cL_kindOf 12 = .ok (.astore_n 3, 1) := by decide +kernel
theorem dL_kindOf_13 : decode cL_kindOf 13 = .ok (.iconst 1, 1) := by decide +kernel
theorem dL_kindOf_14 : decode cL_kindOf 14 = .ok (.ireturn, 1) := by decide +kernel
theorem dL_kindOf_15 : decode cL_kindOf 15 = .ok (.iconst 0, 1) := by decide +kernel
theorem dL_kindOf_16 : decode cL_kindOf 16 = .ok (.ireturn, 1) := by decide +kernel
theorem dL_balanceOf_0 : decode cL_balanceOf 0 = .ok (.aload_n 2, 1) := by decide +kernel
theorem dL_balanceOf_1 : decode cL_balanceOf 1 = .ok (.iconst 0, 1) := by decide +kernel
theorem dL_balanceOf_2 : decode cL_balanceOf 2 = .ok (.aload_n 0, 1) := by decide +kernel
theorem dL_balanceOf_3 : decode cL_balanceOf 3 = .ok (.iload_n 1, 1) := by decide +kernel
theorem dL_balanceOf_4 : decode cL_balanceOf 4 = .ok (.invokevirtual 34, 3) := by decide +kernel
theorem dL_balanceOf_7 : decode cL_balanceOf 7 = .ok (.i2l, 1) := by decide +kernel
theorem dL_balanceOf_8 : decode cL_balanceOf 8 = .ok (.lastore, 1) := by decide +kernel
theorem dL_balanceOf_9 : decode cL_balanceOf 9 = .ok (.goto 6, 3) := by decide +kernel
theorem dL_balanceOf_12 : decode cL_balanceOf 12 = .ok (.astore_n 3, 1) := by decide +kernel
theorem dL_balanceOf_13 : decode cL_balanceOf 13 = .ok (.iconst 1, 1) := by decide +kernel
theorem dL_balanceOf_14 : decode cL_balanceOf 14 = .ok (.ireturn, 1) := by decide +kernel
theorem dL_balanceOf_15 : decode cL_balanceOf 15 = .ok (.iconst 0, 1) := by decide +kernel
theorem dL_balanceOf_16 : decode cL_balanceOf 16 = .ok (.ireturn, 1) := by decide +kernel
theorem dL_limitOf_0 : decode cL_limitOf 0 = .ok (.aload_n 2, 1) := by decide +kernel
theorem dL_limitOf_1 : decode cL_limitOf 1 = .ok (.iconst 0, 1) := by decide +kernel
theorem dL_limitOf_2 : decode cL_limitOf 2 = .ok (.aload_n 0, 1) := by decide +kernel
theorem dL_limitOf_3 : decode cL_limitOf 3 = .ok (.iload_n 1, 1) := by decide +kernel
theorem dL_limitOf_4 : decode cL_limitOf 4 = .ok (.invokevirtual 37, 3) := by decide +kernel
theorem dL_limitOf_7 : decode cL_limitOf 7 = .ok (.i2l, 1) := by decide +kernel
theorem dL_limitOf_8 : decode cL_limitOf 8 = .ok (.lastore, 1) := by decide +kernel
theorem dL_limitOf_9 : decode cL_limitOf 9 = .ok (.goto 6, 3) := by decide +kernel
theorem dL_limitOf_12 : decode cL_limitOf 12 = .ok (.astore_n 3, 1) := by decide +kernel
theorem dL_limitOf_13 : decode cL_limitOf 13 = .ok (.iconst 1, 1) := by decide +kernel
theorem dL_limitOf_14 : decode cL_limitOf 14 = .ok (.ireturn, 1) := by decide +kernel
theorem dL_limitOf_15 : decode cL_limitOf 15 = .ok (.iconst 0, 1) := by decide +kernel
theorem dL_limitOf_16 : decode cL_limitOf 16 = .ok (.ireturn, 1) := by decide +kernel
theorem dL_availableIn_0 : decode cL_availableIn 0 = .ok (.aload_n 2, 1) := by decide +kernel
theorem dL_availableIn_1 : decode cL_availableIn 1 = .ok (.iconst 0, 1) := by decide +kernel
theorem dL_availableIn_2 : decode cL_availableIn 2 = .ok (.aload_n 0, 1) := by decide +kernel
theorem dL_availableIn_3 : decode cL_availableIn 3 = .ok (.iload_n 1, 1) := by decide +kernel
theorem dL_availableIn_4 : decode cL_availableIn 4 = .ok (.invokevirtual 40, 3) := by decide +kernel
theorem dL_availableIn_7 : decode cL_availableIn 7 = .ok (.i2l, 1) := by decide +kernel
theorem dL_availableIn_8 : decode cL_availableIn 8 = .ok (.lastore, 1) := by decide +kernel
theorem dL_availableIn_9 : decode cL_availableIn 9 = .ok (.goto 6, 3) := by decide +kernel
theorem dL_availableIn_12 : decode cL_availableIn 12 = .ok (.astore_n 3, 1) := by decide +kernel
theorem dL_availableIn_13 : decode cL_availableIn 13 = .ok (.iconst 1, 1) := by decide +kernel
theorem dL_availableIn_14 : decode cL_availableIn 14 = .ok (.ireturn, 1) := by decide +kernel
theorem dL_availableIn_15 : decode cL_availableIn 15 = .ok (.iconst 0, 1) := by decide +kernel
theorem dL_availableIn_16 : decode cL_availableIn 16 = .ok (.ireturn, 1) := by decide +kernel
theorem dL_wasTouched_0 : decode cL_wasTouched 0 = .ok (.aload_n 2, 1) := by decide +kernel
theorem dL_wasTouched_1 : decode cL_wasTouched 1 = .ok (.iconst 0, 1) := by decide +kernel
theorem dL_wasTouched_2 : decode cL_wasTouched 2 = .ok (.aload_n 0, 1) := by decide +kernel
theorem dL_wasTouched_3 : decode cL_wasTouched 3 = .ok (.iload_n 1, 1) := by decide +kernel
theorem dL_wasTouched_4 : decode cL_wasTouched 4 = .ok (.invokevirtual 43, 3) := by decide +kernel
theorem dL_wasTouched_7 : decode cL_wasTouched 7 = .ok (.ifCond .eq 7, 3) := by decide +kernel
theorem dL_wasTouched_10 : decode cL_wasTouched 10 = .ok (.lconst 1, 1) := by decide +kernel
theorem dL_wasTouched_11 : decode cL_wasTouched 11 = .ok (.goto 4, 3) := by decide +kernel
theorem dL_wasTouched_14 : decode cL_wasTouched 14 = .ok (.lconst 0, 1) := by decide +kernel
theorem dL_wasTouched_15 : decode cL_wasTouched 15 = .ok (.lastore, 1) := by decide +kernel
theorem dL_wasTouched_16 : decode cL_wasTouched 16 = .ok (.goto 6, 3) := by decide +kernel
theorem dL_wasTouched_19 : decode cL_wasTouched 19 = .ok (.astore_n 3, 1) := by decide +kernel
theorem dL_wasTouched_20 : decode cL_wasTouched 20 = .ok (.iconst 1, 1) := by decide +kernel
theorem dL_wasTouched_21 : decode cL_wasTouched 21 = .ok (.ireturn, 1) := by decide +kernel
theorem dL_wasTouched_22 : decode cL_wasTouched 22 = .ok (.iconst 0, 1) := by decide +kernel
theorem dL_wasTouched_23 : decode cL_wasTouched 23 = .ok (.ireturn, 1) := by decide +kernel
theorem dL_interestOf_0 : decode cL_interestOf 0 = .ok (.aload_n 2, 1) := by decide +kernel
theorem dL_interestOf_1 : decode cL_interestOf 1 = .ok (.iconst 0, 1) := by decide +kernel
theorem dL_interestOf_2 : decode cL_interestOf 2 = .ok (.aload_n 0, 1) := by decide +kernel
theorem dL_interestOf_3 : decode cL_interestOf 3 = .ok (.iload_n 1, 1) := by decide +kernel
theorem dL_interestOf_4 : decode cL_interestOf 4 = .ok (.invokevirtual 47, 3) := by decide +kernel
theorem dL_interestOf_7 : decode cL_interestOf 7 = .ok (.i2l, 1) := by decide +kernel
theorem dL_interestOf_8 : decode cL_interestOf 8 = .ok (.lastore, 1) := by decide +kernel
theorem dL_interestOf_9 : decode cL_interestOf 9 = .ok (.goto 6, 3) := by decide +kernel
theorem dL_interestOf_12 : decode cL_interestOf 12 = .ok (.astore_n 3, 1) := by decide +kernel
theorem dL_interestOf_13 : decode cL_interestOf 13 = .ok (.iconst 1, 1) := by decide +kernel
theorem dL_interestOf_14 : decode cL_interestOf 14 = .ok (.ireturn, 1) := by decide +kernel
theorem dL_interestOf_15 : decode cL_interestOf 15 = .ok (.iconst 0, 1) := by decide +kernel
theorem dL_interestOf_16 : decode cL_interestOf 16 = .ok (.ireturn, 1) := by decide +kernel
theorem dL_accountAtRank_0 : decode cL_accountAtRank 0 = .ok (.aload_n 2, 1) := by decide +kernel
theorem dL_accountAtRank_1 : decode cL_accountAtRank 1 = .ok (.iconst 0, 1) := by decide +kernel
theorem dL_accountAtRank_2 : decode cL_accountAtRank 2 = .ok (.aload_n 0, 1) := by decide +kernel
theorem dL_accountAtRank_3 : decode cL_accountAtRank 3 = .ok (.iload_n 1, 1) := by decide +kernel
theorem dL_accountAtRank_4 : decode cL_accountAtRank 4 = .ok (.invokevirtual 50, 3) := by decide +kernel
theorem dL_accountAtRank_7 : decode cL_accountAtRank 7 = .ok (.i2l, 1) := by decide +kernel
theorem dL_accountAtRank_8 : decode cL_accountAtRank 8 = .ok (.lastore, 1) := by decide +kernel
theorem dL_accountAtRank_9 : decode cL_accountAtRank 9 = .ok (.goto 6, 3) := by decide +kernel
theorem dL_accountAtRank_12 : decode cL_accountAtRank 12 = .ok (.astore_n 3, 1) := by decide +kernel
theorem dL_accountAtRank_13 : decode cL_accountAtRank 13 = .ok (.iconst 1, 1) := by decide +kernel
theorem dL_accountAtRank_14 : decode cL_accountAtRank 14 = .ok (.ireturn, 1) := by decide +kernel
theorem dL_accountAtRank_15 : decode cL_accountAtRank 15 = .ok (.iconst 0, 1) := by decide +kernel
theorem dL_accountAtRank_16 : decode cL_accountAtRank 16 = .ok (.ireturn, 1) := by decide +kernel
theorem dL_meanBalance_0 : decode cL_meanBalance 0 = .ok (.aload_n 1, 1) := by decide +kernel
theorem dL_meanBalance_1 : decode cL_meanBalance 1 = .ok (.iconst 0, 1) := by decide +kernel
theorem dL_meanBalance_2 : decode cL_meanBalance 2 = .ok (.aload_n 0, 1) := by decide +kernel
theorem dL_meanBalance_3 : decode cL_meanBalance 3 = .ok (.invokevirtual 55, 3) := by decide +kernel
theorem dL_meanBalance_6 : decode cL_meanBalance 6 = .ok (.dastore, 1) := by decide +kernel
theorem dL_meanBalance_7 : decode cL_meanBalance 7 = .ok (.goto 6, 3) := by decide +kernel
theorem dL_meanBalance_10 : decode cL_meanBalance 10 = .ok (.astore_n 2, 1) := by decide +kernel
theorem dL_meanBalance_11 : decode cL_meanBalance 11 = .ok (.iconst 1, 1) := by decide +kernel
theorem dL_meanBalance_12 : decode cL_meanBalance 12 = .ok (.ireturn, 1) := by decide +kernel
theorem dL_meanBalance_13 : decode cL_meanBalance 13 = .ok (.iconst 0, 1) := by decide +kernel
theorem dL_meanBalance_14 : decode cL_meanBalance 14 = .ok (.ireturn, 1) := by decide +kernel
theorem dL_endDays_0 : decode cL_endDays 0 = .ok (.aload_n 2, 1) := by decide +kernel
theorem dL_endDays_1 : decode cL_endDays 1 = .ok (.iconst 0, 1) := by decide +kernel
theorem dL_endDays_2 : decode cL_endDays 2 = .ok (.aload_n 0, 1) := by decide +kernel
theorem dL_endDays_3 : decode cL_endDays 3 = .ok (.iload_n 1, 1) := by decide +kernel
theorem dL_endDays_4 : decode cL_endDays 4 = .ok (.invokevirtual 61, 3) := by decide +kernel
theorem dL_endDays_7 : decode cL_endDays 7 = .ok (.i2l, 1) := by decide +kernel
theorem dL_endDays_8 : decode cL_endDays 8 = .ok (.lastore, 1) := by decide +kernel
theorem dL_endDays_9 : decode cL_endDays 9 = .ok (.goto 6, 3) := by decide +kernel
theorem dL_endDays_12 : decode cL_endDays 12 = .ok (.astore_n 3, 1) := by decide +kernel
theorem dL_endDays_13 : decode cL_endDays 13 = .ok (.iconst 1, 1) := by decide +kernel
theorem dL_endDays_14 : decode cL_endDays 14 = .ok (.ireturn, 1) := by decide +kernel
theorem dL_endDays_15 : decode cL_endDays 15 = .ok (.iconst 0, 1) := by decide +kernel
theorem dL_endDays_16 : decode cL_endDays 16 = .ok (.ireturn, 1) := by decide +kernel
theorem dL_balanceAfter_0 : decode cL_balanceAfter 0 = .ok (.aload_n 3, 1) := by decide +kernel
theorem dL_balanceAfter_1 : decode cL_balanceAfter 1 = .ok (.iconst 0, 1) := by decide +kernel
theorem dL_balanceAfter_2 : decode cL_balanceAfter 2 = .ok (.aload_n 0, 1) := by decide +kernel
theorem dL_balanceAfter_3 : decode cL_balanceAfter 3 = .ok (.iload_n 1, 1) := by decide +kernel
theorem dL_balanceAfter_4 : decode cL_balanceAfter 4 = .ok (.iload_n 2, 1) := by decide +kernel
theorem dL_balanceAfter_5 : decode cL_balanceAfter 5 = .ok (.invokevirtual 64, 3) := by decide +kernel
theorem dL_balanceAfter_8 : decode cL_balanceAfter 8 = .ok (.i2l, 1) := by decide +kernel
theorem dL_balanceAfter_9 : decode cL_balanceAfter 9 = .ok (.lastore, 1) := by decide +kernel
theorem dL_balanceAfter_10 : decode cL_balanceAfter 10 = .ok (.goto 11, 3) := by decide +kernel
theorem dL_balanceAfter_13 : decode cL_balanceAfter 13 = .ok (.astore 4, 2) := by decide +kernel
theorem dL_balanceAfter_15 : decode cL_balanceAfter 15 = .ok (.iconst 1, 1) := by decide +kernel
theorem dL_balanceAfter_16 : decode cL_balanceAfter 16 = .ok (.ireturn, 1) := by decide +kernel
theorem dL_balanceAfter_17 : decode cL_balanceAfter 17 = .ok (.astore 4, 2) := by decide +kernel
theorem dL_balanceAfter_19 : decode cL_balanceAfter 19 = .ok (.iconst 2, 1) := by decide +kernel
theorem dL_balanceAfter_20 : decode cL_balanceAfter 20 = .ok (.ireturn, 1) := by decide +kernel
theorem dL_balanceAfter_21 : decode cL_balanceAfter 21 = .ok (.iconst 0, 1) := by decide +kernel
theorem dL_balanceAfter_22 : decode cL_balanceAfter 22 = .ok (.ireturn, 1) := by decide +kernel
theorem dL_seal_0 : decode cL_seal 0 = .ok (.aload 5, 2) := by decide +kernel
theorem dL_seal_2 : decode cL_seal 2 = .ok (.iconst 0, 1) := by decide +kernel
theorem dL_seal_3 : decode cL_seal 3 = .ok (.aload_n 0, 1) := by decide +kernel
theorem dL_seal_4 : decode cL_seal 4 = .ok (.iload_n 1, 1) := by decide +kernel
theorem dL_seal_5 : decode cL_seal 5 = .ok (.iload_n 2, 1) := by decide +kernel
theorem dL_seal_6 : decode cL_seal 6 = .ok (.iload_n 3, 1) := by decide +kernel
theorem dL_seal_7 : decode cL_seal 7 = .ok (.iload 4, 2) := by decide +kernel
theorem dL_seal_9 : decode cL_seal 9 = .ok (.invokevirtual 67, 3) := by decide +kernel
theorem dL_seal_12 : decode cL_seal 12 = .ok (.i2l, 1) := by decide +kernel
theorem dL_seal_13 : decode cL_seal 13 = .ok (.lastore, 1) := by decide +kernel
theorem dL_seal_14 : decode cL_seal 14 = .ok (.goto 15, 3) := by decide +kernel
theorem dL_seal_17 : decode cL_seal 17 = .ok (.astore 6, 2) := by decide +kernel
theorem dL_seal_19 : decode cL_seal 19 = .ok (.iconst 1, 1) := by decide +kernel
theorem dL_seal_20 : decode cL_seal 20 = .ok (.ireturn, 1) := by decide +kernel
theorem dL_seal_21 : decode cL_seal 21 = .ok (.astore 6, 2) := by decide +kernel
theorem dL_seal_23 : decode cL_seal 23 = .ok (.iconst 2, 1) := by decide +kernel
theorem dL_seal_24 : decode cL_seal 24 = .ok (.ireturn, 1) := by decide +kernel
theorem dL_seal_25 : decode cL_seal 25 = .ok (.astore 6, 2) := by decide +kernel
theorem dL_seal_27 : decode cL_seal 27 = .ok (.iconst 3, 1) := by decide +kernel
theorem dL_seal_28 : decode cL_seal 28 = .ok (.ireturn, 1) := by decide +kernel
theorem dL_seal_29 : decode cL_seal 29 = .ok (.iconst 0, 1) := by decide +kernel
theorem dL_seal_30 : decode cL_seal 30 = .ok (.ireturn, 1) := by decide +kernel
theorem dL_cancel_0 : decode cL_cancel 0 = .ok (.aload_n 2, 1) := by decide +kernel
theorem dL_cancel_1 : decode cL_cancel 1 = .ok (.iconst 0, 1) := by decide +kernel
theorem dL_cancel_2 : decode cL_cancel 2 = .ok (.aload_n 0, 1) := by decide +kernel
theorem dL_cancel_3 : decode cL_cancel 3 = .ok (.iload_n 1, 1) := by decide +kernel
theorem dL_cancel_4 : decode cL_cancel 4 = .ok (.invokevirtual 71, 3) := by decide +kernel
theorem dL_cancel_7 : decode cL_cancel 7 = .ok (.i2l, 1) := by decide +kernel
theorem dL_cancel_8 : decode cL_cancel 8 = .ok (.lastore, 1) := by decide +kernel
theorem dL_cancel_9 : decode cL_cancel 9 = .ok (.goto 6, 3) := by decide +kernel
theorem dL_cancel_12 : decode cL_cancel 12 = .ok (.astore_n 3, 1) := by decide +kernel
theorem dL_cancel_13 : decode cL_cancel 13 = .ok (.iconst 1, 1) := by decide +kernel
theorem dL_cancel_14 : decode cL_cancel 14 = .ok (.ireturn, 1) := by decide +kernel
theorem dL_cancel_15 : decode cL_cancel 15 = .ok (.iconst 0, 1) := by decide +kernel
theorem dL_cancel_16 : decode cL_cancel 16 = .ok (.ireturn, 1) := by decide +kernel
theorem dL_transferAt_0 : decode cL_transferAt 0 = .ok (.aload_n 2, 1) := by decide +kernel
theorem dL_transferAt_1 : decode cL_transferAt 1 = .ok (.iconst 0, 1) := by decide +kernel
theorem dL_transferAt_2 : decode cL_transferAt 2 = .ok (.aload_n 0, 1) := by decide +kernel
theorem dL_transferAt_3 : decode cL_transferAt 3 = .ok (.iload_n 1, 1) := by decide +kernel
theorem dL_transferAt_4 : decode cL_transferAt 4 = .ok (.invokevirtual 74, 3) := by decide +kernel
theorem dL_transferAt_7 : decode cL_transferAt 7 = .ok (.i2l, 1) := by decide +kernel
theorem dL_transferAt_8 : decode cL_transferAt 8 = .ok (.lastore, 1) := by decide +kernel
theorem dL_transferAt_9 : decode cL_transferAt 9 = .ok (.goto 6, 3) := by decide +kernel
theorem dL_transferAt_12 : decode cL_transferAt 12 = .ok (.astore_n 3, 1) := by decide +kernel
theorem dL_transferAt_13 : decode cL_transferAt 13 = .ok (.iconst 1, 1) := by decide +kernel
theorem dL_transferAt_14 : decode cL_transferAt 14 = .ok (.ireturn, 1) := by decide +kernel
theorem dL_transferAt_15 : decode cL_transferAt 15 = .ok (.iconst 0, 1) := by decide +kernel
theorem dL_transferAt_16 : decode cL_transferAt 16 = .ok (.ireturn, 1) := by decide +kernel
theorem dL_senderOf_0 : decode cL_senderOf 0 = .ok (.aload_n 2, 1) := by decide +kernel
theorem dL_senderOf_1 : decode cL_senderOf 1 = .ok (.iconst 0, 1) := by decide +kernel
theorem dL_senderOf_2 : decode cL_senderOf 2 = .ok (.aload_n 0, 1) := by decide +kernel
theorem dL_senderOf_3 : decode cL_senderOf 3 = .ok (.iload_n 1, 1) := by decide +kernel
theorem dL_senderOf_4 : decode cL_senderOf 4 = .ok (.invokevirtual 77, 3) := by decide +kernel
theorem dL_senderOf_7 : decode cL_senderOf 7 = .ok (.i2l, 1) := by decide +kernel
theorem dL_senderOf_8 : decode cL_senderOf 8 = .ok (.lastore, 1) := by decide +kernel
theorem dL_senderOf_9 : decode cL_senderOf 9 = .ok (.goto 6, 3) := by decide +kernel
theorem dL_senderOf_12 : decode cL_senderOf 12 = .ok (.astore_n 3, 1) := by decide +kernel
theorem dL_senderOf_13 : decode cL_senderOf 13 = .ok (.iconst 1, 1) := by decide +kernel
theorem dL_senderOf_14 : decode cL_senderOf 14 = .ok (.ireturn, 1) := by decide +kernel
theorem dL_senderOf_15 : decode cL_senderOf 15 = .ok (.iconst 0, 1) := by decide +kernel
theorem dL_senderOf_16 : decode cL_senderOf 16 = .ok (.ireturn, 1) := by decide +kernel
theorem dL_receiverOf_0 : decode cL_receiverOf 0 = .ok (.aload_n 2, 1) := by decide +kernel
theorem dL_receiverOf_1 : decode cL_receiverOf 1 = .ok (.iconst 0, 1) := by decide +kernel
theorem dL_receiverOf_2 : decode cL_receiverOf 2 = .ok (.aload_n 0, 1) := by decide +kernel
theorem dL_receiverOf_3 : decode cL_receiverOf 3 = .ok (.iload_n 1, 1) := by decide +kernel
theorem dL_receiverOf_4 : decode cL_receiverOf 4 = .ok (.invokevirtual 80, 3) := by decide +kernel
theorem dL_receiverOf_7 : decode cL_receiverOf 7 = .ok (.i2l, 1) := by decide +kernel
theorem dL_receiverOf_8 : decode cL_receiverOf 8 = .ok (.lastore, 1) := by decide +kernel
theorem dL_receiverOf_9 : decode cL_receiverOf 9 = .ok (.goto 6, 3) := by decide +kernel
theorem dL_receiverOf_12 : decode cL_receiverOf 12 = .ok (.astore_n 3, 1) := by decide +kernel
theorem dL_receiverOf_13 : decode cL_receiverOf 13 = .ok (.iconst 1, 1) := by decide +kernel
theorem dL_receiverOf_14 : decode cL_receiverOf 14 = .ok (.ireturn, 1) := by decide +kernel
theorem dL_receiverOf_15 : decode cL_receiverOf 15 = .ok (.iconst 0, 1) := by decide +kernel
theorem dL_receiverOf_16 : decode cL_receiverOf 16 = .ok (.ireturn, 1) := by decide +kernel
theorem dL_amountOf_0 : decode cL_amountOf 0 = .ok (.aload_n 2, 1) := by decide +kernel
theorem dL_amountOf_1 : decode cL_amountOf 1 = .ok (.iconst 0, 1) := by decide +kernel
theorem dL_amountOf_2 : decode cL_amountOf 2 = .ok (.aload_n 0, 1) := by decide +kernel
theorem dL_amountOf_3 : decode cL_amountOf 3 = .ok (.iload_n 1, 1) := by decide +kernel
theorem dL_amountOf_4 : decode cL_amountOf 4 = .ok (.invokevirtual 83, 3) := by decide +kernel
theorem dL_amountOf_7 : decode cL_amountOf 7 = .ok (.i2l, 1) := by decide +kernel
theorem dL_amountOf_8 : decode cL_amountOf 8 = .ok (.lastore, 1) := by decide +kernel
theorem dL_amountOf_9 : decode cL_amountOf 9 = .ok (.goto 6, 3) := by decide +kernel
theorem dL_amountOf_12 : decode cL_amountOf 12 = .ok (.astore_n 3, 1) := by decide +kernel
theorem dL_amountOf_13 : decode cL_amountOf 13 = .ok (.iconst 1, 1) := by decide +kernel
theorem dL_amountOf_14 : decode cL_amountOf 14 = .ok (.ireturn, 1) := by decide +kernel
theorem dL_amountOf_15 : decode cL_amountOf 15 = .ok (.iconst 0, 1) := by decide +kernel
theorem dL_amountOf_16 : decode cL_amountOf 16 = .ok (.ireturn, 1) := by decide +kernel
theorem dL_daysUntilDue_0 : decode cL_daysUntilDue 0 = .ok (.aload_n 2, 1) := by decide +kernel
theorem dL_daysUntilDue_1 : decode cL_daysUntilDue 1 = .ok (.iconst 0, 1) := by decide +kernel
theorem dL_daysUntilDue_2 : decode cL_daysUntilDue 2 = .ok (.aload_n 0, 1) := by decide +kernel
theorem dL_daysUntilDue_3 : decode cL_daysUntilDue 3 = .ok (.iload_n 1, 1) := by decide +kernel
theorem dL_daysUntilDue_4 : decode cL_daysUntilDue 4 = .ok (.invokevirtual 86, 3) := by decide +kernel
theorem dL_daysUntilDue_7 : decode cL_daysUntilDue 7 = .ok (.i2l, 1) := by decide +kernel
theorem dL_daysUntilDue_8 : decode cL_daysUntilDue 8 = .ok (.lastore, 1) := by decide +kernel
theorem dL_daysUntilDue_9 : decode cL_daysUntilDue 9 = .ok (.goto 6, 3) := by decide +kernel
theorem dL_daysUntilDue_12 : decode cL_daysUntilDue 12 = .ok (.astore_n 3, 1) := by decide +kernel
theorem dL_daysUntilDue_13 : decode cL_daysUntilDue 13 = .ok (.iconst 1, 1) := by decide +kernel
theorem dL_daysUntilDue_14 : decode cL_daysUntilDue 14 = .ok (.ireturn, 1) := by decide +kernel
theorem dL_daysUntilDue_15 : decode cL_daysUntilDue 15 = .ok (.iconst 0, 1) := by decide +kernel
theorem dL_daysUntilDue_16 : decode cL_daysUntilDue 16 = .ok (.ireturn, 1) := by decide +kernel
theorem dL_wouldBounce_0 : decode cL_wouldBounce 0 = .ok (.aload_n 2, 1) := by decide +kernel
theorem dL_wouldBounce_1 : decode cL_wouldBounce 1 = .ok (.iconst 0, 1) := by decide +kernel
theorem dL_wouldBounce_2 : decode cL_wouldBounce 2 = .ok (.aload_n 0, 1) := by decide +kernel
theorem dL_wouldBounce_3 : decode cL_wouldBounce 3 = .ok (.iload_n 1, 1) := by decide +kernel
theorem dL_wouldBounce_4 : decode cL_wouldBounce 4 = .ok (.invokevirtual 89, 3) := by decide +kernel
theorem dL_wouldBounce_7 : decode cL_wouldBounce 7 = .ok (.ifCond .eq 7, 3) := by decide +kernel
theorem dL_wouldBounce_10 : decode cL_wouldBounce 10 = .ok (.lconst 1, 1) := by decide +kernel
theorem dL_wouldBounce_11 : decode cL_wouldBounce 11 = .ok (.goto 4, 3) := by decide +kernel
theorem dL_wouldBounce_14 : decode cL_wouldBounce 14 = .ok (.lconst 0, 1) := by decide +kernel
theorem dL_wouldBounce_15 : decode cL_wouldBounce 15 = .ok (.lastore, 1) := by decide +kernel
theorem dL_wouldBounce_16 : decode cL_wouldBounce 16 = .ok (.goto 6, 3) := by decide +kernel
theorem dL_wouldBounce_19 : decode cL_wouldBounce 19 = .ok (.astore_n 3, 1) := by decide +kernel
theorem dL_wouldBounce_20 : decode cL_wouldBounce 20 = .ok (.iconst 1, 1) := by decide +kernel
theorem dL_wouldBounce_21 : decode cL_wouldBounce 21 = .ok (.ireturn, 1) := by decide +kernel
theorem dL_wouldBounce_22 : decode cL_wouldBounce 22 = .ok (.iconst 0, 1) := by decide +kernel
theorem dL_wouldBounce_23 : decode cL_wouldBounce 23 = .ok (.ireturn, 1) := by decide +kernel
theorem dL_netOf_0 : decode cL_netOf 0 = .ok (.aload_n 2, 1) := by decide +kernel
theorem dL_netOf_1 : decode cL_netOf 1 = .ok (.iconst 0, 1) := by decide +kernel
theorem dL_netOf_2 : decode cL_netOf 2 = .ok (.aload_n 0, 1) := by decide +kernel
theorem dL_netOf_3 : decode cL_netOf 3 = .ok (.iload_n 1, 1) := by decide +kernel
theorem dL_netOf_4 : decode cL_netOf 4 = .ok (.invokevirtual 92, 3) := by decide +kernel
theorem dL_netOf_7 : decode cL_netOf 7 = .ok (.i2l, 1) := by decide +kernel
theorem dL_netOf_8 : decode cL_netOf 8 = .ok (.lastore, 1) := by decide +kernel
theorem dL_netOf_9 : decode cL_netOf 9 = .ok (.goto 6, 3) := by decide +kernel
theorem dL_netOf_12 : decode cL_netOf 12 = .ok (.astore_n 3, 1) := by decide +kernel
theorem dL_netOf_13 : decode cL_netOf 13 = .ok (.iconst 1, 1) := by decide +kernel
theorem dL_netOf_14 : decode cL_netOf 14 = .ok (.ireturn, 1) := by decide +kernel
theorem dL_netOf_15 : decode cL_netOf 15 = .ok (.iconst 0, 1) := by decide +kernel
theorem dL_netOf_16 : decode cL_netOf 16 = .ok (.ireturn, 1) := by decide +kernel
theorem dL_netByTable_0 : decode cL_netByTable 0 = .ok (.aload_n 2, 1) := by decide +kernel
theorem dL_netByTable_1 : decode cL_netByTable 1 = .ok (.iconst 0, 1) := by decide +kernel
theorem dL_netByTable_2 : decode cL_netByTable 2 = .ok (.aload_n 0, 1) := by decide +kernel
theorem dL_netByTable_3 : decode cL_netByTable 3 = .ok (.iload_n 1, 1) := by decide +kernel
theorem dL_netByTable_4 : decode cL_netByTable 4 = .ok (.invokevirtual 95, 3) := by decide +kernel
theorem dL_netByTable_7 : decode cL_netByTable 7 = .ok (.i2l, 1) := by decide +kernel
theorem dL_netByTable_8 : decode cL_netByTable 8 = .ok (.lastore, 1) := by decide +kernel
theorem dL_netByTable_9 : decode cL_netByTable 9 = .ok (.goto 6, 3) := by decide +kernel
theorem dL_netByTable_12 : decode cL_netByTable 12 = .ok (.astore_n 3, 1) := by decide +kernel
theorem dL_netByTable_13 : decode cL_netByTable 13 = .ok (.iconst 1, 1) := by decide +kernel
theorem dL_netByTable_14 : decode cL_netByTable 14 = .ok (.ireturn, 1) := by decide +kernel
theorem dL_netByTable_15 : decode cL_netByTable 15 = .ok (.iconst 0, 1) := by decide +kernel
theorem dL_netByTable_16 : decode cL_netByTable 16 = .ok (.ireturn, 1) := by decide +kernel
theorem dL_leadsTo_0 : decode cL_leadsTo 0 = .ok (.aload_n 3, 1) := by decide +kernel
theorem dL_leadsTo_1 : decode cL_leadsTo 1 = .ok (.iconst 0, 1) := by decide +kernel
theorem dL_leadsTo_2 : decode cL_leadsTo 2 = .ok (.aload_n 0, 1) := by decide +kernel
theorem dL_leadsTo_3 : decode cL_leadsTo 3 = .ok (.iload_n 1, 1) := by decide +kernel
theorem dL_leadsTo_4 : decode cL_leadsTo 4 = .ok (.iload_n 2, 1) := by decide +kernel
theorem dL_leadsTo_5 : decode cL_leadsTo 5 = .ok (.invokevirtual 98, 3) := by decide +kernel
theorem dL_leadsTo_8 : decode cL_leadsTo 8 = .ok (.ifCond .eq 7, 3) := by decide +kernel
theorem dL_leadsTo_11 : decode cL_leadsTo 11 = .ok (.lconst 1, 1) := by decide +kernel
theorem dL_leadsTo_12 : decode cL_leadsTo 12 = .ok (.goto 4, 3) := by decide +kernel
theorem dL_leadsTo_15 : decode cL_leadsTo 15 = .ok (.lconst 0, 1) := by decide +kernel
theorem dL_leadsTo_16 : decode cL_leadsTo 16 = .ok (.lastore, 1) := by decide +kernel
theorem dL_leadsTo_17 : decode cL_leadsTo 17 = .ok (.goto 7, 3) := by decide +kernel
theorem dL_leadsTo_20 : decode cL_leadsTo 20 = .ok (.astore 4, 2) := by decide +kernel
theorem dL_leadsTo_22 : decode cL_leadsTo 22 = .ok (.iconst 1, 1) := by decide +kernel
theorem dL_leadsTo_23 : decode cL_leadsTo 23 = .ok (.ireturn, 1) := by decide +kernel
theorem dL_leadsTo_24 : decode cL_leadsTo 24 = .ok (.iconst 0, 1) := by decide +kernel
theorem dL_leadsTo_25 : decode cL_leadsTo 25 = .ok (.ireturn, 1) := by decide +kernel
theorem dL_movementKind_0 : decode cL_movementKind 0 = .ok (.aload_n 2, 1) := by decide +kernel
theorem dL_movementKind_1 : decode cL_movementKind 1 = .ok (.iconst 0, 1) := by decide +kernel
theorem dL_movementKind_2 : decode cL_movementKind 2 = .ok (.aload_n 0, 1) := by decide +kernel
theorem dL_movementKind_3 : decode cL_movementKind 3 = .ok (.iload_n 1, 1) := by decide +kernel
theorem dL_movementKind_4 : decode cL_movementKind 4 = .ok (.invokevirtual 102, 3) := by decide +kernel
theorem dL_movementKind_7 : decode cL_movementKind 7 = .ok (.i2l, 1) := by decide +kernel
theorem dL_movementKind_8 : decode cL_movementKind 8 = .ok (.lastore, 1) := by decide +kernel
theorem dL_movementKind_9 : decode cL_movementKind 9 = .ok (.goto 6, 3) := by decide +kernel
theorem dL_movementKind_12 : decode cL_movementKind 12 = .ok (.astore_n 3, 1) := by decide +kernel
theorem dL_movementKind_13 : decode cL_movementKind 13 = .ok (.iconst 1, 1) := by decide +kernel
theorem dL_movementKind_14 : decode cL_movementKind 14 = .ok (.ireturn, 1) := by decide +kernel
theorem dL_movementKind_15 : decode cL_movementKind 15 = .ok (.iconst 0, 1) := by decide +kernel
theorem dL_movementKind_16 : decode cL_movementKind 16 = .ok (.ireturn, 1) := by decide +kernel
theorem dL_movementAmount_0 : decode cL_movementAmount 0 = .ok (.aload_n 2, 1) := by decide +kernel
theorem dL_movementAmount_1 : decode cL_movementAmount 1 = .ok (.iconst 0, 1) := by decide +kernel
theorem dL_movementAmount_2 : decode cL_movementAmount 2 = .ok (.aload_n 0, 1) := by decide +kernel
theorem dL_movementAmount_3 : decode cL_movementAmount 3 = .ok (.iload_n 1, 1) := by decide +kernel
theorem dL_movementAmount_4 : decode cL_movementAmount 4 = .ok (.invokevirtual 106, 3) := by decide +kernel
theorem dL_movementAmount_7 : decode cL_movementAmount 7 = .ok (.i2l, 1) := by decide +kernel
theorem dL_movementAmount_8 : decode cL_movementAmount 8 = .ok (.lastore, 1) := by decide +kernel
theorem dL_movementAmount_9 : decode cL_movementAmount 9 = .ok (.goto 6, 3) := by decide +kernel
theorem dL_movementAmount_12 : decode cL_movementAmount 12 = .ok (.astore_n 3, 1) := by decide +kernel
theorem dL_movementAmount_13 : decode cL_movementAmount 13 = .ok (.iconst 1, 1) := by decide +kernel
theorem dL_movementAmount_14 : decode cL_movementAmount 14 = .ok (.ireturn, 1) := by decide +kernel
theorem dL_movementAmount_15 : decode cL_movementAmount 15 = .ok (.iconst 0, 1) := by decide +kernel
theorem dL_movementAmount_16 : decode cL_movementAmount 16 = .ok (.ireturn, 1) := by decide +kernel
theorem dL_movementAccount_0 : decode cL_movementAccount 0 = .ok (.aload_n 2, 1) := by decide +kernel
theorem dL_movementAccount_1 : decode cL_movementAccount 1 = .ok (.iconst 0, 1) := by decide +kernel
theorem dL_movementAccount_2 : decode cL_movementAccount 2 = .ok (.aload_n 0, 1) := by decide +kernel
theorem dL_movementAccount_3 : decode cL_movementAccount 3 = .ok (.iload_n 1, 1) := by decide +kernel
theorem dL_movementAccount_4 : decode cL_movementAccount 4 = .ok (.invokevirtual 109, 3) := by decide +kernel
theorem dL_movementAccount_7 : decode cL_movementAccount 7 = .ok (.i2l, 1) := by decide +kernel
theorem dL_movementAccount_8 : decode cL_movementAccount 8 = .ok (.lastore, 1) := by decide +kernel
theorem dL_movementAccount_9 : decode cL_movementAccount 9 = .ok (.goto 6, 3) := by decide +kernel
theorem dL_movementAccount_12 : decode cL_movementAccount 12 = .ok (.astore_n 3, 1) := by decide +kernel
theorem dL_movementAccount_13 : decode cL_movementAccount 13 = .ok (.iconst 1, 1) := by decide +kernel
theorem dL_movementAccount_14 : decode cL_movementAccount 14 = .ok (.ireturn, 1) := by decide +kernel
theorem dL_movementAccount_15 : decode cL_movementAccount 15 = .ok (.iconst 0, 1) := by decide +kernel
theorem dL_movementAccount_16 : decode cL_movementAccount 16 = .ok (.ireturn, 1) := by decide +kernel
theorem dL_writeStatement_0 : decode cL_writeStatement 0 = .ok (.aload_n 2, 1) := by decide +kernel
theorem dL_writeStatement_1 : decode cL_writeStatement 1 = .ok (.iconst 0, 1) := by decide +kernel
theorem dL_writeStatement_2 : decode cL_writeStatement 2 = .ok (.aload_n 0, 1) := by decide +kernel
theorem dL_writeStatement_3 : decode cL_writeStatement 3 = .ok (.iload_n 1, 1) := by decide +kernel
theorem dL_writeStatement_4 : decode cL_writeStatement 4 = .ok (.invokevirtual 112, 3) := by decide +kernel
theorem dL_writeStatement_7 : decode cL_writeStatement 7 = .ok (.i2l, 1) := by decide +kernel
theorem dL_writeStatement_8 : decode cL_writeStatement 8 = .ok (.lastore, 1) := by decide +kernel
theorem dL_writeStatement_9 : decode cL_writeStatement 9 = .ok (.goto 6, 3) := by decide +kernel
theorem dL_writeStatement_12 : decode cL_writeStatement 12 = .ok (.astore_n 3, 1) := by decide +kernel
theorem dL_writeStatement_13 : decode cL_writeStatement 13 = .ok (.iconst 1, 1) := by decide +kernel
theorem dL_writeStatement_14 : decode cL_writeStatement 14 = .ok (.ireturn, 1) := by decide +kernel
theorem dL_writeStatement_15 : decode cL_writeStatement 15 = .ok (.iconst 0, 1) := by decide +kernel
theorem dL_writeStatement_16 : decode cL_writeStatement 16 = .ok (.ireturn, 1) := by decide +kernel
theorem dL_statementAt_0 : decode cL_statementAt 0 = .ok (.aload_n 2, 1) := by decide +kernel
theorem dL_statementAt_1 : decode cL_statementAt 1 = .ok (.iconst 0, 1) := by decide +kernel
theorem dL_statementAt_2 : decode cL_statementAt 2 = .ok (.aload_n 0, 1) := by decide +kernel
theorem dL_statementAt_3 : decode cL_statementAt 3 = .ok (.iload_n 1, 1) := by decide +kernel
theorem dL_statementAt_4 : decode cL_statementAt 4 = .ok (.invokevirtual 115, 3) := by decide +kernel
theorem dL_statementAt_7 : decode cL_statementAt 7 = .ok (.i2l, 1) := by decide +kernel
theorem dL_statementAt_8 : decode cL_statementAt 8 = .ok (.lastore, 1) := by decide +kernel
theorem dL_statementAt_9 : decode cL_statementAt 9 = .ok (.goto 6, 3) := by decide +kernel
theorem dL_statementAt_12 : decode cL_statementAt 12 = .ok (.astore_n 3, 1) := by decide +kernel
theorem dL_statementAt_13 : decode cL_statementAt 13 = .ok (.iconst 1, 1) := by decide +kernel
theorem dL_statementAt_14 : decode cL_statementAt 14 = .ok (.ireturn, 1) := by decide +kernel
theorem dL_statementAt_15 : decode cL_statementAt 15 = .ok (.iconst 0, 1) := by decide +kernel
theorem dL_statementAt_16 : decode cL_statementAt 16 = .ok (.ireturn, 1) := by decide +kernel
theorem dL_type_0 : decode cL_type 0 = .ok (.aload_n 2, 1) := by decide +kernel
theorem dL_type_1 : decode cL_type 1 = .ok (.iconst 0, 1) := by decide +kernel
theorem dL_type_2 : decode cL_type 2 = .ok (.aload_n 0, 1) := by decide +kernel
theorem dL_type_3 : decode cL_type 3 = .ok (.iload_n 1, 1) := by decide +kernel
theorem dL_type_4 : decode cL_type 4 = .ok (.invokevirtual 118, 3) := by decide +kernel
theorem dL_type_7 : decode cL_type 7 = .ok (.i2l, 1) := by decide +kernel
theorem dL_type_8 : decode cL_type 8 = .ok (.lastore, 1) := by decide +kernel
theorem dL_type_9 : decode cL_type 9 = .ok (.goto 9, 3) := by decide +kernel
theorem dL_type_12 : decode cL_type 12 = .ok (.astore_n 3, 1) := by decide +kernel
theorem dL_type_13 : decode cL_type 13 = .ok (.iconst 1, 1) := by decide +kernel
theorem dL_type_14 : decode cL_type 14 = .ok (.ireturn, 1) := by decide +kernel
theorem dL_type_15 : decode cL_type 15 = .ok (.astore_n 3, 1) := by decide +kernel
theorem dL_type_16 : decode cL_type 16 = .ok (.iconst 2, 1) := by decide +kernel
theorem dL_type_17 : decode cL_type 17 = .ok (.ireturn, 1) := by decide +kernel
theorem dL_type_18 : decode cL_type 18 = .ok (.iconst 0, 1) := by decide +kernel
theorem dL_type_19 : decode cL_type 19 = .ok (.ireturn, 1) := by decide +kernel
theorem dL_execute_0 : decode cL_execute 0 = .ok (.aload_n 1, 1) := by decide +kernel
theorem dL_execute_1 : decode cL_execute 1 = .ok (.iconst 0, 1) := by decide +kernel
theorem dL_execute_2 : decode cL_execute 2 = .ok (.aload_n 0, 1) := by decide +kernel
theorem dL_execute_3 : decode cL_execute 3 = .ok (.invokevirtual 122, 3) := by decide +kernel
theorem dL_execute_6 : decode cL_execute 6 = .ok (.i2l, 1) := by decide +kernel
theorem dL_execute_7 : decode cL_execute 7 = .ok (.lastore, 1) := by decide +kernel
theorem dL_execute_8 : decode cL_execute 8 = .ok (.goto 9, 3) := by decide +kernel
theorem dL_execute_11 : decode cL_execute 11 = .ok (.astore_n 2, 1) := by decide +kernel
theorem dL_execute_12 : decode cL_execute 12 = .ok (.iconst 1, 1) := by decide +kernel
theorem dL_execute_13 : decode cL_execute 13 = .ok (.ireturn, 1) := by decide +kernel
theorem dL_execute_14 : decode cL_execute 14 = .ok (.astore_n 2, 1) := by decide +kernel
theorem dL_execute_15 : decode cL_execute 15 = .ok (.iconst 2, 1) := by decide +kernel
theorem dL_execute_16 : decode cL_execute 16 = .ok (.ireturn, 1) := by decide +kernel
theorem dL_execute_17 : decode cL_execute 17 = .ok (.iconst 0, 1) := by decide +kernel
theorem dL_execute_18 : decode cL_execute 18 = .ok (.ireturn, 1) := by decide +kernel
theorem dL_errorPosition_0 : decode cL_errorPosition 0 = .ok (.aload_n 1, 1) := by decide +kernel
theorem dL_errorPosition_1 : decode cL_errorPosition 1 = .ok (.iconst 0, 1) := by decide +kernel
theorem dL_errorPosition_2 : decode cL_errorPosition 2 = .ok (.aload_n 0, 1) := by decide +kernel
theorem dL_errorPosition_3 : decode cL_errorPosition 3 = .ok (.invokevirtual 126, 3) := by decide +kernel
theorem dL_errorPosition_6 : decode cL_errorPosition 6 = .ok (.i2l, 1) := by decide +kernel
theorem dL_errorPosition_7 : decode cL_errorPosition 7 = .ok (.lastore, 1) := by decide +kernel
theorem dL_errorPosition_8 : decode cL_errorPosition 8 = .ok (.goto 6, 3) := by decide +kernel
theorem dL_errorPosition_11 : decode cL_errorPosition 11 = .ok (.astore_n 2, 1) := by decide +kernel
theorem dL_errorPosition_12 : decode cL_errorPosition 12 = .ok (.iconst 1, 1) := by decide +kernel
theorem dL_errorPosition_13 : decode cL_errorPosition 13 = .ok (.ireturn, 1) := by decide +kernel
theorem dL_errorPosition_14 : decode cL_errorPosition 14 = .ok (.iconst 0, 1) := by decide +kernel
theorem dL_errorPosition_15 : decode cL_errorPosition 15 = .ok (.ireturn, 1) := by decide +kernel
theorem dL_failedCommand_0 : decode cL_failedCommand 0 = .ok (.aload_n 1, 1) := by decide +kernel
theorem dL_failedCommand_1 : decode cL_failedCommand 1 = .ok (.iconst 0, 1) := by decide +kernel
theorem dL_failedCommand_2 : decode cL_failedCommand 2 = .ok (.aload_n 0, 1) := by decide +kernel
theorem dL_failedCommand_3 : decode cL_failedCommand 3 = .ok (.invokevirtual 129, 3) := by decide +kernel
theorem dL_failedCommand_6 : decode cL_failedCommand 6 = .ok (.i2l, 1) := by decide +kernel
theorem dL_failedCommand_7 : decode cL_failedCommand 7 = .ok (.lastore, 1) := by decide +kernel
theorem dL_failedCommand_8 : decode cL_failedCommand 8 = .ok (.goto 6, 3) := by decide +kernel
theorem dL_failedCommand_11 : decode cL_failedCommand 11 = .ok (.astore_n 2, 1) := by decide +kernel
theorem dL_failedCommand_12 : decode cL_failedCommand 12 = .ok (.iconst 1, 1) := by decide +kernel
theorem dL_failedCommand_13 : decode cL_failedCommand 13 = .ok (.ireturn, 1) := by decide +kernel
theorem dL_failedCommand_14 : decode cL_failedCommand 14 = .ok (.iconst 0, 1) := by decide +kernel
theorem dL_failedCommand_15 : decode cL_failedCommand 15 = .ok (.ireturn, 1) := by decide +kernel
theorem dL_undo_0 : decode cL_undo 0 = .ok (.aload_n 1, 1) := by decide +kernel
theorem dL_undo_1 : decode cL_undo 1 = .ok (.iconst 0, 1) := by decide +kernel
theorem dL_undo_2 : decode cL_undo 2 = .ok (.aload_n 0, 1) := by decide +kernel
theorem dL_undo_3 : decode cL_undo 3 = .ok (.invokevirtual 132, 3) := by decide +kernel
theorem dL_undo_6 : decode cL_undo 6 = .ok (.i2l, 1) := by decide +kernel
theorem dL_undo_7 : decode cL_undo 7 = .ok (.lastore, 1) := by decide +kernel
theorem dL_undo_8 : decode cL_undo 8 = .ok (.goto 6, 3) := by decide +kernel
theorem dL_undo_11 : decode cL_undo 11 = .ok (.astore_n 2, 1) := by decide +kernel
theorem dL_undo_12 : decode cL_undo 12 = .ok (.iconst 1, 1) := by decide +kernel
theorem dL_undo_13 : decode cL_undo 13 = .ok (.ireturn, 1) := by decide +kernel
theorem dL_undo_14 : decode cL_undo 14 = .ok (.iconst 0, 1) := by decide +kernel
theorem dL_undo_15 : decode cL_undo 15 = .ok (.ireturn, 1) := by decide +kernel
theorem dL_restore_0 : decode cL_restore 0 = .ok (.aload_n 1, 1) := by decide +kernel
theorem dL_restore_1 : decode cL_restore 1 = .ok (.iconst 0, 1) := by decide +kernel
theorem dL_restore_2 : decode cL_restore 2 = .ok (.aload_n 0, 1) := by decide +kernel
theorem dL_restore_3 : decode cL_restore 3 = .ok (.invokevirtual 135, 3) := by decide +kernel
theorem dL_restore_6 : decode cL_restore 6 = .ok (.i2l, 1) := by decide +kernel
theorem dL_restore_7 : decode cL_restore 7 = .ok (.lastore, 1) := by decide +kernel
theorem dL_restore_8 : decode cL_restore 8 = .ok (.goto 6, 3) := by decide +kernel
theorem dL_restore_11 : decode cL_restore 11 = .ok (.astore_n 2, 1) := by decide +kernel
theorem dL_restore_12 : decode cL_restore 12 = .ok (.iconst 1, 1) := by decide +kernel
theorem dL_restore_13 : decode cL_restore 13 = .ok (.ireturn, 1) := by decide +kernel
theorem dL_restore_14 : decode cL_restore 14 = .ok (.iconst 0, 1) := by decide +kernel
theorem dL_restore_15 : decode cL_restore 15 = .ok (.ireturn, 1) := by decide +kernel
