theorem dX3_cause_17 : decode cX3_cause 17 = .ok (.ldc 242, 2) := by decide +kernel
theorem dX3_cause_19 : decode cX3_cause 19 = .ok (.invokespecial 244, 3) := by decide +kernel
theorem dX3_cause_22 : decode cX3_cause 22 = .ok (.athrow, 1) := by decide +kernel
theorem dX3_cause_23 : decode cX3_cause 23 = .ok (.aload_n 0, 1) := by decide +kernel
theorem dX3_cause_24 : decode cX3_cause 24 = .ok (.getfield 34, 3) := by decide +kernel
theorem dX3_cause_27 : decode cX3_cause 27 = .ok (.iload_n 1, 1) := by decide +kernel
theorem dX3_cause_28 : decode cX3_cause 28 = .ok (.laload, 1) := by decide +kernel
theorem dX3_cause_29 : decode cX3_cause 29 = .ok (.lreturn, 1) := by decide +kernel
theorem dX3_worst_0 : decode cX3_worst 0 = .ok (.iload_n 1, 1) := by decide +kernel
theorem dX3_worst_1 : decode cX3_worst 1 = .ok (.iconst 0, 1) := by decide +kernel
theorem dX3_worst_2 : decode cX3_worst 2 = .ok (.bipush 100, 2) := by decide +kernel
theorem dX3_worst_4 : decode cX3_worst 4 = .ok (.invokestatic 47, 3) := by decide +kernel
theorem dX3_worst_7 : decode cX3_worst 7 = .ok (.aload_n 0, 1) := by decide +kernel
theorem dX3_worst_8 : decode cX3_worst 8 = .ok (.invokevirtual 51, 3) := by decide +kernel
theorem dX3_worst_11 : decode cX3_worst 11 = .ok (.lstore_n 2, 1) := by decide +kernel
theorem dX3_worst_12 : decode cX3_worst 12 = .ok (.lconst 0, 1) := by decide +kernel
theorem dX3_worst_13 : decode cX3_worst 13 = .ok (.lstore 4, 2) := by decide +kernel
theorem dX3_worst_15 : decode cX3_worst 15 = .ok (.iload_n 1, 1) := by decide +kernel
theorem dX3_worst_16 : decode cX3_worst 16 = .ok (.ineg, 1) := by decide +kernel
theorem dX3_worst_17 : decode cX3_worst 17 = .ok (.istore 6, 2) := by decide +kernel
theorem dX3_worst_19 : decode cX3_worst 19 = .ok (.iload 6, 2) := by decide +kernel
theorem dX3_worst_21 : decode cX3_worst 21 = .ok (.iload_n 1, 1) := by decide +kernel
theorem dX3_worst_22 : decode cX3_worst 22 = .ok (.if_icmp .gt 35, 3) := by decide +kernel
theorem dX3_worst_25 : decode cX3_worst 25 = .ok (.lload 4, 2) := by decide +kernel
theorem dX3_worst_27 : decode cX3_worst 27 = .ok (.lload_n 2, 1) := by decide +kernel
theorem dX3_worst_28 : decode cX3_worst 28 = .ok (.aload_n 0, 1) := by decide +kernel
theorem dX3_worst_29 : decode cX3_worst 29 = .ok (.aload_n 0, 1) := by decide +kernel
theorem dX3_worst_30 : decode cX3_worst 30 = .ok (.getfield 12, 3) := by decide +kernel
theorem dX3_worst_33 : decode cX3_worst 33 = .ok (.getfield 65, 3) := by decide +kernel
theorem dX3_worst_36 : decode cX3_worst 36 = .ok (.bipush 10, 2) := by decide +kernel
theorem dX3_worst_38 : decode cX3_worst 38 = .ok (.iload 6, 2) := by decide +kernel
theorem dX3_worst_40 : decode cX3_worst 40 = .ok (.imul, 1) := by decide +kernel
theorem dX3_worst_41 : decode cX3_worst 41 = .ok (.iadd, 1) := by decide +kernel
theorem dX3_worst_42 : decode cX3_worst 42 = .ok (.invokevirtual 245, 3) := by decide +kernel
theorem dX3_worst_45 : decode cX3_worst 45 = .ok (.lsub, 1) := by decide +kernel
theorem dX3_worst_46 : decode cX3_worst 46 = .ok (.invokestatic 248, 3) := by decide +kernel
theorem dX3_worst_49 : decode cX3_worst 49 = .ok (.lstore 4, 2) := by decide +kernel
theorem dX3_worst_51 : decode cX3_worst 51 = .ok (.iinc 6 1, 3) := by decide +kernel
theorem dX3_worst_54 : decode cX3_worst 54 = .ok (.goto (-35), 3) := by decide +kernel
theorem dX3_worst_57 : decode cX3_worst 57 = .ok (.lload 4, 2) := by decide +kernel
theorem dX3_worst_59 : decode cX3_worst 59 = .ok (.lreturn, 1) := by decide +kernel
theorem dX3_checkRange_0 : decode cX3_checkRange 0 = .ok (.iload_n 0, 1) := by decide +kernel
theorem dX3_checkRange_1 : decode cX3_checkRange 1 = .ok (.iload_n 1, 1) := by decide +kernel
theorem dX3_checkRange_2 : decode cX3_checkRange 2 = .ok (.if_icmp .lt 8, 3) := by decide +kernel
theorem dX3_checkRange_5 : decode cX3_checkRange 5 = .ok (.iload_n 0, 1) := by decide +kernel
theorem dX3_checkRange_6 : decode cX3_checkRange 6 = .ok (.iload_n 2, 1) := by decide +kernel
theorem dX3_checkRange_7 : decode cX3_checkRange 7 = .ok (.if_icmp .le 13, 3) := by decide +kernel
theorem dX3_checkRange_10 : decode cX3_checkRange 10 = .ok (.new 134, 3) := by decide +kernel
theorem dX3_checkRange_13 : decode cX3_checkRange 13 = .ok (.dup, 1) := by decide +kernel
theorem dX3_checkRange_14 : decode cX3_checkRange 14 = .ok (.ldc 251, 2) := by decide +kernel
theorem dX3_checkRange_16 : decode cX3_checkRange 16 = .ok (.invokespecial 138, 3) := by decide +kernel
theorem dX3_checkRange_19 : decode cX3_checkRange 19 = .ok (.athrow, 1) := by decide +kernel
theorem dX3_checkRange_20 : decode cX3_checkRange 20 = .ok (.return_, 1) := by decide +kernel
theorem dX3_checkCustomer_0 : decode cX3_checkCustomer 0 = .ok (.iload_n 0, 1) := by decide +kernel
theorem dX3_checkCustomer_1 : decode cX3_checkCustomer 1 = .ok (.ifCond .lt 9, 3) := by decide +kernel
theorem dX3_checkCustomer_4 : decode cX3_checkCustomer 4 = .ok (.iload_n 0, 1) := by decide +kernel
theorem dX3_checkCustomer_5 : decode cX3_checkCustomer 5 = .ok (.bipush 6, 2) := by decide +kernel
theorem dX3_checkCustomer_7 : decode cX3_checkCustomer 7 = .ok (.if_icmp .lt 13, 3) := by decide +kernel
theorem dX3_checkCustomer_10 : decode cX3_checkCustomer 10 = .ok (.new 240, 3) := by decide +kernel
theorem dX3_checkCustomer_13 : decode cX3_checkCustomer 13 = .ok (.dup, 1) := by decide +kernel
theorem dX3_checkCustomer_14 : decode cX3_checkCustomer 14 = .ok (.ldc 253, 2) := by decide +kernel
theorem dX3_checkCustomer_16 : decode cX3_checkCustomer 16 = .ok (.invokespecial 244, 3) := by decide +kernel
theorem dX3_checkCustomer_19 : decode cX3_checkCustomer 19 = .ok (.athrow, 1) := by decide +kernel
theorem dX3_checkCustomer_20 : decode cX3_checkCustomer 20 = .ok (.return_, 1) := by decide +kernel
theorem dX3_checkNotOver_0 : decode cX3_checkNotOver 0 = .ok (.aload_n 1, 1) := by decide +kernel
theorem dX3_checkNotOver_1 : decode cX3_checkNotOver 1 = .ok (.getfield 177, 3) := by decide +kernel
theorem dX3_checkNotOver_4 : decode cX3_checkNotOver 4 = .ok (.aload_n 0, 1) := by decide +kernel
theorem dX3_checkNotOver_5 : decode cX3_checkNotOver 5 = .ok (.getfield 12, 3) := by decide +kernel
theorem dX3_checkNotOver_8 : decode cX3_checkNotOver 8 = .ok (.getfield 68, 3) := by decide +kernel
theorem dX3_checkNotOver_11 : decode cX3_checkNotOver 11 = .ok (.if_icmp .ge 13, 3) := by decide +kernel
theorem dX3_checkNotOver_14 : decode cX3_checkNotOver 14 = .ok (.new 89, 3) := by decide +kernel
theorem dX3_checkNotOver_17 : decode cX3_checkNotOver 17 = .ok (.dup, 1) := by decide +kernel
theorem dX3_checkNotOver_18 : decode cX3_checkNotOver 18 = .ok (.ldc 255, 2) := by decide +kernel
theorem dX3_checkNotOver_20 : decode cX3_checkNotOver 20 = .ok (.invokespecial 93, 3) := by decide +kernel
theorem dX3_checkNotOver_23 : decode cX3_checkNotOver 23 = .ok (.athrow, 1) := by decide +kernel
theorem dX3_checkNotOver_24 : decode cX3_checkNotOver 24 = .ok (.return_, 1) := by decide +kernel
theorem dX3_placeOf_0 : decode cX3_placeOf 0 = .ok (.iload_n 0, 1) := by decide +kernel
theorem dX3_placeOf_1 : decode cX3_placeOf 1 = .ok (.iconst (-1), 1) := by decide +kernel
theorem dX3_placeOf_2 : decode cX3_placeOf 2 = .ok (.if_icmp .ne 6, 3) := by decide +kernel
theorem dX3_placeOf_5 : decode cX3_placeOf 5 = .ok (.bipush 6, 2) := by decide +kernel
theorem dX3_placeOf_7 : decode cX3_placeOf 7 = .ok (.ireturn, 1) := by decide +kernel
theorem dX3_placeOf_8 : decode cX3_placeOf 8 = .ok (.iload_n 0, 1) := by decide +kernel
theorem dX3_placeOf_9 : decode cX3_placeOf 9 = .ok (.invokestatic 130, 3) := by decide +kernel
theorem dX3_placeOf_12 : decode cX3_placeOf 12 = .ok (.iload_n 0, 1) := by decide +kernel
theorem dX3_placeOf_13 : decode cX3_placeOf 13 = .ok (.ireturn, 1) := by decide +kernel
theorem dX3_contractOf_0 : decode cX3_contractOf 0 = .ok (.iload_n 1, 1) := by decide +kernel
theorem dX3_contractOf_1 : decode cX3_contractOf 1 = .ok (.ifCond .lt 14, 3) := by decide +kernel
theorem dX3_contractOf_4 : decode cX3_contractOf 4 = .ok (.iload_n 1, 1) := by decide +kernel
theorem dX3_contractOf_5 : decode cX3_contractOf 5 = .ok (.aload_n 0, 1) := by decide +kernel
theorem dX3_contractOf_6 : decode cX3_contractOf 6 = .ok (.getfield 26, 3) := by decide +kernel
theorem dX3_contractOf_9 : decode cX3_contractOf 9 = .ok (.invokevirtual 85, 3) := by decide +kernel
theorem dX3_contractOf_12 : decode cX3_contractOf 12 = .ok (.if_icmp .lt 14, 3) := by decide +kernel
theorem dX3_contractOf_15 : decode cX3_contractOf 15 = .ok (.new 240, 3) := by decide +kernel
theorem dX3_contractOf_18 : decode cX3_contractOf 18 = .ok (.dup, 1) := by decide +kernel
theorem dX3_contractOf_19 : decode cX3_contractOf 19 = .ok (.ldc_w 257, 3) := by decide +kernel
theorem dX3_contractOf_22 : decode cX3_contractOf 22 = .ok (.invokespecial 244, 3) := by decide +kernel
theorem dX3_contractOf_25 : decode cX3_contractOf 25 = .ok (.athrow, 1) := by decide +kernel
theorem dX3_contractOf_26 : decode cX3_contractOf 26 = .ok (.aload_n 0, 1) := by decide +kernel
theorem dX3_contractOf_27 : decode cX3_contractOf 27 = .ok (.getfield 26, 3) := by decide +kernel
theorem dX3_contractOf_30 : decode cX3_contractOf 30 = .ok (.iload_n 1, 1) := by decide +kernel
theorem dX3_contractOf_31 : decode cX3_contractOf 31 = .ok (.invokevirtual 119, 3) := by decide +kernel
theorem dX3_contractOf_34 : decode cX3_contractOf 34 = .ok (.checkcast 96, 3) := by decide +kernel
theorem dX3_contractOf_37 : decode cX3_contractOf 37 = .ok (.areturn, 1) := by decide +kernel
theorem dX3_moneyAt_0 : decode cX3_moneyAt 0 = .ok (.iload_n 1, 1) := by decide +kernel
theorem dX3_moneyAt_1 : decode cX3_moneyAt 1 = .ok (.ifCond .lt 21, 3) := by decide +kernel
theorem dX3_moneyAt_4 : decode cX3_moneyAt 4 = .ok (.iload_n 1, 1) := by decide +kernel
theorem dX3_moneyAt_5 : decode cX3_moneyAt 5 = .ok (.aload_n 0, 1) := by decide +kernel
theorem dX3_moneyAt_6 : decode cX3_moneyAt 6 = .ok (.getfield 30, 3) := by decide +kernel
theorem dX3_moneyAt_9 : decode cX3_moneyAt 9 = .ok (.arraylength, 1) := by decide +kernel
theorem dX3_moneyAt_10 : decode cX3_moneyAt 10 = .ok (.if_icmp .ge 12, 3) := by decide +kernel
theorem dX3_moneyAt_13 : decode cX3_moneyAt 13 = .ok (.aload_n 0, 1) := by decide +kernel
theorem dX3_moneyAt_14 : decode cX3_moneyAt 14 = .ok (.getfield 30, 3) := by decide +kernel
theorem dX3_moneyAt_17 : decode cX3_moneyAt 17 = .ok (.iload_n 1, 1) := by decide +kernel
theorem dX3_moneyAt_18 : decode cX3_moneyAt 18 = .ok (.laload, 1) := by decide +kernel
theorem dX3_moneyAt_19 : decode cX3_moneyAt 19 = .ok (.goto 4, 3) := by decide +kernel
theorem dX3_moneyAt_22 : decode cX3_moneyAt 22 = .ok (.lconst 0, 1) := by decide +kernel
theorem dX3_moneyAt_23 : decode cX3_moneyAt 23 = .ok (.lreturn, 1) := by decide +kernel
theorem dX3_addMoney_0 : decode cX3_addMoney 0 = .ok (.iload_n 1, 1) := by decide +kernel
theorem dX3_addMoney_1 : decode cX3_addMoney 1 = .ok (.ifCond .lt 22, 3) := by decide +kernel
theorem dX3_addMoney_4 : decode cX3_addMoney 4 = .ok (.iload_n 1, 1) := by decide +kernel
theorem dX3_addMoney_5 : decode cX3_addMoney 5 = .ok (.aload_n 0, 1) := by decide +kernel
theorem dX3_addMoney_6 : decode cX3_addMoney 6 = .ok (.getfield 30, 3) := by decide +kernel
theorem dX3_addMoney_9 : decode cX3_addMoney 9 = .ok (.arraylength, 1) := by decide +kernel
theorem dX3_addMoney_10 : decode cX3_addMoney 10 = .ok (.if_icmp .ge 13, 3) := by decide +kernel
theorem dX3_addMoney_13 : decode cX3_addMoney 13 = .ok (.aload_n 0, 1) := by decide +kernel
theorem dX3_addMoney_14 : decode cX3_addMoney 14 = .ok (.getfield 30, 3) := by decide +kernel
theorem dX3_addMoney_17 : decode cX3_addMoney 17 = .ok (.iload_n 1, 1) := by decide +kernel
theorem dX3_addMoney_18 : decode cX3_addMoney 18 = .ok (.dup2, 1) := by decide +kernel
theorem dX3_addMoney_19 : decode cX3_addMoney 19 = .ok (.laload, 1) := by decide +kernel
theorem dX3_addMoney_20 : decode cX3_addMoney 20 = .ok (.lload_n 2, 1) := by decide +kernel
theorem dX3_addMoney_21 : decode cX3_addMoney 21 = .ok (.ladd, 1) := by decide +kernel
theorem dX3_addMoney_22 : decode cX3_addMoney 22 = .ok (.lastore, 1) := by decide +kernel
theorem dX3_addMoney_23 : decode cX3_addMoney 23 = .ok (.return_, 1) := by decide +kernel
theorem dX3_addProfit_0 : decode cX3_addProfit 0 = .ok (.iload_n 1, 1) := by decide +kernel
theorem dX3_addProfit_1 : decode cX3_addProfit 1 = .ok (.ifCond .lt 22, 3) := by decide +kernel
theorem dX3_addProfit_4 : decode cX3_addProfit 4 = .ok (.iload_n 1, 1) := by decide +kernel
theorem dX3_addProfit_5 : decode cX3_addProfit 5 = .ok (.aload_n 0, 1) := by decide +kernel
theorem dX3_addProfit_6 : decode cX3_addProfit 6 = .ok (.getfield 34, 3) := by decide +kernel
theorem dX3_addProfit_9 : decode cX3_addProfit 9 = .ok (.arraylength, 1) := by decide +kernel
theorem dX3_addProfit_10 : decode cX3_addProfit 10 = .ok (.if_icmp .ge 13, 3) := by decide +kernel
theorem dX3_addProfit_13 : decode cX3_addProfit 13 = .ok (.aload_n 0, 1) := by decide +kernel
theorem dX3_addProfit_14 : decode cX3_addProfit 14 = .ok (.getfield 34, 3) := by decide +kernel
theorem dX3_addProfit_17 : decode cX3_addProfit 17 = .ok (.iload_n 1, 1) := by decide +kernel
theorem dX3_addProfit_18 : decode cX3_addProfit 18 = .ok (.dup2, 1) := by decide +kernel
theorem dX3_addProfit_19 : decode cX3_addProfit 19 = .ok (.laload, 1) := by decide +kernel
theorem dX3_addProfit_20 : decode cX3_addProfit 20 = .ok (.lload_n 2, 1) := by decide +kernel
theorem dX3_addProfit_21 : decode cX3_addProfit 21 = .ok (.ladd, 1) := by decide +kernel
theorem dX3_addProfit_22 : decode cX3_addProfit 22 = .ok (.lastore, 1) := by decide +kernel
theorem dX3_addProfit_23 : decode cX3_addProfit 23 = .ok (.return_, 1) := by decide +kernel
theorem dX3_worthNow_0 : decode cX3_worthNow 0 = .ok (.aload_n 0, 1) := by decide +kernel
theorem dX3_worthNow_1 : decode cX3_worthNow 1 = .ok (.aload_n 0, 1) := by decide +kernel
theorem dX3_worthNow_2 : decode cX3_worthNow 2 = .ok (.getfield 12, 3) := by decide +kernel
theorem dX3_worthNow_5 : decode cX3_worthNow 5 = .ok (.getfield 65, 3) := by decide +kernel
theorem dX3_worthNow_8 : decode cX3_worthNow 8 = .ok (.invokevirtual 245, 3) := by decide +kernel
theorem dX3_worthNow_11 : decode cX3_worthNow 11 = .ok (.lreturn, 1) := by decide +kernel
theorem dX3_worthAt_0 : decode cX3_worthAt 0 = .ok (.aload_n 0, 1) := by decide +kernel
theorem dX3_worthAt_1 : decode cX3_worthAt 1 = .ok (.bipush 6, 2) := by decide +kernel
theorem dX3_worthAt_3 : decode cX3_worthAt 3 = .ok (.invokevirtual 236, 3) := by decide +kernel
theorem dX3_worthAt_6 : decode cX3_worthAt 6 = .ok (.ldc2_w 259, 3) := by decide +kernel
theorem dX3_worthAt_9 : decode cX3_worthAt 9 = .ok (.iload_n 1, 1) := by decide +kernel
theorem dX3_worthAt_10 : decode cX3_worthAt 10 = .ok (.i2l, 1) := by decide +kernel
theorem dX3_worthAt_11 : decode cX3_worthAt 11 = .ok (.lmul, 1) := by decide +kernel
theorem dX3_worthAt_12 : decode cX3_worthAt 12 = .ok (.aload_n 0, 1) := by decide +kernel
theorem dX3_worthAt_13 : decode cX3_worthAt 13 = .ok (.getfield 41, 3) := by decide +kernel
theorem dX3_worthAt_16 : decode cX3_worthAt 16 = .ok (.i2l, 1) := by decide +kernel
theorem dX3_worthAt_17 : decode cX3_worthAt 17 = .ok (.lmul, 1) := by decide +kernel
theorem dX3_worthAt_18 : decode cX3_worthAt 18 = .ok (.ladd, 1) := by decide +kernel
theorem dX3_worthAt_19 : decode cX3_worthAt 19 = .ok (.lstore_n 2, 1) := by decide +kernel
theorem dX3_worthAt_20 : decode cX3_worthAt 20 = .ok (.iconst 0, 1) := by decide +kernel
theorem dX3_worthAt_21 : decode cX3_worthAt 21 = .ok (.istore 4, 2) := by decide +kernel
theorem dX3_worthAt_23 : decode cX3_worthAt 23 = .ok (.iload 4, 2) := by decide +kernel
theorem dX3_worthAt_25 : decode cX3_worthAt 25 = .ok (.aload_n 0, 1) := by decide +kernel
theorem dX3_worthAt_26 : decode cX3_worthAt 26 = .ok (.getfield 26, 3) := by decide +kernel
theorem dX3_worthAt_29 : decode cX3_worthAt 29 = .ok (.invokevirtual 85, 3) := by decide +kernel
theorem dX3_worthAt_32 : decode cX3_worthAt 32 = .ok (.if_icmp .ge 55, 3) := by decide +kernel
theorem dX3_worthAt_35 : decode cX3_worthAt 35 = .ok (.aload_n 0, 1) := by decide +kernel
theorem dX3_worthAt_36 : decode cX3_worthAt 36 = .ok (.getfield 26, 3) := by decide +kernel
theorem dX3_worthAt_39 : decode cX3_worthAt 39 = .ok (.iload 4, 2) := by decide +kernel
theorem dX3_worthAt_41 : decode cX3_worthAt 41 = .ok (.invokevirtual 119, 3) := by decide +kernel
theorem dX3_worthAt_44 : decode cX3_worthAt 44 = .ok (.checkcast 96, 3) := by decide +kernel
theorem dX3_worthAt_47 : decode cX3_worthAt 47 = .ok (.astore 5, 2) := by decide +kernel
theorem dX3_worthAt_49 : decode cX3_worthAt 49 = .ok (.aload 5, 2) := by decide +kernel
theorem dX3_worthAt_51 : decode cX3_worthAt 51 = .ok (.bipush 6, 2) := by decide +kernel
theorem dX3_worthAt_53 : decode cX3_worthAt 53 = .ok (.invokevirtual 168, 3) := by decide +kernel
theorem dX3_worthAt_56 : decode cX3_worthAt 56 = .ok (.istore 6, 2) := by decide +kernel
theorem dX3_worthAt_58 : decode cX3_worthAt 58 = .ok (.iload 6, 2) := by decide +kernel
theorem dX3_worthAt_60 : decode cX3_worthAt 60 = .ok (.ifCond .eq 21, 3) := by decide +kernel
theorem dX3_worthAt_63 : decode cX3_worthAt 63 = .ok (.lload_n 2, 1) := by decide +kernel
theorem dX3_worthAt_64 : decode cX3_worthAt 64 = .ok (.iload 6, 2) := by decide +kernel
theorem dX3_worthAt_66 : decode cX3_worthAt 66 = .ok (.i2l, 1) := by decide +kernel
theorem dX3_worthAt_67 : decode cX3_worthAt 67 = .ok (.aload_n 0, 1) := by decide +kernel
theorem dX3_worthAt_68 : decode cX3_worthAt 68 = .ok (.getfield 12, 3) := by decide +kernel
theorem dX3_worthAt_71 : decode cX3_worthAt 71 = .ok (.aload 5, 2) := by decide +kernel
theorem dX3_worthAt_73 : decode cX3_worthAt 73 = .ok (.iload_n 1, 1) := by decide +kernel
theorem dX3_worthAt_74 : decode cX3_worthAt 74 = .ok (.invokevirtual 210, 3) := by decide +kernel
theorem dX3_worthAt_77 : decode cX3_worthAt 77 = .ok (.i2l, 1) := by decide +kernel
theorem dX3_worthAt_78 : decode cX3_worthAt 78 = .ok (.lmul, 1) := by decide +kernel
theorem dX3_worthAt_79 : decode cX3_worthAt 79 = .ok (.ladd, 1) := by decide +kernel
theorem dX3_worthAt_80 : decode cX3_worthAt 80 = .ok (.lstore_n 2, 1) := by decide +kernel
theorem dX3_worthAt_81 : decode cX3_worthAt 81 = .ok (.iinc 4 1, 3) := by decide +kernel
theorem dX3_worthAt_84 : decode cX3_worthAt 84 = .ok (.goto (-61), 3) := by decide +kernel
theorem dX3_worthAt_87 : decode cX3_worthAt 87 = .ok (.lload_n 2, 1) := by decide +kernel
theorem dX3_worthAt_88 : decode cX3_worthAt 88 = .ok (.lreturn, 1) := by decide +kernel
theorem dX3_buy_0 : decode cX3_buy 0 = .ok (.iload 4, 2) := by decide +kernel
theorem dX3_buy_2 : decode cX3_buy 2 = .ok (.aload_n 2, 1) := by decide +kernel
theorem dX3_buy_3 : decode cX3_buy 3 = .ok (.getfield 225, 3) := by decide +kernel
theorem dX3_buy_6 : decode cX3_buy 6 = .ok (.if_icmp .ge 5, 3) := by decide +kernel
theorem dX3_buy_9 : decode cX3_buy 9 = .ok (.iconst 0, 1) := by decide +kernel
theorem dX3_buy_10 : decode cX3_buy 10 = .ok (.ireturn, 1) := by decide +kernel
theorem dX3_buy_11 : decode cX3_buy 11 = .ok (.iconst 0, 1) := by decide +kernel
theorem dX3_buy_12 : decode cX3_buy 12 = .ok (.aload_n 0, 1) := by decide +kernel
theorem dX3_buy_13 : decode cX3_buy 13 = .ok (.getfield 37, 3) := by decide +kernel
theorem dX3_buy_16 : decode cX3_buy 16 = .ok (.aload_n 2, 1) := by decide +kernel
theorem dX3_buy_17 : decode cX3_buy 17 = .ok (.bipush 6, 2) := by decide +kernel
theorem dX3_buy_19 : decode cX3_buy 19 = .ok (.invokevirtual 168, 3) := by decide +kernel
theorem dX3_buy_22 : decode cX3_buy 22 = .ok (.iadd, 1) := by decide +kernel
theorem dX3_buy_23 : decode cX3_buy 23 = .ok (.invokestatic 261, 3) := by decide +kernel
theorem dX3_buy_26 : decode cX3_buy 26 = .ok (.istore 5, 2) := by decide +kernel
theorem dX3_buy_28 : decode cX3_buy 28 = .ok (.iload_n 3, 1) := by decide +kernel
theorem dX3_buy_29 : decode cX3_buy 29 = .ok (.aload_n 2, 1) := by decide +kernel
theorem dX3_buy_30 : decode cX3_buy 30 = .ok (.getfield 231, 3) := by decide +kernel
theorem dX3_buy_33 : decode cX3_buy 33 = .ok (.invokestatic 79, 3) := by decide +kernel
theorem dX3_buy_36 : decode cX3_buy 36 = .ok (.iload 5, 2) := by decide +kernel
theorem dX3_buy_38 : decode cX3_buy 38 = .ok (.invokestatic 79, 3) := by decide +kernel
theorem dX3_buy_41 : decode cX3_buy 41 = .ok (.istore 6, 2) := by decide +kernel
theorem dX3_buy_43 : decode cX3_buy 43 = .ok (.aload_n 0, 1) := by decide +kernel
theorem dX3_buy_44 : decode cX3_buy 44 = .ok (.iload_n 1, 1) := by decide +kernel
theorem dX3_buy_45 : decode cX3_buy 45 = .ok (.aload_n 2, 1) := by decide +kernel
theorem dX3_buy_46 : decode cX3_buy 46 = .ok (.iload 6, 2) := by decide +kernel
theorem dX3_buy_48 : decode cX3_buy 48 = .ok (.aload_n 2, 1) := by decide +kernel
theorem dX3_buy_49 : decode cX3_buy 49 = .ok (.getfield 225, 3) := by decide +kernel
theorem dX3_buy_52 : decode cX3_buy 52 = .ok (.invokevirtual 263, 3) := by decide +kernel
theorem dX3_buy_55 : decode cX3_buy 55 = .ok (.aload_n 2, 1) := by decide +kernel
theorem dX3_buy_56 : decode cX3_buy 56 = .ok (.dup, 1) := by decide +kernel
theorem dX3_buy_57 : decode cX3_buy 57 = .ok (.getfield 231, 3) := by decide +kernel
theorem dX3_buy_60 : decode cX3_buy 60 = .ok (.iload 6, 2) := by decide +kernel
theorem dX3_buy_62 : decode cX3_buy 62 = .ok (.isub, 1) := by decide +kernel
theorem dX3_buy_63 : decode cX3_buy 63 = .ok (.putfield 231, 3) := by decide +kernel
theorem dX3_buy_66 : decode cX3_buy 66 = .ok (.iload 6, 2) := by decide +kernel
theorem dX3_buy_68 : decode cX3_buy 68 = .ok (.ireturn, 1) := by decide +kernel
theorem dX3_sell_0 : decode cX3_sell 0 = .ok (.iload 4, 2) := by decide +kernel
theorem dX3_sell_2 : decode cX3_sell 2 = .ok (.aload_n 2, 1) := by decide +kernel
theorem dX3_sell_3 : decode cX3_sell 3 = .ok (.getfield 222, 3) := by decide +kernel
theorem dX3_sell_6 : decode cX3_sell 6 = .ok (.if_icmp .le 5, 3) := by decide +kernel
theorem dX3_sell_9 : decode cX3_sell 9 = .ok (.iconst 0, 1) := by decide +kernel
theorem dX3_sell_10 : decode cX3_sell 10 = .ok (.ireturn, 1) := by decide +kernel
theorem dX3_sell_11 : decode cX3_sell 11 = .ok (.iconst 0, 1) := by decide +kernel
theorem dX3_sell_12 : decode cX3_sell 12 = .ok (.aload_n 0, 1) := by decide +kernel
theorem dX3_sell_13 : decode cX3_sell 13 = .ok (.getfield 37, 3) := by decide +kernel
theorem dX3_sell_16 : decode cX3_sell 16 = .ok (.aload_n 2, 1) := by decide +kernel
theorem dX3_sell_17 : decode cX3_sell 17 = .ok (.bipush 6, 2) := by decide +kernel
theorem dX3_sell_19 : decode cX3_sell 19 = .ok (.invokevirtual 168, 3) := by decide +kernel
theorem dX3_sell_22 : decode cX3_sell 22 = .ok (.isub, 1) := by decide +kernel
theorem dX3_sell_23 : decode cX3_sell 23 = .ok (.invokestatic 261, 3) := by decide +kernel
theorem dX3_sell_26 : decode cX3_sell 26 = .ok (.istore 5, 2) := by decide +kernel
theorem dX3_sell_28 : decode cX3_sell 28 = .ok (.iload_n 3, 1) := by decide +kernel
theorem dX3_sell_29 : decode cX3_sell 29 = .ok (.aload_n 2, 1) := by decide +kernel
theorem dX3_sell_30 : decode cX3_sell 30 = .ok (.getfield 228, 3) := by decide +kernel
theorem dX3_sell_33 : decode cX3_sell 33 = .ok (.invokestatic 79, 3) := by decide +kernel
theorem dX3_sell_36 : decode cX3_sell 36 = .ok (.iload 5, 2) := by decide +kernel
theorem dX3_sell_38 : decode cX3_sell 38 = .ok (.invokestatic 79, 3) := by decide +kernel
theorem dX3_sell_41 : decode cX3_sell 41 = .ok (.istore 6, 2) := by decide +kernel
theorem dX3_sell_43 : decode cX3_sell 43 = .ok (.aload_n 0, 1) := by decide +kernel
theorem dX3_sell_44 : decode cX3_sell 44 = .ok (.iload_n 1, 1) := by decide +kernel
theorem dX3_sell_45 : decode cX3_sell 45 = .ok (.aload_n 2, 1) := by decide +kernel
theorem dX3_sell_46 : decode cX3_sell 46 = .ok (.iload 6, 2) := by decide +kernel
theorem dX3_sell_48 : decode cX3_sell 48 = .ok (.ineg, 1) := by decide +kernel
theorem dX3_sell_49 : decode cX3_sell 49 = .ok (.aload_n 2, 1) := by decide +kernel
theorem dX3_sell_50 : decode cX3_sell 50 = .ok (.getfield 222, 3) := by decide +kernel
theorem dX3_sell_53 : decode cX3_sell 53 = .ok (.invokevirtual 263, 3) := by decide +kernel
theorem dX3_sell_56 : decode cX3_sell 56 = .ok (.aload_n 2, 1) := by decide +kernel
theorem dX3_sell_57 : decode cX3_sell 57 = .ok (.dup, 1) := by decide +kernel
theorem dX3_sell_58 : decode cX3_sell 58 = .ok (.getfield 228, 3) := by decide +kernel
theorem dX3_sell_61 : decode cX3_sell 61 = .ok (.iload 6, 2) := by decide +kernel
theorem dX3_sell_63 : decode cX3_sell 63 = .ok (.isub, 1) := by decide +kernel
theorem dX3_sell_64 : decode cX3_sell 64 = .ok (.putfield 228, 3) := by decide +kernel
theorem dX3_sell_67 : decode cX3_sell 67 = .ok (.iload 6, 2) := by decide +kernel
theorem dX3_sell_69 : decode cX3_sell 69 = .ok (.ireturn, 1) := by decide +kernel
theorem dX3_deal_0 : decode cX3_deal 0 = .ok (.aload_n 2, 1) := by decide +kernel
theorem dX3_deal_1 : decode cX3_deal 1 = .ok (.iload_n 1, 1) := by decide +kernel
theorem dX3_deal_2 : decode cX3_deal 2 = .ok (.iload_n 3, 1) := by decide +kernel
theorem dX3_deal_3 : decode cX3_deal 3 = .ok (.invokevirtual 267, 3) := by decide +kernel
theorem dX3_deal_6 : decode cX3_deal 6 = .ok (.aload_n 2, 1) := by decide +kernel
theorem dX3_deal_7 : decode cX3_deal 7 = .ok (.bipush 6, 2) := by decide +kernel
theorem dX3_deal_9 : decode cX3_deal 9 = .ok (.iload_n 3, 1) := by decide +kernel
theorem dX3_deal_10 : decode cX3_deal 10 = .ok (.ineg, 1) := by decide +kernel
theorem dX3_deal_11 : decode cX3_deal 11 = .ok (.invokevirtual 267, 3) := by decide +kernel
theorem dX3_deal_14 : decode cX3_deal 14 = .ok (.ldc2_w 259, 3) := by decide +kernel
theorem dX3_deal_17 : decode cX3_deal 17 = .ok (.iload 4, 2) := by decide +kernel
theorem dX3_deal_19 : decode cX3_deal 19 = .ok (.i2l, 1) := by decide +kernel
theorem dX3_deal_20 : decode cX3_deal 20 = .ok (.lmul, 1) := by decide +kernel
theorem dX3_deal_21 : decode cX3_deal 21 = .ok (.iload_n 3, 1) := by decide +kernel
theorem dX3_deal_22 : decode cX3_deal 22 = .ok (.i2l, 1) := by decide +kernel
theorem dX3_deal_23 : decode cX3_deal 23 = .ok (.lmul, 1) := by decide +kernel
theorem dX3_deal_24 : decode cX3_deal 24 = .ok (.lstore 5, 2) := by decide +kernel
theorem dX3_deal_26 : decode cX3_deal 26 = .ok (.aload_n 0, 1) := by decide +kernel
theorem dX3_deal_27 : decode cX3_deal 27 = .ok (.iload_n 1, 1) := by decide +kernel
theorem dX3_deal_28 : decode cX3_deal 28 = .ok (.lload 5, 2) := by decide +kernel
theorem dX3_deal_30 : decode cX3_deal 30 = .ok (.lneg, 1) := by decide +kernel
theorem dX3_deal_31 : decode cX3_deal 31 = .ok (.invokevirtual 153, 3) := by decide +kernel
theorem dX3_deal_34 : decode cX3_deal 34 = .ok (.aload_n 0, 1) := by decide +kernel
theorem dX3_deal_35 : decode cX3_deal 35 = .ok (.bipush 6, 2) := by decide +kernel
theorem dX3_deal_37 : decode cX3_deal 37 = .ok (.lload 5, 2) := by decide +kernel
theorem dX3_deal_39 : decode cX3_deal 39 = .ok (.invokevirtual 153, 3) := by decide +kernel
theorem dX3_deal_42 : decode cX3_deal 42 = .ok (.return_, 1) := by decide +kernel
theorem dX3_exerciseLots_0 : decode cX3_exerciseLots 0 = .ok (.ldc2_w 259, 3) := by decide +kernel
theorem dX3_exerciseLots_3 : decode cX3_exerciseLots 3 = .ok (.aload_n 2, 1) := by decide +kernel
theorem dX3_exerciseLots_4 : decode cX3_exerciseLots 4 = .ok (.aload_n 0, 1) := by decide +kernel
theorem dX3_exerciseLots_5 : decode cX3_exerciseLots 5 = .ok (.getfield 12, 3) := by decide +kernel
theorem dX3_exerciseLots_8 : decode cX3_exerciseLots 8 = .ok (.getfield 65, 3) := by decide +kernel
theorem dX3_exerciseLots_11 : decode cX3_exerciseLots 11 = .ok (.invokevirtual 186, 3) := by decide +kernel
theorem dX3_exerciseLots_14 : decode cX3_exerciseLots 14 = .ok (.i2l, 1) := by decide +kernel
theorem dX3_exerciseLots_15 : decode cX3_exerciseLots 15 = .ok (.lmul, 1) := by decide +kernel
theorem dX3_exerciseLots_16 : decode cX3_exerciseLots 16 = .ok (.lstore 4, 2) := by decide +kernel
theorem dX3_exerciseLots_18 : decode cX3_exerciseLots 18 = .ok (.iconst 0, 1) := by decide +kernel
theorem dX3_exerciseLots_19 : decode cX3_exerciseLots 19 = .ok (.istore 6, 2) := by decide +kernel
theorem dX3_exerciseLots_21 : decode cX3_exerciseLots 21 = .ok (.iload 6, 2) := by decide +kernel
theorem dX3_exerciseLots_23 : decode cX3_exerciseLots 23 = .ok (.iload_n 3, 1) := by decide +kernel
theorem dX3_exerciseLots_24 : decode cX3_exerciseLots 24 = .ok (.if_icmp .ge 55, 3) := by decide +kernel
theorem dX3_exerciseLots_27 : decode cX3_exerciseLots 27 = .ok (.aload_n 2, 1) := by decide +kernel
theorem dX3_exerciseLots_28 : decode cX3_exerciseLots 28 = .ok (.aload_n 0, 1) := by decide +kernel
theorem dX3_exerciseLots_29 : decode cX3_exerciseLots 29 = .ok (.getfield 19, 3) := by decide +kernel
theorem dX3_exerciseLots_32 : decode cX3_exerciseLots 32 = .ok (.aload_n 2, 1) := by decide +kernel
theorem dX3_exerciseLots_33 : decode cX3_exerciseLots 33 = .ok (.invokevirtual 270, 3) := by decide +kernel
theorem dX3_exerciseLots_36 : decode cX3_exerciseLots 36 = .ok (.invokevirtual 273, 3) := by decide +kernel
theorem dX3_exerciseLots_39 : decode cX3_exerciseLots 39 = .ok (.invokevirtual 276, 3) := by decide +kernel
theorem dX3_exerciseLots_42 : decode cX3_exerciseLots 42 = .ok (.istore 7, 2) := by decide +kernel
theorem dX3_exerciseLots_44 : decode cX3_exerciseLots 44 = .ok (.aload_n 2, 1) := by decide +kernel
theorem dX3_exerciseLots_45 : decode cX3_exerciseLots 45 = .ok (.iload_n 1, 1) := by decide +kernel
theorem dX3_exerciseLots_46 : decode cX3_exerciseLots 46 = .ok (.iconst (-1), 1) := by decide +kernel
theorem dX3_exerciseLots_47 : decode cX3_exerciseLots 47 = .ok (.invokevirtual 267, 3) := by decide +kernel
theorem dX3_exerciseLots_50 : decode cX3_exerciseLots 50 = .ok (.aload_n 2, 1) := by decide +kernel
theorem dX3_exerciseLots_51 : decode cX3_exerciseLots 51 = .ok (.iload 7, 2) := by decide +kernel
theorem dX3_exerciseLots_53 : decode cX3_exerciseLots 53 = .ok (.iconst 1, 1) := by decide +kernel
theorem dX3_exerciseLots_54 : decode cX3_exerciseLots 54 = .ok (.invokevirtual 267, 3) := by decide +kernel
theorem dX3_exerciseLots_57 : decode cX3_exerciseLots 57 = .ok (.aload_n 0, 1) := by decide +kernel
theorem dX3_exerciseLots_58 : decode cX3_exerciseLots 58 = .ok (.iload_n 1, 1) := by decide +kernel
theorem dX3_exerciseLots_59 : decode cX3_exerciseLots 59 = .ok (.lload 4, 2) := by decide +kernel
theorem dX3_exerciseLots_61 : decode cX3_exerciseLots 61 = .ok (.invokevirtual 153, 3) := by decide +kernel
theorem dX3_exerciseLots_64 : decode cX3_exerciseLots 64 = .ok (.aload_n 0, 1) := by decide +kernel
theorem dX3_exerciseLots_65 : decode cX3_exerciseLots 65 = .ok (.iload 7, 2) := by decide +kernel
theorem dX3_exerciseLots_67 : decode cX3_exerciseLots 67 = .ok (.lload 4, 2) := by decide +kernel
theorem dX3_exerciseLots_69 : decode cX3_exerciseLots 69 = .ok (.lneg, 1) := by decide +kernel
theorem dX3_exerciseLots_70 : decode cX3_exerciseLots 70 = .ok (.invokevirtual 153, 3) := by decide +kernel
theorem dX3_exerciseLots_73 : decode cX3_exerciseLots 73 = .ok (.iinc 6 1, 3) := by decide +kernel
theorem dX3_exerciseLots_76 : decode cX3_exerciseLots 76 = .ok (.goto (-55), 3) := by decide +kernel
theorem dX3_exerciseLots_79 : decode cX3_exerciseLots 79 = .ok (.return_, 1) := by decide +kernel
theorem dX3_expire_0 : decode cX3_expire 0 = .ok (.aload_n 1, 1) := by decide +kernel
theorem dX3_expire_1 : decode cX3_expire 1 = .ok (.aload_n 0, 1) := by decide +kernel
theorem dX3_expire_2 : decode cX3_expire 2 = .ok (.getfield 12, 3) := by decide +kernel
theorem dX3_expire_5 : decode cX3_expire 5 = .ok (.getfield 65, 3) := by decide +kernel
theorem dX3_expire_8 : decode cX3_expire 8 = .ok (.invokevirtual 186, 3) := by decide +kernel
theorem dX3_expire_11 : decode cX3_expire 11 = .ok (.ifCond .le 36, 3) := by decide +kernel
theorem dX3_expire_14 : decode cX3_expire 14 = .ok (.iconst 0, 1) := by decide +kernel
theorem dX3_expire_15 : decode cX3_expire 15 = .ok (.istore_n 2, 1) := by decide +kernel
theorem dX3_expire_16 : decode cX3_expire 16 = .ok (.iload_n 2, 1) := by decide +kernel
theorem dX3_expire_17 : decode cX3_expire 17 = .ok (.bipush 7, 2) := by decide +kernel
theorem dX3_expire_19 : decode cX3_expire 19 = .ok (.if_icmp .ge 28, 3) := by decide +kernel
theorem dX3_expire_22 : decode cX3_expire 22 = .ok (.aload_n 1, 1) := by decide +kernel
theorem dX3_expire_23 : decode cX3_expire 23 = .ok (.iload_n 2, 1) := by decide +kernel
theorem dX3_expire_24 : decode cX3_expire 24 = .ok (.invokevirtual 279, 3) := by decide +kernel
theorem dX3_expire_27 : decode cX3_expire 27 = .ok (.ifCond .ne 14, 3) := by decide +kernel
theorem dX3_expire_30 : decode cX3_expire 30 = .ok (.aload_n 0, 1) := by decide +kernel
theorem dX3_expire_31 : decode cX3_expire 31 = .ok (.iload_n 2, 1) := by decide +kernel
theorem dX3_expire_32 : decode cX3_expire 32 = .ok (.aload_n 1, 1) := by decide +kernel
theorem dX3_expire_33 : decode cX3_expire 33 = .ok (.aload_n 1, 1) := by decide +kernel
theorem dX3_expire_34 : decode cX3_expire 34 = .ok (.iload_n 2, 1) := by decide +kernel
theorem dX3_expire_35 : decode cX3_expire 35 = .ok (.invokevirtual 168, 3) := by decide +kernel
theorem dX3_expire_38 : decode cX3_expire 38 = .ok (.invokevirtual 182, 3) := by decide +kernel
theorem dX3_expire_41 : decode cX3_expire 41 = .ok (.iinc 2 1, 3) := by decide +kernel
theorem dX3_expire_44 : decode cX3_expire 44 = .ok (.goto (-28), 3) := by decide +kernel
theorem dX3_expire_47 : decode cX3_expire 47 = .ok (.aload_n 1, 1) := by decide +kernel
theorem dX3_expire_48 : decode cX3_expire 48 = .ok (.invokevirtual 283, 3) := by decide +kernel
theorem dX3_expire_51 : decode cX3_expire 51 = .ok (.aload_n 1, 1) := by decide +kernel
theorem dX3_expire_52 : decode cX3_expire 52 = .ok (.invokevirtual 127, 3) := by decide +kernel
theorem dX3_expire_55 : decode cX3_expire 55 = .ok (.return_, 1) := by decide +kernel
theorem dX3_commonDivisor_0 : decode cX3_commonDivisor 0 = .ok (.lload_n 0, 1) := by decide +kernel
theorem dX3_commonDivisor_1 : decode cX3_commonDivisor 1 = .ok (.lstore 4, 2) := by decide +kernel
theorem dX3_commonDivisor_3 : decode cX3_commonDivisor 3 = .ok (.lload_n 2, 1) := by decide +kernel
theorem dX3_commonDivisor_4 : decode cX3_commonDivisor 4 = .ok (.lstore 6, 2) := by decide +kernel
theorem dX3_commonDivisor_6 : decode cX3_commonDivisor 6 = .ok (.iconst 0, 1) := by decide +kernel
theorem dX3_commonDivisor_7 : decode cX3_commonDivisor 7 = .ok (.istore 8, 2) := by decide +kernel
theorem dX3_commonDivisor_9 : decode cX3_commonDivisor 9 = .ok (.iload 8, 2) := by decide +kernel
theorem dX3_commonDivisor_11 : decode cX3_commonDivisor 11 = .ok (.bipush 100, 2) := by decide +kernel
theorem dX3_commonDivisor_13 : decode cX3_commonDivisor 13 = .ok (.if_icmp .ge 31, 3) := by decide +kernel
theorem dX3_commonDivisor_16 : decode cX3_commonDivisor 16 = .ok (.lload 6, 2) := by decide +kernel
theorem dX3_commonDivisor_18 : decode cX3_commonDivisor 18 = .ok (.lconst 0, 1) := by decide +kernel
theorem dX3_commonDivisor_19 : decode cX3_commonDivisor 19 = .ok (.lcmp, 1) := by decide +kernel
theorem dX3_commonDivisor_20 : decode cX3_commonDivisor 20 = .ok (.ifCond .eq 24, 3) := by decide +kernel
theorem dX3_commonDivisor_23 : decode cX3_commonDivisor 23 = .ok (.lload 4, 2) := by decide +kernel
theorem dX3_commonDivisor_25 : decode cX3_commonDivisor 25 = .ok (.lload 6, 2) := by decide +kernel
theorem dX3_commonDivisor_27 : decode cX3_commonDivisor 27 = .ok (.lrem, 1) := by decide +kernel
theorem dX3_commonDivisor_28 : decode cX3_commonDivisor 28 = .ok (.lstore 9, 2) := by decide +kernel
theorem dX3_commonDivisor_30 : decode cX3_commonDivisor 30 = .ok (.lload 6, 2) := by decide +kernel
theorem dX3_commonDivisor_32 : decode cX3_commonDivisor 32 = .ok (.lstore 4, 2) := by decide +kernel
theorem dX3_commonDivisor_34 : decode cX3_commonDivisor 34 = .ok (.lload 9, 2) := by decide +kernel
theorem dX3_commonDivisor_36 : decode cX3_commonDivisor 36 = .ok (.lstore 6, 2) := by decide +kernel
theorem dX3_commonDivisor_38 : decode cX3_commonDivisor 38 = .ok (.iinc 8 1, 3) := by decide +kernel
theorem dX3_commonDivisor_41 : decode cX3_commonDivisor 41 = .ok (.goto (-32), 3) := by decide +kernel
theorem dX3_commonDivisor_44 : decode cX3_commonDivisor 44 = .ok (.lload 4, 2) := by decide +kernel
theorem dX3_commonDivisor_46 : decode cX3_commonDivisor 46 = .ok (.lreturn, 1) := by decide +kernel
theorem dX3_thousandTimes_0 : decode cX3_thousandTimes 0 = .ok (.lload_n 2, 1) := by decide +kernel
theorem dX3_thousandTimes_1 : decode cX3_thousandTimes 1 = .ok (.lconst 0, 1) := by decide +kernel
theorem dX3_thousandTimes_2 : decode cX3_thousandTimes 2 = .ok (.lcmp, 1) := by decide +kernel
theorem dX3_thousandTimes_3 : decode cX3_thousandTimes 3 = .ok (.ifCond .gt 5, 3) := by decide +kernel
theorem dX3_thousandTimes_6 : decode cX3_thousandTimes 6 = .ok (.iconst 0, 1) := by decide +kernel
theorem dX3_thousandTimes_7 : decode cX3_thousandTimes 7 = .ok (.ireturn, 1) := by decide +kernel
theorem dX3_thousandTimes_8 : decode cX3_thousandTimes 8 = .ok (.lload_n 0, 1) := by decide +kernel
theorem dX3_thousandTimes_9 : decode cX3_thousandTimes 9 = .ok (.lload_n 2, 1) := by decide +kernel
theorem dX3_thousandTimes_10 : decode cX3_thousandTimes 10 = .ok (.ldiv, 1) := by decide +kernel
theorem dX3_thousandTimes_11 : decode cX3_thousandTimes 11 = .ok (.ldc2_w 259, 3) := by decide +kernel
theorem dX3_thousandTimes_14 : decode cX3_thousandTimes 14 = .ok (.lmul, 1) := by decide +kernel
theorem dX3_thousandTimes_15 : decode cX3_thousandTimes 15 = .ok (.lload_n 0, 1) := by decide +kernel
theorem dX3_thousandTimes_16 : decode cX3_thousandTimes 16 = .ok (.lload_n 2, 1) := by decide +kernel
theorem dX3_thousandTimes_17 : decode cX3_thousandTimes 17 = .ok (.lrem, 1) := by decide +kernel
theorem dX3_thousandTimes_18 : decode cX3_thousandTimes 18 = .ok (.ldc2_w 259, 3) := by decide +kernel
theorem dX3_thousandTimes_21 : decode cX3_thousandTimes 21 = .ok (.lmul, 1) := by decide +kernel
theorem dX3_thousandTimes_22 : decode cX3_thousandTimes 22 = .ok (.lload_n 2, 1) := by decide +kernel
theorem dX3_thousandTimes_23 : decode cX3_thousandTimes 23 = .ok (.ldiv, 1) := by decide +kernel
theorem dX3_thousandTimes_24 : decode cX3_thousandTimes 24 = .ok (.ladd, 1) := by decide +kernel
theorem dX3_thousandTimes_25 : decode cX3_thousandTimes 25 = .ok (.l2i, 1) := by decide +kernel
theorem dX3_thousandTimes_26 : decode cX3_thousandTimes 26 = .ok (.ireturn, 1) := by decide +kernel
theorem dX3_power_0 : decode cX3_power 0 = .ok (.lconst 1, 1) := by decide +kernel
theorem dX3_power_1 : decode cX3_power 1 = .ok (.lstore_n 3, 1) := by decide +kernel
theorem dX3_power_2 : decode cX3_power 2 = .ok (.iconst 0, 1) := by decide +kernel
theorem dX3_power_3 : decode cX3_power 3 = .ok (.istore 5, 2) := by decide +kernel
theorem dX3_power_5 : decode cX3_power 5 = .ok (.iload 5, 2) := by decide +kernel
theorem dX3_power_7 : decode cX3_power 7 = .ok (.iload_n 2, 1) := by decide +kernel
theorem dX3_power_8 : decode cX3_power 8 = .ok (.if_icmp .ge 13, 3) := by decide +kernel
theorem dX3_power_11 : decode cX3_power 11 = .ok (.lload_n 3, 1) := by decide +kernel
theorem dX3_power_12 : decode cX3_power 12 = .ok (.lload_n 0, 1) := by decide +kernel
theorem dX3_power_13 : decode cX3_power 13 = .ok (.lmul, 1) := by decide +kernel
theorem dX3_power_14 : decode cX3_power 14 = .ok (.lstore_n 3, 1) := by decide +kernel
theorem dX3_power_15 : decode cX3_power 15 = .ok (.iinc 5 1, 3) := by decide +kernel
theorem dX3_power_18 : decode cX3_power 18 = .ok (.goto (-13), 3) := by decide +kernel
theorem dX3_power_21 : decode cX3_power 21 = .ok (.lload_n 3, 1) := by decide +kernel
theorem dX3_power_22 : decode cX3_power 22 = .ok (.lreturn, 1) := by decide +kernel
theorem dX3_firstFault_0 : decode cX3_firstFault 0 = .ok (.aload_n 0, 1) := by decide +kernel
theorem dX3_firstFault_1 : decode cX3_firstFault 1 = .ok (.invokevirtual 290, 3) := by decide +kernel
theorem dX3_firstFault_4 : decode cX3_firstFault 4 = .ok (.ifCond .eq 5, 3) := by decide +kernel
theorem dX3_firstFault_7 : decode cX3_firstFault 7 = .ok (.iconst 1, 1) := by decide +kernel
theorem dX3_firstFault_8 : decode cX3_firstFault 8 = .ok (.ireturn, 1) := by decide +kernel
theorem dX3_firstFault_9 : decode cX3_firstFault 9 = .ok (.aload_n 0, 1) := by decide +kernel
theorem dX3_firstFault_10 : decode cX3_firstFault 10 = .ok (.invokevirtual 293, 3) := by decide +kernel
theorem dX3_firstFault_13 : decode cX3_firstFault 13 = .ok (.ifCond .eq 5, 3) := by decide +kernel
theorem dX3_firstFault_16 : decode cX3_firstFault 16 = .ok (.iconst 2, 1) := by decide +kernel
theorem dX3_firstFault_17 : decode cX3_firstFault 17 = .ok (.ireturn, 1) := by decide +kernel
theorem dX3_firstFault_18 : decode cX3_firstFault 18 = .ok (.aload_n 0, 1) := by decide +kernel
theorem dX3_firstFault_19 : decode cX3_firstFault 19 = .ok (.invokevirtual 296, 3) := by decide +kernel
theorem dX3_firstFault_22 : decode cX3_firstFault 22 = .ok (.ifCond .eq 5, 3) := by decide +kernel
theorem dX3_firstFault_25 : decode cX3_firstFault 25 = .ok (.iconst 3, 1) := by decide +kernel
theorem dX3_firstFault_26 : decode cX3_firstFault 26 = .ok (.ireturn, 1) := by decide +kernel
theorem dX3_firstFault_27 : decode cX3_firstFault 27 = .ok (.aload_n 0, 1) := by decide +kernel
theorem dX3_firstFault_28 : decode cX3_firstFault 28 = .ok (.invokevirtual 299, 3) := by decide +kernel
theorem dX3_firstFault_31 : decode cX3_firstFault 31 = .ok (.ifCond .eq 7, 3) := by decide +kernel
theorem dX3_firstFault_34 : decode cX3_firstFault 34 = .ok (.iconst 4, 1) := by decide +kernel
theorem dX3_firstFault_35 : decode cX3_firstFault 35 = .ok (.goto 4, 3) := by decide +kernel
theorem dX3_firstFault_38 : decode cX3_firstFault 38 = .ok (.iconst 0, 1) := by decide +kernel
theorem dX3_firstFault_39 : decode cX3_firstFault 39 = .ok (.ireturn, 1) := by decide +kernel
theorem dX3_hasCrossedQuote_0 : decode cX3_hasCrossedQuote 0 = .ok (.iconst 0, 1) := by decide +kernel
theorem dX3_hasCrossedQuote_1 : decode cX3_hasCrossedQuote 1 = .ok (.istore_n 1, 1) := by decide +kernel
theorem dX3_hasCrossedQuote_2 : decode cX3_hasCrossedQuote 2 = .ok (.iload_n 1, 1) := by decide +kernel
theorem dX3_hasCrossedQuote_3 : decode cX3_hasCrossedQuote 3 = .ok (.aload_n 0, 1) := by decide +kernel
theorem dX3_hasCrossedQuote_4 : decode cX3_hasCrossedQuote 4 = .ok (.getfield 26, 3) := by decide +kernel
theorem dX3_hasCrossedQuote_7 : decode cX3_hasCrossedQuote 7 = .ok (.invokevirtual 85, 3) := by decide +kernel
theorem dX3_hasCrossedQuote_10 : decode cX3_hasCrossedQuote 10 = .ok (.if_icmp .ge 41, 3) := by decide +kernel
theorem dX3_hasCrossedQuote_13 : decode cX3_hasCrossedQuote 13 = .ok (.aload_n 0, 1) := by decide +kernel
theorem dX3_hasCrossedQuote_14 : decode cX3_hasCrossedQuote 14 = .ok (.getfield 26, 3) := by decide +kernel
theorem dX3_hasCrossedQuote_17 : decode cX3_hasCrossedQuote 17 = .ok (.iload_n 1, 1) := by decide +kernel
theorem dX3_hasCrossedQuote_18 : decode cX3_hasCrossedQuote 18 = .ok (.invokevirtual 119, 3) := by decide +kernel
theorem dX3_hasCrossedQuote_21 : decode cX3_hasCrossedQuote 21 = .ok (.checkcast 96, 3) := by decide +kernel
theorem dX3_hasCrossedQuote_24 : decode cX3_hasCrossedQuote 24 = .ok (.astore_n 2, 1) := by decide +kernel
theorem dX3_hasCrossedQuote_25 : decode cX3_hasCrossedQuote 25 = .ok (.aload_n 2, 1) := by decide +kernel
theorem dX3_hasCrossedQuote_26 : decode cX3_hasCrossedQuote 26 = .ok (.invokevirtual 302, 3) := by decide +kernel
theorem dX3_hasCrossedQuote_29 : decode cX3_hasCrossedQuote 29 = .ok (.ifCond .eq 16, 3) := by decide +kernel
theorem dX3_hasCrossedQuote_32 : decode cX3_hasCrossedQuote 32 = .ok (.aload_n 2, 1) := by decide +kernel
theorem dX3_hasCrossedQuote_33 : decode cX3_hasCrossedQuote 33 = .ok (.getfield 222, 3) := by decide +kernel
theorem dX3_hasCrossedQuote_36 : decode cX3_hasCrossedQuote 36 = .ok (.aload_n 2, 1) := by decide +kernel
theorem dX3_hasCrossedQuote_37 : decode cX3_hasCrossedQuote 37 = .ok (.getfield 225, 3) := by decide +kernel
theorem dX3_hasCrossedQuote_40 : decode cX3_hasCrossedQuote 40 = .ok (.if_icmp .lt 5, 3) := by decide +kernel
theorem dX3_hasCrossedQuote_43 : decode cX3_hasCrossedQuote 43 = .ok (.iconst 1, 1) := by decide +kernel
theorem dX3_hasCrossedQuote_44 : decode cX3_hasCrossedQuote 44 = .ok (.ireturn, 1) := by decide +kernel
theorem dX3_hasCrossedQuote_45 : decode cX3_hasCrossedQuote 45 = .ok (.iinc 1 1, 3) := by decide +kernel
theorem dX3_hasCrossedQuote_48 : decode cX3_hasCrossedQuote 48 = .ok (.goto (-46), 3) := by decide +kernel
theorem dX3_hasCrossedQuote_51 : decode cX3_hasCrossedQuote 51 = .ok (.iconst 0, 1) := by decide +kernel
theorem dX3_hasCrossedQuote_52 : decode cX3_hasCrossedQuote 52 = .ok (.ireturn, 1) := by decide +kernel
theorem dX3_hasStrikesFault_0 : decode cX3_hasStrikesFault 0 = .ok (.iconst 0, 1) := by decide +kernel
theorem dX3_hasStrikesFault_1 : decode cX3_hasStrikesFault 1 = .ok (.istore_n 1, 1) := by decide +kernel
theorem dX3_hasStrikesFault_2 : decode cX3_hasStrikesFault 2 = .ok (.iload_n 1, 1) := by decide +kernel
theorem dX3_hasStrikesFault_3 : decode cX3_hasStrikesFault 3 = .ok (.aload_n 0, 1) := by decide +kernel
theorem dX3_hasStrikesFault_4 : decode cX3_hasStrikesFault 4 = .ok (.getfield 26, 3) := by decide +kernel
theorem dX3_hasStrikesFault_7 : decode cX3_hasStrikesFault 7 = .ok (.invokevirtual 85, 3) := by decide +kernel
theorem dX3_hasStrikesFault_10 : decode cX3_hasStrikesFault 10 = .ok (.if_icmp .ge 58, 3) := by decide +kernel
theorem dX3_hasStrikesFault_13 : decode cX3_hasStrikesFault 13 = .ok (.iconst 0, 1) := by decide +kernel
theorem dX3_hasStrikesFault_14 : decode cX3_hasStrikesFault 14 = .ok (.istore_n 2, 1) := by decide +kernel
theorem dX3_hasStrikesFault_15 : decode cX3_hasStrikesFault 15 = .ok (.iload_n 2, 1) := by decide +kernel
theorem dX3_hasStrikesFault_16 : decode cX3_hasStrikesFault 16 = .ok (.aload_n 0, 1) := by decide +kernel
theorem dX3_hasStrikesFault_17 : decode cX3_hasStrikesFault 17 = .ok (.getfield 26, 3) := by decide +kernel
theorem dX3_hasStrikesFault_20 : decode cX3_hasStrikesFault 20 = .ok (.invokevirtual 85, 3) := by decide +kernel
theorem dX3_hasStrikesFault_23 : decode cX3_hasStrikesFault 23 = .ok (.if_icmp .ge 39, 3) := by decide +kernel
theorem dX3_hasStrikesFault_26 : decode cX3_hasStrikesFault 26 = .ok (.aload_n 0, 1) := by decide +kernel
theorem dX3_hasStrikesFault_27 : decode cX3_hasStrikesFault 27 = .ok (.getfield 26, 3) := by decide +kernel
theorem dX3_hasStrikesFault_30 : decode cX3_hasStrikesFault 30 = .ok (.iload_n 1, 1) := by decide +kernel
theorem dX3_hasStrikesFault_31 : decode cX3_hasStrikesFault 31 = .ok (.invokevirtual 119, 3) := by decide +kernel
theorem dX3_hasStrikesFault_34 : decode cX3_hasStrikesFault 34 = .ok (.checkcast 96, 3) := by decide +kernel
theorem dX3_hasStrikesFault_37 : decode cX3_hasStrikesFault 37 = .ok (.aload_n 0, 1) := by decide +kernel
theorem dX3_hasStrikesFault_38 : decode cX3_hasStrikesFault 38 = .ok (.getfield 26, 3) := by decide +kernel
theorem dX3_hasStrikesFault_41 : decode cX3_hasStrikesFault 41 = .ok (.iload_n 2, 1) := by decide +kernel
theorem dX3_hasStrikesFault_42 : decode cX3_hasStrikesFault 42 = .ok (.invokevirtual 119, 3) := by decide +kernel
theorem dX3_hasStrikesFault_45 : decode cX3_hasStrikesFault 45 = .ok (.checkcast 96, 3) := by decide +kernel
theorem dX3_hasStrikesFault_48 : decode cX3_hasStrikesFault 48 = .ok (.invokestatic 305, 3) := by decide +kernel
theorem dX3_hasStrikesFault_51 : decode cX3_hasStrikesFault 51 = .ok (.ifCond .eq 5, 3) := by decide +kernel
theorem dX3_hasStrikesFault_54 : decode cX3_hasStrikesFault 54 = .ok (.iconst 1, 1) := by decide +kernel
theorem dX3_hasStrikesFault_55 : decode cX3_hasStrikesFault 55 = .ok (.ireturn, 1) := by decide +kernel
theorem dX3_hasStrikesFault_56 : decode cX3_hasStrikesFault 56 = .ok (.iinc 2 1, 3) := by decide +kernel
theorem dX3_hasStrikesFault_59 : decode cX3_hasStrikesFault 59 = .ok (.goto (-44), 3) := by decide +kernel
theorem dX3_hasStrikesFault_62 : decode cX3_hasStrikesFault 62 = .ok (.iinc 1 1, 3) := by decide +kernel
theorem dX3_hasStrikesFault_65 : decode cX3_hasStrikesFault 65 = .ok (.goto (-63), 3) := by decide +kernel
theorem dX3_hasStrikesFault_68 : decode cX3_hasStrikesFault 68 = .ok (.iconst 0, 1) := by decide +kernel
theorem dX3_hasStrikesFault_69 : decode cX3_hasStrikesFault 69 = .ok (.ireturn, 1) := by decide +kernel
theorem dX3_hasMiddleFault_0 : decode cX3_hasMiddleFault 0 = .ok (.iconst 0, 1) := by decide +kernel
theorem dX3_hasMiddleFault_1 : decode cX3_hasMiddleFault 1 = .ok (.istore_n 1, 1) := by decide +kernel
theorem dX3_hasMiddleFault_2 : decode cX3_hasMiddleFault 2 = .ok (.iload_n 1, 1) := by decide +kernel
theorem dX3_hasMiddleFault_3 : decode cX3_hasMiddleFault 3 = .ok (.aload_n 0, 1) := by decide +kernel
theorem dX3_hasMiddleFault_4 : decode cX3_hasMiddleFault 4 = .ok (.getfield 26, 3) := by decide +kernel
theorem dX3_hasMiddleFault_7 : decode cX3_hasMiddleFault 7 = .ok (.invokevirtual 85, 3) := by decide +kernel
theorem dX3_hasMiddleFault_10 : decode cX3_hasMiddleFault 10 = .ok (.if_icmp .ge 87, 3) := by decide +kernel
theorem dX3_hasMiddleFault_13 : decode cX3_hasMiddleFault 13 = .ok (.iconst 0, 1) := by decide +kernel
theorem dX3_hasMiddleFault_14 : decode cX3_hasMiddleFault 14 = .ok (.istore_n 2, 1) := by decide +kernel
theorem dX3_hasMiddleFault_15 : decode cX3_hasMiddleFault 15 = .ok (.iload_n 2, 1) := by decide +kernel
theorem dX3_hasMiddleFault_16 : decode cX3_hasMiddleFault 16 = .ok (.aload_n 0, 1) := by decide +kernel
theorem dX3_hasMiddleFault_17 : decode cX3_hasMiddleFault 17 = .ok (.getfield 26, 3) := by decide +kernel
theorem dX3_hasMiddleFault_20 : decode cX3_hasMiddleFault 20 = .ok (.invokevirtual 85, 3) := by decide +kernel
theorem dX3_hasMiddleFault_23 : decode cX3_hasMiddleFault 23 = .ok (.if_icmp .ge 68, 3) := by decide +kernel
theorem dX3_hasMiddleFault_26 : decode cX3_hasMiddleFault 26 = .ok (.aload_n 0, 1) := by decide +kernel
theorem dX3_hasMiddleFault_27 : decode cX3_hasMiddleFault 27 = .ok (.getfield 26, 3) := by decide +kernel
theorem dX3_hasMiddleFault_30 : decode cX3_hasMiddleFault 30 = .ok (.iload_n 1, 1) := by decide +kernel
theorem dX3_hasMiddleFault_31 : decode cX3_hasMiddleFault 31 = .ok (.invokevirtual 119, 3) := by decide +kernel
theorem dX3_hasMiddleFault_34 : decode cX3_hasMiddleFault 34 = .ok (.checkcast 96, 3) := by decide +kernel
theorem dX3_hasMiddleFault_37 : decode cX3_hasMiddleFault 37 = .ok (.aload_n 0, 1) := by decide +kernel
theorem dX3_hasMiddleFault_38 : decode cX3_hasMiddleFault 38 = .ok (.getfield 26, 3) := by decide +kernel
theorem dX3_hasMiddleFault_41 : decode cX3_hasMiddleFault 41 = .ok (.iload_n 2, 1) := by decide +kernel
theorem dX3_hasMiddleFault_42 : decode cX3_hasMiddleFault 42 = .ok (.invokevirtual 119, 3) := by decide +kernel
theorem dX3_hasMiddleFault_45 : decode cX3_hasMiddleFault 45 = .ok (.checkcast 96, 3) := by decide +kernel
theorem dX3_hasMiddleFault_48 : decode cX3_hasMiddleFault 48 = .ok (.invokestatic 309, 3) := by decide +kernel
theorem dX3_hasMiddleFault_51 : decode cX3_hasMiddleFault 51 = .ok (.ifCond .eq 34, 3) := by decide +kernel
theorem dX3_hasMiddleFault_54 : decode cX3_hasMiddleFault 54 = .ok (.aload_n 0, 1) := by decide +kernel
theorem dX3_hasMiddleFault_55 : decode cX3_hasMiddleFault 55 = .ok (.aload_n 0, 1) := by decide +kernel
theorem dX3_hasMiddleFault_56 : decode cX3_hasMiddleFault 56 = .ok (.getfield 26, 3) := by decide +kernel
theorem dX3_hasMiddleFault_59 : decode cX3_hasMiddleFault 59 = .ok (.iload_n 1, 1) := by decide +kernel
theorem dX3_hasMiddleFault_60 : decode cX3_hasMiddleFault 60 = .ok (.invokevirtual 119, 3) := by decide +kernel
theorem dX3_hasMiddleFault_63 : decode cX3_hasMiddleFault 63 = .ok (.checkcast 96, 3) := by decide +kernel
theorem dX3_hasMiddleFault_66 : decode cX3_hasMiddleFault 66 = .ok (.aload_n 0, 1) := by decide +kernel
theorem dX3_hasMiddleFault_67 : decode cX3_hasMiddleFault 67 = .ok (.getfield 26, 3) := by decide +kernel
theorem dX3_hasMiddleFault_70 : decode cX3_hasMiddleFault 70 = .ok (.iload_n 2, 1) := by decide +kernel
theorem dX3_hasMiddleFault_71 : decode cX3_hasMiddleFault 71 = .ok (.invokevirtual 119, 3) := by decide +kernel
theorem dX3_hasMiddleFault_74 : decode cX3_hasMiddleFault 74 = .ok (.checkcast 96, 3) := by decide +kernel
theorem dX3_hasMiddleFault_77 : decode cX3_hasMiddleFault 77 = .ok (.invokevirtual 312, 3) := by decide +kernel
theorem dX3_hasMiddleFault_80 : decode cX3_hasMiddleFault 80 = .ok (.ifCond .eq 5, 3) := by decide +kernel
theorem dX3_hasMiddleFault_83 : decode cX3_hasMiddleFault 83 = .ok (.iconst 1, 1) := by decide +kernel
theorem dX3_hasMiddleFault_84 : decode cX3_hasMiddleFault 84 = .ok (.ireturn, 1) := by decide +kernel
theorem dX3_hasMiddleFault_85 : decode cX3_hasMiddleFault 85 = .ok (.iinc 2 1, 3) := by decide +kernel
theorem dX3_hasMiddleFault_88 : decode cX3_hasMiddleFault 88 = .ok (.goto (-73), 3) := by decide +kernel
theorem dX3_hasMiddleFault_91 : decode cX3_hasMiddleFault 91 = .ok (.iinc 1 1, 3) := by decide +kernel
theorem dX3_hasMiddleFault_94 : decode cX3_hasMiddleFault 94 = .ok (.goto (-92), 3) := by decide +kernel
theorem dX3_hasMiddleFault_97 : decode cX3_hasMiddleFault 97 = .ok (.iconst 0, 1) := by decide +kernel
theorem dX3_hasMiddleFault_98 : decode cX3_hasMiddleFault 98 = .ok (.ireturn, 1) := by decide +kernel
theorem dX3_hasMiddleFaultWith_0 : decode cX3_hasMiddleFaultWith 0 = .ok (.iconst 0, 1) := by decide +kernel
theorem dX3_hasMiddleFaultWith_1 : decode cX3_hasMiddleFaultWith 1 = .ok (.istore_n 3, 1) := by decide +kernel
theorem dX3_hasMiddleFaultWith_2 : decode cX3_hasMiddleFaultWith 2 = .ok (.iload_n 3, 1) := by decide +kernel
theorem dX3_hasMiddleFaultWith_3 : decode cX3_hasMiddleFaultWith 3 = .ok (.aload_n 0, 1) := by decide +kernel
theorem dX3_hasMiddleFaultWith_4 : decode cX3_hasMiddleFaultWith 4 = .ok (.getfield 26, 3) := by decide +kernel
theorem dX3_hasMiddleFaultWith_7 : decode cX3_hasMiddleFaultWith 7 = .ok (.invokevirtual 85, 3) := by decide +kernel
theorem dX3_hasMiddleFaultWith_10 : decode cX3_hasMiddleFaultWith 10 = .ok (.if_icmp .ge 30, 3) := by decide +kernel
theorem dX3_hasMiddleFaultWith_13 : decode cX3_hasMiddleFaultWith 13 = .ok (.aload_n 1, 1) := by decide +kernel
theorem dX3_hasMiddleFaultWith_14 : decode cX3_hasMiddleFaultWith 14 = .ok (.aload_n 2, 1) := by decide +kernel
theorem dX3_hasMiddleFaultWith_15 : decode cX3_hasMiddleFaultWith 15 = .ok (.aload_n 0, 1) := by decide +kernel
theorem dX3_hasMiddleFaultWith_16 : decode cX3_hasMiddleFaultWith 16 = .ok (.getfield 26, 3) := by decide +kernel
theorem dX3_hasMiddleFaultWith_19 : decode cX3_hasMiddleFaultWith 19 = .ok (.iload_n 3, 1) := by decide +kernel
theorem dX3_hasMiddleFaultWith_20 : decode cX3_hasMiddleFaultWith 20 = .ok (.invokevirtual 119, 3) := by decide +kernel
theorem dX3_hasMiddleFaultWith_23 : decode cX3_hasMiddleFaultWith 23 = .ok (.checkcast 96, 3) := by decide +kernel
theorem dX3_hasMiddleFaultWith_26 : decode cX3_hasMiddleFaultWith 26 = .ok (.invokestatic 315, 3) := by decide +kernel
theorem dX3_hasMiddleFaultWith_29 : decode cX3_hasMiddleFaultWith 29 = .ok (.ifCond .eq 5, 3) := by decide +kernel
theorem dX3_hasMiddleFaultWith_32 : decode cX3_hasMiddleFaultWith 32 = .ok (.iconst 1, 1) := by decide +kernel
theorem dX3_hasMiddleFaultWith_33 : decode cX3_hasMiddleFaultWith 33 = .ok (.ireturn, 1) := by decide +kernel
theorem dX3_hasMiddleFaultWith_34 : decode cX3_hasMiddleFaultWith 34 = .ok (.iinc 3 1, 3) := by decide +kernel
theorem dX3_hasMiddleFaultWith_37 : decode cX3_hasMiddleFaultWith 37 = .ok (.goto (-35), 3) := by decide +kernel
theorem dX3_hasMiddleFaultWith_40 : decode cX3_hasMiddleFaultWith 40 = .ok (.iconst 0, 1) := by decide +kernel
theorem dX3_hasMiddleFaultWith_41 : decode cX3_hasMiddleFaultWith 41 = .ok (.ireturn, 1) := by decide +kernel
theorem dX3_hasExpiriesFault_0 : decode cX3_hasExpiriesFault 0 = .ok (.iconst 0, 1) := by decide +kernel
theorem dX3_hasExpiriesFault_1 : decode cX3_hasExpiriesFault 1 = .ok (.istore_n 1, 1) := by decide +kernel
theorem dX3_hasExpiriesFault_2 : decode cX3_hasExpiriesFault 2 = .ok (.iload_n 1, 1) := by decide +kernel
theorem dX3_hasExpiriesFault_3 : decode cX3_hasExpiriesFault 3 = .ok (.aload_n 0, 1) := by decide +kernel
theorem dX3_hasExpiriesFault_4 : decode cX3_hasExpiriesFault 4 = .ok (.getfield 26, 3) := by decide +kernel
theorem dX3_hasExpiriesFault_7 : decode cX3_hasExpiriesFault 7 = .ok (.invokevirtual 85, 3) := by decide +kernel
theorem dX3_hasExpiriesFault_10 : decode cX3_hasExpiriesFault 10 = .ok (.if_icmp .ge 58, 3) := by decide +kernel
theorem dX3_hasExpiriesFault_13 : decode cX3_hasExpiriesFault 13 = .ok (.iconst 0, 1) := by decide +kernel
theorem dX3_hasExpiriesFault_14 : decode cX3_hasExpiriesFault 14 = .ok (.istore_n 2, 1) := by decide +kernel
theorem dX3_hasExpiriesFault_15 : decode cX3_hasExpiriesFault 15 = .ok (.iload_n 2, 1) := by decide +kernel
theorem dX3_hasExpiriesFault_16 : decode cX3_hasExpiriesFault 16 = .ok (.aload_n 0, 1) := by decide +kernel
theorem dX3_hasExpiriesFault_17 : decode cX3_hasExpiriesFault 17 = .ok (.getfield 26, 3) := by decide +kernel
theorem dX3_hasExpiriesFault_20 : decode cX3_hasExpiriesFault 20 = .ok (.invokevirtual 85, 3) := by decide +kernel
theorem dX3_hasExpiriesFault_23 : decode cX3_hasExpiriesFault 23 = .ok (.if_icmp .ge 39, 3) := by decide +kernel
theorem dX3_hasExpiriesFault_26 : decode cX3_hasExpiriesFault 26 = .ok (.aload_n 0, 1) := by decide +kernel
theorem dX3_hasExpiriesFault_27 : decode cX3_hasExpiriesFault 27 = .ok (.getfield 26, 3) := by decide +kernel
theorem dX3_hasExpiriesFault_30 : decode cX3_hasExpiriesFault 30 = .ok (.iload_n 1, 1) := by decide +kernel
theorem dX3_hasExpiriesFault_31 : decode cX3_hasExpiriesFault 31 = .ok (.invokevirtual 119, 3) := by decide +kernel
theorem dX3_hasExpiriesFault_34 : decode cX3_hasExpiriesFault 34 = .ok (.checkcast 96, 3) := by decide +kernel
theorem dX3_hasExpiriesFault_37 : decode cX3_hasExpiriesFault 37 = .ok (.aload_n 0, 1) := by decide +kernel
theorem dX3_hasExpiriesFault_38 : decode cX3_hasExpiriesFault 38 = .ok (.getfield 26, 3) := by decide +kernel
theorem dX3_hasExpiriesFault_41 : decode cX3_hasExpiriesFault 41 = .ok (.iload_n 2, 1) := by decide +kernel
theorem dX3_hasExpiriesFault_42 : decode cX3_hasExpiriesFault 42 = .ok (.invokevirtual 119, 3) := by decide +kernel
theorem dX3_hasExpiriesFault_45 : decode cX3_hasExpiriesFault 45 = .ok (.checkcast 96, 3) := by decide +kernel
theorem dX3_hasExpiriesFault_48 : decode cX3_hasExpiriesFault 48 = .ok (.invokestatic 319, 3) := by decide +kernel
theorem dX3_hasExpiriesFault_51 : decode cX3_hasExpiriesFault 51 = .ok (.ifCond .eq 5, 3) := by decide +kernel
theorem dX3_hasExpiriesFault_54 : decode cX3_hasExpiriesFault 54 = .ok (.iconst 1, 1) := by decide +kernel
theorem dX3_hasExpiriesFault_55 : decode cX3_hasExpiriesFault 55 = .ok (.ireturn, 1) := by decide +kernel
theorem dX3_hasExpiriesFault_56 : decode cX3_hasExpiriesFault 56 = .ok (.iinc 2 1, 3) := by decide +kernel
theorem dX3_hasExpiriesFault_59 : decode cX3_hasExpiriesFault 59 = .ok (.goto (-44), 3) := by decide +kernel
theorem dX3_hasExpiriesFault_62 : decode cX3_hasExpiriesFault 62 = .ok (.iinc 1 1, 3) := by decide +kernel
theorem dX3_hasExpiriesFault_65 : decode cX3_hasExpiriesFault 65 = .ok (.goto (-63), 3) := by decide +kernel
theorem dX3_hasExpiriesFault_68 : decode cX3_hasExpiriesFault 68 = .ok (.iconst 0, 1) := by decide +kernel
theorem dX3_hasExpiriesFault_69 : decode cX3_hasExpiriesFault 69 = .ok (.ireturn, 1) := by decide +kernel
theorem dX3_isStrikePair_0 : decode cX3_isStrikePair 0 = .ok (.aload_n 0, 1) := by decide +kernel
theorem dX3_isStrikePair_1 : decode cX3_isStrikePair 1 = .ok (.invokevirtual 302, 3) := by decide +kernel
theorem dX3_isStrikePair_4 : decode cX3_isStrikePair 4 = .ok (.ifCond .eq 58, 3) := by decide +kernel
theorem dX3_isStrikePair_7 : decode cX3_isStrikePair 7 = .ok (.aload_n 1, 1) := by decide +kernel
theorem dX3_isStrikePair_8 : decode cX3_isStrikePair 8 = .ok (.invokevirtual 302, 3) := by decide +kernel
theorem dX3_isStrikePair_11 : decode cX3_isStrikePair 11 = .ok (.ifCond .eq 51, 3) := by decide +kernel
theorem dX3_isStrikePair_14 : decode cX3_isStrikePair 14 = .ok (.aload_n 0, 1) := by decide +kernel
theorem dX3_isStrikePair_15 : decode cX3_isStrikePair 15 = .ok (.getfield 322, 3) := by decide +kernel
theorem dX3_isStrikePair_18 : decode cX3_isStrikePair 18 = .ok (.aload_n 1, 1) := by decide +kernel
theorem dX3_isStrikePair_19 : decode cX3_isStrikePair 19 = .ok (.getfield 322, 3) := by decide +kernel
theorem dX3_isStrikePair_22 : decode cX3_isStrikePair 22 = .ok (.if_icmp .ge 40, 3) := by decide +kernel
theorem dX3_isStrikePair_25 : decode cX3_isStrikePair 25 = .ok (.aload_n 0, 1) := by decide +kernel
theorem dX3_isStrikePair_26 : decode cX3_isStrikePair 26 = .ok (.getfield 325, 3) := by decide +kernel
theorem dX3_isStrikePair_29 : decode cX3_isStrikePair 29 = .ok (.aload_n 1, 1) := by decide +kernel
theorem dX3_isStrikePair_30 : decode cX3_isStrikePair 30 = .ok (.getfield 325, 3) := by decide +kernel
theorem dX3_isStrikePair_33 : decode cX3_isStrikePair 33 = .ok (.if_icmp .ne 29, 3) := by decide +kernel
theorem dX3_isStrikePair_36 : decode cX3_isStrikePair 36 = .ok (.aload_n 0, 1) := by decide +kernel
theorem dX3_isStrikePair_37 : decode cX3_isStrikePair 37 = .ok (.getfield 177, 3) := by decide +kernel
theorem dX3_isStrikePair_40 : decode cX3_isStrikePair 40 = .ok (.aload_n 1, 1) := by decide +kernel
theorem dX3_isStrikePair_41 : decode cX3_isStrikePair 41 = .ok (.getfield 177, 3) := by decide +kernel
theorem dX3_isStrikePair_44 : decode cX3_isStrikePair 44 = .ok (.if_icmp .ne 18, 3) := by decide +kernel
theorem dX3_isStrikePair_47 : decode cX3_isStrikePair 47 = .ok (.aload_n 0, 1) := by decide +kernel
theorem dX3_isStrikePair_48 : decode cX3_isStrikePair 48 = .ok (.getfield 173, 3) := by decide +kernel
theorem dX3_isStrikePair_51 : decode cX3_isStrikePair 51 = .ok (.aload_n 1, 1) := by decide +kernel
theorem dX3_isStrikePair_52 : decode cX3_isStrikePair 52 = .ok (.getfield 173, 3) := by decide +kernel
theorem dX3_isStrikePair_55 : decode cX3_isStrikePair 55 = .ok (.if_icmp .ne 7, 3) := by decide +kernel
theorem dX3_isStrikePair_58 : decode cX3_isStrikePair 58 = .ok (.iconst 1, 1) := by decide +kernel
theorem dX3_isStrikePair_59 : decode cX3_isStrikePair 59 = .ok (.goto 4, 3) := by decide +kernel
theorem dX3_isStrikePair_62 : decode cX3_isStrikePair 62 = .ok (.iconst 0, 1) := by decide +kernel
theorem dX3_isStrikePair_63 : decode cX3_isStrikePair 63 = .ok (.ireturn, 1) := by decide +kernel
theorem dX3_isStrikesFault_0 : decode cX3_isStrikesFault 0 = .ok (.aload_n 0, 1) := by decide +kernel
theorem dX3_isStrikesFault_1 : decode cX3_isStrikesFault 1 = .ok (.aload_n 1, 1) := by decide +kernel
theorem dX3_isStrikesFault_2 : decode cX3_isStrikesFault 2 = .ok (.invokestatic 309, 3) := by decide +kernel
theorem dX3_isStrikesFault_5 : decode cX3_isStrikesFault 5 = .ok (.ifCond .ne 5, 3) := by decide +kernel
theorem dX3_isStrikesFault_8 : decode cX3_isStrikesFault 8 = .ok (.iconst 0, 1) := by decide +kernel
theorem dX3_isStrikesFault_9 : decode cX3_isStrikesFault 9 = .ok (.ireturn, 1) := by decide +kernel
theorem dX3_isStrikesFault_10 : decode cX3_isStrikesFault 10 = .ok (.aload_n 0, 1) := by decide +kernel
theorem dX3_isStrikesFault_11 : decode cX3_isStrikesFault 11 = .ok (.getfield 325, 3) := by decide +kernel
theorem dX3_isStrikesFault_14 : decode cX3_isStrikesFault 14 = .ok (.ifCond .ne 22, 3) := by decide +kernel
theorem dX3_isStrikesFault_17 : decode cX3_isStrikesFault 17 = .ok (.aload_n 1, 1) := by decide +kernel
theorem dX3_isStrikesFault_18 : decode cX3_isStrikesFault 18 = .ok (.getfield 222, 3) := by decide +kernel
theorem dX3_isStrikesFault_21 : decode cX3_isStrikesFault 21 = .ok (.aload_n 0, 1) := by decide +kernel
theorem dX3_isStrikesFault_22 : decode cX3_isStrikesFault 22 = .ok (.getfield 225, 3) := by decide +kernel
theorem dX3_isStrikesFault_25 : decode cX3_isStrikesFault 25 = .ok (.if_icmp .le 7, 3) := by decide +kernel
theorem dX3_isStrikesFault_28 : decode cX3_isStrikesFault 28 = .ok (.iconst 1, 1) := by decide +kernel
theorem dX3_isStrikesFault_29 : decode cX3_isStrikesFault 29 = .ok (.goto 23, 3) := by decide +kernel
theorem dX3_isStrikesFault_32 : decode cX3_isStrikesFault 32 = .ok (.iconst 0, 1) := by decide +kernel
theorem dX3_isStrikesFault_33 : decode cX3_isStrikesFault 33 = .ok (.goto 19, 3) := by decide +kernel
theorem dX3_isStrikesFault_36 : decode cX3_isStrikesFault 36 = .ok (.aload_n 0, 1) := by decide +kernel
theorem dX3_isStrikesFault_37 : decode cX3_isStrikesFault 37 = .ok (.getfield 222, 3) := by decide +kernel
theorem dX3_isStrikesFault_40 : decode cX3_isStrikesFault 40 = .ok (.aload_n 1, 1) := by decide +kernel
theorem dX3_isStrikesFault_41 : decode cX3_isStrikesFault 41 = .ok (.getfield 225, 3) := by decide +kernel
theorem dX3_isStrikesFault_44 : decode cX3_isStrikesFault 44 = .ok (.if_icmp .le 7, 3) := by decide +kernel
theorem dX3_isStrikesFault_47 : decode cX3_isStrikesFault 47 = .ok (.iconst 1, 1) := by decide +kernel
theorem dX3_isStrikesFault_48 : decode cX3_isStrikesFault 48 = .ok (.goto 4, 3) := by decide +kernel
theorem dX3_isStrikesFault_51 : decode cX3_isStrikesFault 51 = .ok (.iconst 0, 1) := by decide +kernel
theorem dX3_isStrikesFault_52 : decode cX3_isStrikesFault 52 = .ok (.ireturn, 1) := by decide +kernel
theorem dX3_isMiddleFault_0 : decode cX3_isMiddleFault 0 = .ok (.aload_n 0, 1) := by decide +kernel
theorem dX3_isMiddleFault_1 : decode cX3_isMiddleFault 1 = .ok (.aload_n 1, 1) := by decide +kernel
theorem dX3_isMiddleFault_2 : decode cX3_isMiddleFault 2 = .ok (.invokestatic 309, 3) := by decide +kernel
theorem dX3_isMiddleFault_5 : decode cX3_isMiddleFault 5 = .ok (.ifCond .eq 54, 3) := by decide +kernel
theorem dX3_isMiddleFault_8 : decode cX3_isMiddleFault 8 = .ok (.aload_n 1, 1) := by decide +kernel
theorem dX3_isMiddleFault_9 : decode cX3_isMiddleFault 9 = .ok (.aload_n 2, 1) := by decide +kernel
theorem dX3_isMiddleFault_10 : decode cX3_isMiddleFault 10 = .ok (.invokestatic 309, 3) := by decide +kernel
theorem dX3_isMiddleFault_13 : decode cX3_isMiddleFault 13 = .ok (.ifCond .eq 46, 3) := by decide +kernel
theorem dX3_isMiddleFault_16 : decode cX3_isMiddleFault 16 = .ok (.aload_n 1, 1) := by decide +kernel
theorem dX3_isMiddleFault_17 : decode cX3_isMiddleFault 17 = .ok (.getfield 322, 3) := by decide +kernel
theorem dX3_isMiddleFault_20 : decode cX3_isMiddleFault 20 = .ok (.aload_n 0, 1) := by decide +kernel
theorem dX3_isMiddleFault_21 : decode cX3_isMiddleFault 21 = .ok (.getfield 322, 3) := by decide +kernel
theorem dX3_isMiddleFault_24 : decode cX3_isMiddleFault 24 = .ok (.isub, 1) := by decide +kernel
theorem dX3_isMiddleFault_25 : decode cX3_isMiddleFault 25 = .ok (.aload_n 2, 1) := by decide +kernel
theorem dX3_isMiddleFault_26 : decode cX3_isMiddleFault 26 = .ok (.getfield 322, 3) := by decide +kernel
theorem dX3_isMiddleFault_29 : decode cX3_isMiddleFault 29 = .ok (.aload_n 1, 1) := by decide +kernel
theorem dX3_isMiddleFault_30 : decode cX3_isMiddleFault 30 = .ok (.getfield 322, 3) := by decide +kernel
theorem dX3_isMiddleFault_33 : decode cX3_isMiddleFault 33 = .ok (.isub, 1) := by decide +kernel
theorem dX3_isMiddleFault_34 : decode cX3_isMiddleFault 34 = .ok (.if_icmp .ne 25, 3) := by decide +kernel
theorem dX3_isMiddleFault_37 : decode cX3_isMiddleFault 37 = .ok (.iconst 2, 1) := by decide +kernel
theorem dX3_isMiddleFault_38 : decode cX3_isMiddleFault 38 = .ok (.aload_n 1, 1) := by decide +kernel
theorem dX3_isMiddleFault_39 : decode cX3_isMiddleFault 39 = .ok (.getfield 222, 3) := by decide +kernel
theorem dX3_isMiddleFault_42 : decode cX3_isMiddleFault 42 = .ok (.imul, 1) := by decide +kernel
theorem dX3_isMiddleFault_43 : decode cX3_isMiddleFault 43 = .ok (.aload_n 0, 1) := by decide +kernel
theorem dX3_isMiddleFault_44 : decode cX3_isMiddleFault 44 = .ok (.getfield 225, 3) := by decide +kernel
theorem dX3_isMiddleFault_47 : decode cX3_isMiddleFault 47 = .ok (.aload_n 2, 1) := by decide +kernel
theorem dX3_isMiddleFault_48 : decode cX3_isMiddleFault 48 = .ok (.getfield 225, 3) := by decide +kernel
theorem dX3_isMiddleFault_51 : decode cX3_isMiddleFault 51 = .ok (.iadd, 1) := by decide +kernel
theorem dX3_isMiddleFault_52 : decode cX3_isMiddleFault 52 = .ok (.if_icmp .le 7, 3) := by decide +kernel
theorem dX3_isMiddleFault_55 : decode cX3_isMiddleFault 55 = .ok (.iconst 1, 1) := by decide +kernel
theorem dX3_isMiddleFault_56 : decode cX3_isMiddleFault 56 = .ok (.goto 4, 3) := by decide +kernel
theorem dX3_isMiddleFault_59 : decode cX3_isMiddleFault 59 = .ok (.iconst 0, 1) := by decide +kernel
theorem dX3_isMiddleFault_60 : decode cX3_isMiddleFault 60 = .ok (.ireturn, 1) := by decide +kernel
theorem dX3_isExpiriesFault_0 : decode cX3_isExpiriesFault 0 = .ok (.aload_n 0, 1) := by decide +kernel
theorem dX3_isExpiriesFault_1 : decode cX3_isExpiriesFault 1 = .ok (.invokevirtual 302, 3) := by decide +kernel
theorem dX3_isExpiriesFault_4 : decode cX3_isExpiriesFault 4 = .ok (.ifCond .eq 72, 3) := by decide +kernel
theorem dX3_isExpiriesFault_7 : decode cX3_isExpiriesFault 7 = .ok (.aload_n 1, 1) := by decide +kernel
theorem dX3_isExpiriesFault_8 : decode cX3_isExpiriesFault 8 = .ok (.invokevirtual 302, 3) := by decide +kernel
theorem dX3_isExpiriesFault_11 : decode cX3_isExpiriesFault 11 = .ok (.ifCond .eq 65, 3) := by decide +kernel
theorem dX3_isExpiriesFault_14 : decode cX3_isExpiriesFault 14 = .ok (.aload_n 0, 1) := by decide +kernel
theorem dX3_isExpiriesFault_15 : decode cX3_isExpiriesFault 15 = .ok (.getfield 177, 3) := by decide +kernel
theorem dX3_isExpiriesFault_18 : decode cX3_isExpiriesFault 18 = .ok (.aload_n 1, 1) := by decide +kernel
theorem dX3_isExpiriesFault_19 : decode cX3_isExpiriesFault 19 = .ok (.getfield 177, 3) := by decide +kernel
theorem dX3_isExpiriesFault_22 : decode cX3_isExpiriesFault 22 = .ok (.if_icmp .ge 54, 3) := by decide +kernel
theorem dX3_isExpiriesFault_25 : decode cX3_isExpiriesFault 25 = .ok (.aload_n 0, 1) := by decide +kernel
theorem dX3_isExpiriesFault_26 : decode cX3_isExpiriesFault 26 = .ok (.getfield 173, 3) := by decide +kernel
theorem dX3_isExpiriesFault_29 : decode cX3_isExpiriesFault 29 = .ok (.ifCond .eq 47, 3) := by decide +kernel
theorem dX3_isExpiriesFault_32 : decode cX3_isExpiriesFault 32 = .ok (.aload_n 1, 1) := by decide +kernel
theorem dX3_isExpiriesFault_33 : decode cX3_isExpiriesFault 33 = .ok (.getfield 173, 3) := by decide +kernel
theorem dX3_isExpiriesFault_36 : decode cX3_isExpiriesFault 36 = .ok (.ifCond .eq 40, 3) := by decide +kernel
theorem dX3_isExpiriesFault_39 : decode cX3_isExpiriesFault 39 = .ok (.aload_n 0, 1) := by decide +kernel
theorem dX3_isExpiriesFault_40 : decode cX3_isExpiriesFault 40 = .ok (.getfield 325, 3) := by decide +kernel
theorem dX3_isExpiriesFault_43 : decode cX3_isExpiriesFault 43 = .ok (.aload_n 1, 1) := by decide +kernel
theorem dX3_isExpiriesFault_44 : decode cX3_isExpiriesFault 44 = .ok (.getfield 325, 3) := by decide +kernel
theorem dX3_isExpiriesFault_47 : decode cX3_isExpiriesFault 47 = .ok (.if_icmp .ne 29, 3) := by decide +kernel
theorem dX3_isExpiriesFault_50 : decode cX3_isExpiriesFault 50 = .ok (.aload_n 0, 1) := by decide +kernel
theorem dX3_isExpiriesFault_51 : decode cX3_isExpiriesFault 51 = .ok (.getfield 322, 3) := by decide +kernel
theorem dX3_isExpiriesFault_54 : decode cX3_isExpiriesFault 54 = .ok (.aload_n 1, 1) := by decide +kernel
theorem dX3_isExpiriesFault_55 : decode cX3_isExpiriesFault 55 = .ok (.getfield 322, 3) := by decide +kernel
theorem dX3_isExpiriesFault_58 : decode cX3_isExpiriesFault 58 = .ok (.if_icmp .ne 18, 3) := by decide +kernel
theorem dX3_isExpiriesFault_61 : decode cX3_isExpiriesFault 61 = .ok (.aload_n 0, 1) := by decide +kernel
theorem dX3_isExpiriesFault_62 : decode cX3_isExpiriesFault 62 = .ok (.getfield 222, 3) := by decide +kernel
theorem dX3_isExpiriesFault_65 : decode cX3_isExpiriesFault 65 = .ok (.aload_n 1, 1) := by decide +kernel
theorem dX3_isExpiriesFault_66 : decode cX3_isExpiriesFault 66 = .ok (.getfield 225, 3) := by decide +kernel
theorem dX3_isExpiriesFault_69 : decode cX3_isExpiriesFault 69 = .ok (.if_icmp .le 7, 3) := by decide +kernel
theorem dX3_isExpiriesFault_72 : decode cX3_isExpiriesFault 72 = .ok (.iconst 1, 1) := by decide +kernel
theorem dX3_isExpiriesFault_73 : decode cX3_isExpiriesFault 73 = .ok (.goto 4, 3) := by decide +kernel
theorem dX3_isExpiriesFault_76 : decode cX3_isExpiriesFault 76 = .ok (.iconst 0, 1) := by decide +kernel
theorem dX3_isExpiriesFault_77 : decode cX3_isExpiriesFault 77 = .ok (.ireturn, 1) := by decide +kernel
theorem dJ9_abs_0f7a4_0 : decode cJ9_abs_0f7a4 0 = .ok (.iload_n 0, 1) := by decide +kernel
theorem dJ9_abs_0f7a4_1 : decode cJ9_abs_0f7a4 1 = .ok (.ifCond .ge 8, 3) := by decide +kernel
theorem dJ9_abs_0f7a4_4 : decode cJ9_abs_0f7a4 4 = .ok (.iload_n 0, 1) := by decide +kernel
theorem dJ9_abs_0f7a4_5 : decode cJ9_abs_0f7a4 5 = .ok (.ineg, 1) := by decide +kernel
theorem dJ9_abs_0f7a4_6 : decode cJ9_abs_0f7a4 6 = .ok (.goto 4, 3) := by decide +kernel
theorem dJ9_abs_0f7a4_9 : decode cJ9_abs_0f7a4 9 = .ok (.iload_n 0, 1) := by decide +kernel
theorem dJ9_abs_0f7a4_10 : decode cJ9_abs_0f7a4 10 = .ok (.ireturn, 1) := by decide +kernel
theorem dJ9_max_7cf53_0 : decode cJ9_max_7cf53 0 = .ok (.iload_n 0, 1) := by decide +kernel
theorem dJ9_max_7cf53_1 : decode cJ9_max_7cf53 1 = .ok (.iload_n 1, 1) := by decide +kernel
theorem dJ9_max_7cf53_2 : decode cJ9_max_7cf53 2 = .ok (.if_icmp .lt 7, 3) := by decide +kernel
theorem dJ9_max_7cf53_5 : decode cJ9_max_7cf53 5 = .ok (.iload_n 0, 1) := by decide +kernel
theorem dJ9_max_7cf53_6 : decode cJ9_max_7cf53 6 = .ok (.goto 4, 3) := by decide +kernel
theorem dJ9_max_7cf53_9 : decode cJ9_max_7cf53 9 = .ok (.iload_n 1, 1) := by decide +kernel
theorem dJ9_max_7cf53_10 : decode cJ9_max_7cf53 10 = .ok (.ireturn, 1) := by decide +kernel
theorem dJ9_max_f86c9_0 : decode cJ9_max_f86c9 0 = .ok (.lload_n 0, 1) := by decide +kernel
theorem dJ9_max_f86c9_1 : decode cJ9_max_f86c9 1 = .ok (.lload_n 2, 1) := by decide +kernel
theorem dJ9_max_f86c9_2 : decode cJ9_max_f86c9 2 = .ok (.lcmp, 1) := by decide +kernel
theorem dJ9_max_f86c9_3 : decode cJ9_max_f86c9 3 = .ok (.ifCond .lt 7, 3) := by decide +kernel
theorem dJ9_max_f86c9_6 : decode cJ9_max_f86c9 6 = .ok (.lload_n 0, 1) := by decide +kernel
theorem dJ9_max_f86c9_7 : decode cJ9_max_f86c9 7 = .ok (.goto 4, 3) := by decide +kernel
theorem dJ9_max_f86c9_10 : decode cJ9_max_f86c9 10 = .ok (.lload_n 2, 1) := by decide +kernel
theorem dJ9_max_f86c9_11 : decode cJ9_max_f86c9 11 = .ok (.lreturn, 1) := by decide +kernel
theorem dJ9_min_7cf53_0 : decode cJ9_min_7cf53 0 = .ok (.iload_n 0, 1) := by decide +kernel
theorem dJ9_min_7cf53_1 : decode cJ9_min_7cf53 1 = .ok (.iload_n 1, 1) := by decide +kernel
theorem dJ9_min_7cf53_2 : decode cJ9_min_7cf53 2 = .ok (.if_icmp .gt 7, 3) := by decide +kernel
theorem dJ9_min_7cf53_5 : decode cJ9_min_7cf53 5 = .ok (.iload_n 0, 1) := by decide +kernel
theorem dJ9_min_7cf53_6 : decode cJ9_min_7cf53 6 = .ok (.goto 4, 3) := by decide +kernel
theorem dJ9_min_7cf53_9 : decode cJ9_min_7cf53 9 = .ok (.iload_n 1, 1) := by decide +kernel
theorem dJ9_min_7cf53_10 : decode cJ9_min_7cf53 10 = .ok (.ireturn, 1) := by decide +kernel
theorem dJxa1e45_init_da8c8_0 : decode cJxa1e45_init_da8c8 0 = .ok (.aload_n 0, 1) := by decide +kernel
theorem dJxa1e45_init_da8c8_1 : decode cJxa1e45_init_da8c8 1 = .ok (.invokespecial 1, 3) := by decide +kernel
theorem dJxa1e45_init_da8c8_4 : decode cJxa1e45_init_da8c8 4 = .ok (.return_, 1) := by decide +kernel
theorem dJxc12de_init_da8c8_0 : decode cJxc12de_init_da8c8 0 = .ok (.aload_n 0, 1) := by decide +kernel
theorem dJxc12de_init_da8c8_1 : decode cJxc12de_init_da8c8 1 = .ok (.invokespecial 1, 3) := by decide +kernel
theorem dJxc12de_init_da8c8_4 : decode cJxc12de_init_da8c8 4 = .ok (.aload_n 0, 1) := by decide +kernel
theorem dJxc12de_init_da8c8_5 : decode cJxc12de_init_da8c8 5 = .ok (.iconst 0, 1) := by decide +kernel
theorem dJxc12de_init_da8c8_6 : decode cJxc12de_init_da8c8 6 = .ok (.putfield 7, 3) := by decide +kernel
theorem dJxc12de_init_da8c8_9 : decode cJxc12de_init_da8c8 9 = .ok (.return_, 1) := by decide +kernel
theorem dJx4a65c_init_da8c8_0 : decode cJx4a65c_init_da8c8 0 = .ok (.aload_n 0, 1) := by decide +kernel
theorem dJx4a65c_init_da8c8_1 : decode cJx4a65c_init_da8c8 1 = .ok (.invokespecial 1, 3) := by decide +kernel
theorem dJx4a65c_init_da8c8_4 : decode cJx4a65c_init_da8c8 4 = .ok (.aload_n 0, 1) := by decide +kernel
theorem dJx4a65c_init_da8c8_5 : decode cJx4a65c_init_da8c8 5 = .ok (.getstatic 39, 3) := by decide +kernel
theorem dJx4a65c_init_da8c8_8 : decode cJx4a65c_init_da8c8 8 = .ok (.putfield 9, 3) := by decide +kernel
theorem dJx4a65c_init_da8c8_11 : decode cJx4a65c_init_da8c8 11 = .ok (.return_, 1) := by decide +kernel
theorem dJx4a65c_grow_92f84_0 : decode cJx4a65c_grow_92f84 0 = .ok (.aload_n 0, 1) := by decide +kernel
theorem dJx4a65c_grow_92f84_1 : decode cJx4a65c_grow_92f84 1 = .ok (.getfield 9, 3) := by decide +kernel
theorem dJx4a65c_grow_92f84_4 : decode cJx4a65c_grow_92f84 4 = .ok (.arraylength, 1) := by decide +kernel
theorem dJx4a65c_grow_92f84_5 : decode cJx4a65c_grow_92f84 5 = .ok (.istore_n 2, 1) := by decide +kernel
theorem dJx4a65c_grow_92f84_6 : decode cJx4a65c_grow_92f84 6 = .ok (.iload_n 2, 1) := by decide +kernel
theorem dJx4a65c_grow_92f84_7 : decode cJx4a65c_grow_92f84 7 = .ok (.ifCond .gt 13, 3) := by decide +kernel
theorem dJx4a65c_grow_92f84_10 : decode cJx4a65c_grow_92f84 10 = .ok (.aload_n 0, 1) := by decide +kernel
theorem dJx4a65c_grow_92f84_11 : decode cJx4a65c_grow_92f84 11 = .ok (.getfield 9, 3) := by decide +kernel
theorem dJx4a65c_grow_92f84_14 : decode cJx4a65c_grow_92f84 14 = .ok (.getstatic 39, 3) := by decide +kernel
theorem dJx4a65c_grow_92f84_17 : decode cJx4a65c_grow_92f84 17 = .ok (.if_acmp .eq 28, 3) := by decide +kernel
theorem dJx4a65c_grow_92f84_20 : decode cJx4a65c_grow_92f84 20 = .ok (.iload_n 2, 1) := by decide +kernel
theorem dJx4a65c_grow_92f84_21 : decode cJx4a65c_grow_92f84 21 = .ok (.iload_n 1, 1) := by decide +kernel
theorem dJx4a65c_grow_92f84_22 : decode cJx4a65c_grow_92f84 22 = .ok (.iload_n 2, 1) := by decide +kernel
theorem dJx4a65c_grow_92f84_23 : decode cJx4a65c_grow_92f84 23 = .ok (.isub, 1) := by decide +kernel
theorem dJx4a65c_grow_92f84_24 : decode cJx4a65c_grow_92f84 24 = .ok (.iload_n 2, 1) := by decide +kernel
theorem dJx4a65c_grow_92f84_25 : decode cJx4a65c_grow_92f84 25 = .ok (.iconst 1, 1) := by decide +kernel
theorem dJx4a65c_grow_92f84_26 : decode cJx4a65c_grow_92f84 26 = .ok (.ishr, 1) := by decide +kernel
theorem dJx4a65c_grow_92f84_27 : decode cJx4a65c_grow_92f84 27 = .ok (.invokestatic 73, 3) := by decide +kernel
theorem dJx4a65c_grow_92f84_30 : decode cJx4a65c_grow_92f84 30 = .ok (.istore_n 3, 1) := by decide +kernel
theorem dJx4a65c_grow_92f84_31 : decode cJx4a65c_grow_92f84 31 = .ok (.aload_n 0, 1) := by decide +kernel
theorem dJx4a65c_grow_92f84_32 : decode cJx4a65c_grow_92f84 32 = .ok (.aload_n 0, 1) := by decide +kernel
theorem dJx4a65c_grow_92f84_33 : decode cJx4a65c_grow_92f84 33 = .ok (.getfield 9, 3) := by decide +kernel
theorem dJx4a65c_grow_92f84_36 : decode cJx4a65c_grow_92f84 36 = .ok (.iload_n 3, 1) := by decide +kernel
theorem dJx4a65c_grow_92f84_37 : decode cJx4a65c_grow_92f84 37 = .ok (.invokestatic 66, 3) := by decide +kernel
theorem dJx4a65c_grow_92f84_40 : decode cJx4a65c_grow_92f84 40 = .ok (.dup_x1, 1) := by decide +kernel
theorem dJx4a65c_grow_92f84_41 : decode cJx4a65c_grow_92f84 41 = .ok (.putfield 9, 3) := by decide +kernel
theorem dJx4a65c_grow_92f84_44 : decode cJx4a65c_grow_92f84 44 = .ok (.areturn, 1) := by decide +kernel
theorem dJx4a65c_grow_92f84_45 : decode cJx4a65c_grow_92f84 45 = .ok (.aload_n 0, 1) := by decide +kernel
theorem dJx4a65c_grow_92f84_46 : decode cJx4a65c_grow_92f84 46 = .ok (.bipush 10, 2) := by decide +kernel
theorem dJx4a65c_grow_92f84_48 : decode cJx4a65c_grow_92f84 48 = .ok (.iload_n 1, 1) := by decide +kernel
theorem dJx4a65c_grow_92f84_49 : decode cJx4a65c_grow_92f84 49 = .ok (.invokestatic 79, 3) := by decide +kernel
theorem dJx4a65c_grow_92f84_52 : decode cJx4a65c_grow_92f84 52 = .ok (.anewarray 7, 3) := by decide +kernel
theorem dJx4a65c_grow_92f84_55 : decode cJx4a65c_grow_92f84 55 = .ok (.dup_x1, 1) := by decide +kernel
theorem dJx4a65c_grow_92f84_56 : decode cJx4a65c_grow_92f84 56 = .ok (.putfield 9, 3) := by decide +kernel
theorem dJx4a65c_grow_92f84_59 : decode cJx4a65c_grow_92f84 59 = .ok (.areturn, 1) := by decide +kernel
theorem dJx4a65c_grow_d5877_0 : decode cJx4a65c_grow_d5877 0 = .ok (.aload_n 0, 1) := by decide +kernel
theorem dJx4a65c_grow_d5877_1 : decode cJx4a65c_grow_d5877 1 = .ok (.aload_n 0, 1) := by decide +kernel
theorem dJx4a65c_grow_d5877_2 : decode cJx4a65c_grow_d5877 2 = .ok (.getfield 48, 3) := by decide +kernel
theorem dJx4a65c_grow_d5877_5 : decode cJx4a65c_grow_d5877 5 = .ok (.iconst 1, 1) := by decide +kernel
theorem dJx4a65c_grow_d5877_6 : decode cJx4a65c_grow_d5877 6 = .ok (.iadd, 1) := by decide +kernel
theorem dJx4a65c_grow_d5877_7 : decode cJx4a65c_grow_d5877 7 = .ok (.invokevirtual 69, 3) := by decide +kernel
theorem dJx4a65c_grow_d5877_10 : decode cJx4a65c_grow_d5877 10 = .ok (.areturn, 1) := by decide +kernel
theorem dJx4a65c_size_8abf5_0 : decode cJx4a65c_size_8abf5 0 = .ok (.aload_n 0, 1) := by decide +kernel
theorem dJx4a65c_size_8abf5_1 : decode cJx4a65c_size_8abf5 1 = .ok (.getfield 48, 3) := by decide +kernel
theorem dJx4a65c_size_8abf5_4 : decode cJx4a65c_size_8abf5 4 = .ok (.ireturn, 1) := by decide +kernel
theorem dJx4a65c_elementData_915e3_0 : decode cJx4a65c_elementData_915e3 0 = .ok (.aload_n 0, 1) := by decide +kernel
theorem dJx4a65c_elementData_915e3_1 : decode cJx4a65c_elementData_915e3 1 = .ok (.getfield 9, 3) := by decide +kernel
theorem dJx4a65c_elementData_915e3_4 : decode cJx4a65c_elementData_915e3 4 = .ok (.iload_n 1, 1) := by decide +kernel
theorem dJx4a65c_elementData_915e3_5 : decode cJx4a65c_elementData_915e3 5 = .ok (.aaload, 1) := by decide +kernel
theorem dJx4a65c_elementData_915e3_6 : decode cJx4a65c_elementData_915e3 6 = .ok (.areturn, 1) := by decide +kernel
theorem dJx4a65c_get_915e3_0 : decode cJx4a65c_get_915e3 0 = .ok (.iload_n 1, 1) := by decide +kernel
theorem dJx4a65c_get_915e3_1 : decode cJx4a65c_get_915e3 1 = .ok (.aload_n 0, 1) := by decide +kernel
theorem dJx4a65c_get_915e3_2 : decode cJx4a65c_get_915e3 2 = .ok (.getfield 48, 3) := by decide +kernel
theorem dJx4a65c_get_915e3_5 : decode cJx4a65c_get_915e3 5 = .ok (.invokestatic 118, 3) := by decide +kernel
theorem dJx4a65c_get_915e3_8 : decode cJx4a65c_get_915e3 8 = .ok (.pop, 1) := by decide +kernel
theorem dJx4a65c_get_915e3_9 : decode cJx4a65c_get_915e3 9 = .ok (.aload_n 0, 1) := by decide +kernel
theorem dJx4a65c_get_915e3_10 : decode cJx4a65c_get_915e3 10 = .ok (.iload_n 1, 1) := by decide +kernel
theorem dJx4a65c_get_915e3_11 : decode cJx4a65c_get_915e3 11 = .ok (.invokevirtual 123, 3) := by decide +kernel
theorem dJx4a65c_get_915e3_14 : decode cJx4a65c_get_915e3 14 = .ok (.areturn, 1) := by decide +kernel
theorem dJx4a65c_add_72be8_0 : decode cJx4a65c_add_72be8 0 = .ok (.iload_n 3, 1) := by decide +kernel
theorem dJx4a65c_add_72be8_1 : decode cJx4a65c_add_72be8 1 = .ok (.aload_n 2, 1) := by decide +kernel
theorem dJx4a65c_add_72be8_2 : decode cJx4a65c_add_72be8 2 = .ok (.arraylength, 1) := by decide +kernel
theorem dJx4a65c_add_72be8_3 : decode cJx4a65c_add_72be8 3 = .ok (.if_icmp .ne 8, 3) := by decide +kernel
theorem dJx4a65c_add_72be8_6 : decode cJx4a65c_add_72be8 6 = .ok (.aload_n 0, 1) := by decide +kernel
theorem dJx4a65c_add_72be8_7 : decode cJx4a65c_add_72be8 7 = .ok (.invokevirtual 129, 3) := by decide +kernel
theorem dJx4a65c_add_72be8_10 : decode cJx4a65c_add_72be8 10 = .ok (.astore_n 2, 1) := by decide +kernel
theorem dJx4a65c_add_72be8_11 : decode cJx4a65c_add_72be8 11 = .ok (.aload_n 2, 1) := by decide +kernel
theorem dJx4a65c_add_72be8_12 : decode cJx4a65c_add_72be8 12 = .ok (.iload_n 3, 1) := by decide +kernel
theorem dJx4a65c_add_72be8_13 : decode cJx4a65c_add_72be8 13 = .ok (.aload_n 1, 1) := by decide +kernel
theorem dJx4a65c_add_72be8_14 : decode cJx4a65c_add_72be8 14 = .ok (.aastore, 1) := by decide +kernel
theorem dJx4a65c_add_72be8_15 : decode cJx4a65c_add_72be8 15 = .ok (.aload_n 0, 1) := by decide +kernel
theorem dJx4a65c_add_72be8_16 : decode cJx4a65c_add_72be8 16 = .ok (.iload_n 3, 1) := by decide +kernel
theorem dJx4a65c_add_72be8_17 : decode cJx4a65c_add_72be8 17 = .ok (.iconst 1, 1) := by decide +kernel
theorem dJx4a65c_add_72be8_18 : decode cJx4a65c_add_72be8 18 = .ok (.iadd, 1) := by decide +kernel
theorem dJx4a65c_add_72be8_19 : decode cJx4a65c_add_72be8 19 = .ok (.putfield 48, 3) := by decide +kernel
theorem dJx4a65c_add_72be8_22 : decode cJx4a65c_add_72be8 22 = .ok (.return_, 1) := by decide +kernel
theorem dJx4a65c_add_9ea2d_0 : decode cJx4a65c_add_9ea2d 0 = .ok (.aload_n 0, 1) := by decide +kernel
theorem dJx4a65c_add_9ea2d_1 : decode cJx4a65c_add_9ea2d 1 = .ok (.dup, 1) := by decide +kernel
theorem dJx4a65c_add_9ea2d_2 : decode cJx4a65c_add_9ea2d 2 = .ok (.getfield 63, 3) := by decide +kernel
theorem dJx4a65c_add_9ea2d_5 : decode cJx4a65c_add_9ea2d 5 = .ok (.iconst 1, 1) := by decide +kernel
theorem dJx4a65c_add_9ea2d_6 : decode cJx4a65c_add_9ea2d 6 = .ok (.iadd, 1) := by decide +kernel
theorem dJx4a65c_add_9ea2d_7 : decode cJx4a65c_add_9ea2d 7 = .ok (.putfield 63, 3) := by decide +kernel
theorem dJx4a65c_add_9ea2d_10 : decode cJx4a65c_add_9ea2d 10 = .ok (.aload_n 0, 1) := by decide +kernel
theorem dJx4a65c_add_9ea2d_11 : decode cJx4a65c_add_9ea2d 11 = .ok (.aload_n 1, 1) := by decide +kernel
theorem dJx4a65c_add_9ea2d_12 : decode cJx4a65c_add_9ea2d 12 = .ok (.aload_n 0, 1) := by decide +kernel
theorem dJx4a65c_add_9ea2d_13 : decode cJx4a65c_add_9ea2d 13 = .ok (.getfield 9, 3) := by decide +kernel
theorem dJx4a65c_add_9ea2d_16 : decode cJx4a65c_add_9ea2d 16 = .ok (.aload_n 0, 1) := by decide +kernel
theorem dJx4a65c_add_9ea2d_17 : decode cJx4a65c_add_9ea2d 17 = .ok (.getfield 48, 3) := by decide +kernel
theorem dJx4a65c_add_9ea2d_20 : decode cJx4a65c_add_9ea2d 20 = .ok (.invokevirtual 131, 3) := by decide +kernel
theorem dJx4a65c_add_9ea2d_23 : decode cJx4a65c_add_9ea2d 23 = .ok (.iconst 1, 1) := by decide +kernel
theorem dJx4a65c_add_9ea2d_24 : decode cJx4a65c_add_9ea2d 24 = .ok (.ireturn, 1) := by decide +kernel
theorem dJ7_copyOf_1904c_0 : decode cJ7_copyOf_1904c 0 = .ok (.aload_n 0, 1) := by decide +kernel
theorem dJ7_copyOf_1904c_1 : decode cJ7_copyOf_1904c 1 = .ok (.iload_n 1, 1) := by decide +kernel
theorem dJ7_copyOf_1904c_2 : decode cJ7_copyOf_1904c 2 = .ok (.aload_n 0, 1) := by decide +kernel
theorem dJ7_copyOf_1904c_3 : decode cJ7_copyOf_1904c 3 = .ok (.invokevirtual 86, 3) := by decide +kernel
theorem dJ7_copyOf_1904c_6 : decode cJ7_copyOf_1904c 6 = .ok (.invokestatic 300, 3) := by decide +kernel
theorem dJ7_copyOf_1904c_9 : decode cJ7_copyOf_1904c 9 = .ok (.areturn, 1) := by decide +kernel
theorem dJ7_copyOf_6403c_0 : decode cJ7_copyOf_6403c 0 = .ok (.aload_n 2, 1) := by decide +kernel
theorem dJ7_copyOf_6403c_1 : decode cJ7_copyOf_6403c 1 = .ok (.ldc 110, 2) := by decide +kernel
theorem dJ7_copyOf_6403c_3 : decode cJ7_copyOf_6403c 3 = .ok (.if_acmp .ne 10, 3) := by decide +kernel
theorem dJ7_copyOf_6403c_6 : decode cJ7_copyOf_6403c 6 = .ok (.iload_n 1, 1) := by decide +kernel
theorem dJ7_copyOf_6403c_7 : decode cJ7_copyOf_6403c 7 = .ok (.anewarray 2, 3) := by decide +kernel
theorem dJ7_copyOf_6403c_10 : decode cJ7_copyOf_6403c 10 = .ok (.goto 14, 3) := by decide +kernel
theorem dJ7_copyOf_6403c_13 : decode cJ7_copyOf_6403c 13 = .ok (.aload_n 2, 1) := by decide +kernel
theorem dJ7_copyOf_6403c_14 : decode cJ7_copyOf_6403c 14 = .ok (.invokevirtual 90, 3) := by decide +kernel
theorem dJ7_copyOf_6403c_17 : decode cJ7_copyOf_6403c 17 = .ok (.iload_n 1, 1) := by decide +kernel
theorem dJ7_copyOf_6403c_18 : decode cJ7_copyOf_6403c 18 = .ok (.invokestatic 95, 3) := by decide +kernel
theorem dJ7_copyOf_6403c_21 : decode cJ7_copyOf_6403c 21 = .ok (.checkcast 110, 3) := by decide +kernel
theorem dJ7_copyOf_6403c_24 : decode cJ7_copyOf_6403c 24 = .ok (.astore_n 3, 1) := by decide +kernel
theorem dJ7_copyOf_6403c_25 : decode cJ7_copyOf_6403c 25 = .ok (.aload_n 0, 1) := by decide +kernel
theorem dJ7_copyOf_6403c_26 : decode cJ7_copyOf_6403c 26 = .ok (.iconst 0, 1) := by decide +kernel
theorem dJ7_copyOf_6403c_27 : decode cJ7_copyOf_6403c 27 = .ok (.aload_n 3, 1) := by decide +kernel
theorem dJ7_copyOf_6403c_28 : decode cJ7_copyOf_6403c 28 = .ok (.iconst 0, 1) := by decide +kernel
theorem dJ7_copyOf_6403c_29 : decode cJ7_copyOf_6403c 29 = .ok (.aload_n 0, 1) := by decide +kernel
theorem dJ7_copyOf_6403c_30 : decode cJ7_copyOf_6403c 30 = .ok (.arraylength, 1) := by decide +kernel
theorem dJ7_copyOf_6403c_31 : decode cJ7_copyOf_6403c 31 = .ok (.iload_n 1, 1) := by decide +kernel
theorem dJ7_copyOf_6403c_32 : decode cJ7_copyOf_6403c 32 = .ok (.invokestatic 304, 3) := by decide +kernel
theorem dJ7_copyOf_6403c_35 : decode cJ7_copyOf_6403c 35 = .ok (.invokestatic 150, 3) := by decide +kernel
theorem dJ7_copyOf_6403c_38 : decode cJ7_copyOf_6403c 38 = .ok (.aload_n 3, 1) := by decide +kernel
theorem dJ7_copyOf_6403c_39 : decode cJ7_copyOf_6403c 39 = .ok (.areturn, 1) := by decide +kernel
theorem dJ15_checkIndex_7cf53_0 : decode cJ15_checkIndex_7cf53 0 = .ok (.iload_n 0, 1) := by decide +kernel
theorem dJ15_checkIndex_7cf53_1 : decode cJ15_checkIndex_7cf53 1 = .ok (.iload_n 1, 1) := by decide +kernel
theorem dJ15_checkIndex_7cf53_2 : decode cJ15_checkIndex_7cf53 2 = .ok (.aconst_null, 1) := by decide +kernel
theorem dJ15_checkIndex_7cf53_3 : decode cJ15_checkIndex_7cf53 3 = .ok (.invokestatic 105, 3) := by decide +kernel
theorem dJ15_checkIndex_7cf53_6 : decode cJ15_checkIndex_7cf53 6 = .ok (.ireturn, 1) := by decide +kernel
theorem dJ8_newLength_cabcc_0 : decode cJ8_newLength_cabcc 0 = .ok (.iload_n 0, 1) := by decide +kernel
theorem dJ8_newLength_cabcc_1 : decode cJ8_newLength_cabcc 1 = .ok (.iload_n 1, 1) := by decide +kernel
theorem dJ8_newLength_cabcc_2 : decode cJ8_newLength_cabcc 2 = .ok (.iload_n 2, 1) := by decide +kernel
theorem dJ8_newLength_cabcc_3 : decode cJ8_newLength_cabcc 3 = .ok (.invokestatic 194, 3) := by decide +kernel
theorem dJ8_newLength_cabcc_6 : decode cJ8_newLength_cabcc 6 = .ok (.iadd, 1) := by decide +kernel
theorem dJ8_newLength_cabcc_7 : decode cJ8_newLength_cabcc 7 = .ok (.istore_n 3, 1) := by decide +kernel
theorem dJ8_newLength_cabcc_8 : decode cJ8_newLength_cabcc 8 = .ok (.iconst 0, 1) := by decide +kernel
theorem dJ8_newLength_cabcc_9 : decode cJ8_newLength_cabcc 9 = .ok (.iload_n 3, 1) := by decide +kernel
theorem dJ8_newLength_cabcc_10 : decode cJ8_newLength_cabcc 10 = .ok (.if_icmp .ge 11, 3) := by decide +kernel
theorem dJ8_newLength_cabcc_13 : decode cJ8_newLength_cabcc 13 = .ok (.iload_n 3, 1) := by decide +kernel
theorem dJ8_newLength_cabcc_14 : decode cJ8_newLength_cabcc 14 = .ok (.ldc 200, 2) := by decide +kernel
theorem dJ8_newLength_cabcc_16 : decode cJ8_newLength_cabcc 16 = .ok (.if_icmp .gt 5, 3) := by decide +kernel
theorem dJ8_newLength_cabcc_19 : decode cJ8_newLength_cabcc 19 = .ok (.iload_n 3, 1) := by decide +kernel
theorem dJ8_newLength_cabcc_20 : decode cJ8_newLength_cabcc 20 = .ok (.ireturn, 1) := by decide +kernel
theorem dJ8_newLength_cabcc_21 : decode cJ8_newLength_cabcc 21 = .ok (.iload_n 0, 1) := by decide +kernel
theorem dJ8_newLength_cabcc_22 : decode cJ8_newLength_cabcc 22 = .ok (.iload_n 1, 1) := by decide +kernel
theorem dJ8_newLength_cabcc_23 : decode cJ8_newLength_cabcc 23 = .ok (.invokestatic 201, 3) := by decide +kernel
theorem dJ8_newLength_cabcc_26 : decode cJ8_newLength_cabcc 26 = .ok (.ireturn, 1) := by decide +kernel
theorem dJ8_hugeLength_7cf53_0 : decode cJ8_hugeLength_7cf53 0 = .ok (.iload_n 0, 1) := by decide +kernel
theorem dJ8_hugeLength_7cf53_1 : decode cJ8_hugeLength_7cf53 1 = .ok (.iload_n 1, 1) := by decide +kernel
theorem dJ8_hugeLength_7cf53_2 : decode cJ8_hugeLength_7cf53 2 = .ok (.iadd, 1) := by decide +kernel
theorem dJ8_hugeLength_7cf53_3 : decode cJ8_hugeLength_7cf53 3 = .ok (.istore_n 2, 1) := by decide +kernel
theorem dJ8_hugeLength_7cf53_4 : decode cJ8_hugeLength_7cf53 4 = .ok (.iload_n 2, 1) := by decide +kernel
theorem dJ8_hugeLength_7cf53_5 : decode cJ8_hugeLength_7cf53 5 = .ok (.ifCond .ge 44, 3) := by decide +kernel
theorem dJ8_hugeLength_7cf53_8 : decode cJ8_hugeLength_7cf53 8 = .ok (.new 204, 3) := by decide +kernel
theorem dJ8_hugeLength_7cf53_11 : decode cJ8_hugeLength_7cf53 11 = .ok (.dup, 1) := by decide +kernel
theorem dJ8_hugeLength_7cf53_12 : decode cJ8_hugeLength_7cf53 12 = .ok (.new 89, 3) := by decide +kernel
theorem dJ8_hugeLength_7cf53_15 : decode cJ8_hugeLength_7cf53 15 = .ok (.dup, 1) := by decide +kernel
theorem dJ8_hugeLength_7cf53_16 : decode cJ8_hugeLength_7cf53 16 = .ok (.invokespecial 91, 3) := by decide +kernel
theorem dJ8_hugeLength_7cf53_19 : decode cJ8_hugeLength_7cf53 19 = .ok (.ldc 206, 2) := by decide +kernel
theorem dJ8_hugeLength_7cf53_21 : decode cJ8_hugeLength_7cf53 21 = .ok (.invokevirtual 94, 3) := by decide +kernel
theorem dJ8_hugeLength_7cf53_24 : decode cJ8_hugeLength_7cf53 24 = .ok (.iload_n 0, 1) := by decide +kernel
theorem dJ8_hugeLength_7cf53_25 : decode cJ8_hugeLength_7cf53 25 = .ok (.invokevirtual 98, 3) := by decide +kernel
theorem dJ8_hugeLength_7cf53_28 : decode cJ8_hugeLength_7cf53 28 = .ok (.ldc 208, 2) := by decide +kernel
theorem dJ8_hugeLength_7cf53_30 : decode cJ8_hugeLength_7cf53 30 = .ok (.invokevirtual 94, 3) := by decide +kernel
theorem dJ8_hugeLength_7cf53_33 : decode cJ8_hugeLength_7cf53 33 = .ok (.iload_n 1, 1) := by decide +kernel
theorem dJ8_hugeLength_7cf53_34 : decode cJ8_hugeLength_7cf53 34 = .ok (.invokevirtual 98, 3) := by decide +kernel
theorem dJ8_hugeLength_7cf53_37 : decode cJ8_hugeLength_7cf53 37 = .ok (.ldc 210, 2) := by decide +kernel
theorem dJ8_hugeLength_7cf53_39 : decode cJ8_hugeLength_7cf53 39 = .ok (.invokevirtual 94, 3) := by decide +kernel
theorem dJ8_hugeLength_7cf53_42 : decode cJ8_hugeLength_7cf53 42 = .ok (.invokevirtual 101, 3) := by decide +kernel
theorem dJ8_hugeLength_7cf53_45 : decode cJ8_hugeLength_7cf53 45 = .ok (.invokespecial 212, 3) := by decide +kernel
theorem dJ8_hugeLength_7cf53_48 : decode cJ8_hugeLength_7cf53 48 = .ok (.athrow, 1) := by decide +kernel
theorem dJ8_hugeLength_7cf53_49 : decode cJ8_hugeLength_7cf53 49 = .ok (.iload_n 2, 1) := by decide +kernel
theorem dJ8_hugeLength_7cf53_50 : decode cJ8_hugeLength_7cf53 50 = .ok (.ldc 200, 2) := by decide +kernel
theorem dJ8_hugeLength_7cf53_52 : decode cJ8_hugeLength_7cf53 52 = .ok (.if_icmp .gt 6, 3) := by decide +kernel
theorem dJ8_hugeLength_7cf53_55 : decode cJ8_hugeLength_7cf53 55 = .ok (.ldc 200, 2) := by decide +kernel
theorem dJ8_hugeLength_7cf53_57 : decode cJ8_hugeLength_7cf53 57 = .ok (.ireturn, 1) := by decide +kernel
theorem dJ8_hugeLength_7cf53_58 : decode cJ8_hugeLength_7cf53 58 = .ok (.iload_n 2, 1) := by decide +kernel
theorem dJ8_hugeLength_7cf53_59 : decode cJ8_hugeLength_7cf53 59 = .ok (.ireturn, 1) := by decide +kernel
theorem dJ3_checkIndex_8e157_0 : decode cJ3_checkIndex_8e157 0 = .ok (.iload_n 0, 1) := by decide +kernel
theorem dJ3_checkIndex_8e157_1 : decode cJ3_checkIndex_8e157 1 = .ok (.ifCond .lt 8, 3) := by decide +kernel
theorem dJ3_checkIndex_8e157_4 : decode cJ3_checkIndex_8e157 4 = .ok (.iload_n 0, 1) := by decide +kernel
theorem dJ3_checkIndex_8e157_5 : decode cJ3_checkIndex_8e157 5 = .ok (.iload_n 1, 1) := by decide +kernel
theorem dJ3_checkIndex_8e157_6 : decode cJ3_checkIndex_8e157 6 = .ok (.if_icmp .lt 10, 3) := by decide +kernel
theorem dJ3_checkIndex_8e157_9 : decode cJ3_checkIndex_8e157 9 = .ok (.aload_n 2, 1) := by decide +kernel
theorem dJ3_checkIndex_8e157_10 : decode cJ3_checkIndex_8e157 10 = .ok (.iload_n 0, 1) := by decide +kernel
theorem dJ3_checkIndex_8e157_11 : decode cJ3_checkIndex_8e157 11 = .ok (.iload_n 1, 1) := by decide +kernel
theorem dJ3_checkIndex_8e157_12 : decode cJ3_checkIndex_8e157 12 = .ok (.invokestatic 95, 3) := by decide +kernel
theorem dJ3_checkIndex_8e157_15 : decode cJ3_checkIndex_8e157 15 = .ok (.athrow, 1) := by decide +kernel
theorem dJ3_checkIndex_8e157_16 : decode cJ3_checkIndex_8e157 16 = .ok (.iload_n 0, 1) := by decide +kernel
theorem dJ3_checkIndex_8e157_17 : decode cJ3_checkIndex_8e157 17 = .ok (.ireturn, 1) := by decide +kernel
theorem dL_cell_0 : decode cL_cell 0 = .ok (.iload_n 1, 1) := by decide +kernel
theorem dL_cell_1 : decode cL_cell 1 = .ok (.aload_n 0, 1) := by decide +kernel
theorem dL_cell_2 : decode cL_cell 2 = .ok (.arraylength, 1) := by decide +kernel
theorem dL_cell_3 : decode cL_cell 3 = .ok (.if_icmp .ge 9, 3) := by decide +kernel
theorem dL_cell_6 : decode cL_cell 6 = .ok (.aload_n 0, 1) := by decide +kernel
theorem dL_cell_7 : decode cL_cell 7 = .ok (.iload_n 1, 1) := by decide +kernel
theorem dL_cell_8 : decode cL_cell 8 = .ok (.iaload, 1) := by decide +kernel
theorem dL_cell_9 : decode cL_cell 9 = .ok (.goto 10, 3) := by decide +kernel
theorem dL_cell_12 : decode cL_cell 12 = .ok (.ldc 7, 2) := by decide +kernel
theorem dL_cell_14 : decode cL_cell 14 = .ok (.iload_n 1, 1) := by decide +kernel
theorem dL_cell_15 : decode cL_cell 15 = .ok (.bipush 11, 2) := by decide +kernel
theorem dL_cell_17 : decode cL_cell 17 = .ok (.iadd, 1) := by decide +kernel
theorem dL_cell_18 : decode cL_cell 18 = .ok (.imul, 1) := by decide +kernel
theorem dL_cell_19 : decode cL_cell 19 = .ok (.ireturn, 1) := by decide +kernel
theorem dL_low_0 : decode cL_low 0 = .ok (.iload_n 0, 1) := by decide +kernel
theorem dL_low_1 : decode cL_low 1 = .ok (.iconst 1, 1) := by decide +kernel
theorem dL_low_2 : decode cL_low 2 = .ok (.iushr, 1) := by decide +kernel
theorem dL_low_3 : decode cL_low 3 = .ok (.iload_n 1, 1) := by decide +kernel
theorem dL_low_4 : decode cL_low 4 = .ok (.irem, 1) := by decide +kernel
theorem dL_low_5 : decode cL_low 5 = .ok (.ireturn, 1) := by decide +kernel
theorem dL_steps_0 : decode cL_steps 0 = .ok (.aload_n 0, 1) := by decide +kernel
theorem dL_steps_1 : decode cL_steps 1 = .ok (.iload_n 1, 1) := by decide +kernel
theorem dL_steps_2 : decode cL_steps 2 = .ok (.iload_n 2, 1) := by decide +kernel
theorem dL_steps_3 : decode cL_steps 3 = .ok (.invokevirtual 8, 3) := by decide +kernel
theorem dL_steps_6 : decode cL_steps 6 = .ok (.goto 7, 3) := by decide +kernel
theorem dL_steps_9 : decode cL_steps 9 = .ok (.astore_n 3, 1) := by decide +kernel
theorem dL_steps_10 : decode cL_steps 10 = .ok (.ldc 16, 2) := by decide +kernel
theorem dL_steps_12 : decode cL_steps 12 = .ok (.ireturn, 1) := by decide +kernel
theorem dL_steps_13 : decode cL_steps 13 = .ok (.iconst 0, 1) := by decide +kernel
theorem dL_steps_14 : decode cL_steps 14 = .ok (.ireturn, 1) := by decide +kernel
theorem dL_move_0 : decode cL_move 0 = .ok (.aload_n 0, 1) := by decide +kernel
theorem dL_move_1 : decode cL_move 1 = .ok (.iload_n 1, 1) := by decide +kernel
theorem dL_move_2 : decode cL_move 2 = .ok (.invokevirtual 17, 3) := by decide +kernel
theorem dL_move_5 : decode cL_move 5 = .ok (.lstore_n 2, 1) := by decide +kernel
theorem dL_move_6 : decode cL_move 6 = .ok (.goto 9, 3) := by decide +kernel
theorem dL_move_9 : decode cL_move 9 = .ok (.astore 4, 2) := by decide +kernel
theorem dL_move_11 : decode cL_move 11 = .ok (.ldc2_w 21, 3) := by decide +kernel
theorem dL_move_14 : decode cL_move 14 = .ok (.lreturn, 1) := by decide +kernel
theorem dL_move_15 : decode cL_move 15 = .ok (.lload_n 2, 1) := by decide +kernel
theorem dL_move_16 : decode cL_move 16 = .ok (.lreturn, 1) := by decide +kernel
theorem dL_dividend_0 : decode cL_dividend 0 = .ok (.aload_n 0, 1) := by decide +kernel
theorem dL_dividend_1 : decode cL_dividend 1 = .ok (.iload_n 1, 1) := by decide +kernel
theorem dL_dividend_2 : decode cL_dividend 2 = .ok (.iload_n 2, 1) := by decide +kernel
theorem dL_dividend_3 : decode cL_dividend 3 = .ok (.invokevirtual 23, 3) := by decide +kernel
theorem dL_dividend_6 : decode cL_dividend 6 = .ok (.istore_n 3, 1) := by decide +kernel
theorem dL_dividend_7 : decode cL_dividend 7 = .ok (.goto 8, 3) := by decide +kernel
theorem dL_dividend_10 : decode cL_dividend 10 = .ok (.astore 4, 2) := by decide +kernel
theorem dL_dividend_12 : decode cL_dividend 12 = .ok (.ldc 16, 2) := by decide +kernel
theorem dL_dividend_14 : decode cL_dividend 14 = .ok (.ireturn, 1) := by decide +kernel
theorem dL_dividend_15 : decode cL_dividend 15 = .ok (.iload_n 3, 1) := by decide +kernel
theorem dL_dividend_16 : decode cL_dividend 16 = .ok (.ireturn, 1) := by decide +kernel
theorem dL_contract_0 : decode cL_contract 0 = .ok (.aload_n 0, 1) := by decide +kernel
theorem dL_contract_1 : decode cL_contract 1 = .ok (.iload_n 1, 1) := by decide +kernel
theorem dL_contract_2 : decode cL_contract 2 = .ok (.iload_n 2, 1) := by decide +kernel
theorem dL_contract_3 : decode cL_contract 3 = .ok (.iload_n 3, 1) := by decide +kernel
theorem dL_contract_4 : decode cL_contract 4 = .ok (.iload 4, 2) := by decide +kernel
theorem dL_contract_6 : decode cL_contract 6 = .ok (.invokevirtual 27, 3) := by decide +kernel
theorem dL_contract_9 : decode cL_contract 9 = .ok (.istore 5, 2) := by decide +kernel
theorem dL_contract_11 : decode cL_contract 11 = .ok (.goto 13, 3) := by decide +kernel
theorem dL_contract_14 : decode cL_contract 14 = .ok (.astore 6, 2) := by decide +kernel
theorem dL_contract_16 : decode cL_contract 16 = .ok (.ldc 16, 2) := by decide +kernel
theorem dL_contract_18 : decode cL_contract 18 = .ok (.ireturn, 1) := by decide +kernel
theorem dL_contract_19 : decode cL_contract 19 = .ok (.astore 6, 2) := by decide +kernel
theorem dL_contract_21 : decode cL_contract 21 = .ok (.ldc 33, 2) := by decide +kernel
theorem dL_contract_23 : decode cL_contract 23 = .ok (.ireturn, 1) := by decide +kernel
theorem dL_contract_24 : decode cL_contract 24 = .ok (.iload 5, 2) := by decide +kernel
theorem dL_contract_26 : decode cL_contract 26 = .ok (.ireturn, 1) := by decide +kernel
theorem dL_quote_0 : decode cL_quote 0 = .ok (.aload_n 0, 1) := by decide +kernel
theorem dL_quote_1 : decode cL_quote 1 = .ok (.iload_n 1, 1) := by decide +kernel
theorem dL_quote_2 : decode cL_quote 2 = .ok (.iload_n 2, 1) := by decide +kernel
theorem dL_quote_3 : decode cL_quote 3 = .ok (.iload_n 3, 1) := by decide +kernel
theorem dL_quote_4 : decode cL_quote 4 = .ok (.iload 4, 2) := by decide +kernel
theorem dL_quote_6 : decode cL_quote 6 = .ok (.invokevirtual 34, 3) := by decide +kernel
theorem dL_quote_9 : decode cL_quote 9 = .ok (.istore 5, 2) := by decide +kernel
theorem dL_quote_11 : decode cL_quote 11 = .ok (.goto 18, 3) := by decide +kernel
theorem dL_quote_14 : decode cL_quote 14 = .ok (.astore 6, 2) := by decide +kernel
theorem dL_quote_16 : decode cL_quote 16 = .ok (.ldc 40, 2) := by decide +kernel
theorem dL_quote_18 : decode cL_quote 18 = .ok (.ireturn, 1) := by decide +kernel
theorem dL_quote_19 : decode cL_quote 19 = .ok (.astore 6, 2) := by decide +kernel
theorem dL_quote_21 : decode cL_quote 21 = .ok (.ldc 16, 2) := by decide +kernel
theorem dL_quote_23 : decode cL_quote 23 = .ok (.ireturn, 1) := by decide +kernel
theorem dL_quote_24 : decode cL_quote 24 = .ok (.astore 6, 2) := by decide +kernel
theorem dL_quote_26 : decode cL_quote 26 = .ok (.ldc 33, 2) := by decide +kernel
theorem dL_quote_28 : decode cL_quote 28 = .ok (.ireturn, 1) := by decide +kernel
theorem dL_quote_29 : decode cL_quote 29 = .ok (.iload 5, 2) := by decide +kernel
theorem dL_quote_31 : decode cL_quote 31 = .ok (.ireturn, 1) := by decide +kernel
theorem dL_limit_0 : decode cL_limit 0 = .ok (.aload_n 0, 1) := by decide +kernel
theorem dL_limit_1 : decode cL_limit 1 = .ok (.iload_n 1, 1) := by decide +kernel
theorem dL_limit_2 : decode cL_limit 2 = .ok (.invokevirtual 41, 3) := by decide +kernel
theorem dL_limit_5 : decode cL_limit 5 = .ok (.istore_n 2, 1) := by decide +kernel
theorem dL_limit_6 : decode cL_limit 6 = .ok (.goto 7, 3) := by decide +kernel
theorem dL_limit_9 : decode cL_limit 9 = .ok (.astore_n 3, 1) := by decide +kernel
theorem dL_limit_10 : decode cL_limit 10 = .ok (.ldc 16, 2) := by decide +kernel
theorem dL_limit_12 : decode cL_limit 12 = .ok (.ireturn, 1) := by decide +kernel
theorem dL_limit_13 : decode cL_limit 13 = .ok (.iload_n 2, 1) := by decide +kernel
theorem dL_limit_14 : decode cL_limit 14 = .ok (.ireturn, 1) := by decide +kernel
theorem dL_order_0 : decode cL_order 0 = .ok (.aload_n 0, 1) := by decide +kernel
theorem dL_order_1 : decode cL_order 1 = .ok (.iload_n 1, 1) := by decide +kernel
theorem dL_order_2 : decode cL_order 2 = .ok (.iload_n 2, 1) := by decide +kernel
theorem dL_order_3 : decode cL_order 3 = .ok (.iload_n 3, 1) := by decide +kernel
theorem dL_order_4 : decode cL_order 4 = .ok (.iload 4, 2) := by decide +kernel
theorem dL_order_6 : decode cL_order 6 = .ok (.invokevirtual 45, 3) := by decide +kernel
theorem dL_order_9 : decode cL_order 9 = .ok (.istore 5, 2) := by decide +kernel
theorem dL_order_11 : decode cL_order 11 = .ok (.goto 18, 3) := by decide +kernel
theorem dL_order_14 : decode cL_order 14 = .ok (.astore 6, 2) := by decide +kernel
theorem dL_order_16 : decode cL_order 16 = .ok (.ldc 40, 2) := by decide +kernel
theorem dL_order_18 : decode cL_order 18 = .ok (.ireturn, 1) := by decide +kernel
theorem dL_order_19 : decode cL_order 19 = .ok (.astore 6, 2) := by decide +kernel
theorem dL_order_21 : decode cL_order 21 = .ok (.ldc 16, 2) := by decide +kernel
theorem dL_order_23 : decode cL_order 23 = .ok (.ireturn, 1) := by decide +kernel
theorem dL_order_24 : decode cL_order 24 = .ok (.astore 6, 2) := by decide +kernel
theorem dL_order_26 : decode cL_order 26 = .ok (.ldc 33, 2) := by decide +kernel
theorem dL_order_28 : decode cL_order 28 = .ok (.ireturn, 1) := by decide +kernel
theorem dL_order_29 : decode cL_order 29 = .ok (.iload 5, 2) := by decide +kernel
theorem dL_order_31 : decode cL_order 31 = .ok (.ireturn, 1) := by decide +kernel
theorem dL_hedge_0 : decode cL_hedge 0 = .ok (.aload_n 0, 1) := by decide +kernel
theorem dL_hedge_1 : decode cL_hedge 1 = .ok (.iload_n 1, 1) := by decide +kernel
theorem dL_hedge_2 : decode cL_hedge 2 = .ok (.iload_n 2, 1) := by decide +kernel
theorem dL_hedge_3 : decode cL_hedge 3 = .ok (.invokevirtual 48, 3) := by decide +kernel
theorem dL_hedge_6 : decode cL_hedge 6 = .ok (.istore_n 3, 1) := by decide +kernel
theorem dL_hedge_7 : decode cL_hedge 7 = .ok (.goto 8, 3) := by decide +kernel
theorem dL_hedge_10 : decode cL_hedge 10 = .ok (.astore 4, 2) := by decide +kernel
theorem dL_hedge_12 : decode cL_hedge 12 = .ok (.ldc 16, 2) := by decide +kernel
theorem dL_hedge_14 : decode cL_hedge 14 = .ok (.ireturn, 1) := by decide +kernel
theorem dL_hedge_15 : decode cL_hedge 15 = .ok (.iload_n 3, 1) := by decide +kernel
theorem dL_hedge_16 : decode cL_hedge 16 = .ok (.ireturn, 1) := by decide +kernel
theorem dL_seed_0 : decode cL_seed 0 = .ok (.aload_n 0, 1) := by decide +kernel
theorem dL_seed_1 : decode cL_seed 1 = .ok (.iload_n 1, 1) := by decide +kernel
theorem dL_seed_2 : decode cL_seed 2 = .ok (.invokevirtual 51, 3) := by decide +kernel
theorem dL_seed_5 : decode cL_seed 5 = .ok (.goto 7, 3) := by decide +kernel
theorem dL_seed_8 : decode cL_seed 8 = .ok (.astore_n 2, 1) := by decide +kernel
theorem dL_seed_9 : decode cL_seed 9 = .ok (.ldc 16, 2) := by decide +kernel
theorem dL_seed_11 : decode cL_seed 11 = .ok (.ireturn, 1) := by decide +kernel
theorem dL_seed_12 : decode cL_seed 12 = .ok (.iconst 0, 1) := by decide +kernel
theorem dL_seed_13 : decode cL_seed 13 = .ok (.ireturn, 1) := by decide +kernel
theorem dL_exercise_0 : decode cL_exercise 0 = .ok (.aload_n 0, 1) := by decide +kernel
theorem dL_exercise_1 : decode cL_exercise 1 = .ok (.iload_n 1, 1) := by decide +kernel
theorem dL_exercise_2 : decode cL_exercise 2 = .ok (.iload_n 2, 1) := by decide +kernel
theorem dL_exercise_3 : decode cL_exercise 3 = .ok (.iload_n 3, 1) := by decide +kernel
theorem dL_exercise_4 : decode cL_exercise 4 = .ok (.invokevirtual 55, 3) := by decide +kernel
theorem dL_exercise_7 : decode cL_exercise 7 = .ok (.istore 4, 2) := by decide +kernel
theorem dL_exercise_9 : decode cL_exercise 9 = .ok (.goto 18, 3) := by decide +kernel
theorem dL_exercise_12 : decode cL_exercise 12 = .ok (.astore 5, 2) := by decide +kernel
theorem dL_exercise_14 : decode cL_exercise 14 = .ok (.ldc 40, 2) := by decide +kernel
theorem dL_exercise_16 : decode cL_exercise 16 = .ok (.ireturn, 1) := by decide +kernel
theorem dL_exercise_17 : decode cL_exercise 17 = .ok (.astore 5, 2) := by decide +kernel
theorem dL_exercise_19 : decode cL_exercise 19 = .ok (.ldc 16, 2) := by decide +kernel
theorem dL_exercise_21 : decode cL_exercise 21 = .ok (.ireturn, 1) := by decide +kernel
theorem dL_exercise_22 : decode cL_exercise 22 = .ok (.astore 5, 2) := by decide +kernel
theorem dL_exercise_24 : decode cL_exercise 24 = .ok (.ldc 33, 2) := by decide +kernel
theorem dL_exercise_26 : decode cL_exercise 26 = .ok (.ireturn, 1) := by decide +kernel
theorem dL_exercise_27 : decode cL_exercise 27 = .ok (.iload 4, 2) := by decide +kernel
theorem dL_exercise_29 : decode cL_exercise 29 = .ok (.ireturn, 1) := by decide +kernel
theorem dL_contrary_0 : decode cL_contrary 0 = .ok (.aload_n 0, 1) := by decide +kernel
theorem dL_contrary_1 : decode cL_contrary 1 = .ok (.iload_n 1, 1) := by decide +kernel
theorem dL_contrary_2 : decode cL_contrary 2 = .ok (.iload_n 2, 1) := by decide +kernel
theorem dL_contrary_3 : decode cL_contrary 3 = .ok (.iload_n 3, 1) := by decide +kernel
theorem dL_contrary_4 : decode cL_contrary 4 = .ok (.invokevirtual 59, 3) := by decide +kernel
theorem dL_contrary_7 : decode cL_contrary 7 = .ok (.istore 4, 2) := by decide +kernel
theorem dL_contrary_9 : decode cL_contrary 9 = .ok (.goto 13, 3) := by decide +kernel
theorem dL_contrary_12 : decode cL_contrary 12 = .ok (.astore 5, 2) := by decide +kernel
theorem dL_contrary_14 : decode cL_contrary 14 = .ok (.ldc 40, 2) := by decide +kernel
theorem dL_contrary_16 : decode cL_contrary 16 = .ok (.ireturn, 1) := by decide +kernel
theorem dL_contrary_17 : decode cL_contrary 17 = .ok (.astore 5, 2) := by decide +kernel
theorem dL_contrary_19 : decode cL_contrary 19 = .ok (.ldc 33, 2) := by decide +kernel
theorem dL_contrary_21 : decode cL_contrary 21 = .ok (.ireturn, 1) := by decide +kernel
theorem dL_contrary_22 : decode cL_contrary 22 = .ok (.iload 4, 2) := by decide +kernel
theorem dL_contrary_24 : decode cL_contrary 24 = .ok (.ifCond .eq 7, 3) := by decide +kernel
theorem dL_contrary_27 : decode cL_contrary 27 = .ok (.iconst 1, 1) := by decide +kernel
theorem dL_contrary_28 : decode cL_contrary 28 = .ok (.goto 4, 3) := by decide +kernel
theorem dL_contrary_31 : decode cL_contrary 31 = .ok (.iconst 0, 1) := by decide +kernel
theorem dL_contrary_32 : decode cL_contrary 32 = .ok (.ireturn, 1) := by decide +kernel
theorem dL_close_0 : decode cL_close 0 = .ok (.aload_n 0, 1) := by decide +kernel
theorem dL_close_1 : decode cL_close 1 = .ok (.invokevirtual 63, 3) := by decide +kernel
theorem dL_close_4 : decode cL_close 4 = .ok (.istore_n 1, 1) := by decide +kernel
theorem dL_close_5 : decode cL_close 5 = .ok (.goto 7, 3) := by decide +kernel
theorem dL_close_8 : decode cL_close 8 = .ok (.astore_n 2, 1) := by decide +kernel
theorem dL_close_9 : decode cL_close 9 = .ok (.ldc 33, 2) := by decide +kernel
theorem dL_close_11 : decode cL_close 11 = .ok (.ireturn, 1) := by decide +kernel
theorem dL_close_12 : decode cL_close 12 = .ok (.iload_n 1, 1) := by decide +kernel
theorem dL_close_13 : decode cL_close 13 = .ok (.ireturn, 1) := by decide +kernel
theorem dL_value_0 : decode cL_value 0 = .ok (.aload_n 0, 1) := by decide +kernel
theorem dL_value_1 : decode cL_value 1 = .ok (.iload_n 1, 1) := by decide +kernel
theorem dL_value_2 : decode cL_value 2 = .ok (.iload_n 2, 1) := by decide +kernel
theorem dL_value_3 : decode cL_value 3 = .ok (.invokevirtual 67, 3) := by decide +kernel
theorem dL_value_6 : decode cL_value 6 = .ok (.lstore_n 3, 1) := by decide +kernel
theorem dL_value_7 : decode cL_value 7 = .ok (.goto 9, 3) := by decide +kernel
theorem dL_value_10 : decode cL_value 10 = .ok (.astore 5, 2) := by decide +kernel
theorem dL_value_12 : decode cL_value 12 = .ok (.ldc2_w 71, 3) := by decide +kernel
theorem dL_value_15 : decode cL_value 15 = .ok (.lreturn, 1) := by decide +kernel
theorem dL_value_16 : decode cL_value 16 = .ok (.lload_n 3, 1) := by decide +kernel
theorem dL_value_17 : decode cL_value 17 = .ok (.lreturn, 1) := by decide +kernel
theorem dL_mark_0 : decode cL_mark 0 = .ok (.aload_n 0, 1) := by decide +kernel
theorem dL_mark_1 : decode cL_mark 1 = .ok (.iload_n 1, 1) := by decide +kernel
theorem dL_mark_2 : decode cL_mark 2 = .ok (.invokevirtual 73, 3) := by decide +kernel
theorem dL_mark_5 : decode cL_mark 5 = .ok (.istore_n 2, 1) := by decide +kernel
theorem dL_mark_6 : decode cL_mark 6 = .ok (.goto 7, 3) := by decide +kernel
theorem dL_mark_9 : decode cL_mark 9 = .ok (.astore_n 3, 1) := by decide +kernel
theorem dL_mark_10 : decode cL_mark 10 = .ok (.ldc 40, 2) := by decide +kernel
theorem dL_mark_12 : decode cL_mark 12 = .ok (.ireturn, 1) := by decide +kernel
theorem dL_mark_13 : decode cL_mark 13 = .ok (.iload_n 2, 1) := by decide +kernel
theorem dL_mark_14 : decode cL_mark 14 = .ok (.ireturn, 1) := by decide +kernel
theorem dL_quoted_0 : decode cL_quoted 0 = .ok (.aload_n 0, 1) := by decide +kernel
theorem dL_quoted_1 : decode cL_quoted 1 = .ok (.iload_n 1, 1) := by decide +kernel
theorem dL_quoted_2 : decode cL_quoted 2 = .ok (.iload_n 2, 1) := by decide +kernel
theorem dL_quoted_3 : decode cL_quoted 3 = .ok (.invokevirtual 79, 3) := by decide +kernel
theorem dL_quoted_6 : decode cL_quoted 6 = .ok (.istore_n 3, 1) := by decide +kernel
theorem dL_quoted_7 : decode cL_quoted 7 = .ok (.goto 13, 3) := by decide +kernel
theorem dL_quoted_10 : decode cL_quoted 10 = .ok (.astore 4, 2) := by decide +kernel
theorem dL_quoted_12 : decode cL_quoted 12 = .ok (.ldc 40, 2) := by decide +kernel
theorem dL_quoted_14 : decode cL_quoted 14 = .ok (.ireturn, 1) := by decide +kernel
theorem dL_quoted_15 : decode cL_quoted 15 = .ok (.astore 4, 2) := by decide +kernel
theorem dL_quoted_17 : decode cL_quoted 17 = .ok (.ldc 16, 2) := by decide +kernel
theorem dL_quoted_19 : decode cL_quoted 19 = .ok (.ireturn, 1) := by decide +kernel
theorem dL_quoted_20 : decode cL_quoted 20 = .ok (.iload_n 3, 1) := by decide +kernel
theorem dL_quoted_21 : decode cL_quoted 21 = .ok (.ireturn, 1) := by decide +kernel
theorem dL_lots_0 : decode cL_lots 0 = .ok (.aload_n 0, 1) := by decide +kernel
theorem dL_lots_1 : decode cL_lots 1 = .ok (.iload_n 1, 1) := by decide +kernel
theorem dL_lots_2 : decode cL_lots 2 = .ok (.iload_n 2, 1) := by decide +kernel
theorem dL_lots_3 : decode cL_lots 3 = .ok (.invokevirtual 82, 3) := by decide +kernel
theorem dL_lots_6 : decode cL_lots 6 = .ok (.istore_n 3, 1) := by decide +kernel
theorem dL_lots_7 : decode cL_lots 7 = .ok (.goto 8, 3) := by decide +kernel
theorem dL_lots_10 : decode cL_lots 10 = .ok (.astore 4, 2) := by decide +kernel
theorem dL_lots_12 : decode cL_lots 12 = .ok (.ldc 40, 2) := by decide +kernel
theorem dL_lots_14 : decode cL_lots 14 = .ok (.ireturn, 1) := by decide +kernel
theorem dL_lots_15 : decode cL_lots 15 = .ok (.iload_n 3, 1) := by decide +kernel
theorem dL_lots_16 : decode cL_lots 16 = .ok (.ireturn, 1) := by decide +kernel
theorem dL_cash_0 : decode cL_cash 0 = .ok (.aload_n 0, 1) := by decide +kernel
theorem dL_cash_1 : decode cL_cash 1 = .ok (.iload_n 1, 1) := by decide +kernel
theorem dL_cash_2 : decode cL_cash 2 = .ok (.invokevirtual 85, 3) := by decide +kernel
theorem dL_cash_5 : decode cL_cash 5 = .ok (.lstore_n 2, 1) := by decide +kernel
theorem dL_cash_6 : decode cL_cash 6 = .ok (.goto 9, 3) := by decide +kernel
theorem dL_cash_9 : decode cL_cash 9 = .ok (.astore 4, 2) := by decide +kernel
theorem dL_cash_11 : decode cL_cash 11 = .ok (.ldc2_w 71, 3) := by decide +kernel
theorem dL_cash_14 : decode cL_cash 14 = .ok (.lreturn, 1) := by decide +kernel
theorem dL_cash_15 : decode cL_cash 15 = .ok (.lload_n 2, 1) := by decide +kernel
theorem dL_cash_16 : decode cL_cash 16 = .ok (.lreturn, 1) := by decide +kernel
theorem dL_cause_0 : decode cL_cause 0 = .ok (.aload_n 0, 1) := by decide +kernel
theorem dL_cause_1 : decode cL_cause 1 = .ok (.iload_n 1, 1) := by decide +kernel
theorem dL_cause_2 : decode cL_cause 2 = .ok (.invokevirtual 88, 3) := by decide +kernel
theorem dL_cause_5 : decode cL_cause 5 = .ok (.lstore_n 2, 1) := by decide +kernel
theorem dL_cause_6 : decode cL_cause 6 = .ok (.goto 9, 3) := by decide +kernel
theorem dL_cause_9 : decode cL_cause 9 = .ok (.astore 4, 2) := by decide +kernel
theorem dL_cause_11 : decode cL_cause 11 = .ok (.ldc2_w 71, 3) := by decide +kernel
theorem dL_cause_14 : decode cL_cause 14 = .ok (.lreturn, 1) := by decide +kernel
theorem dL_cause_15 : decode cL_cause 15 = .ok (.lload_n 2, 1) := by decide +kernel
theorem dL_cause_16 : decode cL_cause 16 = .ok (.lreturn, 1) := by decide +kernel
theorem dL_worst_0 : decode cL_worst 0 = .ok (.aload_n 0, 1) := by decide +kernel
theorem dL_worst_1 : decode cL_worst 1 = .ok (.iload_n 1, 1) := by decide +kernel
theorem dL_worst_2 : decode cL_worst 2 = .ok (.invokevirtual 91, 3) := by decide +kernel
theorem dL_worst_5 : decode cL_worst 5 = .ok (.lstore_n 2, 1) := by decide +kernel
theorem dL_worst_6 : decode cL_worst 6 = .ok (.goto 9, 3) := by decide +kernel
theorem dL_worst_9 : decode cL_worst 9 = .ok (.astore 4, 2) := by decide +kernel
theorem dL_worst_11 : decode cL_worst 11 = .ok (.ldc2_w 21, 3) := by decide +kernel
theorem dL_worst_14 : decode cL_worst 14 = .ok (.lreturn, 1) := by decide +kernel
theorem dL_worst_15 : decode cL_worst 15 = .ok (.lload_n 2, 1) := by decide +kernel
theorem dL_worst_16 : decode cL_worst 16 = .ok (.lreturn, 1) := by decide +kernel
theorem dL_pays_0 : decode cL_pays 0 = .ok (.aload_n 3, 1) := by decide +kernel
theorem dL_pays_1 : decode cL_pays 1 = .ok (.iload_n 0, 1) := by decide +kernel
theorem dL_pays_2 : decode cL_pays 2 = .ok (.iaload, 1) := by decide +kernel
theorem dL_pays_3 : decode cL_pays 3 = .ok (.ifCond .ne 15, 3) := by decide +kernel
theorem dL_pays_6 : decode cL_pays 6 = .ok (.lload_n 1, 1) := by decide +kernel
theorem dL_pays_7 : decode cL_pays 7 = .ok (.aload_n 3, 1) := by decide +kernel
theorem dL_pays_8 : decode cL_pays 8 = .ok (.bipush 6, 2) := by decide +kernel
theorem dL_pays_10 : decode cL_pays 10 = .ok (.iload_n 0, 1) := by decide +kernel
theorem dL_pays_11 : decode cL_pays 11 = .ok (.iadd, 1) := by decide +kernel
theorem dL_pays_12 : decode cL_pays 12 = .ok (.iaload, 1) := by decide +kernel
theorem dL_pays_13 : decode cL_pays 13 = .ok (.i2l, 1) := by decide +kernel
theorem dL_pays_14 : decode cL_pays 14 = .ok (.lsub, 1) := by decide +kernel
theorem dL_pays_15 : decode cL_pays 15 = .ok (.goto 12, 3) := by decide +kernel
theorem dL_pays_18 : decode cL_pays 18 = .ok (.aload_n 3, 1) := by decide +kernel
theorem dL_pays_19 : decode cL_pays 19 = .ok (.bipush 6, 2) := by decide +kernel
theorem dL_pays_21 : decode cL_pays 21 = .ok (.iload_n 0, 1) := by decide +kernel
theorem dL_pays_22 : decode cL_pays 22 = .ok (.iadd, 1) := by decide +kernel
theorem dL_pays_23 : decode cL_pays 23 = .ok (.iaload, 1) := by decide +kernel
theorem dL_pays_24 : decode cL_pays 24 = .ok (.i2l, 1) := by decide +kernel
theorem dL_pays_25 : decode cL_pays 25 = .ok (.lload_n 1, 1) := by decide +kernel
theorem dL_pays_26 : decode cL_pays 26 = .ok (.lsub, 1) := by decide +kernel
theorem dL_pays_27 : decode cL_pays 27 = .ok (.lstore 4, 2) := by decide +kernel
theorem dL_pays_29 : decode cL_pays 29 = .ok (.lload 4, 2) := by decide +kernel
theorem dL_pays_31 : decode cL_pays 31 = .ok (.lconst 0, 1) := by decide +kernel
theorem dL_pays_32 : decode cL_pays 32 = .ok (.lcmp, 1) := by decide +kernel
theorem dL_pays_33 : decode cL_pays 33 = .ok (.ifCond .ge 7, 3) := by decide +kernel
theorem dL_pays_36 : decode cL_pays 36 = .ok (.lconst 0, 1) := by decide +kernel
theorem dL_pays_37 : decode cL_pays 37 = .ok (.goto 5, 3) := by decide +kernel
theorem dL_pays_40 : decode cL_pays 40 = .ok (.lload 4, 2) := by decide +kernel
theorem dL_pays_42 : decode cL_pays 42 = .ok (.lreturn, 1) := by decide +kernel
theorem dL_above_0 : decode cL_above 0 = .ok (.aload_n 2, 1) := by decide +kernel
theorem dL_above_1 : decode cL_above 1 = .ok (.bipush 12, 2) := by decide +kernel
theorem dL_above_3 : decode cL_above 3 = .ok (.iload_n 0, 1) := by decide +kernel
theorem dL_above_4 : decode cL_above 4 = .ok (.iadd, 1) := by decide +kernel
theorem dL_above_5 : decode cL_above 5 = .ok (.iaload, 1) := by decide +kernel
theorem dL_above_6 : decode cL_above 6 = .ok (.aload_n 3, 1) := by decide +kernel
theorem dL_above_7 : decode cL_above 7 = .ok (.iconst 0, 1) := by decide +kernel
theorem dL_above_8 : decode cL_above 8 = .ok (.iaload, 1) := by decide +kernel
theorem dL_above_9 : decode cL_above 9 = .ok (.isub, 1) := by decide +kernel
theorem dL_above_10 : decode cL_above 10 = .ok (.istore 5, 2) := by decide +kernel
theorem dL_above_12 : decode cL_above 12 = .ok (.aload_n 2, 1) := by decide +kernel
