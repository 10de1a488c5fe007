theorem dX3_value_5 : decode cX3_value 5 = .ok (.astore_n 3, 1) := by decide +kernel
theorem dX3_value_6 : decode cX3_value 6 = .ok (.aload_n 0, 1) := by decide +kernel
theorem dX3_value_7 : decode cX3_value 7 = .ok (.getfield 12, 3) := by decide +kernel
theorem dX3_value_10 : decode cX3_value 10 = .ok (.aload_n 3, 1) := by decide +kernel
theorem dX3_value_11 : decode cX3_value 11 = .ok (.aload_n 0, 1) := by decide +kernel
theorem dX3_value_12 : decode cX3_value 12 = .ok (.getfield 12, 3) := by decide +kernel
theorem dX3_value_15 : decode cX3_value 15 = .ok (.getfield 65, 3) := by decide +kernel
theorem dX3_value_18 : decode cX3_value 18 = .ok (.invokevirtual 198, 3) := by decide +kernel
theorem dX3_value_21 : decode cX3_value 21 = .ok (.lstore 4, 2) := by decide +kernel
theorem dX3_value_23 : decode cX3_value 23 = .ok (.aload_n 0, 1) := by decide +kernel
theorem dX3_value_24 : decode cX3_value 24 = .ok (.getfield 12, 3) := by decide +kernel
theorem dX3_value_27 : decode cX3_value 27 = .ok (.aload_n 3, 1) := by decide +kernel
theorem dX3_value_28 : decode cX3_value 28 = .ok (.invokevirtual 202, 3) := by decide +kernel
theorem dX3_value_31 : decode cX3_value 31 = .ok (.lstore 6, 2) := by decide +kernel
theorem dX3_value_33 : decode cX3_value 33 = .ok (.lload 4, 2) := by decide +kernel
theorem dX3_value_35 : decode cX3_value 35 = .ok (.lload 6, 2) := by decide +kernel
theorem dX3_value_37 : decode cX3_value 37 = .ok (.invokestatic 206, 3) := by decide +kernel
theorem dX3_value_40 : decode cX3_value 40 = .ok (.lstore 8, 2) := by decide +kernel
theorem dX3_value_42 : decode cX3_value 42 = .ok (.lload 8, 2) := by decide +kernel
theorem dX3_value_44 : decode cX3_value 44 = .ok (.lconst 0, 1) := by decide +kernel
theorem dX3_value_45 : decode cX3_value 45 = .ok (.lcmp, 1) := by decide +kernel
theorem dX3_value_46 : decode cX3_value 46 = .ok (.ifCond .ne 13, 3) := by decide +kernel
theorem dX3_value_49 : decode cX3_value 49 = .ok (.iload_n 2, 1) := by decide +kernel
theorem dX3_value_50 : decode cX3_value 50 = .ok (.ifCond .eq 7, 3) := by decide +kernel
theorem dX3_value_53 : decode cX3_value 53 = .ok (.lconst 1, 1) := by decide +kernel
theorem dX3_value_54 : decode cX3_value 54 = .ok (.goto 4, 3) := by decide +kernel
theorem dX3_value_57 : decode cX3_value 57 = .ok (.lconst 0, 1) := by decide +kernel
theorem dX3_value_58 : decode cX3_value 58 = .ok (.lreturn, 1) := by decide +kernel
theorem dX3_value_59 : decode cX3_value 59 = .ok (.iload_n 2, 1) := by decide +kernel
theorem dX3_value_60 : decode cX3_value 60 = .ok (.ifCond .eq 8, 3) := by decide +kernel
theorem dX3_value_63 : decode cX3_value 63 = .ok (.lload 6, 2) := by decide +kernel
theorem dX3_value_65 : decode cX3_value 65 = .ok (.goto 5, 3) := by decide +kernel
theorem dX3_value_68 : decode cX3_value 68 = .ok (.lload 4, 2) := by decide +kernel
theorem dX3_value_70 : decode cX3_value 70 = .ok (.lload 8, 2) := by decide +kernel
theorem dX3_value_72 : decode cX3_value 72 = .ok (.ldiv, 1) := by decide +kernel
theorem dX3_value_73 : decode cX3_value 73 = .ok (.lreturn, 1) := by decide +kernel
theorem dX3_mark_0 : decode cX3_mark 0 = .ok (.aload_n 0, 1) := by decide +kernel
theorem dX3_mark_1 : decode cX3_mark 1 = .ok (.getfield 12, 3) := by decide +kernel
theorem dX3_mark_4 : decode cX3_mark 4 = .ok (.aload_n 0, 1) := by decide +kernel
theorem dX3_mark_5 : decode cX3_mark 5 = .ok (.iload_n 1, 1) := by decide +kernel
theorem dX3_mark_6 : decode cX3_mark 6 = .ok (.invokevirtual 105, 3) := by decide +kernel
theorem dX3_mark_9 : decode cX3_mark 9 = .ok (.aload_n 0, 1) := by decide +kernel
theorem dX3_mark_10 : decode cX3_mark 10 = .ok (.getfield 12, 3) := by decide +kernel
theorem dX3_mark_13 : decode cX3_mark 13 = .ok (.getfield 65, 3) := by decide +kernel
theorem dX3_mark_16 : decode cX3_mark 16 = .ok (.invokevirtual 210, 3) := by decide +kernel
theorem dX3_mark_19 : decode cX3_mark 19 = .ok (.ireturn, 1) := by decide +kernel
theorem dX3_markByWays_0 : decode cX3_markByWays 0 = .ok (.aload_n 0, 1) := by decide +kernel
theorem dX3_markByWays_1 : decode cX3_markByWays 1 = .ok (.iload_n 1, 1) := by decide +kernel
theorem dX3_markByWays_2 : decode cX3_markByWays 2 = .ok (.invokevirtual 105, 3) := by decide +kernel
theorem dX3_markByWays_5 : decode cX3_markByWays 5 = .ok (.astore_n 2, 1) := by decide +kernel
theorem dX3_markByWays_6 : decode cX3_markByWays 6 = .ok (.aload_n 0, 1) := by decide +kernel
theorem dX3_markByWays_7 : decode cX3_markByWays 7 = .ok (.getfield 12, 3) := by decide +kernel
theorem dX3_markByWays_10 : decode cX3_markByWays 10 = .ok (.aload_n 2, 1) := by decide +kernel
theorem dX3_markByWays_11 : decode cX3_markByWays 11 = .ok (.aload_n 0, 1) := by decide +kernel
theorem dX3_markByWays_12 : decode cX3_markByWays 12 = .ok (.getfield 12, 3) := by decide +kernel
theorem dX3_markByWays_15 : decode cX3_markByWays 15 = .ok (.getfield 65, 3) := by decide +kernel
theorem dX3_markByWays_18 : decode cX3_markByWays 18 = .ok (.aload_n 2, 1) := by decide +kernel
theorem dX3_markByWays_19 : decode cX3_markByWays 19 = .ok (.getfield 177, 3) := by decide +kernel
theorem dX3_markByWays_22 : decode cX3_markByWays 22 = .ok (.aload_n 0, 1) := by decide +kernel
theorem dX3_markByWays_23 : decode cX3_markByWays 23 = .ok (.getfield 12, 3) := by decide +kernel
theorem dX3_markByWays_26 : decode cX3_markByWays 26 = .ok (.getfield 68, 3) := by decide +kernel
theorem dX3_markByWays_29 : decode cX3_markByWays 29 = .ok (.isub, 1) := by decide +kernel
theorem dX3_markByWays_30 : decode cX3_markByWays 30 = .ok (.invokestatic 214, 3) := by decide +kernel
theorem dX3_markByWays_33 : decode cX3_markByWays 33 = .ok (.lstore_n 3, 1) := by decide +kernel
theorem dX3_markByWays_34 : decode cX3_markByWays 34 = .ok (.lload_n 3, 1) := by decide +kernel
theorem dX3_markByWays_35 : decode cX3_markByWays 35 = .ok (.aload_n 0, 1) := by decide +kernel
theorem dX3_markByWays_36 : decode cX3_markByWays 36 = .ok (.getfield 12, 3) := by decide +kernel
theorem dX3_markByWays_39 : decode cX3_markByWays 39 = .ok (.aload_n 2, 1) := by decide +kernel
theorem dX3_markByWays_40 : decode cX3_markByWays 40 = .ok (.invokevirtual 202, 3) := by decide +kernel
theorem dX3_markByWays_43 : decode cX3_markByWays 43 = .ok (.invokestatic 218, 3) := by decide +kernel
theorem dX3_markByWays_46 : decode cX3_markByWays 46 = .ok (.ireturn, 1) := by decide +kernel
theorem dX3_fault_0 : decode cX3_fault 0 = .ok (.aload_n 0, 1) := by decide +kernel
theorem dX3_fault_1 : decode cX3_fault 1 = .ok (.invokevirtual 116, 3) := by decide +kernel
theorem dX3_fault_4 : decode cX3_fault 4 = .ok (.ireturn, 1) := by decide +kernel
theorem dX3_quoted_0 : decode cX3_quoted 0 = .ok (.aload_n 0, 1) := by decide +kernel
theorem dX3_quoted_1 : decode cX3_quoted 1 = .ok (.iload_n 1, 1) := by decide +kernel
theorem dX3_quoted_2 : decode cX3_quoted 2 = .ok (.invokevirtual 105, 3) := by decide +kernel
theorem dX3_quoted_5 : decode cX3_quoted 5 = .ok (.astore_n 3, 1) := by decide +kernel
theorem dX3_quoted_6 : decode cX3_quoted 6 = .ok (.iload_n 2, 1) := by decide +kernel
theorem dX3_quoted_7 : decode cX3_quoted 7 = .ok (.tableswitch 49 0 3 #[29, 34, 39, 44], 29) := by decide +kernel
theorem dX3_quoted_36 : decode cX3_quoted 36 = .ok (.aload_n 3, 1) := by decide +kernel
theorem dX3_quoted_37 : decode cX3_quoted 37 = .ok (.getfield 222, 3) := by decide +kernel
theorem dX3_quoted_40 : decode cX3_quoted 40 = .ok (.ireturn, 1) := by decide +kernel
theorem dX3_quoted_41 : decode cX3_quoted 41 = .ok (.aload_n 3, 1) := by decide +kernel
theorem dX3_quoted_42 : decode cX3_quoted 42 = .ok (.getfield 225, 3) := by decide +kernel
theorem dX3_quoted_45 : decode cX3_quoted 45 = .ok (.ireturn, 1) := by decide +kernel
theorem dX3_quoted_46 : decode cX3_quoted 46 = .ok (.aload_n 3, 1) := by decide +kernel
theorem dX3_quoted_47 : decode cX3_quoted 47 = .ok (.getfield 228, 3) := by decide +kernel
theorem dX3_quoted_50 : decode cX3_quoted 50 = .ok (.ireturn, 1) := by decide +kernel
theorem dX3_quoted_51 : decode cX3_quoted 51 = .ok (.aload_n 3, 1) := by decide +kernel
theorem dX3_quoted_52 : decode cX3_quoted 52 = .ok (.getfield 231, 3) := by decide +kernel
theorem dX3_quoted_55 : decode cX3_quoted 55 = .ok (.ireturn, 1) := by decide +kernel
theorem dX3_quoted_56 : decode cX3_quoted 56 = .ok (.new 134, 3) := by decide +kernel
theorem dX3_quoted_59 : decode cX3_quoted 59 = .ok (.dup, 1) := by decide +kernel
theorem dX3_quoted_60 : decode cX3_quoted 60 = .ok (.ldc 234, 2) := by decide +kernel
theorem dX3_quoted_62 : decode cX3_quoted 62 = .ok (.invokespecial 138, 3) := by decide +kernel
theorem dX3_quoted_65 : decode cX3_quoted 65 = .ok (.athrow, 1) := by decide +kernel
theorem dX3_lots_0 : decode cX3_lots 0 = .ok (.iload_n 1, 1) := by decide +kernel
theorem dX3_lots_1 : decode cX3_lots 1 = .ok (.invokestatic 165, 3) := by decide +kernel
theorem dX3_lots_4 : decode cX3_lots 4 = .ok (.istore_n 3, 1) := by decide +kernel
theorem dX3_lots_5 : decode cX3_lots 5 = .ok (.aload_n 0, 1) := by decide +kernel
theorem dX3_lots_6 : decode cX3_lots 6 = .ok (.iload_n 2, 1) := by decide +kernel
theorem dX3_lots_7 : decode cX3_lots 7 = .ok (.invokevirtual 105, 3) := by decide +kernel
theorem dX3_lots_10 : decode cX3_lots 10 = .ok (.iload_n 3, 1) := by decide +kernel
theorem dX3_lots_11 : decode cX3_lots 11 = .ok (.invokevirtual 168, 3) := by decide +kernel
theorem dX3_lots_14 : decode cX3_lots 14 = .ok (.ireturn, 1) := by decide +kernel
theorem dX3_cash_0 : decode cX3_cash 0 = .ok (.aload_n 0, 1) := by decide +kernel
theorem dX3_cash_1 : decode cX3_cash 1 = .ok (.iload_n 1, 1) := by decide +kernel
theorem dX3_cash_2 : decode cX3_cash 2 = .ok (.invokestatic 165, 3) := by decide +kernel
theorem dX3_cash_5 : decode cX3_cash 5 = .ok (.invokevirtual 236, 3) := by decide +kernel
theorem dX3_cash_8 : decode cX3_cash 8 = .ok (.lreturn, 1) := by decide +kernel
theorem dX3_worth_0 : decode cX3_worth 0 = .ok (.aload_n 0, 1) := by decide +kernel
theorem dX3_worth_1 : decode cX3_worth 1 = .ok (.invokevirtual 51, 3) := by decide +kernel
theorem dX3_worth_4 : decode cX3_worth 4 = .ok (.lreturn, 1) := by decide +kernel
theorem dX3_cause_0 : decode cX3_cause 0 = .ok (.iload_n 1, 1) := by decide +kernel
theorem dX3_cause_1 : decode cX3_cause 1 = .ok (.ifCond .lt 12, 3) := by decide +kernel
theorem dX3_cause_4 : decode cX3_cause 4 = .ok (.iload_n 1, 1) := by decide +kernel
theorem dX3_cause_5 : decode cX3_cause 5 = .ok (.aload_n 0, 1) := by decide +kernel
theorem dX3_cause_6 : decode cX3_cause 6 = .ok (.getfield 34, 3) := by decide +kernel
theorem dX3_cause_9 : decode cX3_cause 9 = .ok (.arraylength, 1) := by decide +kernel
theorem dX3_cause_10 : decode cX3_cause 10 = .ok (.if_icmp .lt 13, 3) := by decide +kernel
theorem dX3_cause_13 : decode cX3_cause 13 = .ok (.new 240, 3) := by decide +kernel
theorem dX3_cause_16 : decode cX3_cause 16 = .ok (.dup, 1) := by decide +kernel
theorem dX3_cause_17 : decode cX3_cause 17 = .ok (.ldc 242, 2) := by decide +kernel
theorem dX3_cause_19 : decode cX3_cause 19 = .ok (.invokespecial 244, 3) := by decide +kernel
theorem dX3_cause_22 : decode cX3_cause 22 = .ok (.athrow, 1) := by decide +kernel
theorem dX3_cause_23 : decode cX3_cause 23 = .ok (.aload_n 0, 1) := by decide +kernel
theorem dX3_cause_24 : decode cX3_cause 24 = .ok (.getfield 34, 3) := by decide +kernel
theorem dX3_cause_27 : decode cX3_cause 27 = .ok (.iload_n 1, 1) := by decide +kernel
theorem dX3_cause_28 : decode cX3_cause 28 = .ok (.laload, 1) := by decide +kernel
theorem dX3_cause_29 : decode cX3_cause 29 = .ok (.lreturn, 1) := by decide +kernel
theorem dX3_worst_0 : decode cX3_worst 0 = .ok (.iload_n 1, 1) := by decide +kernel
theorem dX3_worst_1 : decode cX3_worst 1 = .ok (.iconst 0, 1) := by decide +kernel
theorem dX3_worst_2 : decode cX3_worst 2 = .ok (.bipush 100, 2) := by decide +kernel
theorem dX3_worst_4 : decode cX3_worst 4 = .ok (.invokestatic 47, 3) := by decide +kernel
theorem dX3_worst_7 : decode cX3_worst 7 = .ok (.aload_n 0, 1) := by decide +kernel
theorem dX3_worst_8 : decode cX3_worst 8 = .ok (.invokevirtual 51, 3) := by decide +kernel
theorem dX3_worst_11 : decode cX3_worst 11 = .ok (.lstore_n 2, 1) := by decide +kernel
theorem dX3_worst_12 : decode cX3_worst 12 = .ok (.lconst 0, 1) := by decide +kernel
theorem dX3_worst_13 : decode cX3_worst 13 = .ok (.lstore 4, 2) := by decide +kernel
theorem dX3_worst_15 : decode cX3_worst 15 = .ok (.iload_n 1, 1) := by decide +kernel
theorem dX3_worst_16 : decode cX3_worst 16 = .ok (.ineg, 1) := by decide +kernel
theorem dX3_worst_17 : decode cX3_worst 17 = .ok (.istore 6, 2) := by decide +kernel
theorem dX3_worst_19 : decode cX3_worst 19 = .ok (.iload 6, 2) := by decide +kernel
theorem dX3_worst_21 : decode cX3_worst 21 = .ok (.iload_n 1, 1) := by decide +kernel
theorem dX3_worst_22 : decode cX3_worst 22 = .ok (.if_icmp .gt 35, 3) := by decide +kernel
theorem dX3_worst_25 : decode cX3_worst 25 = .ok (.lload 4, 2) := by decide +kernel
theorem dX3_worst_27 : decode cX3_worst 27 = .ok (.lload_n 2, 1) := by decide +kernel
theorem dX3_worst_28 : decode cX3_worst 28 = .ok (.aload_n 0, 1) := by decide +kernel
theorem dX3_worst_29 : decode cX3_worst 29 = .ok (.aload_n 0, 1) := by decide +kernel
theorem dX3_worst_30 : decode cX3_worst 30 = .ok (.getfield 12, 3) := by decide +kernel
theorem dX3_worst_33 : decode cX3_worst 33 = .ok (.getfield 65, 3) := by decide +kernel
theorem dX3_worst_36 : decode cX3_worst 36 = .ok (.bipush 10, 2) := by decide +kernel
theorem dX3_worst_38 : decode cX3_worst 38 = .ok (.iload 6, 2) := by decide +kernel
theorem dX3_worst_40 : decode cX3_worst 40 = .ok (.imul, 1) := by decide +kernel
theorem dX3_worst_41 : decode cX3_worst 41 = .ok (.iadd, 1) := by decide +kernel
theorem dX3_worst_42 : decode cX3_worst 42 = .ok (.invokevirtual 245, 3) := by decide +kernel
theorem dX3_worst_45 : decode cX3_worst 45 = .ok (.lsub, 1) := by decide +kernel
theorem dX3_worst_46 : decode cX3_worst 46 = .ok (.invokestatic 248, 3) := by decide +kernel
theorem dX3_worst_49 : decode cX3_worst 49 = .ok (.lstore 4, 2) := by decide +kernel
theorem dX3_worst_51 : decode cX3_worst 51 = .ok (.iinc 6 1, 3) := by decide +kernel
theorem dX3_worst_54 : decode cX3_worst 54 = .ok (.goto (-35), 3) := by decide +kernel
theorem dX3_worst_57 : decode cX3_worst 57 = .ok (.lload 4, 2) := by decide +kernel
theorem dX3_worst_59 : decode cX3_worst 59 = .ok (.lreturn, 1) := by decide +kernel
theorem dX3_checkRange_0 : decode cX3_checkRange 0 = .ok (.iload_n 0, 1) := by decide +kernel
theorem dX3_checkRange_1 : decode cX3_checkRange 1 = .ok (.iload_n 1, 1) := by decide +kernel
theorem dX3_checkRange_2 : decode cX3_checkRange 2 = .ok (.if_icmp .lt 8, 3) := by decide +kernel
theorem dX3_checkRange_5 : decode cX3_checkRange 5 = .ok (.iload_n 0, 1) := by decide +kernel
theorem dX3_checkRange_6 : decode cX3_checkRange 6 = .ok (.iload_n 2, 1) := by decide +kernel
theorem dX3_checkRange_7 : decode cX3_checkRange 7 = .ok (.if_icmp .le 13, 3) := by decide +kernel
theorem dX3_checkRange_10 : decode cX3_checkRange 10 = .ok (.new 134, 3) := by decide +kernel
theorem dX3_checkRange_13 : decode cX3_checkRange 13 = .ok (.dup, 1) := by decide +kernel
theorem dX3_checkRange_14 : decode cX3_checkRange 14 = .ok (.ldc 251, 2) := by decide +kernel
theorem dX3_checkRange_16 : decode cX3_checkRange 16 = .ok (.invokespecial 138, 3) := by decide +kernel
theorem dX3_checkRange_19 : decode cX3_checkRange 19 = .ok (.athrow, 1) := by decide +kernel
theorem dX3_checkRange_20 : decode cX3_checkRange 20 = .ok (.return_, 1) := by decide +kernel
theorem dX3_checkCustomer_0 : decode cX3_checkCustomer 0 = .ok (.iload_n 0, 1) := by decide +kernel
theorem dX3_checkCustomer_1 : decode cX3_checkCustomer 1 = .ok (.ifCond .lt 9, 3) := by decide +kernel
theorem dX3_checkCustomer_4 : decode cX3_checkCustomer 4 = .ok (.iload_n 0, 1) := by decide +kernel
theorem dX3_checkCustomer_5 : decode cX3_checkCustomer 5 = .ok (.bipush 6, 2) := by decide +kernel
theorem dX3_checkCustomer_7 : decode cX3_checkCustomer 7 = .ok (.if_icmp .lt 13, 3) := by decide +kernel
theorem dX3_checkCustomer_10 : decode cX3_checkCustomer 10 = .ok (.new 240, 3) := by decide +kernel
theorem dX3_checkCustomer_13 : decode cX3_checkCustomer 13 = .ok (.dup, 1) := by decide +kernel
theorem dX3_checkCustomer_14 : decode cX3_checkCustomer 14 = .ok (.ldc 253, 2) := by decide +kernel
theorem dX3_checkCustomer_16 : decode cX3_checkCustomer 16 = .ok (.invokespecial 244, 3) := by decide +kernel
theorem dX3_checkCustomer_19 : decode cX3_checkCustomer 19 = .ok (.athrow, 1) := by decide +kernel
theorem dX3_checkCustomer_20 : decode cX3_checkCustomer 20 = .ok (.return_, 1) := by decide +kernel
theorem dX3_checkNotOver_0 : decode cX3_checkNotOver 0 = .ok (.aload_n 1, 1) := by decide +kernel
theorem dX3_checkNotOver_1 : decode cX3_checkNotOver 1 = .ok (.getfield 177, 3) := by decide +kernel
theorem dX3_checkNotOver_4 : decode cX3_checkNotOver 4 = .ok (.aload_n 0, 1) := by decide +kernel
theorem dX3_checkNotOver_5 : decode cX3_checkNotOver 5 = .ok (.getfield 12, 3) := by decide +kernel
theorem dX3_checkNotOver_8 : decode cX3_checkNotOver 8 = .ok (.getfield 68, 3) := by decide +kernel
theorem dX3_checkNotOver_11 : decode cX3_checkNotOver 11 = .ok (.if_icmp .ge 13, 3) := by decide +kernel
theorem dX3_checkNotOver_14 : decode cX3_checkNotOver 14 = .ok (.new 89, 3) := by decide +kernel
theorem dX3_checkNotOver_17 : decode cX3_checkNotOver 17 = .ok (.dup, 1) := by decide +kernel
theorem dX3_checkNotOver_18 : decode cX3_checkNotOver 18 = .ok (.ldc 255, 2) := by decide +kernel
theorem dX3_checkNotOver_20 : decode cX3_checkNotOver 20 = .ok (.invokespecial 93, 3) := by decide +kernel
theorem dX3_checkNotOver_23 : decode cX3_checkNotOver 23 = .ok (.athrow, 1) := by decide +kernel
theorem dX3_checkNotOver_24 : decode cX3_checkNotOver 24 = .ok (.return_, 1) := by decide +kernel
theorem dX3_placeOf_0 : decode cX3_placeOf 0 = .ok (.iload_n 0, 1) := by decide +kernel
theorem dX3_placeOf_1 : decode cX3_placeOf 1 = .ok (.iconst (-1), 1) := by decide +kernel
theorem dX3_placeOf_2 : decode cX3_placeOf 2 = .ok (.if_icmp .ne 6, 3) := by decide +kernel
theorem dX3_placeOf_5 : decode cX3_placeOf 5 = .ok (.bipush 6, 2) := by decide +kernel
theorem dX3_placeOf_7 : decode cX3_placeOf 7 = .ok (.ireturn, 1) := by decide +kernel
theorem dX3_placeOf_8 : decode cX3_placeOf 8 = .ok (.iload_n 0, 1) := by decide +kernel
theorem dX3_placeOf_9 : decode cX3_placeOf 9 = .ok (.invokestatic 130, 3) := by decide +kernel
theorem dX3_placeOf_12 : decode cX3_placeOf 12 = .ok (.iload_n 0, 1) := by decide +kernel
theorem dX3_placeOf_13 : decode cX3_placeOf 13 = .ok (.ireturn, 1) := by decide +kernel
theorem dX3_contractOf_0 : decode cX3_contractOf 0 = .ok (.iload_n 1, 1) := by decide +kernel
theorem dX3_contractOf_1 : decode cX3_contractOf 1 = .ok (.ifCond .lt 14, 3) := by decide +kernel
theorem dX3_contractOf_4 : decode cX3_contractOf 4 = .ok (.iload_n 1, 1) := by decide +kernel
theorem dX3_contractOf_5 : decode cX3_contractOf 5 = .ok (.aload_n 0, 1) := by decide +kernel
theorem dX3_contractOf_6 : decode cX3_contractOf 6 = .ok (.getfield 26, 3) := by decide +kernel
theorem dX3_contractOf_9 : decode cX3_contractOf 9 = .ok (.invokevirtual 85, 3) := by decide +kernel
theorem dX3_contractOf_12 : decode cX3_contractOf 12 = .ok (.if_icmp .lt 14, 3) := by decide +kernel
theorem dX3_contractOf_15 : decode cX3_contractOf 15 = .ok (.new 240, 3) := by decide +kernel
theorem dX3_contractOf_18 : decode cX3_contractOf 18 = .ok (.dup, 1) := by decide +kernel
theorem dX3_contractOf_19 : decode cX3_contractOf 19 = .ok (.ldc_w 257, 3) := by decide +kernel
theorem dX3_contractOf_22 : decode cX3_contractOf 22 = .ok (.invokespecial 244, 3) := by decide +kernel
theorem dX3_contractOf_25 : decode cX3_contractOf 25 = .ok (.athrow, 1) := by decide +kernel
theorem dX3_contractOf_26 : decode cX3_contractOf 26 = .ok (.aload_n 0, 1) := by decide +kernel
theorem dX3_contractOf_27 : decode cX3_contractOf 27 = .ok (.getfield 26, 3) := by decide +kernel
theorem dX3_contractOf_30 : decode cX3_contractOf 30 = .ok (.iload_n 1, 1) := by decide +kernel
theorem dX3_contractOf_31 : decode cX3_contractOf 31 = .ok (.invokevirtual 119, 3) := by decide +kernel
theorem dX3_contractOf_34 : decode cX3_contractOf 34 = .ok (.checkcast 96, 3) := by decide +kernel
theorem dX3_contractOf_37 : decode cX3_contractOf 37 = .ok (.areturn, 1) := by decide +kernel
theorem dX3_moneyAt_0 : decode cX3_moneyAt 0 = .ok (.iload_n 1, 1) := by decide +kernel
theorem dX3_moneyAt_1 : decode cX3_moneyAt 1 = .ok (.ifCond .lt 21, 3) := by decide +kernel
theorem dX3_moneyAt_4 : decode cX3_moneyAt 4 = .ok (.iload_n 1, 1) := by decide +kernel
theorem dX3_moneyAt_5 : decode cX3_moneyAt 5 = .ok (.aload_n 0, 1) := by decide +kernel
theorem dX3_moneyAt_6 : decode cX3_moneyAt 6 = .ok (.getfield 30, 3) := by decide +kernel
theorem dX3_moneyAt_9 : decode cX3_moneyAt 9 = .ok (.arraylength, 1) := by decide +kernel
theorem dX3_moneyAt_10 : decode cX3_moneyAt 10 = .ok (.if_icmp .ge 12, 3) := by decide +kernel
theorem dX3_moneyAt_13 : decode cX3_moneyAt 13 = .ok (.aload_n 0, 1) := by decide +kernel
theorem dX3_moneyAt_14 : decode cX3_moneyAt 14 = .ok (.getfield 30, 3) := by decide +kernel
theorem dX3_moneyAt_17 : decode cX3_moneyAt 17 = .ok (.iload_n 1, 1) := by decide +kernel
theorem dX3_moneyAt_18 : decode cX3_moneyAt 18 = .ok (.laload, 1) := by decide +kernel
theorem dX3_moneyAt_19 : decode cX3_moneyAt 19 = .ok (.goto 4, 3) := by decide +kernel
theorem dX3_moneyAt_22 : decode cX3_moneyAt 22 = .ok (.lconst 0, 1) := by decide +kernel
theorem dX3_moneyAt_23 : decode cX3_moneyAt 23 = .ok (.lreturn, 1) := by decide +kernel
theorem dX3_addMoney_0 : decode cX3_addMoney 0 = .ok (.iload_n 1, 1) := by decide +kernel
theorem dX3_addMoney_1 : decode cX3_addMoney 1 = .ok (.ifCond .lt 22, 3) := by decide +kernel
theorem dX3_addMoney_4 : decode cX3_addMoney 4 = .ok (.iload_n 1, 1) := by decide +kernel
theorem dX3_addMoney_5 : decode cX3_addMoney 5 = .ok (.aload_n 0, 1) := by decide +kernel
theorem dX3_addMoney_6 : decode cX3_addMoney 6 = .ok (.getfield 30, 3) := by decide +kernel
theorem dX3_addMoney_9 : decode cX3_addMoney 9 = .ok (.arraylength, 1) := by decide +kernel
theorem dX3_addMoney_10 : decode cX3_addMoney 10 = .ok (.if_icmp .ge 13, 3) := by decide +kernel
theorem dX3_addMoney_13 : decode cX3_addMoney 13 = .ok (.aload_n 0, 1) := by decide +kernel
theorem dX3_addMoney_14 : decode cX3_addMoney 14 = .ok (.getfield 30, 3) := by decide +kernel
theorem dX3_addMoney_17 : decode cX3_addMoney 17 = .ok (.iload_n 1, 1) := by decide +kernel
theorem dX3_addMoney_18 : decode cX3_addMoney 18 = .ok (.dup2, 1) := by decide +kernel
theorem dX3_addMoney_19 : decode cX3_addMoney 19 = .ok (.laload, 1) := by decide +kernel
theorem dX3_addMoney_20 : decode cX3_addMoney 20 = .ok (.lload_n 2, 1) := by decide +kernel
theorem dX3_addMoney_21 : decode cX3_addMoney 21 = .ok (.ladd, 1) := by decide +kernel
theorem dX3_addMoney_22 : decode cX3_addMoney 22 = .ok (.lastore, 1) := by decide +kernel
theorem dX3_addMoney_23 : decode cX3_addMoney 23 = .ok (.return_, 1) := by decide +kernel
theorem dX3_addProfit_0 : decode cX3_addProfit 0 = .ok (.iload_n 1, 1) := by decide +kernel
theorem dX3_addProfit_1 : decode cX3_addProfit 1 = .ok (.ifCond .lt 22, 3) := by decide +kernel
theorem dX3_addProfit_4 : decode cX3_addProfit 4 = .ok (.iload_n 1, 1) := by decide +kernel
theorem dX3_addProfit_5 : decode cX3_addProfit 5 = .ok (.aload_n 0, 1) := by decide +kernel
theorem dX3_addProfit_6 : decode cX3_addProfit 6 = .ok (.getfield 34, 3) := by decide +kernel
theorem dX3_addProfit_9 : decode cX3_addProfit 9 = .ok (.arraylength, 1) := by decide +kernel
theorem dX3_addProfit_10 : decode cX3_addProfit 10 = .ok (.if_icmp .ge 13, 3) := by decide +kernel
theorem dX3_addProfit_13 : decode cX3_addProfit 13 = .ok (.aload_n 0, 1) := by decide +kernel
theorem dX3_addProfit_14 : decode cX3_addProfit 14 = .ok (.getfield 34, 3) := by decide +kernel
theorem dX3_addProfit_17 : decode cX3_addProfit 17 = .ok (.iload_n 1, 1) := by decide +kernel
theorem dX3_addProfit_18 : decode cX3_addProfit 18 = .ok (.dup2, 1) := by decide +kernel
theorem dX3_addProfit_19 : decode cX3_addProfit 19 = .ok (.laload, 1) := by decide +kernel
theorem dX3_addProfit_20 : decode cX3_addProfit 20 = .ok (.lload_n 2, 1) := by decide +kernel
theorem dX3_addProfit_21 : decode cX3_addProfit 21 = .ok (.ladd, 1) := by decide +kernel
theorem dX3_addProfit_22 : decode cX3_addProfit 22 = .ok (.lastore, 1) := by decide +kernel
theorem dX3_addProfit_23 : decode cX3_addProfit 23 = .ok (.return_, 1) := by decide +kernel
theorem dX3_worthNow_0 : decode cX3_worthNow 0 = .ok (.aload_n 0, 1) := by decide +kernel
theorem dX3_worthNow_1 : decode cX3_worthNow 1 = .ok (.aload_n 0, 1) := by decide +kernel
theorem dX3_worthNow_2 : decode cX3_worthNow 2 = .ok (.getfield 12, 3) := by decide +kernel
theorem dX3_worthNow_5 : decode cX3_worthNow 5 = .ok (.getfield 65, 3) := by decide +kernel
theorem dX3_worthNow_8 : decode cX3_worthNow 8 = .ok (.invokevirtual 245, 3) := by decide +kernel
theorem dX3_worthNow_11 : decode cX3_worthNow 11 = .ok (.lreturn, 1) := by decide +kernel
theorem dX3_worthAt_0 : decode cX3_worthAt 0 = .ok (.aload_n 0, 1) := by decide +kernel
theorem dX3_worthAt_1 : decode cX3_worthAt 1 = .ok (.bipush 6, 2) := by decide +kernel
theorem dX3_worthAt_3 : decode cX3_worthAt 3 = .ok (.invokevirtual 236, 3) := by decide +kernel
theorem dX3_worthAt_6 : decode cX3_worthAt 6 = .ok (.ldc2_w 259, 3) := by decide +kernel
theorem dX3_worthAt_9 : decode cX3_worthAt 9 = .ok (.iload_n 1, 1) := by decide +kernel
theorem dX3_worthAt_10 : decode cX3_worthAt 10 = .ok (.i2l, 1) := by decide +kernel
theorem dX3_worthAt_11 : decode cX3_worthAt 11 = .ok (.lmul, 1) := by decide +kernel
theorem dX3_worthAt_12 : decode cX3_worthAt 12 = .ok (.aload_n 0, 1) := by decide +kernel
theorem dX3_worthAt_13 : decode cX3_worthAt 13 = .ok (.getfield 41, 3) := by decide +kernel
theorem dX3_worthAt_16 : decode cX3_worthAt 16 = .ok (.i2l, 1) := by decide +kernel
theorem dX3_worthAt_17 : decode cX3_worthAt 17 = .ok (.lmul, 1) := by decide +kernel
theorem dX3_worthAt_18 : decode cX3_worthAt 18 = .ok (.ladd, 1) := by decide +kernel
theorem dX3_worthAt_19 : decode cX3_worthAt 19 = .ok (.lstore_n 2, 1) := by decide +kernel
theorem dX3_worthAt_20 : decode cX3_worthAt 20 = .ok (.iconst 0, 1) := by decide +kernel
theorem dX3_worthAt_21 : decode cX3_worthAt 21 = .ok (.istore 4, 2) := by decide +kernel
theorem dX3_worthAt_23 : decode cX3_worthAt 23 = .ok (.iload 4, 2) := by decide +kernel
theorem dX3_worthAt_25 : decode cX3_worthAt 25 = .ok (.aload_n 0, 1) := by decide +kernel
theorem dX3_worthAt_26 : decode cX3_worthAt 26 = .ok (.getfield 26, 3) := by decide +kernel
theorem dX3_worthAt_29 : decode cX3_worthAt 29 = .ok (.invokevirtual 85, 3) := by decide +kernel
theorem dX3_worthAt_32 : decode cX3_worthAt 32 = .ok (.if_icmp .ge 55, 3) := by decide +kernel
theorem dX3_worthAt_35 : decode cX3_worthAt 35 = .ok (.aload_n 0, 1) := by decide +kernel
theorem dX3_worthAt_36 : decode cX3_worthAt 36 = .ok (.getfield 26, 3) := by decide +kernel
theorem dX3_worthAt_39 : decode cX3_worthAt 39 = .ok (.iload 4, 2) := by decide +kernel
theorem dX3_worthAt_41 : decode cX3_worthAt 41 = .ok (.invokevirtual 119, 3) := by decide +kernel
theorem dX3_worthAt_44 : decode cX3_worthAt 44 = .ok (.checkcast 96, 3) := by decide +kernel
theorem dX3_worthAt_47 : decode cX3_worthAt 47 = .ok (.astore 5, 2) := by decide +kernel
theorem dX3_worthAt_49 : decode cX3_worthAt 49 = .ok (.aload 5, 2) := by decide +kernel
theorem dX3_worthAt_51 : decode cX3_worthAt 51 = .ok (.bipush 6, 2) := by decide +kernel
theorem dX3_worthAt_53 : decode cX3_worthAt 53 = .ok (.invokevirtual 168, 3) := by decide +kernel
theorem dX3_worthAt_56 : decode cX3_worthAt 56 = .ok (.istore 6, 2) := by decide +kernel
theorem dX3_worthAt_58 : decode cX3_worthAt 58 = .ok (.iload 6, 2) := by decide +kernel
theorem dX3_worthAt_60 : decode cX3_worthAt 60 = .ok (.ifCond .eq 21, 3) := by decide +kernel
theorem dX3_worthAt_63 : decode cX3_worthAt 63 = .ok (.lload_n 2, 1) := by decide +kernel
theorem dX3_worthAt_64 : decode cX3_worthAt 64 = .ok (.iload 6, 2) := by decide +kernel
theorem dX3_worthAt_66 : decode cX3_worthAt 66 = .ok (.i2l, 1) := by decide +kernel
theorem dX3_worthAt_67 : decode cX3_worthAt 67 = .ok (.aload_n 0, 1) := by decide +kernel
theorem dX3_worthAt_68 : decode cX3_worthAt 68 = .ok (.getfield 12, 3) := by decide +kernel
theorem dX3_worthAt_71 : decode cX3_worthAt 71 = .ok (.aload 5, 2) := by decide +kernel
theorem dX3_worthAt_73 : decode cX3_worthAt 73 = .ok (.iload_n 1, 1) := by decide +kernel
theorem dX3_worthAt_74 : decode cX3_worthAt 74 = .ok (.invokevirtual 210, 3) := by decide +kernel
theorem dX3_worthAt_77 : decode cX3_worthAt 77 = .ok (.i2l, 1) := by decide +kernel
theorem dX3_worthAt_78 : decode cX3_worthAt 78 = .ok (.lmul, 1) := by decide +kernel
theorem dX3_worthAt_79 : decode cX3_worthAt 79 = .ok (.ladd, 1) := by decide +kernel
theorem dX3_worthAt_80 : decode cX3_worthAt 80 = .ok (.lstore_n 2, 1) := by decide +kernel
theorem dX3_worthAt_81 : decode cX3_worthAt 81 = .ok (.iinc 4 1, 3) := by decide +kernel
theorem dX3_worthAt_84 : decode cX3_worthAt 84 = .ok (.goto (-61), 3) := by decide +kernel
theorem dX3_worthAt_87 : decode cX3_worthAt 87 = .ok (.lload_n 2, 1) := by decide +kernel
theorem dX3_worthAt_88 : decode cX3_worthAt 88 = .ok (.lreturn, 1) := by decide +kernel
theorem dX3_buy_0 : decode cX3_buy 0 = .ok (.iload 4, 2) := by decide +kernel
theorem dX3_buy_2 : decode cX3_buy 2 = .ok (.aload_n 2, 1) := by decide +kernel
theorem dX3_buy_3 : decode cX3_buy 3 = .ok (.getfield 225, 3) := by decide +kernel
theorem dX3_buy_6 : decode cX3_buy 6 = .ok (.if_icmp .ge 5, 3) := by decide +kernel
theorem dX3_buy_9 : decode cX3_buy 9 = .ok (.iconst 0, 1) := by decide +kernel
theorem dX3_buy_10 : decode cX3_buy 10 = .ok (.ireturn, 1) := by decide +kernel
theorem dX3_buy_11 : decode cX3_buy 11 = .ok (.iconst 0, 1) := by decide +kernel
theorem dX3_buy_12 : decode cX3_buy 12 = .ok (.aload_n 0, 1) := by decide +kernel
theorem dX3_buy_13 : decode cX3_buy 13 = .ok (.getfield 37, 3) := by decide +kernel
theorem dX3_buy_16 : decode cX3_buy 16 = .ok (.aload_n 2, 1) := by decide +kernel
theorem dX3_buy_17 : decode cX3_buy 17 = .ok (.bipush 6, 2) := by decide +kernel
theorem dX3_buy_19 : decode cX3_buy 19 = .ok (.invokevirtual 168, 3) := by decide +kernel
theorem dX3_buy_22 : decode cX3_buy 22 = .ok (.iadd, 1) := by decide +kernel
theorem dX3_buy_23 : decode cX3_buy 23 = .ok (.invokestatic 261, 3) := by decide +kernel
theorem dX3_buy_26 : decode cX3_buy 26 = .ok (.istore 5, 2) := by decide +kernel
theorem dX3_buy_28 : decode cX3_buy 28 = .ok (.iload_n 3, 1) := by decide +kernel
theorem dX3_buy_29 : decode cX3_buy 29 = .ok (.aload_n 2, 1) := by decide +kernel
theorem dX3_buy_30 : decode cX3_buy 30 = .ok (.getfield 231, 3) := by decide +kernel
theorem dX3_buy_33 : decode cX3_buy 33 = .ok (.invokestatic 79, 3) := by decide +kernel
theorem dX3_buy_36 : decode cX3_buy 36 = .ok (.iload 5, 2) := by decide +kernel
theorem dX3_buy_38 : decode cX3_buy 38 = .ok (.invokestatic 79, 3) := by decide +kernel
theorem dX3_buy_41 : decode cX3_buy 41 = .ok (.istore 6, 2) := by decide +kernel
theorem dX3_buy_43 : decode cX3_buy 43 = .ok (.aload_n 0, 1) := by decide +kernel
theorem dX3_buy_44 : decode cX3_buy 44 = .ok (.iload_n 1, 1) := by decide +kernel
theorem dX3_buy_45 : decode cX3_buy 45 = .ok (.aload_n 2, 1) := by decide +kernel
theorem dX3_buy_46 : decode cX3_buy 46 = .ok (.iload 6, 2) := by decide +kernel
theorem dX3_buy_48 : decode cX3_buy 48 = .ok (.aload_n 2, 1) := by decide +kernel
theorem dX3_buy_49 : decode cX3_buy 49 = .ok (.getfield 225, 3) := by decide +kernel
theorem dX3_buy_52 : decode cX3_buy 52 = .ok (.invokevirtual 263, 3) := by decide +kernel
theorem dX3_buy_55 : decode cX3_buy 55 = .ok (.aload_n 2, 1) := by decide +kernel
theorem dX3_buy_56 : decode cX3_buy 56 = .ok (.dup, 1) := by decide +kernel
theorem dX3_buy_57 : decode cX3_buy 57 = .ok (.getfield 231, 3) := by decide +kernel
theorem dX3_buy_60 : decode cX3_buy 60 = .ok (.iload 6, 2) := by decide +kernel
theorem dX3_buy_62 : decode cX3_buy 62 = .ok (.isub, 1) := by decide +kernel
theorem dX3_buy_63 : decode cX3_buy 63 = .ok (.putfield 231, 3) := by decide +kernel
theorem dX3_buy_66 : decode cX3_buy 66 = .ok (.iload 6, 2) := by decide +kernel
theorem dX3_buy_68 : decode cX3_buy 68 = .ok (.ireturn, 1) := by decide +kernel
theorem dX3_sell_0 : decode cX3_sell 0 = .ok (.iload 4, 2) := by decide +kernel
theorem dX3_sell_2 : decode cX3_sell 2 = .ok (.aload_n 2, 1) := by decide +kernel
theorem dX3_sell_3 : decode cX3_sell 3 = .ok (.getfield 222, 3) := by decide +kernel
theorem dX3_sell_6 : decode cX3_sell 6 = .ok (.if_icmp .le 5, 3) := by decide +kernel
theorem dX3_sell_9 : decode cX3_sell 9 = .ok (.iconst 0, 1) := by decide +kernel
theorem dX3_sell_10 : decode cX3_sell 10 = .ok (.ireturn, 1) := by decide +kernel
theorem dX3_sell_11 : decode cX3_sell 11 = .ok (.iconst 0, 1) := by decide +kernel
theorem dX3_sell_12 : decode cX3_sell 12 = .ok (.aload_n 0, 1) := by decide +kernel
theorem dX3_sell_13 : decode cX3_sell 13 = .ok (.getfield 37, 3) := by decide +kernel
theorem dX3_sell_16 : decode cX3_sell 16 = .ok (.aload_n 2, 1) := by decide +kernel
theorem dX3_sell_17 : decode cX3_sell 17 = .ok (.bipush 6, 2) := by decide +kernel
theorem dX3_sell_19 : decode cX3_sell 19 = .ok (.invokevirtual 168, 3) := by decide +kernel
theorem dX3_sell_22 : decode cX3_sell 22 = .ok (.isub, 1) := by decide +kernel
theorem dX3_sell_23 : decode cX3_sell 23 = .ok (.invokestatic 261, 3) := by decide +kernel
theorem dX3_sell_26 : decode cX3_sell 26 = .ok (.istore 5, 2) := by decide +kernel
theorem dX3_sell_28 : decode cX3_sell 28 = .ok (.iload_n 3, 1) := by decide +kernel
theorem dX3_sell_29 : decode cX3_sell 29 = .ok (.aload_n 2, 1) := by decide +kernel
theorem dX3_sell_30 : decode cX3_sell 30 = .ok (.getfield 228, 3) := by decide +kernel
theorem dX3_sell_33 : decode cX3_sell 33 = .ok (.invokestatic 79, 3) := by decide +kernel
theorem dX3_sell_36 : decode cX3_sell 36 = .ok (.iload 5, 2) := by decide +kernel
theorem dX3_sell_38 : decode cX3_sell 38 = .ok (.invokestatic 79, 3) := by decide +kernel
theorem dX3_sell_41 : decode cX3_sell 41 = .ok (.istore 6, 2) := by decide +kernel
theorem dX3_sell_43 : decode cX3_sell 43 = .ok (.aload_n 0, 1) := by decide +kernel
theorem dX3_sell_44 : decode cX3_sell 44 = .ok (.iload_n 1, 1) := by decide +kernel
theorem dX3_sell_45 : decode cX3_sell 45 = .ok (.aload_n 2, 1) := by decide +kernel
theorem dX3_sell_46 : decode cX3_sell 46 = .ok (.iload 6, 2) := by decide +kernel
theorem dX3_sell_48 : decode cX3_sell 48 = .ok (.ineg, 1) := by decide +kernel
theorem dX3_sell_49 : decode cX3_sell 49 = .ok (.aload_n 2, 1) := by decide +kernel
theorem dX3_sell_50 : decode cX3_sell 50 = .ok (.getfield 222, 3) := by decide +kernel
theorem dX3_sell_53 : decode cX3_sell 53 = .ok (.invokevirtual 263, 3) := by decide +kernel
theorem dX3_sell_56 : decode cX3_sell 56 = .ok (.aload_n 2, 1) := by decide +kernel
theorem dX3_sell_57 : decode cX3_sell 57 = .ok (.dup, 1) := by decide +kernel
theorem dX3_sell_58 : decode cX3_sell 58 = .ok (.getfield 228, 3) := by decide +kernel
theorem dX3_sell_61 : decode cX3_sell 61 = .ok (.iload 6, 2) := by decide +kernel
theorem dX3_sell_63 : decode cX3_sell 63 = .ok (.isub, 1) := by decide +kernel
theorem dX3_sell_64 : decode cX3_sell 64 = .ok (.putfield 228, 3) := by decide +kernel
theorem dX3_sell_67 : decode cX3_sell 67 = .ok (.iload 6, 2) := by decide +kernel
theorem dX3_sell_69 : decode cX3_sell 69 = .ok (.ireturn, 1) := by decide +kernel
theorem dX3_deal_0 : decode cX3_deal 0 = .ok (.aload_n 2, 1) := by decide +kernel
theorem dX3_deal_1 : decode cX3_deal 1 = .ok (.iload_n 1, 1) := by decide +kernel
theorem dX3_deal_2 : decode cX3_deal 2 = .ok (.iload_n 3, 1) := by decide +kernel
theorem dX3_deal_3 : decode cX3_deal 3 = .ok (.invokevirtual 267, 3) := by decide +kernel
theorem dX3_deal_6 : decode cX3_deal 6 = .ok (.aload_n 2, 1) := by decide +kernel
theorem dX3_deal_7 : decode cX3_deal 7 = .ok (.bipush 6, 2) := by decide +kernel
theorem dX3_deal_9 : decode cX3_deal 9 = .ok (.iload_n 3, 1) := by decide +kernel
theorem dX3_deal_10 : decode cX3_deal 10 = .ok (.ineg, 1) := by decide +kernel
theorem dX3_deal_11 : decode cX3_deal 11 = .ok (.invokevirtual 267, 3) := by decide +kernel
theorem dX3_deal_14 : decode cX3_deal 14 = .ok (.ldc2_w 259, 3) := by decide +kernel
theorem dX3_deal_17 : decode cX3_deal 17 = .ok (.iload 4, 2) := by decide +kernel
theorem dX3_deal_19 : decode cX3_deal 19 = .ok (.i2l, 1) := by decide +kernel
theorem dX3_deal_20 : decode cX3_deal 20 = .ok (.lmul, 1) := by decide +kernel
theorem dX3_deal_21 : decode cX3_deal 21 = .ok (.iload_n 3, 1) := by decide +kernel
theorem dX3_deal_22 : decode cX3_deal 22 = .ok (.i2l, 1) := by decide +kernel
theorem dX3_deal_23 : decode cX3_deal 23 = .ok (.lmul, 1) := by decide +kernel
theorem dX3_deal_24 : decode cX3_deal 24 = .ok (.lstore 5, 2) := by decide +kernel
theorem dX3_deal_26 : decode cX3_deal 26 = .ok (.aload_n 0, 1) := by decide +kernel
theorem dX3_deal_27 : decode cX3_deal 27 = .ok (.iload_n 1, 1) := by decide +kernel
theorem dX3_deal_28 : decode cX3_deal 28 = .ok (.lload 5, 2) := by decide +kernel
theorem dX3_deal_30 : decode cX3_deal 30 = .ok (.lneg, 1) := by decide +kernel
theorem dX3_deal_31 : decode cX3_deal 31 = .ok (.invokevirtual 153, 3) := by decide +kernel
theorem dX3_deal_34 : decode cX3_deal 34 = .ok (.aload_n 0, 1) := by decide +kernel
theorem dX3_deal_35 : decode cX3_deal 35 = .ok (.bipush 6, 2) := by decide +kernel
theorem dX3_deal_37 : decode cX3_deal 37 = .ok (.lload 5, 2) := by decide +kernel
theorem dX3_deal_39 : decode cX3_deal 39 = .ok (.invokevirtual 153, 3) := by decide +kernel
theorem dX3_deal_42 : decode cX3_deal 42 = .ok (.return_, 1) := by decide +kernel
theorem dX3_exerciseLots_0 : decode cX3_exerciseLots 0 = .ok (.ldc2_w 259, 3) := by decide +kernel
theorem dX3_exerciseLots_3 : decode cX3_exerciseLots 3 = .ok (.aload_n 2, 1) := by decide +kernel
theorem dX3_exerciseLots_4 : decode cX3_exerciseLots 4 = .ok (.aload_n 0, 1) := by decide +kernel
theorem dX3_exerciseLots_5 : decode cX3_exerciseLots 5 = .ok (.getfield 12, 3) := by decide +kernel
theorem dX3_exerciseLots_8 : decode cX3_exerciseLots 8 = .ok (.getfield 65, 3) := by decide +kernel
theorem dX3_exerciseLots_11 : decode cX3_exerciseLots 11 = .ok (.invokevirtual 186, 3) := by decide +kernel
theorem dX3_exerciseLots_14 : decode cX3_exerciseLots 14 = .ok (.i2l, 1) := by decide +kernel
theorem dX3_exerciseLots_15 : decode cX3_exerciseLots 15 = .ok (.lmul, 1) := by decide +kernel
theorem dX3_exerciseLots_16 : decode cX3_exerciseLots 16 = .ok (.lstore 4, 2) := by decide +kernel
theorem dX3_exerciseLots_18 : decode cX3_exerciseLots 18 = .ok (.iconst 0, 1) := by decide +kernel
theorem dX3_exerciseLots_19 : decode cX3_exerciseLots 19 = .ok (.istore 6, 2) := by decide +kernel
theorem dX3_exerciseLots_21 : decode cX3_exerciseLots 21 = .ok (.iload 6, 2) := by decide +kernel
theorem dX3_exerciseLots_23 : decode cX3_exerciseLots 23 = .ok (.iload_n 3, 1) := by decide +kernel
theorem dX3_exerciseLots_24 : decode cX3_exerciseLots 24 = .ok (.if_icmp .ge 55, 3) := by decide +kernel
theorem dX3_exerciseLots_27 : decode cX3_exerciseLots 27 = .ok (.aload_n 2, 1) := by decide +kernel
theorem dX3_exerciseLots_28 : decode cX3_exerciseLots 28 = .ok (.aload_n 0, 1) := by decide +kernel
theorem dX3_exerciseLots_29 : decode cX3_exerciseLots 29 = .ok (.getfield 19, 3) := by decide +kernel
theorem dX3_exerciseLots_32 : decode cX3_exerciseLots 32 = .ok (.aload_n 2, 1) := by decide +kernel
theorem dX3_exerciseLots_33 : decode cX3_exerciseLots 33 = .ok (.invokevirtual 270, 3) := by decide +kernel
theorem dX3_exerciseLots_36 : decode cX3_exerciseLots 36 = .ok (.invokevirtual 273, 3) := by decide +kernel
theorem dX3_exerciseLots_39 : decode cX3_exerciseLots 39 = .ok (.invokevirtual 276, 3) := by decide +kernel
theorem dX3_exerciseLots_42 : decode cX3_exerciseLots 42 = .ok (.istore 7, 2) := by decide +kernel
theorem dX3_exerciseLots_44 : decode cX3_exerciseLots 44 = .ok (.aload_n 2, 1) := by decide +kernel
theorem dX3_exerciseLots_45 : decode cX3_exerciseLots 45 = .ok (.iload_n 1, 1) := by decide +kernel
theorem dX3_exerciseLots_46 : decode cX3_exerciseLots 46 = .ok (.iconst (-1), 1) := by decide +kernel
theorem dX3_exerciseLots_47 : decode cX3_exerciseLots 47 = .ok (.invokevirtual 267, 3) := by decide +kernel
theorem dX3_exerciseLots_50 : decode cX3_exerciseLots 50 = .ok (.aload_n 2, 1) := by decide +kernel
theorem dX3_exerciseLots_51 : decode cX3_exerciseLots 51 = .ok (.iload 7, 2) := by decide +kernel
theorem dX3_exerciseLots_53 : decode cX3_exerciseLots 53 = .ok (.iconst 1, 1) := by decide +kernel
theorem dX3_exerciseLots_54 : decode cX3_exerciseLots 54 = .ok (.invokevirtual 267, 3) := by decide +kernel
theorem dX3_exerciseLots_57 : decode cX3_exerciseLots 57 = .ok (.aload_n 0, 1) := by decide +kernel
theorem dX3_exerciseLots_58 : decode cX3_exerciseLots 58 = .ok (.iload_n 1, 1) := by decide +kernel
theorem dX3_exerciseLots_59 : decode cX3_exerciseLots 59 = .ok (.lload 4, 2) := by decide +kernel
theorem dX3_exerciseLots_61 : decode cX3_exerciseLots 61 = .ok (.invokevirtual 153, 3) := by decide +kernel
theorem dX3_exerciseLots_64 : decode cX3_exerciseLots 64 = .ok (.aload_n 0, 1) := by decide +kernel
theorem dX3_exerciseLots_65 : decode cX3_exerciseLots 65 = .ok (.iload 7, 2) := by decide +kernel
theorem dX3_exerciseLots_67 : decode cX3_exerciseLots 67 = .ok (.lload 4, 2) := by decide +kernel
theorem dX3_exerciseLots_69 : decode cX3_exerciseLots 69 = .ok (.lneg, 1) := by decide +kernel
theorem dX3_exerciseLots_70 : decode cX3_exerciseLots 70 = .ok (.invokevirtual 153, 3) := by decide +kernel
theorem dX3_exerciseLots_73 : decode cX3_exerciseLots 73 = .ok (.iinc 6 1, 3) := by decide +kernel
theorem dX3_exerciseLots_76 : decode cX3_exerciseLots 76 = .ok (.goto (-55), 3) := by decide +kernel
theorem dX3_exerciseLots_79 : decode cX3_exerciseLots 79 = .ok (.return_, 1) := by decide +kernel
theorem dX3_expire_0 : decode cX3_expire 0 = .ok (.aload_n 1, 1) := by decide +kernel
theorem dX3_expire_1 : decode cX3_expire 1 = .ok (.aload_n 0, 1) := by decide +kernel
theorem dX3_expire_2 : decode cX3_expire 2 = .ok (.getfield 12, 3) := by decide +kernel
theorem dX3_expire_5 : decode cX3_expire 5 = .ok (.getfield 65, 3) := by decide +kernel
theorem dX3_expire_8 : decode cX3_expire 8 = .ok (.invokevirtual 186, 3) := by decide +kernel
theorem dX3_expire_11 : decode cX3_expire 11 = .ok (.ifCond .le 36, 3) := by decide +kernel
theorem dX3_expire_14 : decode cX3_expire 14 = .ok (.iconst 0, 1) := by decide +kernel
theorem dX3_expire_15 : decode cX3_expire 15 = .ok (.istore_n 2, 1) := by decide +kernel
theorem dX3_expire_16 : decode cX3_expire 16 = .ok (.iload_n 2, 1) := by decide +kernel
theorem dX3_expire_17 : decode cX3_expire 17 = .ok (.bipush 7, 2) := by decide +kernel
theorem dX3_expire_19 : decode cX3_expire 19 = .ok (.if_icmp .ge 28, 3) := by decide +kernel
theorem dX3_expire_22 : decode cX3_expire 22 = .ok (.aload_n 1, 1) := by decide +kernel
theorem dX3_expire_23 : decode cX3_expire 23 = .ok (.iload_n 2, 1) := by decide +kernel
theorem dX3_expire_24 : decode cX3_expire 24 = .ok (.invokevirtual 279, 3) := by decide +kernel
theorem dX3_expire_27 : decode cX3_expire 27 = .ok (.ifCond .ne 14, 3) := by decide +kernel
theorem dX3_expire_30 : decode cX3_expire 30 = .ok (.aload_n 0, 1) := by decide +kernel
theorem dX3_expire_31 : decode cX3_expire 31 = .ok (.iload_n 2, 1) := by decide +kernel
theorem dX3_expire_32 : decode cX3_expire 32 = .ok (.aload_n 1, 1) := by decide +kernel
theorem dX3_expire_33 : decode cX3_expire 33 = .ok (.aload_n 1, 1) := by decide +kernel
theorem dX3_expire_34 : decode cX3_expire 34 = .ok (.iload_n 2, 1) := by decide +kernel
theorem dX3_expire_35 : decode cX3_expire 35 = .ok (.invokevirtual 168, 3) := by decide +kernel
theorem dX3_expire_38 : decode cX3_expire 38 = .ok (.invokevirtual 182, 3) := by decide +kernel
theorem dX3_expire_41 : decode cX3_expire 41 = .ok (.iinc 2 1, 3) := by decide +kernel
theorem dX3_expire_44 : decode cX3_expire 44 = .ok (.goto (-28), 3) := by decide +kernel
theorem dX3_expire_47 : decode cX3_expire 47 = .ok (.aload_n 1, 1) := by decide +kernel
theorem dX3_expire_48 : decode cX3_expire 48 = .ok (.invokevirtual 283, 3) := by decide +kernel
theorem dX3_expire_51 : decode cX3_expire 51 = .ok (.aload_n 1, 1) := by decide +kernel
theorem dX3_expire_52 : decode cX3_expire 52 = .ok (.invokevirtual 127, 3) := by decide +kernel
theorem dX3_expire_55 : decode cX3_expire 55 = .ok (.return_, 1) := by decide +kernel
theorem dX3_commonDivisor_0 : decode cX3_commonDivisor 0 = .ok (.lload_n 0, 1) := by decide +kernel
theorem dX3_commonDivisor_1 : decode cX3_commonDivisor 1 = .ok (.lstore 4, 2) := by decide +kernel
theorem dX3_commonDivisor_3 : decode cX3_commonDivisor 3 = .ok (.lload_n 2, 1) := by decide +kernel
theorem dX3_commonDivisor_4 : decode cX3_commonDivisor 4 = .ok (.lstore 6, 2) := by decide +kernel
theorem dX3_commonDivisor_6 : decode cX3_commonDivisor 6 = .ok (.iconst 0, 1) := by decide +kernel
theorem dX3_commonDivisor_7 : decode cX3_commonDivisor 7 = .ok (.istore 8, 2) := by decide +kernel
theorem dX3_commonDivisor_9 : decode cX3_commonDivisor 9 = .ok (.iload 8, 2) := by decide +kernel
theorem dX3_commonDivisor_11 : decode cX3_commonDivisor 11 = .ok (.bipush 100, 2) := by decide +kernel
theorem dX3_commonDivisor_13 : decode cX3_commonDivisor 13 = .ok (.if_icmp .ge 31, 3) := by decide +kernel
theorem dX3_commonDivisor_16 : decode cX3_commonDivisor 16 = .ok (.lload 6, 2) := by decide +kernel
theorem dX3_commonDivisor_18 : decode cX3_commonDivisor 18 = .ok (.lconst 0, 1) := by decide +kernel
theorem dX3_commonDivisor_19 : decode cX3_commonDivisor 19 = .ok (.lcmp, 1) := by decide +kernel
theorem dX3_commonDivisor_20 : decode cX3_commonDivisor 20 = .ok (.ifCond .eq 24, 3) := by decide +kernel
theorem dX3_commonDivisor_23 : decode cX3_commonDivisor 23 = .ok (.lload 4, 2) := by decide +kernel
theorem dX3_commonDivisor_25 : decode cX3_commonDivisor 25 = .ok (.lload 6, 2) := by decide +kernel
theorem dX3_commonDivisor_27 : decode cX3_commonDivisor 27 = .ok (.lrem, 1) := by decide +kernel
theorem dX3_commonDivisor_28 : decode cX3_commonDivisor 28 = .ok (.lstore 9, 2) := by decide +kernel
theorem dX3_commonDivisor_30 : decode cX3_commonDivisor 30 = .ok (.lload 6, 2) := by decide +kernel
theorem dX3_commonDivisor_32 : decode cX3_commonDivisor 32 = .ok (.lstore 4, 2) := by decide +kernel
theorem dX3_commonDivisor_34 : decode cX3_commonDivisor 34 = .ok (.lload 9, 2) := by decide +kernel
theorem dX3_commonDivisor_36 : decode cX3_commonDivisor 36 = .ok (.lstore 6, 2) := by decide +kernel
theorem dX3_commonDivisor_38 : decode cX3_commonDivisor 38 = .ok (.iinc 8 1, 3) := by decide +kernel
theorem dX3_commonDivisor_41 : decode cX3_commonDivisor 41 = .ok (.goto (-32), 3) := by decide +kernel
theorem dX3_commonDivisor_44 : decode cX3_commonDivisor 44 = .ok (.lload 4, 2) := by decide +kernel
theorem dX3_commonDivisor_46 : decode cX3_commonDivisor 46 = .ok (.lreturn, 1) := by decide +kernel
theorem dX3_thousandTimes_0 : decode cX3_thousandTimes 0 = .ok (.lload_n 2, 1) := by decide +kernel
theorem dX3_thousandTimes_1 : decode cX3_thousandTimes 1 = .ok (.lconst 0, 1) := by decide +kernel
theorem dX3_thousandTimes_2 : decode cX3_thousandTimes 2 = .ok (.lcmp, 1) := by decide +kernel
theorem dX3_thousandTimes_3 : decode cX3_thousandTimes 3 = .ok (.ifCond .gt 5, 3) := by decide +kernel
theorem dX3_thousandTimes_6 : decode cX3_thousandTimes 6 = .ok (.iconst 0, 1) := by decide +kernel
theorem dX3_thousandTimes_7 : decode cX3_thousandTimes 7 = .ok (.ireturn, 1) := by decide +kernel
theorem dX3_thousandTimes_8 : decode cX3_thousandTimes 8 = .ok (.lload_n 0, 1) := by decide +kernel
theorem dX3_thousandTimes_9 : decode cX3_thousandTimes 9 = .ok (.lload_n 2, 1) := by decide +kernel
theorem dX3_thousandTimes_10 : decode cX3_thousandTimes 10 = .ok (.ldiv, 1) := by decide +kernel
theorem dX3_thousandTimes_11 : decode cX3_thousandTimes 11 = .ok (.ldc2_w 259, 3) := by decide +kernel
theorem dX3_thousandTimes_14 : decode cX3_thousandTimes 14 = .ok (.lmul, 1) := by decide +kernel
theorem dX3_thousandTimes_15 : decode cX3_thousandTimes 15 = .ok (.lload_n 0, 1) := by decide +kernel
theorem dX3_thousandTimes_16 : decode cX3_thousandTimes 16 = .ok (.lload_n 2, 1) := by decide +kernel
theorem dX3_thousandTimes_17 : decode cX3_thousandTimes 17 = .ok (.lrem, 1) := by decide +kernel
theorem dX3_thousandTimes_18 : decode cX3_thousandTimes 18 = .ok (.ldc2_w 259, 3) := by decide +kernel
theorem dX3_thousandTimes_21 : decode cX3_thousandTimes 21 = .ok (.lmul, 1) := by decide +kernel
theorem dX3_thousandTimes_22 : decode cX3_thousandTimes 22 = .ok (.lload_n 2, 1) := by decide +kernel
theorem dX3_thousandTimes_23 : decode cX3_thousandTimes 23 = .ok (.ldiv, 1) := by decide +kernel
theorem dX3_thousandTimes_24 : decode cX3_thousandTimes 24 = .ok (.ladd, 1) := by decide +kernel
theorem dX3_thousandTimes_25 : decode cX3_thousandTimes 25 = .ok (.l2i, 1) := by decide +kernel
theorem dX3_thousandTimes_26 : decode cX3_thousandTimes 26 = .ok (.ireturn, 1) := by decide +kernel
theorem dX3_power_0 : decode cX3_power 0 = .ok (.lconst 1, 1) := by decide +kernel
theorem dX3_power_1 : decode cX3_power 1 = .ok (.lstore_n 3, 1) := by decide +kernel
theorem dX3_power_2 : decode cX3_power 2 = .ok (.iconst 0, 1) := by decide +kernel
theorem dX3_power_3 : decode cX3_power 3 = .ok (.istore 5, 2) := by decide +kernel
theorem dX3_power_5 : decode cX3_power 5 = .ok (.iload 5, 2) := by decide +kernel
theorem dX3_power_7 : decode cX3_power 7 = .ok (.iload_n 2, 1) := by decide +kernel
theorem dX3_power_8 : decode cX3_power 8 = .ok (.if_icmp .ge 13, 3) := by decide +kernel
theorem dX3_power_11 : decode cX3_power 11 = .ok (.lload_n 3, 1) := by decide +kernel
theorem dX3_power_12 : decode cX3_power 12 = .ok (.lload_n 0, 1) := by decide +kernel
theorem dX3_power_13 : decode cX3_power 13 = .ok (.lmul, 1) := by decide +kernel
theorem dX3_power_14 : decode cX3_power 14 = .ok (.lstore_n 3, 1) := by decide +kernel
theorem dX3_power_15 : decode cX3_power 15 = .ok (.iinc 5 1, 3) := by decide +kernel
theorem dX3_power_18 : decode cX3_power 18 = .ok (.goto (-13), 3) := by decide +kernel
theorem dX3_power_21 : decode cX3_power 21 = .ok (.lload_n 3, 1) := by decide +kernel
theorem dX3_power_22 : decode cX3_power 22 = .ok (.lreturn, 1) := by decide +kernel
theorem dX3_numberByWays_0 : decode cX3_numberByWays 0 = .ok (.iload_n 3, 1) := by decide +kernel
theorem dX3_numberByWays_1 : decode cX3_numberByWays 1 = .ok (.ifCond .lt 9, 3) := by decide +kernel
theorem dX3_numberByWays_4 : decode cX3_numberByWays 4 = .ok (.iload_n 3, 1) := by decide +kernel
theorem dX3_numberByWays_5 : decode cX3_numberByWays 5 = .ok (.bipush 10, 2) := by decide +kernel
theorem dX3_numberByWays_7 : decode cX3_numberByWays 7 = .ok (.if_icmp .le 5, 3) := by decide +kernel
theorem dX3_numberByWays_10 : decode cX3_numberByWays 10 = .ok (.lconst 0, 1) := by decide +kernel
theorem dX3_numberByWays_11 : decode cX3_numberByWays 11 = .ok (.lreturn, 1) := by decide +kernel
theorem dX3_numberByWays_12 : decode cX3_numberByWays 12 = .ok (.aload_n 1, 1) := by decide +kernel
theorem dX3_numberByWays_13 : decode cX3_numberByWays 13 = .ok (.iload_n 2, 1) := by decide +kernel
theorem dX3_numberByWays_14 : decode cX3_numberByWays 14 = .ok (.invokevirtual 186, 3) := by decide +kernel
theorem dX3_numberByWays_17 : decode cX3_numberByWays 17 = .ok (.istore 4, 2) := by decide +kernel
theorem dX3_numberByWays_19 : decode cX3_numberByWays 19 = .ok (.iload_n 3, 1) := by decide +kernel
theorem dX3_numberByWays_20 : decode cX3_numberByWays 20 = .ok (.ifCond .ne 7, 3) := by decide +kernel
theorem dX3_numberByWays_23 : decode cX3_numberByWays 23 = .ok (.iload 4, 2) := by decide +kernel
theorem dX3_numberByWays_25 : decode cX3_numberByWays 25 = .ok (.i2l, 1) := by decide +kernel
theorem dX3_numberByWays_26 : decode cX3_numberByWays 26 = .ok (.lreturn, 1) := by decide +kernel
theorem dX3_numberByWays_27 : decode cX3_numberByWays 27 = .ok (.iload_n 2, 1) := by decide +kernel
theorem dX3_numberByWays_28 : decode cX3_numberByWays 28 = .ok (.aload_n 0, 1) := by decide +kernel
theorem dX3_numberByWays_29 : decode cX3_numberByWays 29 = .ok (.aload_n 1, 1) := by decide +kernel
theorem dX3_numberByWays_30 : decode cX3_numberByWays 30 = .ok (.getfield 177, 3) := by decide +kernel
theorem dX3_numberByWays_33 : decode cX3_numberByWays 33 = .ok (.iload_n 3, 1) := by decide +kernel
theorem dX3_numberByWays_34 : decode cX3_numberByWays 34 = .ok (.isub, 1) := by decide +kernel
theorem dX3_numberByWays_35 : decode cX3_numberByWays 35 = .ok (.iconst 1, 1) := by decide +kernel
theorem dX3_numberByWays_36 : decode cX3_numberByWays 36 = .ok (.iadd, 1) := by decide +kernel
theorem dX3_numberByWays_37 : decode cX3_numberByWays 37 = .ok (.invokevirtual 71, 3) := by decide +kernel
theorem dX3_numberByWays_40 : decode cX3_numberByWays 40 = .ok (.isub, 1) := by decide +kernel
theorem dX3_numberByWays_41 : decode cX3_numberByWays 41 = .ok (.istore 5, 2) := by decide +kernel
theorem dX3_numberByWays_43 : decode cX3_numberByWays 43 = .ok (.aload_n 0, 1) := by decide +kernel
theorem dX3_numberByWays_44 : decode cX3_numberByWays 44 = .ok (.getfield 58, 3) := by decide +kernel
theorem dX3_numberByWays_47 : decode cX3_numberByWays 47 = .ok (.i2l, 1) := by decide +kernel
theorem dX3_numberByWays_48 : decode cX3_numberByWays 48 = .ok (.aload_n 0, 1) := by decide +kernel
theorem dX3_numberByWays_49 : decode cX3_numberByWays 49 = .ok (.aload_n 1, 1) := by decide +kernel
theorem dX3_numberByWays_50 : decode cX3_numberByWays 50 = .ok (.iload 5, 2) := by decide +kernel
theorem dX3_numberByWays_52 : decode cX3_numberByWays 52 = .ok (.bipush 10, 2) := by decide +kernel
theorem dX3_numberByWays_54 : decode cX3_numberByWays 54 = .ok (.aload_n 0, 1) := by decide +kernel
theorem dX3_numberByWays_55 : decode cX3_numberByWays 55 = .ok (.getfield 55, 3) := by decide +kernel
theorem dX3_numberByWays_58 : decode cX3_numberByWays 58 = .ok (.imul, 1) := by decide +kernel
theorem dX3_numberByWays_59 : decode cX3_numberByWays 59 = .ok (.iadd, 1) := by decide +kernel
theorem dX3_numberByWays_60 : decode cX3_numberByWays 60 = .ok (.iload_n 3, 1) := by decide +kernel
theorem dX3_numberByWays_61 : decode cX3_numberByWays 61 = .ok (.iconst 1, 1) := by decide +kernel
theorem dX3_numberByWays_62 : decode cX3_numberByWays 62 = .ok (.isub, 1) := by decide +kernel
theorem dX3_numberByWays_63 : decode cX3_numberByWays 63 = .ok (.invokestatic 214, 3) := by decide +kernel
theorem dX3_numberByWays_66 : decode cX3_numberByWays 66 = .ok (.lmul, 1) := by decide +kernel
theorem dX3_numberByWays_67 : decode cX3_numberByWays 67 = .ok (.aload_n 0, 1) := by decide +kernel
theorem dX3_numberByWays_68 : decode cX3_numberByWays 68 = .ok (.getfield 55, 3) := by decide +kernel
theorem dX3_numberByWays_71 : decode cX3_numberByWays 71 = .ok (.i2l, 1) := by decide +kernel
theorem dX3_numberByWays_72 : decode cX3_numberByWays 72 = .ok (.aload_n 0, 1) := by decide +kernel
theorem dX3_numberByWays_73 : decode cX3_numberByWays 73 = .ok (.aload_n 1, 1) := by decide +kernel
theorem dX3_numberByWays_74 : decode cX3_numberByWays 74 = .ok (.iload 5, 2) := by decide +kernel
theorem dX3_numberByWays_76 : decode cX3_numberByWays 76 = .ok (.bipush 10, 2) := by decide +kernel
theorem dX3_numberByWays_78 : decode cX3_numberByWays 78 = .ok (.aload_n 0, 1) := by decide +kernel
theorem dX3_numberByWays_79 : decode cX3_numberByWays 79 = .ok (.getfield 58, 3) := by decide +kernel
theorem dX3_numberByWays_82 : decode cX3_numberByWays 82 = .ok (.imul, 1) := by decide +kernel
theorem dX3_numberByWays_83 : decode cX3_numberByWays 83 = .ok (.isub, 1) := by decide +kernel
theorem dX3_numberByWays_84 : decode cX3_numberByWays 84 = .ok (.iload_n 3, 1) := by decide +kernel
theorem dX3_numberByWays_85 : decode cX3_numberByWays 85 = .ok (.iconst 1, 1) := by decide +kernel
theorem dX3_numberByWays_86 : decode cX3_numberByWays 86 = .ok (.isub, 1) := by decide +kernel
theorem dX3_numberByWays_87 : decode cX3_numberByWays 87 = .ok (.invokestatic 214, 3) := by decide +kernel
theorem dX3_numberByWays_90 : decode cX3_numberByWays 90 = .ok (.lmul, 1) := by decide +kernel
theorem dX3_numberByWays_91 : decode cX3_numberByWays 91 = .ok (.ladd, 1) := by decide +kernel
theorem dX3_numberByWays_92 : decode cX3_numberByWays 92 = .ok (.lstore 6, 2) := by decide +kernel
theorem dX3_numberByWays_94 : decode cX3_numberByWays 94 = .ok (.aload_n 1, 1) := by decide +kernel
theorem dX3_numberByWays_95 : decode cX3_numberByWays 95 = .ok (.getfield 173, 3) := by decide +kernel
theorem dX3_numberByWays_98 : decode cX3_numberByWays 98 = .ok (.ifCond .ne 6, 3) := by decide +kernel
theorem dX3_numberByWays_101 : decode cX3_numberByWays 101 = .ok (.lload 6, 2) := by decide +kernel
theorem dX3_numberByWays_103 : decode cX3_numberByWays 103 = .ok (.lreturn, 1) := by decide +kernel
theorem dX3_numberByWays_104 : decode cX3_numberByWays 104 = .ok (.lload 6, 2) := by decide +kernel
theorem dX3_numberByWays_106 : decode cX3_numberByWays 106 = .ok (.iload 4, 2) := by decide +kernel
theorem dX3_numberByWays_108 : decode cX3_numberByWays 108 = .ok (.i2l, 1) := by decide +kernel
theorem dX3_numberByWays_109 : decode cX3_numberByWays 109 = .ok (.aload_n 0, 1) := by decide +kernel
theorem dX3_numberByWays_110 : decode cX3_numberByWays 110 = .ok (.getfield 55, 3) := by decide +kernel
theorem dX3_numberByWays_113 : decode cX3_numberByWays 113 = .ok (.aload_n 0, 1) := by decide +kernel
theorem dX3_numberByWays_114 : decode cX3_numberByWays 114 = .ok (.getfield 58, 3) := by decide +kernel
theorem dX3_numberByWays_117 : decode cX3_numberByWays 117 = .ok (.iadd, 1) := by decide +kernel
theorem dX3_numberByWays_118 : decode cX3_numberByWays 118 = .ok (.i2l, 1) := by decide +kernel
theorem dX3_numberByWays_119 : decode cX3_numberByWays 119 = .ok (.iload_n 3, 1) := by decide +kernel
theorem dX3_numberByWays_120 : decode cX3_numberByWays 120 = .ok (.invokestatic 286, 3) := by decide +kernel
theorem dX3_numberByWays_123 : decode cX3_numberByWays 123 = .ok (.lmul, 1) := by decide +kernel
theorem dX3_numberByWays_124 : decode cX3_numberByWays 124 = .ok (.invokestatic 248, 3) := by decide +kernel
theorem dX3_numberByWays_127 : decode cX3_numberByWays 127 = .ok (.lreturn, 1) := by decide +kernel
theorem dX3_firstFault_0 : decode cX3_firstFault 0 = .ok (.aload_n 0, 1) := by decide +kernel
theorem dX3_firstFault_1 : decode cX3_firstFault 1 = .ok (.invokevirtual 290, 3) := by decide +kernel
theorem dX3_firstFault_4 : decode cX3_firstFault 4 = .ok (.ifCond .eq 5, 3) := by decide +kernel
theorem dX3_firstFault_7 : decode cX3_firstFault 7 = .ok (.iconst 1, 1) := by decide +kernel
theorem dX3_firstFault_8 : decode cX3_firstFault 8 = .ok (.ireturn, 1) := by decide +kernel
theorem dX3_firstFault_9 : decode cX3_firstFault 9 = .ok (.aload_n 0, 1) := by decide +kernel
theorem dX3_firstFault_10 : decode cX3_firstFault 10 = .ok (.invokevirtual 293, 3) := by decide +kernel
theorem dX3_firstFault_13 : decode cX3_firstFault 13 = .ok (.ifCond .eq 5, 3) := by decide +kernel
theorem dX3_firstFault_16 : decode cX3_firstFault 16 = .ok (.iconst 2, 1) := by decide +kernel
theorem dX3_firstFault_17 : decode cX3_firstFault 17 = .ok (.ireturn, 1) := by decide +kernel
theorem dX3_firstFault_18 : decode cX3_firstFault 18 = .ok (.aload_n 0, 1) := by decide +kernel
theorem dX3_firstFault_19 : decode cX3_firstFault 19 = .ok (.invokevirtual 296, 3) := by decide +kernel
theorem dX3_firstFault_22 : decode cX3_firstFault 22 = .ok (.ifCond .eq 5, 3) := by decide +kernel
theorem dX3_firstFault_25 : decode cX3_firstFault 25 = .ok (.iconst 3, 1) := by decide +kernel
theorem dX3_firstFault_26 : decode cX3_firstFault 26 = .ok (.ireturn, 1) := by decide +kernel
theorem dX3_firstFault_27 : decode cX3_firstFault 27 = .ok (.aload_n 0, 1) := by decide +kernel
theorem dX3_firstFault_28 : decode cX3_firstFault 28 = .ok (.invokevirtual 299, 3) := by decide +kernel
theorem dX3_firstFault_31 : decode cX3_firstFault 31 = .ok (.ifCond .eq 7, 3) := by decide +kernel
theorem dX3_firstFault_34 : decode cX3_firstFault 34 = .ok (.iconst 4, 1) := by decide +kernel
theorem dX3_firstFault_35 : decode cX3_firstFault 35 = .ok (.goto 4, 3) := by decide +kernel
theorem dX3_firstFault_38 : decode cX3_firstFault 38 = .ok (.iconst 0, 1) := by decide +kernel
theorem dX3_firstFault_39 : decode cX3_firstFault 39 = .ok (.ireturn, 1) := by decide +kernel
theorem dX3_hasCrossedQuote_0 : decode cX3_hasCrossedQuote 0 = .ok (.iconst 0, 1) := by decide +kernel
theorem dX3_hasCrossedQuote_1 : decode cX3_hasCrossedQuote 1 = .ok (.istore_n 1, 1) := by decide +kernel
theorem dX3_hasCrossedQuote_2 : decode cX3_hasCrossedQuote 2 = .ok (.iload_n 1, 1) := by decide +kernel
theorem dX3_hasCrossedQuote_3 : decode cX3_hasCrossedQuote 3 = .ok (.aload_n 0, 1) := by decide +kernel
theorem dX3_hasCrossedQuote_4 : decode cX3_hasCrossedQuote 4 = .ok (.getfield 26, 3) := by decide +kernel
theorem dX3_hasCrossedQuote_7 : decode cX3_hasCrossedQuote 7 = .ok (.invokevirtual 85, 3) := by decide +kernel
theorem dX3_hasCrossedQuote_10 : decode cX3_hasCrossedQuote 10 = .ok (.if_icmp .ge 41, 3) := by decide +kernel
theorem dX3_hasCrossedQuote_13 : decode cX3_hasCrossedQuote 13 = .ok (.aload_n 0, 1) := by decide +kernel
theorem dX3_hasCrossedQuote_14 : decode cX3_hasCrossedQuote 14 = .ok (.getfield 26, 3) := by decide +kernel
theorem dX3_hasCrossedQuote_17 : decode cX3_hasCrossedQuote 17 = .ok (.iload_n 1, 1) := by decide +kernel
theorem dX3_hasCrossedQuote_18 : decode cX3_hasCrossedQuote 18 = .ok (.invokevirtual 119, 3) := by decide +kernel
theorem dX3_hasCrossedQuote_21 : decode cX3_hasCrossedQuote 21 = .ok (.checkcast 96, 3) := by decide +kernel
theorem dX3_hasCrossedQuote_24 : decode cX3_hasCrossedQuote 24 = .ok (.astore_n 2, 1) := by decide +kernel
theorem dX3_hasCrossedQuote_25 : decode cX3_hasCrossedQuote 25 = .ok (.aload_n 2, 1) := by decide +kernel
theorem dX3_hasCrossedQuote_26 : decode cX3_hasCrossedQuote 26 = .ok (.invokevirtual 302, 3) := by decide +kernel
theorem dX3_hasCrossedQuote_29 : decode cX3_hasCrossedQuote 29 = .ok (.ifCond .eq 16, 3) := by decide +kernel
theorem dX3_hasCrossedQuote_32 : decode cX3_hasCrossedQuote 32 = .ok (.aload_n 2, 1) := by decide +kernel
theorem dX3_hasCrossedQuote_33 : decode cX3_hasCrossedQuote 33 = .ok (.getfield 222, 3) := by decide +kernel
theorem dX3_hasCrossedQuote_36 : decode cX3_hasCrossedQuote 36 = .ok (.aload_n 2, 1) := by decide +kernel
theorem dX3_hasCrossedQuote_37 : decode cX3_hasCrossedQuote 37 = .ok (.getfield 225, 3) := by decide +kernel
theorem dX3_hasCrossedQuote_40 : decode cX3_hasCrossedQuote 40 = .ok (.if_icmp .lt 5, 3) := by decide +kernel
theorem dX3_hasCrossedQuote_43 : decode cX3_hasCrossedQuote 43 = .ok (.iconst 1, 1) := by decide +kernel
theorem dX3_hasCrossedQuote_44 : decode cX3_hasCrossedQuote 44 = .ok (.ireturn, 1) := by decide +kernel
theorem dX3_hasCrossedQuote_45 : decode cX3_hasCrossedQuote 45 = .ok (.iinc 1 1, 3) := by decide +kernel
theorem dX3_hasCrossedQuote_48 : decode cX3_hasCrossedQuote 48 = .ok (.goto (-46), 3) := by decide +kernel
theorem dX3_hasCrossedQuote_51 : decode cX3_hasCrossedQuote 51 = .ok (.iconst 0, 1) := by decide +kernel
theorem dX3_hasCrossedQuote_52 : decode cX3_hasCrossedQuote 52 = .ok (.ireturn, 1) := by decide +kernel
theorem dX3_hasStrikesFault_0 : decode cX3_hasStrikesFault 0 = .ok (.iconst 0, 1) := by decide +kernel
theorem dX3_hasStrikesFault_1 : decode cX3_hasStrikesFault 1 = .ok (.istore_n 1, 1) := by decide +kernel
theorem dX3_hasStrikesFault_2 : decode cX3_hasStrikesFault 2 = .ok (.iload_n 1, 1) := by decide +kernel
theorem dX3_hasStrikesFault_3 : decode cX3_hasStrikesFault 3 = .ok (.aload_n 0, 1) := by decide +kernel
theorem dX3_hasStrikesFault_4 : decode cX3_hasStrikesFault 4 = .ok (.getfield 26, 3) := by decide +kernel
theorem dX3_hasStrikesFault_7 : decode cX3_hasStrikesFault 7 = .ok (.invokevirtual 85, 3) := by decide +kernel
theorem dX3_hasStrikesFault_10 : decode cX3_hasStrikesFault 10 = .ok (.if_icmp .ge 58, 3) := by decide +kernel
theorem dX3_hasStrikesFault_13 : decode cX3_hasStrikesFault 13 = .ok (.iconst 0, 1) := by decide +kernel
theorem dX3_hasStrikesFault_14 : decode cX3_hasStrikesFault 14 = .ok (.istore_n 2, 1) := by decide +kernel
theorem dX3_hasStrikesFault_15 : decode cX3_hasStrikesFault 15 = .ok (.iload_n 2, 1) := by decide +kernel
theorem dX3_hasStrikesFault_16 : decode cX3_hasStrikesFault 16 = .ok (.aload_n 0, 1) := by decide +kernel
theorem dX3_hasStrikesFault_17 : decode cX3_hasStrikesFault 17 = .ok (.getfield 26, 3) := by decide +kernel
theorem dX3_hasStrikesFault_20 : decode cX3_hasStrikesFault 20 = .ok (.invokevirtual 85, 3) := by decide +kernel
theorem dX3_hasStrikesFault_23 : decode cX3_hasStrikesFault 23 = .ok (.if_icmp .ge 39, 3) := by decide +kernel
theorem dX3_hasStrikesFault_26 : decode cX3_hasStrikesFault 26 = .ok (.aload_n 0, 1) := by decide +kernel
theorem dX3_hasStrikesFault_27 : decode cX3_hasStrikesFault 27 = .ok (.getfield 26, 3) := by decide +kernel
theorem dX3_hasStrikesFault_30 : decode cX3_hasStrikesFault 30 = .ok (.iload_n 1, 1) := by decide +kernel
theorem dX3_hasStrikesFault_31 : decode cX3_hasStrikesFault 31 = .ok (.invokevirtual 119, 3) := by decide +kernel
theorem dX3_hasStrikesFault_34 : decode cX3_hasStrikesFault 34 = .ok (.checkcast 96, 3) := by decide +kernel
theorem dX3_hasStrikesFault_37 : decode cX3_hasStrikesFault 37 = .ok (.aload_n 0, 1) := by decide +kernel
theorem dX3_hasStrikesFault_38 : decode cX3_hasStrikesFault 38 = .ok (.getfield 26, 3) := by decide +kernel
theorem dX3_hasStrikesFault_41 : decode cX3_hasStrikesFault 41 = .ok (.iload_n 2, 1) := by decide +kernel
theorem dX3_hasStrikesFault_42 : decode cX3_hasStrikesFault 42 = .ok (.invokevirtual 119, 3) := by decide +kernel
theorem dX3_hasStrikesFault_45 : decode cX3_hasStrikesFault 45 = .ok (.checkcast 96, 3) := by decide +kernel
theorem dX3_hasStrikesFault_48 : decode cX3_hasStrikesFault 48 = .ok (.invokestatic 305, 3) := by decide +kernel
theorem dX3_hasStrikesFault_51 : decode cX3_hasStrikesFault 51 = .ok (.ifCond .eq 5, 3) := by decide +kernel
theorem dX3_hasStrikesFault_54 : decode cX3_hasStrikesFault 54 = .ok (.iconst 1, 1) := by decide +kernel
theorem dX3_hasStrikesFault_55 : decode cX3_hasStrikesFault 55 = .ok (.ireturn, 1) := by decide +kernel
theorem dX3_hasStrikesFault_56 : decode cX3_hasStrikesFault 56 = .ok (.iinc 2 1, 3) := by decide +kernel
theorem dX3_hasStrikesFault_59 : decode cX3_hasStrikesFault 59 = .ok (.goto (-44), 3) := by decide +kernel
theorem dX3_hasStrikesFault_62 : decode cX3_hasStrikesFault 62 = .ok (.iinc 1 1, 3) := by decide +kernel
theorem dX3_hasStrikesFault_65 : decode cX3_hasStrikesFault 65 = .ok (.goto (-63), 3) := by decide +kernel
theorem dX3_hasStrikesFault_68 : decode cX3_hasStrikesFault 68 = .ok (.iconst 0, 1) := by decide +kernel
theorem dX3_hasStrikesFault_69 : decode cX3_hasStrikesFault 69 = .ok (.ireturn, 1) := by decide +kernel
theorem dX3_hasMiddleFault_0 : decode cX3_hasMiddleFault 0 = .ok (.iconst 0, 1) := by decide +kernel
theorem dX3_hasMiddleFault_1 : decode cX3_hasMiddleFault 1 = .ok (.istore_n 1, 1) := by decide +kernel
theorem dX3_hasMiddleFault_2 : decode cX3_hasMiddleFault 2 = .ok (.iload_n 1, 1) := by decide +kernel
theorem dX3_hasMiddleFault_3 : decode cX3_hasMiddleFault 3 = .ok (.aload_n 0, 1) := by decide +kernel
theorem dX3_hasMiddleFault_4 : decode cX3_hasMiddleFault 4 = .ok (.getfield 26, 3) := by decide +kernel
theorem dX3_hasMiddleFault_7 : decode cX3_hasMiddleFault 7 = .ok (.invokevirtual 85, 3) := by decide +kernel
theorem dX3_hasMiddleFault_10 : decode cX3_hasMiddleFault 10 = .ok (.if_icmp .ge 87, 3) := by decide +kernel
theorem dX3_hasMiddleFault_13 : decode cX3_hasMiddleFault 13 = .ok (.iconst 0, 1) := by decide +kernel
theorem dX3_hasMiddleFault_14 : decode cX3_hasMiddleFault 14 = .ok (.istore_n 2, 1) := by decide +kernel
theorem dX3_hasMiddleFault_15 : decode cX3_hasMiddleFault 15 = .ok (.iload_n 2, 1) := by decide +kernel
theorem dX3_hasMiddleFault_16 : decode cX3_hasMiddleFault 16 = .ok (.aload_n 0, 1) := by decide +kernel
theorem dX3_hasMiddleFault_17 : decode cX3_hasMiddleFault 17 = .ok (.getfield 26, 3) := by decide +kernel
theorem dX3_hasMiddleFault_20 : decode cX3_hasMiddleFault 20 = .ok (.invokevirtual 85, 3) := by decide +kernel
theorem dX3_hasMiddleFault_23 : decode cX3_hasMiddleFault 23 = .ok (.if_icmp .ge 68, 3) := by decide +kernel
theorem dX3_hasMiddleFault_26 : decode cX3_hasMiddleFault 26 = .ok (.aload_n 0, 1) := by decide +kernel
theorem dX3_hasMiddleFault_27 : decode cX3_hasMiddleFault 27 = .ok (.getfield 26, 3) := by decide +kernel
theorem dX3_hasMiddleFault_30 : decode cX3_hasMiddleFault 30 = .ok (.iload_n 1, 1) := by decide +kernel
theorem dX3_hasMiddleFault_31 : decode cX3_hasMiddleFault 31 = .ok (.invokevirtual 119, 3) := by decide +kernel
theorem dX3_hasMiddleFault_34 : decode cX3_hasMiddleFault 34 = .ok (.checkcast 96, 3) := by decide +kernel
theorem dX3_hasMiddleFault_37 : decode cX3_hasMiddleFault 37 = .ok (.aload_n 0, 1) := by decide +kernel
theorem dX3_hasMiddleFault_38 : decode cX3_hasMiddleFault 38 = .ok (.getfield 26, 3) := by decide +kernel
theorem dX3_hasMiddleFault_41 : decode cX3_hasMiddleFault 41 = .ok (.iload_n 2, 1) := by decide +kernel
theorem dX3_hasMiddleFault_42 : decode cX3_hasMiddleFault 42 = .ok (.invokevirtual 119, 3) := by decide +kernel
theorem dX3_hasMiddleFault_45 : decode cX3_hasMiddleFault 45 = .ok (.checkcast 96, 3) := by decide +kernel
theorem dX3_hasMiddleFault_48 : decode cX3_hasMiddleFault 48 = .ok (.invokestatic 309, 3) := by decide +kernel
theorem dX3_hasMiddleFault_51 : decode cX3_hasMiddleFault 51 = .ok (.ifCond .eq 34, 3) := by decide +kernel
theorem dX3_hasMiddleFault_54 : decode cX3_hasMiddleFault 54 = .ok (.aload_n 0, 1) := by decide +kernel
theorem dX3_hasMiddleFault_55 : decode cX3_hasMiddleFault 55 = .ok (.aload_n 0, 1) := by decide +kernel
theorem dX3_hasMiddleFault_56 : decode cX3_hasMiddleFault 56 = .ok (.getfield 26, 3) := by decide +kernel
theorem dX3_hasMiddleFault_59 : decode cX3_hasMiddleFault 59 = .ok (.iload_n 1, 1) := by decide +kernel
theorem dX3_hasMiddleFault_60 : decode cX3_hasMiddleFault 60 = .ok (.invokevirtual 119, 3) := by decide +kernel
theorem dX3_hasMiddleFault_63 : decode cX3_hasMiddleFault 63 = .ok (.checkcast 96, 3) := by decide +kernel
theorem dX3_hasMiddleFault_66 : decode cX3_hasMiddleFault 66 = .ok (.aload_n 0, 1) := by decide +kernel
theorem dX3_hasMiddleFault_67 : decode cX3_hasMiddleFault 67 = .ok (.getfield 26, 3) := by decide +kernel
theorem dX3_hasMiddleFault_70 : decode cX3_hasMiddleFault 70 = .ok (.iload_n 2, 1) := by decide +kernel
theorem dX3_hasMiddleFault_71 : decode cX3_hasMiddleFault 71 = .ok (.invokevirtual 119, 3) := by decide +kernel
theorem dX3_hasMiddleFault_74 : decode cX3_hasMiddleFault 74 = .ok (.checkcast 96, 3) := by decide +kernel
theorem dX3_hasMiddleFault_77 : decode cX3_hasMiddleFault 77 = .ok (.invokevirtual 312, 3) := by decide +kernel
theorem dX3_hasMiddleFault_80 : decode cX3_hasMiddleFault 80 = .ok (.ifCond .eq 5, 3) := by decide +kernel
theorem dX3_hasMiddleFault_83 : decode cX3_hasMiddleFault 83 = .ok (.iconst 1, 1) := by decide +kernel
theorem dX3_hasMiddleFault_84 : decode cX3_hasMiddleFault 84 = .ok (.ireturn, 1) := by decide +kernel
theorem dX3_hasMiddleFault_85 : decode cX3_hasMiddleFault 85 = .ok (.iinc 2 1, 3) := by decide +kernel
theorem dX3_hasMiddleFault_88 : decode cX3_hasMiddleFault 88 = .ok (.goto (-73), 3) := by decide +kernel
theorem dX3_hasMiddleFault_91 : decode cX3_hasMiddleFault 91 = .ok (.iinc 1 1, 3) := by decide +kernel
theorem dX3_hasMiddleFault_94 : decode cX3_hasMiddleFault 94 = .ok (.goto (-92), 3) := by decide +kernel
theorem dX3_hasMiddleFault_97 : decode cX3_hasMiddleFault 97 = .ok (.iconst 0, 1) := by decide +kernel
theorem dX3_hasMiddleFault_98 : decode cX3_hasMiddleFault 98 = .ok (.ireturn, 1) := by decide +kernel
theorem dX3_hasMiddleFaultWith_0 : decode cX3_hasMiddleFaultWith 0 = .ok (.iconst 0, 1) := by decide +kernel
theorem dX3_hasMiddleFaultWith_1 : decode cX3_hasMiddleFaultWith 1 = .ok (.istore_n 3, 1) := by decide +kernel
theorem dX3_hasMiddleFaultWith_2 : decode cX3_hasMiddleFaultWith 2 = .ok (.iload_n 3, 1) := by decide +kernel
theorem dX3_hasMiddleFaultWith_3 : decode cX3_hasMiddleFaultWith 3 = .ok (.aload_n 0, 1) := by decide +kernel
theorem dX3_hasMiddleFaultWith_4 : decode cX3_hasMiddleFaultWith 4 = .ok (.getfield 26, 3) := by decide +kernel
theorem dX3_hasMiddleFaultWith_7 : decode cX3_hasMiddleFaultWith 7 = .ok (.invokevirtual 85, 3) := by decide +kernel
theorem dX3_hasMiddleFaultWith_10 : decode cX3_hasMiddleFaultWith 10 = .ok (.if_icmp .ge 30, 3) := by decide +kernel
theorem dX3_hasMiddleFaultWith_13 : decode cX3_hasMiddleFaultWith 13 = .ok (.aload_n 1, 1) := by decide +kernel
theorem dX3_hasMiddleFaultWith_14 : decode cX3_hasMiddleFaultWith 14 = .ok (.aload_n 2, 1) := by decide +kernel
theorem dX3_hasMiddleFaultWith_15 : decode cX3_hasMiddleFaultWith 15 = .ok (.aload_n 0, 1) := by decide +kernel
theorem dX3_hasMiddleFaultWith_16 : decode cX3_hasMiddleFaultWith 16 = .ok (.getfield 26, 3) := by decide +kernel
theorem dX3_hasMiddleFaultWith_19 : decode cX3_hasMiddleFaultWith 19 = .ok (.iload_n 3, 1) := by decide +kernel
theorem dX3_hasMiddleFaultWith_20 : decode cX3_hasMiddleFaultWith 20 = .ok (.invokevirtual 119, 3) := by decide +kernel
theorem dX3_hasMiddleFaultWith_23 : decode cX3_hasMiddleFaultWith 23 = .ok (.checkcast 96, 3) := by decide +kernel
theorem dX3_hasMiddleFaultWith_26 : decode cX3_hasMiddleFaultWith 26 = .ok (.invokestatic 315, 3) := by decide +kernel
theorem dX3_hasMiddleFaultWith_29 : decode cX3_hasMiddleFaultWith 29 = .ok (.ifCond .eq 5, 3) := by decide +kernel
theorem dX3_hasMiddleFaultWith_32 : decode cX3_hasMiddleFaultWith 32 = .ok (.iconst 1, 1) := by decide +kernel
theorem dX3_hasMiddleFaultWith_33 : decode cX3_hasMiddleFaultWith 33 = .ok (.ireturn, 1) := by decide +kernel
theorem dX3_hasMiddleFaultWith_34 : decode cX3_hasMiddleFaultWith 34 = .ok (.iinc 3 1, 3) := by decide +kernel
theorem dX3_hasMiddleFaultWith_37 : decode cX3_hasMiddleFaultWith 37 = .ok (.goto (-35), 3) := by decide +kernel
theorem dX3_hasMiddleFaultWith_40 : decode cX3_hasMiddleFaultWith 40 = .ok (.iconst 0, 1) := by decide +kernel
theorem dX3_hasMiddleFaultWith_41 : decode cX3_hasMiddleFaultWith 41 = .ok (.ireturn, 1) := by decide +kernel
theorem dX3_hasExpiriesFault_0 : decode cX3_hasExpiriesFault 0 = .ok (.iconst 0, 1) := by decide +kernel
theorem dX3_hasExpiriesFault_1 : decode cX3_hasExpiriesFault 1 = .ok (.istore_n 1, 1) := by decide +kernel
theorem dX3_hasExpiriesFault_2 : decode cX3_hasExpiriesFault 2 = .ok (.iload_n 1, 1) := by decide +kernel
theorem dX3_hasExpiriesFault_3 : decode cX3_hasExpiriesFault 3 = .ok (.aload_n 0, 1) := by decide +kernel
theorem dX3_hasExpiriesFault_4 : decode cX3_hasExpiriesFault 4 = .ok (.getfield 26, 3) := by decide +kernel
theorem dX3_hasExpiriesFault_7 : decode cX3_hasExpiriesFault 7 = .ok (.invokevirtual 85, 3) := by decide +kernel
theorem dX3_hasExpiriesFault_10 : decode cX3_hasExpiriesFault 10 = .ok (.if_icmp .ge 58, 3) := by decide +kernel
theorem dX3_hasExpiriesFault_13 : decode cX3_hasExpiriesFault 13 = .ok (.iconst 0, 1) := by decide +kernel
theorem dX3_hasExpiriesFault_14 : decode cX3_hasExpiriesFault 14 = .ok (.istore_n 2, 1) := by decide +kernel
theorem dX3_hasExpiriesFault_15 : decode cX3_hasExpiriesFault 15 = .ok (.iload_n 2, 1) := by decide +kernel
theorem dX3_hasExpiriesFault_16 : decode cX3_hasExpiriesFault 16 = .ok (.aload_n 0, 1) := by decide +kernel
theorem dX3_hasExpiriesFault_17 : decode cX3_hasExpiriesFault 17 = .ok (.getfield 26, 3) := by decide +kernel
theorem dX3_hasExpiriesFault_20 : decode cX3_hasExpiriesFault 20 = .ok (.invokevirtual 85, 3) := by decide +kernel
theorem dX3_hasExpiriesFault_23 : decode cX3_hasExpiriesFault 23 = .ok (.if_icmp .ge 39, 3) := by decide +kernel
theorem dX3_hasExpiriesFault_26 : decode cX3_hasExpiriesFault 26 = .ok (.aload_n 0, 1) := by decide +kernel
theorem dX3_hasExpiriesFault_27 : decode cX3_hasExpiriesFault 27 = .ok (.getfield 26, 3) := by decide +kernel
theorem dX3_hasExpiriesFault_30 : decode cX3_hasExpiriesFault 30 = .ok (.iload_n 1, 1) := by decide +kernel
theorem dX3_hasExpiriesFault_31 : decode cX3_hasExpiriesFault 31 = .ok (.invokevirtual 119, 3) := by decide +kernel
theorem dX3_hasExpiriesFault_34 : decode cX3_hasExpiriesFault 34 = .ok (.checkcast 96, 3) := by decide +kernel
theorem dX3_hasExpiriesFault_37 : decode cX3_hasExpiriesFault 37 = .ok (.aload_n 0, 1) := by decide +kernel
theorem dX3_hasExpiriesFault_38 : decode cX3_hasExpiriesFault 38 = .ok (.getfield 26, 3) := by decide +kernel
theorem dX3_hasExpiriesFault_41 : decode cX3_hasExpiriesFault 41 = .ok (.iload_n 2, 1) := by decide +kernel
theorem dX3_hasExpiriesFault_42 : decode cX3_hasExpiriesFault 42 = .ok (.invokevirtual 119, 3) := by decide +kernel
theorem dX3_hasExpiriesFault_45 : decode cX3_hasExpiriesFault 45 = .ok (.checkcast 96, 3) := by decide +kernel
theorem dX3_hasExpiriesFault_48 : decode cX3_hasExpiriesFault 48 = .ok (.invokestatic 319, 3) := by decide +kernel
theorem dX3_hasExpiriesFault_51 : decode cX3_hasExpiriesFault 51 = .ok (.ifCond .eq 5, 3) := by decide +kernel
theorem dX3_hasExpiriesFault_54 : decode cX3_hasExpiriesFault 54 = .ok (.iconst 1, 1) := by decide +kernel
theorem dX3_hasExpiriesFault_55 : decode cX3_hasExpiriesFault 55 = .ok (.ireturn, 1) := by decide +kernel
theorem dX3_hasExpiriesFault_56 : decode cX3_hasExpiriesFault 56 = .ok (.iinc 2 1, 3) := by decide +kernel
theorem dX3_hasExpiriesFault_59 : decode cX3_hasExpiriesFault 59 = .ok (.goto (-44), 3) := by decide +kernel
theorem dX3_hasExpiriesFault_62 : decode cX3_hasExpiriesFault 62 = .ok (.iinc 1 1, 3) := by decide +kernel
theorem dX3_hasExpiriesFault_65 : decode cX3_hasExpiriesFault 65 = .ok (.goto (-63), 3) := by decide +kernel
theorem dX3_hasExpiriesFault_68 : decode cX3_hasExpiriesFault 68 = .ok (.iconst 0, 1) := by decide +kernel
theorem dX3_hasExpiriesFault_69 : decode cX3_hasExpiriesFault 69 = .ok (.ireturn, 1) := by decide +kernel
theorem dX3_isStrikePair_0 : decode cX3_isStrikePair 0 = .ok (.aload_n 0, 1) := by decide +kernel
theorem dX3_isStrikePair_1 : decode cX3_isStrikePair 1 = .ok (.invokevirtual 302, 3) := by decide +kernel
theorem dX3_isStrikePair_4 : decode cX3_isStrikePair 4 = .ok (.ifCond .eq 58, 3) := by decide +kernel
theorem dX3_isStrikePair_7 : decode cX3_isStrikePair 7 = .ok (.aload_n 1, 1) := by decide +kernel
theorem dX3_isStrikePair_8 : decode cX3_isStrikePair 8 = .ok (.invokevirtual 302, 3) := by decide +kernel
theorem dX3_isStrikePair_11 : decode cX3_isStrikePair 11 = .ok (.ifCond .eq 51, 3) := by decide +kernel
theorem dX3_isStrikePair_14 : decode cX3_isStrikePair 14 = .ok (.aload_n 0, 1) := by decide +kernel
theorem dX3_isStrikePair_15 : decode cX3_isStrikePair 15 = .ok (.getfield 322, 3) := by decide +kernel
theorem dX3_isStrikePair_18 : decode cX3_isStrikePair 18 = .ok (.aload_n 1, 1) := by decide +kernel
theorem dX3_isStrikePair_19 : decode cX3_isStrikePair 19 = .ok (.getfield 322, 3) := by decide +kernel
theorem dX3_isStrikePair_22 : decode cX3_isStrikePair 22 = .ok (.if_icmp .ge 40, 3) := by decide +kernel
theorem dX3_isStrikePair_25 : decode cX3_isStrikePair 25 = .ok (.aload_n 0, 1) := by decide +kernel
theorem dX3_isStrikePair_26 : decode cX3_isStrikePair 26 = .ok (.getfield 325, 3) := by decide +kernel
theorem dX3_isStrikePair_29 : decode cX3_isStrikePair 29 = .ok (.aload_n 1, 1) := by decide +kernel
theorem dX3_isStrikePair_30 : decode cX3_isStrikePair 30 = .ok (.getfield 325, 3) := by decide +kernel
theorem dX3_isStrikePair_33 : decode cX3_isStrikePair 33 = .ok (.if_icmp .ne 29, 3) := by decide +kernel
theorem dX3_isStrikePair_36 : decode cX3_isStrikePair 36 = .ok (.aload_n 0, 1) := by decide +kernel
theorem dX3_isStrikePair_37 : decode cX3_isStrikePair 37 = .ok (.getfield 177, 3) := by decide +kernel
theorem dX3_isStrikePair_40 : decode cX3_isStrikePair 40 = .ok (.aload_n 1, 1) := by decide +kernel
theorem dX3_isStrikePair_41 : decode cX3_isStrikePair 41 = .ok (.getfield 177, 3) := by decide +kernel
theorem dX3_isStrikePair_44 : decode cX3_isStrikePair 44 = .ok (.if_icmp .ne 18, 3) := by decide +kernel
theorem dX3_isStrikePair_47 : decode cX3_isStrikePair 47 = .ok (.aload_n 0, 1) := by decide +kernel
theorem dX3_isStrikePair_48 : decode cX3_isStrikePair 48 = .ok (.getfield 173, 3) := by decide +kernel
theorem dX3_isStrikePair_51 : decode cX3_isStrikePair 51 = .ok (.aload_n 1, 1) := by decide +kernel
theorem dX3_isStrikePair_52 : decode cX3_isStrikePair 52 = .ok (.getfield 173, 3) := by decide +kernel
theorem dX3_isStrikePair_55 : decode cX3_isStrikePair 55 = .ok (.if_icmp .ne 7, 3) := by decide +kernel
theorem dX3_isStrikePair_58 : decode cX3_isStrikePair 58 = .ok (.iconst 1, 1) := by decide +kernel
theorem dX3_isStrikePair_59 : decode cX3_isStrikePair 59 = .ok (.goto 4, 3) := by decide +kernel
theorem dX3_isStrikePair_62 : decode cX3_isStrikePair 62 = .ok (.iconst 0, 1) := by decide +kernel
theorem dX3_isStrikePair_63 : decode cX3_isStrikePair 63 = .ok (.ireturn, 1) := by decide +kernel
theorem dX3_isStrikesFault_0 : decode cX3_isStrikesFault 0 = .ok (.aload_n 0, 1) := by decide +kernel
theorem dX3_isStrikesFault_1 : decode cX3_isStrikesFault 1 = .ok (.aload_n 1, 1) := by decide +kernel
theorem dX3_isStrikesFault_2 : decode cX3_isStrikesFault 2 = .ok (.invokestatic 309, 3) := by decide +kernel
theorem dX3_isStrikesFault_5 : decode cX3_isStrikesFault 5 = .ok (.ifCond .ne 5, 3) := by decide +kernel
theorem dX3_isStrikesFault_8 : decode cX3_isStrikesFault 8 = .ok (.iconst 0, 1) := by decide +kernel
theorem dX3_isStrikesFault_9 : decode cX3_isStrikesFault 9 = .ok (.ireturn, 1) := by decide +kernel
theorem dX3_isStrikesFault_10 : decode cX3_isStrikesFault 10 = .ok (.aload_n 0, 1) := by decide +kernel
theorem dX3_isStrikesFault_11 : decode cX3_isStrikesFault 11 = .ok (.getfield 325, 3) := by decide +kernel
theorem dX3_isStrikesFault_14 : decode cX3_isStrikesFault 14 = .ok (.ifCond .ne 22, 3) := by decide +kernel
theorem dX3_isStrikesFault_17 : decode cX3_isStrikesFault 17 = .ok (.aload_n 1, 1) := by decide +kernel
theorem dX3_isStrikesFault_18 : decode cX3_isStrikesFault 18 = .ok (.getfield 222, 3) := by decide +kernel
theorem dX3_isStrikesFault_21 : decode cX3_isStrikesFault 21 = .ok (.aload_n 0, 1) := by decide +kernel
theorem dX3_isStrikesFault_22 : decode cX3_isStrikesFault 22 = .ok (.getfield 225, 3) := by decide +kernel
theorem dX3_isStrikesFault_25 : decode cX3_isStrikesFault 25 = .ok (.if_icmp .le 7, 3) := by decide +kernel
theorem dX3_isStrikesFault_28 : decode cX3_isStrikesFault 28 = .ok (.iconst 1, 1) := by decide +kernel
theorem dX3_isStrikesFault_29 : decode cX3_isStrikesFault 29 = .ok (.goto 23, 3) := by decide +kernel
theorem dX3_isStrikesFault_32 : decode cX3_isStrikesFault 32 = .ok (.iconst 0, 1) := by decide +kernel
theorem dX3_isStrikesFault_33 : decode cX3_isStrikesFault 33 = .ok (.goto 19, 3) := by decide +kernel
theorem dX3_isStrikesFault_36 : decode cX3_isStrikesFault 36 = .ok (.aload_n 0, 1) := by decide +kernel
theorem dX3_isStrikesFault_37 : decode cX3_isStrikesFault 37 = .ok (.getfield 222, 3) := by decide +kernel
theorem dX3_isStrikesFault_40 : decode cX3_isStrikesFault 40 = .ok (.aload_n 1, 1) := by decide +kernel
theorem dX3_isStrikesFault_41 : decode cX3_isStrikesFault 41 = .ok (.getfield 225, 3) := by decide +kernel
theorem dX3_isStrikesFault_44 : decode cX3_isStrikesFault 44 = .ok (.if_icmp .le 7, 3) := by decide +kernel
theorem dX3_isStrikesFault_47 : decode cX3_isStrikesFault 47 = .ok (.iconst 1, 1) := by decide +kernel
theorem dX3_isStrikesFault_48 : decode cX3_isStrikesFault 48 = .ok (.goto 4, 3) := by decide +kernel
theorem dX3_isStrikesFault_51 : decode cX3_isStrikesFault 51 = .ok (.iconst 0, 1) := by decide +kernel
theorem dX3_isStrikesFault_52 : decode cX3_isStrikesFault 52 = .ok (.ireturn, 1) := by decide +kernel
theorem dX3_isMiddleFault_0 : decode cX3_isMiddleFault 0 = .ok (.aload_n 0, 1) := by decide +kernel
theorem dX3_isMiddleFault_1 : decode cX3_isMiddleFault 1 = .ok (.aload_n 1, 1) := by decide +kernel
theorem dX3_isMiddleFault_2 : decode cX3_isMiddleFault 2 = .ok (.invokestatic 309, 3) := by decide +kernel
theorem dX3_isMiddleFault_5 : decode cX3_isMiddleFault 5 = .ok (.ifCond .eq 54, 3) := by decide +kernel
theorem dX3_isMiddleFault_8 : decode cX3_isMiddleFault 8 = .ok (.aload_n 1, 1) := by decide +kernel
theorem dX3_isMiddleFault_9 : decode cX3_isMiddleFault 9 = .ok (.aload_n 2, 1) := by decide +kernel
theorem dX3_isMiddleFault_10 : decode cX3_isMiddleFault 10 = .ok (.invokestatic 309, 3) := by decide +kernel
theorem dX3_isMiddleFault_13 : decode cX3_isMiddleFault 13 = .ok (.ifCond .eq 46, 3) := by decide +kernel
theorem dX3_isMiddleFault_16 : decode cX3_isMiddleFault 16 = .ok (.aload_n 1, 1) := by decide +kernel
theorem dX3_isMiddleFault_17 : decode cX3_isMiddleFault 17 = .ok (.getfield 322, 3) := by decide +kernel
theorem dX3_isMiddleFault_20 : decode cX3_isMiddleFault 20 = .ok (.aload_n 0, 1) := by decide +kernel
theorem dX3_isMiddleFault_21 : decode cX3_isMiddleFault 21 = .ok (.getfield 322, 3) := by decide +kernel
theorem dX3_isMiddleFault_24 : decode cX3_isMiddleFault 24 = .ok (.isub, 1) := by decide +kernel
theorem dX3_isMiddleFault_25 : decode cX3_isMiddleFault 25 = .ok (.aload_n 2, 1) := by decide +kernel
theorem dX3_isMiddleFault_26 : decode cX3_isMiddleFault 26 = .ok (.getfield 322, 3) := by decide +kernel
theorem dX3_isMiddleFault_29 : decode cX3_isMiddleFault 29 = .ok (.aload_n 1, 1) := by decide +kernel
theorem dX3_isMiddleFault_30 : decode cX3_isMiddleFault 30 = .ok (.getfield 322, 3) := by decide +kernel
theorem dX3_isMiddleFault_33 : decode cX3_isMiddleFault 33 = .ok (.isub, 1) := by decide +kernel
theorem dX3_isMiddleFault_34 : decode cX3_isMiddleFault 34 = .ok (.if_icmp .ne 25, 3) := by decide +kernel
theorem dX3_isMiddleFault_37 : decode cX3_isMiddleFault 37 = .ok (.iconst 2, 1) := by decide +kernel
theorem dX3_isMiddleFault_38 : decode cX3_isMiddleFault 38 = .ok (.aload_n 1, 1) := by decide +kernel
theorem dX3_isMiddleFault_39 : decode cX3_isMiddleFault 39 = .ok (.getfield 222, 3) := by decide +kernel
theorem dX3_isMiddleFault_42 : decode cX3_isMiddleFault 42 = .ok (.imul, 1) := by decide +kernel
theorem dX3_isMiddleFault_43 : decode cX3_isMiddleFault 43 = .ok (.aload_n 0, 1) := by decide +kernel
theorem dX3_isMiddleFault_44 : decode cX3_isMiddleFault 44 = .ok (.getfield 225, 3) := by decide +kernel
theorem dX3_isMiddleFault_47 : decode cX3_isMiddleFault 47 = .ok (.aload_n 2, 1) := by decide +kernel
theorem dX3_isMiddleFault_48 : decode cX3_isMiddleFault 48 = .ok (.getfield 225, 3) := by decide +kernel
theorem dX3_isMiddleFault_51 : decode cX3_isMiddleFault 51 = .ok (.iadd, 1) := by decide +kernel
theorem dX3_isMiddleFault_52 : decode cX3_isMiddleFault 52 = .ok (.if_icmp .le 7, 3) := by decide +kernel
theorem dX3_isMiddleFault_55 : decode cX3_isMiddleFault 55 = .ok (.iconst 1, 1) := by decide +kernel
theorem dX3_isMiddleFault_56 : decode cX3_isMiddleFault 56 = .ok (.goto 4, 3) := by decide +kernel
theorem dX3_isMiddleFault_59 : decode cX3_isMiddleFault 59 = .ok (.iconst 0, 1) := by decide +kernel
theorem dX3_isMiddleFault_60 : decode cX3_isMiddleFault 60 = .ok (.ireturn, 1) := by decide +kernel
theorem dX3_isExpiriesFault_0 : decode cX3_isExpiriesFault 0 = .ok (.aload_n 0, 1) := by decide +kernel
theorem dX3_isExpiriesFault_1 : decode cX3_isExpiriesFault 1 = .ok (.invokevirtual 302, 3) := by decide +kernel
theorem dX3_isExpiriesFault_4 : decode cX3_isExpiriesFault 4 = .ok (.ifCond .eq 72, 3) := by decide +kernel
theorem dX3_isExpiriesFault_7 : decode cX3_isExpiriesFault 7 = .ok (.aload_n 1, 1) := by decide +kernel
theorem dX3_isExpiriesFault_8 : decode cX3_isExpiriesFault 8 = .ok (.invokevirtual 302, 3) := by decide +kernel
theorem dX3_isExpiriesFault_11 : decode cX3_isExpiriesFault 11 = .ok (.ifCond .eq 65, 3) := by decide +kernel
theorem dX3_isExpiriesFault_14 : decode cX3_isExpiriesFault 14 = .ok (.aload_n 0, 1) := by decide +kernel
theorem dX3_isExpiriesFault_15 : decode cX3_isExpiriesFault 15 = .ok (.getfield 177, 3) := by decide +kernel
theorem dX3_isExpiriesFault_18 : decode cX3_isExpiriesFault 18 = .ok (.aload_n 1, 1) := by decide +kernel
theorem dX3_isExpiriesFault_19 : decode cX3_isExpiriesFault 19 = .ok (.getfield 177, 3) := by decide +kernel
theorem dX3_isExpiriesFault_22 : decode cX3_isExpiriesFault 22 = .ok (.if_icmp .ge 54, 3) := by decide +kernel
theorem dX3_isExpiriesFault_25 : decode cX3_isExpiriesFault 25 = .ok (.aload_n 0, 1) := by decide +kernel
theorem dX3_isExpiriesFault_26 : decode cX3_isExpiriesFault 26 = .ok (.getfield 173, 3) := by decide +kernel
theorem dX3_isExpiriesFault_29 : decode cX3_isExpiriesFault 29 = .ok (.ifCond .eq 47, 3) := by decide +kernel
theorem dX3_isExpiriesFault_32 : decode cX3_isExpiriesFault 32 = .ok (.aload_n 1, 1) := by decide +kernel
theorem dX3_isExpiriesFault_33 : decode cX3_isExpiriesFault 33 = .ok (.getfield 173, 3) := by decide +kernel
theorem dX3_isExpiriesFault_36 : decode cX3_isExpiriesFault 36 = .ok (.ifCond .eq 40, 3) := by decide +kernel
theorem dX3_isExpiriesFault_39 : decode cX3_isExpiriesFault 39 = .ok (.aload_n 0, 1) := by decide +kernel
theorem dX3_isExpiriesFault_40 : decode cX3_isExpiriesFault 40 = .ok (.getfield 325, 3) := by decide +kernel
theorem dX3_isExpiriesFault_43 : decode cX3_isExpiriesFault 43 = .ok (.aload_n 1, 1) := by decide +kernel
theorem dX3_isExpiriesFault_44 : decode cX3_isExpiriesFault 44 = .ok (.getfield 325, 3) := by decide +kernel
theorem dX3_isExpiriesFault_47 : decode cX3_isExpiriesFault 47 = .ok (.if_icmp .ne 29, 3) := by decide +kernel
theorem dX3_isExpiriesFault_50 : decode cX3_isExpiriesFault 50 = .ok (.aload_n 0, 1) := by decide +kernel
theorem dX3_isExpiriesFault_51 : decode cX3_isExpiriesFault 51 = .ok (.getfield 322, 3) := by decide +kernel
theorem dX3_isExpiriesFault_54 : decode cX3_isExpiriesFault 54 = .ok (.aload_n 1, 1) := by decide +kernel
theorem dX3_isExpiriesFault_55 : decode cX3_isExpiriesFault 55 = .ok (.getfield 322, 3) := by decide +kernel
theorem dX3_isExpiriesFault_58 : decode cX3_isExpiriesFault 58 = .ok (.if_icmp .ne 18, 3) := by decide +kernel
theorem dX3_isExpiriesFault_61 : decode cX3_isExpiriesFault 61 = .ok (.aload_n 0, 1) := by decide +kernel
theorem dX3_isExpiriesFault_62 : decode cX3_isExpiriesFault 62 = .ok (.getfield 222, 3) := by decide +kernel
theorem dX3_isExpiriesFault_65 : decode cX3_isExpiriesFault 65 = .ok (.aload_n 1, 1) := by decide +kernel
theorem dX3_isExpiriesFault_66 : decode cX3_isExpiriesFault 66 = .ok (.getfield 225, 3) := by decide +kernel
theorem dX3_isExpiriesFault_69 : decode cX3_isExpiriesFault 69 = .ok (.if_icmp .le 7, 3) := by decide +kernel
theorem dX3_isExpiriesFault_72 : decode cX3_isExpiriesFault 72 = .ok (.iconst 1, 1) := by decide +kernel
theorem dX3_isExpiriesFault_73 : decode cX3_isExpiriesFault 73 = .ok (.goto 4, 3) := by decide +kernel
theorem dX3_isExpiriesFault_76 : decode cX3_isExpiriesFault 76 = .ok (.iconst 0, 1) := by decide +kernel
theorem dX3_isExpiriesFault_77 : decode cX3_isExpiriesFault 77 = .ok (.ireturn, 1) := by decide +kernel
theorem dX4_init_0 : decode cX4_init 0 = .ok (.aload_n 0, 1) := by decide +kernel
theorem dX4_init_1 : decode cX4_init 1 = .ok (.invokespecial 1, 3) := by decide +kernel
theorem dX4_init_4 : decode cX4_init 4 = .ok (.aload_n 0, 1) := by decide +kernel
theorem dX4_init_5 : decode cX4_init 5 = .ok (.sipush 10000, 3) := by decide +kernel
theorem dX4_init_8 : decode cX4_init 8 = .ok (.putfield 7, 3) := by decide +kernel
theorem dX4_init_11 : decode cX4_init 11 = .ok (.aload_n 0, 1) := by decide +kernel
theorem dX4_init_12 : decode cX4_init 12 = .ok (.bipush 10, 2) := by decide +kernel
theorem dX4_init_14 : decode cX4_init 14 = .ok (.putfield 13, 3) := by decide +kernel
theorem dX4_init_17 : decode cX4_init 17 = .ok (.aload_n 0, 1) := by decide +kernel
theorem dX4_init_18 : decode cX4_init 18 = .ok (.bipush 10, 2) := by decide +kernel
theorem dX4_init_20 : decode cX4_init 20 = .ok (.putfield 16, 3) := by decide +kernel
theorem dX4_init_23 : decode cX4_init 23 = .ok (.aload_n 0, 1) := by decide +kernel
theorem dX4_init_24 : decode cX4_init 24 = .ok (.sipush 201, 3) := by decide +kernel
theorem dX4_init_27 : decode cX4_init 27 = .ok (.newarray .int, 2) := by decide +kernel
theorem dX4_init_29 : decode cX4_init 29 = .ok (.putfield 19, 3) := by decide +kernel
theorem dX4_init_32 : decode cX4_init 32 = .ok (.aload_n 0, 1) := by decide +kernel
theorem dX4_init_33 : decode cX4_init 33 = .ok (.bipush 12, 2) := by decide +kernel
theorem dX4_init_35 : decode cX4_init 35 = .ok (.newarray .int, 2) := by decide +kernel
theorem dX4_init_37 : decode cX4_init 37 = .ok (.putfield 23, 3) := by decide +kernel
theorem dX4_init_40 : decode cX4_init 40 = .ok (.aload_n 0, 1) := by decide +kernel
theorem dX4_init_41 : decode cX4_init 41 = .ok (.bipush 12, 2) := by decide +kernel
theorem dX4_init_43 : decode cX4_init 43 = .ok (.newarray .int, 2) := by decide +kernel
theorem dX4_init_45 : decode cX4_init 45 = .ok (.putfield 26, 3) := by decide +kernel
theorem dX4_init_48 : decode cX4_init 48 = .ok (.aload_n 0, 1) := by decide +kernel
theorem dX4_init_49 : decode cX4_init 49 = .ok (.bipush 12, 2) := by decide +kernel
theorem dX4_init_51 : decode cX4_init 51 = .ok (.newarray .int, 2) := by decide +kernel
theorem dX4_init_53 : decode cX4_init 53 = .ok (.putfield 29, 3) := by decide +kernel
theorem dX4_init_56 : decode cX4_init 56 = .ok (.aload_n 0, 1) := by decide +kernel
theorem dX4_init_57 : decode cX4_init 57 = .ok (.bipush 12, 2) := by decide +kernel
theorem dX4_init_59 : decode cX4_init 59 = .ok (.newarray .boolean, 2) := by decide +kernel
theorem dX4_init_61 : decode cX4_init 61 = .ok (.putfield 32, 3) := by decide +kernel
theorem dX4_init_64 : decode cX4_init 64 = .ok (.aload_n 0, 1) := by decide +kernel
theorem dX4_init_65 : decode cX4_init 65 = .ok (.bipush 12, 2) := by decide +kernel
theorem dX4_init_67 : decode cX4_init 67 = .ok (.newarray .boolean, 2) := by decide +kernel
theorem dX4_init_69 : decode cX4_init 69 = .ok (.putfield 36, 3) := by decide +kernel
theorem dX4_init_72 : decode cX4_init 72 = .ok (.aload_n 0, 1) := by decide +kernel
theorem dX4_init_73 : decode cX4_init 73 = .ok (.bipush 12, 2) := by decide +kernel
theorem dX4_init_75 : decode cX4_init 75 = .ok (.newarray .int, 2) := by decide +kernel
theorem dX4_init_77 : decode cX4_init 77 = .ok (.putfield 39, 3) := by decide +kernel
theorem dX4_init_80 : decode cX4_init 80 = .ok (.aload_n 0, 1) := by decide +kernel
theorem dX4_init_81 : decode cX4_init 81 = .ok (.bipush 12, 2) := by decide +kernel
theorem dX4_init_83 : decode cX4_init 83 = .ok (.newarray .int, 2) := by decide +kernel
theorem dX4_init_85 : decode cX4_init 85 = .ok (.putfield 42, 3) := by decide +kernel
theorem dX4_init_88 : decode cX4_init 88 = .ok (.aload_n 0, 1) := by decide +kernel
theorem dX4_init_89 : decode cX4_init 89 = .ok (.bipush 12, 2) := by decide +kernel
theorem dX4_init_91 : decode cX4_init 91 = .ok (.newarray .int, 2) := by decide +kernel
theorem dX4_init_93 : decode cX4_init 93 = .ok (.putfield 45, 3) := by decide +kernel
theorem dX4_init_96 : decode cX4_init 96 = .ok (.aload_n 0, 1) := by decide +kernel
theorem dX4_init_97 : decode cX4_init 97 = .ok (.bipush 12, 2) := by decide +kernel
theorem dX4_init_99 : decode cX4_init 99 = .ok (.newarray .int, 2) := by decide +kernel
theorem dX4_init_101 : decode cX4_init 101 = .ok (.putfield 48, 3) := by decide +kernel
theorem dX4_init_104 : decode cX4_init 104 = .ok (.aload_n 0, 1) := by decide +kernel
theorem dX4_init_105 : decode cX4_init 105 = .ok (.bipush 84, 2) := by decide +kernel
theorem dX4_init_107 : decode cX4_init 107 = .ok (.newarray .int, 2) := by decide +kernel
theorem dX4_init_109 : decode cX4_init 109 = .ok (.putfield 51, 3) := by decide +kernel
theorem dX4_init_112 : decode cX4_init 112 = .ok (.aload_n 0, 1) := by decide +kernel
theorem dX4_init_113 : decode cX4_init 113 = .ok (.bipush 84, 2) := by decide +kernel
theorem dX4_init_115 : decode cX4_init 115 = .ok (.newarray .boolean, 2) := by decide +kernel
theorem dX4_init_117 : decode cX4_init 117 = .ok (.putfield 54, 3) := by decide +kernel
theorem dX4_init_120 : decode cX4_init 120 = .ok (.aload_n 0, 1) := by decide +kernel
theorem dX4_init_121 : decode cX4_init 121 = .ok (.bipush 7, 2) := by decide +kernel
theorem dX4_init_123 : decode cX4_init 123 = .ok (.newarray .long, 2) := by decide +kernel
theorem dX4_init_125 : decode cX4_init 125 = .ok (.putfield 57, 3) := by decide +kernel
theorem dX4_init_128 : decode cX4_init 128 = .ok (.aload_n 0, 1) := by decide +kernel
theorem dX4_init_129 : decode cX4_init 129 = .ok (.bipush 100, 2) := by decide +kernel
theorem dX4_init_131 : decode cX4_init 131 = .ok (.putfield 61, 3) := by decide +kernel
theorem dX4_init_134 : decode cX4_init 134 = .ok (.aload_n 0, 1) := by decide +kernel
theorem dX4_init_135 : decode cX4_init 135 = .ok (.sipush 500, 3) := by decide +kernel
theorem dX4_init_138 : decode cX4_init 138 = .ok (.putfield 64, 3) := by decide +kernel
theorem dX4_init_141 : decode cX4_init 141 = .ok (.aload_n 0, 1) := by decide +kernel
theorem dX4_init_142 : decode cX4_init 142 = .ok (.bipush 6, 2) := by decide +kernel
theorem dX4_init_144 : decode cX4_init 144 = .ok (.newarray .long, 2) := by decide +kernel
theorem dX4_init_146 : decode cX4_init 146 = .ok (.putfield 67, 3) := by decide +kernel
theorem dX4_init_149 : decode cX4_init 149 = .ok (.aload_n 0, 1) := by decide +kernel
theorem dX4_init_150 : decode cX4_init 150 = .ok (.bipush 11, 2) := by decide +kernel
theorem dX4_init_152 : decode cX4_init 152 = .ok (.newarray .long, 2) := by decide +kernel
theorem dX4_init_154 : decode cX4_init 154 = .ok (.putfield 70, 3) := by decide +kernel
theorem dX4_init_157 : decode cX4_init 157 = .ok (.return_, 1) := by decide +kernel
theorem dX4_thrown_0 : decode cX4_thrown 0 = .ok (.aload_n 0, 1) := by decide +kernel
theorem dX4_thrown_1 : decode cX4_thrown 1 = .ok (.getfield 73, 3) := by decide +kernel
theorem dX4_thrown_4 : decode cX4_thrown 4 = .ok (.ireturn, 1) := by decide +kernel
theorem dX4_in_0 : decode cX4_in 0 = .ok (.lload_n 0, 1) := by decide +kernel
theorem dX4_in_1 : decode cX4_in 1 = .ok (.lload_n 2, 1) := by decide +kernel
theorem dX4_in_2 : decode cX4_in 2 = .ok (.lcmp, 1) := by decide +kernel
theorem dX4_in_3 : decode cX4_in 3 = .ok (.ifCond .lt 14, 3) := by decide +kernel
theorem dX4_in_6 : decode cX4_in 6 = .ok (.lload_n 0, 1) := by decide +kernel
theorem dX4_in_7 : decode cX4_in 7 = .ok (.lload 4, 2) := by decide +kernel
theorem dX4_in_9 : decode cX4_in 9 = .ok (.lcmp, 1) := by decide +kernel
theorem dX4_in_10 : decode cX4_in 10 = .ok (.ifCond .gt 7, 3) := by decide +kernel
theorem dX4_in_13 : decode cX4_in 13 = .ok (.iconst 1, 1) := by decide +kernel
theorem dX4_in_14 : decode cX4_in 14 = .ok (.goto 4, 3) := by decide +kernel
theorem dX4_in_17 : decode cX4_in 17 = .ok (.iconst 0, 1) := by decide +kernel
theorem dX4_in_18 : decode cX4_in 18 = .ok (.ireturn, 1) := by decide +kernel
theorem dX4_isContract_0 : decode cX4_isContract 0 = .ok (.iload_n 1, 1) := by decide +kernel
theorem dX4_isContract_1 : decode cX4_isContract 1 = .ok (.i2l, 1) := by decide +kernel
theorem dX4_isContract_2 : decode cX4_isContract 2 = .ok (.lconst 0, 1) := by decide +kernel
theorem dX4_isContract_3 : decode cX4_isContract 3 = .ok (.aload_n 0, 1) := by decide +kernel
theorem dX4_isContract_4 : decode cX4_isContract 4 = .ok (.getfield 76, 3) := by decide +kernel
theorem dX4_isContract_7 : decode cX4_isContract 7 = .ok (.iconst 1, 1) := by decide +kernel
theorem dX4_isContract_8 : decode cX4_isContract 8 = .ok (.isub, 1) := by decide +kernel
theorem dX4_isContract_9 : decode cX4_isContract 9 = .ok (.i2l, 1) := by decide +kernel
theorem dX4_isContract_10 : decode cX4_isContract 10 = .ok (.invokestatic 79, 3) := by decide +kernel
theorem dX4_isContract_13 : decode cX4_isContract 13 = .ok (.ireturn, 1) := by decide +kernel
theorem dX4_isHolder_0 : decode cX4_isHolder 0 = .ok (.iload_n 0, 1) := by decide +kernel
theorem dX4_isHolder_1 : decode cX4_isHolder 1 = .ok (.i2l, 1) := by decide +kernel
theorem dX4_isHolder_2 : decode cX4_isHolder 2 = .ok (.ldc2_w 83, 3) := by decide +kernel
theorem dX4_isHolder_5 : decode cX4_isHolder 5 = .ok (.ldc2_w 85, 3) := by decide +kernel
theorem dX4_isHolder_8 : decode cX4_isHolder 8 = .ok (.invokestatic 79, 3) := by decide +kernel
theorem dX4_isHolder_11 : decode cX4_isHolder 11 = .ok (.ireturn, 1) := by decide +kernel
theorem dX4_at_0 : decode cX4_at 0 = .ok (.bipush 7, 2) := by decide +kernel
theorem dX4_at_2 : decode cX4_at 2 = .ok (.iload_n 1, 1) := by decide +kernel
theorem dX4_at_3 : decode cX4_at 3 = .ok (.imul, 1) := by decide +kernel
theorem dX4_at_4 : decode cX4_at 4 = .ok (.iload_n 0, 1) := by decide +kernel
theorem dX4_at_5 : decode cX4_at 5 = .ok (.iconst (-1), 1) := by decide +kernel
theorem dX4_at_6 : decode cX4_at 6 = .ok (.if_icmp .ne 8, 3) := by decide +kernel
theorem dX4_at_9 : decode cX4_at 9 = .ok (.bipush 6, 2) := by decide +kernel
theorem dX4_at_11 : decode cX4_at 11 = .ok (.goto 4, 3) := by decide +kernel
theorem dX4_at_14 : decode cX4_at 14 = .ok (.iload_n 0, 1) := by decide +kernel
theorem dX4_at_15 : decode cX4_at 15 = .ok (.iadd, 1) := by decide +kernel
theorem dX4_at_16 : decode cX4_at 16 = .ok (.ireturn, 1) := by decide +kernel
theorem dX4_pays_0 : decode cX4_pays 0 = .ok (.aload_n 0, 1) := by decide +kernel
theorem dX4_pays_1 : decode cX4_pays 1 = .ok (.getfield 23, 3) := by decide +kernel
theorem dX4_pays_4 : decode cX4_pays 4 = .ok (.iload_n 1, 1) := by decide +kernel
theorem dX4_pays_5 : decode cX4_pays 5 = .ok (.iaload, 1) := by decide +kernel
theorem dX4_pays_6 : decode cX4_pays 6 = .ok (.ifCond .ne 15, 3) := by decide +kernel
theorem dX4_pays_9 : decode cX4_pays 9 = .ok (.lload_n 2, 1) := by decide +kernel
theorem dX4_pays_10 : decode cX4_pays 10 = .ok (.aload_n 0, 1) := by decide +kernel
theorem dX4_pays_11 : decode cX4_pays 11 = .ok (.getfield 26, 3) := by decide +kernel
theorem dX4_pays_14 : decode cX4_pays 14 = .ok (.iload_n 1, 1) := by decide +kernel
theorem dX4_pays_15 : decode cX4_pays 15 = .ok (.iaload, 1) := by decide +kernel
theorem dX4_pays_16 : decode cX4_pays 16 = .ok (.i2l, 1) := by decide +kernel
theorem dX4_pays_17 : decode cX4_pays 17 = .ok (.lsub, 1) := by decide +kernel
theorem dX4_pays_18 : decode cX4_pays 18 = .ok (.goto 12, 3) := by decide +kernel
theorem dX4_pays_21 : decode cX4_pays 21 = .ok (.aload_n 0, 1) := by decide +kernel
theorem dX4_pays_22 : decode cX4_pays 22 = .ok (.getfield 26, 3) := by decide +kernel
theorem dX4_pays_25 : decode cX4_pays 25 = .ok (.iload_n 1, 1) := by decide +kernel
theorem dX4_pays_26 : decode cX4_pays 26 = .ok (.iaload, 1) := by decide +kernel
theorem dX4_pays_27 : decode cX4_pays 27 = .ok (.i2l, 1) := by decide +kernel
theorem dX4_pays_28 : decode cX4_pays 28 = .ok (.lload_n 2, 1) := by decide +kernel
theorem dX4_pays_29 : decode cX4_pays 29 = .ok (.lsub, 1) := by decide +kernel
theorem dX4_pays_30 : decode cX4_pays 30 = .ok (.lstore 4, 2) := by decide +kernel
theorem dX4_pays_32 : decode cX4_pays 32 = .ok (.lload 4, 2) := by decide +kernel
theorem dX4_pays_34 : decode cX4_pays 34 = .ok (.lconst 0, 1) := by decide +kernel
theorem dX4_pays_35 : decode cX4_pays 35 = .ok (.lcmp, 1) := by decide +kernel
theorem dX4_pays_36 : decode cX4_pays 36 = .ok (.ifCond .le 8, 3) := by decide +kernel
theorem dX4_pays_39 : decode cX4_pays 39 = .ok (.lload 4, 2) := by decide +kernel
theorem dX4_pays_41 : decode cX4_pays 41 = .ok (.goto 4, 3) := by decide +kernel
theorem dX4_pays_44 : decode cX4_pays 44 = .ok (.lconst 0, 1) := by decide +kernel
theorem dX4_pays_45 : decode cX4_pays 45 = .ok (.lreturn, 1) := by decide +kernel
theorem dX4_priceOf_0 : decode cX4_priceOf 0 = .ok (.iload_n 1, 1) := by decide +kernel
theorem dX4_priceOf_1 : decode cX4_priceOf 1 = .ok (.i2l, 1) := by decide +kernel
theorem dX4_priceOf_2 : decode cX4_priceOf 2 = .ok (.ldc2_w 87, 3) := by decide +kernel
theorem dX4_priceOf_5 : decode cX4_priceOf 5 = .ok (.aload_n 0, 1) := by decide +kernel
theorem dX4_priceOf_6 : decode cX4_priceOf 6 = .ok (.getfield 13, 3) := by decide +kernel
theorem dX4_priceOf_9 : decode cX4_priceOf 9 = .ok (.i2l, 1) := by decide +kernel
theorem dX4_priceOf_10 : decode cX4_priceOf 10 = .ok (.lmul, 1) := by decide +kernel
theorem dX4_priceOf_11 : decode cX4_priceOf 11 = .ok (.iload_n 3, 1) := by decide +kernel
theorem dX4_priceOf_12 : decode cX4_priceOf 12 = .ok (.i2l, 1) := by decide +kernel
theorem dX4_priceOf_13 : decode cX4_priceOf 13 = .ok (.lmul, 1) := by decide +kernel
theorem dX4_priceOf_14 : decode cX4_priceOf 14 = .ok (.ladd, 1) := by decide +kernel
theorem dX4_priceOf_15 : decode cX4_priceOf 15 = .ok (.ldc2_w 87, 3) := by decide +kernel
theorem dX4_priceOf_18 : decode cX4_priceOf 18 = .ok (.aload_n 0, 1) := by decide +kernel
theorem dX4_priceOf_19 : decode cX4_priceOf 19 = .ok (.getfield 16, 3) := by decide +kernel
theorem dX4_priceOf_22 : decode cX4_priceOf 22 = .ok (.i2l, 1) := by decide +kernel
theorem dX4_priceOf_23 : decode cX4_priceOf 23 = .ok (.lmul, 1) := by decide +kernel
theorem dX4_priceOf_24 : decode cX4_priceOf 24 = .ok (.iload_n 2, 1) := by decide +kernel
theorem dX4_priceOf_25 : decode cX4_priceOf 25 = .ok (.aload_n 0, 1) := by decide +kernel
theorem dX4_priceOf_26 : decode cX4_priceOf 26 = .ok (.getfield 89, 3) := by decide +kernel
theorem dX4_priceOf_29 : decode cX4_priceOf 29 = .ok (.isub, 1) := by decide +kernel
theorem dX4_priceOf_30 : decode cX4_priceOf 30 = .ok (.iload_n 3, 1) := by decide +kernel
theorem dX4_priceOf_31 : decode cX4_priceOf 31 = .ok (.isub, 1) := by decide +kernel
theorem dX4_priceOf_32 : decode cX4_priceOf 32 = .ok (.i2l, 1) := by decide +kernel
theorem dX4_priceOf_33 : decode cX4_priceOf 33 = .ok (.lmul, 1) := by decide +kernel
theorem dX4_priceOf_34 : decode cX4_priceOf 34 = .ok (.lsub, 1) := by decide +kernel
theorem dX4_priceOf_35 : decode cX4_priceOf 35 = .ok (.lstore 4, 2) := by decide +kernel
theorem dX4_priceOf_37 : decode cX4_priceOf 37 = .ok (.aload_n 0, 1) := by decide +kernel
theorem dX4_priceOf_38 : decode cX4_priceOf 38 = .ok (.getfield 89, 3) := by decide +kernel
theorem dX4_priceOf_41 : decode cX4_priceOf 41 = .ok (.iconst 1, 1) := by decide +kernel
theorem dX4_priceOf_42 : decode cX4_priceOf 42 = .ok (.iadd, 1) := by decide +kernel
theorem dX4_priceOf_43 : decode cX4_priceOf 43 = .ok (.istore 6, 2) := by decide +kernel
theorem dX4_priceOf_45 : decode cX4_priceOf 45 = .ok (.iload 6, 2) := by decide +kernel
theorem dX4_priceOf_47 : decode cX4_priceOf 47 = .ok (.iload_n 2, 1) := by decide +kernel
theorem dX4_priceOf_48 : decode cX4_priceOf 48 = .ok (.if_icmp .gt 22, 3) := by decide +kernel
theorem dX4_priceOf_51 : decode cX4_priceOf 51 = .ok (.lload 4, 2) := by decide +kernel
theorem dX4_priceOf_53 : decode cX4_priceOf 53 = .ok (.aload_n 0, 1) := by decide +kernel
theorem dX4_priceOf_54 : decode cX4_priceOf 54 = .ok (.getfield 19, 3) := by decide +kernel
theorem dX4_priceOf_57 : decode cX4_priceOf 57 = .ok (.iload 6, 2) := by decide +kernel
theorem dX4_priceOf_59 : decode cX4_priceOf 59 = .ok (.iaload, 1) := by decide +kernel
theorem dX4_priceOf_60 : decode cX4_priceOf 60 = .ok (.i2l, 1) := by decide +kernel
theorem dX4_priceOf_61 : decode cX4_priceOf 61 = .ok (.lsub, 1) := by decide +kernel
theorem dX4_priceOf_62 : decode cX4_priceOf 62 = .ok (.lstore 4, 2) := by decide +kernel
theorem dX4_priceOf_64 : decode cX4_priceOf 64 = .ok (.iinc 6 1, 3) := by decide +kernel
theorem dX4_priceOf_67 : decode cX4_priceOf 67 = .ok (.goto (-22), 3) := by decide +kernel
theorem dX4_priceOf_70 : decode cX4_priceOf 70 = .ok (.lload 4, 2) := by decide +kernel
theorem dX4_priceOf_72 : decode cX4_priceOf 72 = .ok (.lreturn, 1) := by decide +kernel
theorem dX4_finds_0 : decode cX4_finds 0 = .ok (.aload_n 0, 1) := by decide +kernel
theorem dX4_finds_1 : decode cX4_finds 1 = .ok (.getfield 36, 3) := by decide +kernel
theorem dX4_finds_4 : decode cX4_finds 4 = .ok (.iload_n 1, 1) := by decide +kernel
theorem dX4_finds_5 : decode cX4_finds 5 = .ok (.baload, 1) := by decide +kernel
theorem dX4_finds_6 : decode cX4_finds 6 = .ok (.ifCond .eq 7, 3) := by decide +kernel
theorem dX4_finds_9 : decode cX4_finds 9 = .ok (.iconst 0, 1) := by decide +kernel
theorem dX4_finds_10 : decode cX4_finds 10 = .ok (.goto 14, 3) := by decide +kernel
theorem dX4_finds_13 : decode cX4_finds 13 = .ok (.aload_n 0, 1) := by decide +kernel
theorem dX4_finds_14 : decode cX4_finds 14 = .ok (.getfield 29, 3) := by decide +kernel
theorem dX4_finds_17 : decode cX4_finds 17 = .ok (.iload_n 1, 1) := by decide +kernel
theorem dX4_finds_18 : decode cX4_finds 18 = .ok (.iaload, 1) := by decide +kernel
theorem dX4_finds_19 : decode cX4_finds 19 = .ok (.aload_n 0, 1) := by decide +kernel
theorem dX4_finds_20 : decode cX4_finds 20 = .ok (.getfield 89, 3) := by decide +kernel
theorem dX4_finds_23 : decode cX4_finds 23 = .ok (.isub, 1) := by decide +kernel
theorem dX4_finds_24 : decode cX4_finds 24 = .ok (.istore_n 3, 1) := by decide +kernel
theorem dX4_finds_25 : decode cX4_finds 25 = .ok (.iconst 0, 1) := by decide +kernel
theorem dX4_finds_26 : decode cX4_finds 26 = .ok (.istore 4, 2) := by decide +kernel
theorem dX4_finds_28 : decode cX4_finds 28 = .ok (.iload 4, 2) := by decide +kernel
theorem dX4_finds_30 : decode cX4_finds 30 = .ok (.iload_n 3, 1) := by decide +kernel
theorem dX4_finds_31 : decode cX4_finds 31 = .ok (.if_icmp .gt 47, 3) := by decide +kernel
theorem dX4_finds_34 : decode cX4_finds 34 = .ok (.aload_n 0, 1) := by decide +kernel
theorem dX4_finds_35 : decode cX4_finds 35 = .ok (.getfield 70, 3) := by decide +kernel
theorem dX4_finds_38 : decode cX4_finds 38 = .ok (.iload 4, 2) := by decide +kernel
theorem dX4_finds_40 : decode cX4_finds 40 = .ok (.aload_n 0, 1) := by decide +kernel
theorem dX4_finds_41 : decode cX4_finds 41 = .ok (.getfield 36, 3) := by decide +kernel
theorem dX4_finds_44 : decode cX4_finds 44 = .ok (.iload_n 1, 1) := by decide +kernel
theorem dX4_finds_45 : decode cX4_finds 45 = .ok (.baload, 1) := by decide +kernel
theorem dX4_finds_46 : decode cX4_finds 46 = .ok (.ifCond .eq 7, 3) := by decide +kernel
theorem dX4_finds_49 : decode cX4_finds 49 = .ok (.lconst 0, 1) := by decide +kernel
theorem dX4_finds_50 : decode cX4_finds 50 = .ok (.goto 21, 3) := by decide +kernel
theorem dX4_finds_53 : decode cX4_finds 53 = .ok (.aload_n 0, 1) := by decide +kernel
theorem dX4_finds_54 : decode cX4_finds 54 = .ok (.iload_n 1, 1) := by decide +kernel
theorem dX4_finds_55 : decode cX4_finds 55 = .ok (.aload_n 0, 1) := by decide +kernel
theorem dX4_finds_56 : decode cX4_finds 56 = .ok (.iload_n 2, 1) := by decide +kernel
theorem dX4_finds_57 : decode cX4_finds 57 = .ok (.aload_n 0, 1) := by decide +kernel
theorem dX4_finds_58 : decode cX4_finds 58 = .ok (.getfield 89, 3) := by decide +kernel
theorem dX4_finds_61 : decode cX4_finds 61 = .ok (.iload_n 3, 1) := by decide +kernel
theorem dX4_finds_62 : decode cX4_finds 62 = .ok (.iadd, 1) := by decide +kernel
theorem dX4_finds_63 : decode cX4_finds 63 = .ok (.iload 4, 2) := by decide +kernel
theorem dX4_finds_65 : decode cX4_finds 65 = .ok (.invokevirtual 92, 3) := by decide +kernel
theorem dX4_finds_68 : decode cX4_finds 68 = .ok (.invokevirtual 96, 3) := by decide +kernel
theorem dX4_finds_71 : decode cX4_finds 71 = .ok (.lastore, 1) := by decide +kernel
theorem dX4_finds_72 : decode cX4_finds 72 = .ok (.iinc 4 1, 3) := by decide +kernel
theorem dX4_finds_75 : decode cX4_finds 75 = .ok (.goto (-47), 3) := by decide +kernel
theorem dX4_finds_78 : decode cX4_finds 78 = .ok (.aload_n 0, 1) := by decide +kernel
theorem dX4_finds_79 : decode cX4_finds 79 = .ok (.lconst 1, 1) := by decide +kernel
theorem dX4_finds_80 : decode cX4_finds 80 = .ok (.putfield 100, 3) := by decide +kernel
theorem dX4_finds_83 : decode cX4_finds 83 = .ok (.iload_n 3, 1) := by decide +kernel
theorem dX4_finds_84 : decode cX4_finds 84 = .ok (.iconst 1, 1) := by decide +kernel
theorem dX4_finds_85 : decode cX4_finds 85 = .ok (.isub, 1) := by decide +kernel
theorem dX4_finds_86 : decode cX4_finds 86 = .ok (.istore 4, 2) := by decide +kernel
theorem dX4_finds_88 : decode cX4_finds 88 = .ok (.iload 4, 2) := by decide +kernel
theorem dX4_finds_90 : decode cX4_finds 90 = .ok (.ifCond .lt 136, 3) := by decide +kernel
theorem dX4_finds_93 : decode cX4_finds 93 = .ok (.aload_n 0, 1) := by decide +kernel
theorem dX4_finds_94 : decode cX4_finds 94 = .ok (.dup, 1) := by decide +kernel
theorem dX4_finds_95 : decode cX4_finds 95 = .ok (.getfield 100, 3) := by decide +kernel
theorem dX4_finds_98 : decode cX4_finds 98 = .ok (.aload_n 0, 1) := by decide +kernel
theorem dX4_finds_99 : decode cX4_finds 99 = .ok (.getfield 13, 3) := by decide +kernel
theorem dX4_finds_102 : decode cX4_finds 102 = .ok (.aload_n 0, 1) := by decide +kernel
theorem dX4_finds_103 : decode cX4_finds 103 = .ok (.getfield 16, 3) := by decide +kernel
theorem dX4_finds_106 : decode cX4_finds 106 = .ok (.iadd, 1) := by decide +kernel
theorem dX4_finds_107 : decode cX4_finds 107 = .ok (.i2l, 1) := by decide +kernel
theorem dX4_finds_108 : decode cX4_finds 108 = .ok (.lmul, 1) := by decide +kernel
theorem dX4_finds_109 : decode cX4_finds 109 = .ok (.putfield 100, 3) := by decide +kernel
theorem dX4_finds_112 : decode cX4_finds 112 = .ok (.iconst 0, 1) := by decide +kernel
theorem dX4_finds_113 : decode cX4_finds 113 = .ok (.istore 5, 2) := by decide +kernel
theorem dX4_finds_115 : decode cX4_finds 115 = .ok (.iload 5, 2) := by decide +kernel
theorem dX4_finds_117 : decode cX4_finds 117 = .ok (.iload 4, 2) := by decide +kernel
theorem dX4_finds_119 : decode cX4_finds 119 = .ok (.if_icmp .gt 101, 3) := by decide +kernel
theorem dX4_finds_122 : decode cX4_finds 122 = .ok (.aload_n 0, 1) := by decide +kernel
theorem dX4_finds_123 : decode cX4_finds 123 = .ok (.getfield 16, 3) := by decide +kernel
theorem dX4_finds_126 : decode cX4_finds 126 = .ok (.i2l, 1) := by decide +kernel
theorem dX4_finds_127 : decode cX4_finds 127 = .ok (.aload_n 0, 1) := by decide +kernel
theorem dX4_finds_128 : decode cX4_finds 128 = .ok (.getfield 70, 3) := by decide +kernel
theorem dX4_finds_131 : decode cX4_finds 131 = .ok (.iload 5, 2) := by decide +kernel
theorem dX4_finds_133 : decode cX4_finds 133 = .ok (.iconst 1, 1) := by decide +kernel
theorem dX4_finds_134 : decode cX4_finds 134 = .ok (.iadd, 1) := by decide +kernel
theorem dX4_finds_135 : decode cX4_finds 135 = .ok (.laload, 1) := by decide +kernel
theorem dX4_finds_136 : decode cX4_finds 136 = .ok (.lmul, 1) := by decide +kernel
theorem dX4_finds_137 : decode cX4_finds 137 = .ok (.aload_n 0, 1) := by decide +kernel
theorem dX4_finds_138 : decode cX4_finds 138 = .ok (.getfield 13, 3) := by decide +kernel
theorem dX4_finds_141 : decode cX4_finds 141 = .ok (.i2l, 1) := by decide +kernel
theorem dX4_finds_142 : decode cX4_finds 142 = .ok (.aload_n 0, 1) := by decide +kernel
theorem dX4_finds_143 : decode cX4_finds 143 = .ok (.getfield 70, 3) := by decide +kernel
theorem dX4_finds_146 : decode cX4_finds 146 = .ok (.iload 5, 2) := by decide +kernel
theorem dX4_finds_148 : decode cX4_finds 148 = .ok (.laload, 1) := by decide +kernel
theorem dX4_finds_149 : decode cX4_finds 149 = .ok (.lmul, 1) := by decide +kernel
theorem dX4_finds_150 : decode cX4_finds 150 = .ok (.ladd, 1) := by decide +kernel
theorem dX4_finds_151 : decode cX4_finds 151 = .ok (.lstore 6, 2) := by decide +kernel
theorem dX4_finds_153 : decode cX4_finds 153 = .ok (.aload_n 0, 1) := by decide +kernel
theorem dX4_finds_154 : decode cX4_finds 154 = .ok (.getfield 32, 3) := by decide +kernel
theorem dX4_finds_157 : decode cX4_finds 157 = .ok (.iload_n 1, 1) := by decide +kernel
theorem dX4_finds_158 : decode cX4_finds 158 = .ok (.baload, 1) := by decide +kernel
theorem dX4_finds_159 : decode cX4_finds 159 = .ok (.ifCond .eq 30, 3) := by decide +kernel
theorem dX4_finds_162 : decode cX4_finds 162 = .ok (.aload_n 0, 1) := by decide +kernel
theorem dX4_finds_163 : decode cX4_finds 163 = .ok (.iload_n 1, 1) := by decide +kernel
theorem dX4_finds_164 : decode cX4_finds 164 = .ok (.aload_n 0, 1) := by decide +kernel
theorem dX4_finds_165 : decode cX4_finds 165 = .ok (.iload_n 2, 1) := by decide +kernel
theorem dX4_finds_166 : decode cX4_finds 166 = .ok (.aload_n 0, 1) := by decide +kernel
theorem dX4_finds_167 : decode cX4_finds 167 = .ok (.getfield 89, 3) := by decide +kernel
theorem dX4_finds_170 : decode cX4_finds 170 = .ok (.iload 4, 2) := by decide +kernel
theorem dX4_finds_172 : decode cX4_finds 172 = .ok (.iadd, 1) := by decide +kernel
theorem dX4_finds_173 : decode cX4_finds 173 = .ok (.iload 5, 2) := by decide +kernel
theorem dX4_finds_175 : decode cX4_finds 175 = .ok (.invokevirtual 92, 3) := by decide +kernel
theorem dX4_finds_178 : decode cX4_finds 178 = .ok (.invokevirtual 96, 3) := by decide +kernel
theorem dX4_finds_181 : decode cX4_finds 181 = .ok (.aload_n 0, 1) := by decide +kernel
theorem dX4_finds_182 : decode cX4_finds 182 = .ok (.getfield 100, 3) := by decide +kernel
theorem dX4_finds_185 : decode cX4_finds 185 = .ok (.lmul, 1) := by decide +kernel
theorem dX4_finds_186 : decode cX4_finds 186 = .ok (.goto 4, 3) := by decide +kernel
theorem dX4_finds_189 : decode cX4_finds 189 = .ok (.lconst 0, 1) := by decide +kernel
theorem dX4_finds_190 : decode cX4_finds 190 = .ok (.lstore 8, 2) := by decide +kernel
theorem dX4_finds_192 : decode cX4_finds 192 = .ok (.aload_n 0, 1) := by decide +kernel
theorem dX4_finds_193 : decode cX4_finds 193 = .ok (.getfield 70, 3) := by decide +kernel
theorem dX4_finds_196 : decode cX4_finds 196 = .ok (.iload 5, 2) := by decide +kernel
theorem dX4_finds_198 : decode cX4_finds 198 = .ok (.lload 6, 2) := by decide +kernel
theorem dX4_finds_200 : decode cX4_finds 200 = .ok (.lload 8, 2) := by decide +kernel
theorem dX4_finds_202 : decode cX4_finds 202 = .ok (.lcmp, 1) := by decide +kernel
theorem dX4_finds_203 : decode cX4_finds 203 = .ok (.ifCond .le 8, 3) := by decide +kernel
theorem dX4_finds_206 : decode cX4_finds 206 = .ok (.lload 6, 2) := by decide +kernel
theorem dX4_finds_208 : decode cX4_finds 208 = .ok (.goto 5, 3) := by decide +kernel
theorem dX4_finds_211 : decode cX4_finds 211 = .ok (.lload 8, 2) := by decide +kernel
theorem dX4_finds_213 : decode cX4_finds 213 = .ok (.lastore, 1) := by decide +kernel
theorem dX4_finds_214 : decode cX4_finds 214 = .ok (.iinc 5 1, 3) := by decide +kernel
theorem dX4_finds_217 : decode cX4_finds 217 = .ok (.goto (-102), 3) := by decide +kernel
theorem dX4_finds_220 : decode cX4_finds 220 = .ok (.iinc 4 (-1), 3) := by decide +kernel
theorem dX4_finds_223 : decode cX4_finds 223 = .ok (.goto (-135), 3) := by decide +kernel
theorem dX4_finds_226 : decode cX4_finds 226 = .ok (.return_, 1) := by decide +kernel
theorem dX4_markAt_0 : decode cX4_markAt 0 = .ok (.aload_n 0, 1) := by decide +kernel
theorem dX4_markAt_1 : decode cX4_markAt 1 = .ok (.iload_n 1, 1) := by decide +kernel
theorem dX4_markAt_2 : decode cX4_markAt 2 = .ok (.iload_n 2, 1) := by decide +kernel
theorem dX4_markAt_3 : decode cX4_markAt 3 = .ok (.invokevirtual 104, 3) := by decide +kernel
theorem dX4_markAt_6 : decode cX4_markAt 6 = .ok (.aload_n 0, 1) := by decide +kernel
theorem dX4_markAt_7 : decode cX4_markAt 7 = .ok (.getfield 70, 3) := by decide +kernel
theorem dX4_markAt_10 : decode cX4_markAt 10 = .ok (.iconst 0, 1) := by decide +kernel
theorem dX4_markAt_11 : decode cX4_markAt 11 = .ok (.laload, 1) := by decide +kernel
theorem dX4_markAt_12 : decode cX4_markAt 12 = .ok (.aload_n 0, 1) := by decide +kernel
theorem dX4_markAt_13 : decode cX4_markAt 13 = .ok (.getfield 100, 3) := by decide +kernel
theorem dX4_markAt_16 : decode cX4_markAt 16 = .ok (.ldiv, 1) := by decide +kernel
theorem dX4_markAt_17 : decode cX4_markAt 17 = .ok (.ldc2_w 108, 3) := by decide +kernel
theorem dX4_markAt_20 : decode cX4_markAt 20 = .ok (.lmul, 1) := by decide +kernel
theorem dX4_markAt_21 : decode cX4_markAt 21 = .ok (.aload_n 0, 1) := by decide +kernel
theorem dX4_markAt_22 : decode cX4_markAt 22 = .ok (.getfield 70, 3) := by decide +kernel
theorem dX4_markAt_25 : decode cX4_markAt 25 = .ok (.iconst 0, 1) := by decide +kernel
theorem dX4_markAt_26 : decode cX4_markAt 26 = .ok (.laload, 1) := by decide +kernel
theorem dX4_markAt_27 : decode cX4_markAt 27 = .ok (.aload_n 0, 1) := by decide +kernel
theorem dX4_markAt_28 : decode cX4_markAt 28 = .ok (.getfield 100, 3) := by decide +kernel
theorem dX4_markAt_31 : decode cX4_markAt 31 = .ok (.lrem, 1) := by decide +kernel
theorem dX4_markAt_32 : decode cX4_markAt 32 = .ok (.ldc2_w 108, 3) := by decide +kernel
theorem dX4_markAt_35 : decode cX4_markAt 35 = .ok (.lmul, 1) := by decide +kernel
theorem dX4_markAt_36 : decode cX4_markAt 36 = .ok (.aload_n 0, 1) := by decide +kernel
theorem dX4_markAt_37 : decode cX4_markAt 37 = .ok (.getfield 100, 3) := by decide +kernel
