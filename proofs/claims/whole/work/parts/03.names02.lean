theorem dX4_markAt_40 : decode cX4_markAt 40 = .ok (.ldiv, 1) := by decide +kernel
theorem dX4_markAt_41 : decode cX4_markAt 41 = .ok (.ladd, 1) := by decide +kernel
theorem dX4_markAt_42 : decode cX4_markAt 42 = .ok (.lreturn, 1) := by decide +kernel
theorem dX4_worthAt_0 : decode cX4_worthAt 0 = .ok (.aload_n 0, 1) := by decide +kernel
theorem dX4_worthAt_1 : decode cX4_worthAt 1 = .ok (.getfield 57, 3) := by decide +kernel
theorem dX4_worthAt_4 : decode cX4_worthAt 4 = .ok (.bipush 6, 2) := by decide +kernel
theorem dX4_worthAt_6 : decode cX4_worthAt 6 = .ok (.laload, 1) := by decide +kernel
theorem dX4_worthAt_7 : decode cX4_worthAt 7 = .ok (.ldc2_w 108, 3) := by decide +kernel
theorem dX4_worthAt_10 : decode cX4_worthAt 10 = .ok (.iload_n 1, 1) := by decide +kernel
theorem dX4_worthAt_11 : decode cX4_worthAt 11 = .ok (.i2l, 1) := by decide +kernel
theorem dX4_worthAt_12 : decode cX4_worthAt 12 = .ok (.lmul, 1) := by decide +kernel
theorem dX4_worthAt_13 : decode cX4_worthAt 13 = .ok (.aload_n 0, 1) := by decide +kernel
theorem dX4_worthAt_14 : decode cX4_worthAt 14 = .ok (.getfield 110, 3) := by decide +kernel
theorem dX4_worthAt_17 : decode cX4_worthAt 17 = .ok (.i2l, 1) := by decide +kernel
theorem dX4_worthAt_18 : decode cX4_worthAt 18 = .ok (.lmul, 1) := by decide +kernel
theorem dX4_worthAt_19 : decode cX4_worthAt 19 = .ok (.ladd, 1) := by decide +kernel
theorem dX4_worthAt_20 : decode cX4_worthAt 20 = .ok (.lstore_n 2, 1) := by decide +kernel
theorem dX4_worthAt_21 : decode cX4_worthAt 21 = .ok (.iconst 0, 1) := by decide +kernel
theorem dX4_worthAt_22 : decode cX4_worthAt 22 = .ok (.istore 4, 2) := by decide +kernel
theorem dX4_worthAt_24 : decode cX4_worthAt 24 = .ok (.iload 4, 2) := by decide +kernel
theorem dX4_worthAt_26 : decode cX4_worthAt 26 = .ok (.aload_n 0, 1) := by decide +kernel
theorem dX4_worthAt_27 : decode cX4_worthAt 27 = .ok (.getfield 76, 3) := by decide +kernel
theorem dX4_worthAt_30 : decode cX4_worthAt 30 = .ok (.if_icmp .ge 45, 3) := by decide +kernel
theorem dX4_worthAt_33 : decode cX4_worthAt 33 = .ok (.aload_n 0, 1) := by decide +kernel
theorem dX4_worthAt_34 : decode cX4_worthAt 34 = .ok (.getfield 51, 3) := by decide +kernel
theorem dX4_worthAt_37 : decode cX4_worthAt 37 = .ok (.iconst (-1), 1) := by decide +kernel
theorem dX4_worthAt_38 : decode cX4_worthAt 38 = .ok (.iload 4, 2) := by decide +kernel
theorem dX4_worthAt_40 : decode cX4_worthAt 40 = .ok (.invokestatic 113, 3) := by decide +kernel
theorem dX4_worthAt_43 : decode cX4_worthAt 43 = .ok (.iaload, 1) := by decide +kernel
theorem dX4_worthAt_44 : decode cX4_worthAt 44 = .ok (.istore 5, 2) := by decide +kernel
theorem dX4_worthAt_46 : decode cX4_worthAt 46 = .ok (.lload_n 2, 1) := by decide +kernel
theorem dX4_worthAt_47 : decode cX4_worthAt 47 = .ok (.iload 5, 2) := by decide +kernel
theorem dX4_worthAt_49 : decode cX4_worthAt 49 = .ok (.ifCond .ne 7, 3) := by decide +kernel
theorem dX4_worthAt_52 : decode cX4_worthAt 52 = .ok (.lconst 0, 1) := by decide +kernel
theorem dX4_worthAt_53 : decode cX4_worthAt 53 = .ok (.goto 14, 3) := by decide +kernel
theorem dX4_worthAt_56 : decode cX4_worthAt 56 = .ok (.iload 5, 2) := by decide +kernel
theorem dX4_worthAt_58 : decode cX4_worthAt 58 = .ok (.i2l, 1) := by decide +kernel
theorem dX4_worthAt_59 : decode cX4_worthAt 59 = .ok (.aload_n 0, 1) := by decide +kernel
theorem dX4_worthAt_60 : decode cX4_worthAt 60 = .ok (.iload 4, 2) := by decide +kernel
theorem dX4_worthAt_62 : decode cX4_worthAt 62 = .ok (.iload_n 1, 1) := by decide +kernel
theorem dX4_worthAt_63 : decode cX4_worthAt 63 = .ok (.invokevirtual 117, 3) := by decide +kernel
theorem dX4_worthAt_66 : decode cX4_worthAt 66 = .ok (.lmul, 1) := by decide +kernel
theorem dX4_worthAt_67 : decode cX4_worthAt 67 = .ok (.ladd, 1) := by decide +kernel
theorem dX4_worthAt_68 : decode cX4_worthAt 68 = .ok (.lstore_n 2, 1) := by decide +kernel
theorem dX4_worthAt_69 : decode cX4_worthAt 69 = .ok (.iinc 4 1, 3) := by decide +kernel
theorem dX4_worthAt_72 : decode cX4_worthAt 72 = .ok (.goto (-48), 3) := by decide +kernel
theorem dX4_worthAt_75 : decode cX4_worthAt 75 = .ok (.lload_n 2, 1) := by decide +kernel
theorem dX4_worthAt_76 : decode cX4_worthAt 76 = .ok (.lreturn, 1) := by decide +kernel
theorem dX4_steps_0 : decode cX4_steps 0 = .ok (.aload_n 0, 1) := by decide +kernel
theorem dX4_steps_1 : decode cX4_steps 1 = .ok (.iload_n 1, 1) := by decide +kernel
theorem dX4_steps_2 : decode cX4_steps 2 = .ok (.i2l, 1) := by decide +kernel
theorem dX4_steps_3 : decode cX4_steps 3 = .ok (.lconst 1, 1) := by decide +kernel
theorem dX4_steps_4 : decode cX4_steps 4 = .ok (.ldc2_w 87, 3) := by decide +kernel
theorem dX4_steps_7 : decode cX4_steps 7 = .ok (.invokestatic 79, 3) := by decide +kernel
theorem dX4_steps_10 : decode cX4_steps 10 = .ok (.ifCond .eq 19, 3) := by decide +kernel
theorem dX4_steps_13 : decode cX4_steps 13 = .ok (.iload_n 2, 1) := by decide +kernel
theorem dX4_steps_14 : decode cX4_steps 14 = .ok (.i2l, 1) := by decide +kernel
theorem dX4_steps_15 : decode cX4_steps 15 = .ok (.lconst 1, 1) := by decide +kernel
theorem dX4_steps_16 : decode cX4_steps 16 = .ok (.ldc2_w 87, 3) := by decide +kernel
theorem dX4_steps_19 : decode cX4_steps 19 = .ok (.invokestatic 79, 3) := by decide +kernel
theorem dX4_steps_22 : decode cX4_steps 22 = .ok (.ifCond .eq 7, 3) := by decide +kernel
theorem dX4_steps_25 : decode cX4_steps 25 = .ok (.iconst 0, 1) := by decide +kernel
theorem dX4_steps_26 : decode cX4_steps 26 = .ok (.goto 4, 3) := by decide +kernel
theorem dX4_steps_29 : decode cX4_steps 29 = .ok (.iconst 1, 1) := by decide +kernel
theorem dX4_steps_30 : decode cX4_steps 30 = .ok (.putfield 73, 3) := by decide +kernel
theorem dX4_steps_33 : decode cX4_steps 33 = .ok (.aload_n 0, 1) := by decide +kernel
theorem dX4_steps_34 : decode cX4_steps 34 = .ok (.getfield 73, 3) := by decide +kernel
theorem dX4_steps_37 : decode cX4_steps 37 = .ok (.ifCond .ne 41, 3) := by decide +kernel
theorem dX4_steps_40 : decode cX4_steps 40 = .ok (.aload_n 0, 1) := by decide +kernel
theorem dX4_steps_41 : decode cX4_steps 41 = .ok (.aload_n 0, 1) := by decide +kernel
theorem dX4_steps_42 : decode cX4_steps 42 = .ok (.getfield 7, 3) := by decide +kernel
theorem dX4_steps_45 : decode cX4_steps 45 = .ok (.invokevirtual 121, 3) := by decide +kernel
theorem dX4_steps_48 : decode cX4_steps 48 = .ok (.lstore_n 3, 1) := by decide +kernel
theorem dX4_steps_49 : decode cX4_steps 49 = .ok (.aload_n 0, 1) := by decide +kernel
theorem dX4_steps_50 : decode cX4_steps 50 = .ok (.iload_n 1, 1) := by decide +kernel
theorem dX4_steps_51 : decode cX4_steps 51 = .ok (.putfield 13, 3) := by decide +kernel
theorem dX4_steps_54 : decode cX4_steps 54 = .ok (.aload_n 0, 1) := by decide +kernel
theorem dX4_steps_55 : decode cX4_steps 55 = .ok (.iload_n 2, 1) := by decide +kernel
theorem dX4_steps_56 : decode cX4_steps 56 = .ok (.putfield 16, 3) := by decide +kernel
theorem dX4_steps_59 : decode cX4_steps 59 = .ok (.aload_n 0, 1) := by decide +kernel
theorem dX4_steps_60 : decode cX4_steps 60 = .ok (.getfield 67, 3) := by decide +kernel
theorem dX4_steps_63 : decode cX4_steps 63 = .ok (.iconst 5, 1) := by decide +kernel
theorem dX4_steps_64 : decode cX4_steps 64 = .ok (.dup2, 1) := by decide +kernel
theorem dX4_steps_65 : decode cX4_steps 65 = .ok (.laload, 1) := by decide +kernel
theorem dX4_steps_66 : decode cX4_steps 66 = .ok (.aload_n 0, 1) := by decide +kernel
theorem dX4_steps_67 : decode cX4_steps 67 = .ok (.aload_n 0, 1) := by decide +kernel
theorem dX4_steps_68 : decode cX4_steps 68 = .ok (.getfield 7, 3) := by decide +kernel
theorem dX4_steps_71 : decode cX4_steps 71 = .ok (.invokevirtual 121, 3) := by decide +kernel
theorem dX4_steps_74 : decode cX4_steps 74 = .ok (.lload_n 3, 1) := by decide +kernel
theorem dX4_steps_75 : decode cX4_steps 75 = .ok (.lsub, 1) := by decide +kernel
theorem dX4_steps_76 : decode cX4_steps 76 = .ok (.ladd, 1) := by decide +kernel
theorem dX4_steps_77 : decode cX4_steps 77 = .ok (.lastore, 1) := by decide +kernel
theorem dX4_steps_78 : decode cX4_steps 78 = .ok (.return_, 1) := by decide +kernel
theorem dX4_move_0 : decode cX4_move 0 = .ok (.aload_n 0, 1) := by decide +kernel
theorem dX4_move_1 : decode cX4_move 1 = .ok (.iload_n 1, 1) := by decide +kernel
theorem dX4_move_2 : decode cX4_move 2 = .ok (.i2l, 1) := by decide +kernel
theorem dX4_move_3 : decode cX4_move 3 = .ok (.lconst 0, 1) := by decide +kernel
theorem dX4_move_4 : decode cX4_move 4 = .ok (.ldc2_w 125, 3) := by decide +kernel
theorem dX4_move_7 : decode cX4_move 7 = .ok (.invokestatic 79, 3) := by decide +kernel
theorem dX4_move_10 : decode cX4_move 10 = .ok (.ifCond .eq 7, 3) := by decide +kernel
theorem dX4_move_13 : decode cX4_move 13 = .ok (.iconst 0, 1) := by decide +kernel
theorem dX4_move_14 : decode cX4_move 14 = .ok (.goto 4, 3) := by decide +kernel
theorem dX4_move_17 : decode cX4_move 17 = .ok (.iconst 1, 1) := by decide +kernel
theorem dX4_move_18 : decode cX4_move 18 = .ok (.putfield 73, 3) := by decide +kernel
theorem dX4_move_21 : decode cX4_move 21 = .ok (.aload_n 0, 1) := by decide +kernel
theorem dX4_move_22 : decode cX4_move 22 = .ok (.getfield 73, 3) := by decide +kernel
theorem dX4_move_25 : decode cX4_move 25 = .ok (.ifCond .le 5, 3) := by decide +kernel
theorem dX4_move_28 : decode cX4_move 28 = .ok (.lconst 0, 1) := by decide +kernel
theorem dX4_move_29 : decode cX4_move 29 = .ok (.lreturn, 1) := by decide +kernel
theorem dX4_move_30 : decode cX4_move 30 = .ok (.aload_n 0, 1) := by decide +kernel
theorem dX4_move_31 : decode cX4_move 31 = .ok (.iload_n 1, 1) := by decide +kernel
theorem dX4_move_32 : decode cX4_move 32 = .ok (.invokevirtual 121, 3) := by decide +kernel
theorem dX4_move_35 : decode cX4_move 35 = .ok (.aload_n 0, 1) := by decide +kernel
theorem dX4_move_36 : decode cX4_move 36 = .ok (.aload_n 0, 1) := by decide +kernel
theorem dX4_move_37 : decode cX4_move 37 = .ok (.getfield 7, 3) := by decide +kernel
theorem dX4_move_40 : decode cX4_move 40 = .ok (.invokevirtual 121, 3) := by decide +kernel
theorem dX4_move_43 : decode cX4_move 43 = .ok (.lsub, 1) := by decide +kernel
theorem dX4_move_44 : decode cX4_move 44 = .ok (.lstore_n 2, 1) := by decide +kernel
theorem dX4_move_45 : decode cX4_move 45 = .ok (.aload_n 0, 1) := by decide +kernel
theorem dX4_move_46 : decode cX4_move 46 = .ok (.iload_n 1, 1) := by decide +kernel
theorem dX4_move_47 : decode cX4_move 47 = .ok (.putfield 7, 3) := by decide +kernel
theorem dX4_move_50 : decode cX4_move 50 = .ok (.aload_n 0, 1) := by decide +kernel
theorem dX4_move_51 : decode cX4_move 51 = .ok (.getfield 67, 3) := by decide +kernel
theorem dX4_move_54 : decode cX4_move 54 = .ok (.iconst 1, 1) := by decide +kernel
theorem dX4_move_55 : decode cX4_move 55 = .ok (.dup2, 1) := by decide +kernel
theorem dX4_move_56 : decode cX4_move 56 = .ok (.laload, 1) := by decide +kernel
theorem dX4_move_57 : decode cX4_move 57 = .ok (.lload_n 2, 1) := by decide +kernel
theorem dX4_move_58 : decode cX4_move 58 = .ok (.ladd, 1) := by decide +kernel
theorem dX4_move_59 : decode cX4_move 59 = .ok (.lastore, 1) := by decide +kernel
theorem dX4_move_60 : decode cX4_move 60 = .ok (.lload_n 2, 1) := by decide +kernel
theorem dX4_move_61 : decode cX4_move 61 = .ok (.lreturn, 1) := by decide +kernel
theorem dX4_dividend_0 : decode cX4_dividend 0 = .ok (.aload_n 0, 1) := by decide +kernel
theorem dX4_dividend_1 : decode cX4_dividend 1 = .ok (.iload_n 1, 1) := by decide +kernel
theorem dX4_dividend_2 : decode cX4_dividend 2 = .ok (.i2l, 1) := by decide +kernel
theorem dX4_dividend_3 : decode cX4_dividend 3 = .ok (.aload_n 0, 1) := by decide +kernel
theorem dX4_dividend_4 : decode cX4_dividend 4 = .ok (.getfield 89, 3) := by decide +kernel
theorem dX4_dividend_7 : decode cX4_dividend 7 = .ok (.iconst 1, 1) := by decide +kernel
theorem dX4_dividend_8 : decode cX4_dividend 8 = .ok (.iadd, 1) := by decide +kernel
theorem dX4_dividend_9 : decode cX4_dividend 9 = .ok (.i2l, 1) := by decide +kernel
theorem dX4_dividend_10 : decode cX4_dividend 10 = .ok (.ldc2_w 127, 3) := by decide +kernel
theorem dX4_dividend_13 : decode cX4_dividend 13 = .ok (.invokestatic 79, 3) := by decide +kernel
theorem dX4_dividend_16 : decode cX4_dividend 16 = .ok (.ifCond .eq 19, 3) := by decide +kernel
theorem dX4_dividend_19 : decode cX4_dividend 19 = .ok (.iload_n 2, 1) := by decide +kernel
theorem dX4_dividend_20 : decode cX4_dividend 20 = .ok (.i2l, 1) := by decide +kernel
theorem dX4_dividend_21 : decode cX4_dividend 21 = .ok (.lconst 0, 1) := by decide +kernel
theorem dX4_dividend_22 : decode cX4_dividend 22 = .ok (.ldc2_w 108, 3) := by decide +kernel
theorem dX4_dividend_25 : decode cX4_dividend 25 = .ok (.invokestatic 79, 3) := by decide +kernel
theorem dX4_dividend_28 : decode cX4_dividend 28 = .ok (.ifCond .eq 7, 3) := by decide +kernel
theorem dX4_dividend_31 : decode cX4_dividend 31 = .ok (.iconst 0, 1) := by decide +kernel
theorem dX4_dividend_32 : decode cX4_dividend 32 = .ok (.goto 4, 3) := by decide +kernel
theorem dX4_dividend_35 : decode cX4_dividend 35 = .ok (.iconst 1, 1) := by decide +kernel
theorem dX4_dividend_36 : decode cX4_dividend 36 = .ok (.putfield 73, 3) := by decide +kernel
theorem dX4_dividend_39 : decode cX4_dividend 39 = .ok (.aload_n 0, 1) := by decide +kernel
theorem dX4_dividend_40 : decode cX4_dividend 40 = .ok (.getfield 73, 3) := by decide +kernel
theorem dX4_dividend_43 : decode cX4_dividend 43 = .ok (.ifCond .le 5, 3) := by decide +kernel
theorem dX4_dividend_46 : decode cX4_dividend 46 = .ok (.iconst 0, 1) := by decide +kernel
theorem dX4_dividend_47 : decode cX4_dividend 47 = .ok (.ireturn, 1) := by decide +kernel
theorem dX4_dividend_48 : decode cX4_dividend 48 = .ok (.aload_n 0, 1) := by decide +kernel
theorem dX4_dividend_49 : decode cX4_dividend 49 = .ok (.aload_n 0, 1) := by decide +kernel
theorem dX4_dividend_50 : decode cX4_dividend 50 = .ok (.getfield 7, 3) := by decide +kernel
theorem dX4_dividend_53 : decode cX4_dividend 53 = .ok (.invokevirtual 121, 3) := by decide +kernel
theorem dX4_dividend_56 : decode cX4_dividend 56 = .ok (.lstore_n 3, 1) := by decide +kernel
theorem dX4_dividend_57 : decode cX4_dividend 57 = .ok (.aload_n 0, 1) := by decide +kernel
theorem dX4_dividend_58 : decode cX4_dividend 58 = .ok (.getfield 19, 3) := by decide +kernel
theorem dX4_dividend_61 : decode cX4_dividend 61 = .ok (.iload_n 1, 1) := by decide +kernel
theorem dX4_dividend_62 : decode cX4_dividend 62 = .ok (.iaload, 1) := by decide +kernel
theorem dX4_dividend_63 : decode cX4_dividend 63 = .ok (.istore 5, 2) := by decide +kernel
theorem dX4_dividend_65 : decode cX4_dividend 65 = .ok (.aload_n 0, 1) := by decide +kernel
theorem dX4_dividend_66 : decode cX4_dividend 66 = .ok (.getfield 19, 3) := by decide +kernel
theorem dX4_dividend_69 : decode cX4_dividend 69 = .ok (.iload_n 1, 1) := by decide +kernel
theorem dX4_dividend_70 : decode cX4_dividend 70 = .ok (.iload_n 2, 1) := by decide +kernel
theorem dX4_dividend_71 : decode cX4_dividend 71 = .ok (.iastore, 1) := by decide +kernel
theorem dX4_dividend_72 : decode cX4_dividend 72 = .ok (.aload_n 0, 1) := by decide +kernel
theorem dX4_dividend_73 : decode cX4_dividend 73 = .ok (.getfield 67, 3) := by decide +kernel
theorem dX4_dividend_76 : decode cX4_dividend 76 = .ok (.iconst 5, 1) := by decide +kernel
theorem dX4_dividend_77 : decode cX4_dividend 77 = .ok (.dup2, 1) := by decide +kernel
theorem dX4_dividend_78 : decode cX4_dividend 78 = .ok (.laload, 1) := by decide +kernel
theorem dX4_dividend_79 : decode cX4_dividend 79 = .ok (.aload_n 0, 1) := by decide +kernel
theorem dX4_dividend_80 : decode cX4_dividend 80 = .ok (.aload_n 0, 1) := by decide +kernel
theorem dX4_dividend_81 : decode cX4_dividend 81 = .ok (.getfield 7, 3) := by decide +kernel
theorem dX4_dividend_84 : decode cX4_dividend 84 = .ok (.invokevirtual 121, 3) := by decide +kernel
theorem dX4_dividend_87 : decode cX4_dividend 87 = .ok (.lload_n 3, 1) := by decide +kernel
theorem dX4_dividend_88 : decode cX4_dividend 88 = .ok (.lsub, 1) := by decide +kernel
theorem dX4_dividend_89 : decode cX4_dividend 89 = .ok (.ladd, 1) := by decide +kernel
theorem dX4_dividend_90 : decode cX4_dividend 90 = .ok (.lastore, 1) := by decide +kernel
theorem dX4_dividend_91 : decode cX4_dividend 91 = .ok (.iload 5, 2) := by decide +kernel
theorem dX4_dividend_93 : decode cX4_dividend 93 = .ok (.ireturn, 1) := by decide +kernel
theorem dX4_contract_0 : decode cX4_contract 0 = .ok (.iload_n 1, 1) := by decide +kernel
theorem dX4_contract_1 : decode cX4_contract 1 = .ok (.i2l, 1) := by decide +kernel
theorem dX4_contract_2 : decode cX4_contract 2 = .ok (.lconst 0, 1) := by decide +kernel
theorem dX4_contract_3 : decode cX4_contract 3 = .ok (.lconst 1, 1) := by decide +kernel
theorem dX4_contract_4 : decode cX4_contract 4 = .ok (.invokestatic 79, 3) := by decide +kernel
theorem dX4_contract_7 : decode cX4_contract 7 = .ok (.ifCond .eq 47, 3) := by decide +kernel
theorem dX4_contract_10 : decode cX4_contract 10 = .ok (.iload_n 2, 1) := by decide +kernel
theorem dX4_contract_11 : decode cX4_contract 11 = .ok (.i2l, 1) := by decide +kernel
theorem dX4_contract_12 : decode cX4_contract 12 = .ok (.lconst 0, 1) := by decide +kernel
theorem dX4_contract_13 : decode cX4_contract 13 = .ok (.ldc2_w 125, 3) := by decide +kernel
theorem dX4_contract_16 : decode cX4_contract 16 = .ok (.invokestatic 79, 3) := by decide +kernel
theorem dX4_contract_19 : decode cX4_contract 19 = .ok (.ifCond .eq 35, 3) := by decide +kernel
theorem dX4_contract_22 : decode cX4_contract 22 = .ok (.iload_n 3, 1) := by decide +kernel
theorem dX4_contract_23 : decode cX4_contract 23 = .ok (.i2l, 1) := by decide +kernel
theorem dX4_contract_24 : decode cX4_contract 24 = .ok (.aload_n 0, 1) := by decide +kernel
theorem dX4_contract_25 : decode cX4_contract 25 = .ok (.getfield 89, 3) := by decide +kernel
theorem dX4_contract_28 : decode cX4_contract 28 = .ok (.i2l, 1) := by decide +kernel
theorem dX4_contract_29 : decode cX4_contract 29 = .ok (.aload_n 0, 1) := by decide +kernel
theorem dX4_contract_30 : decode cX4_contract 30 = .ok (.getfield 89, 3) := by decide +kernel
theorem dX4_contract_33 : decode cX4_contract 33 = .ok (.bipush 10, 2) := by decide +kernel
theorem dX4_contract_35 : decode cX4_contract 35 = .ok (.iadd, 1) := by decide +kernel
theorem dX4_contract_36 : decode cX4_contract 36 = .ok (.i2l, 1) := by decide +kernel
theorem dX4_contract_37 : decode cX4_contract 37 = .ok (.invokestatic 79, 3) := by decide +kernel
theorem dX4_contract_40 : decode cX4_contract 40 = .ok (.ifCond .eq 14, 3) := by decide +kernel
theorem dX4_contract_43 : decode cX4_contract 43 = .ok (.iload_n 3, 1) := by decide +kernel
theorem dX4_contract_44 : decode cX4_contract 44 = .ok (.sipush 200, 3) := by decide +kernel
theorem dX4_contract_47 : decode cX4_contract 47 = .ok (.if_icmp .gt 7, 3) := by decide +kernel
theorem dX4_contract_50 : decode cX4_contract 50 = .ok (.iconst 1, 1) := by decide +kernel
theorem dX4_contract_51 : decode cX4_contract 51 = .ok (.goto 4, 3) := by decide +kernel
theorem dX4_contract_54 : decode cX4_contract 54 = .ok (.iconst 0, 1) := by decide +kernel
theorem dX4_contract_55 : decode cX4_contract 55 = .ok (.istore 5, 2) := by decide +kernel
theorem dX4_contract_57 : decode cX4_contract 57 = .ok (.aload_n 0, 1) := by decide +kernel
theorem dX4_contract_58 : decode cX4_contract 58 = .ok (.iload 5, 2) := by decide +kernel
theorem dX4_contract_60 : decode cX4_contract 60 = .ok (.ifCond .ne 7, 3) := by decide +kernel
theorem dX4_contract_63 : decode cX4_contract 63 = .ok (.iconst 1, 1) := by decide +kernel
theorem dX4_contract_64 : decode cX4_contract 64 = .ok (.goto 17, 3) := by decide +kernel
theorem dX4_contract_67 : decode cX4_contract 67 = .ok (.aload_n 0, 1) := by decide +kernel
theorem dX4_contract_68 : decode cX4_contract 68 = .ok (.getfield 76, 3) := by decide +kernel
theorem dX4_contract_71 : decode cX4_contract 71 = .ok (.bipush 12, 2) := by decide +kernel
theorem dX4_contract_73 : decode cX4_contract 73 = .ok (.if_icmp .ne 7, 3) := by decide +kernel
theorem dX4_contract_76 : decode cX4_contract 76 = .ok (.iconst 2, 1) := by decide +kernel
theorem dX4_contract_77 : decode cX4_contract 77 = .ok (.goto 4, 3) := by decide +kernel
theorem dX4_contract_80 : decode cX4_contract 80 = .ok (.iconst 0, 1) := by decide +kernel
theorem dX4_contract_81 : decode cX4_contract 81 = .ok (.putfield 73, 3) := by decide +kernel
theorem dX4_contract_84 : decode cX4_contract 84 = .ok (.aload_n 0, 1) := by decide +kernel
theorem dX4_contract_85 : decode cX4_contract 85 = .ok (.getfield 73, 3) := by decide +kernel
theorem dX4_contract_88 : decode cX4_contract 88 = .ok (.ifCond .le 5, 3) := by decide +kernel
theorem dX4_contract_91 : decode cX4_contract 91 = .ok (.iconst 0, 1) := by decide +kernel
theorem dX4_contract_92 : decode cX4_contract 92 = .ok (.ireturn, 1) := by decide +kernel
theorem dX4_contract_93 : decode cX4_contract 93 = .ok (.aload_n 0, 1) := by decide +kernel
theorem dX4_contract_94 : decode cX4_contract 94 = .ok (.getfield 23, 3) := by decide +kernel
theorem dX4_contract_97 : decode cX4_contract 97 = .ok (.aload_n 0, 1) := by decide +kernel
theorem dX4_contract_98 : decode cX4_contract 98 = .ok (.getfield 76, 3) := by decide +kernel
theorem dX4_contract_101 : decode cX4_contract 101 = .ok (.iload_n 1, 1) := by decide +kernel
theorem dX4_contract_102 : decode cX4_contract 102 = .ok (.iastore, 1) := by decide +kernel
theorem dX4_contract_103 : decode cX4_contract 103 = .ok (.aload_n 0, 1) := by decide +kernel
theorem dX4_contract_104 : decode cX4_contract 104 = .ok (.getfield 26, 3) := by decide +kernel
theorem dX4_contract_107 : decode cX4_contract 107 = .ok (.aload_n 0, 1) := by decide +kernel
theorem dX4_contract_108 : decode cX4_contract 108 = .ok (.getfield 76, 3) := by decide +kernel
theorem dX4_contract_111 : decode cX4_contract 111 = .ok (.iload_n 2, 1) := by decide +kernel
theorem dX4_contract_112 : decode cX4_contract 112 = .ok (.iastore, 1) := by decide +kernel
theorem dX4_contract_113 : decode cX4_contract 113 = .ok (.aload_n 0, 1) := by decide +kernel
theorem dX4_contract_114 : decode cX4_contract 114 = .ok (.getfield 29, 3) := by decide +kernel
theorem dX4_contract_117 : decode cX4_contract 117 = .ok (.aload_n 0, 1) := by decide +kernel
theorem dX4_contract_118 : decode cX4_contract 118 = .ok (.getfield 76, 3) := by decide +kernel
theorem dX4_contract_121 : decode cX4_contract 121 = .ok (.iload_n 3, 1) := by decide +kernel
theorem dX4_contract_122 : decode cX4_contract 122 = .ok (.iastore, 1) := by decide +kernel
theorem dX4_contract_123 : decode cX4_contract 123 = .ok (.aload_n 0, 1) := by decide +kernel
theorem dX4_contract_124 : decode cX4_contract 124 = .ok (.getfield 32, 3) := by decide +kernel
theorem dX4_contract_127 : decode cX4_contract 127 = .ok (.aload_n 0, 1) := by decide +kernel
theorem dX4_contract_128 : decode cX4_contract 128 = .ok (.getfield 76, 3) := by decide +kernel
theorem dX4_contract_131 : decode cX4_contract 131 = .ok (.iload 4, 2) := by decide +kernel
theorem dX4_contract_133 : decode cX4_contract 133 = .ok (.bastore, 1) := by decide +kernel
theorem dX4_contract_134 : decode cX4_contract 134 = .ok (.aload_n 0, 1) := by decide +kernel
theorem dX4_contract_135 : decode cX4_contract 135 = .ok (.dup, 1) := by decide +kernel
theorem dX4_contract_136 : decode cX4_contract 136 = .ok (.getfield 76, 3) := by decide +kernel
theorem dX4_contract_139 : decode cX4_contract 139 = .ok (.iconst 1, 1) := by decide +kernel
theorem dX4_contract_140 : decode cX4_contract 140 = .ok (.iadd, 1) := by decide +kernel
theorem dX4_contract_141 : decode cX4_contract 141 = .ok (.putfield 76, 3) := by decide +kernel
theorem dX4_contract_144 : decode cX4_contract 144 = .ok (.aload_n 0, 1) := by decide +kernel
theorem dX4_contract_145 : decode cX4_contract 145 = .ok (.getfield 76, 3) := by decide +kernel
theorem dX4_contract_148 : decode cX4_contract 148 = .ok (.iconst 1, 1) := by decide +kernel
theorem dX4_contract_149 : decode cX4_contract 149 = .ok (.isub, 1) := by decide +kernel
theorem dX4_contract_150 : decode cX4_contract 150 = .ok (.ireturn, 1) := by decide +kernel
theorem dX4_isAlike_0 : decode cX4_isAlike 0 = .ok (.aload_n 0, 1) := by decide +kernel
theorem dX4_isAlike_1 : decode cX4_isAlike 1 = .ok (.getfield 23, 3) := by decide +kernel
theorem dX4_isAlike_4 : decode cX4_isAlike 4 = .ok (.iload_n 1, 1) := by decide +kernel
theorem dX4_isAlike_5 : decode cX4_isAlike 5 = .ok (.iaload, 1) := by decide +kernel
theorem dX4_isAlike_6 : decode cX4_isAlike 6 = .ok (.aload_n 0, 1) := by decide +kernel
theorem dX4_isAlike_7 : decode cX4_isAlike 7 = .ok (.getfield 23, 3) := by decide +kernel
theorem dX4_isAlike_10 : decode cX4_isAlike 10 = .ok (.iload_n 2, 1) := by decide +kernel
theorem dX4_isAlike_11 : decode cX4_isAlike 11 = .ok (.iaload, 1) := by decide +kernel
theorem dX4_isAlike_12 : decode cX4_isAlike 12 = .ok (.if_icmp .ne 22, 3) := by decide +kernel
theorem dX4_isAlike_15 : decode cX4_isAlike 15 = .ok (.aload_n 0, 1) := by decide +kernel
theorem dX4_isAlike_16 : decode cX4_isAlike 16 = .ok (.getfield 32, 3) := by decide +kernel
theorem dX4_isAlike_19 : decode cX4_isAlike 19 = .ok (.iload_n 1, 1) := by decide +kernel
theorem dX4_isAlike_20 : decode cX4_isAlike 20 = .ok (.baload, 1) := by decide +kernel
theorem dX4_isAlike_21 : decode cX4_isAlike 21 = .ok (.aload_n 0, 1) := by decide +kernel
theorem dX4_isAlike_22 : decode cX4_isAlike 22 = .ok (.getfield 32, 3) := by decide +kernel
theorem dX4_isAlike_25 : decode cX4_isAlike 25 = .ok (.iload_n 2, 1) := by decide +kernel
theorem dX4_isAlike_26 : decode cX4_isAlike 26 = .ok (.baload, 1) := by decide +kernel
theorem dX4_isAlike_27 : decode cX4_isAlike 27 = .ok (.if_icmp .ne 7, 3) := by decide +kernel
theorem dX4_isAlike_30 : decode cX4_isAlike 30 = .ok (.iconst 1, 1) := by decide +kernel
theorem dX4_isAlike_31 : decode cX4_isAlike 31 = .ok (.goto 4, 3) := by decide +kernel
theorem dX4_isAlike_34 : decode cX4_isAlike 34 = .ok (.iconst 0, 1) := by decide +kernel
theorem dX4_isAlike_35 : decode cX4_isAlike 35 = .ok (.istore 4, 2) := by decide +kernel
theorem dX4_isAlike_37 : decode cX4_isAlike 37 = .ok (.iload 4, 2) := by decide +kernel
theorem dX4_isAlike_39 : decode cX4_isAlike 39 = .ok (.ifCond .eq 74, 3) := by decide +kernel
theorem dX4_isAlike_42 : decode cX4_isAlike 42 = .ok (.iload_n 3, 1) := by decide +kernel
theorem dX4_isAlike_43 : decode cX4_isAlike 43 = .ok (.ifCond .eq 36, 3) := by decide +kernel
theorem dX4_isAlike_46 : decode cX4_isAlike 46 = .ok (.aload_n 0, 1) := by decide +kernel
theorem dX4_isAlike_47 : decode cX4_isAlike 47 = .ok (.getfield 29, 3) := by decide +kernel
theorem dX4_isAlike_50 : decode cX4_isAlike 50 = .ok (.iload_n 1, 1) := by decide +kernel
theorem dX4_isAlike_51 : decode cX4_isAlike 51 = .ok (.iaload, 1) := by decide +kernel
theorem dX4_isAlike_52 : decode cX4_isAlike 52 = .ok (.aload_n 0, 1) := by decide +kernel
theorem dX4_isAlike_53 : decode cX4_isAlike 53 = .ok (.getfield 29, 3) := by decide +kernel
theorem dX4_isAlike_56 : decode cX4_isAlike 56 = .ok (.iload_n 2, 1) := by decide +kernel
theorem dX4_isAlike_57 : decode cX4_isAlike 57 = .ok (.iaload, 1) := by decide +kernel
theorem dX4_isAlike_58 : decode cX4_isAlike 58 = .ok (.if_icmp .ne 55, 3) := by decide +kernel
theorem dX4_isAlike_61 : decode cX4_isAlike 61 = .ok (.aload_n 0, 1) := by decide +kernel
theorem dX4_isAlike_62 : decode cX4_isAlike 62 = .ok (.getfield 26, 3) := by decide +kernel
theorem dX4_isAlike_65 : decode cX4_isAlike 65 = .ok (.iload_n 1, 1) := by decide +kernel
theorem dX4_isAlike_66 : decode cX4_isAlike 66 = .ok (.iaload, 1) := by decide +kernel
theorem dX4_isAlike_67 : decode cX4_isAlike 67 = .ok (.aload_n 0, 1) := by decide +kernel
theorem dX4_isAlike_68 : decode cX4_isAlike 68 = .ok (.getfield 26, 3) := by decide +kernel
theorem dX4_isAlike_71 : decode cX4_isAlike 71 = .ok (.iload_n 2, 1) := by decide +kernel
theorem dX4_isAlike_72 : decode cX4_isAlike 72 = .ok (.iaload, 1) := by decide +kernel
theorem dX4_isAlike_73 : decode cX4_isAlike 73 = .ok (.if_icmp .eq 40, 3) := by decide +kernel
theorem dX4_isAlike_76 : decode cX4_isAlike 76 = .ok (.goto 33, 3) := by decide +kernel
theorem dX4_isAlike_79 : decode cX4_isAlike 79 = .ok (.aload_n 0, 1) := by decide +kernel
theorem dX4_isAlike_80 : decode cX4_isAlike 80 = .ok (.getfield 26, 3) := by decide +kernel
theorem dX4_isAlike_83 : decode cX4_isAlike 83 = .ok (.iload_n 1, 1) := by decide +kernel
theorem dX4_isAlike_84 : decode cX4_isAlike 84 = .ok (.iaload, 1) := by decide +kernel
theorem dX4_isAlike_85 : decode cX4_isAlike 85 = .ok (.aload_n 0, 1) := by decide +kernel
theorem dX4_isAlike_86 : decode cX4_isAlike 86 = .ok (.getfield 26, 3) := by decide +kernel
theorem dX4_isAlike_89 : decode cX4_isAlike 89 = .ok (.iload_n 2, 1) := by decide +kernel
theorem dX4_isAlike_90 : decode cX4_isAlike 90 = .ok (.iaload, 1) := by decide +kernel
theorem dX4_isAlike_91 : decode cX4_isAlike 91 = .ok (.if_icmp .ne 22, 3) := by decide +kernel
theorem dX4_isAlike_94 : decode cX4_isAlike 94 = .ok (.aload_n 0, 1) := by decide +kernel
theorem dX4_isAlike_95 : decode cX4_isAlike 95 = .ok (.getfield 29, 3) := by decide +kernel
theorem dX4_isAlike_98 : decode cX4_isAlike 98 = .ok (.iload_n 1, 1) := by decide +kernel
theorem dX4_isAlike_99 : decode cX4_isAlike 99 = .ok (.iaload, 1) := by decide +kernel
theorem dX4_isAlike_100 : decode cX4_isAlike 100 = .ok (.aload_n 0, 1) := by decide +kernel
theorem dX4_isAlike_101 : decode cX4_isAlike 101 = .ok (.getfield 29, 3) := by decide +kernel
theorem dX4_isAlike_104 : decode cX4_isAlike 104 = .ok (.iload_n 2, 1) := by decide +kernel
theorem dX4_isAlike_105 : decode cX4_isAlike 105 = .ok (.iaload, 1) := by decide +kernel
theorem dX4_isAlike_106 : decode cX4_isAlike 106 = .ok (.if_icmp .eq 7, 3) := by decide +kernel
theorem dX4_isAlike_109 : decode cX4_isAlike 109 = .ok (.iconst 1, 1) := by decide +kernel
theorem dX4_isAlike_110 : decode cX4_isAlike 110 = .ok (.goto 4, 3) := by decide +kernel
theorem dX4_isAlike_113 : decode cX4_isAlike 113 = .ok (.iconst 0, 1) := by decide +kernel
theorem dX4_isAlike_114 : decode cX4_isAlike 114 = .ok (.ireturn, 1) := by decide +kernel
theorem dX4_hasBoth_0 : decode cX4_hasBoth 0 = .ok (.aload_n 0, 1) := by decide +kernel
theorem dX4_hasBoth_1 : decode cX4_hasBoth 1 = .ok (.getfield 36, 3) := by decide +kernel
theorem dX4_hasBoth_4 : decode cX4_hasBoth 4 = .ok (.iload_n 1, 1) := by decide +kernel
theorem dX4_hasBoth_5 : decode cX4_hasBoth 5 = .ok (.baload, 1) := by decide +kernel
theorem dX4_hasBoth_6 : decode cX4_hasBoth 6 = .ok (.ifCond .ne 25, 3) := by decide +kernel
theorem dX4_hasBoth_9 : decode cX4_hasBoth 9 = .ok (.aload_n 0, 1) := by decide +kernel
theorem dX4_hasBoth_10 : decode cX4_hasBoth 10 = .ok (.getfield 45, 3) := by decide +kernel
theorem dX4_hasBoth_13 : decode cX4_hasBoth 13 = .ok (.iload_n 1, 1) := by decide +kernel
theorem dX4_hasBoth_14 : decode cX4_hasBoth 14 = .ok (.iaload, 1) := by decide +kernel
theorem dX4_hasBoth_15 : decode cX4_hasBoth 15 = .ok (.ifCond .le 16, 3) := by decide +kernel
theorem dX4_hasBoth_18 : decode cX4_hasBoth 18 = .ok (.aload_n 0, 1) := by decide +kernel
theorem dX4_hasBoth_19 : decode cX4_hasBoth 19 = .ok (.getfield 48, 3) := by decide +kernel
theorem dX4_hasBoth_22 : decode cX4_hasBoth 22 = .ok (.iload_n 1, 1) := by decide +kernel
theorem dX4_hasBoth_23 : decode cX4_hasBoth 23 = .ok (.iaload, 1) := by decide +kernel
theorem dX4_hasBoth_24 : decode cX4_hasBoth 24 = .ok (.ifCond .le 7, 3) := by decide +kernel
theorem dX4_hasBoth_27 : decode cX4_hasBoth 27 = .ok (.iconst 1, 1) := by decide +kernel
theorem dX4_hasBoth_28 : decode cX4_hasBoth 28 = .ok (.goto 4, 3) := by decide +kernel
theorem dX4_hasBoth_31 : decode cX4_hasBoth 31 = .ok (.iconst 0, 1) := by decide +kernel
theorem dX4_hasBoth_32 : decode cX4_hasBoth 32 = .ok (.ireturn, 1) := by decide +kernel
theorem dX4_faultOf_0 : decode cX4_faultOf 0 = .ok (.iload_n 1, 1) := by decide +kernel
theorem dX4_faultOf_1 : decode cX4_faultOf 1 = .ok (.iload_n 2, 1) := by decide +kernel
theorem dX4_faultOf_2 : decode cX4_faultOf 2 = .ok (.if_icmp .ne 25, 3) := by decide +kernel
theorem dX4_faultOf_5 : decode cX4_faultOf 5 = .ok (.aload_n 0, 1) := by decide +kernel
theorem dX4_faultOf_6 : decode cX4_faultOf 6 = .ok (.getfield 39, 3) := by decide +kernel
theorem dX4_faultOf_9 : decode cX4_faultOf 9 = .ok (.iload_n 1, 1) := by decide +kernel
theorem dX4_faultOf_10 : decode cX4_faultOf 10 = .ok (.iaload, 1) := by decide +kernel
theorem dX4_faultOf_11 : decode cX4_faultOf 11 = .ok (.aload_n 0, 1) := by decide +kernel
theorem dX4_faultOf_12 : decode cX4_faultOf 12 = .ok (.getfield 42, 3) := by decide +kernel
theorem dX4_faultOf_15 : decode cX4_faultOf 15 = .ok (.iload_n 1, 1) := by decide +kernel
theorem dX4_faultOf_16 : decode cX4_faultOf 16 = .ok (.iaload, 1) := by decide +kernel
theorem dX4_faultOf_17 : decode cX4_faultOf 17 = .ok (.if_icmp .lt 7, 3) := by decide +kernel
theorem dX4_faultOf_20 : decode cX4_faultOf 20 = .ok (.iconst 1, 1) := by decide +kernel
theorem dX4_faultOf_21 : decode cX4_faultOf 21 = .ok (.goto 5, 3) := by decide +kernel
theorem dX4_faultOf_24 : decode cX4_faultOf 24 = .ok (.bipush 9, 2) := by decide +kernel
theorem dX4_faultOf_26 : decode cX4_faultOf 26 = .ok (.ireturn, 1) := by decide +kernel
theorem dX4_faultOf_27 : decode cX4_faultOf 27 = .ok (.aload_n 0, 1) := by decide +kernel
theorem dX4_faultOf_28 : decode cX4_faultOf 28 = .ok (.getfield 23, 3) := by decide +kernel
theorem dX4_faultOf_31 : decode cX4_faultOf 31 = .ok (.iload_n 1, 1) := by decide +kernel
theorem dX4_faultOf_32 : decode cX4_faultOf 32 = .ok (.iaload, 1) := by decide +kernel
theorem dX4_faultOf_33 : decode cX4_faultOf 33 = .ok (.ifCond .ne 26, 3) := by decide +kernel
theorem dX4_faultOf_36 : decode cX4_faultOf 36 = .ok (.aload_n 0, 1) := by decide +kernel
theorem dX4_faultOf_37 : decode cX4_faultOf 37 = .ok (.getfield 26, 3) := by decide +kernel
theorem dX4_faultOf_40 : decode cX4_faultOf 40 = .ok (.iload_n 1, 1) := by decide +kernel
theorem dX4_faultOf_41 : decode cX4_faultOf 41 = .ok (.iaload, 1) := by decide +kernel
theorem dX4_faultOf_42 : decode cX4_faultOf 42 = .ok (.aload_n 0, 1) := by decide +kernel
theorem dX4_faultOf_43 : decode cX4_faultOf 43 = .ok (.getfield 26, 3) := by decide +kernel
theorem dX4_faultOf_46 : decode cX4_faultOf 46 = .ok (.iload_n 2, 1) := by decide +kernel
theorem dX4_faultOf_47 : decode cX4_faultOf 47 = .ok (.iaload, 1) := by decide +kernel
theorem dX4_faultOf_48 : decode cX4_faultOf 48 = .ok (.if_icmp .le 7, 3) := by decide +kernel
theorem dX4_faultOf_51 : decode cX4_faultOf 51 = .ok (.iconst 1, 1) := by decide +kernel
theorem dX4_faultOf_52 : decode cX4_faultOf 52 = .ok (.goto 27, 3) := by decide +kernel
theorem dX4_faultOf_55 : decode cX4_faultOf 55 = .ok (.iconst 0, 1) := by decide +kernel
theorem dX4_faultOf_56 : decode cX4_faultOf 56 = .ok (.goto 23, 3) := by decide +kernel
theorem dX4_faultOf_59 : decode cX4_faultOf 59 = .ok (.aload_n 0, 1) := by decide +kernel
theorem dX4_faultOf_60 : decode cX4_faultOf 60 = .ok (.getfield 26, 3) := by decide +kernel
theorem dX4_faultOf_63 : decode cX4_faultOf 63 = .ok (.iload_n 1, 1) := by decide +kernel
theorem dX4_faultOf_64 : decode cX4_faultOf 64 = .ok (.iaload, 1) := by decide +kernel
theorem dX4_faultOf_65 : decode cX4_faultOf 65 = .ok (.aload_n 0, 1) := by decide +kernel
theorem dX4_faultOf_66 : decode cX4_faultOf 66 = .ok (.getfield 26, 3) := by decide +kernel
theorem dX4_faultOf_69 : decode cX4_faultOf 69 = .ok (.iload_n 2, 1) := by decide +kernel
theorem dX4_faultOf_70 : decode cX4_faultOf 70 = .ok (.iaload, 1) := by decide +kernel
theorem dX4_faultOf_71 : decode cX4_faultOf 71 = .ok (.if_icmp .ge 7, 3) := by decide +kernel
theorem dX4_faultOf_74 : decode cX4_faultOf 74 = .ok (.iconst 1, 1) := by decide +kernel
theorem dX4_faultOf_75 : decode cX4_faultOf 75 = .ok (.goto 4, 3) := by decide +kernel
theorem dX4_faultOf_78 : decode cX4_faultOf 78 = .ok (.iconst 0, 1) := by decide +kernel
theorem dX4_faultOf_79 : decode cX4_faultOf 79 = .ok (.istore_n 3, 1) := by decide +kernel
theorem dX4_faultOf_80 : decode cX4_faultOf 80 = .ok (.aload_n 0, 1) := by decide +kernel
theorem dX4_faultOf_81 : decode cX4_faultOf 81 = .ok (.iload_n 1, 1) := by decide +kernel
theorem dX4_faultOf_82 : decode cX4_faultOf 82 = .ok (.iload_n 2, 1) := by decide +kernel
theorem dX4_faultOf_83 : decode cX4_faultOf 83 = .ok (.iconst 1, 1) := by decide +kernel
theorem dX4_faultOf_84 : decode cX4_faultOf 84 = .ok (.invokevirtual 129, 3) := by decide +kernel
theorem dX4_faultOf_87 : decode cX4_faultOf 87 = .ok (.ifCond .eq 24, 3) := by decide +kernel
theorem dX4_faultOf_90 : decode cX4_faultOf 90 = .ok (.iload_n 3, 1) := by decide +kernel
theorem dX4_faultOf_91 : decode cX4_faultOf 91 = .ok (.ifCond .eq 20, 3) := by decide +kernel
theorem dX4_faultOf_94 : decode cX4_faultOf 94 = .ok (.aload_n 0, 1) := by decide +kernel
theorem dX4_faultOf_95 : decode cX4_faultOf 95 = .ok (.getfield 39, 3) := by decide +kernel
theorem dX4_faultOf_98 : decode cX4_faultOf 98 = .ok (.iload_n 1, 1) := by decide +kernel
theorem dX4_faultOf_99 : decode cX4_faultOf 99 = .ok (.iaload, 1) := by decide +kernel
theorem dX4_faultOf_100 : decode cX4_faultOf 100 = .ok (.aload_n 0, 1) := by decide +kernel
theorem dX4_faultOf_101 : decode cX4_faultOf 101 = .ok (.getfield 42, 3) := by decide +kernel
theorem dX4_faultOf_104 : decode cX4_faultOf 104 = .ok (.iload_n 2, 1) := by decide +kernel
theorem dX4_faultOf_105 : decode cX4_faultOf 105 = .ok (.iaload, 1) := by decide +kernel
theorem dX4_faultOf_106 : decode cX4_faultOf 106 = .ok (.if_icmp .le 5, 3) := by decide +kernel
theorem dX4_faultOf_109 : decode cX4_faultOf 109 = .ok (.iconst 2, 1) := by decide +kernel
theorem dX4_faultOf_110 : decode cX4_faultOf 110 = .ok (.ireturn, 1) := by decide +kernel
theorem dX4_faultOf_111 : decode cX4_faultOf 111 = .ok (.aload_n 0, 1) := by decide +kernel
theorem dX4_faultOf_112 : decode cX4_faultOf 112 = .ok (.getfield 32, 3) := by decide +kernel
theorem dX4_faultOf_115 : decode cX4_faultOf 115 = .ok (.iload_n 1, 1) := by decide +kernel
theorem dX4_faultOf_116 : decode cX4_faultOf 116 = .ok (.baload, 1) := by decide +kernel
theorem dX4_faultOf_117 : decode cX4_faultOf 117 = .ok (.ifCond .eq 47, 3) := by decide +kernel
theorem dX4_faultOf_120 : decode cX4_faultOf 120 = .ok (.aload_n 0, 1) := by decide +kernel
theorem dX4_faultOf_121 : decode cX4_faultOf 121 = .ok (.iload_n 1, 1) := by decide +kernel
theorem dX4_faultOf_122 : decode cX4_faultOf 122 = .ok (.iload_n 2, 1) := by decide +kernel
theorem dX4_faultOf_123 : decode cX4_faultOf 123 = .ok (.iconst 0, 1) := by decide +kernel
theorem dX4_faultOf_124 : decode cX4_faultOf 124 = .ok (.invokevirtual 129, 3) := by decide +kernel
theorem dX4_faultOf_127 : decode cX4_faultOf 127 = .ok (.ifCond .eq 37, 3) := by decide +kernel
theorem dX4_faultOf_130 : decode cX4_faultOf 130 = .ok (.aload_n 0, 1) := by decide +kernel
theorem dX4_faultOf_131 : decode cX4_faultOf 131 = .ok (.getfield 29, 3) := by decide +kernel
theorem dX4_faultOf_134 : decode cX4_faultOf 134 = .ok (.iload_n 1, 1) := by decide +kernel
theorem dX4_faultOf_135 : decode cX4_faultOf 135 = .ok (.iaload, 1) := by decide +kernel
theorem dX4_faultOf_136 : decode cX4_faultOf 136 = .ok (.aload_n 0, 1) := by decide +kernel
theorem dX4_faultOf_137 : decode cX4_faultOf 137 = .ok (.getfield 29, 3) := by decide +kernel
theorem dX4_faultOf_140 : decode cX4_faultOf 140 = .ok (.iload_n 2, 1) := by decide +kernel
theorem dX4_faultOf_141 : decode cX4_faultOf 141 = .ok (.iaload, 1) := by decide +kernel
theorem dX4_faultOf_142 : decode cX4_faultOf 142 = .ok (.if_icmp .ge 22, 3) := by decide +kernel
theorem dX4_faultOf_145 : decode cX4_faultOf 145 = .ok (.aload_n 0, 1) := by decide +kernel
theorem dX4_faultOf_146 : decode cX4_faultOf 146 = .ok (.getfield 39, 3) := by decide +kernel
theorem dX4_faultOf_149 : decode cX4_faultOf 149 = .ok (.iload_n 1, 1) := by decide +kernel
theorem dX4_faultOf_150 : decode cX4_faultOf 150 = .ok (.iaload, 1) := by decide +kernel
theorem dX4_faultOf_151 : decode cX4_faultOf 151 = .ok (.aload_n 0, 1) := by decide +kernel
theorem dX4_faultOf_152 : decode cX4_faultOf 152 = .ok (.getfield 42, 3) := by decide +kernel
theorem dX4_faultOf_155 : decode cX4_faultOf 155 = .ok (.iload_n 2, 1) := by decide +kernel
theorem dX4_faultOf_156 : decode cX4_faultOf 156 = .ok (.iaload, 1) := by decide +kernel
theorem dX4_faultOf_157 : decode cX4_faultOf 157 = .ok (.if_icmp .le 7, 3) := by decide +kernel
theorem dX4_faultOf_160 : decode cX4_faultOf 160 = .ok (.iconst 4, 1) := by decide +kernel
theorem dX4_faultOf_161 : decode cX4_faultOf 161 = .ok (.goto 5, 3) := by decide +kernel
theorem dX4_faultOf_164 : decode cX4_faultOf 164 = .ok (.bipush 9, 2) := by decide +kernel
theorem dX4_faultOf_166 : decode cX4_faultOf 166 = .ok (.ireturn, 1) := by decide +kernel
theorem dX4_isMiddle_0 : decode cX4_isMiddle 0 = .ok (.iconst 0, 1) := by decide +kernel
theorem dX4_isMiddle_1 : decode cX4_isMiddle 1 = .ok (.istore_n 3, 1) := by decide +kernel
theorem dX4_isMiddle_2 : decode cX4_isMiddle 2 = .ok (.iconst 0, 1) := by decide +kernel
theorem dX4_isMiddle_3 : decode cX4_isMiddle 3 = .ok (.istore 4, 2) := by decide +kernel
theorem dX4_isMiddle_5 : decode cX4_isMiddle 5 = .ok (.iload 4, 2) := by decide +kernel
theorem dX4_isMiddle_7 : decode cX4_isMiddle 7 = .ok (.aload_n 0, 1) := by decide +kernel
theorem dX4_isMiddle_8 : decode cX4_isMiddle 8 = .ok (.getfield 76, 3) := by decide +kernel
theorem dX4_isMiddle_11 : decode cX4_isMiddle 11 = .ok (.if_icmp .ge 127, 3) := by decide +kernel
theorem dX4_isMiddle_14 : decode cX4_isMiddle 14 = .ok (.aload_n 0, 1) := by decide +kernel
theorem dX4_isMiddle_15 : decode cX4_isMiddle 15 = .ok (.iload 4, 2) := by decide +kernel
theorem dX4_isMiddle_17 : decode cX4_isMiddle 17 = .ok (.invokevirtual 133, 3) := by decide +kernel
theorem dX4_isMiddle_20 : decode cX4_isMiddle 20 = .ok (.ifCond .eq 69, 3) := by decide +kernel
theorem dX4_isMiddle_23 : decode cX4_isMiddle 23 = .ok (.aload_n 0, 1) := by decide +kernel
theorem dX4_isMiddle_24 : decode cX4_isMiddle 24 = .ok (.iload_n 1, 1) := by decide +kernel
theorem dX4_isMiddle_25 : decode cX4_isMiddle 25 = .ok (.iload_n 2, 1) := by decide +kernel
theorem dX4_isMiddle_26 : decode cX4_isMiddle 26 = .ok (.iconst 1, 1) := by decide +kernel
theorem dX4_isMiddle_27 : decode cX4_isMiddle 27 = .ok (.invokevirtual 129, 3) := by decide +kernel
theorem dX4_isMiddle_30 : decode cX4_isMiddle 30 = .ok (.ifCond .eq 59, 3) := by decide +kernel
theorem dX4_isMiddle_33 : decode cX4_isMiddle 33 = .ok (.aload_n 0, 1) := by decide +kernel
theorem dX4_isMiddle_34 : decode cX4_isMiddle 34 = .ok (.iload_n 1, 1) := by decide +kernel
theorem dX4_isMiddle_35 : decode cX4_isMiddle 35 = .ok (.iload 4, 2) := by decide +kernel
theorem dX4_isMiddle_37 : decode cX4_isMiddle 37 = .ok (.iconst 1, 1) := by decide +kernel
theorem dX4_isMiddle_38 : decode cX4_isMiddle 38 = .ok (.invokevirtual 129, 3) := by decide +kernel
theorem dX4_isMiddle_41 : decode cX4_isMiddle 41 = .ok (.ifCond .eq 48, 3) := by decide +kernel
theorem dX4_isMiddle_44 : decode cX4_isMiddle 44 = .ok (.aload_n 0, 1) := by decide +kernel
theorem dX4_isMiddle_45 : decode cX4_isMiddle 45 = .ok (.getfield 26, 3) := by decide +kernel
theorem dX4_isMiddle_48 : decode cX4_isMiddle 48 = .ok (.iload_n 2, 1) := by decide +kernel
theorem dX4_isMiddle_49 : decode cX4_isMiddle 49 = .ok (.iaload, 1) := by decide +kernel
theorem dX4_isMiddle_50 : decode cX4_isMiddle 50 = .ok (.aload_n 0, 1) := by decide +kernel
theorem dX4_isMiddle_51 : decode cX4_isMiddle 51 = .ok (.getfield 26, 3) := by decide +kernel
theorem dX4_isMiddle_54 : decode cX4_isMiddle 54 = .ok (.iload 4, 2) := by decide +kernel
theorem dX4_isMiddle_56 : decode cX4_isMiddle 56 = .ok (.iaload, 1) := by decide +kernel
theorem dX4_isMiddle_57 : decode cX4_isMiddle 57 = .ok (.if_icmp .ge 32, 3) := by decide +kernel
theorem dX4_isMiddle_60 : decode cX4_isMiddle 60 = .ok (.aload_n 0, 1) := by decide +kernel
theorem dX4_isMiddle_61 : decode cX4_isMiddle 61 = .ok (.getfield 26, 3) := by decide +kernel
theorem dX4_isMiddle_64 : decode cX4_isMiddle 64 = .ok (.iload_n 2, 1) := by decide +kernel
theorem dX4_isMiddle_65 : decode cX4_isMiddle 65 = .ok (.iaload, 1) := by decide +kernel
theorem dX4_isMiddle_66 : decode cX4_isMiddle 66 = .ok (.aload_n 0, 1) := by decide +kernel
theorem dX4_isMiddle_67 : decode cX4_isMiddle 67 = .ok (.getfield 26, 3) := by decide +kernel
theorem dX4_isMiddle_70 : decode cX4_isMiddle 70 = .ok (.iload 4, 2) := by decide +kernel
theorem dX4_isMiddle_72 : decode cX4_isMiddle 72 = .ok (.iaload, 1) := by decide +kernel
theorem dX4_isMiddle_73 : decode cX4_isMiddle 73 = .ok (.iadd, 1) := by decide +kernel
theorem dX4_isMiddle_74 : decode cX4_isMiddle 74 = .ok (.iconst 2, 1) := by decide +kernel
theorem dX4_isMiddle_75 : decode cX4_isMiddle 75 = .ok (.aload_n 0, 1) := by decide +kernel
theorem dX4_isMiddle_76 : decode cX4_isMiddle 76 = .ok (.getfield 26, 3) := by decide +kernel
theorem dX4_isMiddle_79 : decode cX4_isMiddle 79 = .ok (.iload_n 1, 1) := by decide +kernel
theorem dX4_isMiddle_80 : decode cX4_isMiddle 80 = .ok (.iaload, 1) := by decide +kernel
theorem dX4_isMiddle_81 : decode cX4_isMiddle 81 = .ok (.imul, 1) := by decide +kernel
theorem dX4_isMiddle_82 : decode cX4_isMiddle 82 = .ok (.if_icmp .ne 7, 3) := by decide +kernel
theorem dX4_isMiddle_85 : decode cX4_isMiddle 85 = .ok (.iconst 1, 1) := by decide +kernel
theorem dX4_isMiddle_86 : decode cX4_isMiddle 86 = .ok (.goto 4, 3) := by decide +kernel
theorem dX4_isMiddle_89 : decode cX4_isMiddle 89 = .ok (.iconst 0, 1) := by decide +kernel
theorem dX4_isMiddle_90 : decode cX4_isMiddle 90 = .ok (.istore 5, 2) := by decide +kernel
theorem dX4_isMiddle_92 : decode cX4_isMiddle 92 = .ok (.iload_n 3, 1) := by decide +kernel
theorem dX4_isMiddle_93 : decode cX4_isMiddle 93 = .ok (.ifCond .ne 33, 3) := by decide +kernel
theorem dX4_isMiddle_96 : decode cX4_isMiddle 96 = .ok (.iload 5, 2) := by decide +kernel
theorem dX4_isMiddle_98 : decode cX4_isMiddle 98 = .ok (.ifCond .eq 32, 3) := by decide +kernel
theorem dX4_isMiddle_101 : decode cX4_isMiddle 101 = .ok (.iconst 2, 1) := by decide +kernel
theorem dX4_isMiddle_102 : decode cX4_isMiddle 102 = .ok (.aload_n 0, 1) := by decide +kernel
theorem dX4_isMiddle_103 : decode cX4_isMiddle 103 = .ok (.getfield 39, 3) := by decide +kernel
theorem dX4_isMiddle_106 : decode cX4_isMiddle 106 = .ok (.iload_n 1, 1) := by decide +kernel
theorem dX4_isMiddle_107 : decode cX4_isMiddle 107 = .ok (.iaload, 1) := by decide +kernel
theorem dX4_isMiddle_108 : decode cX4_isMiddle 108 = .ok (.imul, 1) := by decide +kernel
theorem dX4_isMiddle_109 : decode cX4_isMiddle 109 = .ok (.aload_n 0, 1) := by decide +kernel
theorem dX4_isMiddle_110 : decode cX4_isMiddle 110 = .ok (.getfield 42, 3) := by decide +kernel
theorem dX4_isMiddle_113 : decode cX4_isMiddle 113 = .ok (.iload_n 2, 1) := by decide +kernel
theorem dX4_isMiddle_114 : decode cX4_isMiddle 114 = .ok (.iaload, 1) := by decide +kernel
theorem dX4_isMiddle_115 : decode cX4_isMiddle 115 = .ok (.aload_n 0, 1) := by decide +kernel
theorem dX4_isMiddle_116 : decode cX4_isMiddle 116 = .ok (.getfield 42, 3) := by decide +kernel
theorem dX4_isMiddle_119 : decode cX4_isMiddle 119 = .ok (.iload 4, 2) := by decide +kernel
theorem dX4_isMiddle_121 : decode cX4_isMiddle 121 = .ok (.iaload, 1) := by decide +kernel
theorem dX4_isMiddle_122 : decode cX4_isMiddle 122 = .ok (.iadd, 1) := by decide +kernel
theorem dX4_isMiddle_123 : decode cX4_isMiddle 123 = .ok (.if_icmp .le 7, 3) := by decide +kernel
theorem dX4_isMiddle_126 : decode cX4_isMiddle 126 = .ok (.iconst 1, 1) := by decide +kernel
theorem dX4_isMiddle_127 : decode cX4_isMiddle 127 = .ok (.goto 4, 3) := by decide +kernel
theorem dX4_isMiddle_130 : decode cX4_isMiddle 130 = .ok (.iconst 0, 1) := by decide +kernel
theorem dX4_isMiddle_131 : decode cX4_isMiddle 131 = .ok (.istore_n 3, 1) := by decide +kernel
theorem dX4_isMiddle_132 : decode cX4_isMiddle 132 = .ok (.iinc 4 1, 3) := by decide +kernel
theorem dX4_isMiddle_135 : decode cX4_isMiddle 135 = .ok (.goto (-130), 3) := by decide +kernel
theorem dX4_isMiddle_138 : decode cX4_isMiddle 138 = .ok (.iload_n 3, 1) := by decide +kernel
theorem dX4_isMiddle_139 : decode cX4_isMiddle 139 = .ok (.ireturn, 1) := by decide +kernel
theorem dX4_firstFault_0 : decode cX4_firstFault 0 = .ok (.bipush 9, 2) := by decide +kernel
theorem dX4_firstFault_2 : decode cX4_firstFault 2 = .ok (.istore_n 1, 1) := by decide +kernel
theorem dX4_firstFault_3 : decode cX4_firstFault 3 = .ok (.iconst 0, 1) := by decide +kernel
theorem dX4_firstFault_4 : decode cX4_firstFault 4 = .ok (.istore_n 2, 1) := by decide +kernel
theorem dX4_firstFault_5 : decode cX4_firstFault 5 = .ok (.iload_n 2, 1) := by decide +kernel
theorem dX4_firstFault_6 : decode cX4_firstFault 6 = .ok (.aload_n 0, 1) := by decide +kernel
theorem dX4_firstFault_7 : decode cX4_firstFault 7 = .ok (.getfield 76, 3) := by decide +kernel
theorem dX4_firstFault_10 : decode cX4_firstFault 10 = .ok (.if_icmp .ge 85, 3) := by decide +kernel
theorem dX4_firstFault_13 : decode cX4_firstFault 13 = .ok (.iconst 0, 1) := by decide +kernel
theorem dX4_firstFault_14 : decode cX4_firstFault 14 = .ok (.istore_n 3, 1) := by decide +kernel
theorem dX4_firstFault_15 : decode cX4_firstFault 15 = .ok (.iload_n 3, 1) := by decide +kernel
theorem dX4_firstFault_16 : decode cX4_firstFault 16 = .ok (.aload_n 0, 1) := by decide +kernel
theorem dX4_firstFault_17 : decode cX4_firstFault 17 = .ok (.getfield 76, 3) := by decide +kernel
theorem dX4_firstFault_20 : decode cX4_firstFault 20 = .ok (.if_icmp .ge 69, 3) := by decide +kernel
theorem dX4_firstFault_23 : decode cX4_firstFault 23 = .ok (.aload_n 0, 1) := by decide +kernel
theorem dX4_firstFault_24 : decode cX4_firstFault 24 = .ok (.iload_n 2, 1) := by decide +kernel
theorem dX4_firstFault_25 : decode cX4_firstFault 25 = .ok (.invokevirtual 133, 3) := by decide +kernel
theorem dX4_firstFault_28 : decode cX4_firstFault 28 = .ok (.ifCond .eq 55, 3) := by decide +kernel
theorem dX4_firstFault_31 : decode cX4_firstFault 31 = .ok (.aload_n 0, 1) := by decide +kernel
theorem dX4_firstFault_32 : decode cX4_firstFault 32 = .ok (.iload_n 3, 1) := by decide +kernel
theorem dX4_firstFault_33 : decode cX4_firstFault 33 = .ok (.invokevirtual 133, 3) := by decide +kernel
theorem dX4_firstFault_36 : decode cX4_firstFault 36 = .ok (.ifCond .eq 47, 3) := by decide +kernel
theorem dX4_firstFault_39 : decode cX4_firstFault 39 = .ok (.aload_n 0, 1) := by decide +kernel
theorem dX4_firstFault_40 : decode cX4_firstFault 40 = .ok (.iload_n 2, 1) := by decide +kernel
theorem dX4_firstFault_41 : decode cX4_firstFault 41 = .ok (.iload_n 3, 1) := by decide +kernel
theorem dX4_firstFault_42 : decode cX4_firstFault 42 = .ok (.invokevirtual 137, 3) := by decide +kernel
theorem dX4_firstFault_45 : decode cX4_firstFault 45 = .ok (.istore 4, 2) := by decide +kernel
theorem dX4_firstFault_47 : decode cX4_firstFault 47 = .ok (.iload 4, 2) := by decide +kernel
theorem dX4_firstFault_49 : decode cX4_firstFault 49 = .ok (.iconst 3, 1) := by decide +kernel
theorem dX4_firstFault_50 : decode cX4_firstFault 50 = .ok (.if_icmp .le 16, 3) := by decide +kernel
theorem dX4_firstFault_53 : decode cX4_firstFault 53 = .ok (.aload_n 0, 1) := by decide +kernel
theorem dX4_firstFault_54 : decode cX4_firstFault 54 = .ok (.iload_n 2, 1) := by decide +kernel
theorem dX4_firstFault_55 : decode cX4_firstFault 55 = .ok (.iload_n 3, 1) := by decide +kernel
theorem dX4_firstFault_56 : decode cX4_firstFault 56 = .ok (.invokevirtual 140, 3) := by decide +kernel
theorem dX4_firstFault_59 : decode cX4_firstFault 59 = .ok (.ifCond .eq 7, 3) := by decide +kernel
theorem dX4_firstFault_62 : decode cX4_firstFault 62 = .ok (.iconst 3, 1) := by decide +kernel
theorem dX4_firstFault_63 : decode cX4_firstFault 63 = .ok (.goto 5, 3) := by decide +kernel
theorem dX4_firstFault_66 : decode cX4_firstFault 66 = .ok (.iload 4, 2) := by decide +kernel
theorem dX4_firstFault_68 : decode cX4_firstFault 68 = .ok (.istore 4, 2) := by decide +kernel
theorem dX4_firstFault_70 : decode cX4_firstFault 70 = .ok (.iload 4, 2) := by decide +kernel
theorem dX4_firstFault_72 : decode cX4_firstFault 72 = .ok (.iload_n 1, 1) := by decide +kernel
theorem dX4_firstFault_73 : decode cX4_firstFault 73 = .ok (.if_icmp .ge 8, 3) := by decide +kernel
theorem dX4_firstFault_76 : decode cX4_firstFault 76 = .ok (.iload 4, 2) := by decide +kernel
theorem dX4_firstFault_78 : decode cX4_firstFault 78 = .ok (.goto 4, 3) := by decide +kernel
theorem dX4_firstFault_81 : decode cX4_firstFault 81 = .ok (.iload_n 1, 1) := by decide +kernel
theorem dX4_firstFault_82 : decode cX4_firstFault 82 = .ok (.istore_n 1, 1) := by decide +kernel
theorem dX4_firstFault_83 : decode cX4_firstFault 83 = .ok (.iinc 3 1, 3) := by decide +kernel
theorem dX4_firstFault_86 : decode cX4_firstFault 86 = .ok (.goto (-71), 3) := by decide +kernel
theorem dX4_firstFault_89 : decode cX4_firstFault 89 = .ok (.iinc 2 1, 3) := by decide +kernel
theorem dX4_firstFault_92 : decode cX4_firstFault 92 = .ok (.goto (-87), 3) := by decide +kernel
theorem dX4_firstFault_95 : decode cX4_firstFault 95 = .ok (.iload_n 1, 1) := by decide +kernel
theorem dX4_firstFault_96 : decode cX4_firstFault 96 = .ok (.bipush 9, 2) := by decide +kernel
theorem dX4_firstFault_98 : decode cX4_firstFault 98 = .ok (.if_icmp .ne 7, 3) := by decide +kernel
theorem dX4_firstFault_101 : decode cX4_firstFault 101 = .ok (.iconst 0, 1) := by decide +kernel
theorem dX4_firstFault_102 : decode cX4_firstFault 102 = .ok (.goto 4, 3) := by decide +kernel
theorem dX4_firstFault_105 : decode cX4_firstFault 105 = .ok (.iload_n 1, 1) := by decide +kernel
theorem dX4_firstFault_106 : decode cX4_firstFault 106 = .ok (.ireturn, 1) := by decide +kernel
theorem dX4_quote_0 : decode cX4_quote 0 = .ok (.iload_n 2, 1) := by decide +kernel
theorem dX4_quote_1 : decode cX4_quote 1 = .ok (.i2l, 1) := by decide +kernel
theorem dX4_quote_2 : decode cX4_quote 2 = .ok (.lconst 0, 1) := by decide +kernel
theorem dX4_quote_3 : decode cX4_quote 3 = .ok (.ldc2_w 125, 3) := by decide +kernel
theorem dX4_quote_6 : decode cX4_quote 6 = .ok (.invokestatic 79, 3) := by decide +kernel
theorem dX4_quote_9 : decode cX4_quote 9 = .ok (.ifCond .eq 32, 3) := by decide +kernel
theorem dX4_quote_12 : decode cX4_quote 12 = .ok (.iload_n 3, 1) := by decide +kernel
theorem dX4_quote_13 : decode cX4_quote 13 = .ok (.i2l, 1) := by decide +kernel
theorem dX4_quote_14 : decode cX4_quote 14 = .ok (.lconst 0, 1) := by decide +kernel
theorem dX4_quote_15 : decode cX4_quote 15 = .ok (.ldc2_w 125, 3) := by decide +kernel
theorem dX4_quote_18 : decode cX4_quote 18 = .ok (.invokestatic 79, 3) := by decide +kernel
theorem dX4_quote_21 : decode cX4_quote 21 = .ok (.ifCond .eq 20, 3) := by decide +kernel
theorem dX4_quote_24 : decode cX4_quote 24 = .ok (.iload 4, 2) := by decide +kernel
theorem dX4_quote_26 : decode cX4_quote 26 = .ok (.i2l, 1) := by decide +kernel
theorem dX4_quote_27 : decode cX4_quote 27 = .ok (.lconst 0, 1) := by decide +kernel
theorem dX4_quote_28 : decode cX4_quote 28 = .ok (.ldc2_w 144, 3) := by decide +kernel
theorem dX4_quote_31 : decode cX4_quote 31 = .ok (.invokestatic 79, 3) := by decide +kernel
theorem dX4_quote_34 : decode cX4_quote 34 = .ok (.ifCond .eq 7, 3) := by decide +kernel
theorem dX4_quote_37 : decode cX4_quote 37 = .ok (.iconst 1, 1) := by decide +kernel
theorem dX4_quote_38 : decode cX4_quote 38 = .ok (.goto 4, 3) := by decide +kernel
theorem dX4_quote_41 : decode cX4_quote 41 = .ok (.iconst 0, 1) := by decide +kernel
theorem dX4_quote_42 : decode cX4_quote 42 = .ok (.istore 5, 2) := by decide +kernel
theorem dX4_quote_44 : decode cX4_quote 44 = .ok (.aload_n 0, 1) := by decide +kernel
theorem dX4_quote_45 : decode cX4_quote 45 = .ok (.aload_n 0, 1) := by decide +kernel
theorem dX4_quote_46 : decode cX4_quote 46 = .ok (.iload_n 1, 1) := by decide +kernel
theorem dX4_quote_47 : decode cX4_quote 47 = .ok (.invokevirtual 146, 3) := by decide +kernel
theorem dX4_quote_50 : decode cX4_quote 50 = .ok (.ifCond .ne 7, 3) := by decide +kernel
theorem dX4_quote_53 : decode cX4_quote 53 = .ok (.iconst 1, 1) := by decide +kernel
theorem dX4_quote_54 : decode cX4_quote 54 = .ok (.goto 26, 3) := by decide +kernel
theorem dX4_quote_57 : decode cX4_quote 57 = .ok (.iload 5, 2) := by decide +kernel
theorem dX4_quote_59 : decode cX4_quote 59 = .ok (.ifCond .ne 7, 3) := by decide +kernel
theorem dX4_quote_62 : decode cX4_quote 62 = .ok (.iconst 2, 1) := by decide +kernel
theorem dX4_quote_63 : decode cX4_quote 63 = .ok (.goto 17, 3) := by decide +kernel
theorem dX4_quote_66 : decode cX4_quote 66 = .ok (.aload_n 0, 1) := by decide +kernel
theorem dX4_quote_67 : decode cX4_quote 67 = .ok (.getfield 36, 3) := by decide +kernel
theorem dX4_quote_70 : decode cX4_quote 70 = .ok (.iload_n 1, 1) := by decide +kernel
theorem dX4_quote_71 : decode cX4_quote 71 = .ok (.baload, 1) := by decide +kernel
theorem dX4_quote_72 : decode cX4_quote 72 = .ok (.ifCond .eq 7, 3) := by decide +kernel
theorem dX4_quote_75 : decode cX4_quote 75 = .ok (.iconst 3, 1) := by decide +kernel
theorem dX4_quote_76 : decode cX4_quote 76 = .ok (.goto 4, 3) := by decide +kernel
theorem dX4_quote_79 : decode cX4_quote 79 = .ok (.iconst 0, 1) := by decide +kernel
theorem dX4_quote_80 : decode cX4_quote 80 = .ok (.putfield 73, 3) := by decide +kernel
theorem dX4_quote_83 : decode cX4_quote 83 = .ok (.aload_n 0, 1) := by decide +kernel
theorem dX4_quote_84 : decode cX4_quote 84 = .ok (.getfield 73, 3) := by decide +kernel
theorem dX4_quote_87 : decode cX4_quote 87 = .ok (.ifCond .le 5, 3) := by decide +kernel
theorem dX4_quote_90 : decode cX4_quote 90 = .ok (.iconst 0, 1) := by decide +kernel
theorem dX4_quote_91 : decode cX4_quote 91 = .ok (.ireturn, 1) := by decide +kernel
theorem dX4_quote_92 : decode cX4_quote 92 = .ok (.aload_n 0, 1) := by decide +kernel
theorem dX4_quote_93 : decode cX4_quote 93 = .ok (.getfield 39, 3) := by decide +kernel
theorem dX4_quote_96 : decode cX4_quote 96 = .ok (.iload_n 1, 1) := by decide +kernel
theorem dX4_quote_97 : decode cX4_quote 97 = .ok (.iload_n 2, 1) := by decide +kernel
theorem dX4_quote_98 : decode cX4_quote 98 = .ok (.iastore, 1) := by decide +kernel
theorem dX4_quote_99 : decode cX4_quote 99 = .ok (.aload_n 0, 1) := by decide +kernel
theorem dX4_quote_100 : decode cX4_quote 100 = .ok (.getfield 42, 3) := by decide +kernel
theorem dX4_quote_103 : decode cX4_quote 103 = .ok (.iload_n 1, 1) := by decide +kernel
theorem dX4_quote_104 : decode cX4_quote 104 = .ok (.iload_n 3, 1) := by decide +kernel
theorem dX4_quote_105 : decode cX4_quote 105 = .ok (.iastore, 1) := by decide +kernel
theorem dX4_quote_106 : decode cX4_quote 106 = .ok (.aload_n 0, 1) := by decide +kernel
theorem dX4_quote_107 : decode cX4_quote 107 = .ok (.getfield 45, 3) := by decide +kernel
theorem dX4_quote_110 : decode cX4_quote 110 = .ok (.iload_n 1, 1) := by decide +kernel
theorem dX4_quote_111 : decode cX4_quote 111 = .ok (.iload 4, 2) := by decide +kernel
theorem dX4_quote_113 : decode cX4_quote 113 = .ok (.iastore, 1) := by decide +kernel
theorem dX4_quote_114 : decode cX4_quote 114 = .ok (.aload_n 0, 1) := by decide +kernel
theorem dX4_quote_115 : decode cX4_quote 115 = .ok (.getfield 48, 3) := by decide +kernel
theorem dX4_quote_118 : decode cX4_quote 118 = .ok (.iload_n 1, 1) := by decide +kernel
theorem dX4_quote_119 : decode cX4_quote 119 = .ok (.iload 4, 2) := by decide +kernel
theorem dX4_quote_121 : decode cX4_quote 121 = .ok (.iastore, 1) := by decide +kernel
theorem dX4_quote_122 : decode cX4_quote 122 = .ok (.aload_n 0, 1) := by decide +kernel
theorem dX4_quote_123 : decode cX4_quote 123 = .ok (.invokevirtual 149, 3) := by decide +kernel
theorem dX4_quote_126 : decode cX4_quote 126 = .ok (.ireturn, 1) := by decide +kernel
theorem dX4_hasQuote_0 : decode cX4_hasQuote 0 = .ok (.aload_n 0, 1) := by decide +kernel
theorem dX4_hasQuote_1 : decode cX4_hasQuote 1 = .ok (.getfield 45, 3) := by decide +kernel
theorem dX4_hasQuote_4 : decode cX4_hasQuote 4 = .ok (.iload_n 1, 1) := by decide +kernel
theorem dX4_hasQuote_5 : decode cX4_hasQuote 5 = .ok (.iaload, 1) := by decide +kernel
theorem dX4_hasQuote_6 : decode cX4_hasQuote 6 = .ok (.aload_n 0, 1) := by decide +kernel
theorem dX4_hasQuote_7 : decode cX4_hasQuote 7 = .ok (.getfield 48, 3) := by decide +kernel
theorem dX4_hasQuote_10 : decode cX4_hasQuote 10 = .ok (.iload_n 1, 1) := by decide +kernel
theorem dX4_hasQuote_11 : decode cX4_hasQuote 11 = .ok (.iaload, 1) := by decide +kernel
theorem dX4_hasQuote_12 : decode cX4_hasQuote 12 = .ok (.iadd, 1) := by decide +kernel
theorem dX4_hasQuote_13 : decode cX4_hasQuote 13 = .ok (.ifCond .le 7, 3) := by decide +kernel
theorem dX4_hasQuote_16 : decode cX4_hasQuote 16 = .ok (.iconst 1, 1) := by decide +kernel
theorem dX4_hasQuote_17 : decode cX4_hasQuote 17 = .ok (.goto 4, 3) := by decide +kernel
theorem dX4_hasQuote_20 : decode cX4_hasQuote 20 = .ok (.iconst 0, 1) := by decide +kernel
theorem dX4_hasQuote_21 : decode cX4_hasQuote 21 = .ok (.ireturn, 1) := by decide +kernel
theorem dX4_kill_0 : decode cX4_kill 0 = .ok (.aload_n 0, 1) := by decide +kernel
theorem dX4_kill_1 : decode cX4_kill 1 = .ok (.iconst 0, 1) := by decide +kernel
theorem dX4_kill_2 : decode cX4_kill 2 = .ok (.putfield 73, 3) := by decide +kernel
theorem dX4_kill_5 : decode cX4_kill 5 = .ok (.iconst 0, 1) := by decide +kernel
theorem dX4_kill_6 : decode cX4_kill 6 = .ok (.istore_n 1, 1) := by decide +kernel
theorem dX4_kill_7 : decode cX4_kill 7 = .ok (.iconst 0, 1) := by decide +kernel
theorem dX4_kill_8 : decode cX4_kill 8 = .ok (.istore_n 2, 1) := by decide +kernel
theorem dX4_kill_9 : decode cX4_kill 9 = .ok (.iload_n 2, 1) := by decide +kernel
theorem dX4_kill_10 : decode cX4_kill 10 = .ok (.aload_n 0, 1) := by decide +kernel
theorem dX4_kill_11 : decode cX4_kill 11 = .ok (.getfield 76, 3) := by decide +kernel
theorem dX4_kill_14 : decode cX4_kill 14 = .ok (.if_icmp .ge 39, 3) := by decide +kernel
theorem dX4_kill_17 : decode cX4_kill 17 = .ok (.iload_n 1, 1) := by decide +kernel
theorem dX4_kill_18 : decode cX4_kill 18 = .ok (.aload_n 0, 1) := by decide +kernel
theorem dX4_kill_19 : decode cX4_kill 19 = .ok (.iload_n 2, 1) := by decide +kernel
theorem dX4_kill_20 : decode cX4_kill 20 = .ok (.invokevirtual 153, 3) := by decide +kernel
theorem dX4_kill_23 : decode cX4_kill 23 = .ok (.ifCond .eq 7, 3) := by decide +kernel
theorem dX4_kill_26 : decode cX4_kill 26 = .ok (.iconst 1, 1) := by decide +kernel
theorem dX4_kill_27 : decode cX4_kill 27 = .ok (.goto 4, 3) := by decide +kernel
theorem dX4_kill_30 : decode cX4_kill 30 = .ok (.iconst 0, 1) := by decide +kernel
theorem dX4_kill_31 : decode cX4_kill 31 = .ok (.iadd, 1) := by decide +kernel
theorem dX4_kill_32 : decode cX4_kill 32 = .ok (.istore_n 1, 1) := by decide +kernel
theorem dX4_kill_33 : decode cX4_kill 33 = .ok (.aload_n 0, 1) := by decide +kernel
theorem dX4_kill_34 : decode cX4_kill 34 = .ok (.getfield 45, 3) := by decide +kernel
theorem dX4_kill_37 : decode cX4_kill 37 = .ok (.iload_n 2, 1) := by decide +kernel
theorem dX4_kill_38 : decode cX4_kill 38 = .ok (.iconst 0, 1) := by decide +kernel
theorem dX4_kill_39 : decode cX4_kill 39 = .ok (.iastore, 1) := by decide +kernel
theorem dX4_kill_40 : decode cX4_kill 40 = .ok (.aload_n 0, 1) := by decide +kernel
theorem dX4_kill_41 : decode cX4_kill 41 = .ok (.getfield 48, 3) := by decide +kernel
theorem dX4_kill_44 : decode cX4_kill 44 = .ok (.iload_n 2, 1) := by decide +kernel
theorem dX4_kill_45 : decode cX4_kill 45 = .ok (.iconst 0, 1) := by decide +kernel
theorem dX4_kill_46 : decode cX4_kill 46 = .ok (.iastore, 1) := by decide +kernel
theorem dX4_kill_47 : decode cX4_kill 47 = .ok (.iinc 2 1, 3) := by decide +kernel
theorem dX4_kill_50 : decode cX4_kill 50 = .ok (.goto (-41), 3) := by decide +kernel
theorem dX4_kill_53 : decode cX4_kill 53 = .ok (.iload_n 1, 1) := by decide +kernel
theorem dX4_kill_54 : decode cX4_kill 54 = .ok (.ireturn, 1) := by decide +kernel
theorem dX4_limit_0 : decode cX4_limit 0 = .ok (.aload_n 0, 1) := by decide +kernel
theorem dX4_limit_1 : decode cX4_limit 1 = .ok (.iload_n 1, 1) := by decide +kernel
theorem dX4_limit_2 : decode cX4_limit 2 = .ok (.i2l, 1) := by decide +kernel
theorem dX4_limit_3 : decode cX4_limit 3 = .ok (.lconst 0, 1) := by decide +kernel
theorem dX4_limit_4 : decode cX4_limit 4 = .ok (.ldc2_w 108, 3) := by decide +kernel
theorem dX4_limit_7 : decode cX4_limit 7 = .ok (.invokestatic 79, 3) := by decide +kernel
theorem dX4_limit_10 : decode cX4_limit 10 = .ok (.ifCond .eq 7, 3) := by decide +kernel
theorem dX4_limit_13 : decode cX4_limit 13 = .ok (.iconst 0, 1) := by decide +kernel
theorem dX4_limit_14 : decode cX4_limit 14 = .ok (.goto 4, 3) := by decide +kernel
theorem dX4_limit_17 : decode cX4_limit 17 = .ok (.iconst 1, 1) := by decide +kernel
theorem dX4_limit_18 : decode cX4_limit 18 = .ok (.putfield 73, 3) := by decide +kernel
theorem dX4_limit_21 : decode cX4_limit 21 = .ok (.aload_n 0, 1) := by decide +kernel
theorem dX4_limit_22 : decode cX4_limit 22 = .ok (.getfield 73, 3) := by decide +kernel
theorem dX4_limit_25 : decode cX4_limit 25 = .ok (.ifCond .le 5, 3) := by decide +kernel
theorem dX4_limit_28 : decode cX4_limit 28 = .ok (.iconst 0, 1) := by decide +kernel
theorem dX4_limit_29 : decode cX4_limit 29 = .ok (.ireturn, 1) := by decide +kernel
theorem dX4_limit_30 : decode cX4_limit 30 = .ok (.aload_n 0, 1) := by decide +kernel
theorem dX4_limit_31 : decode cX4_limit 31 = .ok (.getfield 61, 3) := by decide +kernel
theorem dX4_limit_34 : decode cX4_limit 34 = .ok (.istore_n 2, 1) := by decide +kernel
theorem dX4_limit_35 : decode cX4_limit 35 = .ok (.aload_n 0, 1) := by decide +kernel
theorem dX4_limit_36 : decode cX4_limit 36 = .ok (.iload_n 1, 1) := by decide +kernel
theorem dX4_limit_37 : decode cX4_limit 37 = .ok (.putfield 61, 3) := by decide +kernel
theorem dX4_limit_40 : decode cX4_limit 40 = .ok (.iload_n 2, 1) := by decide +kernel
theorem dX4_limit_41 : decode cX4_limit 41 = .ok (.ireturn, 1) := by decide +kernel
theorem dX4_least_0 : decode cX4_least 0 = .ok (.iload_n 0, 1) := by decide +kernel
theorem dX4_least_1 : decode cX4_least 1 = .ok (.iload_n 1, 1) := by decide +kernel
theorem dX4_least_2 : decode cX4_least 2 = .ok (.if_icmp .ge 7, 3) := by decide +kernel
theorem dX4_least_5 : decode cX4_least 5 = .ok (.iload_n 0, 1) := by decide +kernel
theorem dX4_least_6 : decode cX4_least 6 = .ok (.goto 4, 3) := by decide +kernel
theorem dX4_least_9 : decode cX4_least 9 = .ok (.iload_n 1, 1) := by decide +kernel
theorem dX4_least_10 : decode cX4_least 10 = .ok (.ireturn, 1) := by decide +kernel
theorem dX4_deals_0 : decode cX4_deals 0 = .ok (.aload_n 0, 1) := by decide +kernel
theorem dX4_deals_1 : decode cX4_deals 1 = .ok (.getfield 51, 3) := by decide +kernel
theorem dX4_deals_4 : decode cX4_deals 4 = .ok (.iload_n 1, 1) := by decide +kernel
theorem dX4_deals_5 : decode cX4_deals 5 = .ok (.iload_n 2, 1) := by decide +kernel
theorem dX4_deals_6 : decode cX4_deals 6 = .ok (.invokestatic 113, 3) := by decide +kernel
theorem dX4_deals_9 : decode cX4_deals 9 = .ok (.dup2, 1) := by decide +kernel
theorem dX4_deals_10 : decode cX4_deals 10 = .ok (.iaload, 1) := by decide +kernel
theorem dX4_deals_11 : decode cX4_deals 11 = .ok (.iload_n 3, 1) := by decide +kernel
theorem dX4_deals_12 : decode cX4_deals 12 = .ok (.iadd, 1) := by decide +kernel
theorem dX4_deals_13 : decode cX4_deals 13 = .ok (.iastore, 1) := by decide +kernel
theorem dX4_deals_14 : decode cX4_deals 14 = .ok (.aload_n 0, 1) := by decide +kernel
theorem dX4_deals_15 : decode cX4_deals 15 = .ok (.getfield 51, 3) := by decide +kernel
theorem dX4_deals_18 : decode cX4_deals 18 = .ok (.iconst (-1), 1) := by decide +kernel
theorem dX4_deals_19 : decode cX4_deals 19 = .ok (.iload_n 2, 1) := by decide +kernel
theorem dX4_deals_20 : decode cX4_deals 20 = .ok (.invokestatic 113, 3) := by decide +kernel
theorem dX4_deals_23 : decode cX4_deals 23 = .ok (.dup2, 1) := by decide +kernel
theorem dX4_deals_24 : decode cX4_deals 24 = .ok (.iaload, 1) := by decide +kernel
theorem dX4_deals_25 : decode cX4_deals 25 = .ok (.iload_n 3, 1) := by decide +kernel
theorem dX4_deals_26 : decode cX4_deals 26 = .ok (.isub, 1) := by decide +kernel
theorem dX4_deals_27 : decode cX4_deals 27 = .ok (.iastore, 1) := by decide +kernel
theorem dX4_deals_28 : decode cX4_deals 28 = .ok (.aload_n 0, 1) := by decide +kernel
theorem dX4_deals_29 : decode cX4_deals 29 = .ok (.getfield 57, 3) := by decide +kernel
theorem dX4_deals_32 : decode cX4_deals 32 = .ok (.iload_n 1, 1) := by decide +kernel
theorem dX4_deals_33 : decode cX4_deals 33 = .ok (.dup2, 1) := by decide +kernel
theorem dX4_deals_34 : decode cX4_deals 34 = .ok (.laload, 1) := by decide +kernel
theorem dX4_deals_35 : decode cX4_deals 35 = .ok (.ldc2_w 108, 3) := by decide +kernel
theorem dX4_deals_38 : decode cX4_deals 38 = .ok (.iload 4, 2) := by decide +kernel
theorem dX4_deals_40 : decode cX4_deals 40 = .ok (.i2l, 1) := by decide +kernel
theorem dX4_deals_41 : decode cX4_deals 41 = .ok (.lmul, 1) := by decide +kernel
theorem dX4_deals_42 : decode cX4_deals 42 = .ok (.iload_n 3, 1) := by decide +kernel
theorem dX4_deals_43 : decode cX4_deals 43 = .ok (.i2l, 1) := by decide +kernel
theorem dX4_deals_44 : decode cX4_deals 44 = .ok (.lmul, 1) := by decide +kernel
theorem dX4_deals_45 : decode cX4_deals 45 = .ok (.lsub, 1) := by decide +kernel
theorem dX4_deals_46 : decode cX4_deals 46 = .ok (.lastore, 1) := by decide +kernel
theorem dX4_deals_47 : decode cX4_deals 47 = .ok (.aload_n 0, 1) := by decide +kernel
theorem dX4_deals_48 : decode cX4_deals 48 = .ok (.getfield 57, 3) := by decide +kernel
theorem dX4_deals_51 : decode cX4_deals 51 = .ok (.bipush 6, 2) := by decide +kernel
theorem dX4_deals_53 : decode cX4_deals 53 = .ok (.dup2, 1) := by decide +kernel
theorem dX4_deals_54 : decode cX4_deals 54 = .ok (.laload, 1) := by decide +kernel
theorem dX4_deals_55 : decode cX4_deals 55 = .ok (.ldc2_w 108, 3) := by decide +kernel
theorem dX4_deals_58 : decode cX4_deals 58 = .ok (.iload 4, 2) := by decide +kernel
theorem dX4_deals_60 : decode cX4_deals 60 = .ok (.i2l, 1) := by decide +kernel
theorem dX4_deals_61 : decode cX4_deals 61 = .ok (.lmul, 1) := by decide +kernel
theorem dX4_deals_62 : decode cX4_deals 62 = .ok (.iload_n 3, 1) := by decide +kernel
theorem dX4_deals_63 : decode cX4_deals 63 = .ok (.i2l, 1) := by decide +kernel
theorem dX4_deals_64 : decode cX4_deals 64 = .ok (.lmul, 1) := by decide +kernel
theorem dX4_deals_65 : decode cX4_deals 65 = .ok (.ladd, 1) := by decide +kernel
theorem dX4_deals_66 : decode cX4_deals 66 = .ok (.lastore, 1) := by decide +kernel
theorem dX4_deals_67 : decode cX4_deals 67 = .ok (.return_, 1) := by decide +kernel
theorem dX4_order_0 : decode cX4_order 0 = .ok (.iload_n 1, 1) := by decide +kernel
theorem dX4_order_1 : decode cX4_order 1 = .ok (.i2l, 1) := by decide +kernel
theorem dX4_order_2 : decode cX4_order 2 = .ok (.lconst 0, 1) := by decide +kernel
theorem dX4_order_3 : decode cX4_order 3 = .ok (.ldc2_w 85, 3) := by decide +kernel
theorem dX4_order_6 : decode cX4_order 6 = .ok (.invokestatic 79, 3) := by decide +kernel
theorem dX4_order_9 : decode cX4_order 9 = .ok (.ifCond .eq 15, 3) := by decide +kernel
theorem dX4_order_12 : decode cX4_order 12 = .ok (.aload_n 0, 1) := by decide +kernel
theorem dX4_order_13 : decode cX4_order 13 = .ok (.iload_n 2, 1) := by decide +kernel
theorem dX4_order_14 : decode cX4_order 14 = .ok (.invokevirtual 146, 3) := by decide +kernel
theorem dX4_order_17 : decode cX4_order 17 = .ok (.ifCond .eq 7, 3) := by decide +kernel
theorem dX4_order_20 : decode cX4_order 20 = .ok (.iconst 1, 1) := by decide +kernel
theorem dX4_order_21 : decode cX4_order 21 = .ok (.goto 4, 3) := by decide +kernel
theorem dX4_order_24 : decode cX4_order 24 = .ok (.iconst 0, 1) := by decide +kernel
theorem dX4_order_25 : decode cX4_order 25 = .ok (.istore 5, 2) := by decide +kernel
theorem dX4_order_27 : decode cX4_order 27 = .ok (.iload_n 3, 1) := by decide +kernel
theorem dX4_order_28 : decode cX4_order 28 = .ok (.i2l, 1) := by decide +kernel
theorem dX4_order_29 : decode cX4_order 29 = .ok (.ldc2_w 156, 3) := by decide +kernel
theorem dX4_order_32 : decode cX4_order 32 = .ok (.ldc2_w 144, 3) := by decide +kernel
theorem dX4_order_35 : decode cX4_order 35 = .ok (.invokestatic 79, 3) := by decide +kernel
theorem dX4_order_38 : decode cX4_order 38 = .ok (.ifCond .eq 24, 3) := by decide +kernel
theorem dX4_order_41 : decode cX4_order 41 = .ok (.iload_n 3, 1) := by decide +kernel
theorem dX4_order_42 : decode cX4_order 42 = .ok (.ifCond .eq 20, 3) := by decide +kernel
theorem dX4_order_45 : decode cX4_order 45 = .ok (.iload 4, 2) := by decide +kernel
theorem dX4_order_47 : decode cX4_order 47 = .ok (.i2l, 1) := by decide +kernel
theorem dX4_order_48 : decode cX4_order 48 = .ok (.lconst 0, 1) := by decide +kernel
theorem dX4_order_49 : decode cX4_order 49 = .ok (.ldc2_w 125, 3) := by decide +kernel
theorem dX4_order_52 : decode cX4_order 52 = .ok (.invokestatic 79, 3) := by decide +kernel
theorem dX4_order_55 : decode cX4_order 55 = .ok (.ifCond .eq 7, 3) := by decide +kernel
theorem dX4_order_58 : decode cX4_order 58 = .ok (.iconst 1, 1) := by decide +kernel
theorem dX4_order_59 : decode cX4_order 59 = .ok (.goto 4, 3) := by decide +kernel
theorem dX4_order_62 : decode cX4_order 62 = .ok (.iconst 0, 1) := by decide +kernel
theorem dX4_order_63 : decode cX4_order 63 = .ok (.istore 6, 2) := by decide +kernel
theorem dX4_order_65 : decode cX4_order 65 = .ok (.aload_n 0, 1) := by decide +kernel
theorem dX4_order_66 : decode cX4_order 66 = .ok (.iload 5, 2) := by decide +kernel
theorem dX4_order_68 : decode cX4_order 68 = .ok (.ifCond .ne 7, 3) := by decide +kernel
theorem dX4_order_71 : decode cX4_order 71 = .ok (.iconst 1, 1) := by decide +kernel
theorem dX4_order_72 : decode cX4_order 72 = .ok (.goto 26, 3) := by decide +kernel
theorem dX4_order_75 : decode cX4_order 75 = .ok (.iload 6, 2) := by decide +kernel
theorem dX4_order_77 : decode cX4_order 77 = .ok (.ifCond .ne 7, 3) := by decide +kernel
theorem dX4_order_80 : decode cX4_order 80 = .ok (.iconst 2, 1) := by decide +kernel
theorem dX4_order_81 : decode cX4_order 81 = .ok (.goto 17, 3) := by decide +kernel
theorem dX4_order_84 : decode cX4_order 84 = .ok (.aload_n 0, 1) := by decide +kernel
theorem dX4_order_85 : decode cX4_order 85 = .ok (.getfield 36, 3) := by decide +kernel
theorem dX4_order_88 : decode cX4_order 88 = .ok (.iload_n 2, 1) := by decide +kernel
theorem dX4_order_89 : decode cX4_order 89 = .ok (.baload, 1) := by decide +kernel
theorem dX4_order_90 : decode cX4_order 90 = .ok (.ifCond .eq 7, 3) := by decide +kernel
theorem dX4_order_93 : decode cX4_order 93 = .ok (.iconst 3, 1) := by decide +kernel
theorem dX4_order_94 : decode cX4_order 94 = .ok (.goto 4, 3) := by decide +kernel
theorem dX4_order_97 : decode cX4_order 97 = .ok (.iconst 0, 1) := by decide +kernel
theorem dX4_order_98 : decode cX4_order 98 = .ok (.putfield 73, 3) := by decide +kernel
theorem dX4_order_101 : decode cX4_order 101 = .ok (.aload_n 0, 1) := by decide +kernel
theorem dX4_order_102 : decode cX4_order 102 = .ok (.getfield 73, 3) := by decide +kernel
theorem dX4_order_105 : decode cX4_order 105 = .ok (.ifCond .le 5, 3) := by decide +kernel
theorem dX4_order_108 : decode cX4_order 108 = .ok (.iconst 0, 1) := by decide +kernel
theorem dX4_order_109 : decode cX4_order 109 = .ok (.ireturn, 1) := by decide +kernel
theorem dX4_order_110 : decode cX4_order 110 = .ok (.aload_n 0, 1) := by decide +kernel
theorem dX4_order_111 : decode cX4_order 111 = .ok (.aload_n 0, 1) := by decide +kernel
theorem dX4_order_112 : decode cX4_order 112 = .ok (.getfield 7, 3) := by decide +kernel
theorem dX4_order_115 : decode cX4_order 115 = .ok (.invokevirtual 121, 3) := by decide +kernel
theorem dX4_order_118 : decode cX4_order 118 = .ok (.lstore 7, 2) := by decide +kernel
theorem dX4_order_120 : decode cX4_order 120 = .ok (.aload_n 0, 1) := by decide +kernel
theorem dX4_order_121 : decode cX4_order 121 = .ok (.getfield 51, 3) := by decide +kernel
theorem dX4_order_124 : decode cX4_order 124 = .ok (.iconst (-1), 1) := by decide +kernel
theorem dX4_order_125 : decode cX4_order 125 = .ok (.iload_n 2, 1) := by decide +kernel
theorem dX4_order_126 : decode cX4_order 126 = .ok (.invokestatic 113, 3) := by decide +kernel
theorem dX4_order_129 : decode cX4_order 129 = .ok (.iaload, 1) := by decide +kernel
theorem dX4_order_130 : decode cX4_order 130 = .ok (.istore 9, 2) := by decide +kernel
theorem dX4_order_132 : decode cX4_order 132 = .ok (.iconst 0, 1) := by decide +kernel
theorem dX4_order_133 : decode cX4_order 133 = .ok (.istore 10, 2) := by decide +kernel
theorem dX4_order_135 : decode cX4_order 135 = .ok (.iload_n 3, 1) := by decide +kernel
theorem dX4_order_136 : decode cX4_order 136 = .ok (.ifCond .le 77, 3) := by decide +kernel
theorem dX4_order_139 : decode cX4_order 139 = .ok (.iload 4, 2) := by decide +kernel
theorem dX4_order_141 : decode cX4_order 141 = .ok (.aload_n 0, 1) := by decide +kernel
theorem dX4_order_142 : decode cX4_order 142 = .ok (.getfield 42, 3) := by decide +kernel
theorem dX4_order_145 : decode cX4_order 145 = .ok (.iload_n 2, 1) := by decide +kernel
theorem dX4_order_146 : decode cX4_order 146 = .ok (.iaload, 1) := by decide +kernel
theorem dX4_order_147 : decode cX4_order 147 = .ok (.if_icmp .lt 66, 3) := by decide +kernel
theorem dX4_order_150 : decode cX4_order 150 = .ok (.iload_n 3, 1) := by decide +kernel
theorem dX4_order_151 : decode cX4_order 151 = .ok (.aload_n 0, 1) := by decide +kernel
theorem dX4_order_152 : decode cX4_order 152 = .ok (.getfield 48, 3) := by decide +kernel
theorem dX4_order_155 : decode cX4_order 155 = .ok (.iload_n 2, 1) := by decide +kernel
theorem dX4_order_156 : decode cX4_order 156 = .ok (.iaload, 1) := by decide +kernel
theorem dX4_order_157 : decode cX4_order 157 = .ok (.invokestatic 158, 3) := by decide +kernel
theorem dX4_order_160 : decode cX4_order 160 = .ok (.iload 9, 2) := by decide +kernel
theorem dX4_order_162 : decode cX4_order 162 = .ok (.aload_n 0, 1) := by decide +kernel
theorem dX4_order_163 : decode cX4_order 163 = .ok (.getfield 61, 3) := by decide +kernel
theorem dX4_order_166 : decode cX4_order 166 = .ok (.iadd, 1) := by decide +kernel
theorem dX4_order_167 : decode cX4_order 167 = .ok (.invokestatic 158, 3) := by decide +kernel
theorem dX4_order_170 : decode cX4_order 170 = .ok (.istore 10, 2) := by decide +kernel
theorem dX4_order_172 : decode cX4_order 172 = .ok (.iload 10, 2) := by decide +kernel
theorem dX4_order_174 : decode cX4_order 174 = .ok (.ifCond .ge 7, 3) := by decide +kernel
theorem dX4_order_177 : decode cX4_order 177 = .ok (.iconst 0, 1) := by decide +kernel
theorem dX4_order_178 : decode cX4_order 178 = .ok (.goto 5, 3) := by decide +kernel
theorem dX4_order_181 : decode cX4_order 181 = .ok (.iload 10, 2) := by decide +kernel
theorem dX4_order_183 : decode cX4_order 183 = .ok (.istore 10, 2) := by decide +kernel
theorem dX4_order_185 : decode cX4_order 185 = .ok (.aload_n 0, 1) := by decide +kernel
theorem dX4_order_186 : decode cX4_order 186 = .ok (.getfield 48, 3) := by decide +kernel
theorem dX4_order_189 : decode cX4_order 189 = .ok (.iload_n 2, 1) := by decide +kernel
theorem dX4_order_190 : decode cX4_order 190 = .ok (.dup2, 1) := by decide +kernel
theorem dX4_order_191 : decode cX4_order 191 = .ok (.iaload, 1) := by decide +kernel
theorem dX4_order_192 : decode cX4_order 192 = .ok (.iload 10, 2) := by decide +kernel
theorem dX4_order_194 : decode cX4_order 194 = .ok (.isub, 1) := by decide +kernel
theorem dX4_order_195 : decode cX4_order 195 = .ok (.iastore, 1) := by decide +kernel
theorem dX4_order_196 : decode cX4_order 196 = .ok (.aload_n 0, 1) := by decide +kernel
theorem dX4_order_197 : decode cX4_order 197 = .ok (.iload_n 1, 1) := by decide +kernel
theorem dX4_order_198 : decode cX4_order 198 = .ok (.iload_n 2, 1) := by decide +kernel
theorem dX4_order_199 : decode cX4_order 199 = .ok (.iload 10, 2) := by decide +kernel
theorem dX4_order_201 : decode cX4_order 201 = .ok (.aload_n 0, 1) := by decide +kernel
theorem dX4_order_202 : decode cX4_order 202 = .ok (.getfield 42, 3) := by decide +kernel
theorem dX4_order_205 : decode cX4_order 205 = .ok (.iload_n 2, 1) := by decide +kernel
theorem dX4_order_206 : decode cX4_order 206 = .ok (.iaload, 1) := by decide +kernel
theorem dX4_order_207 : decode cX4_order 207 = .ok (.invokevirtual 161, 3) := by decide +kernel
theorem dX4_order_210 : decode cX4_order 210 = .ok (.goto 80, 3) := by decide +kernel
theorem dX4_order_213 : decode cX4_order 213 = .ok (.iload_n 3, 1) := by decide +kernel
theorem dX4_order_214 : decode cX4_order 214 = .ok (.ifCond .ge 76, 3) := by decide +kernel
theorem dX4_order_217 : decode cX4_order 217 = .ok (.iload 4, 2) := by decide +kernel
theorem dX4_order_219 : decode cX4_order 219 = .ok (.aload_n 0, 1) := by decide +kernel
theorem dX4_order_220 : decode cX4_order 220 = .ok (.getfield 39, 3) := by decide +kernel
theorem dX4_order_223 : decode cX4_order 223 = .ok (.iload_n 2, 1) := by decide +kernel
theorem dX4_order_224 : decode cX4_order 224 = .ok (.iaload, 1) := by decide +kernel
theorem dX4_order_225 : decode cX4_order 225 = .ok (.if_icmp .gt 65, 3) := by decide +kernel
theorem dX4_order_228 : decode cX4_order 228 = .ok (.iload_n 3, 1) := by decide +kernel
theorem dX4_order_229 : decode cX4_order 229 = .ok (.ineg, 1) := by decide +kernel
theorem dX4_order_230 : decode cX4_order 230 = .ok (.aload_n 0, 1) := by decide +kernel
theorem dX4_order_231 : decode cX4_order 231 = .ok (.getfield 45, 3) := by decide +kernel
theorem dX4_order_234 : decode cX4_order 234 = .ok (.iload_n 2, 1) := by decide +kernel
theorem dX4_order_235 : decode cX4_order 235 = .ok (.iaload, 1) := by decide +kernel
theorem dX4_order_236 : decode cX4_order 236 = .ok (.invokestatic 158, 3) := by decide +kernel
theorem dX4_order_239 : decode cX4_order 239 = .ok (.aload_n 0, 1) := by decide +kernel
theorem dX4_order_240 : decode cX4_order 240 = .ok (.getfield 61, 3) := by decide +kernel
theorem dX4_order_243 : decode cX4_order 243 = .ok (.iload 9, 2) := by decide +kernel
theorem dX4_order_245 : decode cX4_order 245 = .ok (.isub, 1) := by decide +kernel
theorem dX4_order_246 : decode cX4_order 246 = .ok (.invokestatic 158, 3) := by decide +kernel
theorem dX4_order_249 : decode cX4_order 249 = .ok (.istore 10, 2) := by decide +kernel
theorem dX4_order_251 : decode cX4_order 251 = .ok (.iload 10, 2) := by decide +kernel
theorem dX4_order_253 : decode cX4_order 253 = .ok (.ifCond .ge 7, 3) := by decide +kernel
theorem dX4_order_256 : decode cX4_order 256 = .ok (.iconst 0, 1) := by decide +kernel
theorem dX4_order_257 : decode cX4_order 257 = .ok (.goto 5, 3) := by decide +kernel
theorem dX4_order_260 : decode cX4_order 260 = .ok (.iload 10, 2) := by decide +kernel
theorem dX4_order_262 : decode cX4_order 262 = .ok (.istore 10, 2) := by decide +kernel
theorem dX4_order_264 : decode cX4_order 264 = .ok (.aload_n 0, 1) := by decide +kernel
theorem dX4_order_265 : decode cX4_order 265 = .ok (.getfield 45, 3) := by decide +kernel
theorem dX4_order_268 : decode cX4_order 268 = .ok (.iload_n 2, 1) := by decide +kernel
theorem dX4_order_269 : decode cX4_order 269 = .ok (.dup2, 1) := by decide +kernel
theorem dX4_order_270 : decode cX4_order 270 = .ok (.iaload, 1) := by decide +kernel
theorem dX4_order_271 : decode cX4_order 271 = .ok (.iload 10, 2) := by decide +kernel
theorem dX4_order_273 : decode cX4_order 273 = .ok (.isub, 1) := by decide +kernel
theorem dX4_order_274 : decode cX4_order 274 = .ok (.iastore, 1) := by decide +kernel
theorem dX4_order_275 : decode cX4_order 275 = .ok (.aload_n 0, 1) := by decide +kernel
theorem dX4_order_276 : decode cX4_order 276 = .ok (.iload_n 1, 1) := by decide +kernel
theorem dX4_order_277 : decode cX4_order 277 = .ok (.iload_n 2, 1) := by decide +kernel
theorem dX4_order_278 : decode cX4_order 278 = .ok (.iload 10, 2) := by decide +kernel
theorem dX4_order_280 : decode cX4_order 280 = .ok (.ineg, 1) := by decide +kernel
theorem dX4_order_281 : decode cX4_order 281 = .ok (.aload_n 0, 1) := by decide +kernel
theorem dX4_order_282 : decode cX4_order 282 = .ok (.getfield 39, 3) := by decide +kernel
theorem dX4_order_285 : decode cX4_order 285 = .ok (.iload_n 2, 1) := by decide +kernel
theorem dX4_order_286 : decode cX4_order 286 = .ok (.iaload, 1) := by decide +kernel
theorem dX4_order_287 : decode cX4_order 287 = .ok (.invokevirtual 161, 3) := by decide +kernel
theorem dX4_order_290 : decode cX4_order 290 = .ok (.aload_n 0, 1) := by decide +kernel
theorem dX4_order_291 : decode cX4_order 291 = .ok (.getfield 67, 3) := by decide +kernel
theorem dX4_order_294 : decode cX4_order 294 = .ok (.iconst 0, 1) := by decide +kernel
theorem dX4_order_295 : decode cX4_order 295 = .ok (.dup2, 1) := by decide +kernel
theorem dX4_order_296 : decode cX4_order 296 = .ok (.laload, 1) := by decide +kernel
theorem dX4_order_297 : decode cX4_order 297 = .ok (.aload_n 0, 1) := by decide +kernel
theorem dX4_order_298 : decode cX4_order 298 = .ok (.aload_n 0, 1) := by decide +kernel
theorem dX4_order_299 : decode cX4_order 299 = .ok (.getfield 7, 3) := by decide +kernel
theorem dX4_order_302 : decode cX4_order 302 = .ok (.invokevirtual 121, 3) := by decide +kernel
theorem dX4_order_305 : decode cX4_order 305 = .ok (.lload 7, 2) := by decide +kernel
theorem dX4_order_307 : decode cX4_order 307 = .ok (.lsub, 1) := by decide +kernel
theorem dX4_order_308 : decode cX4_order 308 = .ok (.ladd, 1) := by decide +kernel
theorem dX4_order_309 : decode cX4_order 309 = .ok (.lastore, 1) := by decide +kernel
theorem dX4_order_310 : decode cX4_order 310 = .ok (.iload 10, 2) := by decide +kernel
theorem dX4_order_312 : decode cX4_order 312 = .ok (.ireturn, 1) := by decide +kernel
theorem dX4_hedge_0 : decode cX4_hedge 0 = .ok (.iload_n 1, 1) := by decide +kernel
theorem dX4_hedge_1 : decode cX4_hedge 1 = .ok (.i2l, 1) := by decide +kernel
theorem dX4_hedge_2 : decode cX4_hedge 2 = .ok (.ldc2_w 165, 3) := by decide +kernel
theorem dX4_hedge_5 : decode cX4_hedge 5 = .ok (.ldc2_w 167, 3) := by decide +kernel
theorem dX4_hedge_8 : decode cX4_hedge 8 = .ok (.invokestatic 79, 3) := by decide +kernel
theorem dX4_hedge_11 : decode cX4_hedge 11 = .ok (.ifCond .eq 38, 3) := by decide +kernel
theorem dX4_hedge_14 : decode cX4_hedge 14 = .ok (.iload_n 2, 1) := by decide +kernel
theorem dX4_hedge_15 : decode cX4_hedge 15 = .ok (.i2l, 1) := by decide +kernel
theorem dX4_hedge_16 : decode cX4_hedge 16 = .ok (.lconst 0, 1) := by decide +kernel
theorem dX4_hedge_17 : decode cX4_hedge 17 = .ok (.ldc2_w 167, 3) := by decide +kernel
theorem dX4_hedge_20 : decode cX4_hedge 20 = .ok (.invokestatic 79, 3) := by decide +kernel
theorem dX4_hedge_23 : decode cX4_hedge 23 = .ok (.ifCond .eq 26, 3) := by decide +kernel
theorem dX4_hedge_26 : decode cX4_hedge 26 = .ok (.aload_n 0, 1) := by decide +kernel
theorem dX4_hedge_27 : decode cX4_hedge 27 = .ok (.getfield 110, 3) := by decide +kernel
theorem dX4_hedge_30 : decode cX4_hedge 30 = .ok (.iload_n 1, 1) := by decide +kernel
theorem dX4_hedge_31 : decode cX4_hedge 31 = .ok (.iadd, 1) := by decide +kernel
theorem dX4_hedge_32 : decode cX4_hedge 32 = .ok (.i2l, 1) := by decide +kernel
theorem dX4_hedge_33 : decode cX4_hedge 33 = .ok (.ldc2_w 169, 3) := by decide +kernel
theorem dX4_hedge_36 : decode cX4_hedge 36 = .ok (.ldc2_w 171, 3) := by decide +kernel
theorem dX4_hedge_39 : decode cX4_hedge 39 = .ok (.invokestatic 79, 3) := by decide +kernel
theorem dX4_hedge_42 : decode cX4_hedge 42 = .ok (.ifCond .eq 7, 3) := by decide +kernel
theorem dX4_hedge_45 : decode cX4_hedge 45 = .ok (.iconst 1, 1) := by decide +kernel
theorem dX4_hedge_46 : decode cX4_hedge 46 = .ok (.goto 4, 3) := by decide +kernel
theorem dX4_hedge_49 : decode cX4_hedge 49 = .ok (.iconst 0, 1) := by decide +kernel
theorem dX4_hedge_50 : decode cX4_hedge 50 = .ok (.istore_n 3, 1) := by decide +kernel
theorem dX4_hedge_51 : decode cX4_hedge 51 = .ok (.aload_n 0, 1) := by decide +kernel
theorem dX4_hedge_52 : decode cX4_hedge 52 = .ok (.iload_n 3, 1) := by decide +kernel
theorem dX4_hedge_53 : decode cX4_hedge 53 = .ok (.ifCond .eq 7, 3) := by decide +kernel
theorem dX4_hedge_56 : decode cX4_hedge 56 = .ok (.iconst 0, 1) := by decide +kernel
theorem dX4_hedge_57 : decode cX4_hedge 57 = .ok (.goto 4, 3) := by decide +kernel
theorem dX4_hedge_60 : decode cX4_hedge 60 = .ok (.iconst 1, 1) := by decide +kernel
theorem dX4_hedge_61 : decode cX4_hedge 61 = .ok (.putfield 73, 3) := by decide +kernel
theorem dX4_hedge_64 : decode cX4_hedge 64 = .ok (.aload_n 0, 1) := by decide +kernel
theorem dX4_hedge_65 : decode cX4_hedge 65 = .ok (.getfield 73, 3) := by decide +kernel
theorem dX4_hedge_68 : decode cX4_hedge 68 = .ok (.ifCond .le 5, 3) := by decide +kernel
theorem dX4_hedge_71 : decode cX4_hedge 71 = .ok (.iconst 0, 1) := by decide +kernel
theorem dX4_hedge_72 : decode cX4_hedge 72 = .ok (.ireturn, 1) := by decide +kernel
theorem dX4_hedge_73 : decode cX4_hedge 73 = .ok (.aload_n 0, 1) := by decide +kernel
theorem dX4_hedge_74 : decode cX4_hedge 74 = .ok (.aload_n 0, 1) := by decide +kernel
theorem dX4_hedge_75 : decode cX4_hedge 75 = .ok (.getfield 7, 3) := by decide +kernel
theorem dX4_hedge_78 : decode cX4_hedge 78 = .ok (.invokevirtual 121, 3) := by decide +kernel
theorem dX4_hedge_81 : decode cX4_hedge 81 = .ok (.lstore 4, 2) := by decide +kernel
theorem dX4_hedge_83 : decode cX4_hedge 83 = .ok (.aload_n 0, 1) := by decide +kernel
theorem dX4_hedge_84 : decode cX4_hedge 84 = .ok (.iload_n 2, 1) := by decide +kernel
theorem dX4_hedge_85 : decode cX4_hedge 85 = .ok (.putfield 64, 3) := by decide +kernel
theorem dX4_hedge_88 : decode cX4_hedge 88 = .ok (.aload_n 0, 1) := by decide +kernel
theorem dX4_hedge_89 : decode cX4_hedge 89 = .ok (.dup, 1) := by decide +kernel
theorem dX4_hedge_90 : decode cX4_hedge 90 = .ok (.getfield 110, 3) := by decide +kernel
theorem dX4_hedge_93 : decode cX4_hedge 93 = .ok (.iload_n 1, 1) := by decide +kernel
theorem dX4_hedge_94 : decode cX4_hedge 94 = .ok (.iadd, 1) := by decide +kernel
theorem dX4_hedge_95 : decode cX4_hedge 95 = .ok (.putfield 110, 3) := by decide +kernel
theorem dX4_hedge_98 : decode cX4_hedge 98 = .ok (.aload_n 0, 1) := by decide +kernel
theorem dX4_hedge_99 : decode cX4_hedge 99 = .ok (.getfield 57, 3) := by decide +kernel
theorem dX4_hedge_102 : decode cX4_hedge 102 = .ok (.bipush 6, 2) := by decide +kernel
theorem dX4_hedge_104 : decode cX4_hedge 104 = .ok (.dup2, 1) := by decide +kernel
theorem dX4_hedge_105 : decode cX4_hedge 105 = .ok (.laload, 1) := by decide +kernel
theorem dX4_hedge_106 : decode cX4_hedge 106 = .ok (.ldc2_w 108, 3) := by decide +kernel
theorem dX4_hedge_109 : decode cX4_hedge 109 = .ok (.aload_n 0, 1) := by decide +kernel
theorem dX4_hedge_110 : decode cX4_hedge 110 = .ok (.getfield 7, 3) := by decide +kernel
theorem dX4_hedge_113 : decode cX4_hedge 113 = .ok (.i2l, 1) := by decide +kernel
theorem dX4_hedge_114 : decode cX4_hedge 114 = .ok (.lmul, 1) := by decide +kernel
theorem dX4_hedge_115 : decode cX4_hedge 115 = .ok (.iload_n 1, 1) := by decide +kernel
theorem dX4_hedge_116 : decode cX4_hedge 116 = .ok (.i2l, 1) := by decide +kernel
theorem dX4_hedge_117 : decode cX4_hedge 117 = .ok (.lmul, 1) := by decide +kernel
theorem dX4_hedge_118 : decode cX4_hedge 118 = .ok (.aload_n 0, 1) := by decide +kernel
theorem dX4_hedge_119 : decode cX4_hedge 119 = .ok (.getfield 64, 3) := by decide +kernel
theorem dX4_hedge_122 : decode cX4_hedge 122 = .ok (.i2l, 1) := by decide +kernel
theorem dX4_hedge_123 : decode cX4_hedge 123 = .ok (.iload_n 1, 1) := by decide +kernel
theorem dX4_hedge_124 : decode cX4_hedge 124 = .ok (.ifCond .ge 8, 3) := by decide +kernel
theorem dX4_hedge_127 : decode cX4_hedge 127 = .ok (.iload_n 1, 1) := by decide +kernel
theorem dX4_hedge_128 : decode cX4_hedge 128 = .ok (.ineg, 1) := by decide +kernel
theorem dX4_hedge_129 : decode cX4_hedge 129 = .ok (.goto 4, 3) := by decide +kernel
theorem dX4_hedge_132 : decode cX4_hedge 132 = .ok (.iload_n 1, 1) := by decide +kernel
theorem dX4_hedge_133 : decode cX4_hedge 133 = .ok (.i2l, 1) := by decide +kernel
theorem dX4_hedge_134 : decode cX4_hedge 134 = .ok (.lmul, 1) := by decide +kernel
theorem dX4_hedge_135 : decode cX4_hedge 135 = .ok (.ladd, 1) := by decide +kernel
theorem dX4_hedge_136 : decode cX4_hedge 136 = .ok (.lsub, 1) := by decide +kernel
theorem dX4_hedge_137 : decode cX4_hedge 137 = .ok (.lastore, 1) := by decide +kernel
theorem dX4_hedge_138 : decode cX4_hedge 138 = .ok (.aload_n 0, 1) := by decide +kernel
theorem dX4_hedge_139 : decode cX4_hedge 139 = .ok (.getfield 67, 3) := by decide +kernel
theorem dX4_hedge_142 : decode cX4_hedge 142 = .ok (.iconst 3, 1) := by decide +kernel
theorem dX4_hedge_143 : decode cX4_hedge 143 = .ok (.dup2, 1) := by decide +kernel
theorem dX4_hedge_144 : decode cX4_hedge 144 = .ok (.laload, 1) := by decide +kernel
theorem dX4_hedge_145 : decode cX4_hedge 145 = .ok (.aload_n 0, 1) := by decide +kernel
theorem dX4_hedge_146 : decode cX4_hedge 146 = .ok (.aload_n 0, 1) := by decide +kernel
theorem dX4_hedge_147 : decode cX4_hedge 147 = .ok (.getfield 7, 3) := by decide +kernel
theorem dX4_hedge_150 : decode cX4_hedge 150 = .ok (.invokevirtual 121, 3) := by decide +kernel
theorem dX4_hedge_153 : decode cX4_hedge 153 = .ok (.lload 4, 2) := by decide +kernel
theorem dX4_hedge_155 : decode cX4_hedge 155 = .ok (.lsub, 1) := by decide +kernel
theorem dX4_hedge_156 : decode cX4_hedge 156 = .ok (.ladd, 1) := by decide +kernel
theorem dX4_hedge_157 : decode cX4_hedge 157 = .ok (.lastore, 1) := by decide +kernel
theorem dX4_hedge_158 : decode cX4_hedge 158 = .ok (.aload_n 0, 1) := by decide +kernel
theorem dX4_hedge_159 : decode cX4_hedge 159 = .ok (.getfield 110, 3) := by decide +kernel
theorem dX4_hedge_162 : decode cX4_hedge 162 = .ok (.ireturn, 1) := by decide +kernel
theorem dX4_seed_0 : decode cX4_seed 0 = .ok (.aload_n 0, 1) := by decide +kernel
theorem dX4_seed_1 : decode cX4_seed 1 = .ok (.iload_n 1, 1) := by decide +kernel
theorem dX4_seed_2 : decode cX4_seed 2 = .ok (.ifCond .lt 7, 3) := by decide +kernel
theorem dX4_seed_5 : decode cX4_seed 5 = .ok (.iconst 0, 1) := by decide +kernel
theorem dX4_seed_6 : decode cX4_seed 6 = .ok (.goto 4, 3) := by decide +kernel
theorem dX4_seed_9 : decode cX4_seed 9 = .ok (.iconst 1, 1) := by decide +kernel
theorem dX4_seed_10 : decode cX4_seed 10 = .ok (.putfield 73, 3) := by decide +kernel
theorem dX4_seed_13 : decode cX4_seed 13 = .ok (.aload_n 0, 1) := by decide +kernel
theorem dX4_seed_14 : decode cX4_seed 14 = .ok (.getfield 73, 3) := by decide +kernel
theorem dX4_seed_17 : decode cX4_seed 17 = .ok (.ifCond .ne 9, 3) := by decide +kernel
theorem dX4_seed_20 : decode cX4_seed 20 = .ok (.aload_n 0, 1) := by decide +kernel
theorem dX4_seed_21 : decode cX4_seed 21 = .ok (.iload_n 1, 1) := by decide +kernel
theorem dX4_seed_22 : decode cX4_seed 22 = .ok (.i2l, 1) := by decide +kernel
theorem dX4_seed_23 : decode cX4_seed 23 = .ok (.putfield 173, 3) := by decide +kernel
theorem dX4_seed_26 : decode cX4_seed 26 = .ok (.return_, 1) := by decide +kernel
theorem dX4_owed_0 : decode cX4_owed 0 = .ok (.iconst 0, 1) := by decide +kernel
theorem dX4_owed_1 : decode cX4_owed 1 = .ok (.istore_n 2, 1) := by decide +kernel
theorem dX4_owed_2 : decode cX4_owed 2 = .ok (.iconst 0, 1) := by decide +kernel
theorem dX4_owed_3 : decode cX4_owed 3 = .ok (.istore_n 3, 1) := by decide +kernel
theorem dX4_owed_4 : decode cX4_owed 4 = .ok (.iload_n 3, 1) := by decide +kernel
theorem dX4_owed_5 : decode cX4_owed 5 = .ok (.bipush 7, 2) := by decide +kernel
theorem dX4_owed_7 : decode cX4_owed 7 = .ok (.if_icmp .ge 36, 3) := by decide +kernel
theorem dX4_owed_10 : decode cX4_owed 10 = .ok (.aload_n 0, 1) := by decide +kernel
theorem dX4_owed_11 : decode cX4_owed 11 = .ok (.getfield 51, 3) := by decide +kernel
theorem dX4_owed_14 : decode cX4_owed 14 = .ok (.bipush 7, 2) := by decide +kernel
theorem dX4_owed_16 : decode cX4_owed 16 = .ok (.iload_n 1, 1) := by decide +kernel
theorem dX4_owed_17 : decode cX4_owed 17 = .ok (.imul, 1) := by decide +kernel
theorem dX4_owed_18 : decode cX4_owed 18 = .ok (.iload_n 3, 1) := by decide +kernel
theorem dX4_owed_19 : decode cX4_owed 19 = .ok (.iadd, 1) := by decide +kernel
theorem dX4_owed_20 : decode cX4_owed 20 = .ok (.iaload, 1) := by decide +kernel
theorem dX4_owed_21 : decode cX4_owed 21 = .ok (.istore 4, 2) := by decide +kernel
theorem dX4_owed_23 : decode cX4_owed 23 = .ok (.iload_n 2, 1) := by decide +kernel
theorem dX4_owed_24 : decode cX4_owed 24 = .ok (.iload 4, 2) := by decide +kernel
theorem dX4_owed_26 : decode cX4_owed 26 = .ok (.ifCond .ge 8, 3) := by decide +kernel
theorem dX4_owed_29 : decode cX4_owed 29 = .ok (.iload 4, 2) := by decide +kernel
theorem dX4_owed_31 : decode cX4_owed 31 = .ok (.goto 4, 3) := by decide +kernel
theorem dX4_owed_34 : decode cX4_owed 34 = .ok (.iconst 0, 1) := by decide +kernel
theorem dX4_owed_35 : decode cX4_owed 35 = .ok (.isub, 1) := by decide +kernel
theorem dX4_owed_36 : decode cX4_owed 36 = .ok (.istore_n 2, 1) := by decide +kernel
theorem dX4_owed_37 : decode cX4_owed 37 = .ok (.iinc 3 1, 3) := by decide +kernel
theorem dX4_owed_40 : decode cX4_owed 40 = .ok (.goto (-36), 3) := by decide +kernel
theorem dX4_owed_43 : decode cX4_owed 43 = .ok (.iload_n 2, 1) := by decide +kernel
theorem dX4_owed_44 : decode cX4_owed 44 = .ok (.ireturn, 1) := by decide +kernel
theorem dX4_draw_0 : decode cX4_draw 0 = .ok (.aload_n 0, 1) := by decide +kernel
theorem dX4_draw_1 : decode cX4_draw 1 = .ok (.ldc2_w 176, 3) := by decide +kernel
theorem dX4_draw_4 : decode cX4_draw 4 = .ok (.aload_n 0, 1) := by decide +kernel
theorem dX4_draw_5 : decode cX4_draw 5 = .ok (.getfield 173, 3) := by decide +kernel
theorem dX4_draw_8 : decode cX4_draw 8 = .ok (.lmul, 1) := by decide +kernel
theorem dX4_draw_9 : decode cX4_draw 9 = .ok (.ldc2_w 178, 3) := by decide +kernel
theorem dX4_draw_12 : decode cX4_draw 12 = .ok (.ladd, 1) := by decide +kernel
theorem dX4_draw_13 : decode cX4_draw 13 = .ok (.ldc2_w 180, 3) := by decide +kernel
theorem dX4_draw_16 : decode cX4_draw 16 = .ok (.lrem, 1) := by decide +kernel
theorem dX4_draw_17 : decode cX4_draw 17 = .ok (.putfield 173, 3) := by decide +kernel
theorem dX4_draw_20 : decode cX4_draw 20 = .ok (.aload_n 0, 1) := by decide +kernel
theorem dX4_draw_21 : decode cX4_draw 21 = .ok (.getfield 173, 3) := by decide +kernel
theorem dX4_draw_24 : decode cX4_draw 24 = .ok (.ldc2_w 182, 3) := by decide +kernel
theorem dX4_draw_27 : decode cX4_draw 27 = .ok (.ldiv, 1) := by decide +kernel
theorem dX4_draw_28 : decode cX4_draw 28 = .ok (.iload_n 1, 1) := by decide +kernel
theorem dX4_draw_29 : decode cX4_draw 29 = .ok (.i2l, 1) := by decide +kernel
theorem dX4_draw_30 : decode cX4_draw 30 = .ok (.lrem, 1) := by decide +kernel
theorem dX4_draw_31 : decode cX4_draw 31 = .ok (.l2i, 1) := by decide +kernel
theorem dX4_draw_32 : decode cX4_draw 32 = .ok (.ireturn, 1) := by decide +kernel
theorem dX4_exercisesOne_0 : decode cX4_exercisesOne 0 = .ok (.aload_n 0, 1) := by decide +kernel
theorem dX4_exercisesOne_1 : decode cX4_exercisesOne 1 = .ok (.aload_n 0, 1) := by decide +kernel
theorem dX4_exercisesOne_2 : decode cX4_exercisesOne 2 = .ok (.iload_n 2, 1) := by decide +kernel
theorem dX4_exercisesOne_3 : decode cX4_exercisesOne 3 = .ok (.invokevirtual 184, 3) := by decide +kernel
theorem dX4_exercisesOne_6 : decode cX4_exercisesOne 6 = .ok (.invokevirtual 188, 3) := by decide +kernel
theorem dX4_exercisesOne_9 : decode cX4_exercisesOne 9 = .ok (.istore 5, 2) := by decide +kernel
theorem dX4_exercisesOne_11 : decode cX4_exercisesOne 11 = .ok (.iconst 0, 1) := by decide +kernel
theorem dX4_exercisesOne_12 : decode cX4_exercisesOne 12 = .ok (.istore 6, 2) := by decide +kernel
theorem dX4_exercisesOne_14 : decode cX4_exercisesOne 14 = .ok (.aload_n 0, 1) := by decide +kernel
theorem dX4_exercisesOne_15 : decode cX4_exercisesOne 15 = .ok (.getfield 51, 3) := by decide +kernel
theorem dX4_exercisesOne_18 : decode cX4_exercisesOne 18 = .ok (.bipush 7, 2) := by decide +kernel
theorem dX4_exercisesOne_20 : decode cX4_exercisesOne 20 = .ok (.iload_n 2, 1) := by decide +kernel
theorem dX4_exercisesOne_21 : decode cX4_exercisesOne 21 = .ok (.imul, 1) := by decide +kernel
theorem dX4_exercisesOne_22 : decode cX4_exercisesOne 22 = .ok (.iload 6, 2) := by decide +kernel
theorem dX4_exercisesOne_24 : decode cX4_exercisesOne 24 = .ok (.iadd, 1) := by decide +kernel
theorem dX4_exercisesOne_25 : decode cX4_exercisesOne 25 = .ok (.iaload, 1) := by decide +kernel
theorem dX4_exercisesOne_26 : decode cX4_exercisesOne 26 = .ok (.ifCond .ge 21, 3) := by decide +kernel
theorem dX4_exercisesOne_29 : decode cX4_exercisesOne 29 = .ok (.iload 5, 2) := by decide +kernel
theorem dX4_exercisesOne_31 : decode cX4_exercisesOne 31 = .ok (.aload_n 0, 1) := by decide +kernel
theorem dX4_exercisesOne_32 : decode cX4_exercisesOne 32 = .ok (.getfield 51, 3) := by decide +kernel
theorem dX4_exercisesOne_35 : decode cX4_exercisesOne 35 = .ok (.bipush 7, 2) := by decide +kernel
theorem dX4_exercisesOne_37 : decode cX4_exercisesOne 37 = .ok (.iload_n 2, 1) := by decide +kernel
theorem dX4_exercisesOne_38 : decode cX4_exercisesOne 38 = .ok (.imul, 1) := by decide +kernel
theorem dX4_exercisesOne_39 : decode cX4_exercisesOne 39 = .ok (.iload 6, 2) := by decide +kernel
theorem dX4_exercisesOne_41 : decode cX4_exercisesOne 41 = .ok (.iadd, 1) := by decide +kernel
theorem dX4_exercisesOne_42 : decode cX4_exercisesOne 42 = .ok (.iaload, 1) := by decide +kernel
theorem dX4_exercisesOne_43 : decode cX4_exercisesOne 43 = .ok (.ineg, 1) := by decide +kernel
theorem dX4_exercisesOne_44 : decode cX4_exercisesOne 44 = .ok (.if_icmp .lt 45, 3) := by decide +kernel
theorem dX4_exercisesOne_47 : decode cX4_exercisesOne 47 = .ok (.iload 5, 2) := by decide +kernel
theorem dX4_exercisesOne_49 : decode cX4_exercisesOne 49 = .ok (.aload_n 0, 1) := by decide +kernel
theorem dX4_exercisesOne_50 : decode cX4_exercisesOne 50 = .ok (.getfield 51, 3) := by decide +kernel
theorem dX4_exercisesOne_53 : decode cX4_exercisesOne 53 = .ok (.bipush 7, 2) := by decide +kernel
theorem dX4_exercisesOne_55 : decode cX4_exercisesOne 55 = .ok (.iload_n 2, 1) := by decide +kernel
theorem dX4_exercisesOne_56 : decode cX4_exercisesOne 56 = .ok (.imul, 1) := by decide +kernel
theorem dX4_exercisesOne_57 : decode cX4_exercisesOne 57 = .ok (.iload 6, 2) := by decide +kernel
theorem dX4_exercisesOne_59 : decode cX4_exercisesOne 59 = .ok (.iadd, 1) := by decide +kernel
theorem dX4_exercisesOne_60 : decode cX4_exercisesOne 60 = .ok (.iaload, 1) := by decide +kernel
theorem dX4_exercisesOne_61 : decode cX4_exercisesOne 61 = .ok (.ifCond .ge 18, 3) := by decide +kernel
theorem dX4_exercisesOne_64 : decode cX4_exercisesOne 64 = .ok (.aload_n 0, 1) := by decide +kernel
theorem dX4_exercisesOne_65 : decode cX4_exercisesOne 65 = .ok (.getfield 51, 3) := by decide +kernel
theorem dX4_exercisesOne_68 : decode cX4_exercisesOne 68 = .ok (.bipush 7, 2) := by decide +kernel
theorem dX4_exercisesOne_70 : decode cX4_exercisesOne 70 = .ok (.iload_n 2, 1) := by decide +kernel
theorem dX4_exercisesOne_71 : decode cX4_exercisesOne 71 = .ok (.imul, 1) := by decide +kernel
theorem dX4_exercisesOne_72 : decode cX4_exercisesOne 72 = .ok (.iload 6, 2) := by decide +kernel
theorem dX4_exercisesOne_74 : decode cX4_exercisesOne 74 = .ok (.iadd, 1) := by decide +kernel
theorem dX4_exercisesOne_75 : decode cX4_exercisesOne 75 = .ok (.iaload, 1) := by decide +kernel
theorem dX4_exercisesOne_76 : decode cX4_exercisesOne 76 = .ok (.goto 4, 3) := by decide +kernel
theorem dX4_exercisesOne_79 : decode cX4_exercisesOne 79 = .ok (.iconst 0, 1) := by decide +kernel
theorem dX4_exercisesOne_80 : decode cX4_exercisesOne 80 = .ok (.iadd, 1) := by decide +kernel
theorem dX4_exercisesOne_81 : decode cX4_exercisesOne 81 = .ok (.istore 5, 2) := by decide +kernel
theorem dX4_exercisesOne_83 : decode cX4_exercisesOne 83 = .ok (.iinc 6 1, 3) := by decide +kernel
theorem dX4_exercisesOne_86 : decode cX4_exercisesOne 86 = .ok (.goto (-72), 3) := by decide +kernel
theorem dX4_exercisesOne_89 : decode cX4_exercisesOne 89 = .ok (.aload_n 0, 1) := by decide +kernel
theorem dX4_exercisesOne_90 : decode cX4_exercisesOne 90 = .ok (.getfield 51, 3) := by decide +kernel
theorem dX4_exercisesOne_93 : decode cX4_exercisesOne 93 = .ok (.bipush 7, 2) := by decide +kernel
theorem dX4_exercisesOne_95 : decode cX4_exercisesOne 95 = .ok (.iload_n 2, 1) := by decide +kernel
theorem dX4_exercisesOne_96 : decode cX4_exercisesOne 96 = .ok (.imul, 1) := by decide +kernel
theorem dX4_exercisesOne_97 : decode cX4_exercisesOne 97 = .ok (.iload 6, 2) := by decide +kernel
theorem dX4_exercisesOne_99 : decode cX4_exercisesOne 99 = .ok (.iadd, 1) := by decide +kernel
theorem dX4_exercisesOne_100 : decode cX4_exercisesOne 100 = .ok (.dup2, 1) := by decide +kernel
theorem dX4_exercisesOne_101 : decode cX4_exercisesOne 101 = .ok (.iaload, 1) := by decide +kernel
theorem dX4_exercisesOne_102 : decode cX4_exercisesOne 102 = .ok (.iconst 1, 1) := by decide +kernel
theorem dX4_exercisesOne_103 : decode cX4_exercisesOne 103 = .ok (.iadd, 1) := by decide +kernel
theorem dX4_exercisesOne_104 : decode cX4_exercisesOne 104 = .ok (.iastore, 1) := by decide +kernel
theorem dX4_exercisesOne_105 : decode cX4_exercisesOne 105 = .ok (.aload_n 0, 1) := by decide +kernel
theorem dX4_exercisesOne_106 : decode cX4_exercisesOne 106 = .ok (.getfield 51, 3) := by decide +kernel
theorem dX4_exercisesOne_109 : decode cX4_exercisesOne 109 = .ok (.bipush 7, 2) := by decide +kernel
theorem dX4_exercisesOne_111 : decode cX4_exercisesOne 111 = .ok (.iload_n 2, 1) := by decide +kernel
theorem dX4_exercisesOne_112 : decode cX4_exercisesOne 112 = .ok (.imul, 1) := by decide +kernel
theorem dX4_exercisesOne_113 : decode cX4_exercisesOne 113 = .ok (.iload_n 1, 1) := by decide +kernel
theorem dX4_exercisesOne_114 : decode cX4_exercisesOne 114 = .ok (.iadd, 1) := by decide +kernel
theorem dX4_exercisesOne_115 : decode cX4_exercisesOne 115 = .ok (.dup2, 1) := by decide +kernel
theorem dX4_exercisesOne_116 : decode cX4_exercisesOne 116 = .ok (.iaload, 1) := by decide +kernel
theorem dX4_exercisesOne_117 : decode cX4_exercisesOne 117 = .ok (.iconst 1, 1) := by decide +kernel
theorem dX4_exercisesOne_118 : decode cX4_exercisesOne 118 = .ok (.isub, 1) := by decide +kernel
theorem dX4_exercisesOne_119 : decode cX4_exercisesOne 119 = .ok (.iastore, 1) := by decide +kernel
theorem dX4_exercisesOne_120 : decode cX4_exercisesOne 120 = .ok (.aload_n 0, 1) := by decide +kernel
theorem dX4_exercisesOne_121 : decode cX4_exercisesOne 121 = .ok (.getfield 57, 3) := by decide +kernel
theorem dX4_exercisesOne_124 : decode cX4_exercisesOne 124 = .ok (.iload 6, 2) := by decide +kernel
theorem dX4_exercisesOne_126 : decode cX4_exercisesOne 126 = .ok (.dup2, 1) := by decide +kernel
theorem dX4_exercisesOne_127 : decode cX4_exercisesOne 127 = .ok (.laload, 1) := by decide +kernel
theorem dX4_exercisesOne_128 : decode cX4_exercisesOne 128 = .ok (.ldc2_w 108, 3) := by decide +kernel
theorem dX4_exercisesOne_131 : decode cX4_exercisesOne 131 = .ok (.lload_n 3, 1) := by decide +kernel
theorem dX4_exercisesOne_132 : decode cX4_exercisesOne 132 = .ok (.lmul, 1) := by decide +kernel
theorem dX4_exercisesOne_133 : decode cX4_exercisesOne 133 = .ok (.lsub, 1) := by decide +kernel
theorem dX4_exercisesOne_134 : decode cX4_exercisesOne 134 = .ok (.lastore, 1) := by decide +kernel
theorem dX4_exercisesOne_135 : decode cX4_exercisesOne 135 = .ok (.aload_n 0, 1) := by decide +kernel
theorem dX4_exercisesOne_136 : decode cX4_exercisesOne 136 = .ok (.getfield 57, 3) := by decide +kernel
theorem dX4_exercisesOne_139 : decode cX4_exercisesOne 139 = .ok (.iload_n 1, 1) := by decide +kernel
theorem dX4_exercisesOne_140 : decode cX4_exercisesOne 140 = .ok (.dup2, 1) := by decide +kernel
theorem dX4_exercisesOne_141 : decode cX4_exercisesOne 141 = .ok (.laload, 1) := by decide +kernel
theorem dX4_exercisesOne_142 : decode cX4_exercisesOne 142 = .ok (.ldc2_w 108, 3) := by decide +kernel
theorem dX4_exercisesOne_145 : decode cX4_exercisesOne 145 = .ok (.lload_n 3, 1) := by decide +kernel
theorem dX4_exercisesOne_146 : decode cX4_exercisesOne 146 = .ok (.lmul, 1) := by decide +kernel
theorem dX4_exercisesOne_147 : decode cX4_exercisesOne 147 = .ok (.ladd, 1) := by decide +kernel
theorem dX4_exercisesOne_148 : decode cX4_exercisesOne 148 = .ok (.lastore, 1) := by decide +kernel
theorem dX4_exercisesOne_149 : decode cX4_exercisesOne 149 = .ok (.return_, 1) := by decide +kernel
theorem dX4_exercise_0 : decode cX4_exercise 0 = .ok (.aload_n 0, 1) := by decide +kernel
theorem dX4_exercise_1 : decode cX4_exercise 1 = .ok (.iload_n 1, 1) := by decide +kernel
theorem dX4_exercise_2 : decode cX4_exercise 2 = .ok (.invokestatic 191, 3) := by decide +kernel
theorem dX4_exercise_5 : decode cX4_exercise 5 = .ok (.ifCond .eq 11, 3) := by decide +kernel
theorem dX4_exercise_8 : decode cX4_exercise 8 = .ok (.aload_n 0, 1) := by decide +kernel
theorem dX4_exercise_9 : decode cX4_exercise 9 = .ok (.iload_n 2, 1) := by decide +kernel
theorem dX4_exercise_10 : decode cX4_exercise 10 = .ok (.invokevirtual 146, 3) := by decide +kernel
theorem dX4_exercise_13 : decode cX4_exercise 13 = .ok (.ifCond .ne 7, 3) := by decide +kernel
theorem dX4_exercise_16 : decode cX4_exercise 16 = .ok (.iconst 1, 1) := by decide +kernel
theorem dX4_exercise_17 : decode cX4_exercise 17 = .ok (.goto 20, 3) := by decide +kernel
theorem dX4_exercise_20 : decode cX4_exercise 20 = .ok (.iload_n 3, 1) := by decide +kernel
theorem dX4_exercise_21 : decode cX4_exercise 21 = .ok (.i2l, 1) := by decide +kernel
theorem dX4_exercise_22 : decode cX4_exercise 22 = .ok (.lconst 1, 1) := by decide +kernel
theorem dX4_exercise_23 : decode cX4_exercise 23 = .ok (.ldc2_w 108, 3) := by decide +kernel
theorem dX4_exercise_26 : decode cX4_exercise 26 = .ok (.invokestatic 79, 3) := by decide +kernel
theorem dX4_exercise_29 : decode cX4_exercise 29 = .ok (.ifCond .ne 7, 3) := by decide +kernel
theorem dX4_exercise_32 : decode cX4_exercise 32 = .ok (.iconst 2, 1) := by decide +kernel
theorem dX4_exercise_33 : decode cX4_exercise 33 = .ok (.goto 4, 3) := by decide +kernel
theorem dX4_exercise_36 : decode cX4_exercise 36 = .ok (.iconst 0, 1) := by decide +kernel
theorem dX4_exercise_37 : decode cX4_exercise 37 = .ok (.putfield 73, 3) := by decide +kernel
theorem dX4_exercise_40 : decode cX4_exercise 40 = .ok (.aload_n 0, 1) := by decide +kernel
theorem dX4_exercise_41 : decode cX4_exercise 41 = .ok (.getfield 73, 3) := by decide +kernel
theorem dX4_exercise_44 : decode cX4_exercise 44 = .ok (.ifCond .ne 69, 3) := by decide +kernel
theorem dX4_exercise_47 : decode cX4_exercise 47 = .ok (.aload_n 0, 1) := by decide +kernel
theorem dX4_exercise_48 : decode cX4_exercise 48 = .ok (.getfield 51, 3) := by decide +kernel
theorem dX4_exercise_51 : decode cX4_exercise 51 = .ok (.iload_n 1, 1) := by decide +kernel
theorem dX4_exercise_52 : decode cX4_exercise 52 = .ok (.iload_n 2, 1) := by decide +kernel
theorem dX4_exercise_53 : decode cX4_exercise 53 = .ok (.invokestatic 113, 3) := by decide +kernel
theorem dX4_exercise_56 : decode cX4_exercise 56 = .ok (.iaload, 1) := by decide +kernel
theorem dX4_exercise_57 : decode cX4_exercise 57 = .ok (.iload_n 3, 1) := by decide +kernel
theorem dX4_exercise_58 : decode cX4_exercise 58 = .ok (.if_icmp .lt 38, 3) := by decide +kernel
theorem dX4_exercise_61 : decode cX4_exercise 61 = .ok (.aload_n 0, 1) := by decide +kernel
theorem dX4_exercise_62 : decode cX4_exercise 62 = .ok (.getfield 36, 3) := by decide +kernel
theorem dX4_exercise_65 : decode cX4_exercise 65 = .ok (.iload_n 2, 1) := by decide +kernel
theorem dX4_exercise_66 : decode cX4_exercise 66 = .ok (.baload, 1) := by decide +kernel
theorem dX4_exercise_67 : decode cX4_exercise 67 = .ok (.ifCond .ne 29, 3) := by decide +kernel
theorem dX4_exercise_70 : decode cX4_exercise 70 = .ok (.aload_n 0, 1) := by decide +kernel
theorem dX4_exercise_71 : decode cX4_exercise 71 = .ok (.getfield 32, 3) := by decide +kernel
theorem dX4_exercise_74 : decode cX4_exercise 74 = .ok (.iload_n 2, 1) := by decide +kernel
theorem dX4_exercise_75 : decode cX4_exercise 75 = .ok (.baload, 1) := by decide +kernel
theorem dX4_exercise_76 : decode cX4_exercise 76 = .ok (.ifCond .ne 16, 3) := by decide +kernel
theorem dX4_exercise_79 : decode cX4_exercise 79 = .ok (.aload_n 0, 1) := by decide +kernel
theorem dX4_exercise_80 : decode cX4_exercise 80 = .ok (.getfield 29, 3) := by decide +kernel
theorem dX4_exercise_83 : decode cX4_exercise 83 = .ok (.iload_n 2, 1) := by decide +kernel
theorem dX4_exercise_84 : decode cX4_exercise 84 = .ok (.iaload, 1) := by decide +kernel
theorem dX4_exercise_85 : decode cX4_exercise 85 = .ok (.aload_n 0, 1) := by decide +kernel
theorem dX4_exercise_86 : decode cX4_exercise 86 = .ok (.getfield 89, 3) := by decide +kernel
theorem dX4_exercise_89 : decode cX4_exercise 89 = .ok (.if_icmp .ne 7, 3) := by decide +kernel
theorem dX4_exercise_92 : decode cX4_exercise 92 = .ok (.iconst 1, 1) := by decide +kernel
theorem dX4_exercise_93 : decode cX4_exercise 93 = .ok (.goto 4, 3) := by decide +kernel
theorem dX4_exercise_96 : decode cX4_exercise 96 = .ok (.iconst 0, 1) := by decide +kernel
theorem dX4_exercise_97 : decode cX4_exercise 97 = .ok (.istore 4, 2) := by decide +kernel
theorem dX4_exercise_99 : decode cX4_exercise 99 = .ok (.aload_n 0, 1) := by decide +kernel
theorem dX4_exercise_100 : decode cX4_exercise 100 = .ok (.iload 4, 2) := by decide +kernel
theorem dX4_exercise_102 : decode cX4_exercise 102 = .ok (.ifCond .eq 7, 3) := by decide +kernel
theorem dX4_exercise_105 : decode cX4_exercise 105 = .ok (.iconst 0, 1) := by decide +kernel
theorem dX4_exercise_106 : decode cX4_exercise 106 = .ok (.goto 4, 3) := by decide +kernel
theorem dX4_exercise_109 : decode cX4_exercise 109 = .ok (.iconst 3, 1) := by decide +kernel
theorem dX4_exercise_110 : decode cX4_exercise 110 = .ok (.putfield 73, 3) := by decide +kernel
theorem dX4_exercise_113 : decode cX4_exercise 113 = .ok (.aload_n 0, 1) := by decide +kernel
theorem dX4_exercise_114 : decode cX4_exercise 114 = .ok (.getfield 73, 3) := by decide +kernel
theorem dX4_exercise_117 : decode cX4_exercise 117 = .ok (.ifCond .le 5, 3) := by decide +kernel
theorem dX4_exercise_120 : decode cX4_exercise 120 = .ok (.iconst 0, 1) := by decide +kernel
theorem dX4_exercise_121 : decode cX4_exercise 121 = .ok (.ireturn, 1) := by decide +kernel
theorem dX4_exercise_122 : decode cX4_exercise 122 = .ok (.aload_n 0, 1) := by decide +kernel
theorem dX4_exercise_123 : decode cX4_exercise 123 = .ok (.aload_n 0, 1) := by decide +kernel
theorem dX4_exercise_124 : decode cX4_exercise 124 = .ok (.getfield 7, 3) := by decide +kernel
theorem dX4_exercise_127 : decode cX4_exercise 127 = .ok (.invokevirtual 121, 3) := by decide +kernel
theorem dX4_exercise_130 : decode cX4_exercise 130 = .ok (.lstore 4, 2) := by decide +kernel
theorem dX4_exercise_132 : decode cX4_exercise 132 = .ok (.aload_n 0, 1) := by decide +kernel
theorem dX4_exercise_133 : decode cX4_exercise 133 = .ok (.iload_n 2, 1) := by decide +kernel
theorem dX4_exercise_134 : decode cX4_exercise 134 = .ok (.aload_n 0, 1) := by decide +kernel
theorem dX4_exercise_135 : decode cX4_exercise 135 = .ok (.getfield 7, 3) := by decide +kernel
theorem dX4_exercise_138 : decode cX4_exercise 138 = .ok (.i2l, 1) := by decide +kernel
theorem dX4_exercise_139 : decode cX4_exercise 139 = .ok (.invokevirtual 96, 3) := by decide +kernel
theorem dX4_exercise_142 : decode cX4_exercise 142 = .ok (.lstore 6, 2) := by decide +kernel
theorem dX4_exercise_144 : decode cX4_exercise 144 = .ok (.iconst 0, 1) := by decide +kernel
theorem dX4_exercise_145 : decode cX4_exercise 145 = .ok (.istore 8, 2) := by decide +kernel
theorem dX4_exercise_147 : decode cX4_exercise 147 = .ok (.iload 8, 2) := by decide +kernel
theorem dX4_exercise_149 : decode cX4_exercise 149 = .ok (.iload_n 3, 1) := by decide +kernel
theorem dX4_exercise_150 : decode cX4_exercise 150 = .ok (.if_icmp .ge 27, 3) := by decide +kernel
theorem dX4_exercise_153 : decode cX4_exercise 153 = .ok (.aload_n 0, 1) := by decide +kernel
theorem dX4_exercise_154 : decode cX4_exercise 154 = .ok (.iload_n 1, 1) := by decide +kernel
theorem dX4_exercise_155 : decode cX4_exercise 155 = .ok (.iconst (-1), 1) := by decide +kernel
theorem dX4_exercise_156 : decode cX4_exercise 156 = .ok (.if_icmp .ne 8, 3) := by decide +kernel
theorem dX4_exercise_159 : decode cX4_exercise 159 = .ok (.bipush 6, 2) := by decide +kernel
theorem dX4_exercise_161 : decode cX4_exercise 161 = .ok (.goto 4, 3) := by decide +kernel
theorem dX4_exercise_164 : decode cX4_exercise 164 = .ok (.iload_n 1, 1) := by decide +kernel
theorem dX4_exercise_165 : decode cX4_exercise 165 = .ok (.iload_n 2, 1) := by decide +kernel
theorem dX4_exercise_166 : decode cX4_exercise 166 = .ok (.lload 6, 2) := by decide +kernel
theorem dX4_exercise_168 : decode cX4_exercise 168 = .ok (.invokevirtual 194, 3) := by decide +kernel
theorem dX4_exercise_171 : decode cX4_exercise 171 = .ok (.iinc 8 1, 3) := by decide +kernel
theorem dX4_exercise_174 : decode cX4_exercise 174 = .ok (.goto (-27), 3) := by decide +kernel
theorem dX4_exercise_177 : decode cX4_exercise 177 = .ok (.aload_n 0, 1) := by decide +kernel
theorem dX4_exercise_178 : decode cX4_exercise 178 = .ok (.getfield 67, 3) := by decide +kernel
theorem dX4_exercise_181 : decode cX4_exercise 181 = .ok (.iconst 4, 1) := by decide +kernel
theorem dX4_exercise_182 : decode cX4_exercise 182 = .ok (.dup2, 1) := by decide +kernel
theorem dX4_exercise_183 : decode cX4_exercise 183 = .ok (.laload, 1) := by decide +kernel
theorem dX4_exercise_184 : decode cX4_exercise 184 = .ok (.aload_n 0, 1) := by decide +kernel
theorem dX4_exercise_185 : decode cX4_exercise 185 = .ok (.aload_n 0, 1) := by decide +kernel
theorem dX4_exercise_186 : decode cX4_exercise 186 = .ok (.getfield 7, 3) := by decide +kernel
theorem dX4_exercise_189 : decode cX4_exercise 189 = .ok (.invokevirtual 121, 3) := by decide +kernel
theorem dX4_exercise_192 : decode cX4_exercise 192 = .ok (.lload 4, 2) := by decide +kernel
theorem dX4_exercise_194 : decode cX4_exercise 194 = .ok (.lsub, 1) := by decide +kernel
theorem dX4_exercise_195 : decode cX4_exercise 195 = .ok (.ladd, 1) := by decide +kernel
theorem dX4_exercise_196 : decode cX4_exercise 196 = .ok (.lastore, 1) := by decide +kernel
theorem dX4_exercise_197 : decode cX4_exercise 197 = .ok (.lload 6, 2) := by decide +kernel
theorem dX4_exercise_199 : decode cX4_exercise 199 = .ok (.l2i, 1) := by decide +kernel
theorem dX4_exercise_200 : decode cX4_exercise 200 = .ok (.ireturn, 1) := by decide +kernel
theorem dX4_contrary_0 : decode cX4_contrary 0 = .ok (.iload_n 1, 1) := by decide +kernel
theorem dX4_contrary_1 : decode cX4_contrary 1 = .ok (.i2l, 1) := by decide +kernel
theorem dX4_contrary_2 : decode cX4_contrary 2 = .ok (.lconst 0, 1) := by decide +kernel
theorem dX4_contrary_3 : decode cX4_contrary 3 = .ok (.ldc2_w 85, 3) := by decide +kernel
theorem dX4_contrary_6 : decode cX4_contrary 6 = .ok (.invokestatic 79, 3) := by decide +kernel
theorem dX4_contrary_9 : decode cX4_contrary 9 = .ok (.ifCond .eq 15, 3) := by decide +kernel
theorem dX4_contrary_12 : decode cX4_contrary 12 = .ok (.aload_n 0, 1) := by decide +kernel
theorem dX4_contrary_13 : decode cX4_contrary 13 = .ok (.iload_n 2, 1) := by decide +kernel
theorem dX4_contrary_14 : decode cX4_contrary 14 = .ok (.invokevirtual 146, 3) := by decide +kernel
theorem dX4_contrary_17 : decode cX4_contrary 17 = .ok (.ifCond .eq 7, 3) := by decide +kernel
theorem dX4_contrary_20 : decode cX4_contrary 20 = .ok (.iconst 1, 1) := by decide +kernel
theorem dX4_contrary_21 : decode cX4_contrary 21 = .ok (.goto 4, 3) := by decide +kernel
theorem dX4_contrary_24 : decode cX4_contrary 24 = .ok (.iconst 0, 1) := by decide +kernel
theorem dX4_contrary_25 : decode cX4_contrary 25 = .ok (.istore 4, 2) := by decide +kernel
theorem dX4_contrary_27 : decode cX4_contrary 27 = .ok (.aload_n 0, 1) := by decide +kernel
theorem dX4_contrary_28 : decode cX4_contrary 28 = .ok (.iload 4, 2) := by decide +kernel
theorem dX4_contrary_30 : decode cX4_contrary 30 = .ok (.ifCond .ne 7, 3) := by decide +kernel
theorem dX4_contrary_33 : decode cX4_contrary 33 = .ok (.iconst 1, 1) := by decide +kernel
theorem dX4_contrary_34 : decode cX4_contrary 34 = .ok (.goto 17, 3) := by decide +kernel
theorem dX4_contrary_37 : decode cX4_contrary 37 = .ok (.aload_n 0, 1) := by decide +kernel
theorem dX4_contrary_38 : decode cX4_contrary 38 = .ok (.getfield 36, 3) := by decide +kernel
theorem dX4_contrary_41 : decode cX4_contrary 41 = .ok (.iload_n 2, 1) := by decide +kernel
theorem dX4_contrary_42 : decode cX4_contrary 42 = .ok (.baload, 1) := by decide +kernel
theorem dX4_contrary_43 : decode cX4_contrary 43 = .ok (.ifCond .eq 7, 3) := by decide +kernel
theorem dX4_contrary_46 : decode cX4_contrary 46 = .ok (.iconst 2, 1) := by decide +kernel
